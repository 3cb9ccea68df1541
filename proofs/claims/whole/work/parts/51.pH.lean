/-! ===== PURE 8: loops that copy; changes, images ===== -/
/-- filled at a place onward -/
def zp_fb (b : Nat) (f g : Nat → Int32) (i : Nat) : Nat → Int32 := fun j => if b ≤ j ∧ j < b + i then f (j - b) else g j
theorem zp_fb0 (b : Nat) (f g : Nat → Int32) : zp_fb b f g 0 = g := by
  funext j; unfold zp_fb; rw [if_neg (by omega)]
theorem zp_fbs (b : Nat) (f g : Nat → Int32) (i : Nat) : upd (zp_fb b f g i) (b + i) (f i) = zp_fb b f g (i + 1) := by
  funext j
  by_cases h : j = b + i
  · subst h
    rw [zp_us]; unfold zp_fb; rw [if_pos (by omega), show b + i - b = i by omega]
  · rw [zp_un _ _ h]; unfold zp_fb
    by_cases h2 : b ≤ j ∧ j < b + i
    · rw [if_pos h2, if_pos (by omega)]
    · rw [if_neg h2, if_neg (by omega)]
theorem zp_fbi {b : Nat} {f g : Nat → Int32} {i j : Nat} (h : j < i) : zp_fb b f g i (b + j) = f j := by
  unfold zp_fb; rw [if_pos (by omega), show b + j - b = j by omega]
theorem zp_fbo {b : Nat} {f g : Nat → Int32} {i j : Nat} (h : j < b ∨ b + i ≤ j) : zp_fb b f g i j = g j := by
  unfold zp_fb; rw [if_neg (by omega)]
theorem zp_cpl {β : Type} {N b c : Nat} {S : Ob → Nat → Int32} (hS : ∀ P g, S (zp_row P c g) = S P) {K : Ob → Option β} {F : Nat → Ob → Int32 → Option β} (hz : ∀ f P, F (f + 1) P (nI N) = K P) (hs : ∀ f P i, i < N → F (f + 1) P (nI i) = F f (zs_up P c (b + i) (S P i)) (nI (i + 1))) (P : Ob) : ∀ (k i : Nat), i + k = N → ∀ f, k < f → F f (zp_row P c (zp_fb b (S P) (P c) i)) (nI i) = K (zp_row P c (zp_fb b (S P) (P c) N)) := by
  intro k
  induction k with
  | zero =>
    intro i hi f hf
    obtain ⟨f, rfl⟩ := zp_f1 hf
    have : i = N := by omega
    subst this
    exact hz f _
  | succ k ih =>
    intro i hi f hf
    obtain ⟨f, rfl⟩ := zp_f1 hf
    have h1 := ih (i + 1) (by omega) f (by omega)
    rw [hs f _ i (by omega), zp_ru, hS, zp_fbs]
    exact h1
theorem zp_cpl0 {β : Type} {N b c : Nat} {S : Ob → Nat → Int32} (hS : ∀ P g, S (zp_row P c g) = S P) {K : Ob → Option β} {F : Nat → Ob → Int32 → Option β} (hz : ∀ f P, F (f + 1) P (nI N) = K P) (hs : ∀ f P i, i < N → F (f + 1) P (nI i) = F f (zs_up P c (b + i) (S P i)) (nI (i + 1))) (P : Ob) {f : Nat} (hf : N < f) : F f P (0 : Int32) = K (zp_row P c (zp_fb b (S P) (P c) N)) := by
  have h := zp_cpl hS hz hs P N 0 (by omega) f hf
  rw [zp_fb0, zp_id] at h
  exact h
/-- a row moved by one -/
theorem zp_shl {β : Type} {c : Nat} {K : Ob → Option β} {F : Nat → Ob → Int32 → Option β} (hz : ∀ f P, F (f + 1) P (nI 10) = K P) (hs : ∀ f P i, i < 9 → F (f + 1) P (nI (i + 1)) = F f (zs_up P c i (P c (i + 1))) (nI (i + 2))) (P : Ob) : ∀ (k i : Nat), i + k = 9 → ∀ f, k < f → F f (zp_row P c (zp_fl (fun j => P c (j + 1)) (P c) i)) (nI (i + 1)) = K (zp_row P c (zp_fl (fun j => P c (j + 1)) (P c) 9)) := by
  intro k
  induction k with
  | zero =>
    intro i hi f hf
    obtain ⟨f, rfl⟩ := zp_f1 hf
    have : i = 9 := by omega
    subst this
    exact hz f _
  | succ k ih =>
    intro i hi f hf
    obtain ⟨f, rfl⟩ := zp_f1 hf
    have h1 := ih (i + 1) (by omega) f (by omega)
    rw [hs f _ i (by omega), zp_ru, zp_rs, zp_flo (show i ≤ i + 1 by omega)]
    rw [← zp_fls] at h1
    exact h1
/-! the class's Present: copies -/
theorem zc_copy (P Po : Ob) : ∃ P' : Ob, F_X1_copy P Po = some P' ∧ P' 0 0 = Po 0 0 ∧ P' 0 1 = Po 0 1 ∧ P' 0 2 = Po 0 2 ∧ P' 0 3 = Po 0 3 ∧ P' 0 4 = P 0 4 ∧ (∀ j, j < 6 → P' 1 j = Po 1 j) ∧ P' 3 = P 3 := by
  have h := fun Q => zp_cpl0 (N := 6) (b := 0) (c := 1) (S := fun _ => Po 1) (fun _ _ => rfl) (K := fun P => some P) (F := F_X1_copy_34 Po)
    (fun f P => by rw [F_X1_copy_34_n]; unfold F_X1_copy_34_s; rw [if_pos (by decide)])
    (fun f P i hi => by rw [F_X1_copy_34_n]; unfold F_X1_copy_34_s zs_let; rw [if_neg (zp_g6 (i := i) (by omega)), zp_ck (by omega) (by decide), zp_ck (by omega) (by decide), nI_clamp (by omega), zp_1, Nat.zero_add]) Q (f := 1000) (by decide)
  unfold F_X1_copy
  simp only [zp_let]
  rw [h]
  refine ⟨_, rfl, ?_, ?_, ?_, ?_, ?_, ?_, ?_⟩
  · simp[zp_rD, zp_uD, zp_upR]
  · simp[zp_rD, zp_uD, zp_upR]
  · simp[zp_rD, zp_uD, zp_upR]
  · simp[zp_rD, zp_uD, zp_upR]
  · simp[zp_rD, zp_uD, zp_upR]
  · intro j hj
    rw [zp_rs]
    have := zp_fbi (b := 0) (f := Po 1) (g := (zs_up (zs_up (zs_up (zs_up P 0 0 (Po 0 0)) 0 1 (Po 0 1)) 0 2 (Po 0 2)) 0 3 (Po 0 3)) 1) hj
    rw [Nat.zero_add] at this
    exact this
  · simp[zp_rD, zp_uD]
theorem zc_copyC (P Po : Ob) : ∃ P' : Ob, F_X1_copyWithChanges P Po = some P' ∧ (∀ k, k < 5 → P' 0 k = Po 0 k) ∧ (∀ j, j < 6 → P' 1 j = Po 1 j) ∧ (∀ j, j < 10 → P' 3 j = Po 3 j) := by
  obtain ⟨P1, a0, a1, a2, a3, a4, a5, a6, a7⟩ := zc_copy P Po
  have h := fun Q => zp_cpl0 (N := 10) (b := 0) (c := 3) (S := fun _ => Po 3) (fun _ _ => rfl) (K := fun P => some P) (F := F_X1_copyWithChanges_15 Po)
    (fun f P => by rw [F_X1_copyWithChanges_15_n]; unfold F_X1_copyWithChanges_15_s; rw [if_pos (by decide)])
    (fun f P i hi => by rw [F_X1_copyWithChanges_15_n]; unfold F_X1_copyWithChanges_15_s zs_let; rw [if_neg (zp_g10 (i := i) (by omega)), zp_ck (by omega) (by decide), zp_ck (by omega) (by decide), nI_clamp (by omega), zp_1, Nat.zero_add]) Q (f := 1000) (by decide)
  unfold F_X1_copyWithChanges
  rw [a0, zp_bd]
  simp only [zp_let]
  rw [h]
  refine ⟨_, rfl, ?_, ?_, ?_⟩
  · intro k hk
    rw [zp_rn _ _ (by decide)]
    by_cases e : k = 4
    · subst e; simp[zp_uD, zp_upR]
    · have e2 : (zs_up P1 0 4 (Po 0 4)) 0 k = P1 0 k := by simp[zp_uD, zp_upR, e]
      rw [e2]
      rcases (show k = 0 ∨ k = 1 ∨ k = 2 ∨ k = 3 by omega) with rfl | rfl | rfl | rfl
      · exact a1
      · exact a2
      · exact a3
      · exact a4
  · intro j hj
    rw [zp_rn _ _ (by decide)]
    have e2 : (zs_up P1 0 4 (Po 0 4)) 1 = P1 1 := by simp[zp_uD]
    rw [e2]; exact a6 j hj
  · intro j hj
    rw [zp_rs]
    have := zp_fbi (b := 0) (f := Po 3) (g := (zs_up P1 0 4 (Po 0 4)) 3) hj
    rw [Nat.zero_add] at this
    exact this
/-! a change is noted -/
theorem zo_up3 (P : Ob) {c : Nat} (hc : c ≠ 0) (f : Nat → Int32) (a b x : Int32) (s i : Nat) : zs_up (zs_up (zs_up (zp_row P c f) 0 s a) c i x) 0 s b = zs_up (zp_row P c (upd f i x)) 0 s b := by
  funext d
  by_cases h0 : d = 0
  · subst h0; simp [zs_up, zp_row, hc, Ne.symm hc, zp_uu]
  · by_cases h1 : d = c
    · subst h1; simp [zs_up, zp_row, hc]
    · simp [zs_up, zp_row, h0, h1]
theorem zo_up2 (P : Ob) {c : Nat} (x b : Int32) (s i : Nat) : zs_up (zs_up P c i x) 0 s b = zs_up (zp_row P c (upd (P c) i x)) 0 s b := by
  rw [zp_up P c]
theorem zo_note {P M : Ob} {n u : Nat} (hP : P 0 4 = nI u) (hM : M 0 24 = nI u) (hu : u ≤ 10) (hc : ∀ i, i < u → zr_chg n (P 3 i) (M 11 i)) {x e : Int32} (hx : zr_chg n x e) : ∃ (g1 g2 : Nat → Int32) (u' : Nat), u' ≤ 10 ∧ F_X1_change P x = zs_bd (F_X1_turn (zs_up (zp_row P 3 g1) 0 4 (nI u')) x) (fun p => some p) ∧ F_X8_notes M e = some (zs_up (zp_row M 11 g2) 0 24 (nI u')) ∧ ∀ i, i < u' → zr_chg n (g1 i) (g2 i) := by
  unfold F_X1_change F_X8_notes
  rw [hP, hM]
  by_cases h : u < 10
  · rw [if_pos (zp_l10 (i := u) h), if_neg (show ¬ nI u = (10 : Int32) from fun q => by have := (nI_eq (a := u) (b := 10) (by omega) (by decide)).mp q; omega)]
    unfold F_X1_change_43 F_X8_notes_43
    rw [hP, hM, zp_ck (by omega) (by decide), zp_ck (by omega) (by decide), nI_clamp (by omega)]
    simp only [zp_let]
    have e1 : (zs_up P 3 u x) 0 4 = nI u := by rw [← hP]; simp[zp_uD]
    have e2 : (zs_up M 11 u e) 0 24 = nI u := by rw [← hM]; simp[zp_uD]
    rw [e1, e2, zp_1, zo_up2, zo_up2]
    refine ⟨upd (P 3) u x, upd (M 11) u e, u + 1, by omega, rfl, rfl, ?_⟩
    intro i hi
    by_cases q : i = u
    · subst q; rw [zp_us, zp_us]; exact hx
    · rw [zp_un _ _ q, zp_un _ _ q]; exact hc i (by omega)
  · have hu10 : u = 10 := by omega
    subst hu10
    rw [if_neg (by decide), if_pos (show nI 10 = (10 : Int32) from rfl)]
    have h1 := zp_shl (c := 3) (K := fun P => F_X1_change_37 P x) (F := fun f P i => F_X1_change_11 f P x i)
      (fun f P => by show F_X1_change_11 (f + 1) P x (nI 10) = _; rw [F_X1_change_11_n]; unfold F_X1_change_11_s; rw [if_pos (by decide)])
      (fun f P i hi => by
        show F_X1_change_11 (f + 1) P x (nI (i + 1)) = F_X1_change_11 f _ x _
        rw [F_X1_change_11_n]; unfold F_X1_change_11_s; simp only [zp_let]
        rw [if_neg (zp_g10 (i := i + 1) (by omega)), show nI (i + 1) - (1 : Int32) = nI i from by rw [show (1 : Int32) = nI 1 from rfl, pk_sub (by omega), Nat.add_sub_cancel], zp_ck (by omega) (by decide), zp_ck (by omega) (by decide), nI_clamp (by omega), nI_clamp (by omega), zp_1]) P 9 0 (by omega) 1000 (by omega)
    have h2 := zp_shl (c := 11) (K := fun P => F_X8_notes_37 P e) (F := fun f P i => F_X8_notes_11 f P e i)
      (fun f P => by show F_X8_notes_11 (f + 1) P e (nI 10) = _; rw [F_X8_notes_11_n]; unfold F_X8_notes_11_s; rw [if_pos (by decide)])
      (fun f P i hi => by
        show F_X8_notes_11 (f + 1) P e (nI (i + 1)) = F_X8_notes_11 f _ e _
        rw [F_X8_notes_11_n]; unfold F_X8_notes_11_s; simp only [zp_let]
        rw [if_neg (zp_g10 (i := i + 1) (by omega)), show nI (i + 1) - (1 : Int32) = nI i from by rw [show (1 : Int32) = nI 1 from rfl, pk_sub (by omega), Nat.add_sub_cancel], zp_ck (by omega) (by decide), zp_ck (by omega) (by decide), nI_clamp (by omega), nI_clamp (by omega), zp_1]) M 9 0 (by omega) 1000 (by omega)
    rw [zp_fl0, zp_id] at h1 h2
    try dsimp only at h1
    try dsimp only at h2
    rw [show F_X1_change_11 1000 P x (1 : Int32) = _ from h1, show F_X8_notes_11 1000 M e (1 : Int32) = _ from h2]
    unfold F_X1_change_37 F_X8_notes_37 F_X1_change_43 F_X8_notes_43
    simp only [zp_let]
    have k1 : ∀ (Q : Ob) (y : Option Ob), zs_ck ((zs_up Q 0 4 (9 : Int32)) 0 4) 10 y = y := fun Q y => zp_ckl 9 (by simp[zp_uD, zp_upR]; rfl) (by decide) (by decide)
    have k2 : ∀ (Q : Ob) (y : Option Ob), zs_ck ((zs_up Q 0 24 (9 : Int32)) 0 24) 10 y = y := fun Q y => zp_ckl 9 (by simp[zp_uD, zp_upR]; rfl) (by decide) (by decide)
    rw [k1, k2]
    have w1 : ∀ Q : Ob, (zs_up Q 0 4 (9 : Int32)) 0 4 = (9 : Int32) := fun Q => by simp[zp_uD, zp_upR]
    have w2 : ∀ Q : Ob, (zs_up Q 0 24 (9 : Int32)) 0 24 = (9 : Int32) := fun Q => by simp[zp_uD, zp_upR]
    have w3 : ∀ (Q : Ob) i v, (zs_up (zs_up Q 0 4 (9 : Int32)) 3 i v) 0 4 = (9 : Int32) := fun Q i v => by simp[zp_uD, zp_upR]
    have w4 : ∀ (Q : Ob) i v, (zs_up (zs_up Q 0 24 (9 : Int32)) 11 i v) 0 24 = (9 : Int32) := fun Q i v => by simp[zp_uD, zp_upR]
    rw [w1, w2, w3, w4, show ((9 : Int32)).toNatClampNeg = 9 from rfl, show (9 : Int32) + 1 = nI 10 from rfl, zo_up3 _ (by decide), zo_up3 _ (by decide)]
    refine ⟨_, _, 10, by omega, rfl, rfl, ?_⟩
    intro i hi
    by_cases q : i = 9
    · subst q; rw [zp_us, zp_us]; exact hx
    · rw [zp_un _ _ q, zp_un _ _ q, zp_fli (by omega), zp_fli (by omega)]; exact hc _ (by omega)
theorem zo_shut {Xm : Ob} {tr : Int64} {Tx Pr Sg Im0 Im1 Yt M : Ob} {mt : Int64} (h : zr Xm tr Tx Pr Sg Im0 Im1 Yt M mt) (x y : Int32) : ∃ r Pr' M', F_X7_shut Pr Yt x y = some (r, Pr') ∧ F_X8_shut M x y = some (r, M') ∧ zr Xm tr Tx Pr' Sg Im0 Im1 Yt M' mt := by
  obtain ⟨n, a, b, c, d, e, f⟩ := id h
  obtain ⟨⟨a1, a2, a3, a4⟩, -⟩ := id a
  obtain ⟨⟨b1, b2, b3, b4, b5⟩, b6, ⟨sa, s1, s2⟩, ⟨ma, m1, m2⟩, ⟨u, u1, u2, u3⟩, b10⟩ := id b
  have h64 := zq_2n a3
  unfold F_X7_shut F_X8_shut
  rcases zq_wall a1 a2 a3 x with ⟨w, hw, rfl, e1, e2⟩ | ⟨e1, e2⟩
  · rw [e1, e2, zp_bd, zp_bd, zp_i1, zp_i1]
    rcases zq_bit y with ⟨j, hj, rfl, e3, e4⟩ | ⟨e3, e4⟩
    · rw [e3, show (F_X8_in (nI j).toInt64 0 1) = _ from e4, zp_bd, zp_bd, zp_i1, zp_i1, zc_bit, zp_bd, b2]
      by_cases q : zp_bt (M 0 19) w = nI j
      · rw [if_pos q, if_pos (show (M 0 19 >>> (nI w &&& 31)) &&& 1 = nI j from q)]
        exact ⟨_, _, _, rfl, rfl, h⟩
      · rw [if_neg q, if_neg (show ¬ (M 0 19 >>> (nI w &&& 31)) &&& 1 = nI j from q)]
        simp only [zp_let]
        have hx : zr_chg n (nI w) (nI w) := ⟨w, hw, Or.inl ⟨rfl, rfl⟩⟩
        obtain ⟨g1, g2, u', v1, v2, v3, v4⟩ := zo_note (P := Pr) (M := zs_up M 0 19 (M 0 19 ^^^ (1 : Int32) <<< (nI w &&& 31))) (n := n) (u := u) (by rw [b5, u1]) (by rw [← u1]; simp[zp_uD, zp_upR]) u2 (fun i hi => by have := u3 i hi; simpa[zp_uD] using this) hx
        rw [v2, v3]
        unfold F_X1_turn
        rw [if_neg (zp_g6 (i := w) (by omega))]
        simp only [zp_let, zp_bdS]
        have hX : M 0 19 ^^^ ((1 : Int32) <<< (nI w &&& 31)) = nI (sa ^^^ 2 ^ w) := by rw [s1]; exact zq_xor sa (by omega) w (by omega)
        have hXl := zq_xlt s2 hw
        have t1 : (zs_up (zp_row Pr 3 g1) 0 4 (nI u')) 0 1 = M 0 19 := by rw [← b2]; simp[zp_uD, zp_rD, zp_upR]
        rw [t1, hX]
        have t2 : (zs_up (zs_up (zp_row Pr 3 g1) 0 4 (nI u')) 0 1 (nI (sa ^^^ 2 ^ w))) 0 1 = nI (sa ^^^ 2 ^ w) := by simp[zp_uD, zp_upR]
        have t3 : (zs_up (zp_row (zs_up M 0 19 (nI (sa ^^^ 2 ^ w))) 11 g2) 0 24 (nI u')) 0 19 = nI (sa ^^^ 2 ^ w) := by simp[zp_uD, zp_rD, zp_upR]
        rw [t2, t3, zq_pcA _ (by omega), zq_pcB _ (by omega), zp_bd, zp_bd]
        refine ⟨_, _, _, rfl, rfl, n, ?_, ?_, ?_, ?_, ?_, f⟩
        · refine zr_Yc a ?_ ?_ ?_ ?_ ?_ ?_ ?_ <;> simp[zp_uD, zp_rD, zp_upR]
        · refine ⟨⟨?_, ?_, ?_, ?_, ?_⟩, ?_, ?_, ?_, ?_, ?_⟩
          · simp[zp_uD, zp_rD, zp_upR, b1]
          · simp[zp_uD, zp_rD, zp_upR]
          · simp[zp_uD, zp_rD, zp_upR, b3]
          · simp[zp_uD, zp_rD, zp_upR, b4]
          · simp[zp_uD, zp_rD, zp_upR]
          · simpa[zp_uD, zp_rD, zp_upR] using b6
          · exact ⟨sa ^^^ 2 ^ w, by simp[zp_uD, zp_rD, zp_upR], hXl⟩
          · exact ⟨ma, by simp[zp_uD, zp_rD, zp_upR, m1], m2⟩
          · exact ⟨u', by simp[zp_uD, zp_rD, zp_upR], v1, fun i hi => by simpa[zp_uD, zp_rD, zp_upR] using v4 i hi⟩
          · simpa[zp_uD, zp_rD, zp_upR] using b10
        · refine zr_Tc c ?_ ?_ <;> simp[zp_uD, zp_rD, zp_upR]
        · refine zr_Sc d ?_ ?_ ?_ ?_ <;> simp[zp_uD, zp_rD, zp_upR]
        · refine zr_Ic e ?_; simp[zp_uD, zp_rD]
    · rw [e3, show (F_X8_in y.toInt64 0 1) = _ from e4, zp_bd, zp_bd, zp_i0, zp_i0]; exact ⟨_, _, _, rfl, rfl, h⟩
  · rw [e1, e2, zp_bd, zp_bd, zp_i0, zp_i0]; exact ⟨_, _, _, rfl, rfl, h⟩
theorem zo_mirror {Xm : Ob} {tr : Int64} {Tx Pr Sg Im0 Im1 Yt M : Ob} {mt : Int64} (h : zr Xm tr Tx Pr Sg Im0 Im1 Yt M mt) (x y : Int32) : ∃ r Pr' M', F_X7_mirror Pr Yt x y = some (r, Pr') ∧ F_X8_mirror M x y = some (r, M') ∧ zr Xm tr Tx Pr' Sg Im0 Im1 Yt M' mt := by
  obtain ⟨n, a, b, c, d, e, f⟩ := id h
  obtain ⟨⟨a1, a2, a3, a4⟩, -⟩ := id a
  obtain ⟨⟨b1, b2, b3, b4, b5⟩, b6, ⟨sa, s1, s2⟩, ⟨ma, m1, m2⟩, ⟨u, u1, u2, u3⟩, b10⟩ := id b
  have h64 := zq_2n a3
  unfold F_X7_mirror F_X8_mirror
  rcases zq_wall a1 a2 a3 x with ⟨w, hw, rfl, e1, e2⟩ | ⟨e1, e2⟩
  · rw [e1, e2, zp_bd, zp_bd, zp_i1, zp_i1]
    rcases zq_bit y with ⟨j, hj, rfl, e3, e4⟩ | ⟨e3, e4⟩
    · rw [e3, show (F_X8_in (nI j).toInt64 0 1) = _ from e4, zp_bd, zp_bd, zp_i1, zp_i1, zc_bit, zp_bd, b3]
      by_cases q : zp_bt (M 0 20) w = nI j
      · rw [if_pos q, if_pos (show (M 0 20 >>> (nI w &&& 31)) &&& 1 = nI j from q)]
        exact ⟨_, _, _, rfl, rfl, h⟩
      · rw [if_neg q, if_neg (show ¬ (M 0 20 >>> (nI w &&& 31)) &&& 1 = nI j from q)]
        simp only [zp_let]
        rw [show (6 : Int32) + nI w = nI (6 + w) from nI_add 6 w, show (8 : Int32) + nI w = nI (8 + w) from nI_add 8 w]
        have hx : zr_chg n (nI (6 + w)) (nI (8 + w)) := ⟨w, hw, Or.inr ⟨rfl, rfl⟩⟩
        obtain ⟨g1, g2, u', v1, v2, v3, v4⟩ := zo_note (P := Pr) (M := zs_up M 0 20 (M 0 20 ^^^ (1 : Int32) <<< (nI w &&& 31))) (n := n) (u := u) (by rw [b5, u1]) (by rw [← u1]; simp[zp_uD, zp_upR]) u2 (fun i hi => by have := u3 i hi; simpa[zp_uD] using this) hx
        rw [v2, v3]
        unfold F_X1_turn
        rw [if_pos (zp_ge6 (i := 6 + w) (by omega) (by omega)), (zq_w6 w (by omega)).1]
        simp only [zp_let, zp_bdS]
        have hX : M 0 20 ^^^ ((1 : Int32) <<< (nI w &&& 31)) = nI (ma ^^^ 2 ^ w) := by rw [m1]; exact zq_xor ma (by omega) w (by omega)
        have hXl := zq_xlt m2 hw
        have t1 : (zs_up (zp_row Pr 3 g1) 0 4 (nI u')) 0 2 = M 0 20 := by rw [← b3]; simp[zp_uD, zp_rD, zp_upR]
        rw [t1, hX]
        have t2 : (zs_up (zs_up (zp_row Pr 3 g1) 0 4 (nI u')) 0 2 (nI (ma ^^^ 2 ^ w))) 0 2 = nI (ma ^^^ 2 ^ w) := by simp[zp_uD, zp_upR]
        have t3 : (zs_up (zp_row (zs_up M 0 20 (nI (ma ^^^ 2 ^ w))) 11 g2) 0 24 (nI u')) 0 20 = nI (ma ^^^ 2 ^ w) := by simp[zp_uD, zp_rD, zp_upR]
        rw [t2, t3, zq_pcA _ (by omega), zq_pcB _ (by omega), zp_bd, zp_bd]
        refine ⟨_, _, _, rfl, rfl, n, ?_, ?_, ?_, ?_, ?_, f⟩
        · refine zr_Yc a ?_ ?_ ?_ ?_ ?_ ?_ ?_ <;> simp[zp_uD, zp_rD, zp_upR]
        · refine ⟨⟨?_, ?_, ?_, ?_, ?_⟩, ?_, ?_, ?_, ?_, ?_⟩
          · simp[zp_uD, zp_rD, zp_upR, b1]
          · simp[zp_uD, zp_rD, zp_upR, b2]
          · simp[zp_uD, zp_rD, zp_upR]
          · simp[zp_uD, zp_rD, zp_upR, b4]
          · simp[zp_uD, zp_rD, zp_upR]
          · simpa[zp_uD, zp_rD, zp_upR] using b6
          · exact ⟨sa, by simp[zp_uD, zp_rD, zp_upR, s1], s2⟩
          · exact ⟨ma ^^^ 2 ^ w, by simp[zp_uD, zp_rD, zp_upR], hXl⟩
          · exact ⟨u', by simp[zp_uD, zp_rD, zp_upR], v1, fun i hi => by simpa[zp_uD, zp_rD, zp_upR] using v4 i hi⟩
          · simpa[zp_uD, zp_rD, zp_upR] using b10
        · refine zr_Tc c ?_ ?_ <;> simp[zp_uD, zp_rD, zp_upR]
        · refine zr_Sc d ?_ ?_ ?_ ?_ <;> simp[zp_uD, zp_rD, zp_upR]
        · refine zr_Ic e ?_; simp[zp_uD, zp_rD]
    · rw [e3, show (F_X8_in y.toInt64 0 1) = _ from e4, zp_bd, zp_bd, zp_i0, zp_i0]; exact ⟨_, _, _, rfl, rfl, h⟩
  · rw [e1, e2, zp_bd, zp_bd, zp_i0, zp_i0]; exact ⟨_, _, _, rfl, rfl, h⟩
theorem zo_undo {Xm : Ob} {tr : Int64} {Tx Pr Sg Im0 Im1 Yt M : Ob} {mt : Int64} (h : zr Xm tr Tx Pr Sg Im0 Im1 Yt M mt) : ∃ r Pr' M', F_X7_undo Pr = some (r, Pr') ∧ F_X8_undo M = some (r, M') ∧ zr Xm tr Tx Pr' Sg Im0 Im1 Yt M' mt := by
  obtain ⟨n, a, b, c, d, e, f⟩ := id h
  obtain ⟨⟨a1, a2, a3, a4⟩, -⟩ := id a
  obtain ⟨⟨b1, b2, b3, b4, b5⟩, b6, ⟨sa, s1, s2⟩, ⟨ma, m1, m2⟩, ⟨u, u1, u2, u3⟩, b10⟩ := id b
  have h64 := zq_2n a3
  unfold F_X7_undo F_X8_undo
  rw [b5, u1]
  by_cases hu : u = 0
  · subst hu
    rw [if_neg (by decide), if_pos (show nI 0 = (0 : Int32) from rfl)]
    exact ⟨_, _, _, rfl, rfl, h⟩
  · obtain ⟨v, rfl⟩ : ∃ v, u = v + 1 := ⟨u - 1, by omega⟩
    rw [if_pos (zp_pos (i := v + 1) (by omega) (by omega)), if_neg (show ¬ nI (v + 1) = 0 from fun q => by have := (nI_eq (a := v + 1) (b := 0) (by omega) (by decide)).mp q; omega)]
    unfold F_X1_changeBack
    have hv : nI (v + 1) - (1 : Int32) = nI v := by rw [show (1 : Int32) = nI 1 from rfl, pk_sub (by omega), Nat.add_sub_cancel]
    rw [b5, u1, if_neg (zp_nle0 (i := v + 1) (by omega) (by omega)), hv]
    simp only [zp_let]
    have t1 : (zs_up Pr 0 4 (nI v)) 0 4 = nI v := by simp[zp_uD, zp_upR]
    have t2 : (zs_up M 0 24 (nI v)) 0 24 = nI v := by simp[zp_uD, zp_upR]
    have t3 : (zs_up Pr 0 4 (nI v)) 3 = Pr 3 := by simp[zp_uD]
    have t4 : (zs_up M 0 24 (nI v)) 11 = M 11 := by simp[zp_uD]
    rw [t1, t2, t3, t4, zp_ck (by omega) (by decide), zp_ck (by omega) (by decide), nI_clamp (by omega)]
    obtain ⟨w, hw, hcs⟩ := u3 v (by omega)
    have hXa : (nI sa) ^^^ ((1 : Int32) <<< (nI w &&& 31)) = nI (sa ^^^ 2 ^ w) := zq_xor sa (by omega) w (by omega)
    have hXb : (nI ma) ^^^ ((1 : Int32) <<< (nI w &&& 31)) = nI (ma ^^^ 2 ^ w) := zq_xor ma (by omega) w (by omega)
    have hz : ∀ z : Int32, z ^^^ 0 = z := fun z => by simp
    have p1 : (zs_up Pr 0 4 (nI v)) 0 1 = nI sa := by rw [← s1, ← b2]; simp[zp_uD, zp_upR]
    have p2 : (zs_up Pr 0 4 (nI v)) 0 2 = nI ma := by rw [← m1, ← b3]; simp[zp_uD, zp_upR]
    have q1 : (zs_up M 0 24 (nI v)) 0 19 = nI sa := by rw [← s1]; simp[zp_uD, zp_upR]
    have fin : ∀ (Pr' M' : Ob) (sa' ma' : Nat), sa' < 2 ^ n → ma' < 2 ^ n → Pr' = zs_up (zs_up (zs_up Pr 0 4 (nI v)) 0 1 (nI sa')) 0 2 (nI ma') → M' = zs_up (zs_up (zs_up M 0 24 (nI v)) 0 19 (nI sa')) 0 20 (nI ma') → zr Xm tr Tx Pr' Sg Im0 Im1 Yt M' mt := by
      intro Pr' M' sa' ma' l1 l2 r1 r2
      subst r1; subst r2
      refine ⟨n, ?_, ?_, ?_, ?_, ?_, f⟩
      · refine zr_Yc a ?_ ?_ ?_ ?_ ?_ ?_ ?_ <;> simp[zp_uD, zp_upR]
      · refine ⟨⟨?_, ?_, ?_, ?_, ?_⟩, ?_, ?_, ?_, ?_, ?_⟩
        · simp[zp_uD, zp_upR, b1]
        · simp[zp_uD, zp_upR]
        · simp[zp_uD, zp_upR]
        · simp[zp_uD, zp_upR, b4]
        · simp[zp_uD, zp_upR]
        · simpa[zp_uD, zp_upR] using b6
        · exact ⟨sa', by simp[zp_uD, zp_upR], l1⟩
        · exact ⟨ma', by simp[zp_uD, zp_upR], l2⟩
        · exact ⟨v, by simp[zp_uD, zp_upR], by omega, fun i hi => by have := u3 i (by omega); simpa[zp_uD, zp_upR] using this⟩
        · simpa[zp_uD, zp_upR] using b10
      · refine zr_Tc c ?_ ?_ <;> simp[zp_uD, zp_upR]
      · refine zr_Sc d ?_ ?_ ?_ ?_ <;> simp[zp_uD, zp_upR]
      · refine zr_Ic e ?_; simp[zp_uD]
    have same : ∀ (Q : Ob) (i : Nat) (z : Int32), Q 0 i = z → zs_up Q 0 i z = Q := by
      intro Q i z hq; subst hq; rw [zp_up, zp_ui, zp_id]
    rcases hcs with ⟨c1, c2⟩ | ⟨c1, c2⟩
    · rw [c1, c2]
      unfold F_X1_turn F_X8_undo_48 F_X8_undo_73
      simp only [zp_let, zp_bdS, if_neg (zp_g6 (i := w) (by omega)), if_neg (zp_g8 (i := w) (by omega))]
      rw [p1, q1, hXa, hz]
      refine ⟨nI v, zs_up (zs_up Pr 0 4 (nI v)) 0 1 (nI (sa ^^^ 2 ^ w)), zs_up (zs_up (zs_up M 0 24 (nI v)) 0 19 (nI (sa ^^^ 2 ^ w))) 0 20 (nI ma), ?_, ?_, fin _ _ (sa ^^^ 2 ^ w) ma (zq_xlt s2 hw) m2 ?_ rfl⟩
      · rw [show (zs_up (zs_up Pr 0 4 (nI v)) 0 1 (nI (sa ^^^ 2 ^ w))) 0 4 = nI v by simp [zp_uD, zp_upR]]
      · have q2 : (zs_up (zs_up M 0 24 (nI v)) 0 19 (nI (sa ^^^ 2 ^ w))) 0 20 = nI ma := by rw [← m1]; simp [zp_uD, zp_upR]
        rw [q2, show (zs_up (zs_up (zs_up M 0 24 (nI v)) 0 19 (nI (sa ^^^ 2 ^ w))) 0 20 (nI ma)) 0 24 = nI v by simp [zp_uD, zp_upR]]
      · exact (same _ 2 (nI ma) (by rw [← m1, ← b3]; simp [zp_uD, zp_upR])).symm
    · rw [c1, c2]
      unfold F_X1_turn F_X8_undo_48 F_X8_undo_73
      simp only [zp_let, zp_bdS, if_pos (zp_ge6 (i := 6 + w) (by omega) (by omega)), if_pos (zp_ge8 (i := 8 + w) (by omega) (by omega)), (zq_w6 w (by omega)).1, (zq_w6 w (by omega)).2]
      rw [p2, q1, hXb, hz]
      refine ⟨nI v, zs_up (zs_up Pr 0 4 (nI v)) 0 2 (nI (ma ^^^ 2 ^ w)), zs_up (zs_up (zs_up M 0 24 (nI v)) 0 19 (nI sa)) 0 20 (nI (ma ^^^ 2 ^ w)), ?_, ?_, fin _ _ sa (ma ^^^ 2 ^ w) s2 (zq_xlt m2 hw) ?_ rfl⟩
      · rw [show (zs_up (zs_up Pr 0 4 (nI v)) 0 2 (nI (ma ^^^ 2 ^ w))) 0 4 = nI v by simp [zp_uD, zp_upR]]
      · have q2 : (zs_up (zs_up M 0 24 (nI v)) 0 19 (nI sa)) 0 20 = nI ma := by rw [← m1]; simp [zp_uD, zp_upR]
        rw [q2, hXb, show (zs_up (zs_up (zs_up M 0 24 (nI v)) 0 19 (nI sa)) 0 20 (nI (ma ^^^ 2 ^ w))) 0 24 = nI v by simp [zp_uD, zp_upR]]
      · rw [same _ 1 (nI sa) p1]
