/-! ===== PURE 13: copies of a yard; coolest ===== -/
def zy_r (c : Nat) : Prop := c = 1 ∨ c = 2 ∨ c = 3 ∨ c = 4 ∨ c = 6 ∨ c = 7
theorem zc_ycopy (Y Yo : Ob) : ∃ Y', F_X6_copy Y Yo = some Y' ∧ Y' 0 0 = Yo 0 0 ∧ Y' 0 1 = Yo 0 1 ∧ (∀ c, zy_r c → ∀ j, j < 6 → Y' c j = Yo c j) ∧ (∀ j, j < 36 → Y' 5 j = Yo 5 j) := by
  have h5 := fun Q => zp_cpl0 (N := 36) (b := 0) (c := 5) (S := fun _ => Yo 5) (fun _ _ => rfl) (K := fun P => some P) (F := F_X6_copy_104 Yo)
    (fun f P => by rw [F_X6_copy_104_n]; unfold F_X6_copy_104_s; rw [if_pos (by decide)])
    (fun f P i hi => by rw [F_X6_copy_104_n]; unfold F_X6_copy_104_s; simp only [zp_let]; rw [if_neg (zp_g36 hi), zp_ck hi (by decide), zp_ck hi (by decide), nI_clamp (by omega), zp_1, Nat.zero_add]) Q (f := 1000) (by decide)
  have key : ∀ (k i : Nat), i + k = 6 → ∀ f, k < f → ∀ Y, Y 0 0 = Yo 0 0 → Y 0 1 = Yo 0 1 → (∀ c, zy_r c → ∀ j, j < i → Y c j = Yo c j) → ∃ Y', F_X6_copy_18 Yo f Y (nI i) = some Y' ∧ Y' 0 0 = Yo 0 0 ∧ Y' 0 1 = Yo 0 1 ∧ (∀ c, zy_r c → ∀ j, j < 6 → Y' c j = Yo c j) ∧ (∀ j, j < 36 → Y' 5 j = Yo 5 j) := by
    intro k
    induction k with
    | zero =>
      intro i hi f hf Y g0 g1 g2
      obtain ⟨f, rfl⟩ := zp_f1 hf
      have : i = 6 := by omega
      subst this
      rw [F_X6_copy_18_n]; unfold F_X6_copy_18_s F_X6_copy_102
      rw [if_pos (by decide), h5]
      refine ⟨_, rfl, by rw [zp_rn _ _ (by decide), g0], by rw [zp_rn _ _ (by decide), g1], ?_, ?_⟩
      · intro c hc j hj
        rw [zp_rn _ _ (by rcases hc with rfl | rfl | rfl | rfl | rfl | rfl <;> decide)]
        exact g2 c hc j hj
      · intro j hj
        rw [zp_rs]
        have := zp_fbi (b := 0) (f := Yo 5) (g := Y 5) hj
        rw [Nat.zero_add] at this
        exact this
    | succ k ih =>
      intro i hi f hf Y g0 g1 g2
      obtain ⟨f, rfl⟩ := zp_f1 hf
      rw [F_X6_copy_18_n]; unfold F_X6_copy_18_s
      have hk6 : ∀ {α : Type} (y : Option α), zs_ck (nI i) 6 y = y := fun y => zp_ck (by omega) (by decide)
      have hi' : (nI i).toNatClampNeg = i := nI_clamp (by omega)
      simp only [zp_let, hk6, hi', zp_1]
      rw [if_neg (zp_g6 (i := i) (by omega))]
      refine ih (i + 1) (by omega) f (by omega) _ ?_ ?_ ?_
      · simp [zp_uD, g0]
      · simp [zp_uD, g1]
      · intro c hc j hj
        by_cases e : j = i
        · subst e
          rcases hc with rfl | rfl | rfl | rfl | rfl | rfl <;> simp [zp_uD, zp_upR]
        · have := g2 c hc j (by omega)
          rcases hc with rfl | rfl | rfl | rfl | rfl | rfl <;> simp [zp_uD, zp_upR, e, this]
  unfold F_X6_copy
  simp only [zp_let]
  exact key 6 0 rfl 1000 (by omega) _ (by simp [zp_uD, zp_upR]) (by simp [zp_uD, zp_upR]) (fun c _ j hj => absurd hj (by omega))
theorem zc_empty (Y : Ob) : ∃ Y', F_X6_makeEmpty Y = some Y' ∧ Y' 0 0 = 0 ∧ Y' 0 1 = 99 ∧ (∀ c, zy_r c → ∀ j, j < 6 → Y' c j = 0) ∧ (∀ j, j < 36 → Y' 5 j = 0) := by
  have h5 := fun Q => zp_cpl0 (N := 36) (b := 0) (c := 5) (S := fun _ _ => 0) (fun _ _ => rfl) (K := fun P => some P) (F := F_X6_makeEmpty_69)
    (fun f P => by rw [F_X6_makeEmpty_69_n]; unfold F_X6_makeEmpty_69_s; rw [if_pos (by decide)])
    (fun f P i hi => by rw [F_X6_makeEmpty_69_n]; unfold F_X6_makeEmpty_69_s; simp only [zp_let]; rw [if_neg (zp_g36 hi), zp_ck hi (by decide), nI_clamp (by omega), zp_1, Nat.zero_add]) Q (f := 1000) (by decide)
  have key : ∀ (k i : Nat), i + k = 6 → ∀ f, k < f → ∀ Y, Y 0 0 = 0 → Y 0 1 = 99 → (∀ c, zy_r c → ∀ j, j < i → Y c j = 0) → ∃ Y', F_X6_makeEmpty_13 f Y (nI i) = some Y' ∧ Y' 0 0 = 0 ∧ Y' 0 1 = 99 ∧ (∀ c, zy_r c → ∀ j, j < 6 → Y' c j = 0) ∧ (∀ j, j < 36 → Y' 5 j = 0) := by
    intro k
    induction k with
    | zero =>
      intro i hi f hf Y g0 g1 g2
      obtain ⟨f, rfl⟩ := zp_f1 hf
      have : i = 6 := by omega
      subst this
      rw [F_X6_makeEmpty_13_n]; unfold F_X6_makeEmpty_13_s F_X6_makeEmpty_67
      rw [if_pos (by decide), h5]
      refine ⟨_, rfl, by rw [zp_rn _ _ (by decide), g0], by rw [zp_rn _ _ (by decide), g1], ?_, ?_⟩
      · intro c hc j hj
        rw [zp_rn _ _ (by rcases hc with rfl | rfl | rfl | rfl | rfl | rfl <;> decide)]
        exact g2 c hc j hj
      · intro j hj
        rw [zp_rs]
        have := zp_fbi (b := 0) (f := fun _ => (0 : Int32)) (g := Y 5) hj
        rw [Nat.zero_add] at this
        exact this
    | succ k ih =>
      intro i hi f hf Y g0 g1 g2
      obtain ⟨f, rfl⟩ := zp_f1 hf
      rw [F_X6_makeEmpty_13_n]; unfold F_X6_makeEmpty_13_s
      have hk6 : ∀ {α : Type} (y : Option α), zs_ck (nI i) 6 y = y := fun y => zp_ck (by omega) (by decide)
      have hi' : (nI i).toNatClampNeg = i := nI_clamp (by omega)
      simp only [zp_let, hk6, hi', zp_1]
      rw [if_neg (zp_g6 (i := i) (by omega))]
      refine ih (i + 1) (by omega) f (by omega) _ ?_ ?_ ?_
      · simp [zp_uD, g0]
      · simp [zp_uD, g1]
      · intro c hc j hj
        by_cases e : j = i
        · subst e
          rcases hc with rfl | rfl | rfl | rfl | rfl | rfl <;> simp [zp_uD, zp_upR]
        · have := g2 c hc j (by omega)
          rcases hc with rfl | rfl | rfl | rfl | rfl | rfl <;> simp [zp_uD, zp_upR, e, this]
  unfold F_X6_makeEmpty F_X6_setLimit
  simp only [zp_let, zp_bdS]
  exact key 6 0 rfl 1000 (by omega) _ (by simp [zp_uD, zp_upR]) (by simp [zp_uD, zp_upR]) (fun c _ j hj => absurd hj (by omega))
/-- a copy of a yard is a yard as good -/
theorem zy_copy {n : Nat} {q Yo Y' : Ob} (h : zy n q Yo) (h0 : Y' 0 0 = Yo 0 0) (hr : ∀ c, zy_r c → ∀ j, j < 6 → Y' c j = Yo c j) (h5 : ∀ j, j < 36 → Y' 5 j = Yo 5 j) : zy n q Y' := by
  obtain ⟨a1, a2, a3, a4, a5, a6, a7⟩ := h
  exact ⟨by rw [h0, a1], a2, fun j hj => by rw [hr 2 (Or.inr (Or.inl rfl)) j (by omega), a3 j hj], fun j hj => by rw [hr 3 (Or.inr (Or.inr (Or.inl rfl))) j (by omega), a4 j hj], fun j hj => by rw [hr 4 (Or.inr (Or.inr (Or.inr (Or.inl rfl)))) j (by omega), a5 j hj], fun j hj => by rw [h5 j hj, a6 j hj], fun j hj => by rw [hr 7 (Or.inr (Or.inr (Or.inr (Or.inr (Or.inr rfl))))) j (by omega), a7 j hj]⟩
/-! coolest -/
def zo_max (wm : Nat → Int32) : Nat → Int32
  | 0 => 0
  | i + 1 => if wm i ≤ zo_max wm i then zo_max wm i else wm i
theorem zo_maxA {f g : Nat → Int32} : ∀ {n : Nat}, zp_ag n f g → zo_max f n = zo_max g n := by
  intro n
  induction n with
  | zero => intro _; rfl
  | succ n ih => intro h; rw [zo_max, zo_max, ih (fun j hj => h j (by omega)), h n (by omega)]
theorem zc_max (P : Ob) {n : Nat} (h6 : n ≤ 6) : F_X1_warmthOfWarmest P (nI n) = some (zo_max (P 1) n) := by
  have key : ∀ (k i : Nat), i + k = n → ∀ f, k < f → F_X1_warmthOfWarmest_4 P f (nI n) (zo_max (P 1) i) (nI i) = some (zo_max (P 1) n) := by
    intro k
    induction k with
    | zero =>
      intro i hi f hf
      obtain ⟨f, rfl⟩ := zp_f1 hf
      have : i = n := by omega
      subst this
      rw [F_X1_warmthOfWarmest_4_n]; unfold F_X1_warmthOfWarmest_4_s
      rw [if_pos (nI_le (Nat.le_refl _) (by omega))]
    | succ k ih =>
      intro i hi f hf
      obtain ⟨f, rfl⟩ := zp_f1 hf
      have h1 := ih (i + 1) (by omega) f (by omega)
      rw [F_X1_warmthOfWarmest_4_n]; unfold F_X1_warmthOfWarmest_4_s; simp only [zp_let]
      rw [if_neg (nI_ge (by omega) (by omega)), if_neg (zp_g6 (i := i) (by omega)), zp_ck (by omega) (by decide), nI_clamp (by omega), zp_1]
      rw [zo_max] at h1
      by_cases q : P 1 i ≤ zo_max (P 1) i
      · rw [if_pos q] at h1
        rw [if_neg (Int32.not_lt.mpr q)]; exact h1
      · rw [if_neg q] at h1
        rw [if_pos (Int32.not_le.mp q)]; exact h1
  exact key n 0 (by omega) 1000 (by omega)
theorem zm_72 (M : Ob) {n : Nat} (hn : M 0 10 = nI n) (h6 : n ≤ 6) (r33 : Ob → Int32 → Int32 → Int32 → Int32 → Int32 → Option (Int32 × Ob)) (x1 x2 x3 x4 x5 : Int32) : F_X8_coolest_72 r33 1000 M x1 x2 x3 x4 x5 0 0 = F_X8_coolest_113 r33 M x1 x2 x3 x4 x5 (zo_max (M 12) n) := by
  have key : ∀ (k i : Nat), i + k = n → ∀ f, k < f → F_X8_coolest_72 r33 f M x1 x2 x3 x4 x5 (zo_max (M 12) i) (nI i) = F_X8_coolest_113 r33 M x1 x2 x3 x4 x5 (zo_max (M 12) n) := by
    intro k
    induction k with
    | zero =>
      intro i hi f hf
      obtain ⟨f, rfl⟩ := zp_f1 hf
      have : i = n := by omega
      subst this
      rw [F_X8_coolest_72_n]; unfold F_X8_coolest_72_s
      rw [hn, if_pos (nI_le (Nat.le_refl _) (by omega))]
    | succ k ih =>
      intro i hi f hf
      obtain ⟨f, rfl⟩ := zp_f1 hf
      have h1 := ih (i + 1) (by omega) f (by omega)
      have ck : ∀ (y : Option (Int32 × Ob)), zs_ck (nI i) 6 y = y := fun y => zp_ck (by omega) (by decide)
      rw [F_X8_coolest_72_n]; unfold F_X8_coolest_72_s F_X8_coolest_105; simp only [zp_let]
      rw [hn, if_neg (nI_ge (by omega) (by omega)), ck, ck, nI_clamp (by omega), zp_1]
      rw [zo_max] at h1
      by_cases q : M 12 i ≤ zo_max (M 12) i
      · rw [if_pos q] at h1 ⊢; exact h1
      · rw [if_neg q] at h1 ⊢; exact h1
  exact key n 0 (by omega) 1000 (by omega)
theorem zo_pw : ∀ n, n ≤ 6 → (1 : Int32) <<< (nI n &&& 31) = nI (2 ^ n) := by decide +kernel
theorem zp_n9 {i : Nat} (hi : i < 2 ^ 31) : ¬ nI i = -9 := fun q => by
  have h1 := nI_toInt (n := i) hi
  rw [q] at h1
  have : (-9 : Int32).toInt = -9 := rfl
  omega
theorem zo_coolest {Xm : Ob} {tr : Int64} {Tx Pr Sg Im0 Im1 Yt M : Ob} {mt : Int64} (h : zr Xm tr Tx Pr Sg Im0 Im1 Yt M mt) (Ah Tn : Ob) (x y : Int32) : ∃ r Tn' M', F_X7_coolest Pr Yt Ah Tn x y = some (r, Tn') ∧ F_X8_coolest M x y = some (r, M') ∧ zr Xm tr Tx Pr Sg Im0 Im1 Yt M' mt := by
  obtain ⟨n, a, b, c, d, e, f⟩ := id h
  obtain ⟨⟨a1, a2, a3, a4⟩, -⟩ := id a
  obtain ⟨⟨b1, b2, b3, b4, b5⟩, b6, -⟩ := id b
  obtain ⟨hy, hx⟩ := zQ_y a
  have h64 := zq_2n a3
  unfold F_X7_coolest F_X8_coolest
  rcases zq_rng x (N := 20) (by decide) with ⟨K, hK, rfl, e1, e2⟩ | ⟨e1, e2⟩
  · rw [show F_X7_isWithin (nI K) 20 = _ from e1, show F_X8_in (nI K).toInt64 0 20 = _ from e2, zp_bd, zp_bd, zp_i1, zp_i1]
    rcases zq_bit y with ⟨j, hj, rfl, e3, e4⟩ | ⟨e3, e4⟩
    · rw [e3, show (F_X8_in (nI j).toInt64 0 1) = _ from e4, zp_bd, zp_bd, zp_i1, zp_i1, a1]
      by_cases hn0 : n = 0
      · subst hn0
        rw [if_pos (show nI 0 = (0 : Int32) from rfl), F_X8_coolest_33_n 999]
        unfold F_X8_coolest_33_s F_X8_coolest_165
        rw [a2, if_neg (by decide), if_pos (by decide), if_pos rfl]
        exact ⟨_, _, _, rfl, rfl, h⟩
      · rw [if_neg (show ¬ nI n = 0 from fun q => hn0 ((nI_eq (a := n) (b := 0) (by omega) (by decide)).mp q))]
        have key : ∀ (k i : Nat), i + k = 2 ^ n → ∀ f f', k < f → k < f' → ∀ Tn M1 best least, zf M M1 → (i = 0 ∧ best = -9 ∨ ∃ s, s < 64 ∧ best = nI s) → ∃ r Tn' M', F_X7_coolest_40 Pr Yt Ah f Tn (nI K) (nI j) least best (nI i) = some (r, Tn') ∧ F_X8_coolest_33 f' M1 (nI K) (nI j) best least (nI i) = some (r, M') ∧ zf M M' := by
          intro k
          induction k with
          | zero =>
            intro i hi f f' hf hf' Tn M1 best least g1 g2
            obtain ⟨f, rfl⟩ := zp_f1 hf
            obtain ⟨f', rfl⟩ := zp_f1 hf'
            have hi2 : i = 2 ^ n := by omega
            have hpos : 0 < 2 ^ n := Nat.two_pow_pos n
            rw [F_X7_coolest_40_n, F_X8_coolest_33_n]; unfold F_X7_coolest_40_s F_X8_coolest_33_s F_X7_coolest_100 F_X8_coolest_165
            rw [a1, g1.1, a2, zo_pw n a3, ← hi2, if_pos (nI_le (Nat.le_refl _) (by omega)), if_pos (nI_le (Nat.le_refl _) (by omega))]
            rcases g2 with ⟨q, -⟩ | ⟨s, hs, rfl⟩
            · omega
            · rw [if_neg (zp_n9 (by omega))]
              by_cases q : nI j = 0
              · rw [if_pos q, if_pos q]; exact ⟨_, _, _, rfl, rfl, g1⟩
              · rw [if_neg q, if_neg q]; exact ⟨_, _, _, rfl, rfl, g1⟩
          | succ k ih =>
            intro i hi f f' hf hf' Tn M1 best least g1 g2
            obtain ⟨f, rfl⟩ := zp_f1 hf
            obtain ⟨f', rfl⟩ := zp_f1 hf'
            have hx1 := zf_x g1 hx
            rw [F_X7_coolest_40_n, F_X8_coolest_33_n]; unfold F_X7_coolest_40_s F_X8_coolest_33_s
            rw [a1, g1.1, a2, zo_pw n a3, if_neg (nI_ge (by omega) (by omega)), if_neg (nI_ge (by omega) (by omega)), if_neg (show ¬ nI n ≤ 0 from zp_nle0 (by omega) (by omega))]
            obtain ⟨T1, t0, t1, t2, t3, t4⟩ := zl_set Ah Tn Pr
            have z0 : zt n (zQ M) (nI i) (M 0 20) (M 0 18) 0 (zs_up T1 0 1 (nI i)) := by
              refine zl_t1 a3 b6 ?_ ?_ ?_ (fun j hj => ?_) rfl
              · simp [zp_uD, zp_upR, t1, b1]
              · simp [zp_uD, zp_upR]
              · simp [zp_uD, zp_upR, t3, b3]
              · simp [zp_uD, t4 j hj]
            obtain ⟨T2, u0, u1⟩ := zl_goOn Ah hy (show K < 1000 by omega) z0
            obtain ⟨M2, m0, m1, m2, -⟩ := zl_begins M1 hx1.1 a3
            have m1' : zp_ag n (M2 12) (zj n (zQ M) (nI i) (M 0 20) (M 0 18) 0) := fun j hj => by rw [m1 j hj, g1.2 9 (by decide) (by decide) (by decide) (by decide)]; rfl
            have hx2 := zf_x m2 hx1
            obtain ⟨M3, v0, v1, v2⟩ := zl_passes hx2 (sh := nI i) (mi := M 0 20) (h := M 0 18) (by rw [m2.1, g1.1]) (show K < 1000 by omega) m1'
            have g3 : zf M M3 := zf_t (zf_t g1 m2) v2
            unfold F_X0_warmestIfShut
            rw [t0, zp_bd]
            simp only [zp_let]
            rw [u0, zp_bd, a1, zc_max T2 a3, zp_bd, zp_b2, m0, zp_bd, m2.1, g1.1, v0, zp_bd, zm_72 M3 (zf_x v2 hx2).1 a3]
            rw [Nat.zero_add] at u1
            rw [zo_maxA (f := T2 1) (g := M3 12) (fun w hw => by rw [u1.2.2.2 w hw, v1 w hw])]
            have tk := ih (i + 1) (by omega) f f' (by omega) (by omega) T2 M3 (nI i) (zo_max (M3 12) n) g3 (Or.inr ⟨i, by omega, rfl⟩)
            have sk := fun (hb : i + 1 = 0 ∧ best = -9 ∨ ∃ s, s < 64 ∧ best = nI s) => ih (i + 1) (by omega) f f' (by omega) (by omega) T2 M3 best least g3 hb
            unfold F_X7_coolest_87 F_X7_coolest_94 F_X8_coolest_113 F_X8_coolest_126 F_X8_coolest_131 F_X8_coolest_144 F_X8_coolest_157
            simp only [zp_let, zp_i1, zp_i0]
            rw [zp_1]
            by_cases q : best = -9
            · rw [if_pos q, if_pos q]; exact tk
            · rw [if_neg q, if_neg q]
              by_cases q2 : least ≤ zo_max (M3 12) n
              · rw [if_pos q2, if_pos q2]
                refine sk ?_
                rcases g2 with ⟨-, q3⟩ | q3
                · exact absurd q3 q
                · exact Or.inr q3
              · rw [if_neg q2, if_neg q2]; exact tk
        obtain ⟨r, Tn', M', k1, k2, k3⟩ := key (2 ^ n) 0 (by omega) 1000 1000 (by omega) (by omega) Tn M (-9) 0 (zf_r M) (Or.inl ⟨rfl, rfl⟩)
        exact ⟨r, Tn', M', k1, k2, zf_zr h k3⟩
    · rw [e3, show (F_X8_in y.toInt64 0 1) = _ from e4, zp_bd, zp_bd, zp_i0, zp_i0]; exact ⟨_, _, _, rfl, rfl, h⟩
  · rw [show F_X7_isWithin x 20 = _ from e1, show F_X8_in x.toInt64 0 20 = _ from e2, zp_bd, zp_bd, zp_i0, zp_i0]; exact ⟨_, _, _, rfl, rfl, h⟩
