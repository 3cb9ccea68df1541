/-! ===== PURE 18: harm, rest ===== -/
theorem zo_1_50 (x : Int32) : (∃ f, 1 ≤ f ∧ f ≤ 50 ∧ x = nI f ∧ ¬ x < 1 ∧ x ≤ 50 ∧ F_X8_in x.toInt64 1 50 = some 1) ∨ ((x < 1 ∨ ¬ x ≤ 50) ∧ F_X8_in x.toInt64 1 50 = some 0) := by
  have hin : F_X8_in x.toInt64 1 50 = some (if (1 : Int32) ≤ x ∧ x ≤ 50 then 1 else 0) := zq_in x 1 50
  rw [hin]
  by_cases h1 : x < 1
  · refine Or.inr ⟨Or.inl h1, ?_⟩
    rw [if_neg]
    rintro ⟨q, -⟩
    rw [Int32.lt_iff_toInt_lt] at h1; rw [Int32.le_iff_toInt_le] at q; omega
  · by_cases h2 : x ≤ 50
    · have h1' : (1 : Int32) ≤ x := by rw [Int32.lt_iff_toInt_lt] at h1; rw [Int32.le_iff_toInt_le]; omega
      obtain ⟨k, hk, rfl⟩ := zq_nIle x (n := 50) (by decide) (by rw [Int32.le_iff_toInt_le] at h1' ⊢; have : (1 : Int32).toInt = 1 := rfl; have : (0 : Int32).toInt = 0 := rfl; omega) h2
      refine Or.inl ⟨k, ?_, hk, rfl, h1, h2, by rw [if_pos ⟨h1', h2⟩]⟩
      have := (nI_leI (a := 1) (b := k) (by decide) (by omega)).mp h1'
      omega
    · refine Or.inr ⟨Or.inr h2, ?_⟩
      rw [if_neg]
      exact fun q => h2 q.2
theorem zo_least2 {n : Nat} {Pr Yt M : Ob} (hY : zr_Y n Yt M) (hN : zr_N n Pr M) (Ah Tn Yi : Ob) {x : Nat} (hx50 : x ≤ 50) : ∃ r Tn' Yi' M', F_X7_leastHarmed Pr Yt Ah Tn Yi (nI x) = some (r, (Tn', Yi')) ∧ F_X8_harm_55 1000 M (nI x) (-9) 0 0 = some (r, M') ∧ zf M M' := by
  obtain ⟨⟨a1, a2, a3, a4⟩, -, vv, rr, kk, p, p1, p2, p3, p4, p5, p6, -⟩ := id hY
  obtain ⟨hy, hx⟩ := zQ_y hY
  obtain ⟨-, -, -, -, -, hh, v0, g1, g2, g3, g4⟩ := id hN
  have hp10 : ∀ i, i < n → zp_sm (p i) n ≤ 10 := fun i hi => Nat.le_trans (zp_smm (p i) a3) (p5 i (by omega))
  have hpp : ∀ i o, i < n → o < n → M 8 (6 * i + o) = nI (p i o) := fun i o hi ho => p4 i o (by omega) (by omega)
  have hS : ∀ w, w < n → ∃ A, A < 2 ^ 20 ∧ zo_sum (zj n (zb_h M w (nI x)) (M 0 19) (M 0 20) (M 0 18) 8) n = nI A := by
    intro w hw
    obtain ⟨v, v1, v2⟩ := zj_N a3 (q := zb_h M w (nI x)) (ff := fun j => if j = w then x else 0) (M 0 19) (M 0 20) (M 0 18) hpp hp10 p2 p3 (fun j hj => by
      unfold zb_h
      rw [zp_rs]
      by_cases e : j = w
      · subst e; rw [zp_us, if_pos rfl]
      · rw [zp_un _ _ e, if_neg e]; rfl) (by
      have := zp_smu (f := fun _ => 0) (i := w) (x := x) hw
      rw [zp_smk] at this
      omega) ⟨v0, g3, by omega⟩ 8 (by omega)
    exact ⟨zp_sm v n, by omega, zo_sumN v1⟩
  obtain ⟨B, hB, hBs⟩ : ∃ B, B < 2 ^ 20 ∧ zo_sum (zj n (zQ M) (M 0 19) (M 0 20) (M 0 18) 8) n = nI B := by
    obtain ⟨v, v1, v2⟩ := zj_N a3 (q := zQ M) (ff := fun _ => 0) (M 0 19) (M 0 20) (M 0 18) hpp hp10 p2 p3 (fun j hj => rfl) (by rw [zp_smk]; omega) ⟨v0, g3, by omega⟩ 8 (by omega)
    exact ⟨zp_sm v n, by omega, zo_sumN v1⟩
  have cmp : ∀ A C, A < 2 ^ 20 → C < 2 ^ 20 → (nI A - nI B ≤ nI C - nI B ↔ nI A ≤ nI C) := by
    intro A C hA hC
    rw [Int32.le_iff_toInt_le, pk_sub_toInt (a := A) (b := B) (by omega) (by omega), pk_sub_toInt (a := C) (b := B) (by omega) (by omega), nI_leI (by omega) (by omega)]
    omega
  have key : ∀ (k i : Nat), i + k = n → ∀ f f', k < f → k < f' → ∀ Tn Yi M1 wh lc lm, zf M M1 → (wh = -9 ∨ ∃ A, A < 2 ^ 20 ∧ lm = nI A ∧ lc = nI A - nI B) → ∃ r Tn' Yi' M', F_X7_leastHarmed_8 Pr Yt Ah f Tn Yi (nI x) lc wh (nI i) = some (r, (Tn', Yi')) ∧ F_X8_harm_55 f' M1 (nI x) wh lm (nI i) = some (r, M') ∧ zf M M' := by
    intro k
    induction k with
    | zero =>
      intro i hi f f' hf hf' Tn Yi M1 wh lc lm z1 z2
      obtain ⟨f, rfl⟩ := zp_f1 hf
      obtain ⟨f', rfl⟩ := zp_f1 hf'
      have : i = n := by omega
      subst this
      rw [F_X7_leastHarmed_8_n, F_X8_harm_55_n]; unfold F_X7_leastHarmed_8_s F_X8_harm_55_s
      rw [a1, z1.1, a2, if_pos (nI_le (Nat.le_refl _) (by omega)), if_pos (nI_le (Nat.le_refl _) (by omega))]
      exact ⟨_, _, _, _, rfl, rfl, z1⟩
    | succ k ih =>
      intro i hi f f' hf hf' Tn Yi M1 wh lc lm z1 z2
      obtain ⟨f, rfl⟩ := zp_f1 hf
      obtain ⟨f', rfl⟩ := zp_f1 hf'
      obtain ⟨A, hA, hAs⟩ := hS i (by omega)
      obtain ⟨T1, Y1, t1⟩ := zc_harm hY hN Ah Tn Yi (w := i) (by omega) (nI x)
      obtain ⟨M2, m1, m2⟩ := zm_sumW hx z1 (w := i) (by omega) (nI x)
      rw [F_X7_leastHarmed_8_n, F_X8_harm_55_n]; unfold F_X7_leastHarmed_8_s F_X8_harm_55_s
      rw [a1, z1.1, a2, if_neg (nI_ge (by omega) (by omega)), if_neg (nI_ge (by omega) (by omega)), t1, m1, zp_b3, zp_b2, hAs, hBs]
      unfold F_X7_leastHarmed_41 F_X7_leastHarmed_47 F_X8_harm_86 F_X8_harm_91 F_X8_harm_104 F_X8_harm_117
      simp only [zp_let, zp_i1, zp_i0]
      rw [zp_1]
      have tk := ih (i + 1) (by omega) f f' (by omega) (by omega) T1 Y1 M2 (nI i) (nI A - nI B) (nI A) m2 (Or.inr ⟨A, hA, rfl, rfl⟩)
      have sk := fun hz => ih (i + 1) (by omega) f f' (by omega) (by omega) T1 Y1 M2 wh lc lm m2 hz
      by_cases q : wh = -9
      · rw [if_pos q, if_pos q]; exact tk
      · rw [if_neg q, if_neg q]
        rcases z2 with q2 | ⟨C, hC, rfl, rfl⟩
        · exact absurd q2 q
        · by_cases q3 : nI C ≤ nI A
          · rw [if_pos q3, if_pos ((cmp C A hC hA).mpr q3)]
            exact sk (Or.inr ⟨C, hC, rfl, rfl⟩)
          · rw [if_neg q3, if_neg (fun q4 => q3 ((cmp C A hC hA).mp q4))]; exact tk
  exact key n 0 (by omega) 1000 1000 (by omega) (by omega) Tn Yi M (-9) 0 0 (zf_r M) (Or.inl rfl)
theorem zo_harm {Xm : Ob} {tr : Int64} {Tx Pr Sg Im0 Im1 Yt M : Ob} {mt : Int64} (h : zr Xm tr Tx Pr Sg Im0 Im1 Yt M mt) (Ah Tn Yi : Ob) (x y : Int32) : ∃ r Tn' Yi' M', F_X7_harm Pr Yt Ah Tn Yi x y = some (r, (Tn', Yi')) ∧ F_X8_harm M x y = some (r, M') ∧ zr Xm tr Tx Pr Sg Im0 Im1 Yt M' mt := by
  obtain ⟨n, a, b, c, d, e, f⟩ := id h
  obtain ⟨⟨a1, a2, a3, a4⟩, -⟩ := id a
  obtain ⟨hy, hx⟩ := zQ_y a
  have main : x = -1 ∨ (∃ w, w < n ∧ x = nI w) → ∃ r Tn' Yi' M', F_X7_harm_13 Pr Yt Ah Tn Yi x y = some (r, (Tn', Yi')) ∧ F_X8_harm_13 M x y = some (r, M') ∧ zr Xm tr Tx Pr Sg Im0 Im1 Yt M' mt := by
    intro hxx
    unfold F_X7_harm_13 F_X8_harm_13 F_X7_harm_24 F_X8_harm_25
    rcases zo_1_50 y with ⟨ff, f1, f2, rfl, f3, f4, f5⟩ | ⟨f1, f2⟩
    · rw [if_neg f3, if_pos f4, f5, zp_bd, zp_i1]
      rcases hxx with rfl | ⟨w, hw, rfl⟩
      · rw [if_pos rfl, if_pos (by decide)]
        obtain ⟨r, Tn', Yi', M', k1, k2, k3⟩ := zo_least2 a b Ah Tn Yi f2
        rw [k1, zp_b3]
        exact ⟨r, Tn', Yi', M', rfl, k2, zf_zr h k3⟩
      · have hne : ¬ nI w = -1 := fun q => by
          have h1 := nI_toInt (n := w) (by omega)
          rw [q] at h1
          have : (-1 : Int32).toInt = -1 := rfl
          omega
        rw [if_neg hne, if_neg (zp_nneg (by omega))]
        obtain ⟨T1, Y1, t1⟩ := zc_harm a b Ah Tn Yi hw (nI ff)
        obtain ⟨M1, m1, m2⟩ := zm_sumW hx (zf_r M) hw (nI ff)
        obtain ⟨M2, n1, n2⟩ := zm_sumN hx m2 0
        rw [t1, zp_b3, m1, zp_b2, n1, zp_b2]
        exact ⟨_, _, _, _, rfl, rfl, zf_zr h n2⟩
    · rw [f2, zp_bd, zp_i0]
      rcases f1 with q | q
      · rw [if_pos q]; exact ⟨_, _, _, _, rfl, rfl, h⟩
      · by_cases q1 : y < 1
        · rw [if_pos q1]; exact ⟨_, _, _, _, rfl, rfl, h⟩
        · rw [if_neg q1, if_neg q]; exact ⟨_, _, _, _, rfl, rfl, h⟩
  unfold F_X7_harm F_X8_harm
  by_cases q : x = -1
  · rw [if_pos q, if_pos q]; exact main (Or.inl q)
  · rw [if_neg q, if_neg q]
    rcases zq_wall a1 a2 a3 x with ⟨w, hw, hw2, e3, e4⟩ | ⟨e3, e4⟩
    · rw [e3, e4, zp_bd, zp_bd, zp_i1, zp_i1]; exact main (Or.inr ⟨w, hw, hw2⟩)
    · rw [e3, e4, zp_bd, zp_bd, zp_i0, zp_i0]; exact ⟨_, _, _, _, rfl, rfl, h⟩
/-! rest -/
def zb_R (n : Nat) (q : Ob) (sh mi h : Int32) (p : Nat) : Prop := zp_ag n (zj n q sh mi h p) (zj n q sh mi h (p + 8))
theorem zc_asRow (Ah Tn : Ob) {n b : Nat} (h6 : n ≤ 6) (hb : b + 6 ≤ 48) : ∃ r, F_X0_isAsInRow Ah Tn (nI b) (nI n) = some r ∧ ((r = 1 ∧ ∀ w, w < n → Ah 1 (b + w) = Tn 1 w) ∨ (r = 0 ∧ ¬ ∀ w, w < n → Ah 1 (b + w) = Tn 1 w)) := by
  have key : ∀ (k i : Nat), i + k = n → ∀ f, k < f → (∀ w, w < i → Ah 1 (b + w) = Tn 1 w) → ∃ r, F_X0_isAsInRow_2 Ah Tn f (nI b) (nI n) (nI i) = some r ∧ ((r = 1 ∧ ∀ w, w < n → Ah 1 (b + w) = Tn 1 w) ∨ (r = 0 ∧ ¬ ∀ w, w < n → Ah 1 (b + w) = Tn 1 w)) := by
    intro k
    induction k with
    | zero =>
      intro i hi f hf hw
      obtain ⟨f, rfl⟩ := zp_f1 hf
      have : i = n := by omega
      subst this
      rw [F_X0_isAsInRow_2_n]; unfold F_X0_isAsInRow_2_s
      rw [if_pos (nI_le (Nat.le_refl _) (by omega))]
      exact ⟨_, rfl, Or.inl ⟨rfl, hw⟩⟩
    | succ k ih =>
      intro i hi f hf hw
      obtain ⟨f, rfl⟩ := zp_f1 hf
      rw [F_X0_isAsInRow_2_n]; unfold F_X0_isAsInRow_2_s
      simp only [zp_let]
      rw [if_neg (nI_ge (by omega) (by omega)), nI_add, zp_ck (by omega) (by decide), zp_ck (by omega) (by decide), nI_clamp (by omega), nI_clamp (by omega), zp_1]
      by_cases q : Ah 1 (b + i) = Tn 1 i
      · rw [if_pos q]
        refine ih (i + 1) (by omega) f (by omega) (fun w hw' => ?_)
        rcases (show w = i ∨ w < i by omega) with e | e
        · rw [e]; exact q
        · exact hw w e
      · rw [if_neg q]
        exact ⟨_, rfl, Or.inr ⟨rfl, fun hall => q (hall i (by omega))⟩⟩
  exact key n 0 (by omega) 1000 (by omega) (fun w hw => absurd hw (by omega))
theorem zo_m8 {m : Nat} (hm : m < 1000) : (nI m - nI m / (8 : Int32) * (8 : Int32)) * (6 : Int32) = nI (6 * (m % 8)) := by
  rw [show (8 : Int32) = nI 8 from rfl, show (6 : Int32) = nI 6 from rfl, pk_div (by omega) (by decide) (by decide), pk_mul, pk_sub (by omega), pk_mul, show (m - m / 8 * 8) * 6 = 6 * (m % 8) by omega]
theorem zc_rest {n : Nat} {q Y : Ob} (hY : zy n q Y) {sh mi h : Int32} (Ah Tn : Ob) (hT : zt n q sh mi h 0 Tn) : ∃ Ah' Tn', (∃ p, p ≤ 200 ∧ zb_R n q sh mi h p ∧ (∀ p', p' < p → ¬ zb_R n q sh mi h p') ∧ F_X0_hoursToRest Ah Tn Y = some (nI p, (Ah', Tn'))) ∨ ((∀ p, p ≤ 200 → ¬ zb_R n q sh mi h p) ∧ F_X0_hoursToRest Ah Tn Y = some (-9, (Ah', Tn'))) := by
  have h6 := hY.2.1
  have key : ∀ (k m : Nat), m + k = 209 → ∀ f, k < f → ∀ Ah Tn, zt n q sh mi h m Tn → (∀ j, j < m → m ≤ j + 8 → ∀ w, w < n → Ah 1 (6 * (j % 8) + w) = zj n q sh mi h j w) → (∀ p, p + 8 < m → ¬ zb_R n q sh mi h p) → ∃ Ah' Tn', (∃ p, p ≤ 200 ∧ zb_R n q sh mi h p ∧ (∀ p', p' < p → ¬ zb_R n q sh mi h p') ∧ F_X0_hoursToRest_2 Y f Ah Tn (nI m) = some (nI p, (Ah', Tn'))) ∨ ((∀ p, p ≤ 200 → ¬ zb_R n q sh mi h p) ∧ F_X0_hoursToRest_2 Y f Ah Tn (nI m) = some (-9, (Ah', Tn'))) := by
    intro k
    induction k with
    | zero =>
      intro m hm f hf Ah Tn hT hA hn
      obtain ⟨f, rfl⟩ := zp_f1 hf
      have : m = 209 := by omega
      subst this
      rw [F_X0_hoursToRest_2_n]; unfold F_X0_hoursToRest_2_s
      rw [if_pos (by decide)]
      exact ⟨_, _, Or.inr ⟨fun p hp => hn p (by omega), rfl⟩⟩
    | succ k ih =>
      intro m hm f hf Ah Tn hT hA hn
      obtain ⟨f, rfl⟩ := zp_f1 hf
      have go : (∀ p, p + 8 < m + 1 → ¬ zb_R n q sh mi h p) → ∃ Ah' Tn', (∃ p, p ≤ 200 ∧ zb_R n q sh mi h p ∧ (∀ p', p' < p → ¬ zb_R n q sh mi h p') ∧ F_X0_hoursToRest_40 Y (F_X0_hoursToRest_2 Y f) Ah Tn (nI m) (nI (6 * (m % 8))) = some (nI p, (Ah', Tn'))) ∨ ((∀ p, p ≤ 200 → ¬ zb_R n q sh mi h p) ∧ F_X0_hoursToRest_40 Y (F_X0_hoursToRest_2 Y f) Ah Tn (nI m) (nI (6 * (m % 8))) = some (-9, (Ah', Tn'))) := by
        intro hn'
        have l1 := zp_cpl0 (N := n) (b := 6 * (m % 8)) (c := 1) (S := fun _ => Tn 1) (fun _ _ => rfl) (K := fun A => F_X0_hoursToRest_77 Y (F_X0_hoursToRest_2 Y f) A Tn (nI m)) (F := fun g A i => F_X0_hoursToRest_43 Y (F_X0_hoursToRest_2 Y f) g A Tn (nI m) (nI (6 * (m % 8))) i)
          (fun g A => by show F_X0_hoursToRest_43 Y _ (g + 1) A Tn _ _ (nI n) = _; rw [F_X0_hoursToRest_43_n]; unfold F_X0_hoursToRest_43_s; rw [hY.1, if_pos (nI_le (Nat.le_refl _) (by omega))])
          (fun g A i hi => by
            show F_X0_hoursToRest_43 Y _ (g + 1) A Tn _ _ (nI i) = F_X0_hoursToRest_43 Y _ g _ Tn _ _ _
            rw [F_X0_hoursToRest_43_n]; unfold F_X0_hoursToRest_43_s; simp only [zp_let]
            rw [hY.1, if_neg (nI_ge (by omega) (by omega)), nI_add, zp_ck (by omega) (by decide), zp_ck (by omega) (by decide), nI_clamp (by omega), nI_clamp (by omega), zp_1]) Ah (f := 1000) (by omega)
        try dsimp only at l1
        unfold F_X0_hoursToRest_40
        rw [l1]
        unfold F_X0_hoursToRest_77
        obtain ⟨dd, T1, t1, t2⟩ := zl_c hY hT
        rw [t1, zp_b2]
        simp only [zp_let]
        rw [zp_1]
        refine ih (m + 1) (by omega) f (by omega) _ T1 t2 (fun j hj hj2 w hw => ?_) hn'
        rw [zp_rs]
        by_cases e : j = m
        · subst e
          rw [zp_fbi hw]
          exact hT.2.2.2 w hw
        · have h8 : j % 8 ≠ m % 8 := by omega
          rw [zp_fbo (by omega)]
          exact hA j (by omega) (by omega) w hw
      rw [F_X0_hoursToRest_2_n]; unfold F_X0_hoursToRest_2_s
      rw [if_neg (show ¬ (208 : Int32) < nI m from fun q => by have := (nI_ltI (a := 208) (b := m) (by decide) (by omega)).mp q; omega)]
      simp only [zp_let]
      rw [zo_m8 (show m < 1000 by omega)]
      by_cases h8 : m < 8
      · rw [if_pos (zp_l8 h8)]
        exact go (fun p hp => absurd hp (by omega))
      · obtain ⟨p, rfl⟩ : ∃ p, m = p + 8 := ⟨m - 8, by omega⟩
        rw [if_neg (show ¬ nI (p + 8) < (8 : Int32) from fun q => by have := (nI_ltI (a := p + 8) (b := 8) (by omega) (by decide)).mp q; omega), hY.1]
        obtain ⟨r, r1, r2⟩ := zc_asRow Ah Tn (n := n) (b := 6 * ((p + 8) % 8)) h6 (by omega)
        rw [r1, zp_bd]
        have hrow : (∀ w, w < n → Ah 1 (6 * ((p + 8) % 8) + w) = Tn 1 w) ↔ zb_R n q sh mi h p := by
          have e8 : (p + 8) % 8 = p % 8 := by omega
          rw [e8]
          constructor
          · intro hh j hj
            rw [← hA p (by omega) (by omega) j hj, hh j hj, hT.2.2.2 j hj]
          · intro hh j hj
            rw [hA p (by omega) (by omega) j hj, hh j hj, hT.2.2.2 j hj]
        rcases r2 with ⟨q1, q2⟩ | ⟨q1, q2⟩
        · rw [q1, zp_i1]
          unfold F_X0_hoursToRest_35
          rw [show nI (p + 8) - (8 : Int32) = nI p from by rw [show (8 : Int32) = nI 8 from rfl, pk_sub (by omega), Nat.add_sub_cancel]]
          exact ⟨_, _, Or.inl ⟨p, by omega, hrow.mp q2, fun p' hp' => hn p' (by omega), rfl⟩⟩
        · rw [q1, zp_i0]
          refine go (fun p' hp' => ?_)
          rcases (show p' = p ∨ p' < p by omega) with e | e
          · rw [e]; exact fun hh => q2 (hrow.mpr hh)
          · exact hn p' (by omega)
  exact key 209 0 (by omega) 1000 (by omega) Ah Tn hT (fun j hj => absurd hj (by omega)) (fun p hp => absurd hp (by omega))
theorem zm_97 (r2 : Ob → Int32 → Option (Int32 × Ob)) (M : Ob) {n : Nat} (hn : M 0 10 = nI n) (h6 : n ≤ 6) (x1 : Int32) : ((∀ w, w < n → M 12 w = M 13 w) ∧ F_X8_rest_97 r2 1000 M x1 1 0 = some (x1, M)) ∨ ((¬ ∀ w, w < n → M 12 w = M 13 w) ∧ F_X8_rest_97 r2 1000 M x1 1 0 = r2 M (x1 + 1)) := by
  have no : ∀ (k i : Nat), i + k = n → ∀ f, k < f → F_X8_rest_97 r2 f M x1 0 (nI i) = r2 M (x1 + 1) := by
    intro k
    induction k with
    | zero =>
      intro i hi f hf
      obtain ⟨f, rfl⟩ := zp_f1 hf
      have : i = n := by omega
      subst this
      rw [F_X8_rest_97_n]; unfold F_X8_rest_97_s F_X8_rest_136
      rw [hn, if_pos (nI_le (Nat.le_refl _) (by omega)), zp_i0]
      simp only [zp_let]
    | succ k ih =>
      intro i hi f hf
      obtain ⟨f, rfl⟩ := zp_f1 hf
      rw [F_X8_rest_97_n]; unfold F_X8_rest_97_s F_X8_rest_128 F_X8_rest_129
      rw [hn, if_neg (nI_ge (by omega) (by omega)), zp_i0]
      simp only [zp_let]
      rw [zp_1]
      exact ih (i + 1) (by omega) f (by omega)
  have key : ∀ (k i : Nat), i + k = n → ∀ f, k < f → (∀ w, w < i → M 12 w = M 13 w) → ((∀ w, w < n → M 12 w = M 13 w) ∧ F_X8_rest_97 r2 f M x1 1 (nI i) = some (x1, M)) ∨ ((¬ ∀ w, w < n → M 12 w = M 13 w) ∧ F_X8_rest_97 r2 f M x1 1 (nI i) = r2 M (x1 + 1)) := by
    intro k
    induction k with
    | zero =>
      intro i hi f hf hw
      obtain ⟨f, rfl⟩ := zp_f1 hf
      have : i = n := by omega
      subst this
      rw [F_X8_rest_97_n]; unfold F_X8_rest_97_s F_X8_rest_136
      rw [hn, if_pos (nI_le (Nat.le_refl _) (by omega)), zp_i1]
      exact Or.inl ⟨hw, rfl⟩
    | succ k ih =>
      intro i hi f hf hw
      obtain ⟨f, rfl⟩ := zp_f1 hf
      rw [F_X8_rest_97_n]; unfold F_X8_rest_97_s F_X8_rest_128 F_X8_rest_129
      rw [hn, if_neg (nI_ge (by omega) (by omega)), zp_i1, zp_ck (by omega) (by decide), zp_ck (by omega) (by decide), nI_clamp (by omega)]
      simp only [zp_let]
      rw [zp_1]
      by_cases q : M 12 i = M 13 i
      · rw [if_pos q]
        refine ih (i + 1) (by omega) f (by omega) (fun w hw' => ?_)
        rcases (show w = i ∨ w < i by omega) with e | e
        · rw [e]; exact q
        · exact hw w e
      · rw [if_neg q, no k (i + 1) (by omega) f (by omega)]
        exact Or.inr ⟨fun hall => q (hall i (by omega)), rfl⟩
  exact key n 0 (by omega) 1000 (by omega) (fun w hw => absurd hw (by omega))
