/-! ===== PURE 7: the plain calls ===== -/
theorem zo_ex {α : Type} {X : Option α} (h : ∃ r, X = some r) : ∃ r, X = some r ∧ X = some r := h.elim fun r h => ⟨r, h, h⟩
theorem zp_uD (P : Ob) (c i : Nat) (v : Int32) (d : Nat) : (zs_up P c i v) d = if d = c then upd (P c) i v else P d := rfl
theorem zp_rD (P : Ob) (c : Nat) (f : Nat → Int32) (d : Nat) : (zp_row P c f) d = if d = c then f else P d := rfl
theorem zp_upR (f : Nat → Int32) (i : Nat) (v : Int32) (j : Nat) : upd f i v j = if j = i then v else f j := rfl
/-- not by rfl for simp: a loop with its bounds written out would be run by the kernel -/
theorem zp_let {α β : Type} (x : α) (k : α → β) : zs_let x k = k x := Eq.trans (rfl : zs_let x k = k x) rfl
theorem zp_bdS {α β : Type} (a : α) (k : α → Option β) : zs_bd (some a) k = k a := Eq.trans (rfl : zs_bd (some a) k = k a) rfl
theorem zp_b2S {α α2 β : Type} (a : α) (b : α2) (k : α → α2 → Option β) : zs_b2 (some (a, b)) k = k a b := Eq.trans (rfl : zs_b2 (some (a, b)) k = k a b) rfl
theorem zp_i1 {α : Type} (a b : α) : (if (1 : Int32) = 0 then a else b) = b := if_neg (by decide)
theorem zp_i0 {α : Type} (a b : α) : (if (0 : Int32) = 0 then a else b) = a := if_pos rfl
theorem zp_g6 {i : Nat} (h : i < 6) : ¬ (6 : Int32) ≤ nI i := nI_ge (a := i) (b := 6) (by omega) (by decide)
theorem zp_g8 {i : Nat} (h : i < 8) : ¬ (8 : Int32) ≤ nI i := nI_ge (a := i) (b := 8) (by omega) (by decide)
theorem zp_g10 {i : Nat} (h : i < 10) : ¬ (10 : Int32) ≤ nI i := nI_ge (a := i) (b := 10) (by omega) (by decide)
theorem zp_g36 {i : Nat} (h : i < 36) : ¬ (36 : Int32) ≤ nI i := nI_ge (a := i) (b := 36) (by omega) (by decide)
theorem zp_l10 {i : Nat} (h : i < 10) : nI i < (10 : Int32) := (nI_ltI (a := i) (b := 10) (by omega) (by decide)).mpr h
theorem zp_l8 {i : Nat} (h : i < 8) : nI i < (8 : Int32) := (nI_ltI (a := i) (b := 8) (by omega) (by decide)).mpr h
theorem zp_l999 {i : Nat} (h : i < 999) : nI i < (999 : Int32) := (nI_ltI (a := i) (b := 999) (by omega) (by decide)).mpr h
theorem zp_ge6 {i : Nat} (h : 6 ≤ i) (hi : i < 2 ^ 31) : (6 : Int32) ≤ nI i := nI_le (a := 6) (b := i) h hi
theorem zp_ge8 {i : Nat} (h : 8 ≤ i) (hi : i < 2 ^ 31) : (8 : Int32) ≤ nI i := nI_le (a := 8) (b := i) h hi
theorem zp_pos {i : Nat} (h : 0 < i) (hi : i < 2 ^ 31) : 0 < nI i := (nI_ltI (a := 0) (b := i) (by decide) hi).mpr h
theorem zp_nle0 {i : Nat} (h : 0 < i) (hi : i < 2 ^ 31) : ¬ nI i ≤ 0 := fun q => by have := (nI_leI (a := i) (b := 0) hi (by decide)).mp q; omega
def zq_pc (a : Nat) : Nat := ((List.range 8).filter (fun i => a.testBit i)).length
theorem zq_pcA : ∀ a, a < 256 → F_J6_bitCount_0f7a4 (nI a) = some (nI (zq_pc a)) := by decide +kernel
theorem zq_pcB : ∀ a, a < 256 → F_X8_many (nI a) = some (nI (zq_pc a)) := by decide +kernel
theorem zq_2n {n : Nat} (h6 : n ≤ 6) : 2 ^ n ≤ 64 := Nat.pow_le_pow_right (by decide) h6
theorem zq_xor : ∀ a, a < 64 → ∀ w, w < 6 → nI a ^^^ ((1 : Int32) <<< (nI w &&& 31)) = nI (a ^^^ 2 ^ w) := by decide +kernel
theorem zq_xlt {n a w : Nat} (ha : a < 2 ^ n) (hw : w < n) : a ^^^ 2 ^ w < 2 ^ n := Nat.xor_lt_two_pow ha (Nat.pow_lt_pow_right (by decide) hw)
theorem zq_w6 : ∀ w, w < 6 → nI (6 + w) - (6 : Int32) = nI w ∧ nI (8 + w) - (8 : Int32) = nI w := by decide +kernel
theorem zo_clear {Xm : Ob} {tr : Int64} {Tx Pr Sg Im0 Im1 Yt M : Ob} {mt : Int64} (h : zr Xm tr Tx Pr Sg Im0 Im1 Yt M mt) : ∃ r Tx' M', F_X7_clear Tx = some (r, Tx') ∧ F_X8_clear M = some (r, M') ∧ zr Xm tr Tx' Pr Sg Im0 Im1 Yt M' mt := by
  obtain ⟨n, a, b, ⟨z, t, c1, c2, c3, c4⟩, d, e, f⟩ := h
  refine ⟨M 0 1, _, _, by unfold F_X7_clear zs_let; rw [c2, c3], rfl, n, zr_Yc a rfl rfl rfl rfl rfl rfl rfl, zr_Nc b rfl rfl rfl rfl rfl (fun _ _ => rfl) rfl, ⟨0, t, by decide, rfl, rfl, fun i hi => absurd hi (by omega)⟩, zr_Sc d rfl rfl rfl rfl, zr_Ic e rfl, f⟩
theorem zo_forget {Xm : Ob} {tr : Int64} {Tx Pr Sg Im0 Im1 Yt M : Ob} {mt : Int64} (h : zr Xm tr Tx Pr Sg Im0 Im1 Yt M mt) : ∃ r Sg' M', F_X7_forget Sg = some (r, Sg') ∧ F_X8_forget M = some (r, M') ∧ zr Xm tr Tx Pr Sg' Im0 Im1 Yt M' mt := by
  obtain ⟨n, a, b, c, ⟨k, d1, d2, d3, d4⟩, e, f⟩ := h
  refine ⟨M 0 27, _, _, by unfold F_X7_forget zs_let; rw [d2, d3], rfl, n, zr_Yc a rfl rfl rfl rfl rfl rfl rfl, zr_Nc b rfl rfl rfl rfl rfl (fun _ _ => rfl) rfl, zr_Tc c rfl rfl, ⟨0, by decide, rfl, rfl, fun i hi => absurd hi (by omega)⟩, zr_Ic e rfl, f⟩
theorem zo_trace {Xm : Ob} {tr : Int64} {Tx Pr Sg Im0 Im1 Yt M : Ob} {mt : Int64} (h : zr Xm tr Tx Pr Sg Im0 Im1 Yt M mt) : ∃ r, F_X7_trace tr = some r ∧ F_X8_trace M mt = some r := by
  obtain ⟨n, a, b, c, d, e, f⟩ := h
  exact ⟨tr, rfl, by rw [f]; rfl⟩
theorem zo_sees {Xm : Ob} {tr : Int64} {Tx Pr Sg Im0 Im1 Yt M : Ob} {mt : Int64} (h : zr Xm tr Tx Pr Sg Im0 Im1 Yt M mt) (u v : Int32) : ∃ r, F_X7_sees Yt u v = some r ∧ F_X8_sees M u v = some r := by
  obtain ⟨n, ⟨⟨a1, a2, a3, a4⟩, ⟨-, -, -, -, a5, -⟩, -⟩, -⟩ := h
  unfold F_X7_sees F_X8_sees
  rcases zq_wall a1 a2 a3 u with ⟨w, hw, rfl, e1, e2⟩ | ⟨e1, e2⟩
  · rw [e1, e2, zp_bd, zp_bd, zp_i1, zp_i1]
    rcases zq_wall a1 a2 a3 v with ⟨x, hx, rfl, e3, e4⟩ | ⟨e3, e4⟩
    · rw [e3, e4, zp_bd, zp_bd, zp_i1, zp_i1]
      by_cases hh : nI w = nI x
      · exact ⟨-1, by rw [if_pos hh], by rw [if_pos hh]⟩
      · rw [if_neg hh, if_neg hh, zp_ix1, zp_ix2, zp_ck (by omega) (by decide), zp_ck (by omega) (by decide), nI_clamp (by omega), a5 _ (by omega)]
        exact ⟨_, rfl, rfl⟩
    · rw [e3, e4, zp_bd, zp_bd, zp_i0, zp_i0]; exact ⟨_, rfl, rfl⟩
  · rw [e1, e2, zp_bd, zp_bd, zp_i0, zp_i0]; exact ⟨_, rfl, rfl⟩
/-- parts of a wall, added up -/
theorem zm_seen (M : Ob) {p : Nat → Nat → Nat} {V : Nat} (hp : ∀ i o, i < 6 → o < 6 → M V (6 * i + o) = nI (p i o)) (w : Nat) (hw : w < 6) (F : Nat → Int32 → Int32 → Int32 → Option Int32) (hF : ∀ f (x3 x4 : Int32), F (f + 1) (nI w) x3 x4 = if (6 : Int32) ≤ x4 then some x3 else zs_ck (((6 : Int32) * nI w) + x4) 36 (zs_let ((x3 + (M V ((((6 : Int32) * nI w) + x4)).toNatClampNeg))) (fun z4 => zs_let (x4 + (1 : Int32)) (fun z6 => (F f (nI w) z4 z6))))) : ∀ (k i : Nat), i + k = 6 → ∀ f, k < f → F f (nI w) (nI (zp_sm (p w) i)) (nI i) = some (nI (zp_sm (p w) 6)) := by
  intro k
  induction k with
  | zero =>
    intro i hi f hf
    obtain ⟨f, rfl⟩ := zp_f1 hf
    have : i = 6 := by omega
    subst this
    rw [hF, if_pos (by decide)]
  | succ k ih =>
    intro i hi f hf
    obtain ⟨f, rfl⟩ := zp_f1 hf
    have h1 := ih (i + 1) (by omega) f (by omega)
    rw [hF, if_neg (zp_g6 (i := i) (by omega)), zp_ix1, zp_ck (by omega) (by decide), nI_clamp (by omega), hp w i hw (by omega)]
    simp only [zs_let]
    rw [nI_add, zp_1]
    exact h1
theorem zm_seenP (M : Ob) {p : Nat → Nat → Nat} (hp : ∀ i o, i < 6 → o < 6 → M 8 (6 * i + o) = nI (p i o)) (w : Nat) (hw : w < 6) : F_X8_seen_parts M (nI w) = some (nI (zp_sm (p w) 6)) :=
  zm_seen M hp w hw (F_X8_seen_parts_5 M) (fun f x3 x4 => by rw [F_X8_seen_parts_5_n]; rfl) 6 0 rfl 1000 (by omega)
theorem zo_wall {Xm : Ob} {tr : Int64} {Tx Pr Sg Im0 Im1 Yt M : Ob} {mt : Int64} (h : zr Xm tr Tx Pr Sg Im0 Im1 Yt M mt) (u v : Int32) : ∃ r, F_X7_wall Pr Yt u v = some r ∧ F_X8_wall M u v = some r := by
  obtain ⟨n, ⟨⟨a1, a2, a3, a4⟩, ⟨s1, s2, s3, s4, s5, s6⟩, vv, rr, kk, p, p1, p2, p3, p4, p5, p6, -⟩, ⟨⟨b1, b2, b3, b4, b5⟩, b6, -⟩, -⟩ := h
  unfold F_X7_wall F_X8_wall
  rcases zq_wall a1 a2 a3 u with ⟨w, hw, rfl, e1, e2⟩ | ⟨e1, e2⟩
  · rw [e1, e2, zp_bd, zp_bd, zp_i1, zp_i1]
    have hc : ∀ y : Option Int32, zs_ck (nI w) 6 y = y := fun y => zp_ck (by omega) (by decide)
    have hi : (nI w).toNatClampNeg = w := nI_clamp (by omega)
    simp only [hc, hi]
    by_cases q0 : v = 0
    · simp only [q0, if_true]; exact ⟨_, by rw [b6 w hw], rfl⟩
    · by_cases q1 : v = 1
      · simp only [q1]; exact ⟨_, by rw [s2 w hw]; rfl, rfl⟩
      · by_cases q2 : v = 2
        · simp only [q2]; exact ⟨_, by rw [s3 w hw]; rfl, rfl⟩
        · by_cases q3 : v = 3
          · simp only [q3]; exact ⟨_, by rw [s4 w hw]; rfl, rfl⟩
          · simp only [q0, q1, q2, q3, if_false]
            by_cases q4 : v = 4
            · simp only [q4, if_true]
              rw [zm_seenP M p4 w (by omega)]
              unfold F_X6_dark
              simp only [hc, hi, zp_bd]
              exact ⟨_, by rw [p6 w (by omega)], rfl⟩
            · simp only [q4, if_false]
              by_cases q5 : v = 5
              · simp only [q5, if_true]
                exact ⟨_, by rw [zc_bit, zp_bd, b2]; rfl, rfl⟩
              · simp only [q5, if_false]
                by_cases q6 : v = 6
                · simp only [q6, if_true]
                  exact ⟨_, by rw [zc_bit, zp_bd, b3]; rfl, rfl⟩
                · simp only [q6, if_false]
                  exact ⟨_, rfl, rfl⟩
  · rw [e1, e2, zp_bd, zp_bd, zp_i0, zp_i0]; exact ⟨_, rfl, rfl⟩
theorem zo_count {Xm : Ob} {tr : Int64} {Tx Pr Sg Im0 Im1 Yt M : Ob} {mt : Int64} (h : zr Xm tr Tx Pr Sg Im0 Im1 Yt M mt) (u : Int32) : ∃ r, F_X7_count Tx Pr Sg Yt u = some r ∧ F_X8_count M u = some r := by
  obtain ⟨n, ⟨⟨a1, a2, a3, a4⟩, -⟩, ⟨⟨b1, b2, b3, b4, b5⟩, -, ⟨sa, c1, c2⟩, ⟨ma, c3, c4⟩, -⟩, ⟨z, t, t1, t2, t3, -⟩, ⟨k, d1, d2, d3, -⟩, -⟩ := h
  have h64 := zq_2n a3
  unfold F_X7_count F_X8_count
  rw [a1, a2, a4, b2, b3, b5, t2, t3, d2, d3, c1, c3, zq_pcA sa (by omega), zq_pcA ma (by omega), zq_pcB sa (by omega), zq_pcB ma (by omega)]
  simp only [zp_bd]
  refine zo_ex ?_
  repeat' split
  all_goals exact ⟨_, rfl⟩
/-- an hour of the present, on both sides -/
theorem zo_hourY {Y M : Ob} {n : Nat} (hY : zr_Y n Y M) (sh mi hr : Int32) (wm1 wm2 : Nat → Int32) (h : zp_ag n wm1 wm2) : zp_ag n (zh_T n (Y 2) (Y 3) (Y 4) (Y 5) (Y 7) sh mi hr wm1) (zh_T n (M 5) (M 6) (M 7) (M 8) (fun _ => 0) sh mi hr wm2) ∧ zh_d n (Y 2) (Y 3) (Y 4) (Y 5) (Y 7) sh mi hr wm1 = zh_d n (M 5) (M 6) (M 7) (M 8) (fun _ => 0) sh mi hr wm2 := by
  obtain ⟨⟨-, -, h6, -⟩, ⟨-, s2, s3, s4, s5, s6⟩, -⟩ := hY
  exact zh_TA n sh mi hr s2 s3 s4 (fun w o hw ho => s5 _ (by omega)) (fun j hj => s6 j (by omega)) h
theorem zr_Bh {n : Nat} {Y M : Ob} (hY : zr_Y n Y M) (sh mi : Int32) {h : Int32} {wm wm' : Nat → Int32} (hB : zr_B n h wm) (hlt : h < 999) (he : zp_ag n wm' (zh_T n (M 5) (M 6) (M 7) (M 8) (fun _ => 0) sh mi (zh_r h) wm)) : zr_B n (h + 1) wm' := by
  obtain ⟨⟨-, -, h6, -⟩, -, v, r, k, p, p1, p2, p3, p4, p5, p6, -⟩ := hY
  obtain ⟨hh, v0, b1, b2, b3, b4⟩ := hB
  subst b1
  have hh9 : hh < 999 := (nI_ltI (a := hh) (b := 999) (by omega) (by decide)).mp hlt
  have hpn : ∀ i, i < n → zp_sm (p i) n ≤ 10 := fun i hi => Nat.le_trans (zp_smm (p i) h6) (p5 i (by omega))
  obtain ⟨t, t1, t2⟩ := zh_TN (f := fun _ => 0) sh mi (zh_r (nI hh)) (fun i o hi ho => p4 i o (by omega) (by omega)) hpn p2 (fun w hw => ⟨b3 w hw, by have := zp_sme v0 hw; omega⟩) (fun w hw => (p3 w hw).1) (fu := fun _ => 0) (hs := M 7) (fun w _ => rfl)
  refine ⟨hh + 1, t, zp_1 hh, by omega, fun w hw => by rw [he w hw, t1 w hw], ?_⟩
  have hk : zp_sm (fun w => v0 w + k w + 0) n ≤ zp_sm v0 n + 120 := by
    have h1 : zp_sm (fun w => v0 w + k w + 0) n ≤ zp_sm (fun w => v0 w + 20) n := zp_sml (fun w hw => by have := (p3 w hw).2; omega)
    have h2 := zp_sma v0 (fun _ => 20) n
    rw [zp_smk] at h2
    omega
  omega
theorem zo_hour {Xm : Ob} {tr : Int64} {Tx Pr Sg Im0 Im1 Yt M : Ob} {mt : Int64} (h : zr Xm tr Tx Pr Sg Im0 Im1 Yt M mt) : ∃ r Pr' M', F_X7_hour Pr Yt = some (r, Pr') ∧ F_X8_hour M = some (r, M') ∧ zr Xm tr Tx Pr' Sg Im0 Im1 Yt M' mt := by
  obtain ⟨n, a, b, c, d, e, f⟩ := id h
  obtain ⟨⟨a1, a2, a3, a4⟩, -⟩ := id a
  obtain ⟨⟨b1, b2, b3, b4, b5⟩, b6, b7, b8, b9, b10⟩ := id b
  obtain ⟨hh, v0, g1, g2, g3, g4⟩ := id b10
  unfold F_X7_hour F_X8_hour
  rw [b1]
  by_cases hq : M 0 18 = 999
  · rw [hq, if_neg (by decide), if_pos rfl]
    exact ⟨-2, Pr, M, rfl, rfl, h⟩
  · have hlt : M 0 18 < 999 := by
      rw [g1] at hq ⊢
      refine zp_l999 (i := hh) ?_
      have : hh ≠ 999 := fun e => hq (by rw [e]; rfl)
      omega
    rw [if_pos hlt, if_neg hq]
    obtain ⟨P', p1, p2, p3, p4, p5, p6, p7, p8, p9⟩ := zc_goBy Pr Yt a1 a3
    obtain ⟨M', m1, m2, m3, m4⟩ := zm_goes_warm M a2 a3 (M 0 18) (M 0 19) (M 0 20)
    obtain ⟨q1, q2⟩ := zo_hourY a (M 0 19) (M 0 20) (zh_r (M 0 18)) (Pr 1) (M 9) b6
    rw [b1, b2, b3] at p1 p2 p7
    rw [q2] at p1 p7
    rw [p1, m1, zp_b2, zp_b2]
    simp only [zs_let]
    have m0 : M' 0 = M 0 := m4 0 (by decide) (by decide)
    refine ⟨_, P', _, rfl, rfl, n, ?_, ?_, ?_, ?_, ?_, f⟩
    · refine zr_Yc a ?_ ?_ ?_ ?_ ?_ ?_ ?_ <;> simp [zs_up, upd, m0, m4]
    · refine ⟨⟨?_, ?_, ?_, ?_, ?_⟩, ?_, ?_, ?_, ?_, ?_⟩
      · simp [zs_up, upd, m0, p4, b1]
      · simp [zs_up, upd, m0, p5, b2]
      · simp [zs_up, upd, m0, p6, b3]
      · simp [zs_up, upd, m0, p7, b4]
      · simp [zs_up, upd, m0, p8, b5]
      · intro j hj
        have e1 : (zs_up (zs_up M' 0 21 (M' 0 21 + zh_d n (M 5) (M 6) (M 7) (M 8) (fun x => 0) (M 0 19) (M 0 20) (zh_r (M 0 18)) (M 9))) 0 18 ((zs_up M' 0 21 (M' 0 21 + zh_d n (M 5) (M 6) (M 7) (M 8) (fun x => 0) (M 0 19) (M 0 20) (zh_r (M 0 18)) (M 9))) 0 18 + 1)) 9 = M' 9 := rfl
        rw [e1, p2 j hj, q1 j hj, m2 j hj]
      · simpa [zs_up, upd, m0] using b7
      · simpa [zs_up, upd, m0] using b8
      · have e2 : P' 3 = Pr 3 := p9
        have e3 : M' 11 = M 11 := m4 11 (by decide) (by decide)
        simpa [zs_up, upd, m0, e2, e3] using b9
      · have e4 := zr_Bh a (M 0 19) (M 0 20) b10 hlt m2
        simpa [zs_up, upd, m0] using e4
    · refine zr_Tc c ?_ ?_ <;> simp [zs_up, upd, m0, m4]
    · refine zr_Sc d ?_ ?_ ?_ ?_ <;> simp [zs_up, upd, m0, m4]
    · refine zr_Ic e ?_; simp [zs_up, m4]
