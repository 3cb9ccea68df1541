/-! ===== PURE 14: blanket ===== -/
theorem zq_pc8 (s : Nat) : zq_pc s ≤ 8 := Nat.le_trans (List.length_filter_le _ _) (by simp)
theorem zq_pcE {s F : Nat} (hF : F < 2 ^ 31) : (nI (zq_pc s) = nI F) ↔ zq_pc s = F := nI_eq (by have := zq_pc8 s; omega) hF
theorem zq_pcn : ∀ n, n ≤ 6 → ∀ w, w < n → ∀ s, s < 64 → s < 2 ^ n → s.testBit w = false → zq_pc s < n := by decide +kernel
theorem zq_may : ∀ m, m < 64 → ∀ w, w < 6 → ∀ s, s < 64 → nI s &&& (nI m ||| ((1 : Int32) <<< (nI w &&& 31))) = 0 → s.testBit w = false := by decide +kernel
/-- the best of a search: the fewest, then the least -/
def zb_best (N : Nat) (P : Nat → Prop) (res : Int32) : Prop := (res = -9 ∧ ∀ s, s < N → ¬ P s) ∨ ∃ s0, res = nI s0 ∧ s0 < N ∧ P s0 ∧ ∀ s, s < N → P s → zq_pc s0 ≤ zq_pc s ∧ (zq_pc s = zq_pc s0 → s0 ≤ s)
/-- warm enough with these mirrors -/
def zb_P (n : Nat) (M : Ob) (w : Nat) (v : Int32) (K : Nat) (s : Nat) : Prop := nI s &&& (M 0 20 ||| ((1 : Int32) <<< (nI w &&& 31))) = 0 ∧ ¬ zj n (zQ M) (M 0 19) (M 0 20 ||| nI s) (M 0 18) K w < v
theorem zc_bof {n : Nat} {Pr Yt M : Ob} (hY : zr_Y n Yt M) (hN : zr_N n Pr M) (Ah : Ob) {w : Nat} (hw : w < n) (v : Int32) {K : Nat} (hK : K < 1000) {F : Nat} (hF : F < 9) (Tn : Ob) : ∃ Tn', ((∃ s, s < 2 ^ n ∧ zb_P n M w v K s ∧ zq_pc s = F ∧ (∀ s', s' < s → ¬ (zb_P n M w v K s' ∧ zq_pc s' = F)) ∧ F_X7_blanketOf Pr Yt Ah Tn (nI w) v (nI K) (nI F) = some (nI s, Tn'))) ∨ ((∀ s, s < 2 ^ n → ¬ (zb_P n M w v K s ∧ zq_pc s = F)) ∧ F_X7_blanketOf Pr Yt Ah Tn (nI w) v (nI K) (nI F) = some (-9, Tn')) := by
  obtain ⟨⟨a1, a2, a3, a4⟩, -⟩ := id hY
  obtain ⟨⟨b1, b2, b3, b4, b5⟩, b6, -⟩ := id hN
  obtain ⟨hy, hx⟩ := zQ_y hY
  have h64 := zq_2n a3
  have key : ∀ (k i : Nat), i + k = 2 ^ n → ∀ f, k < f → ∀ Tn, (∀ s', s' < i → ¬ (zb_P n M w v K s' ∧ zq_pc s' = F)) → ∃ Tn', ((∃ s, s < 2 ^ n ∧ zb_P n M w v K s ∧ zq_pc s = F ∧ (∀ s', s' < s → ¬ (zb_P n M w v K s' ∧ zq_pc s' = F)) ∧ F_X7_blanketOf_16 Pr Yt Ah f Tn (nI w) v (nI K) (nI F) (M 0 20 ||| ((1 : Int32) <<< (nI w &&& 31))) (nI i) = some (nI s, Tn'))) ∨ ((∀ s, s < 2 ^ n → ¬ (zb_P n M w v K s ∧ zq_pc s = F)) ∧ F_X7_blanketOf_16 Pr Yt Ah f Tn (nI w) v (nI K) (nI F) (M 0 20 ||| ((1 : Int32) <<< (nI w &&& 31))) (nI i) = some (-9, Tn')) := by
    intro k
    induction k with
    | zero =>
      intro i hi f hf Tn hn
      obtain ⟨f, rfl⟩ := zp_f1 hf
      have hi2 : i = 2 ^ n := by omega
      rw [F_X7_blanketOf_16_n]; unfold F_X7_blanketOf_16_s
      rw [a1, zo_pw n a3, ← hi2, if_pos (nI_le (Nat.le_refl _) (by omega))]
      exact ⟨Tn, Or.inr ⟨hn, rfl⟩⟩
    | succ k ih =>
      intro i hi f hf Tn hn
      obtain ⟨f, rfl⟩ := zp_f1 hf
      have skip : ∀ Tn, ¬ (zb_P n M w v K i ∧ zq_pc i = F) → _ := fun Tn hs => ih (i + 1) (by omega) f (by omega) Tn (fun s' hs' => by
        rcases (show s' = i ∨ s' < i by omega) with e | e
        · rw [e]; exact hs
        · exact hn s' e)
      rw [F_X7_blanketOf_16_n]; unfold F_X7_blanketOf_16_s F_X7_blanketOf_74; simp only [zp_let]
      rw [a1, zo_pw n a3, if_neg (nI_ge (by omega) (by omega)), zp_1]
      by_cases q1 : nI i &&& (M 0 20 ||| ((1 : Int32) <<< (nI w &&& 31))) = 0
      · rw [if_pos q1, zq_pcA i (by omega), zp_bd]
        by_cases q2 : zq_pc i = F
        · rw [if_pos ((zq_pcE (by omega)).mpr q2)]
          obtain ⟨T1, t0, t1, t2, t3, t4⟩ := zl_set Ah Tn Pr
          have z0 : zt n (zQ M) (M 0 19) (M 0 20 ||| nI i) (M 0 18) 0 (zs_up T1 0 2 (T1 0 2 ||| nI i)) := by
            refine zl_t1 a3 b6 ?_ ?_ ?_ (fun j hj => ?_) rfl
            · simp [zp_uD, zp_upR, t1, b1]
            · simp [zp_uD, zp_upR, t2, b2]
            · simp [zp_uD, zp_upR, t3, b3]
            · simp [zp_uD, t4 j hj]
          obtain ⟨T2, u0, u1⟩ := zl_goOn Ah hy hK z0
          rw [Nat.zero_add] at u1
          unfold F_X0_warmthIfMirrors
          rw [t0, zp_bd]
          simp only [zp_let]
          rw [u0, zp_bd, zp_ck (by omega) (by decide), zp_b2, nI_clamp (by omega), u1.2.2.2 w hw]
          by_cases q3 : zj n (zQ M) (M 0 19) (M 0 20 ||| nI i) (M 0 18) K w < v
          · rw [if_pos q3]
            exact skip T2 (fun q => q.1.2 q3)
          · rw [if_neg q3]
            exact ⟨T2, Or.inl ⟨i, by omega, ⟨q1, q3⟩, q2, hn, rfl⟩⟩
        · rw [if_neg (fun q => q2 ((zq_pcE (by omega)).mp q))]
          exact skip Tn (fun q => q2 q.2)
      · rw [if_neg q1]
        exact skip Tn (fun q => q1 q.1.1)
  unfold F_X7_blanketOf
  rw [b3]
  simp only [zp_let]
  exact key (2 ^ n) 0 (by omega) 1000 (by omega) Tn (fun s' hs' => absurd hs' (by omega))
theorem zc_blk {n : Nat} {Pr Yt M : Ob} (hY : zr_Y n Yt M) (hN : zr_N n Pr M) (Ah : Ob) {w : Nat} (hw : w < n) (v : Int32) {K : Nat} (hK : K < 1000) {res : Int32} (hr : zb_best (2 ^ n) (zb_P n M w v K) res) (Tn : Ob) : ∃ Tn', F_X7_blanket_32 Pr Yt Ah 1000 Tn (nI w) v (nI K) 0 = some (res, Tn') := by
  obtain ⟨⟨a1, a2, a3, a4⟩, -⟩ := id hY
  obtain ⟨-, -, -, ⟨ma, m1, m2⟩, -⟩ := id hN
  have h64 := zq_2n a3
  have key : ∀ (k i : Nat), i + k = n → ∀ f, k < f → ∀ Tn, (∀ s, s < 2 ^ n → zb_P n M w v K s → i ≤ zq_pc s) → ∃ Tn', F_X7_blanket_32 Pr Yt Ah f Tn (nI w) v (nI K) (nI i) = some (res, Tn') := by
    intro k
    induction k with
    | zero =>
      intro i hi f hf Tn hn
      obtain ⟨f, rfl⟩ := zp_f1 hf
      have : i = n := by omega
      subst this
      rw [F_X7_blanket_32_n]; unfold F_X7_blanket_32_s
      rw [a1, if_pos (nI_le (Nat.le_refl _) (by omega))]
      rcases hr with ⟨r1, r2⟩ | ⟨s0, r1, r2, r3, r4⟩
      · exact ⟨Tn, by rw [r1]⟩
      · have h1 := hn s0 r2 r3
        have h2 := zq_pcn i a3 w hw s0 (by omega) r2 (zq_may ma (by omega) w (by omega) s0 (by omega) (by rw [← m1]; exact r3.1))
        omega
    | succ k ih =>
      intro i hi f hf Tn hn
      obtain ⟨f, rfl⟩ := zp_f1 hf
      rw [F_X7_blanket_32_n]; unfold F_X7_blanket_32_s; simp only [zp_let]
      rw [a1, if_neg (nI_ge (by omega) (by omega))]
      obtain ⟨T', hh⟩ := zc_bof hY hN Ah hw v hK (F := i) (by omega) Tn
      rcases hh with ⟨s, g1, g2, g3, g4, g5⟩ | ⟨g1, g2⟩
      · rw [g5, zp_b2, if_neg (zp_n9 (by omega))]
        rcases hr with ⟨r1, r2⟩ | ⟨s0, r1, r2, r3, r4⟩
        · exact absurd g2 (r2 s g1)
        · obtain ⟨c1, c2⟩ := r4 s g1 g2
          have c3 := hn s0 r2 r3
          have c4 := c2 (by omega)
          have : s = s0 := by
            rcases Nat.lt_or_ge s0 s with q | q
            · exact absurd ⟨r3, by omega⟩ (g4 s0 q)
            · omega
          exact ⟨T', by rw [r1, this]⟩
      · rw [g2, zp_b2, if_pos rfl, zp_1]
        refine ih (i + 1) (by omega) f (by omega) T' (fun s hs hP => ?_)
        have c1 := hn s hs hP
        have c2 : ¬ zq_pc s = i := fun q => g1 s hs ⟨hP, q⟩
        omega
  exact key n 0 (by omega) 1000 (by omega) Tn (fun s _ _ => Nat.zero_le _)
theorem zm_blk {n : Nat} {Yt M Pr : Ob} (hY : zr_Y n Yt M) (hN : zr_N n Pr M) {w : Nat} (hw : w < n) (v : Int32) {K : Nat} (hK : K < 1000) : ∃ res M', F_X8_blanket_41 1000 M (nI w) v (nI K) (-9) 0 = some (res, M') ∧ zb_best (2 ^ n) (zb_P n M w v K) res ∧ zf M M' := by
  obtain ⟨⟨a1, a2, a3, a4⟩, -⟩ := id hY
  obtain ⟨hy, hx⟩ := zQ_y hY
  have h64 := zq_2n a3
  have key : ∀ (k i : Nat), i + k = 2 ^ n → ∀ f, k < f → ∀ M1 best, zf M M1 → zb_best i (zb_P n M w v K) best → ∃ res M', F_X8_blanket_41 f M1 (nI w) v (nI K) best (nI i) = some (res, M') ∧ zb_best (2 ^ n) (zb_P n M w v K) res ∧ zf M M' := by
    intro k
    induction k with
    | zero =>
      intro i hi f hf M1 best g1 g2
      obtain ⟨f, rfl⟩ := zp_f1 hf
      have hi2 : i = 2 ^ n := by omega
      rw [F_X8_blanket_41_n]; unfold F_X8_blanket_41_s
      rw [g1.1, a2, zo_pw n a3, ← hi2, if_pos (nI_le (Nat.le_refl _) (by omega))]
      exact ⟨_, _, rfl, g2, g1⟩
    | succ k ih =>
      intro i hi f hf M1 best g1 g2
      obtain ⟨f, rfl⟩ := zp_f1 hf
      have hx1 := zf_x g1 hx
      have skip : ∀ M2, zf M M2 → (zb_P n M w v K i → ∃ s0, best = nI s0 ∧ s0 < i ∧ zb_P n M w v K s0 ∧ zq_pc s0 ≤ zq_pc i) → ∃ res M', F_X8_blanket_41 f M2 (nI w) v (nI K) best (nI (i + 1)) = some (res, M') ∧ zb_best (2 ^ n) (zb_P n M w v K) res ∧ zf M M' := by
        intro M2 h2 hs
        refine ih (i + 1) (by omega) f (by omega) M2 best h2 ?_
        rcases g2 with ⟨r1, r2⟩ | ⟨s0, r1, r2, r3, r4⟩
        · refine Or.inl ⟨r1, fun s hs' hP => ?_⟩
          rcases (show s = i ∨ s < i by omega) with e | e
          · rw [e] at hP
            obtain ⟨s0, c1, c2, c3, -⟩ := hs hP
            exact r2 s0 c2 c3
          · exact r2 s e hP
        · refine Or.inr ⟨s0, r1, by omega, r3, fun s hs' hP => ?_⟩
          rcases (show s = i ∨ s < i by omega) with e | e
          · rw [e] at hP ⊢
            obtain ⟨s1, c1, c2, c3, c4⟩ := hs hP
            have : s1 = s0 := (nI_eq (by omega) (by omega)).mp (by rw [← c1, ← r1])
            rw [this] at c4
            exact ⟨c4, fun _ => by omega⟩
          · exact r4 s e hP
      have take : ∀ M2, zf M M2 → zb_P n M w v K i → (∀ s0, best = nI s0 → s0 < i → zq_pc i < zq_pc s0) → ∃ res M', F_X8_blanket_41 f M2 (nI w) v (nI K) (nI i) (nI (i + 1)) = some (res, M') ∧ zb_best (2 ^ n) (zb_P n M w v K) res ∧ zf M M' := by
        intro M2 h2 hP hs
        refine ih (i + 1) (by omega) f (by omega) M2 (nI i) h2 (Or.inr ⟨i, rfl, by omega, hP, fun s hs' hPs => ?_⟩)
        rcases (show s = i ∨ s < i by omega) with e | e
        · rw [e]; exact ⟨Nat.le_refl _, fun _ => Nat.le_refl _⟩
        · rcases g2 with ⟨r1, r2⟩ | ⟨s0, r1, r2, r3, r4⟩
          · exact absurd hPs (r2 s e)
          · have c1 := hs s0 r1 r2
            have c2 := (r4 s e hPs).1
            exact ⟨by omega, fun q => by omega⟩
      have chk : nI i &&& (M 0 20 ||| ((1 : Int32) <<< (nI w &&& 31))) = 0 → (∀ s0, best = nI s0 → s0 < i → zq_pc i < zq_pc s0) → ∃ res M', F_X8_blanket_86 (F_X8_blanket_41 f) M1 (nI w) v (nI K) best (nI i) = some (res, M') ∧ zb_best (2 ^ n) (zb_P n M w v K) res ∧ zf M M' := by
        intro q1 hs
        unfold F_X8_blanket_86 F_X8_blanket_91 F_X8_blanket_135 F_X8_blanket_137
        simp only [zp_let]
        rw [zp_i1]
        obtain ⟨M2, m0, m1, m2, -⟩ := zl_begins M1 hx1.1 a3
        have m1' : zp_ag n (M2 12) (zj n (zQ M) (M 0 19) (M 0 20 ||| nI i) (M 0 18) 0) := fun j hj => by rw [m1 j hj, g1.2 9 (by decide) (by decide) (by decide) (by decide)]; rfl
        obtain ⟨M3, v0, v1, v2⟩ := zl_passes (zf_x m2 hx1) (sh := M 0 19) (mi := M 0 20 ||| nI i) (h := M 0 18) (by rw [m2.1, g1.1]) hK m1'
        have g3 : zf M M3 := zf_t (zf_t g1 m2) v2
        rw [m0, zp_bd, m2.1, g1.1, v0, zp_bd, zp_ck (by omega) (by decide), nI_clamp (by omega), v1 w hw, zp_1]
        by_cases q3 : zj n (zQ M) (M 0 19) (M 0 20 ||| nI i) (M 0 18) K w < v
        · rw [if_pos q3]; exact skip M3 g3 (fun q => absurd q3 q.2)
        · rw [if_neg q3]; exact take M3 g3 ⟨q1, q3⟩ hs
      have no : ∀ P : (zb_P n M w v K i → ∃ s0, best = nI s0 ∧ s0 < i ∧ zb_P n M w v K s0 ∧ zq_pc s0 ≤ zq_pc i), ∃ res M', F_X8_blanket_90 (F_X8_blanket_41 f) M1 (nI w) v (nI K) best (nI i) = some (res, M') ∧ zb_best (2 ^ n) (zb_P n M w v K) res ∧ zf M M' := by
        intro P
        unfold F_X8_blanket_90 F_X8_blanket_91 F_X8_blanket_137
        rw [zp_i0]
        simp only [zp_let]
        rw [zp_1]
        exact skip M1 g1 P
      rw [F_X8_blanket_41_n]; unfold F_X8_blanket_41_s
      rw [g1.1, a2, zo_pw n a3, if_neg (nI_ge (by omega) (by omega))]
      by_cases q1 : nI i &&& (M 0 20 ||| ((1 : Int32) <<< (nI w &&& 31))) = 0
      · rw [if_pos q1]
        rcases id g2 with ⟨r1, r2⟩ | ⟨s0, r1, r2, r3, r4⟩
        · rw [if_pos r1]
          exact chk q1 (fun s0 e hs0 => absurd (e.symm.trans r1) (zp_n9 (by omega)))
        · rw [if_neg (show ¬ best = -9 from fun q => zp_n9 (i := s0) (by omega) (r1.symm.trans q)), zq_pcB i (by omega), zp_bd]
          rw [show F_X8_many best = some (nI (zq_pc s0)) from by rw [r1]; exact zq_pcB s0 (by omega), zp_bd]
          have p1 := zq_pc8 i
          have p2 := zq_pc8 s0
          by_cases q2 : zq_pc s0 ≤ zq_pc i
          · rw [if_pos (nI_le q2 (by omega))]
            exact no (fun _ => ⟨s0, r1, r2, r3, q2⟩)
          · rw [if_neg (nI_ge (by omega) (by omega))]
            refine chk q1 (fun s1 e hs1 => ?_)
            have : s1 = s0 := (nI_eq (by omega) (by omega)).mp (by rw [← e, ← r1])
            rw [this]; omega
      · rw [if_neg q1]
        exact no (fun q => absurd q.1 q1)
  exact key (2 ^ n) 0 (by omega) 1000 (by omega) M (-9) (zf_r M) (Or.inl ⟨rfl, fun s hs => absurd hs (by omega)⟩)
theorem zo_blanket {Xm : Ob} {tr : Int64} {Tx Pr Sg Im0 Im1 Yt M : Ob} {mt : Int64} (h : zr Xm tr Tx Pr Sg Im0 Im1 Yt M mt) (Ah Tn : Ob) (x y z : Int32) : ∃ r Tn' M', F_X7_blanket Pr Yt Ah Tn x y z = some (r, Tn') ∧ F_X8_blanket M x y z = some (r, M') ∧ zr Xm tr Tx Pr Sg Im0 Im1 Yt M' mt := by
  obtain ⟨n, a, b, c, d, e, f⟩ := id h
  obtain ⟨⟨a1, a2, a3, a4⟩, -⟩ := id a
  unfold F_X7_blanket F_X8_blanket
  rcases zq_wall a1 a2 a3 x with ⟨w, hw, rfl, e3, e4⟩ | ⟨e3, e4⟩
  · rw [e3, e4, zp_bd, zp_bd, zp_i1, zp_i1]
    rcases zq_rng y (N := 999) (by decide) with ⟨v, hv, rfl, e1, e2⟩ | ⟨e1, e2⟩
    · rw [show F_X7_isWithin (nI v) 999 = _ from e1, show F_X8_in (nI v).toInt64 0 999 = _ from e2, zp_bd, zp_bd, zp_i1, zp_i1]
      rcases zq_rng z (N := 20) (by decide) with ⟨K, hK, rfl, e5, e6⟩ | ⟨e5, e6⟩
      · rw [show F_X7_isWithin (nI K) 20 = _ from e5, show F_X8_in (nI K).toInt64 0 20 = _ from e6, zp_bd, zp_bd, zp_i1, zp_i1]
        obtain ⟨res, M', m1, m2, m3⟩ := zm_blk a b hw (nI v) (show K < 1000 by omega)
        obtain ⟨Tn', k1⟩ := zc_blk a b Ah hw (nI v) (show K < 1000 by omega) m2 Tn
        exact ⟨res, Tn', M', k1, m1, zf_zr h m3⟩
      · rw [show F_X7_isWithin z 20 = _ from e5, show F_X8_in z.toInt64 0 20 = _ from e6, zp_bd, zp_bd, zp_i0, zp_i0]; exact ⟨_, _, _, rfl, rfl, h⟩
    · rw [show F_X7_isWithin y 999 = _ from e1, show F_X8_in y.toInt64 0 999 = _ from e2, zp_bd, zp_bd, zp_i0, zp_i0]; exact ⟨_, _, _, rfl, rfl, h⟩
  · rw [e3, e4, zp_bd, zp_bd, zp_i0, zp_i0]; exact ⟨_, _, _, rfl, rfl, h⟩
