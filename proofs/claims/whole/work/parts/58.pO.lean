/-! ===== PURE 15: busy ===== -/
theorem zl_hotC {n : Nat} {Y Tn : Ob} (hY : Y 0 0 = nI n) (h6 : n ≤ 6) : ∃ b, F_X1_tooWarm Tn Y = some b ∧ (b = 0 ↔ ∀ j, j < n → Tn 1 j ≤ Y 0 1) := by
  obtain ⟨b, b1, b2, b3⟩ := zo_hotN (Y 0 1) (Tn 1) n h6
  have h64 := zq_2n h6
  refine ⟨nI b, by rw [zc_tooWarm Tn Y hY h6, b1], ?_⟩
  rw [show (nI b = 0) = (b = 0) from propext (nI_eq (a := b) (b := 0) (by omega) (by decide))]
  constructor
  · intro q j hj
    have := b3 j hj
    rw [q, Nat.zero_testBit] at this
    simpa using this.symm
  · intro q
    apply Nat.eq_of_testBit_eq
    intro i
    rw [Nat.zero_testBit]
    by_cases hi : i < n
    · rw [b3 i hi]; simp [q i hi]
    · exact Nat.testBit_lt_two_pow (Nat.lt_of_lt_of_le b2 (Nat.pow_le_pow_right (by decide) (by omega)))
/-- cool for so many hours -/
def zb_C (n : Nat) (q : Ob) (sh mi h lim : Int32) (N : Nat) : Prop := ∀ i, i < N → ∀ j, j < n → zj n q sh mi h (i + 1) j ≤ lim
theorem zc_cool (Ah Pr : Ob) {n : Nat} {q Y : Ob} (hY : zy n q Y) {sh mi h lim : Int32} (hl : Y 0 1 = lim) {Tn : Ob} (hT : zt n q sh mi h 0 Tn) : ∃ r Tn', F_X0_staysCool_7 Ah Y Pr 1000 Tn 16 0 = some (r, Tn') ∧ ((r = 1 ∧ zb_C n q sh mi h lim 16) ∨ (r = 0 ∧ ¬ zb_C n q sh mi h lim 16)) := by
  have key : ∀ (k i : Nat), i + k = 16 → ∀ f, k < f → ∀ Tn, zt n q sh mi h i Tn → zb_C n q sh mi h lim i → ∃ r Tn', F_X0_staysCool_7 Ah Y Pr f Tn 16 (nI i) = some (r, Tn') ∧ ((r = 1 ∧ zb_C n q sh mi h lim 16) ∨ (r = 0 ∧ ¬ zb_C n q sh mi h lim 16)) := by
    intro k
    induction k with
    | zero =>
      intro i hi f hf Tn hT hC
      obtain ⟨f, rfl⟩ := zp_f1 hf
      have : i = 16 := by omega
      subst this
      rw [F_X0_staysCool_7_n]; unfold F_X0_staysCool_7_s
      rw [if_pos (by decide)]
      exact ⟨_, _, rfl, Or.inl ⟨rfl, hC⟩⟩
    | succ k ih =>
      intro i hi f hf Tn hT hC
      obtain ⟨f, rfl⟩ := zp_f1 hf
      obtain ⟨dd, T1, t1, t2⟩ := zl_c hY hT
      obtain ⟨b, b1, b2⟩ := zl_hotC (Tn := T1) hY.1 hY.2.1
      rw [F_X0_staysCool_7_n]; unfold F_X0_staysCool_7_s
      simp only [zp_let]
      rw [if_neg (show ¬ (16 : Int32) ≤ nI i from nI_ge (a := i) (b := 16) (by omega) (by decide)), t1, zp_b2, b1, zp_bd, zp_1]
      by_cases q0 : b = 0
      · rw [if_pos q0]
        refine ih (i + 1) (by omega) f (by omega) T1 t2 (fun i' hi' j hj => ?_)
        rcases (show i' = i ∨ i' < i by omega) with e | e
        · rw [e, ← t2.2.2.2 j hj, ← hl]; exact b2.mp q0 j hj
        · exact hC i' e j hj
      · rw [if_neg q0]
        refine ⟨_, _, rfl, Or.inr ⟨rfl, fun hall => q0 (b2.mpr (fun j hj => ?_))⟩⟩
        rw [t2.2.2.2 j hj, hl]; exact hall i (by omega) j hj
  exact key 16 0 (by omega) 1000 (by omega) Tn hT (fun i hi => absurd hi (by omega))
/-- the most of a search, then the least -/
def zb_most (N : Nat) (P : Nat → Prop) (res : Int32) : Prop := (res = -9 ∧ ∀ s, s < N → ¬ P s) ∨ ∃ s0, res = nI s0 ∧ s0 < N ∧ P s0 ∧ ∀ s, s < N → P s → zq_pc s ≤ zq_pc s0 ∧ (zq_pc s = zq_pc s0 → s0 ≤ s)
def zb_q (M : Ob) (w : Nat) (u : Int32) : Ob := zp_row (zQ M) 4 (upd (M 7) w u)
def zb_B (n : Nat) (M : Ob) (w s : Nat) : Prop := zb_C n (zb_q M w (nI s)) (M 0 19) (M 0 20) (M 0 18) (M 0 11) 16
theorem zb_qu {n : Nat} {M Y : Ob} {w : Nat} {u : Int32} (hy : zy n (zb_q M w u) Y) (v : Int32) : zy n (zb_q M w v) (zs_up Y 4 w v) := by
  obtain ⟨a1, a2, a3, a4, a5, a6, a7⟩ := hy
  refine ⟨by simp [zp_uD, a1], a2, by simpa [zp_uD, zb_q, zp_rD] using a3, by simpa [zp_uD, zb_q, zp_rD] using a4, ?_, by simpa [zp_uD, zb_q, zp_rD] using a6, by simpa [zp_uD, zb_q, zp_rD] using a7⟩
  intro j hj
  have := a5 j hj
  unfold zb_q at this ⊢
  rw [zp_rs] at this ⊢
  rw [show (zs_up Y 4 w v) 4 = upd (Y 4) w v from by simp [zp_uD]]
  by_cases e : j = w
  · subst e; rw [zp_us, zp_us]
  · rw [zp_un _ _ e] at this ⊢; rw [zp_un _ _ e]; exact this
theorem zc_bh {n : Nat} {Pr M : Ob} (h6 : n ≤ 6) (hN : zr_N n Pr M) (Ah : Ob) {w : Nat} (hw : w < n) {m : Nat} (hm : m < 9) (Tn Yi : Ob) {u : Int32} (hy : zy n (zb_q M w u) Yi) (hl : Yi 0 1 = M 0 11) : ∃ Tn' Yi' u', zy n (zb_q M w u') Yi' ∧ Yi' 0 1 = M 0 11 ∧ (((∃ s, s < 256 ∧ zb_B n M w s ∧ zq_pc s = m ∧ (∀ s', s' < s → ¬ (zb_B n M w s' ∧ zq_pc s' = m)) ∧ F_X7_busyHours Pr Ah Tn Yi (nI w) (nI m) = some (nI s, (Tn', Yi')))) ∨ ((∀ s, s < 256 → ¬ (zb_B n M w s ∧ zq_pc s = m)) ∧ F_X7_busyHours Pr Ah Tn Yi (nI w) (nI m) = some (-9, (Tn', Yi')))) := by
  have key : ∀ (k i : Nat), i + k = 256 → ∀ f, k < f → ∀ Tn Yi u, zy n (zb_q M w u) Yi → Yi 0 1 = M 0 11 → (∀ s', s' < i → ¬ (zb_B n M w s' ∧ zq_pc s' = m)) → ∃ Tn' Yi' u', zy n (zb_q M w u') Yi' ∧ Yi' 0 1 = M 0 11 ∧ (((∃ s, s < 256 ∧ zb_B n M w s ∧ zq_pc s = m ∧ (∀ s', s' < s → ¬ (zb_B n M w s' ∧ zq_pc s' = m)) ∧ F_X7_busyHours_2 Pr Ah f Tn Yi (nI w) (nI m) (nI i) = some (nI s, (Tn', Yi')))) ∨ ((∀ s, s < 256 → ¬ (zb_B n M w s ∧ zq_pc s = m)) ∧ F_X7_busyHours_2 Pr Ah f Tn Yi (nI w) (nI m) (nI i) = some (-9, (Tn', Yi')))) := by
    intro k
    induction k with
    | zero =>
      intro i hi f hf Tn Yi u hy hl hn
      obtain ⟨f, rfl⟩ := zp_f1 hf
      have : i = 256 := by omega
      subst this
      rw [F_X7_busyHours_2_n]; unfold F_X7_busyHours_2_s
      rw [if_pos (by decide)]
      exact ⟨Tn, Yi, u, hy, hl, Or.inr ⟨hn, rfl⟩⟩
    | succ k ih =>
      intro i hi f hf Tn Yi u hy hl hn
      obtain ⟨f, rfl⟩ := zp_f1 hf
      have skip : ∀ Tn Yi u, zy n (zb_q M w u) Yi → Yi 0 1 = M 0 11 → ¬ (zb_B n M w i ∧ zq_pc i = m) → _ := fun Tn Yi u hy hl hs => ih (i + 1) (by omega) f (by omega) Tn Yi u hy hl (fun s' hs' => by
        rcases (show s' = i ∨ s' < i by omega) with e | e
        · rw [e]; exact hs
        · exact hn s' e)
      rw [F_X7_busyHours_2_n]; unfold F_X7_busyHours_2_s F_X7_busyHours_48; simp only [zp_let]
      rw [if_neg (show ¬ (255 : Int32) < nI i from fun q => by have := (nI_ltI (a := 255) (b := i) (by decide) (by omega)).mp q; omega), zq_pcA i (by omega), zp_bd, zp_1]
      by_cases q2 : zq_pc i = m
      · rw [if_pos ((zq_pcE (by omega)).mpr q2), zp_ck (by omega) (by decide), nI_clamp (by omega)]
        have hy2 := zb_qu hy (nI i)
        have hl2 : (zs_up Yi 4 w (nI i)) 0 1 = M 0 11 := by simp [zp_uD, hl]
        obtain ⟨T1, t0, t1, t2, t3, t4⟩ := zl_set Ah Tn Pr
        have z0 : zt n (zb_q M w (nI i)) (M 0 19) (M 0 20) (M 0 18) 0 T1 := zl_t0 h6 hN t1 t2 t3 t4 (by unfold zb_q; rw [zp_rn _ _ (by decide)]; rfl)
        obtain ⟨r, T2, u0, u1⟩ := zc_cool Ah Pr hy2 hl2 z0
        unfold F_X0_staysCool
        rw [t0, zp_bd, u0, zp_b2]
        rcases u1 with ⟨r1, r2⟩ | ⟨r1, r2⟩
        · rw [r1, zp_i1]
          exact ⟨_, _, _, hy2, hl2, Or.inl ⟨i, by omega, r2, q2, hn, rfl⟩⟩
        · rw [r1, zp_i0]
          exact skip T2 _ _ hy2 hl2 (fun q => r2 q.1)
      · rw [if_neg (fun q => q2 ((zq_pcE (by omega)).mp q))]
        exact skip Tn Yi u hy hl (fun q => q2 q.2)
  unfold F_X7_busyHours
  exact key 256 0 (by omega) 1000 (by omega) Tn Yi u hy hl (fun s' hs' => absurd hs' (by omega))
theorem zc_busy {n : Nat} {Pr M Yt : Ob} (h6 : n ≤ 6) (hN : zr_N n Pr M) (Ah : Ob) {w : Nat} (hw : w < n) (x2 : Int32) {res : Int32} (hr : zb_most 256 (zb_B n M w) res) (Tn Yi : Ob) {u : Int32} (hy : zy n (zb_q M w u) Yi) (hl : Yi 0 1 = M 0 11) : ∃ Tn' Yi', (res = -9 ∧ F_X7_busy_34 Pr Yt Ah 1000 Tn Yi (nI w) x2 8 = some (-9, (Tn', Yi'))) ∨ ∃ s0, s0 < 256 ∧ res = nI s0 ∧ F_X7_busy_34 Pr Yt Ah 1000 Tn Yi (nI w) x2 8 = some (if x2 = 0 then nI (zq_pc s0) else nI s0, (Tn', Yi')) := by
  have stop : ∀ f Tn Yi, (∀ s, s < 256 → ¬ zb_B n M w s) → ∃ Tn' Yi', (res = -9 ∧ F_X7_busy_34 Pr Yt Ah (f + 1) Tn Yi (nI w) x2 (-1) = some (-9, (Tn', Yi'))) ∨ ∃ s0, s0 < 256 ∧ res = nI s0 ∧ F_X7_busy_34 Pr Yt Ah (f + 1) Tn Yi (nI w) x2 (-1) = some (if x2 = 0 then nI (zq_pc s0) else nI s0, (Tn', Yi')) := by
    intro f Tn Yi hn
    rw [F_X7_busy_34_n]; unfold F_X7_busy_34_s
    rw [if_pos (by decide)]
    rcases hr with ⟨r1, r2⟩ | ⟨s0, r1, r2, r3, r4⟩
    · exact ⟨_, _, Or.inl ⟨r1, rfl⟩⟩
    · exact absurd r3 (hn s0 r2)
  have key : ∀ (i : Nat), i < 9 → ∀ f, i + 1 < f → ∀ Tn Yi u, zy n (zb_q M w u) Yi → Yi 0 1 = M 0 11 → (∀ s, s < 256 → zb_B n M w s → zq_pc s ≤ i) → ∃ Tn' Yi', (res = -9 ∧ F_X7_busy_34 Pr Yt Ah f Tn Yi (nI w) x2 (nI i) = some (-9, (Tn', Yi'))) ∨ ∃ s0, s0 < 256 ∧ res = nI s0 ∧ F_X7_busy_34 Pr Yt Ah f Tn Yi (nI w) x2 (nI i) = some (if x2 = 0 then nI (zq_pc s0) else nI s0, (Tn', Yi')) := by
    intro i
    induction i with
    | zero =>
      intro hi f hf Tn Yi u hy hl hn
      obtain ⟨f, rfl⟩ := zp_f1 hf
      obtain ⟨f, rfl⟩ := zp_f1 (show 0 < f by omega)
      rw [F_X7_busy_34_n]; unfold F_X7_busy_34_s; simp only [zp_let]
      rw [if_neg (zp_nneg (by decide))]
      obtain ⟨T', Y', u', g0, g1, hh⟩ := zc_bh h6 hN Ah hw (m := 0) (by omega) Tn Yi hy hl
      rcases hh with ⟨s, c1, c2, c3, c4, c5⟩ | ⟨c1, c2⟩
      · rw [c5, zp_b3, if_neg (zp_n9 (by omega))]
        unfold F_X7_busy_53
        rcases hr with ⟨r1, r2⟩ | ⟨s0, r1, r2, r3, r4⟩
        · exact absurd c2 (r2 s c1)
        · obtain ⟨d1, d2⟩ := r4 s c1 c2
          have d3 := hn s0 r2 r3
          have : s = s0 := by
            rcases Nat.lt_or_ge s0 s with q | q
            · exact absurd ⟨r3, by omega⟩ (c4 s0 q)
            · have := d2 (by omega); omega
          subst this
          refine ⟨T', Y', Or.inr ⟨s, c1, r1, ?_⟩⟩
          by_cases q : x2 = 0
          · rw [if_pos q, if_pos q, c3]
          · rw [if_neg q, if_neg q]
      · rw [c2, zp_b3, if_pos rfl, show nI 0 + (-1 : Int32) = -1 from rfl]
        refine stop f T' Y' (fun s hs hP => c1 s hs ⟨hP, ?_⟩)
        have := hn s hs hP; omega
    | succ i ih =>
      intro hi f hf Tn Yi u hy hl hn
      obtain ⟨f, rfl⟩ := zp_f1 hf
      rw [F_X7_busy_34_n]; unfold F_X7_busy_34_s; simp only [zp_let]
      rw [if_neg (zp_nneg (by omega))]
      obtain ⟨T', Y', u', g0, g1, hh⟩ := zc_bh h6 hN Ah hw (m := i + 1) (by omega) Tn Yi hy hl
      rcases hh with ⟨s, c1, c2, c3, c4, c5⟩ | ⟨c1, c2⟩
      · rw [c5, zp_b3, if_neg (zp_n9 (by omega))]
        unfold F_X7_busy_53
        rcases hr with ⟨r1, r2⟩ | ⟨s0, r1, r2, r3, r4⟩
        · exact absurd c2 (r2 s c1)
        · obtain ⟨d1, d2⟩ := r4 s c1 c2
          have d3 := hn s0 r2 r3
          have : s = s0 := by
            rcases Nat.lt_or_ge s0 s with q | q
            · exact absurd ⟨r3, by omega⟩ (c4 s0 q)
            · have := d2 (by omega); omega
          subst this
          refine ⟨T', Y', Or.inr ⟨s, c1, r1, ?_⟩⟩
          by_cases q : x2 = 0
          · rw [if_pos q, if_pos q, c3]
          · rw [if_neg q, if_neg q]
      · rw [c2, zp_b3, if_pos rfl, zp_m1]
        refine ih (by omega) f (by omega) T' Y' u' g0 g1 (fun s hs hP => ?_)
        have h1 := hn s hs hP
        have h2 : ¬ zq_pc s = i + 1 := fun q => c1 s hs ⟨hP, q⟩
        omega
  exact key 8 (by omega) 1000 (by omega) Tn Yi u hy hl (fun s _ _ => zq_pc8 s)
