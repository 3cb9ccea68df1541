/-! ===== PURE 4: an hour in whole numbers: nothing is below 0, nothing comes of nothing ===== -/
def zp_sm (f : Nat → Nat) : Nat → Nat
  | 0 => 0
  | n + 1 => zp_sm f n + f n
theorem zp_smc {f g : Nat → Nat} : ∀ {n : Nat}, (∀ j, j < n → f j = g j) → zp_sm f n = zp_sm g n := by
  intro n
  induction n with
  | zero => intro _; rfl
  | succ n ih => intro h; rw [zp_sm, zp_sm, ih (fun j hj => h j (by omega)), h n (by omega)]
theorem zp_smu {f : Nat → Nat} {i x : Nat} : ∀ {n : Nat}, i < n → zp_sm (fun j => if j = i then x else f j) n + f i = zp_sm f n + x := by
  intro n
  induction n with
  | zero => intro h; omega
  | succ n ih =>
    intro h
    rw [zp_sm, zp_sm]
    by_cases e : i = n
    · subst e
      rw [zp_smc (f := fun j => if j = i then x else f j) (g := f) (fun j hj => by rw [if_neg (by omega)]), if_pos rfl]
      omega
    · have := ih (by omega)
      rw [if_neg (by omega)]
      omega
theorem zp_smm (f : Nat → Nat) {a : Nat} : ∀ {b : Nat}, a ≤ b → zp_sm f a ≤ zp_sm f b := by
  intro b
  induction b with
  | zero => intro h; have : a = 0 := by omega
            subst this; exact Nat.le_refl _
  | succ b ih =>
    intro h
    by_cases e : a = b + 1
    · subst e; exact Nat.le_refl _
    · have := ih (by omega)
      rw [zp_sm]; omega
theorem zp_sml {f g : Nat → Nat} : ∀ {n : Nat}, (∀ j, j < n → f j ≤ g j) → zp_sm f n ≤ zp_sm g n := by
  intro n
  induction n with
  | zero => intro _; exact Nat.le_refl _
  | succ n ih => intro h; have h1 := ih (fun j hj => h j (by omega)); have h2 := h n (by omega); rw [zp_sm, zp_sm]; omega
theorem zp_sma (f g : Nat → Nat) : ∀ n : Nat, zp_sm (fun j => f j + g j) n = zp_sm f n + zp_sm g n := by
  intro n
  induction n with
  | zero => rfl
  | succ n ih => rw [zp_sm, zp_sm, zp_sm, ih]; omega
theorem zp_sme (f : Nat → Nat) {i : Nat} : ∀ {n : Nat}, i < n → f i ≤ zp_sm f n := by
  intro n
  induction n with
  | zero => intro h; omega
  | succ n ih =>
    intro h
    rw [zp_sm]
    by_cases e : i = n
    · subst e; omega
    · have := ih (by omega); omega
theorem zp_smk (c : Nat) : ∀ n : Nat, zp_sm (fun _ => c) n = n * c := by
  intro n
  induction n with
  | zero => simp [zp_sm]
  | succ n ih => rw [zp_sm, ih, Nat.succ_mul]
/-- shares are no more than what is shared -/
theorem zh_shares (g : Nat) (p : Nat → Nat) : ∀ n : Nat, 10 * zp_sm (fun o => g * p o / 10) n ≤ g * zp_sm p n := by
  intro n
  induction n with
  | zero => simp [zp_sm]
  | succ n ih =>
    rw [zp_sm, zp_sm, Nat.mul_add, Nat.mul_add]
    have : 10 * (g * p n / 10) ≤ g * p n := Nat.mul_div_le _ _
    omega
theorem zh_inN (sh mi : Int32) {n i g : Nat} {p : Nat → Nat} {ps : Nat → Int32} (hi : i < n) (hp : ∀ o, o < n → ps (6 * i + o) = nI (p o)) (hp10 : zp_sm p n ≤ 10) (hg : g < 2 ^ 27) {T0 : Nat → Int32} {t0 : Nat → Nat} (h0 : ∀ w, w < n → T0 w = nI (t0 w)) : ∀ o, o ≤ n → ∃ (t : Nat → Nat) (l : Nat), (∀ w, w < n → (zh_in sh mi ps (nI g) i o (T0, nI g)).1 w = nI (t w)) ∧ (zh_in sh mi ps (nI g) i o (T0, nI g)).2 = nI l ∧ zp_sm t n + l = zp_sm t0 n + g ∧ g ≤ l + zp_sm (fun o => g * p o / 10) o ∧ (∀ w, w < n → t0 w ≤ t w) := by
  have hs : zp_sm (fun o => g * p o / 10) n ≤ g := by
    have h1 := zh_shares g p n
    have h2 : g * zp_sm p n ≤ g * 10 := Nat.mul_le_mul_left g hp10
    omega
  intro o
  induction o with
  | zero => intro _; exact ⟨t0, g, h0, rfl, rfl, by rw [zp_sm]; omega, fun _ _ => Nat.le_refl _⟩
  | succ o ih =>
    intro ho
    obtain ⟨t, l, a1, a2, a3, a4, a5⟩ := ih (by omega)
    have hpo : p o ≤ 10 := Nat.le_trans (zp_sme p (show o < n by omega)) hp10
    have hm := zp_smm (fun o => g * p o / 10) (show o + 1 ≤ n by omega)
    rw [zp_sm] at hm
    have e10 : g * p o < 2 ^ 31 := Nat.lt_of_le_of_lt (Nat.mul_le_mul_left g hpo) (by omega)
    have hx : nI g * ps (6 * i + o) / 10 = nI (g * p o / 10) := by
      rw [hp o (by omega), pk_mul, show (10 : Int32) = nI 10 from rfl, pk_div e10 (by decide) (by decide)]
    rw [zh_in, hx]
    generalize hq : g * p o / 10 = x at *
    generalize zh_in sh mi ps (nI g) i o (T0, nI g) = r at *
    obtain ⟨T, lf⟩ := r
    dsimp only at a1 a2 ⊢
    subst a2
    have key : ∀ j, j < n → ∃ (t' : Nat → Nat) (l' : Nat), (∀ w, w < n → (upd T j (T j + nI x)) w = nI (t' w)) ∧ nI l - nI x = nI l' ∧ zp_sm t' n + l' = zp_sm t0 n + g ∧ g ≤ l' + (zp_sm (fun o => g * p o / 10) o + x) ∧ (∀ w, w < n → t0 w ≤ t' w) := by
      intro j hj
      refine ⟨fun w => if w = j then t j + x else t w, l - x, ?_, pk_sub (by omega), ?_, by omega, ?_⟩
      · intro w hw
        by_cases e : w = j
        · subst e; rw [zp_us, a1 w hw, nI_add]; simp
        · rw [zp_un _ _ e, a1 w hw]; simp [e]
      · have := zp_smu (f := t) (i := j) (x := t j + x) hj
        omega
      · intro w hw
        by_cases e : w = j
        · subst e; have := a5 w hw; simp; omega
        · simp [e]; exact a5 w hw
    rw [zp_sm, hq]
    by_cases h1 : zp_bt mi o = 1
    · rw [if_pos h1]; exact key i hi
    · rw [if_neg h1]
      by_cases h2 : zp_bt sh o = 0
      · rw [if_pos h2]; exact key o (by omega)
      · rw [if_neg h2]
        exact ⟨t, l, a1, rfl, a3, by omega, a5⟩
theorem zh_outN (sh mi : Int32) {n : Nat} {v r : Nat → Nat} {p : Nat → Nat → Nat} {rt ps wm : Nat → Int32} (hp : ∀ i o, i < n → o < n → ps (6 * i + o) = nI (p i o)) (hp10 : ∀ i, i < n → zp_sm (p i) n ≤ 10) (hr : ∀ w, w < n → rt w = nI (r w) ∧ r w ≤ 9) (hw : ∀ w, w < n → wm w = nI (v w) ∧ v w < 2 ^ 27) {T0 : Nat → Int32} {t0 : Nat → Nat} (h0 : ∀ w, w < n → T0 w = nI (t0 w) ∧ v w ≤ t0 w) : ∀ i, i ≤ n → ∃ t : Nat → Nat, (∀ w, w < n → (zh_out sh mi rt ps wm n i (T0, 0)).1 w = nI (t w)) ∧ zp_sm t n ≤ zp_sm t0 n ∧ (∀ w, w < n → i ≤ w → v w ≤ t w) := by
  intro i
  induction i with
  | zero => intro _; exact ⟨t0, fun w hw => (h0 w hw).1, Nat.le_refl _, fun w hw _ => (h0 w hw).2⟩
  | succ i ih =>
    intro hi
    obtain ⟨t, a1, a2, a3⟩ := ih (by omega)
    rw [zh_out]
    generalize zh_out sh mi rt ps wm n i (T0, 0) = q at *
    obtain ⟨T, d⟩ := q
    dsimp only at a1 ⊢
    obtain ⟨g, hg1, hg2⟩ : ∃ g : Nat, zh_g sh rt wm i = nI g ∧ g ≤ v i := by
      unfold zh_g
      by_cases hb : zp_bt sh i = 1
      · rw [if_pos hb]; exact ⟨0, rfl, by omega⟩
      · rw [if_neg hb]
        obtain ⟨b1, b2⟩ := hr i (by omega)
        obtain ⟨c1, c2⟩ := hw i (by omega)
        have h9 : v i * r i ≤ v i * 9 := Nat.mul_le_mul_left _ b2
        refine ⟨v i * r i / 10, ?_, by omega⟩
        rw [b1, c1, pk_mul, show (10 : Int32) = nI 10 from rfl, pk_div (by omega) (by decide) (by decide)]
    have hv := (hw i (by omega)).2
    have hti := a3 i (by omega) (Nat.le_refl _)
    rw [hg1]
    have ht0 : ∀ w, w < n → (upd T i (T i - nI g)) w = nI ((fun w => if w = i then t i - g else t w) w) := by
      intro w hw
      by_cases e : w = i
      · subst e; rw [zp_us, a1 w hw, pk_sub (by omega)]; simp
      · rw [zp_un _ _ e, a1 w hw]; simp [e]
    obtain ⟨t', l', b1, b2, b3, b4, b5⟩ := zh_inN sh mi (n := n) (i := i) (g := g) (p := p i) (ps := ps) (by omega) (fun o ho => hp i o (by omega) ho) (hp10 i (by omega)) (by omega) ht0 n (Nat.le_refl n)
    have hs := zp_smu (f := t) (i := i) (x := t i - g) (n := n) (by omega)
    refine ⟨t', b1, by omega, fun w hw hiw => ?_⟩
    have h1 := b5 w hw
    simp only [show ¬ w = i by omega, if_false] at h1
    exact Nat.le_trans (a3 w hw (by omega)) h1
/-- behind an hour: whole numbers, no more together than were there and came -/
theorem zh_TN (sh mi hr : Int32) {n : Nat} {v r k f : Nat → Nat} {p : Nat → Nat → Nat} {rt wk hs ps fu wm : Nat → Int32} (hp : ∀ i o, i < n → o < n → ps (6 * i + o) = nI (p i o)) (hp10 : ∀ i, i < n → zp_sm (p i) n ≤ 10) (hrr : ∀ w, w < n → rt w = nI (r w) ∧ r w ≤ 9) (hw : ∀ w, w < n → wm w = nI (v w) ∧ v w < 2 ^ 27) (hk : ∀ w, w < n → wk w = nI (k w)) (hf : ∀ w, w < n → fu w = nI (f w)) : ∃ t : Nat → Nat, (∀ w, w < n → zh_T n rt wk hs ps fu sh mi hr wm w = nI (t w)) ∧ zp_sm t n ≤ zp_sm (fun w => v w + k w + f w) n := by
  have hb : ∀ w, ∃ b : Nat, w < n → zh_b hr wk hs fu wm w = nI b ∧ v w ≤ b ∧ b ≤ v w + k w + f w := by
    intro w
    by_cases h : w < n
    · unfold zh_b
      rcases zp_b01 (hs w >>> (hr &&& 31)) with e | e
      · refine ⟨v w + f w, fun _ => ⟨?_, by omega, by omega⟩⟩
        rw [e, (hw w h).1, hf w h, ← nI_add]; simp
      · refine ⟨v w + k w + f w, fun _ => ⟨?_, by omega, by omega⟩⟩
        rw [e, (hw w h).1, hf w h, hk w h, ← nI_add, ← nI_add]; simp
    · exact ⟨0, fun q => absurd q h⟩
  obtain ⟨b, hb⟩ := Classical.axiomOfChoice hb
  obtain ⟨t, a1, a2, -⟩ := zh_outN sh mi (T0 := zh_b hr wk hs fu wm) (t0 := b) hp hp10 hrr hw (fun w h => ⟨(hb w h).1, (hb w h).2.1⟩) n (Nat.le_refl n)
  exact ⟨t, a1, Nat.le_trans a2 (zp_sml (fun w h => (hb w h).2.2))⟩
/-- an hour looks at the first n places alone -/
theorem zh_TA (n : Nat) {rt1 rt2 wk1 wk2 hs1 hs2 ps1 ps2 fu1 fu2 wm1 wm2 : Nat → Int32} (sh mi hr : Int32) (h1 : zp_ag n rt1 rt2) (h2 : zp_ag n wk1 wk2) (h3 : zp_ag n hs1 hs2) (h4 : ∀ w o, w < n → o < n → ps1 (6 * w + o) = ps2 (6 * w + o)) (h5 : zp_ag n fu1 fu2) (h6 : zp_ag n wm1 wm2) : zp_ag n (zh_T n rt1 wk1 hs1 ps1 fu1 sh mi hr wm1) (zh_T n rt2 wk2 hs2 ps2 fu2 sh mi hr wm2) ∧ zh_d n rt1 wk1 hs1 ps1 fu1 sh mi hr wm1 = zh_d n rt2 wk2 hs2 ps2 fu2 sh mi hr wm2 :=
  zh_outA sh mi rt1 rt2 ps1 ps2 wm1 wm2 n h1 h4 h6 _ _ 0 (fun w hw => by unfold zh_b; rw [h2 w hw, h3 w hw, h5 w hw, h6 w hw]) n (Nat.le_refl n)
