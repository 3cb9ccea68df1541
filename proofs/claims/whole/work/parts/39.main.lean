/-- PLACE-HOLDER: the pure statement -/
theorem zm_main {xs : Nat → Int32} {L : Nat} (hL : L ≤ 256) : ∃ Y0 : Ob, F_X6_makeEmpty zs_Z = some Y0 ∧ ∀ aYt aYr : Ad, F_L_law_18 xs L 1000 zs_Z 0 zs_Z zs_Z zs_Z zs_Z zs_Z zs_Z zs_Z Y0 zs_Z zs_Z Y0 Y0 zs_Md0 0 aYt aYr 0 = some 1 := sorry
