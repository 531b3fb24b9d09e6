/-! A WORLD JUST MADE against the reference's first row -/
theorem LD.fresh {τ : pr_I} {ν : Nat → Int64} {h : Nat → Int32} (h0 : ∀ o, o < 119 → τ o = fun _ => 0) (h1 : ∀ j, j < 5 → τ 119 j = pr_sv 0 j) : LD τ ν (bg_row h) 0 0 := by
  have z : ∀ o k, o < 119 → τ o k = 0 := fun o k ho => by rw [h0 o ho]
  have sv0 : ∀ j, j < 5 → pr_sv 0 j = bg_row h (1 + j) := fun j hj => by
    rcases (by omega : j = 0 ∨ j = 1 ∨ j = 2 ∨ j = 3 ∨ j = 4) with rfl | rfl | rfl | rfl | rfl <;> rfl
  refine ⟨⟨⟨z 0 6 (by decide), rfl, by decide⟩, ⟨z 1 8 (by decide), rfl, by decide⟩, ⟨z 0 7 (by decide), rfl⟩, ⟨z 18 17 (by decide), rfl⟩, ⟨z 9 8 (by decide), rfl⟩⟩, ⟨fun j hj => (h1 j hj).trans (sv0 j hj), ?_⟩, fun i hi => absurd hi (by omega), fun j h1 h2 => ?_, ⟨fun i hi => absurd hi (by omega), fun i j _ hj => absurd hj (by omega)⟩⟩
  · unfold Se
    rw [h1 0 (by decide), h1 1 (by decide), h1 2 (by decide), h1 3 (by decide), h1 4 (by decide)]
    decide
  · unfold bg_row
    rw [if_neg (by omega), if_neg (by omega), if_neg (by omega), if_neg (by omega), if_neg (by omega), if_pos (by omega)]
theorem snw_0 {I : pr_I} {t o : Nat} (ho : o < 119) : snw I t o = fun _ => 0 := nwI_o ho
theorem snw_s {I : pr_I} {t j : Nat} (hj : j < 5) : snw I t 119 j = pr_sv 0 j := by
  show nwI I t (t + 119) j = _
  rw [nwI_s]
  unfold va_cpy
  rw [if_pos ⟨Nat.zero_le _, by omega⟩]
  congr 1
  omega
/-! A WORLD JUST MADE: its bounds, and that it is the reference's -/
theorem wB_r {o k B : Nat} (q : wB o k = some B) : o < 119 ∧ 0 < B ∧ B < 1000 := by
  unfold wB at q
  by_cases c0 : o = 0
  · rw [if_pos c0] at q
    by_cases d : k = 6
    · rw [if_pos d] at q; cases q; omega
    · rw [if_neg d] at q; cases q
  rw [if_neg c0] at q
  by_cases c1 : o = 1
  · rw [if_pos c1] at q
    by_cases d : k = 8
    · rw [if_pos d] at q; cases q; omega
    · rw [if_neg d] at q; cases q
  rw [if_neg c1] at q
  by_cases c2 : o = 2
  · rw [if_pos c2] at q
    cases q; omega
  rw [if_neg c2] at q
  by_cases c3 : o = 3
  · rw [if_pos c3] at q
    cases q; omega
  rw [if_neg c3] at q
  by_cases c4 : o = 9
  · rw [if_pos c4] at q
    by_cases d : k = 8
    · rw [if_pos d] at q; cases q; omega
    · rw [if_neg d] at q; cases q
  rw [if_neg c4] at q
  by_cases c5 : o = 10
  · rw [if_pos c5] at q
    cases q; omega
  rw [if_neg c5] at q
  by_cases c6 : o = 11
  · rw [if_pos c6] at q
    cases q; omega
  rw [if_neg c6] at q
  by_cases c7 : o = 18
  · rw [if_pos c7] at q
    by_cases d : k = 17
    · rw [if_pos d] at q; cases q; omega
    · rw [if_neg d] at q; cases q
  rw [if_neg c7] at q
  by_cases c8 : o = 19
  · rw [if_pos c8] at q
    cases q; omega
  rw [if_neg c8] at q
  by_cases c9 : o = 20
  · rw [if_pos c9] at q
    cases q; omega
  rw [if_neg c9] at q
  by_cases c10 : o = 32
  · rw [if_pos c10] at q
    cases q; omega
  rw [if_neg c10] at q
  by_cases c11 : o = 33
  · rw [if_pos c11] at q
    cases q; omega
  rw [if_neg c11] at q
  by_cases c12 : o < 35
  · rw [if_pos c12] at q
    cases q
  rw [if_neg c12] at q
  by_cases c13 : o < 75
  · rw [if_pos c13] at q
    cases q; omega
  rw [if_neg c13] at q
  by_cases c14 : o = 75
  · rw [if_pos c14] at q
    cases q
  rw [if_neg c14] at q
  by_cases c15 : o < 116
  · rw [if_pos c15] at q
    cases q; omega
  rw [if_neg c15] at q
  by_cases c16 : o = 116
  · rw [if_pos c16] at q
    by_cases d : k = 1
    · rw [if_pos d] at q; cases q; omega
    · rw [if_neg d] at q; cases q
  rw [if_neg c16] at q
  by_cases c17 : o = 117
  · rw [if_pos c17] at q
    cases q; omega
  rw [if_neg c17] at q
  cases q
theorem wI_fresh {τ : pr_I} (h0 : ∀ o, o < 119 → τ o = fun _ => 0) : wI τ := fun o k B q => by
  obtain ⟨a, b, c⟩ := wB_r q
  rw [h0 o a]
  exact nI_vin (k := 0) b (by omega)
theorem fresh_WX {I : pr_I} {t : Nat} {μ : pr_I} {ν : Nat → Int64} {h : Nat → Int32} (hm : mI μ) (h1 : μ 1 = bg_row h) : WX (snw I t) μ ∧ NM ν (μ 1) (ndn (snw I t)) := by
  have hw : wI (snw I t) := wI_fresh (fun o ho => snw_0 ho)
  have ld : LD (snw I t) ν (μ 1) 0 0 := by
    rw [h1]
    exact LD.fresh (fun o ho => snw_0 ho) (fun j hj => snw_s hj)
  refine ⟨ld.wx hw hm, ?_⟩
  rw [ld.nn]
  exact ld.2.2.2.2
theorem vp0 {B : Nat} (h : 0 < B) : vp_in (0 : Int32) B := fun q => q.elim (fun z => absurd z (by decide)) (fun z => by
  have : (0 : Int32).toNatClampNeg = 0 := by decide
  omega)
theorem mB_pos {o j B : Nat} (e : mB o j = some B) : o < 16 ∧ 0 < B := by
  unfold mB at e
  by_cases c0 : o = 0
  · rw [if_pos c0] at e
    by_cases c : j = 17
    · rw [if_pos c] at e; cases e; omega
    · rw [if_neg c] at e; cases e
  rw [if_neg c0] at e
  by_cases c6 : o < 6
  · rw [if_pos c6] at e
    have := vp_in_lt (bg_in (h := fun _ => 0) j B e)
    omega
  rw [if_neg c6] at e
  by_cases c10 : o = 10
  · rw [if_pos c10] at e; cases e; omega
  rw [if_neg c10] at e
  by_cases c13 : o = 13
  · rw [if_pos c13] at e; cases e; omega
  rw [if_neg c13] at e
  by_cases c14 : o = 14
  · rw [if_pos c14] at e; cases e; omega
  rw [if_neg c14] at e
  cases e
theorem mI_start {μ : pr_I} {h : Nat → Int32} (h1 : μ 1 = bg_row h) (h0 : ∀ o, o ≠ 1 → o < 16 → μ o = fun _ => 0) : mI μ := fun o j B e => by
  obtain ⟨a, b⟩ := mB_pos e
  by_cases c1 : o = 1
  · subst c1
    rw [h1]
    exact bg_in j B e
  · rw [h0 o c1 a]; exact vp0 b
section IX7
variable {I : pr_I} {t o b : Nat}
theorem ix_w (ho : o < 119) : iX7 I t (t + o) = fun _ => 0 := by
  unfold iX7
  rw [zI_out (by omega), zI_out (by omega), pr_row_ne (by omega), nwI_out (by omega), nwI_o ho]
theorem ix_ws : iX7 I t (t + 119) = va_cpy (pr_sv 0) (fun _ => 0) 0 0 5 := by
  unfold iX7
  rw [zI_out (by omega), zI_out (by omega), pr_row_ne (by omega), nwI_out (by omega), nwI_s]
theorem ix_v (ho : o < 119) : iX7 I t (t + 121 + o) = fun _ => 0 := by
  unfold iX7
  rw [zI_out (by omega), zI_out (by omega), pr_row_ne (by omega), nwI_o ho]
theorem ix_f (h1 : t + 243 ≤ b) (h2 : b < t + 248) : iX7 I t b = fun _ => 0 := by
  unfold iX7
  rw [zI_out (by omega), zI_in h1 (by omega)]
theorem ix_y (h1 : t + 248 ≤ b) (h2 : b < t + 250) : iX7 I t b = fun _ => 0 := by
  unfold iX7
  rw [zI_in h1 (by omega)]
end IX7
