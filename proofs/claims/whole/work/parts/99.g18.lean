/-! A WORLD JUST MADE: its bounds, and that it is the reference's -/
theorem wB_r {o k B : Nat} (q : wB o k = some B) : o < 119 ∧ 0 < B ∧ B < 1000 := by
  unfold wB at q
  by_cases c0 : o = 0
  · rw [if_pos c0] at q
    by_cases d : k = 6
    · rw [if_pos d] at q; cases q; omega
    · rw [if_neg d] at q; cases q
  rw [if_neg c0] at q
  by_cases c1 : o = 1
  · rw [if_pos c1] at q
    by_cases d : k = 8
    · rw [if_pos d] at q; cases q; omega
    · rw [if_neg d] at q; cases q
  rw [if_neg c1] at q
  by_cases c2 : o = 2
  · rw [if_pos c2] at q
    cases q; omega
  rw [if_neg c2] at q
  by_cases c3 : o = 3
  · rw [if_pos c3] at q
    cases q; omega
  rw [if_neg c3] at q
  by_cases c4 : o = 9
  · rw [if_pos c4] at q
    by_cases d : k = 8
    · rw [if_pos d] at q; cases q; omega
    · rw [if_neg d] at q; cases q
  rw [if_neg c4] at q
  by_cases c5 : o = 10
  · rw [if_pos c5] at q
    cases q; omega
  rw [if_neg c5] at q
  by_cases c6 : o = 11
  · rw [if_pos c6] at q
    cases q; omega
  rw [if_neg c6] at q
  by_cases c7 : o = 18
  · rw [if_pos c7] at q
    by_cases d : k = 17
    · rw [if_pos d] at q; cases q; omega
    · rw [if_neg d] at q; cases q
  rw [if_neg c7] at q
  by_cases c8 : o = 19
  · rw [if_pos c8] at q
    cases q; omega
  rw [if_neg c8] at q
  by_cases c9 : o = 20
  · rw [if_pos c9] at q
    cases q; omega
  rw [if_neg c9] at q
  by_cases c10 : o = 32
  · rw [if_pos c10] at q
    cases q; omega
  rw [if_neg c10] at q
  by_cases c11 : o = 33
  · rw [if_pos c11] at q
    cases q; omega
  rw [if_neg c11] at q
  by_cases c12 : o < 35
  · rw [if_pos c12] at q
    cases q
  rw [if_neg c12] at q
  by_cases c13 : o < 75
  · rw [if_pos c13] at q
    cases q; omega
  rw [if_neg c13] at q
  by_cases c14 : o = 75
  · rw [if_pos c14] at q
    cases q
  rw [if_neg c14] at q
  by_cases c15 : o < 116
  · rw [if_pos c15] at q
    cases q; omega
  rw [if_neg c15] at q
  by_cases c16 : o = 116
  · rw [if_pos c16] at q
    by_cases d : k = 1
    · rw [if_pos d] at q; cases q; omega
    · rw [if_neg d] at q; cases q
  rw [if_neg c16] at q
  by_cases c17 : o = 117
  · rw [if_pos c17] at q
    cases q; omega
  rw [if_neg c17] at q
  cases q
theorem wI_fresh {τ : pr_I} (h0 : ∀ o, o < 119 → τ o = fun _ => 0) : wI τ := fun o k B q => by
  obtain ⟨a, b, c⟩ := wB_r q
  rw [h0 o a]
  exact nI_vin (k := 0) b (by omega)
theorem fresh_WX {I : pr_I} {t : Nat} {μ : pr_I} {ν : Nat → Int64} {h : Nat → Int32} (hm : mI μ) (h1 : μ 1 = bg_row h) : WX (snw I t) μ ∧ NM ν (μ 1) (ndn (snw I t)) := by
  have hw : wI (snw I t) := wI_fresh (fun o ho => snw_0 ho)
  have ld : LD (snw I t) ν (μ 1) 0 0 := by
    rw [h1]
    exact LD.fresh (fun o ho => snw_0 ho) (fun j hj => snw_s hj)
  refine ⟨ld.wx hw hm, ?_⟩
  rw [ld.nn]
  exact ld.2.2.2.2
