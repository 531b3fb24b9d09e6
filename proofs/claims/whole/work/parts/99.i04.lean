/-! THE LAW'S STATE AT THE START -/
theorem vp0 {B : Nat} (h : 0 < B) : vp_in (0 : Int32) B := fun q => q.elim (fun z => absurd z (by decide)) (fun z => by
  have : (0 : Int32).toNatClampNeg = 0 := by decide
  omega)
theorem mB_pos {o j B : Nat} (e : mB o j = some B) : o < 16 ∧ 0 < B := by
  unfold mB at e
  by_cases c0 : o = 0
  · rw [if_pos c0] at e
    by_cases c : j = 17
    · rw [if_pos c] at e; cases e; omega
    · rw [if_neg c] at e; cases e
  rw [if_neg c0] at e
  by_cases c6 : o < 6
  · rw [if_pos c6] at e
    have := vp_in_lt (bg_in (h := fun _ => 0) j B e)
    omega
  rw [if_neg c6] at e
  by_cases c10 : o = 10
  · rw [if_pos c10] at e; cases e; omega
  rw [if_neg c10] at e
  by_cases c13 : o = 13
  · rw [if_pos c13] at e; cases e; omega
  rw [if_neg c13] at e
  by_cases c14 : o = 14
  · rw [if_pos c14] at e; cases e; omega
  rw [if_neg c14] at e
  cases e
theorem mI_start {μ : pr_I} {h : Nat → Int32} (h1 : μ 1 = bg_row h) (h0 : ∀ o, o ≠ 1 → o < 16 → μ o = fun _ => 0) : mI μ := fun o j B e => by
  obtain ⟨a, b⟩ := mB_pos e
  by_cases c1 : o = 1
  · subst c1
    rw [h1]
    exact bg_in j B e
  · rw [h0 o c1 a]; exact vp0 b
section IX7
variable {I : pr_I} {t o b : Nat}
theorem ix_w (ho : o < 119) : iX7 I t (t + o) = fun _ => 0 := by
  unfold iX7
  rw [zI_out (by omega), zI_out (by omega), pr_row_ne (by omega), nwI_out (by omega), nwI_o ho]
theorem ix_ws : iX7 I t (t + 119) = va_cpy (pr_sv 0) (fun _ => 0) 0 0 5 := by
  unfold iX7
  rw [zI_out (by omega), zI_out (by omega), pr_row_ne (by omega), nwI_out (by omega), nwI_s]
theorem ix_v (ho : o < 119) : iX7 I t (t + 121 + o) = fun _ => 0 := by
  unfold iX7
  rw [zI_out (by omega), zI_out (by omega), pr_row_ne (by omega), nwI_o ho]
theorem ix_f (h1 : t + 243 ≤ b) (h2 : b < t + 248) : iX7 I t b = fun _ => 0 := by
  unfold iX7
  rw [zI_out (by omega), zI_in h1 (by omega)]
theorem ix_y (h1 : t + 248 ≤ b) (h2 : b < t + 250) : iX7 I t b = fun _ => 0 := by
  unfold iX7
  rw [zI_in h1 (by omega)]
end IX7
/-- the memory behind both constructors and the cell for answers -/
theorem LI.start {x : Nat} {T0 T T5 : pr_T} {I0 I4 : pr_I} {L : pr_L} (hT0 : T0.1 = x + 1) (h7 : T0.2.1 x = (7, 0)) (hT : T = tX7_init T0 x) (h5k : ∀ a, a < x + 251 → T5.2.1 a = T.2.1 a) (h5r : ∀ a, a < x + 251 → T5.2.2 a = T.2.2 a) (h5m : pr_Mo T5 (x + 251)) (h5o : T5.2.1 (x + 267) = (21, 1)) (h5n : x + 268 ≤ T5.1)
    (hI : ∀ a, a < x + 251 → I4 a = iX7 I0 (x + 1) a) (hIm : ∀ o, o ≠ 1 → o < 16 → I4 (x + 251 + o) = fun _ => 0) (hI1 : I4 (x + 251 + 1) = bg_row (fun _ => 0)) : LI x T5 I4 L := by
  obtain ⟨m1, m2, m3, m4, m5, m6, m7, m8, m9⟩ := made_X7 hT0 h7
  rw [← hT] at m1 m2 m3 m4 m5 m6 m7 m8
  have hmI : mI (rg_get I4 (x + 251)) := mI_start (h := fun _ => 0) hI1 (fun o a b => hIm o a b)
  have w0 : ∀ o, o < 119 → ws_get I4 (x + 1) o = fun _ => 0 := fun o ho => by
    show I4 (x + 1 + o) = _
    rw [hI _ (by omega), ix_w ho]
  have w1 : ∀ j, j < 5 → ws_get I4 (x + 1) 119 j = pr_sv 0 j := fun j hj => by
    show I4 (x + 1 + 119) j = _
    rw [hI _ (by omega), ix_ws]
    unfold va_cpy
    rw [if_pos ⟨Nat.zero_le _, by omega⟩]
    congr 1
    omega
  have v0 : ∀ o, o < 119 → ws_get I4 (x + 122) o = fun _ => 0 := fun o ho => by
    show I4 (x + 122 + o) = _
    rw [hI _ (by omega), show x + 122 + o = x + 1 + 121 + o by omega, ix_v ho]
  have wf : wI (ws_get I4 (x + 1)) := wI_fresh w0
  have ld : LD (ws_get I4 (x + 1)) (L (x + 1 + 120)) (rg_get I4 (x + 251) 1) 0 0 := by
    rw [show rg_get I4 (x + 251) 1 = bg_row (fun _ => 0) from hI1]
    exact LD.fresh w0 w1
  have y0 : rg_get I4 (x + 249) 0 = fun _ => 0 := by
    show I4 (x + 249) = _
    rw [hI _ (by omega), ix_y (by omega) (by omega)]
  have z0 : rg_get I4 (x + 251) 0 = fun _ => 0 := hIm 0 (by decide) (by decide)
  have z6 : rg_get I4 (x + 251) 6 = fun _ => 0 := hIm 6 (by decide) (by decide)
  have f0 : ∀ o, o < 5 → rg_get I4 (x + 244) o = fun _ => 0 := fun o ho => by
    show I4 (x + 244 + o) = _
    rw [hI _ (by omega), ix_f (by omega) (by omega)]
  refine ⟨ws_get I4 (x + 1), ws_get I4 (x + 122), rg_get I4 (x + 244), rg_get I4 (x + 249), rg_get I4 (x + 251), 0, ⟨?_, ?_, ?_, (h5k _ (by omega)).trans m4, ?_, ?_, h5m, h5o, h5n⟩, ⟨ws_self, ws_self, rg_self, rg_self, rg_self⟩, ⟨ld.wx wf hmI, ?_, ?_, wI_fresh v0, ?_, ?_⟩, ?_⟩
  · obtain ⟨a0, a1, a2, a3, a4, a5⟩ := m1
    exact ⟨(h5k _ (by omega)).trans a0, by rw [h5r _ (by omega)]; exact a1, by rw [h5r _ (by omega)]; exact a2, by rw [h5r _ (by omega)]; exact a3, by rw [h5r _ (by omega)]; exact a4, by rw [h5r _ (by omega)]; exact a5⟩
  · exact ⟨fun o ho => (h5k _ (by omega)).trans (m2.1 o ho), fun o ho k b hk => by rw [h5r _ (by omega)]; exact m2.2 o ho k b hk⟩
  · exact ⟨fun o ho => (h5k _ (by omega)).trans (m3.1 o ho), fun o ho k b hk => by rw [h5r _ (by omega)]; exact m3.2 o ho k b hk⟩
  · exact ⟨(h5k _ (by omega)).trans m6.1, (h5k _ (by omega)).trans m6.2.1, (h5k _ (by omega)).trans m6.2.2.1, (h5k _ (by omega)).trans m6.2.2.2.1, (h5k _ (by omega)).trans m6.2.2.2.2.1, fun k hk => by rw [h5r _ (by omega)]; exact m6.2.2.2.2.2 k hk⟩
  · exact ⟨(h5k _ (by omega)).trans m7.1, (h5k _ (by omega)).trans m7.2.1, by rw [h5r _ (by omega)]; exact m7.2.2⟩
  · rw [ld.nn]; exact ld.2.2.2.2
  · refine ⟨by rw [y0]; rfl, by rw [z0]; rfl, by decide, fun k hk => absurd hk (by omega), by rw [y0, z0]⟩
  · intro i
    rw [f0 3 (by decide), f0 4 (by decide)]
    exact ⟨vp0 (by decide), vp0 (by decide)⟩
  · unfold in_I
    rw [y0]
    exact ⟨vp0 (by decide), vp0 (by decide)⟩
  · have n : ∀ j, T5.2.2 (x + 243) j = none := fun j => by rw [h5r _ (by omega)]; exact m5 j
    exact ⟨Or.inl ⟨n 0, by rw [z6]⟩, Or.inl ⟨n 1, by rw [z6]⟩, fun a b h _ => by rw [n 0] at h; cases h⟩
