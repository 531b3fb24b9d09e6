/-! A WORLD JUST MADE against the reference's first row -/
theorem LD.fresh {τ : pr_I} {ν : Nat → Int64} {h : Nat → Int32} (h0 : ∀ o, o < 119 → τ o = fun _ => 0) (h1 : ∀ j, j < 5 → τ 119 j = pr_sv 0 j) : LD τ ν (bg_row h) 0 0 := by
  have z : ∀ o k, o < 119 → τ o k = 0 := fun o k ho => by rw [h0 o ho]
  have sv0 : ∀ j, j < 5 → pr_sv 0 j = bg_row h (1 + j) := fun j hj => by
    rcases (by omega : j = 0 ∨ j = 1 ∨ j = 2 ∨ j = 3 ∨ j = 4) with rfl | rfl | rfl | rfl | rfl <;> rfl
  refine ⟨⟨⟨z 0 6 (by decide), rfl, by decide⟩, ⟨z 1 8 (by decide), rfl, by decide⟩, ⟨z 0 7 (by decide), rfl⟩, ⟨z 18 17 (by decide), rfl⟩, ⟨z 9 8 (by decide), rfl⟩⟩, ⟨fun j hj => (h1 j hj).trans (sv0 j hj), ?_⟩, fun i hi => absurd hi (by omega), fun j h1 h2 => ?_, ⟨fun i hi => absurd hi (by omega), fun i j _ hj => absurd hj (by omega)⟩⟩
  · unfold Se
    rw [h1 0 (by decide), h1 1 (by decide), h1 2 (by decide), h1 3 (by decide), h1 4 (by decide)]
    decide
  · unfold bg_row
    rw [if_neg (by omega), if_neg (by omega), if_neg (by omega), if_neg (by omega), if_neg (by omega), if_pos (by omega)]
theorem snw_0 {I : pr_I} {t o : Nat} (ho : o < 119) : snw I t o = fun _ => 0 := nwI_o ho
theorem snw_s {I : pr_I} {t j : Nat} (hj : j < 5) : snw I t 119 j = pr_sv 0 j := by
  show nwI I t (t + 119) j = _
  rw [nwI_s]
  unfold va_cpy
  rw [if_pos ⟨Nat.zero_le _, by omega⟩]
  congr 1
  omega
