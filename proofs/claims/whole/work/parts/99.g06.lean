/-! SMALL THINGS FOR THE LAW -/
set_option maxRecDepth 100000 in
theorem t_setSetting_1 {g : pr_C} {l : Launch} (hl : l.stackTraces = false) {T : pr_T} {I : pr_I} {L : pr_L} {x : Nat} {c : Nat} {p2 : Int32} (hc : c < 5) (hf : p2 < pr_sv 1 c ∨ ¬ p2 ≤ pr_sv 2 c) : pr_M g l 9 1 6 mX7_setSetting [.ref x, .int (nI c), .int p2] T I L pr_nv (pr_Th eIAE T I L) := by
  refine pr_ofG (by decide) rfl hl (Nat.le_of_ble_eq_true rfl) (fun X hA hX hXn hXt => ?_)
  subst hX
  have e : (nI c).toNatClampNeg = c := nI_clamp (by omega)
  show pr_G g X mX7_setSetting.2.2.1 _ 0 0 0 [.ref x, .int (nI c), .int p2, .null] [] T I L
  refine pr_iload_n hA dX7_setSetting_0 rfl ?_
  refine pr_iconst hA (0) dX7_setSetting_1 (by decide) ?_
  refine pr_iconst hA (4) dX7_setSetting_2 (by decide) ?_
  refine pr_callSv hA [.int (nI c), .int (0 : Int32), .int (4 : Int32)] (c_rr_ok (pr_hl hA) (nI_r0 (b := 4) (by omega) (by decide)).1 (nI_r0 (b := 4) (by omega) (by decide)).2) s_X7_86 rfl (by decide) (Nat.zero_le _) (Nat.zero_le _) rfl (Nat.le_of_ble_eq_true rfl) dX7_setSetting_3 ?_
  refine pr_iload_n hA dX7_setSetting_6 rfl ?_
  refine pr_gets hA 1 (by decide) kF_X7_98 dX7_setSetting_7 ?_
  refine pr_iload_n hA dX7_setSetting_10 rfl ?_
  refine pr_sald hA (by decide) (nI_vin (by omega) (by decide)) dX7_setSetting_11 ?_
  refine pr_gets hA 2 (by decide) kF_X7_101 dX7_setSetting_12 ?_
  refine pr_iload_n hA dX7_setSetting_15 rfl ?_
  refine pr_sald hA (by decide) (nI_vin (by omega) (by decide)) dX7_setSetting_16 ?_
  rw [e]
  exact pr_thS hA hXt rfl (c_rr_th (pr_hl hA) hf) s_X7_86 rfl (by decide) rfl dX7_setSetting_17
/-- two worlds apart -/
theorem ws_comm {I : pr_I} {w v : Nat} {σ τ : pr_I} (h : w + 121 ≤ v ∨ v + 121 ≤ w) : ws_put (ws_put I w σ) v τ = ws_put (ws_put I v τ) w σ := by
  funext a
  unfold ws_put
  by_cases c : w ≤ a ∧ a < w + 121
  · rw [if_pos c, if_pos c, if_neg (by omega)]
  · rw [if_neg c, if_neg c]
theorem wr_comm {I : pr_I} {w m n : Nat} {σ μ : pr_I} (h : w + 121 ≤ m ∨ m + n ≤ w) : rg_put (ws_put I w σ) m n μ = ws_put (rg_put I m n μ) w σ := by
  funext a
  unfold ws_put rg_put
  dsimp only
  by_cases c : w ≤ a ∧ a < w + 121
  · rw [if_pos c, if_pos c, if_neg (by omega)]
  · rw [if_neg c, if_neg c]
theorem rr_comm {I : pr_I} {f m k n : Nat} {φ μ : pr_I} (h : f + k ≤ m ∨ m + n ≤ f) : rg_put (rg_put I f k φ) m n μ = rg_put (rg_put I m n μ) f k φ := by
  funext a
  unfold rg_put
  by_cases c : f ≤ a ∧ a < f + k
  · rw [if_pos c, if_pos c, if_neg (by omega)]
  · rw [if_neg c, if_neg c]
section MOR
variable {g : pr_C} {X : pr_X} {nL : Nat} {Q : State → Prop} {cs cs' sl sl' pc : Nat} {ls st : List Value} {T : pr_T} {I : pr_I} {L : pr_L}
/-- what has been used may be rounded up -/
theorem pr_more (h1 : cs ≤ cs') (h2 : sl ≤ sl') (kk : pr_G g X nL Q cs' sl' pc ls st T I L) : pr_G g X nL Q cs sl pc ls st T I L := by
  obtain ⟨p, l, e, R, s, m, args, below, meth, c⟩ := X
  intro H locs lsS hR hl hS T0 hT X0
  exact kk H locs lsS hR hl hS T0 hT (X0.more h1 h2)
end MOR
