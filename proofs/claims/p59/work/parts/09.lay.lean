/-! A WORLD'S CELLS: 121 of them, from its own address on -/
def wl_K (o : Nat) : Nat × Nat :=
  if o = 0 then (6, 0) else if o = 1 then (2, 0) else if o < 9 then (20, 24) else if o = 9 then (5, 0) else if o < 18 then (20, 500) else if o = 18 then (4, 0) else if o < 34 then (20, 40) else if o = 34 then (24, 40) else if o < 75 then (20, 11) else if o = 75 then (24, 40) else if o < 116 then (20, 11) else if o = 116 then (3, 0) else if o = 117 then (20, 11) else if o = 118 then (20, 12) else if o = 119 then (20, 5) else (21, 12)
def wl_R (o k : Nat) : Option Nat :=
  if o = 0 then (if k = 0 then some 1 else if k = 1 then some 9 else if k = 2 then some 18 else if k = 3 then some 116 else if k = 4 then some 119 else if k = 5 then some 120 else none)
  else if o = 1 then (if k < 7 then some (2 + k) else none) else if o = 9 then (if k < 8 then some (10 + k) else none)
  else if o = 18 then (if k < 15 then some (19 + k) else if k = 15 then some 34 else if k = 16 then some 75 else none)
  else if o = 34 then (if k < 40 then some (35 + k) else none) else if o = 75 then (if k < 40 then some (76 + k) else none)
  else if o = 116 then (if k = 0 then some 117 else if k = 2 then some 118 else none) else none
def pr_W (T : pr_T) (w : Nat) : Prop := (∀ o, o < 121 → T.2.1 (w + o) = wl_K o) ∧ ∀ o, o < 121 → ∀ k b, wl_R o k = some b → T.2.2 (w + o) k = some (w + b)
/-- a world's ints, by offset and place -/
def ws_get (I : pr_I) (w : Nat) : pr_I := fun o => I (w + o)
def ws_put (I : pr_I) (w : Nat) (σ : pr_I) : pr_I := fun a => if w ≤ a ∧ a < w + 121 then σ (a - w) else I a
theorem ws_row {I : pr_I} {w o : Nat} {σ : pr_I} (h : o < 121) : ws_put I w σ (w + o) = σ o := by
  unfold ws_put
  rw [if_pos ⟨by omega, by omega⟩, Nat.add_sub_cancel_left]
theorem ws_row0 {I : pr_I} {w : Nat} {σ : pr_I} : ws_put I w σ w = σ 0 := ws_row (o := 0) (by decide)
theorem ws_val {I : pr_I} {w o k : Nat} {σ : pr_I} (h : o < 121) : ws_put I w σ (w + o) k = σ o k := by rw [ws_row h]
theorem ws_val0 {I : pr_I} {w k : Nat} {σ : pr_I} : ws_put I w σ w k = σ 0 k := by rw [ws_row0]
theorem pr_upv {I : pr_I} {a b k j : Nat} {v : Int32} (h : b ≠ a) : pr_up I a k v b j = I b j := by rw [pr_up_ne h]
theorem pr_upe {I : pr_I} {a k : Nat} {v : Int32} : pr_up I a k v a k = v := by simp [pr_up]
theorem ws_out {I : pr_I} {w a : Nat} {σ : pr_I} (h : a < w ∨ w + 121 ≤ a) : ws_put I w σ a = I a := by
  unfold ws_put
  rw [if_neg (by omega)]
theorem ws_up {I : pr_I} {w o k : Nat} {σ : pr_I} {v : Int32} (h : o < 121) : pr_up (ws_put I w σ) (w + o) k v = ws_put I w (pr_up σ o k v) := by
  funext a j
  unfold pr_up ws_put
  by_cases ha : w ≤ a ∧ a < w + 121
  · simp only [if_pos ha]
    have : (a = w + o) ↔ (a - w = o) := by omega
    simp only [this]
  · simp only [if_neg ha]
    have : ¬ (a = w + o) := by omega
    simp [this]
theorem ws_up0 {I : pr_I} {w k : Nat} {σ : pr_I} {v : Int32} : pr_up (ws_put I w σ) w k v = ws_put I w (pr_up σ 0 k v) := ws_up (o := 0) (by decide)
theorem ws_put_row {I : pr_I} {w o : Nat} {σ : pr_I} {f : Nat → Int32} (h : o < 121) : pr_row (ws_put I w σ) (w + o) f = ws_put I w (pr_row σ o f) := by
  funext a
  unfold pr_row ws_put
  by_cases ha : w ≤ a ∧ a < w + 121
  · simp only [if_pos ha]
    have : (a = w + o) ↔ (a - w = o) := by omega
    simp only [this]
  · simp only [if_neg ha]
    have : ¬ (a = w + o) := by omega
    simp [this]
theorem ws_put_put {I : pr_I} {w : Nat} {σ τ : pr_I} : ws_put (ws_put I w σ) w τ = ws_put I w τ := by
  funext a
  unfold ws_put
  by_cases ha : w ≤ a ∧ a < w + 121
  · simp only [if_pos ha]
  · simp only [if_neg ha]
theorem ws_self {I : pr_I} {w : Nat} : ws_put I w (ws_get I w) = I := by
  funext a
  unfold ws_put ws_get
  by_cases ha : w ≤ a ∧ a < w + 121
  · simp only [if_pos ha, Nat.add_sub_cancel' ha.1]
  · simp only [if_neg ha]
theorem ws_get_put {I : pr_I} {w o : Nat} {σ : pr_I} (h : o < 121) : ws_get (ws_put I w σ) w o = σ o := ws_row h
theorem wk_0 {T : pr_T} {w : Nat} (h : pr_W T w) : T.2.1 w = (6, 0) := h.1 0 (by decide)
theorem wk_1 {T : pr_T} {w : Nat} (h : pr_W T w) : T.2.1 (w + 1) = (2, 0) := h.1 1 (by decide)
theorem wk_9 {T : pr_T} {w : Nat} (h : pr_W T w) : T.2.1 (w + 9) = (5, 0) := h.1 9 (by decide)
theorem wk_18 {T : pr_T} {w : Nat} (h : pr_W T w) : T.2.1 (w + 18) = (4, 0) := h.1 18 (by decide)
theorem wk_116 {T : pr_T} {w : Nat} (h : pr_W T w) : T.2.1 (w + 116) = (3, 0) := h.1 116 (by decide)
theorem wk_2 {T : pr_T} {w : Nat} (h : pr_W T w) : T.2.1 (w + 2) = (20, 24) := h.1 2 (by decide)
theorem wk_3 {T : pr_T} {w : Nat} (h : pr_W T w) : T.2.1 (w + 3) = (20, 24) := h.1 3 (by decide)
theorem wk_4 {T : pr_T} {w : Nat} (h : pr_W T w) : T.2.1 (w + 4) = (20, 24) := h.1 4 (by decide)
theorem wk_5 {T : pr_T} {w : Nat} (h : pr_W T w) : T.2.1 (w + 5) = (20, 24) := h.1 5 (by decide)
theorem wk_6 {T : pr_T} {w : Nat} (h : pr_W T w) : T.2.1 (w + 6) = (20, 24) := h.1 6 (by decide)
theorem wk_7 {T : pr_T} {w : Nat} (h : pr_W T w) : T.2.1 (w + 7) = (20, 24) := h.1 7 (by decide)
theorem wk_8 {T : pr_T} {w : Nat} (h : pr_W T w) : T.2.1 (w + 8) = (20, 24) := h.1 8 (by decide)
theorem wk_10 {T : pr_T} {w : Nat} (h : pr_W T w) : T.2.1 (w + 10) = (20, 500) := h.1 10 (by decide)
theorem wk_11 {T : pr_T} {w : Nat} (h : pr_W T w) : T.2.1 (w + 11) = (20, 500) := h.1 11 (by decide)
theorem wk_12 {T : pr_T} {w : Nat} (h : pr_W T w) : T.2.1 (w + 12) = (20, 500) := h.1 12 (by decide)
theorem wk_13 {T : pr_T} {w : Nat} (h : pr_W T w) : T.2.1 (w + 13) = (20, 500) := h.1 13 (by decide)
theorem wk_14 {T : pr_T} {w : Nat} (h : pr_W T w) : T.2.1 (w + 14) = (20, 500) := h.1 14 (by decide)
theorem wk_15 {T : pr_T} {w : Nat} (h : pr_W T w) : T.2.1 (w + 15) = (20, 500) := h.1 15 (by decide)
theorem wk_16 {T : pr_T} {w : Nat} (h : pr_W T w) : T.2.1 (w + 16) = (20, 500) := h.1 16 (by decide)
theorem wk_17 {T : pr_T} {w : Nat} (h : pr_W T w) : T.2.1 (w + 17) = (20, 500) := h.1 17 (by decide)
theorem wk_19 {T : pr_T} {w : Nat} (h : pr_W T w) : T.2.1 (w + 19) = (20, 40) := h.1 19 (by decide)
theorem wk_20 {T : pr_T} {w : Nat} (h : pr_W T w) : T.2.1 (w + 20) = (20, 40) := h.1 20 (by decide)
theorem wk_21 {T : pr_T} {w : Nat} (h : pr_W T w) : T.2.1 (w + 21) = (20, 40) := h.1 21 (by decide)
theorem wk_22 {T : pr_T} {w : Nat} (h : pr_W T w) : T.2.1 (w + 22) = (20, 40) := h.1 22 (by decide)
theorem wk_23 {T : pr_T} {w : Nat} (h : pr_W T w) : T.2.1 (w + 23) = (20, 40) := h.1 23 (by decide)
theorem wk_24 {T : pr_T} {w : Nat} (h : pr_W T w) : T.2.1 (w + 24) = (20, 40) := h.1 24 (by decide)
theorem wk_25 {T : pr_T} {w : Nat} (h : pr_W T w) : T.2.1 (w + 25) = (20, 40) := h.1 25 (by decide)
theorem wk_26 {T : pr_T} {w : Nat} (h : pr_W T w) : T.2.1 (w + 26) = (20, 40) := h.1 26 (by decide)
theorem wk_27 {T : pr_T} {w : Nat} (h : pr_W T w) : T.2.1 (w + 27) = (20, 40) := h.1 27 (by decide)
theorem wk_28 {T : pr_T} {w : Nat} (h : pr_W T w) : T.2.1 (w + 28) = (20, 40) := h.1 28 (by decide)
theorem wk_29 {T : pr_T} {w : Nat} (h : pr_W T w) : T.2.1 (w + 29) = (20, 40) := h.1 29 (by decide)
theorem wk_30 {T : pr_T} {w : Nat} (h : pr_W T w) : T.2.1 (w + 30) = (20, 40) := h.1 30 (by decide)
theorem wk_31 {T : pr_T} {w : Nat} (h : pr_W T w) : T.2.1 (w + 31) = (20, 40) := h.1 31 (by decide)
theorem wk_32 {T : pr_T} {w : Nat} (h : pr_W T w) : T.2.1 (w + 32) = (20, 40) := h.1 32 (by decide)
theorem wk_33 {T : pr_T} {w : Nat} (h : pr_W T w) : T.2.1 (w + 33) = (20, 40) := h.1 33 (by decide)
theorem wk_34 {T : pr_T} {w : Nat} (h : pr_W T w) : T.2.1 (w + 34) = (24, 40) := h.1 34 (by decide)
theorem wk_75 {T : pr_T} {w : Nat} (h : pr_W T w) : T.2.1 (w + 75) = (24, 40) := h.1 75 (by decide)
theorem wk_117 {T : pr_T} {w : Nat} (h : pr_W T w) : T.2.1 (w + 117) = (20, 11) := h.1 117 (by decide)
theorem wk_118 {T : pr_T} {w : Nat} (h : pr_W T w) : T.2.1 (w + 118) = (20, 12) := h.1 118 (by decide)
theorem wk_119 {T : pr_T} {w : Nat} (h : pr_W T w) : T.2.1 (w + 119) = (20, 5) := h.1 119 (by decide)
theorem wk_120 {T : pr_T} {w : Nat} (h : pr_W T w) : T.2.1 (w + 120) = (21, 12) := h.1 120 (by decide)
theorem wf_0_0 {T : pr_T} {w : Nat} (h : pr_W T w) : T.2.2 w 0 = some (w + 1) := h.2 0 (by decide) 0 1 rfl
theorem wf_0_1 {T : pr_T} {w : Nat} (h : pr_W T w) : T.2.2 w 1 = some (w + 9) := h.2 0 (by decide) 1 9 rfl
theorem wf_0_2 {T : pr_T} {w : Nat} (h : pr_W T w) : T.2.2 w 2 = some (w + 18) := h.2 0 (by decide) 2 18 rfl
theorem wf_0_3 {T : pr_T} {w : Nat} (h : pr_W T w) : T.2.2 w 3 = some (w + 116) := h.2 0 (by decide) 3 116 rfl
theorem wf_0_4 {T : pr_T} {w : Nat} (h : pr_W T w) : T.2.2 w 4 = some (w + 119) := h.2 0 (by decide) 4 119 rfl
theorem wf_0_5 {T : pr_T} {w : Nat} (h : pr_W T w) : T.2.2 w 5 = some (w + 120) := h.2 0 (by decide) 5 120 rfl
theorem wf_1_0 {T : pr_T} {w : Nat} (h : pr_W T w) : T.2.2 (w + 1) 0 = some (w + 2) := h.2 1 (by decide) 0 2 rfl
theorem wf_1_1 {T : pr_T} {w : Nat} (h : pr_W T w) : T.2.2 (w + 1) 1 = some (w + 3) := h.2 1 (by decide) 1 3 rfl
theorem wf_1_2 {T : pr_T} {w : Nat} (h : pr_W T w) : T.2.2 (w + 1) 2 = some (w + 4) := h.2 1 (by decide) 2 4 rfl
theorem wf_1_3 {T : pr_T} {w : Nat} (h : pr_W T w) : T.2.2 (w + 1) 3 = some (w + 5) := h.2 1 (by decide) 3 5 rfl
theorem wf_1_4 {T : pr_T} {w : Nat} (h : pr_W T w) : T.2.2 (w + 1) 4 = some (w + 6) := h.2 1 (by decide) 4 6 rfl
theorem wf_1_5 {T : pr_T} {w : Nat} (h : pr_W T w) : T.2.2 (w + 1) 5 = some (w + 7) := h.2 1 (by decide) 5 7 rfl
theorem wf_1_6 {T : pr_T} {w : Nat} (h : pr_W T w) : T.2.2 (w + 1) 6 = some (w + 8) := h.2 1 (by decide) 6 8 rfl
theorem wf_9_0 {T : pr_T} {w : Nat} (h : pr_W T w) : T.2.2 (w + 9) 0 = some (w + 10) := h.2 9 (by decide) 0 10 rfl
theorem wf_9_1 {T : pr_T} {w : Nat} (h : pr_W T w) : T.2.2 (w + 9) 1 = some (w + 11) := h.2 9 (by decide) 1 11 rfl
theorem wf_9_2 {T : pr_T} {w : Nat} (h : pr_W T w) : T.2.2 (w + 9) 2 = some (w + 12) := h.2 9 (by decide) 2 12 rfl
theorem wf_9_3 {T : pr_T} {w : Nat} (h : pr_W T w) : T.2.2 (w + 9) 3 = some (w + 13) := h.2 9 (by decide) 3 13 rfl
theorem wf_9_4 {T : pr_T} {w : Nat} (h : pr_W T w) : T.2.2 (w + 9) 4 = some (w + 14) := h.2 9 (by decide) 4 14 rfl
theorem wf_9_5 {T : pr_T} {w : Nat} (h : pr_W T w) : T.2.2 (w + 9) 5 = some (w + 15) := h.2 9 (by decide) 5 15 rfl
theorem wf_9_6 {T : pr_T} {w : Nat} (h : pr_W T w) : T.2.2 (w + 9) 6 = some (w + 16) := h.2 9 (by decide) 6 16 rfl
theorem wf_9_7 {T : pr_T} {w : Nat} (h : pr_W T w) : T.2.2 (w + 9) 7 = some (w + 17) := h.2 9 (by decide) 7 17 rfl
theorem wf_18_0 {T : pr_T} {w : Nat} (h : pr_W T w) : T.2.2 (w + 18) 0 = some (w + 19) := h.2 18 (by decide) 0 19 rfl
theorem wf_18_1 {T : pr_T} {w : Nat} (h : pr_W T w) : T.2.2 (w + 18) 1 = some (w + 20) := h.2 18 (by decide) 1 20 rfl
theorem wf_18_2 {T : pr_T} {w : Nat} (h : pr_W T w) : T.2.2 (w + 18) 2 = some (w + 21) := h.2 18 (by decide) 2 21 rfl
theorem wf_18_3 {T : pr_T} {w : Nat} (h : pr_W T w) : T.2.2 (w + 18) 3 = some (w + 22) := h.2 18 (by decide) 3 22 rfl
theorem wf_18_4 {T : pr_T} {w : Nat} (h : pr_W T w) : T.2.2 (w + 18) 4 = some (w + 23) := h.2 18 (by decide) 4 23 rfl
theorem wf_18_5 {T : pr_T} {w : Nat} (h : pr_W T w) : T.2.2 (w + 18) 5 = some (w + 24) := h.2 18 (by decide) 5 24 rfl
theorem wf_18_6 {T : pr_T} {w : Nat} (h : pr_W T w) : T.2.2 (w + 18) 6 = some (w + 25) := h.2 18 (by decide) 6 25 rfl
theorem wf_18_7 {T : pr_T} {w : Nat} (h : pr_W T w) : T.2.2 (w + 18) 7 = some (w + 26) := h.2 18 (by decide) 7 26 rfl
theorem wf_18_8 {T : pr_T} {w : Nat} (h : pr_W T w) : T.2.2 (w + 18) 8 = some (w + 27) := h.2 18 (by decide) 8 27 rfl
theorem wf_18_9 {T : pr_T} {w : Nat} (h : pr_W T w) : T.2.2 (w + 18) 9 = some (w + 28) := h.2 18 (by decide) 9 28 rfl
theorem wf_18_10 {T : pr_T} {w : Nat} (h : pr_W T w) : T.2.2 (w + 18) 10 = some (w + 29) := h.2 18 (by decide) 10 29 rfl
theorem wf_18_11 {T : pr_T} {w : Nat} (h : pr_W T w) : T.2.2 (w + 18) 11 = some (w + 30) := h.2 18 (by decide) 11 30 rfl
theorem wf_18_12 {T : pr_T} {w : Nat} (h : pr_W T w) : T.2.2 (w + 18) 12 = some (w + 31) := h.2 18 (by decide) 12 31 rfl
theorem wf_18_13 {T : pr_T} {w : Nat} (h : pr_W T w) : T.2.2 (w + 18) 13 = some (w + 32) := h.2 18 (by decide) 13 32 rfl
theorem wf_18_14 {T : pr_T} {w : Nat} (h : pr_W T w) : T.2.2 (w + 18) 14 = some (w + 33) := h.2 18 (by decide) 14 33 rfl
theorem wf_18_15 {T : pr_T} {w : Nat} (h : pr_W T w) : T.2.2 (w + 18) 15 = some (w + 34) := h.2 18 (by decide) 15 34 rfl
theorem wf_18_16 {T : pr_T} {w : Nat} (h : pr_W T w) : T.2.2 (w + 18) 16 = some (w + 75) := h.2 18 (by decide) 16 75 rfl
theorem wf_116_0 {T : pr_T} {w : Nat} (h : pr_W T w) : T.2.2 (w + 116) 0 = some (w + 117) := h.2 116 (by decide) 0 117 rfl
theorem wf_116_2 {T : pr_T} {w : Nat} (h : pr_W T w) : T.2.2 (w + 116) 2 = some (w + 118) := h.2 116 (by decide) 2 118 rfl
theorem wk_p {T : pr_T} {w r : Nat} (h : pr_W T w) (hr : r < 40) : T.2.1 (w + (35 + r)) = (20, 11) := by
  rw [h.1 (35 + r) (by omega)]; unfold wl_K
  rw [if_neg (by omega), if_neg (by omega), if_neg (by omega), if_neg (by omega), if_neg (by omega), if_neg (by omega), if_neg (by omega), if_neg (by omega), if_pos (by omega)]
theorem wk_q {T : pr_T} {w r : Nat} (h : pr_W T w) (hr : r < 40) : T.2.1 (w + (76 + r)) = (20, 11) := by
  rw [h.1 (76 + r) (by omega)]; unfold wl_K
  rw [if_neg (by omega), if_neg (by omega), if_neg (by omega), if_neg (by omega), if_neg (by omega), if_neg (by omega), if_neg (by omega), if_neg (by omega), if_neg (by omega), if_neg (by omega), if_pos (by omega)]
theorem wf_p {T : pr_T} {w r : Nat} (h : pr_W T w) (hr : r < 40) : T.2.2 (w + 34) r = some (w + (35 + r)) := h.2 34 (by decide) r (35 + r) (by simp [wl_R, hr])
theorem wf_q {T : pr_T} {w r : Nat} (h : pr_W T w) (hr : r < 40) : T.2.2 (w + 75) r = some (w + (76 + r)) := h.2 75 (by decide) r (76 + r) (by simp [wl_R, hr])
theorem nI_vin {k n : Nat} (h : k < n) (hn : n < 2 ^ 31) : vp_in (nI k) n := nI_in h hn
section PRE
variable {g : pr_C} {X : pr_X} {M : pr_MD} {d mc ms : Nat} {nL : Nat} {Q : State → Prop} {cs sl pc : Nat} {ls st : List Value} {T : pr_T} {I : pr_I} {L : pr_L}
theorem pr_getE (hA : pr_Am g X M d mc ms) {index ci k a n : Nat} {v : Int32} (hF : pr_F M.1.cls index ci k) (ht : pr_ft ci k = 0) (ha : T.2.1 a = (ci, n)) (hr : I a k = v) (hd : decode M.2.1 pc = .ok (.getfield index, 3)) (kk : pr_G g X nL Q cs sl (pc + 3) ls (.int v :: st) T I L) : pr_G g X nL Q cs sl pc ls (.ref a :: st) T I L := by
  subst hr; exact pr_getI hA hF ht ha hd kk
theorem pr_putE (hA : pr_Am g X M d mc ms) {index ci k a n : Nat} {v : Int32} {I' : pr_I} (hF : pr_F M.1.cls index ci k) (ht : pr_ft ci k = 0) (ha : T.2.1 a = (ci, n)) (hu : pr_up I a k v = I') (hd : decode M.2.1 pc = .ok (.putfield index, 3)) (kk : pr_G g X nL Q cs sl (pc + 3) ls st T I' L) : pr_G g X nL Q cs sl pc ls (.int v :: .ref a :: st) T I L := by
  subst hu; exact pr_putI hA hF ht ha hd kk
theorem pr_ialdE (hA : pr_Am g X M d mc ms) {a n : Nat} {j v : Int32} (ha : T.2.1 a = (20, n)) (hin : vp_in j n) (hr : I a j.toNatClampNeg = v) (hd : decode M.2.1 pc = .ok (.iaload, 1)) (kk : pr_G g X nL Q cs sl (pc + 1) ls (.int v :: st) T I L) : pr_G g X nL Q cs sl pc ls (.int j :: .ref a :: st) T I L := by
  subst hr; exact pr_iald hA ha hin hd kk
theorem pr_ialdN (hA : pr_Am g X M d mc ms) {a n k : Nat} {v : Int32} (ha : T.2.1 a = (20, n)) (hk : k < n) (hn : n ≤ 5000) (hr : I a k = v) (hd : decode M.2.1 pc = .ok (.iaload, 1)) (kk : pr_G g X nL Q cs sl (pc + 1) ls (.int v :: st) T I L) : pr_G g X nL Q cs sl pc ls (.int (nI k) :: .ref a :: st) T I L := by
  subst hr
  refine pr_iald hA ha (nI_vin hk (by omega)) hd ?_
  rw [nI_clamp (by omega)]; exact kk
theorem pr_iastE (hA : pr_Am g X M d mc ms) {a n : Nat} {j v : Int32} {I' : pr_I} (ha : T.2.1 a = (20, n)) (hin : vp_in j n) (hu : pr_up I a j.toNatClampNeg v = I') (hd : decode M.2.1 pc = .ok (.iastore, 1)) (kk : pr_G g X nL Q cs sl (pc + 1) ls st T I' L) : pr_G g X nL Q cs sl pc ls (.int v :: .int j :: .ref a :: st) T I L := by
  subst hu; exact pr_iast hA ha hin hd kk
theorem pr_iastN (hA : pr_Am g X M d mc ms) {a n k : Nat} {v : Int32} {I' : pr_I} (ha : T.2.1 a = (20, n)) (hk : k < n) (hn : n ≤ 5000) (hu : pr_up I a k v = I') (hd : decode M.2.1 pc = .ok (.iastore, 1)) (kk : pr_G g X nL Q cs sl (pc + 1) ls st T I' L) : pr_G g X nL Q cs sl pc ls (.int v :: .int (nI k) :: .ref a :: st) T I L := by
  subst hu
  refine pr_iast hA ha (nI_vin hk (by omega)) hd ?_
  rw [nI_clamp (by omega)]; exact kk
theorem pr_aaldN (hA : pr_Am g X M d mc ms) {a n t k b : Nat} (ht : t = 24 ∨ t = 25) (ha : T.2.1 a = (t, n)) (hk : k < n) (hn : n ≤ 5000) (hb : T.2.2 a k = some b) (hd : decode M.2.1 pc = .ok (.aaload, 1)) (kk : pr_G g X nL Q cs sl (pc + 1) ls (.ref b :: st) T I L) : pr_G g X nL Q cs sl pc ls (.int (nI k) :: .ref a :: st) T I L := by
  refine pr_aald hA ht ha (nI_vin hk (by omega)) hd ?_
  rw [nI_clamp (by omega), hb]; exact kk
/-- the two ways of a condition meet again, each with a number on the stack -/
theorem pr_join {stk : List Value} {c : Prop} {J : Nat} (a b : Int32) (hc : Decidable c) (h : (c → pr_G g X nL Q cs sl J ls (.int a :: st) T I L) → (¬ c → pr_G g X nL Q cs sl J ls (.int b :: st) T I L) → pr_G g X nL Q cs sl pc ls stk T I L) (k : pr_G g X nL Q cs sl J ls (.int (if c then a else b) :: st) T I L) : pr_G g X nL Q cs sl pc ls stk T I L :=
  h (fun q => by rw [if_pos q] at k; exact k) (fun q => by rw [if_neg q] at k; exact k)
end PRE
