/-! WHAT THE REFERENCE'S CELLS ALWAYS HOLD -/
def mL (c : Nat) : Option Nat := if c = 0 then some 12 else if c = 1 then some 12 else none
def mR (c : Nat) : Option Nat := if c = 0 then some 12 else if c = 1 then some 12 else if c = 13 then some 12 else if c = 14 then some 12 else if c < 15 then none else if c < 26 then some 24 else none
def mT (c : Nat) : Option Nat := if c = 0 then some 40 else if c = 1 then some 24 else none
def mS (j : Nat) : Option Nat := if j = 6 then some 13 else if j = 7 then some 25 else if j = 8 then some 41 else if j = 9 then some 501 else none
def mN (c : Nat) : Option Nat := if c = 0 then some 7 else none
def mW (j : Nat) : Option Nat := if j < 12 then mS j else if j < 96 then mN ((j - 12) % 7) else if j < 264 then mL ((j - 96) % 7) else if j < 1384 then mR ((j - 264) % 28) else if j < 5384 then mT ((j - 1384) % 8) else none
def mB (o j : Nat) : Option Nat := if o = 0 then (if j = 17 then some 13 else none) else if o < 6 then mW j else if o = 10 then some 24 else if o = 13 then some 24 else if o = 14 then some 12 else none
theorem mW_node {k c : Nat} (hk : k < 12) (hc : c < 7) : mW (12 + 7 * k + c) = mN c := by
  have e : (12 + 7 * k + c - 12) % 7 = c := by omega
  unfold mW; rw [if_neg (by omega), if_pos (by omega), e]
theorem mW_link {k c : Nat} (hk : k < 24) (hc : c < 7) : mW (96 + 7 * k + c) = mL c := by
  have e : (96 + 7 * k + c - 96) % 7 = c := by omega
  unfold mW; rw [if_neg (by omega), if_neg (by omega), if_pos (by omega), e]
theorem mW_req {k c : Nat} (hk : k < 40) (hc : c < 28) : mW (264 + 28 * k + c) = mR c := by
  have e : (264 + 28 * k + c - 264) % 28 = c := by omega
  unfold mW; rw [if_neg (by omega), if_neg (by omega), if_neg (by omega), if_pos (by omega), e]
theorem mW_tick {k c : Nat} (hk : k < 500) (hc : c < 8) : mW (1384 + 8 * k + c) = mT c := by
  have e : (1384 + 8 * k + c - 1384) % 8 = c := by omega
  unfold mW; rw [if_neg (by omega), if_neg (by omega), if_neg (by omega), if_neg (by omega), if_pos (by omega), e]
def mI (σ : pr_I) : Prop := ∀ o j B, mB o j = some B → vp_in (σ o j) B
theorem mI.upv {σ : pr_I} {o k B : Nat} {v : Int32} (h : mI σ) (e : mB o k = some B) (hv : vp_in v B) : mI (pr_up σ o k v) := fun o' k' B' q => by
  unfold pr_up
  by_cases c : o' = o ∧ k' = k
  · rw [if_pos c]; rw [c.1, c.2, e] at q; cases q; exact hv
  · rw [if_neg c]; exact h o' k' B' q
theorem mI.upn {σ : pr_I} {o k : Nat} {v : Int32} (h : mI σ) (e : mB o k = none) : mI (pr_up σ o k v) := fun o' k' B' q => by
  unfold pr_up
  by_cases c : o' = o ∧ k' = k
  · rw [c.1, c.2, e] at q; cases q
  · rw [if_neg c]; exact h o' k' B' q
theorem mI.row {σ : pr_I} {o : Nat} {f : Nat → Int32} (h : mI σ) (hf : ∀ k B, mB o k = some B → vp_in (f k) B) : mI (pr_row σ o f) := fun o' k' B' q => by
  unfold pr_row
  by_cases c : o' = o
  · rw [if_pos c]; rw [c] at q; exact hf k' B' q
  · rw [if_neg c]; exact h o' k' B' q
theorem mI.keep {σ ψ : pr_I} (h : mI σ) (hk : ∀ o j B, mB o j = some B → ψ o j = σ o j) : mI ψ := fun o j B q => by rw [hk o j B q]; exact h o j B q
theorem mI_link {σ : pr_I} (h : mI σ) {k c B : Nat} (hk : k < 24) (hc : c < 7) (e : mL c = some B) : vp_in (σ 1 (96 + 7 * k + c)) B := h 1 _ B ((mW_link hk hc).trans e)
theorem mI_req {σ : pr_I} (h : mI σ) {k c B : Nat} (hk : k < 40) (hc : c < 28) (e : mR c = some B) : vp_in (σ 1 (264 + 28 * k + c)) B := h 1 _ B ((mW_req hk hc).trans e)
theorem mI_tick {σ : pr_I} (h : mI σ) {k c B : Nat} (hk : k < 500) (hc : c < 8) (e : mT c = some B) : vp_in (σ 1 (1384 + 8 * k + c)) B := h 1 _ B ((mW_tick hk hc).trans e)
def mtn (σ : pr_I) : Nat := (σ 1 9).toNatClampNeg
def mrn (σ : pr_I) : Nat := (σ 1 8).toNatClampNeg
def mln (σ : pr_I) : Nat := (σ 1 7).toNatClampNeg
def mnn (σ : pr_I) : Nat := (σ 1 6).toNatClampNeg
theorem mI_n {σ : pr_I} (h : mI σ) : σ 1 9 = nI (mtn σ) := vp_nI (h 1 9 501 rfl) (by decide)
theorem mI_n5 {σ : pr_I} (h : mI σ) : mtn σ ≤ 500 := Nat.le_of_lt_succ (vp_in_lt (h 1 9 501 rfl))
theorem mI_nr {σ : pr_I} (h : mI σ) : σ 1 8 = nI (mrn σ) := vp_nI (h 1 8 41 rfl) (by decide)
theorem mI_nr4 {σ : pr_I} (h : mI σ) : mrn σ ≤ 40 := Nat.le_of_lt_succ (vp_in_lt (h 1 8 41 rfl))
theorem mI_nl {σ : pr_I} (h : mI σ) : σ 1 7 = nI (mln σ) := vp_nI (h 1 7 25 rfl) (by decide)
theorem mI_nl24 {σ : pr_I} (h : mI σ) : mln σ ≤ 24 := Nat.le_of_lt_succ (vp_in_lt (h 1 7 25 rfl))
theorem mI_nn {σ : pr_I} (h : mI σ) : σ 1 6 = nI (mnn σ) := vp_nI (h 1 6 13 rfl) (by decide)
theorem mI_nn12 {σ : pr_I} (h : mI σ) : mnn σ ≤ 12 := Nat.le_of_lt_succ (vp_in_lt (h 1 6 13 rfl))
