/-! WHAT A WORLD'S CELLS ALWAYS HOLD: bounds, cell by cell -/
def wB (o k : Nat) : Option Nat :=
  if o = 0 then (if k = 6 then some 13 else none) else if o = 1 then (if k = 8 then some 25 else none) else if o = 2 then some 12 else if o = 3 then some 12
  else if o = 9 then (if k = 8 then some 501 else none) else if o = 10 then some 40 else if o = 11 then some 24
  else if o = 18 then (if k = 17 then some 41 else none) else if o = 19 then some 12 else if o = 20 then some 12 else if o = 32 then some 12 else if o = 33 then some 12
  else if o < 35 then none else if o < 75 then some 24 else if o = 75 then none else if o < 116 then some 500 else if o = 116 then (if k = 1 then some 12 else none) else if o = 117 then some 24 else none
def wI (σ : pr_I) : Prop := ∀ o k B, wB o k = some B → vp_in (σ o k) B
theorem wI.upv {σ : pr_I} {o k B : Nat} {v : Int32} (h : wI σ) (e : wB o k = some B) (hv : vp_in v B) : wI (pr_up σ o k v) := fun o' k' B' q => by
  unfold pr_up
  by_cases c : o' = o ∧ k' = k
  · rw [if_pos c]; rw [c.1, c.2, e] at q; cases q; exact hv
  · rw [if_neg c]; exact h o' k' B' q
theorem wI.upn {σ : pr_I} {o k : Nat} {v : Int32} (h : wI σ) (e : wB o k = none) : wI (pr_up σ o k v) := fun o' k' B' q => by
  unfold pr_up
  by_cases c : o' = o ∧ k' = k
  · rw [c.1, c.2, e] at q; cases q
  · rw [if_neg c]; exact h o' k' B' q
theorem wI.row {σ : pr_I} {o : Nat} {f : Nat → Int32} (h : wI σ) (hf : ∀ k B, wB o k = some B → vp_in (f k) B) : wI (pr_row σ o f) := fun o' k' B' q => by
  unfold pr_row
  by_cases c : o' = o
  · rw [if_pos c]; rw [c] at q; exact hf k' B' q
  · rw [if_neg c]; exact h o' k' B' q
theorem wI.rown {σ : pr_I} {o : Nat} {f : Nat → Int32} (h : wI σ) (hn : ∀ k, wB o k = none) : wI (pr_row σ o f) := h.row (fun k B q => by rw [hn] at q; cases q)
theorem wB_p {r k : Nat} (h : r < 40) : wB (35 + r) k = some 24 := by
  unfold wB
  rw [if_neg (by omega), if_neg (by omega), if_neg (by omega), if_neg (by omega), if_neg (by omega), if_neg (by omega), if_neg (by omega), if_neg (by omega), if_neg (by omega), if_neg (by omega), if_neg (by omega), if_neg (by omega), if_neg (by omega), if_pos (by omega)]
theorem wB_q {r k : Nat} (h : r < 40) : wB (76 + r) k = some 500 := by
  unfold wB
  rw [if_neg (by omega), if_neg (by omega), if_neg (by omega), if_neg (by omega), if_neg (by omega), if_neg (by omega), if_neg (by omega), if_neg (by omega), if_neg (by omega), if_neg (by omega), if_neg (by omega), if_neg (by omega), if_neg (by omega), if_neg (by omega), if_neg (by omega), if_pos (by omega)]
def tkn (σ : pr_I) : Nat := (σ 9 8).toNatClampNeg
def rqn (σ : pr_I) : Nat := (σ 18 17).toNatClampNeg
def lkn (σ : pr_I) : Nat := (σ 1 8).toNatClampNeg
theorem vp_nI {x : Int32} {n : Nat} (h : vp_in x n) (hn : n < 2 ^ 31) : x = nI x.toNatClampNeg := by
  obtain ⟨j, hj, rfl⟩ := vp_in_of h hn
  rw [nI_clamp (by omega)]
theorem wI_n {σ : pr_I} (h : wI σ) : σ 9 8 = nI (tkn σ) := vp_nI (h 9 8 501 rfl) (by decide)
theorem wI_n5 {σ : pr_I} (h : wI σ) : tkn σ ≤ 500 := Nat.le_of_lt_succ (vp_in_lt (h 9 8 501 rfl))
theorem wI_B {σ : pr_I} (h : wI σ) {n : Nat} : ∀ t, t < n → vp_in (σ 10 t) 40 ∧ vp_in (σ 11 t) 24 := fun t _ => ⟨h 10 t 40 rfl, h 11 t 24 rfl⟩
theorem wI_nr {σ : pr_I} (h : wI σ) : σ 18 17 = nI (rqn σ) := vp_nI (h 18 17 41 rfl) (by decide)
theorem wI_nr4 {σ : pr_I} (h : wI σ) : rqn σ ≤ 40 := Nat.le_of_lt_succ (vp_in_lt (h 18 17 41 rfl))
theorem wI_nl {σ : pr_I} (h : wI σ) : σ 1 8 = nI (lkn σ) := vp_nI (h 1 8 25 rfl) (by decide)
theorem wI_nl24 {σ : pr_I} (h : wI σ) : lkn σ ≤ 24 := Nat.le_of_lt_succ (vp_in_lt (h 1 8 25 rfl))
theorem wI_L {σ : pr_I} (h : wI σ) {n : Nat} : ∀ k, k < n → vp_in (σ 2 k) 12 ∧ vp_in (σ 3 k) 12 := fun t _ => ⟨h 2 t 12 rfl, h 3 t 12 rfl⟩
theorem vp_inc {x : Int32} {n : Nat} (h : vp_in x n) (hn : n < 2 ^ 30) : vp_in (x + 1) (n + 1) := by
  obtain ⟨j, hj, rfl⟩ := vp_in_of h (by omega)
  rw [nI_1]; exact nI_vin (by omega) (by omega)
theorem wI_w_settle {σ : pr_I} {r : Nat} {s : Int32}  (hI : wI σ) : wI (w_settle σ r s) := by
  unfold w_settle
  exact (wI.upn (wI.upn hI rfl) rfl)
theorem wI_w_rel {σ : pr_I} {t : Nat} {s : Int32} {f : Int32}  (hI : wI σ) : wI (w_rel σ t s f) := by
  unfold w_rel
  exact (wI.upn (wI.upn (wI.upn (wI.upn hI rfl) rfl) rfl) rfl)
theorem wI_w_ra_it6 {σ : pr_I} {n : Nat} {r : Int32} {a : Int32} {b : Int32} {p : Int32}  (hI : wI σ) : ∀ {k : Nat}, wI (w_ra_it6 σ n r a b p k).1 := by
  intro k
  induction k with
  | zero => exact hI
  | succ k ih =>
    unfold w_ra_it6
    by_cases c_29 : (σ 10 k) = r
    · rw [if_pos c_29]
      by_cases c_41 : (tk_kp (w_ra_it6 σ n r a b p k).1 k) = 0
      · rw [if_pos c_41]
        exact ih
      · rw [if_neg c_41]
        exact (wI_w_rel ih)
    · rw [if_neg c_29]
      exact ih
theorem wI_w_ra {σ : pr_I} {n : Nat} {r : Int32} {a : Int32} {b : Int32} {p : Int32}  (hI : wI σ) : wI (w_ra σ n r a b p) := by
  unfold w_ra
  exact (wI_w_ra_it6 hI)
theorem wI_tk_post_it5 {σ : pr_I} {n : Nat} {h : Int32} {v : Int32}  (hI : wI σ) : ∀ {k : Nat}, wI (tk_post_it5 σ n h v k).1 := by
  intro k
  induction k with
  | zero => exact hI
  | succ k ih =>
    unfold tk_post_it5
    by_cases c_22 : (σ 10 k) = h
    · rw [if_pos c_22]
      by_cases c_32 : (σ 15 k) = 0
      · rw [if_pos c_32]
        exact (wI.upn ih rfl)
      · rw [if_neg c_32]
        exact ih
    · rw [if_neg c_22]
      exact ih
theorem wI_tk_post {σ : pr_I} {n : Nat} {h : Int32} {v : Int32}  (hI : wI σ) : wI (tk_post σ n h v) := by
  unfold tk_post
  exact (wI_tk_post_it5 hI)
theorem wI_w_issue {σ : pr_I} {n : Nat} {r : Nat} {x : Int32} (hr : r < 40) (hn : n < 500) (hx : vp_in x 24) (hI : wI σ) : wI (w_issue σ n r x) := by
  unfold w_issue
  exact (wI.upn (wI.upn (wI.upv (wI.upn (wI.upn (wI.upn (wI.upn (wI.upn (wI.upn (wI.upv (wI.upv hI rfl (nI_vin hr (by decide))) rfl hx) rfl) rfl) rfl) rfl) rfl) rfl) rfl (nI_vin (by omega) (by decide))) rfl) rfl)
theorem w_n500 {σ : pr_I} {n : Nat} (hn : σ 9 8 = nI n) (hn5 : n ≤ 500) (c2 : (if σ 9 8 < 500 then (0 : Int32) else 1) = 0) : n < 500 := by
  by_cases q : n < 500
  · exact q
  · exact absurd c2 (by rw [hn, if_neg (show ¬ (nI n < 500) from fun z => q ((nI_ltI (by omega) (by decide)).mp z))]; decide)
theorem or_ite {c : Prop} [Decidable c] {a b : Int32} {P : Int32 → Prop} (ha : P a) (hb : P b) : P (if c then a else b) := by by_cases q : c <;> simp only [q, if_true, if_false] <;> assumption
theorem vp_lt11 {a b : Int32} (ha : vp_in a 12) (hb : vp_in b 12) (h : a < b) : vp_in a 11 := by
  obtain ⟨i, hi, rfl⟩ := vp_in_of ha (by decide)
  obtain ⟨j, hj, rfl⟩ := vp_in_of hb (by decide)
  have := (nI_ltI (by omega) (by omega)).mp h
  exact nI_vin (by omega) (by decide)
theorem vp_dec {a : Int32} (ha : vp_in a 12) (h : 0 ≤ a - 1) : vp_in (a - 1) 11 := by
  obtain ⟨i, hi, rfl⟩ := vp_in_of ha (by decide)
  cases i with
  | zero => exact absurd h (by decide)
  | succ i => rw [nI_pred]; exact nI_vin (by omega) (by decide)
theorem wI_fb {σ : pr_I} {r : Nat} (h : wI σ) (hr : r < 40) : σ 33 r < σ 32 r → vp_in (σ 33 r) 11 ∧ vp_in (σ (35 + r) (σ 33 r).toNatClampNeg) 24 := fun c => ⟨vp_lt11 (h 33 r 12 rfl) (h 32 r 12 rfl) c, h (35 + r) _ 24 (wB_p hr)⟩
theorem wI_bb {σ : pr_I} {r : Nat} (h : wI σ) (hr : r < 40) : 0 ≤ σ 33 r - 1 → vp_in (σ 33 r - 1) 11 ∧ vp_in (σ (35 + r) (σ 33 r - 1).toNatClampNeg) 24 ∧ vp_in (σ (76 + r) (σ 33 r - 1).toNatClampNeg) 500 := fun c => ⟨vp_dec (h 33 r 12 rfl) c, h (35 + r) _ 24 (wB_p hr), h (76 + r) _ 500 (wB_q hr)⟩
theorem wI_w_fwd {σ : pr_I} {n : Nat} {r : Nat} (hn : σ 9 8 = nI n) (hn5 : n ≤ 500) (hr : r < 40) (hI : wI σ) : wI (w_fwd σ n r) := by
  unfold w_fwd
  by_cases c_20 : (σ 33 r) < (σ 32 r)
  · rw [if_pos c_20]
    by_cases c_87 : (if (lk_ux_r σ (σ (35 + r) ((σ 33 r).toNatClampNeg))) = 0 then (0 : Int32) else (if (lk_ax_r σ (σ (35 + r) ((σ 33 r).toNatClampNeg))) < (σ 21 r) then (0 : Int32) else (1 : Int32))) = 0
    · rw [if_pos c_87]
      exact hI
    · rw [if_neg c_87]
      by_cases c_97 : (if σ 9 8 < 500 then (0 : Int32) else 1) = 0
      · rw [if_pos c_97]
        exact (wI.upn (wI.upv (wI.upv (wI_w_issue hr (w_n500 hn hn5 c_97) (hI (35 + r) _ 24 (wB_p hr)) hI) (wB_q (by omega)) (nI_vin (w_n500 hn hn5 c_97) (by decide))) rfl (vp_inc (vp_lt11 (hI 33 r 12 rfl) (hI 32 r 12 rfl) c_20) (by decide))) rfl)
      · rw [if_neg c_97]
        exact hI
  · rw [if_neg c_20]
    exact (wI.upn hI rfl)
theorem wI_w_back {σ : pr_I} {r : Nat} (hr : r < 40) (hI : wI σ) : wI (w_back σ r) := by
  unfold w_back
  by_cases c_13 : 0 ≤ ((σ 33 r) - (1 : Int32))
  · rw [if_pos c_13]
    by_cases c_95 : (σ 15 ((σ (76 + r) (((σ 33 r) - (1 : Int32)).toNatClampNeg)).toNatClampNeg)) = 0
    · rw [if_pos c_95]
      exact (wI.upn (wI.upv (wI.upn hI rfl) rfl (vp_in_mono (vp_dec (hI 33 r 12 rfl) c_13) (by decide))) rfl)
    · rw [if_neg c_95]
      exact hI
  · rw [if_neg c_13]
    exact (wI_w_settle (wI.upn (wI.upn hI rfl) rfl))
theorem w_fwd_or {σ : pr_I} {n r : Nat} (hr : r < 40) (h : wI σ) : w_fwd_r σ n r = -1 ∨ vp_in (w_fwd_r σ n r) 24 := by
  unfold w_fwd_r
  refine or_ite (P := fun x => x = -1 ∨ vp_in x 24) (or_ite (P := fun x => x = -1 ∨ vp_in x 24) (Or.inr (h (35 + r) _ 24 (wB_p hr))) (or_ite (P := fun x => x = -1 ∨ vp_in x 24) (Or.inl rfl) (Or.inr (h (35 + r) _ 24 (wB_p hr))))) (Or.inl rfl)
theorem w_back_or {σ : pr_I} {r : Nat} (hr : r < 40) (h : wI σ) : w_back_r σ r = -1 ∨ vp_in (w_back_r σ r) 24 := by
  unfold w_back_r
  refine or_ite (P := fun x => x = -1 ∨ vp_in x 24) (or_ite (P := fun x => x = -1 ∨ vp_in x 24) (Or.inl rfl) (Or.inr (h (35 + r) _ 24 (wB_p hr)))) (Or.inl rfl)
theorem w_fwd_in {σ : pr_I} {n r : Nat} (hr : r < 40) (h : wI σ) (hx : w_fwd_r σ n r ≠ -1) : vp_in (w_fwd_r σ n r) 24 := (w_fwd_or hr h).resolve_left hx
theorem w_back_in {σ : pr_I} {r : Nat} (hr : r < 40) (h : wI σ) (hx : w_back_r σ r ≠ -1) : vp_in (w_back_r σ r) 24 := (w_back_or hr h).resolve_left hx
theorem wI_w_fail {σ : pr_I} {n : Nat} {r : Nat} {x : Int32}  (hI : wI σ) : wI (w_fail σ n r x) := by
  unfold w_fail
  by_cases c_76 : ((σ 24 r) + (1 : Int32)) < (σ 119 2)
  · rw [if_pos c_76]
    exact (wI.upn (wI.upn (wI.upn (wI.upn (wI.upn (wI.upn (wI_w_ra hI) rfl) rfl) rfl) rfl) rfl) rfl)
  · rw [if_neg c_76]
    exact (wI_w_settle (wI.upn (wI.upn (wI.upn (wI.upn (wI_w_ra hI) rfl) rfl) rfl) rfl))
theorem wI_w_cancel {σ : pr_I} {n : Nat} {r : Nat}  (hI : wI σ) : wI (w_cancel σ n r) := by
  unfold w_cancel
  exact (wI_w_ra (wI.upn (wI_w_settle hI) rfl))
theorem wI_w_exp_it2 {σ : pr_I} {n : Nat}  (hI : wI σ) : ∀ {k : Nat}, wI (w_exp_it2 σ n k) := by
  intro k
  induction k with
  | zero => exact hI
  | succ k ih =>
    unfold w_exp_it2
    by_cases c_22 : ((w_exp_it2 σ n k) 15 k) = 0
    · rw [if_pos c_22]
      by_cases c_38 : (σ 14 k) = (σ 0 7)
      · rw [if_pos c_38]
        exact (wI_w_rel ih)
      · rw [if_neg c_38]
        exact ih
    · rw [if_neg c_22]
      exact ih
theorem wI_w_exp {σ : pr_I} {n : Nat}  (hI : wI σ) : wI (w_exp σ n) := by
  unfold w_exp
  exact (wI_w_exp_it2 hI)
theorem wI_w_end_it2 {σ : pr_I} {n : Nat} {nr : Nat}  (hI : wI σ) : ∀ {k : Nat}, wI (w_end_it2 σ n nr k) := by
  intro k
  induction k with
  | zero => exact hI
  | succ k ih =>
    unfold w_end_it2
    by_cases c_23 : ((w_end_it2 σ n nr k) 23 k) = (2 : Int32)
    · rw [if_pos c_23]
      by_cases c_39 : (σ 30 k) = (σ 0 7)
      · rw [if_pos c_39]
        exact (wI_w_settle (wI_w_ra ih))
      · rw [if_neg c_39]
        exact ih
    · rw [if_neg c_23]
      exact ih
theorem wI_w_end {σ : pr_I} {n : Nat} {nr : Nat}  (hI : wI σ) : wI (w_end σ n nr) := by
  unfold w_end
  exact (wI_w_end_it2 hI)
theorem wI_w_close_it21 {σ : pr_I} {n : Nat} {nr : Nat} {lk : Nat}  (hI : wI σ) : ∀ {k : Nat}, wI (w_close_it21 σ n nr lk k).1 := by
  intro k
  induction k with
  | zero => exact (wI.upn hI rfl)
  | succ k ih =>
    unfold w_close_it21
    by_cases c_41 : (tk_has (w_close_it21 σ n nr lk k).1 (nI k) (nI lk) n 0) = 0
    · rw [if_pos c_41]
      exact ih
    · rw [if_neg c_41]
      by_cases c_57 : ((w_close_it21 σ n nr lk k).1 23 k) = (2 : Int32)
      · rw [if_pos c_57]
        exact (wI.upn (wI_w_settle (wI_w_ra ih)) rfl)
      · rw [if_neg c_57]
        exact (wI_w_fail ih)
theorem wI_w_close {σ : pr_I} {n : Nat} {nr : Nat} {lk : Nat}  (hI : wI σ) : wI (w_close σ n nr lk) := by
  unfold w_close
  exact (wI_w_close_it21 hI)
theorem pt_meas_keep {σ : pr_I} {nl : Nat} {t u : Int32} {o : Nat} (ho : o ≠ 118) : pt_meas σ nl t u o = σ o := fr_pt_meas (by intro m hm; simp at hm; omega)
theorem wI_pt_meas {σ : pr_I} {nl : Nat} {t u : Int32} (h : wI σ) : wI (pt_meas σ nl t u) := fun o k B q => by
  have ho : o ≠ 118 := by
    intro e; subst e; simp [wB] at q
  rw [pt_meas_keep ho]; exact h o k B q
