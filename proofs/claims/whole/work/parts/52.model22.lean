/-! READING: where words and numbers end, in words of the text b of the length n -/
def bt (b : Nat → Int32) (n k : Nat) : Int32 := if k < n then b k else -1
def isl (b : Nat → Int32) (n k : Nat) : Prop := k < n ∧ (97 : Int32) ≤ b k ∧ b k ≤ (122 : Int32)
def isd (b : Nat → Int32) (n k : Nat) : Prop := k < n ∧ (48 : Int32) ≤ b k ∧ b k ≤ (57 : Int32)
noncomputable def il (b : Nat → Int32) (n k : Nat) : Int32 := by classical exact if isl b n k then 1 else 0
noncomputable def idg (b : Nat → Int32) (n k : Nat) : Int32 := by classical exact if isd b n k then 1 else 0
theorem il_1 {b : Nat → Int32} {n k : Nat} (h : isl b n k) : il b n k = 1 := by classical exact if_pos h
theorem il_0 {b : Nat → Int32} {n k : Nat} (h : ¬ isl b n k) : il b n k = 0 := by classical exact if_neg h
theorem idg_1 {b : Nat → Int32} {n k : Nat} (h : isd b n k) : idg b n k = 1 := by classical exact if_pos h
theorem idg_0 {b : Nat → Int32} {n k : Nat} (h : ¬ isd b n k) : idg b n k = 0 := by classical exact if_neg h
theorem il_t {b : Nat → Int32} {n k : Nat} (h : ¬ il b n k = 0) : isl b n k := Classical.byContradiction (fun q => h (il_0 q))
theorem il_f {b : Nat → Int32} {n k : Nat} (h : il b n k = 0) : ¬ isl b n k := fun q => by rw [il_1 q] at h; exact absurd h (by decide)
theorem idg_t {b : Nat → Int32} {n k : Nat} (h : ¬ idg b n k = 0) : isd b n k := Classical.byContradiction (fun q => h (idg_0 q))
theorem idg_f {b : Nat → Int32} {n k : Nat} (h : idg b n k = 0) : ¬ isd b n k := fun q => by rw [idg_1 q] at h; exact absurd h (by decide)
/-- behind the spaces -/
noncomputable def sk_f (b : Nat → Int32) (n : Nat) : Nat → Nat → Nat
  | 0, p => p
  | j + 1, p => if p < n ∧ b p = 32 then sk_f b n j (p + 1) else p
noncomputable def sk (b : Nat → Int32) (n p : Nat) : Nat := sk_f b n (n - p) p
theorem sk_step {b : Nat → Int32} {n p : Nat} (h : p < n) (h2 : b p = 32) : sk b n p = sk b n (p + 1) := by
  unfold sk
  rw [show n - p = (n - (p + 1)) + 1 from by omega]
  show (if p < n ∧ b p = 32 then sk_f b n (n - (p + 1)) (p + 1) else p) = _
  rw [if_pos ⟨h, h2⟩]
theorem sk_stop {b : Nat → Int32} {n p : Nat} (h : ¬ (p < n ∧ b p = 32)) : sk b n p = p := by
  unfold sk
  cases e : n - p with
  | zero => rfl
  | succ j =>
    show (if p < n ∧ b p = 32 then sk_f b n j (p + 1) else p) = _
    rw [if_neg h]
/-- where the word that begins at p ends -/
noncomputable def we_f (b : Nat → Int32) (n : Nat) : Nat → Nat → Nat
  | 0, p => p
  | j + 1, p => if il b n p = 0 then p else we_f b n j (p + 1)
noncomputable def we (b : Nat → Int32) (n p : Nat) : Nat := we_f b n (n - p) p
theorem we_step {b : Nat → Int32} {n p : Nat} (h : isl b n p) : we b n p = we b n (p + 1) := by
  unfold we
  have := h.1
  rw [show n - p = (n - (p + 1)) + 1 from by omega]
  show (if il b n p = 0 then p else we_f b n (n - (p + 1)) (p + 1)) = _
  rw [il_1 h]; rfl
theorem we_stop {b : Nat → Int32} {n p : Nat} (h : ¬ isl b n p) : we b n p = p := by
  unfold we
  cases e : n - p with
  | zero => rfl
  | succ j =>
    show (if il b n p = 0 then p else we_f b n j (p + 1)) = _
    rw [if_pos (il_0 h)]
theorem ge_of_f {f : Nat → Nat → Nat} (h0 : ∀ p, f 0 p = p) (hs : ∀ j p, f (j + 1) p = p ∨ f (j + 1) p = f j (p + 1)) : ∀ j p, p ≤ f j p ∧ f j p ≤ p + j
  | 0, p => by rw [h0]; omega
  | j + 1, p => by
    have ih := ge_of_f h0 hs j (p + 1)
    rcases hs j p with e | e <;> rw [e] <;> omega
theorem sk_le {b : Nat → Int32} {n p : Nat} (h : p ≤ n) : p ≤ sk b n p ∧ sk b n p ≤ n := by
  have := ge_of_f (f := sk_f b n) (fun _ => rfl) (fun j p => by
    show (if p < n ∧ b p = 32 then sk_f b n j (p + 1) else p) = p ∨ (if p < n ∧ b p = 32 then sk_f b n j (p + 1) else p) = _
    by_cases c : p < n ∧ b p = 32
    · rw [if_pos c]; exact Or.inr rfl
    · rw [if_neg c]; exact Or.inl rfl) (n - p) p
  unfold sk; omega
theorem we_le {b : Nat → Int32} {n p : Nat} (h : p ≤ n) : p ≤ we b n p ∧ we b n p ≤ n := by
  have := ge_of_f (f := we_f b n) (fun _ => rfl) (fun j p => by
    show (if il b n p = 0 then p else we_f b n j (p + 1)) = p ∨ (if il b n p = 0 then p else we_f b n j (p + 1)) = _
    by_cases c : il b n p = 0
    · rw [if_pos c]; exact Or.inl rfl
    · rw [if_neg c]; exact Or.inr rfl) (n - p) p
  unfold we; omega
/-- where the number at p ends, and its value -/
noncomputable def nu_f (b : Nat → Int32) (n : Nat) : Nat → Nat → Int64 → Nat × Int64
  | 0, p, v => (p, v)
  | j + 1, p, v => if idg b n p = 0 then (p, v) else nu_f b n j (p + 1) (if (((10 : Int64) * v) + (bt b n p).toInt64) - (48 : Int64) < (1000000 : Int64) then (((10 : Int64) * v) + (bt b n p).toInt64) - (48 : Int64) else (1000000 : Int64))
noncomputable def nu (b : Nat → Int32) (n p : Nat) (v : Int64) : Nat × Int64 := nu_f b n (n - p) p v
theorem nu_step {b : Nat → Int32} {n p : Nat} {v : Int64} (h : isd b n p) : nu b n p v = nu b n (p + 1) (if (((10 : Int64) * v) + (bt b n p).toInt64) - (48 : Int64) < (1000000 : Int64) then (((10 : Int64) * v) + (bt b n p).toInt64) - (48 : Int64) else (1000000 : Int64)) := by
  unfold nu
  have := h.1
  rw [show n - p = (n - (p + 1)) + 1 from by omega]
  show (if idg b n p = 0 then (p, v) else nu_f b n (n - (p + 1)) (p + 1) _) = _
  rw [idg_1 h]; rfl
theorem nu_stop {b : Nat → Int32} {n p : Nat} {v : Int64} (h : ¬ isd b n p) : nu b n p v = (p, v) := by
  unfold nu
  cases e : n - p with
  | zero => rfl
  | succ j =>
    show (if idg b n p = 0 then (p, v) else nu_f b n j (p + 1) _) = _
    rw [if_pos (idg_0 h)]
theorem nu_le {b : Nat → Int32} {n : Nat} : ∀ (j p : Nat) (v : Int64), p ≤ (nu_f b n j p v).1 ∧ (nu_f b n j p v).1 ≤ p + j
  | 0, p, v => by show p ≤ p ∧ p ≤ p + 0; omega
  | j + 1, p, v => by
    show p ≤ (if idg b n p = 0 then (p, v) else nu_f b n j (p + 1) _).1 ∧ (if idg b n p = 0 then (p, v) else nu_f b n j (p + 1) _).1 ≤ p + (j + 1)
    by_cases c : idg b n p = 0
    · rw [if_pos c]; show p ≤ p ∧ p ≤ p + (j + 1); omega
    · rw [if_neg c]
      have ih := nu_le (b := b) (n := n) j (p + 1) (if (((10 : Int64) * v) + (bt b n p).toInt64) - (48 : Int64) < (1000000 : Int64) then (((10 : Int64) * v) + (bt b n p).toInt64) - (48 : Int64) else (1000000 : Int64))
      omega
theorem nu_le1 {b : Nat → Int32} {n p : Nat} {v : Int64} (h : p ≤ n) : p ≤ (nu b n p v).1 ∧ (nu b n p v).1 ≤ n := by
  have := nu_le (b := b) (n := n) (n - p) p v
  unfold nu; omega
theorem bt_lt {b : Nat → Int32} {n k : Nat} (h : bt b n k ≠ -1) : k < n := by
  unfold bt at h
  by_cases c : k < n
  · exact c
  · rw [if_neg c] at h; exact absurd rfl h
theorem bt_32 {b : Nat → Int32} {n k : Nat} : bt b n k = 32 ↔ (k < n ∧ b k = 32) := by
  unfold bt
  by_cases c : k < n
  · rw [if_pos c]; exact ⟨fun h => ⟨c, h⟩, fun h => h.2⟩
  · rw [if_neg c]; exact ⟨fun h => absurd h (by decide), fun h => absurd h.1 c⟩
theorem in_bt {σ : pr_I} {b : Nat → Int32} {n k : Nat} {lo hi : Int32} {A B : Int64} (eA : lo.toInt64 = A) (eB : hi.toInt64 = B) (hlo : (0 : Int32) ≤ lo) {v : Int32} (hv : ∀ h : k < n ∧ lo ≤ b k ∧ b k ≤ hi, v = 1) (hv2 : ¬ (k < n ∧ lo ≤ b k ∧ b k ≤ hi) → v = 0) : m_in_r σ (bt b n k).toInt64 A B = v := by
  by_cases c : k < n
  · unfold bt; rw [if_pos c]
    by_cases c1 : lo ≤ b k
    · by_cases c2 : b k ≤ hi
      · rw [hv ⟨c, c1, c2⟩]; exact in_z1 c1 c2 eA eB
      · rw [hv2 (fun h => c2 h.2.2)]; exact in_z0 (Or.inr (Int32.not_le.mp c2)) eA eB
    · rw [hv2 (fun h => c1 h.2.1)]; exact in_z0 (Or.inl (Int32.not_le.mp c1)) eA eB
  · unfold bt; rw [if_neg c, hv2 (fun h => c h.1)]
    refine in_z0 (Or.inl ?_) eA eB
    have := Int32.le_iff_toInt_le.mp hlo
    exact Int32.lt_iff_toInt_lt.mpr (by show (-1 : Int) < _; have e0 : (0 : Int32).toInt = 0 := by decide
                                        omega)
set_option maxRecDepth 100000 in
set_option maxHeartbeats 400000 in
theorem c_ba {g : pr_C} {l : Launch} (hl : l.stackTraces = false) {T : pr_T} {I : pr_I} {L : pr_L} {m : Nat} {σ : pr_I} (hm : pr_Mo T m) {n : Nat} (hn : σ 0 8 = nI n) (hn7 : n ≤ 700) {k : Nat} (hk : k ≤ 700) : pr_M g l 1 0 0 mX8_byteAt [.ref m, .int (nI k)] T (rg_put I m 16 σ) L (pr_R (some (.int (bt (σ 7) n k))) T (rg_put I m 16 σ) L) pr_no := by
  refine pr_ofG (by decide) rfl hl (Nat.le_of_ble_eq_true rfl) (fun X hA hX hXn hXt => ?_)
  subst hX
  show pr_G g X mX8_byteAt.2.2.1 _ 0 0 0 [.ref m, .int (nI k)] [] T (rg_put I m 16 σ) L
  refine pr_iload_n hA dX8_byteAt_0 rfl ?_
  refine pr_aload_n hA dX8_byteAt_1 rfl ?_
  refine pr_getE (v := (nI n)) hA f_X8_66 rfl (mo_k0 hm) ((rg_val0 (by decide)).trans hn) dX8_byteAt_2 ?_
  refine pr_icmp_ge hA 17 dX8_byteAt_5 (by decide) (fun c_5 => ?_) (fun c_5 => ?_)
  · have n_5 : n ≤ k := (nI_leI (by omega) (by omega)).mp c_5
    refine pr_iconst hA ((-1)) dX8_byteAt_17 (by decide) ?_
    exact pr_ireturn hA rfl rfl (Nat.zero_le _) (Nat.zero_le _) dX8_byteAt_18 ⟨(by unfold bt; first | rw [if_pos (by omega)] | rw [if_neg (by omega)]), rfl, rfl, rfl⟩
  · have n_5 : ¬ n ≤ k := fun q => c_5 ((nI_leI (by omega) (by omega)).mpr q)
    refine pr_aload_n hA dX8_byteAt_8 rfl ?_
    refine pr_getR hA f_X8_29 rfl (mo_k0 hm) (mo_f0_7 hm) dX8_byteAt_9 ?_
    refine pr_iload_n hA dX8_byteAt_12 rfl ?_
    refine pr_ialdM (v := (σ 7 k)) hA (mo_k7 hm) (by omega) (by omega) (rg_val (by decide)) dX8_byteAt_13 ?_
    refine pr_goto hA 18 dX8_byteAt_14 (by decide) ?_
    exact pr_ireturn hA rfl rfl (Nat.zero_le _) (Nat.zero_le _) dX8_byteAt_18 ⟨(by unfold bt; first | rw [if_pos (by omega)] | rw [if_neg (by omega)]), rfl, rfl, rfl⟩

set_option maxRecDepth 100000 in
set_option maxHeartbeats 400000 in
theorem c_il {g : pr_C} {l : Launch} (hl : l.stackTraces = false) {T : pr_T} {I : pr_I} {L : pr_L} {m : Nat} {σ : pr_I} (hm : pr_Mo T m) {n : Nat} (hn : σ 0 8 = nI n) (hn7 : n ≤ 700) {k : Nat} (hk : k ≤ 700) : pr_M g l 2 0 0 mX8_isLetter [.ref m, .int (nI k)] T (rg_put I m 16 σ) L (pr_R (some (.int (il (σ 7) n k))) T (rg_put I m 16 σ) L) pr_no := by
  refine pr_ofG (by decide) rfl hl (Nat.le_of_ble_eq_true rfl) (fun X hA hX hXn hXt => ?_)
  subst hX
  show pr_G g X mX8_isLetter.2.2.1 _ 0 0 0 [.ref m, .int (nI k)] [] T (rg_put I m 16 σ) L
  refine pr_aload_n hA dX8_isLetter_0 rfl ?_
  refine pr_iload_n hA dX8_isLetter_1 rfl ?_
  refine pr_callVi hA [.int (nI k)] (c_ba (m := m) (σ := σ) (n := n) (k := k) (pr_hl hA) hm hn (by omega) (by omega)) v_X8_72 (mo_k0 hm) (by decide) rfl rfl rfl (by decide) (Nat.zero_le _) (Nat.zero_le _) rfl (Nat.le_of_ble_eq_true rfl) dX8_isLetter_2 ?_
  refine pr_i2l hA dX8_isLetter_5 ?_
  refine pr_ldc2 hA kK_X8_76 dX8_isLetter_6 ?_
  refine pr_ldc2 hA kK_X8_78 dX8_isLetter_9 ?_
  refine pr_callSi hA [.long (((bt (σ 7) n k)).toInt64), .long (97 : Int64), .long (122 : Int64)] (c_inE (m := m) (σ := σ) (v := (il (σ 7) n k)) (pr_hl hA) hm (in_bt (lo := 97) (hi := 122) (by decide) (by decide) (by decide) (fun h => il_1 h) (fun h => il_0 h))) s_X8_80 rfl (by decide) (Nat.zero_le _) (Nat.zero_le _) rfl (Nat.le_of_ble_eq_true rfl) dX8_isLetter_12 ?_
  exact pr_ireturn hA rfl (pr_nb (by unfold il; split <;> simp)) (Nat.zero_le _) (Nat.zero_le _) dX8_isLetter_15 ⟨rfl, rfl, rfl, rfl⟩

set_option maxRecDepth 100000 in
set_option maxHeartbeats 400000 in
theorem c_id {g : pr_C} {l : Launch} (hl : l.stackTraces = false) {T : pr_T} {I : pr_I} {L : pr_L} {m : Nat} {σ : pr_I} (hm : pr_Mo T m) {n : Nat} (hn : σ 0 8 = nI n) (hn7 : n ≤ 700) {k : Nat} (hk : k ≤ 700) : pr_M g l 2 0 0 mX8_isDigit [.ref m, .int (nI k)] T (rg_put I m 16 σ) L (pr_R (some (.int (idg (σ 7) n k))) T (rg_put I m 16 σ) L) pr_no := by
  refine pr_ofG (by decide) rfl hl (Nat.le_of_ble_eq_true rfl) (fun X hA hX hXn hXt => ?_)
  subst hX
  show pr_G g X mX8_isDigit.2.2.1 _ 0 0 0 [.ref m, .int (nI k)] [] T (rg_put I m 16 σ) L
  refine pr_aload_n hA dX8_isDigit_0 rfl ?_
  refine pr_iload_n hA dX8_isDigit_1 rfl ?_
  refine pr_callVi hA [.int (nI k)] (c_ba (m := m) (σ := σ) (n := n) (k := k) (pr_hl hA) hm hn (by omega) (by omega)) v_X8_72 (mo_k0 hm) (by decide) rfl rfl rfl (by decide) (Nat.zero_le _) (Nat.zero_le _) rfl (Nat.le_of_ble_eq_true rfl) dX8_isDigit_2 ?_
  refine pr_i2l hA dX8_isDigit_5 ?_
  refine pr_ldc2 hA kK_X8_84 dX8_isDigit_6 ?_
  refine pr_ldc2 hA kK_X8_86 dX8_isDigit_9 ?_
  refine pr_callSi hA [.long (((bt (σ 7) n k)).toInt64), .long (48 : Int64), .long (57 : Int64)] (c_inE (m := m) (σ := σ) (v := (idg (σ 7) n k)) (pr_hl hA) hm (in_bt (lo := 48) (hi := 57) (by decide) (by decide) (by decide) (fun h => idg_1 h) (fun h => idg_0 h))) s_X8_80 rfl (by decide) (Nat.zero_le _) (Nat.zero_le _) rfl (Nat.le_of_ble_eq_true rfl) dX8_isDigit_12 ?_
  exact pr_ireturn hA rfl (pr_nb (by unfold idg; split <;> simp)) (Nat.zero_le _) (Nat.zero_le _) dX8_isDigit_15 ⟨rfl, rfl, rfl, rfl⟩

set_option maxRecDepth 100000 in
set_option maxHeartbeats 400000 in
theorem c_we {g : pr_C} {l : Launch} (hl : l.stackTraces = false) {T : pr_T} {I : pr_I} {L : pr_L} {m : Nat} {σ : pr_I} (hm : pr_Mo T m) {n : Nat} (hn : σ 0 8 = nI n) (hn7 : n ≤ 700) {q : Nat} (hq : σ 0 10 = nI q) (hqn : q ≤ n)  : pr_M g l 3 0 0 mX8_wordEnd [.ref m] T (rg_put I m 16 σ) L (pr_R (some (.int (nI (we (σ 7) n q)))) T (rg_put I m 16 σ) L) pr_no := by
  refine pr_ofG (by decide) rfl hl (Nat.le_of_ble_eq_true rfl) (fun X hA hX hXn hXt => ?_)
  subst hX
  show pr_G g X mX8_wordEnd.2.2.1 _ 0 0 0 [.ref m, .null] [] T (rg_put I m 16 σ) L
  refine pr_aload_n hA dX8_wordEnd_0 rfl ?_
  refine pr_getE (v := (nI q)) hA f_X8_91 rfl (mo_k0 hm) ((rg_val0 (by decide)).trans hq) dX8_wordEnd_1 ?_
  refine pr_istore_n (ls' := [_, _]) hA dX8_wordEnd_4 (by decide) rfl ?_
  have lp5 : ∀ (j p : Nat), n - p = j → p ≤ n → we (σ 7) n p = we (σ 7) n q → pr_G g X mX8_wordEnd.2.2.1 (pr_MQ g X (pr_R (some (.int (nI (we (σ 7) n q)))) T (rg_put I m 16 σ) L) pr_no 0 0) 0 0 5 [.ref m, .int (nI p)] [] T (rg_put I m 16 σ) L := by
    intro j
    induction j using Nat.strongRecOn with | ind j ih =>
    intro p hj hpn hw
    refine pr_aload_n hA dX8_wordEnd_5 rfl ?_
    refine pr_iload_n hA dX8_wordEnd_6 rfl ?_
    refine pr_callVi hA [.int (nI p)] (c_il (m := m) (σ := σ) (n := n) (k := p) (pr_hl hA) hm hn (by omega) (by omega)) v_X8_100 (mo_k0 hm) (by decide) rfl rfl rfl (by decide) (Nat.zero_le _) (Nat.zero_le _) rfl (Nat.le_of_ble_eq_true rfl) dX8_wordEnd_7 ?_
    refine pr_if_eq hA 19 dX8_wordEnd_10 (by decide) (fun c_10 => ?_) (fun c_10 => ?_)
    · rw [we_stop (il_f c_10)] at hw
      refine pr_iload_n hA dX8_wordEnd_19 rfl ?_
      exact pr_ireturn hA rfl rfl (Nat.zero_le _) (Nat.zero_le _) dX8_wordEnd_20 ⟨by rw [hw], rfl, rfl, rfl⟩
    · refine pr_iinc (ls' := [_, _]) hA (nI (p + 1)) dX8_wordEnd_13 (by decide) rfl (nI_inc _) rfl ?_
      refine pr_goto hA 5 dX8_wordEnd_16 (by decide) ?_
      exact ih (n - (p + 1)) (by have := (il_t c_10).1; omega) (p + 1) rfl (by have := (il_t c_10).1; omega) ((we_step (il_t c_10)).symm.trans hw)
  exact lp5 (n - q) q rfl hqn rfl

theorem pr_up_id {σ : pr_I} {o k : Nat} {v : Int32} (h : σ o k = v) : pr_up σ o k v = σ := by
  funext b j; unfold pr_up; by_cases c : b = o ∧ j = k
  · rw [if_pos c, c.1, c.2, h]
  · rw [if_neg c]
theorem nI_sub {a b : Nat} (h : b ≤ a) : nI a - nI b = nI (a - b) := by
  obtain ⟨c, rfl⟩ : ∃ c, a = b + c := ⟨a - b, by omega⟩
  rw [← nI_add, show b + c - b = c from by omega]
  apply Int32.toBitVec_inj.mp
  simp [Int32.toBitVec_sub, Int32.toBitVec_add]
  bv_omega
set_option maxRecDepth 100000 in
set_option maxHeartbeats 400000 in
theorem c_see {g : pr_C} {l : Launch} (hl : l.stackTraces = false) {T : pr_T} {I : pr_I} {L : pr_L} {m : Nat} {σ : pr_I} (hm : pr_Mo T m) {n : Nat} (hn : σ 0 8 = nI n) (hn7 : n ≤ 700) {p : Nat} (hp : σ 0 9 = nI p) (hpn : p ≤ n)  : pr_M g l 2 0 0 mX8_see [.ref m] T (rg_put I m 16 σ) L (pr_R (some (.int (bt (σ 7) n (sk (σ 7) n p)))) T (rg_put I m 16 (pr_up (pr_up σ 0 9 (nI (sk (σ 7) n p))) 0 10 (nI (sk (σ 7) n p)))) L) pr_no := by
  refine pr_ofG (by decide) rfl hl (Nat.le_of_ble_eq_true rfl) (fun X hA hX hXn hXt => ?_)
  subst hX
  show pr_G g X mX8_see.2.2.1 _ 0 0 0 [.ref m] [] T (rg_put I m 16 σ) L
  have lp0 : ∀ (j x : Nat), n - x = j → x ≤ n → sk (σ 7) n x = sk (σ 7) n p → pr_G g X mX8_see.2.2.1 (pr_MQ g X (pr_R (some (.int (bt (σ 7) n (sk (σ 7) n p)))) T (rg_put I m 16 (pr_up (pr_up σ 0 9 (nI (sk (σ 7) n p))) 0 10 (nI (sk (σ 7) n p)))) L) pr_no 0 0) 0 0 0 [.ref m] [] T (rg_put I m 16 (pr_up σ 0 9 (nI x))) L := by
    intro j
    induction j using Nat.strongRecOn with | ind j ih =>
    intro x hj hxn hw
    refine pr_aload_n hA dX8_see_0 rfl ?_
    refine pr_aload_n hA dX8_see_1 rfl ?_
    refine pr_getE (v := (nI x)) hA f_X8_88 rfl (mo_k0 hm) ((rg_val0 (by decide)).trans pr_upe) dX8_see_2 ?_
    refine pr_callVi hA [.int (nI x)] (c_ba (m := m) (σ := (pr_up σ 0 9 (nI x))) (n := n) (k := x) (pr_hl hA) hm ((pr_upk (by decide)).trans hn) (by omega) (by omega)) v_X8_72 (mo_k0 hm) (by decide) rfl rfl rfl (by decide) (Nat.zero_le _) (Nat.zero_le _) rfl (Nat.le_of_ble_eq_true rfl) dX8_see_5 ?_
    rw [show (bt ((pr_up σ 0 9 (nI x)) 7) n x) = (bt (σ 7) n x) from (congrArg (fun z => bt z _ _) (pr_up_ne (by decide)))]
    refine pr_bipush hA (32) dX8_see_8 (by decide) ?_
    refine pr_icmp_ne hA 26 dX8_see_10 (by decide) (fun c_10 => ?_) (fun c_10 => ?_)
    · rw [sk_stop (fun h => c_10 (bt_32.mpr h))] at hw
      refine pr_aload_n hA dX8_see_26 rfl ?_
      refine pr_aload_n hA dX8_see_27 rfl ?_
      refine pr_getE (v := (nI x)) hA f_X8_88 rfl (mo_k0 hm) ((rg_val0 (by decide)).trans pr_upe) dX8_see_28 ?_
      refine pr_putE (I' := (rg_put I m 16 (pr_up (pr_up σ 0 9 (nI x)) 0 10 (nI x)))) hA f_X8_91 rfl (mo_k0 hm) (rg_up0 (by decide)) dX8_see_31 ?_
      refine pr_aload_n hA dX8_see_34 rfl ?_
      refine pr_aload_n hA dX8_see_35 rfl ?_
      refine pr_getE (v := (nI x)) hA f_X8_88 rfl (mo_k0 hm) ((rg_val0 (by decide)).trans ((pr_upk (by decide)).trans pr_upe)) dX8_see_36 ?_
      refine pr_callVi hA [.int (nI x)] (c_ba (m := m) (σ := (pr_up (pr_up σ 0 9 (nI x)) 0 10 (nI x))) (n := n) (k := x) (pr_hl hA) hm ((pr_upk (by decide)).trans ((pr_upk (by decide)).trans hn)) (by omega) (by omega)) v_X8_72 (mo_k0 hm) (by decide) rfl rfl rfl (by decide) (Nat.zero_le _) (Nat.zero_le _) rfl (Nat.le_of_ble_eq_true rfl) dX8_see_39 ?_
      rw [show (bt ((pr_up (pr_up σ 0 9 (nI x)) 0 10 (nI x)) 7) n x) = (bt (σ 7) n x) from (congrArg (fun z => bt z _ _) ((pr_up_ne (by decide)).trans (pr_up_ne (by decide))))]
      exact pr_ireturn hA rfl rfl (Nat.zero_le _) (Nat.zero_le _) dX8_see_42 ⟨by rw [hw], rfl, by rw [hw], rfl⟩
    · refine pr_aload_n hA dX8_see_13 rfl ?_
      refine pr_dup hA dX8_see_14 rfl ?_
      refine pr_getE (v := (nI x)) hA f_X8_88 rfl (mo_k0 hm) ((rg_val0 (by decide)).trans pr_upe) dX8_see_15 ?_
      refine pr_iconst hA (1) dX8_see_18 (by decide) ?_
      refine pr_iaddE (v := nI (x + 1)) hA (nI_1 _) dX8_see_19 ?_
      refine pr_putE (I' := (rg_put I m 16 (pr_up (pr_up σ 0 9 (nI x)) 0 9 (nI (x + 1))))) hA f_X8_88 rfl (mo_k0 hm) (rg_up0 (by decide)) dX8_see_20 ?_
      refine pr_goto hA 0 dX8_see_23 (by decide) ?_
      exact (by have hb := ih (n - (x + 1)) (by have := (bt_32.mp c_10).1; omega) (x + 1) rfl (by have := (bt_32.mp c_10).1; omega) ((sk_step (bt_32.mp c_10).1 (bt_32.mp c_10).2).symm.trans hw); rw [← pr_up_two (σ := σ) (o := 0) (k := 9) (u := nI x) (v := nI (x + 1))] at hb; exact hb)
  exact (by have h0 := lp0 (n - p) p rfl hpn rfl; rw [pr_up_id hp] at h0; exact h0)

theorem c_seeE {g : pr_C} {l : Launch} (hl : l.stackTraces = false) {T : pr_T} {I : pr_I} {L : pr_L} {m : Nat} {σ : pr_I} {n p : Nat} {b : Nat → Int32} (hm : pr_Mo T m) (hn : σ 0 8 = nI n) (hn7 : n ≤ 700) (hp : σ 0 9 = nI p) (hpn : p ≤ n) (hb : σ 7 = b) : pr_M g l 2 0 0 mX8_see [.ref m] T (rg_put I m 16 σ) L (pr_R (some (.int (bt b n (sk b n p)))) T (rg_put I m 16 (pr_up (pr_up σ 0 9 (nI (sk b n p))) 0 10 (nI (sk b n p)))) L) pr_no := by
  subst hb; exact c_see hl hm hn hn7 hp hpn
theorem c_weE {g : pr_C} {l : Launch} (hl : l.stackTraces = false) {T : pr_T} {I : pr_I} {L : pr_L} {m : Nat} {σ : pr_I} {n q : Nat} {b : Nat → Int32} (hm : pr_Mo T m) (hn : σ 0 8 = nI n) (hn7 : n ≤ 700) (hq : σ 0 10 = nI q) (hqn : q ≤ n) (hb : σ 7 = b) : pr_M g l 3 0 0 mX8_wordEnd [.ref m] T (rg_put I m 16 σ) L (pr_R (some (.int (nI (we b n q)))) T (rg_put I m 16 σ) L) pr_no := by
  subst hb; exact c_we hl hm hn hn7 hq hqn
theorem c_baE {g : pr_C} {l : Launch} (hl : l.stackTraces = false) {T : pr_T} {I : pr_I} {L : pr_L} {m : Nat} {σ : pr_I} {n k : Nat} {b : Nat → Int32} (hm : pr_Mo T m) (hn : σ 0 8 = nI n) (hn7 : n ≤ 700) (hk : k ≤ 700) (hb : σ 7 = b) : pr_M g l 1 0 0 mX8_byteAt [.ref m, .int (nI k)] T (rg_put I m 16 σ) L (pr_R (some (.int (bt b n k))) T (rg_put I m 16 σ) L) pr_no := by
  subst hb; exact c_ba hl hm hn hn7 hk
theorem c_ilE {g : pr_C} {l : Launch} (hl : l.stackTraces = false) {T : pr_T} {I : pr_I} {L : pr_L} {m : Nat} {σ : pr_I} {n k : Nat} {b : Nat → Int32} (hm : pr_Mo T m) (hn : σ 0 8 = nI n) (hn7 : n ≤ 700) (hk : k ≤ 700) (hb : σ 7 = b) : pr_M g l 2 0 0 mX8_isLetter [.ref m, .int (nI k)] T (rg_put I m 16 σ) L (pr_R (some (.int (il b n k))) T (rg_put I m 16 σ) L) pr_no := by
  subst hb; exact c_il hl hm hn hn7 hk
theorem c_idE {g : pr_C} {l : Launch} (hl : l.stackTraces = false) {T : pr_T} {I : pr_I} {L : pr_L} {m : Nat} {σ : pr_I} {n k : Nat} {b : Nat → Int32} (hm : pr_Mo T m) (hn : σ 0 8 = nI n) (hn7 : n ≤ 700) (hk : k ≤ 700) (hb : σ 7 = b) : pr_M g l 2 0 0 mX8_isDigit [.ref m, .int (nI k)] T (rg_put I m 16 σ) L (pr_R (some (.int (idg b n k))) T (rg_put I m 16 σ) L) pr_no := by
  subst hb; exact c_id hl hm hn hn7 hk
set_option maxRecDepth 100000 in
set_option maxHeartbeats 400000 in
theorem c_fails {g : pr_C} {l : Launch} (hl : l.stackTraces = false) {T : pr_T} {I : pr_I} {L : pr_L} {m : Nat} {σ : pr_I} (hm : pr_Mo T m) {q : Nat} (hq : σ 0 10 = nI q) (h12 : σ 0 12 = 0) {e : Int32} : pr_M g l 1 0 0 mX8_fails [.ref m, .int e] T (rg_put I m 16 σ) L (pr_R (some (.int (0 : Int32))) T (rg_put I m 16 (pr_up (pr_up σ 0 12 e) 0 11 (nI q))) L) pr_no := by
  refine pr_ofG (by decide) rfl hl (Nat.le_of_ble_eq_true rfl) (fun X hA hX hXn hXt => ?_)
  subst hX
  show pr_G g X mX8_fails.2.2.1 _ 0 0 0 [.ref m, .int e] [] T (rg_put I m 16 σ) L
  refine pr_aload_n hA dX8_fails_0 rfl ?_
  refine pr_getE (v := (0 : Int32)) hA f_X8_94 rfl (mo_k0 hm) ((rg_val0 (by decide)).trans h12) dX8_fails_1 ?_
  refine pr_if_ne hA 20 dX8_fails_4 (by decide) (fun c_4 => ?_) (fun c_4 => ?_)
  · exact (c_4 (by decide)).elim
  · refine pr_aload_n hA dX8_fails_7 rfl ?_
    refine pr_iload_n hA dX8_fails_8 rfl ?_
    refine pr_putE (I' := (rg_put I m 16 (pr_up σ 0 12 e))) hA f_X8_94 rfl (mo_k0 hm) (rg_up0 (by decide)) dX8_fails_9 ?_
    refine pr_aload_n hA dX8_fails_12 rfl ?_
    refine pr_aload_n hA dX8_fails_13 rfl ?_
    refine pr_getE (v := (nI q)) hA f_X8_91 rfl (mo_k0 hm) ((rg_val0 (by decide)).trans ((pr_upk (by decide)).trans hq)) dX8_fails_14 ?_
    refine pr_putE (I' := (rg_put I m 16 (pr_up (pr_up σ 0 12 e) 0 11 (nI q)))) hA f_X8_97 rfl (mo_k0 hm) (rg_up0 (by decide)) dX8_fails_17 ?_
    refine pr_iconst hA (0) dX8_fails_20 (by decide) ?_
    exact pr_ireturn hA rfl (pr_nb (by first | decide | (split <;> simp))) (Nat.zero_le _) (Nat.zero_le _) dX8_fails_21 ⟨rfl, rfl, rfl, rfl⟩

set_option maxRecDepth 100000 in
set_option maxHeartbeats 400000 in
theorem c_passes {g : pr_C} {l : Launch} (hl : l.stackTraces = false) {T : pr_T} {I : pr_I} {L : pr_L} {m : Nat} {σ : pr_I} (hm : pr_Mo T m) {n : Nat} (hn : σ 0 8 = nI n) (hn7 : n ≤ 700) {q : Nat} (hq : σ 0 10 = nI q) (hqn : q ≤ n)  : pr_M g l 4 0 0 mX8_passes [.ref m] T (rg_put I m 16 σ) L (pr_R (some (.int (1 : Int32))) T (rg_put I m 16 (pr_up σ 0 9 (nI (we (σ 7) n q)))) L) pr_no := by
  refine pr_ofG (by decide) rfl hl (Nat.le_of_ble_eq_true rfl) (fun X hA hX hXn hXt => ?_)
  subst hX
  show pr_G g X mX8_passes.2.2.1 _ 0 0 0 [.ref m] [] T (rg_put I m 16 σ) L
  refine pr_aload_n hA dX8_passes_0 rfl ?_
  refine pr_aload_n hA dX8_passes_1 rfl ?_
  refine pr_callVi hA [] (c_weE (m := m) (σ := σ) (n := n) (q := q) (b := (σ 7)) (pr_hl hA) hm hn (by omega) hq (by omega) rfl) v_X8_104 (mo_k0 hm) (by decide) rfl rfl rfl (by decide) (Nat.zero_le _) (Nat.zero_le _) rfl (Nat.le_of_ble_eq_true rfl) dX8_passes_2 ?_
  refine pr_putE (I' := (rg_put I m 16 (pr_up σ 0 9 (nI (we (σ 7) n q))))) hA f_X8_88 rfl (mo_k0 hm) (rg_up0 (by decide)) dX8_passes_5 ?_
  refine pr_iconst hA (1) dX8_passes_8 (by decide) ?_
  exact pr_ireturn hA rfl (pr_nb (by first | decide | (split <;> simp))) (Nat.zero_le _) (Nat.zero_le _) dX8_passes_9 ⟨rfl, rfl, rfl, rfl⟩

theorem c_passesE {g : pr_C} {l : Launch} (hl : l.stackTraces = false) {T : pr_T} {I : pr_I} {L : pr_L} {m : Nat} {σ : pr_I} {n q : Nat} {b : Nat → Int32} (hm : pr_Mo T m) (hn : σ 0 8 = nI n) (hn7 : n ≤ 700) (hq : σ 0 10 = nI q) (hqn : q ≤ n) (hb : σ 7 = b) : pr_M g l 4 0 0 mX8_passes [.ref m] T (rg_put I m 16 σ) L (pr_R (some (.int (1 : Int32))) T (rg_put I m 16 (pr_up σ 0 9 (nI (we b n q)))) L) pr_no := by
  subst hb; exact c_passes hl hm hn hn7 hq hqn
