/-! WORDS, NUMBERS, SEMICOLONS, THE END -/
section ATW
variable {φ : pr_I} {tx r sp w : List Nat} {c : Nat}
theorem At.pos (h : At φ tx r) : φ 0 4 = nI (tx.length - r.length) ∧ r.length ≤ tx.length ∧ tx.length ≤ 700 := by
  obtain ⟨h0, h3, h7, ht, hx, p, hp, h4, hd⟩ := h
  have : (tx.drop p).length = r.length := by rw [hd]
  rw [List.length_drop] at this
  exact ⟨by rw [h4]; congr 1; omega, by omega, h7⟩
theorem rw_5 : ∀ k, (in_rw_it16 φ k).1 0 5 = (in_sk φ) 0 4
  | 0 => by show (pr_up (in_sk φ) 0 5 ((in_sk φ) 0 4)) 0 5 = _; rw [pr_upe]
  | k + 1 => by
    have ih := rw_5 k
    rw [in_rw_it16]
    split
    · exact ih
    · dsimp only
      rw [pr_upk (by decide)]; exact ih
theorem At.word (h : At φ tx (sp ++ (w ++ r))) (hs : ∀ x ∈ sp, x = 32) (hw : ∀ x ∈ w, 97 ≤ x ∧ x ≤ 122) (hw6 : w.length ≤ 6) (hw1 : 0 < w.length) (hr : hdp (fun c => c < 97 ∨ 122 < c) r) : At (in_rw φ) tx r ∧ in_rw_r φ = pkw w := by
  obtain ⟨i1, i2⟩ := h.rw hs hw hw6 hw1 hr (sl 700)
  have hd : hdp (fun c => c ≠ 32) (w ++ r) := by
    cases w with
    | nil => exact absurd hw1 (by decide)
    | cons a l => exact hdp.cons (by have := hw a List.mem_cons_self; omega)
  have h5 := rw_5 (φ := φ) (sl 700)
  obtain ⟨q1, q2, q3⟩ := (h.skip hs hd).pos
  rw [List.drop_eq_nil_of_le (by rw [sl_eq]; omega), List.nil_append] at i1
  rw [List.take_of_length_le (by rw [sl_eq]; omega)] at i2
  obtain ⟨p1, p2, p3⟩ := i1.pos
  have ne : ¬ (in_rw_it16 φ (sl 700)).1 0 4 = (in_rw_it16 φ (sl 700)).1 0 5 := fun z => by
    rw [h5, p1, q1] at z
    have := (nI_eq (by omega) (by omega)).mp z
    rw [List.length_append] at this q2
    omega
  unfold in_rw in_rw_r
  rw [if_neg ne, if_neg ne]
  exact ⟨i1, i2⟩
/-- a number's value -/
def dv (ds : List Nat) : Nat := ds.foldl (fun a c => a * 10 + (c - 48)) 0
theorem At.rn (h : At φ tx (sp ++ (w ++ r))) (hs : ∀ x ∈ sp, x = 32) (hw : ∀ x ∈ w, 48 ≤ x ∧ x ≤ 57) (hw3 : w.length ≤ 3) (hw1 : 0 < w.length) (hr : hdp (fun c => c < 48 ∨ 57 < c) r) {a b : Int32} : ∀ k, At (in_rn_it15 φ a b k).1 tx (w.drop k ++ r) ∧ (in_rn_it15 φ a b k).2 = nI (dv (w.take k)) ∧ dv (w.take k) < 10 ^ (w.take k).length
  | 0 => by
    have hd : hdp (fun c => c ≠ 32) (w ++ r) := by
      cases w with
      | nil => exact absurd hw1 (by decide)
      | cons a l => exact hdp.cons (by have := hw a List.mem_cons_self; omega)
    exact ⟨h.skip hs hd, rfl, by show (0 : Nat) < 10 ^ 0; decide⟩
  | k + 1 => by
    obtain ⟨i1, i2, i3⟩ := At.rn h hs hw hw3 hw1 hr (a := a) (b := b) k
    have e1 : (in_rn_it15 φ a b k).1 1 = φ 1 := by
      rw [fr_in_rn_it15 (fun m hm => by rw [List.mem_singleton.mp hm]; decide)]
      exact fr_in_sk (fun m hm => by rw [List.mem_singleton.mp hm]; decide)
    by_cases c : k < w.length
    · have hd : w.drop k = w[k] :: w.drop (k + 1) := List.drop_eq_getElem_cons c
      have hx := hw w[k] (List.getElem_mem c)
      have i1' : At (in_rn_it15 φ a b k).1 tx (w[k] :: (w.drop (k + 1) ++ r)) := by rw [hd] at i1; exact i1
      obtain ⟨p, hlt, h4, -, -, hc, e2⟩ := i1'.hd
      have nb := i1'.nb_in hx.1 hx.2 (by decide)
      have nb' : ¬ in_nb_r (in_rn_it15 φ a b k).1 (48 : Int32) (57 : Int32) = 0 := fun z => by
        rw [show in_nb_r (in_rn_it15 φ a b k).1 (48 : Int32) (57 : Int32) = 1 from nb] at z; exact absurd z (by decide)
      have hl : (w.take k).length = k := by rw [List.length_take]; omega
      rw [hl] at i3
      have h10 : 10 ^ k ≤ 100 := by
        rcases (by omega : k = 0 ∨ k = 1 ∨ k = 2) with rfl | rfl | rfl <;> decide
      have ev : (nI (dv (w.take k)) * (10 : Int32) + nI w[k]) - (48 : Int32) = nI (dv (w.take k) * 10 + (w[k] - 48)) := by
        rw [show (10 : Int32) = nI 10 from rfl, show (48 : Int32) = nI 48 from rfl, show nI (dv (w.take k)) * nI 10 = nI (dv (w.take k) * 10) from (Int32.ofNat_mul _ _).symm, nI_add, pk_sub (by omega)]
        congr 1
        omega
      have le6 : ¬ (1000000 : Int32) < nI (dv (w.take k) * 10 + (w[k] - 48)) := fun z => by
        have := (nI_ltI (a := 1000000) (by decide) (by omega)).mp z
        omega
      have ed : dv (w.take (k + 1)) = dv (w.take k) * 10 + (w[k] - 48) := by
        rw [List.take_succ_eq_append_getElem c]
        unfold dv
        rw [List.foldl_append]; rfl
      rw [in_rn_it15, if_neg nb']
      refine ⟨i1'.adv, ?_, ?_⟩
      · show (if (1000000 : Int32) < ((((in_rn_it15 φ a b k).2 * (10 : Int32)) + (φ 1 ((in_rn_it15 φ a b k).1 0 4).toNatClampNeg)) - (48 : Int32)) then (1000000 : Int32) else ((((in_rn_it15 φ a b k).2 * (10 : Int32)) + (φ 1 ((in_rn_it15 φ a b k).1 0 4).toNatClampNeg)) - (48 : Int32))) = _
        rw [← e1, e2, i2, ev, if_neg le6, ed]
      · rw [ed, List.length_take, Nat.min_eq_left (by omega), Nat.pow_succ]
        omega
    · rw [List.drop_eq_nil_of_le (by omega), List.nil_append] at i1
      have nb : in_nb_r (in_rn_it15 φ a b k).1 (48 : Int32) (57 : Int32) = 0 := i1.nb_out (a := 48) (b := 57) (by decide) (by decide) hr
      rw [List.take_of_length_le (by omega)] at i2 i3
      rw [in_rn_it15, if_pos nb, List.drop_eq_nil_of_le (by omega), List.nil_append, List.take_of_length_le (by omega)]
      exact ⟨i1, i2, i3⟩
theorem jdec_dg {v : Nat} (hv : v < 1000) : ∀ x ∈ jdec v, 48 ≤ x ∧ x ≤ 57 := by
  intro x hx
  unfold jdec at hx
  split at hx
  · simp at hx; omega
  · split at hx
    · simp at hx; omega
    · simp at hx; omega
theorem jdec_dv {v : Nat} (hv : v < 1000) : dv (jdec v) = v := by
  unfold jdec
  split
  · show 0 * 10 + (48 + v - 48) = v; omega
  · split
    · show (0 * 10 + (48 + v / 10 - 48)) * 10 + (48 + v % 10 - 48) = v; omega
    · show ((0 * 10 + (48 + v / 100 - 48)) * 10 + (48 + v / 10 % 10 - 48)) * 10 + (48 + v % 10 - 48) = v; omega
theorem jdec_1 (v : Nat) : 0 < (jdec v).length := by
  rw [jdec_len]
  unfold jdg
  split
  · decide
  · split <;> decide
theorem At.num {v : Nat} (h : At φ tx (sp ++ (jdec v ++ r))) (hs : ∀ x ∈ sp, x = 32) (hv : v < 1000) (hr : hdp (fun c => c < 48 ∨ 57 < c) r) {a b : Nat} (ha : a ≤ v) (hb : v ≤ b) (hb2 : b < 2 ^ 31) : At (in_rn φ (nI a) (nI b)) tx r ∧ in_rn_r φ (nI a) (nI b) = nI v := by
  have hw3 : (jdec v).length ≤ 3 := jdec_3 v
  have hw1 := jdec_1 v
  have hw := jdec_dg hv
  obtain ⟨i1, i2, -⟩ := h.rn hs hw hw3 hw1 hr (a := nI a) (b := nI b) (sl 700)
  have hd : hdp (fun c => c ≠ 32) (jdec v ++ r) := by
    generalize jdec v = w at hw hw1
    cases w with
    | nil => exact absurd hw1 (by decide)
    | cons a l => exact hdp.cons (by have := hw a List.mem_cons_self; omega)
  obtain ⟨q1, q2, q3⟩ := (h.skip hs hd).pos
  rw [List.drop_eq_nil_of_le (by rw [sl_eq]; omega), List.nil_append] at i1
  rw [List.take_of_length_le (by rw [sl_eq]; omega), jdec_dv hv] at i2
  obtain ⟨p1, p2, p3⟩ := i1.pos
  have ne : ¬ (in_rn_it15 φ (nI a) (nI b) (sl 700)).1 0 4 = (in_sk φ) 0 4 := fun z => by
    rw [p1, q1] at z
    have := (nI_eq (by omega) (by omega)).mp z
    rw [List.length_append] at this q2
    omega
  have h1 : ¬ nI v < nI a := fun z => by have := (nI_ltI (by omega) (by omega)).mp z; omega
  have h2 : nI v ≤ nI b := (nI_leI (by omega) (by omega)).mpr hb
  unfold in_rn in_rn_r
  simp only [i2, if_neg ne, if_neg h1, if_pos h2]
  exact ⟨i1, trivial⟩
theorem At.semi (h : At φ tx (59 :: r)) : At (in_semi φ) tx r := by
  obtain ⟨p, hlt, h4, hd, e1, hc, e2⟩ := h.hd
  have h3 := h.2.1
  have h7 := h.2.2.1
  unfold in_semi
  rw [if_neg (fun z => by rw [h3, h4] at z; have := (nI_leI (by omega) (by omega)).mp z; omega), if_pos (by rw [e2]; rfl)]
  exact h.adv
theorem At.sk0 (h : At φ tx r) (hr : hdp (fun c => c ≠ 32) r) : At (in_sk φ) tx r := At.skip (sp := []) h (fun x hx => by cases hx) hr
theorem At.end1 (h : At φ tx []) : in_end_r φ = 1 ∧ At (in_end φ) tx [] := by
  have e := h.sk0 hdp.nil
  obtain ⟨p1, p2, p3⟩ := e.pos
  have h3 := e.2.1
  unfold in_end_r
  rw [if_neg (fun z => by rw [h3, p1] at z; have := (nI_ltI (by omega) (by omega)).mp z; simp at this)]
  exact ⟨rfl, e⟩
theorem At.end0 (h : At φ tx (59 :: r)) : in_end_r φ = 0 ∧ At (in_end φ) tx (59 :: r) := by
  have e := h.sk0 (hdp.cons (by decide))
  obtain ⟨p1, p2, p3⟩ := e.pos
  have h3 := e.2.1
  unfold in_end_r
  rw [if_pos (by rw [h3, p1]; rw [List.length_cons] at p2 ⊢; exact (nI_ltI (by omega) (by omega)).mpr (by omega))]
  exact ⟨rfl, e⟩
end ATW
