/-! THE READER OVER WHAT IS LEFT OF A TEXT -/
/-- the text tx lies in the buffer, nothing is wrong yet, and r is what is left -/
def At (φ : pr_I) (tx r : List Nat) : Prop := φ 0 0 = 0 ∧ φ 0 3 = nI tx.length ∧ tx.length ≤ 700 ∧ (∀ j, j < tx.length → φ 1 j = nI (tx.getD j 0)) ∧ (∀ x ∈ tx, x < 128) ∧ ∃ p, p ≤ tx.length ∧ φ 0 4 = nI p ∧ tx.drop p = r
def hdp (P : Nat → Prop) (r : List Nat) : Prop := ∀ c l, r = c :: l → P c
theorem hdp.cons {P : Nat → Prop} {c : Nat} {l : List Nat} (h : P c) : hdp P (c :: l) := fun c' l' e => by cases e; exact h
theorem hdp.nil {P : Nat → Prop} : hdp P [] := fun c l e => by cases e
section ATS
variable {φ : pr_I} {tx r sp w : List Nat} {c : Nat}
theorem At.hd (h : At φ tx (c :: r)) : ∃ p, p < tx.length ∧ φ 0 4 = nI p ∧ tx.drop p = c :: r ∧ φ 1 p = nI c ∧ c < 128 ∧ φ 1 (φ 0 4).toNatClampNeg = nI c := by
  obtain ⟨h0, h3, h7, ht, hx, p, hp, h4, hd⟩ := h
  have hlt : p < tx.length := by
    rcases Nat.lt_or_ge p tx.length with q | q
    · exact q
    · rw [List.drop_eq_nil_of_le q] at hd; cases hd
  have e : tx.getD p 0 = c := by
    have : (tx.drop p)[0]? = some c := by rw [hd]; rfl
    rw [List.getElem?_drop, Nat.add_zero] at this
    rw [List.getD_eq_getElem?_getD, this]; rfl
  have e1 : φ 1 p = nI c := by rw [ht p hlt, e]
  refine ⟨p, hlt, h4, hd, e1, ?_, by rw [h4, nI_clamp (by omega)]; exact e1⟩
  rw [← e]; exact hx _ (jmem hlt)
theorem At.adv (h : At φ tx (c :: r)) : At (pr_up φ 0 4 (φ 0 4 + 1)) tx r := by
  obtain ⟨p, hlt, h4, hd, -⟩ := h.hd
  obtain ⟨h0, h3, h7, ht, hx, -⟩ := h
  refine ⟨by rw [pr_upk (by decide)]; exact h0, by rw [pr_upk (by decide)]; exact h3, h7, by rw [pr_up_ne (by decide)]; exact ht, hx, p + 1, hlt, by rw [pr_upe, h4, nI_1], ?_⟩
  rw [← List.drop_drop, hd]; rfl
theorem At.up5 (h : At φ tx r) {v : Int32} : At (pr_up φ 0 5 v) tx r := by
  obtain ⟨h0, h3, h7, ht, hx, p, hp, h4, hd⟩ := h
  exact ⟨by rw [pr_upk (by decide)]; exact h0, by rw [pr_upk (by decide)]; exact h3, h7, by rw [pr_up_ne (by decide)]; exact ht, hx, p, hp, by rw [pr_upk (by decide)]; exact h4, hd⟩
/-- is there a letter of that range -/
theorem At.nb_in (h : At φ tx (c :: r)) {a b : Nat} (h1 : a ≤ c) (h2 : c ≤ b) (hb : b < 128) : in_nb_r φ (nI a) (nI b) = 1 := by
  obtain ⟨p, hlt, h4, hd, e1, hc, e2⟩ := h.hd
  obtain ⟨h0, h3, h7, -⟩ := h
  unfold in_nb_r
  rw [e2, h3, h4, if_neg (fun z => by have := (nI_leI (by omega) (by omega)).mp z; omega), if_neg (fun z => by have := (nI_ltI (by omega) (by omega)).mp z; omega), if_neg (fun z => by have := (nI_ltI (by omega) (by omega)).mp z; omega)]
theorem At.nb_out (h : At φ tx r) {a b : Nat} (ha : a < 128) (hb : b < 128) (hr : hdp (fun c => c < a ∨ b < c) r) : in_nb_r φ (nI a) (nI b) = 0 := by
  cases r with
  | nil =>
    obtain ⟨h0, h3, h7, ht, hx, p, hp, h4, hd⟩ := h
    have : tx.length ≤ p := List.drop_eq_nil_iff.mp hd
    unfold in_nb_r
    rw [h3, h4, if_pos ((nI_leI (by omega) (by omega)).mpr this)]
  | cons c l =>
    obtain ⟨p, hlt, h4, hd, e1, hc, e2⟩ := h.hd
    obtain ⟨h0, h3, h7, -⟩ := h
    unfold in_nb_r
    rw [e2, h3, h4, if_neg (fun z => by have := (nI_leI (by omega) (by omega)).mp z; omega)]
    rcases hr c l rfl with q | q
    · rw [if_pos ((nI_ltI (by omega) (by omega)).mpr q)]
    · rw [if_pos (show nI b < nI c from (nI_ltI (by omega) (by omega)).mpr q)]
      exact ite_self _
/-- blanks -/
theorem At.sk (h : At φ tx (sp ++ r)) (hs : ∀ x ∈ sp, x = 32) (hr : hdp (fun c => c ≠ 32) r) : ∀ k, At (in_sk_it2 φ k) tx (sp.drop k ++ r)
  | 0 => h
  | k + 1 => by
    have ih := At.sk h hs hr k
    have e1 : (in_sk_it2 φ k) 1 = φ 1 := fr_in_sk_it2 (fun m hm => by rw [List.mem_singleton.mp hm]; decide)
    by_cases c : k < sp.length
    · obtain ⟨x, hx⟩ : ∃ x, sp[k]? = some x := ⟨sp[k], List.getElem?_eq_getElem c⟩
      have hd : sp.drop k = x :: sp.drop (k + 1) := by
        rw [List.drop_eq_getElem_cons c]
        congr 1
        have := List.getElem?_eq_getElem c
        rw [hx] at this
        exact (Option.some.inj this).symm
      have x32 : x = 32 := hs x (List.mem_of_getElem? hx)
      rw [hd] at ih
      have ih' : At (in_sk_it2 φ k) tx (x :: (sp.drop (k + 1) ++ r)) := ih
      obtain ⟨p, hlt, h4, -, -, hc, e2⟩ := ih'.hd
      have h3 := ih'.2.1
      have h7 := ih'.2.2.1
      rw [in_sk_it2, if_neg (fun z => by rw [h3, h4] at z; have := (nI_leI (by omega) (by omega)).mp z; omega), if_pos (by rw [← e1, e2, x32]; rfl)]
      exact ih'.adv
    · rw [List.drop_eq_nil_of_le (by omega), List.nil_append] at ih
      rw [List.drop_eq_nil_of_le (by omega), List.nil_append]
      rw [in_sk_it2]
      split
      · exact ih
      · rename_i c1
        split
        · rename_i c2
          exfalso
          cases r with
          | nil =>
            obtain ⟨h0, h3, h7, ht, hx, p, hp, h4, hd⟩ := ih
            have : tx.length ≤ p := List.drop_eq_nil_iff.mp hd
            exact c1 (by rw [h3, h4]; exact (nI_leI (by omega) (by omega)).mpr this)
          | cons a l =>
            obtain ⟨p, hlt, h4, -, -, hc, e2⟩ := ih.hd
            rw [← e1, e2] at c2
            exact hr a l rfl ((nI_eq (by omega) (by decide)).mp (show nI a = nI 32 from c2))
        · exact ih
theorem At.skip {sp : List Nat} (h : At φ tx (sp ++ r)) (hs : ∀ x ∈ sp, x = 32) (hr : hdp (fun c => c ≠ 32) r) : At (in_sk φ) tx r := by
  have e := h.sk hs hr (sl 700)
  have hl : sp.length ≤ 700 := by
    obtain ⟨-, -, h7, -, -, p, hp, -, hd⟩ := h
    have : (tx.drop p).length = (sp ++ r).length := by rw [hd]
    rw [List.length_drop, List.length_append] at this
    omega
  rw [List.drop_eq_nil_of_le (by rw [sl_eq]; exact hl), List.nil_append] at e
  exact e
/-- a word's number -/
def pkw (w : List Nat) : Int64 := w.foldl (fun q c => (q <<< ((8 : Int32).toInt64 &&& 63)) ||| (nI c).toInt64) 0
theorem At.rw (h : At φ tx (sp ++ (w ++ r))) (hs : ∀ x ∈ sp, x = 32) (hw : ∀ x ∈ w, 97 ≤ x ∧ x ≤ 122) (hw6 : w.length ≤ 6) (hw1 : 0 < w.length) (hr : hdp (fun c => c < 97 ∨ 122 < c) r) : ∀ k, At (in_rw_it16 φ k).1 tx (w.drop k ++ r) ∧ (in_rw_it16 φ k).2 = pkw (w.take k)
  | 0 => by
    have hd : hdp (fun c => c ≠ 32) (w ++ r) := by
      cases w with
      | nil => exact absurd hw1 (by decide)
      | cons a l => exact hdp.cons (by have := hw a List.mem_cons_self; omega)
    exact ⟨(h.skip hs hd).up5, rfl⟩
  | k + 1 => by
    obtain ⟨i1, i2⟩ := At.rw h hs hw hw6 hw1 hr k
    have e1 : (in_rw_it16 φ k).1 1 = φ 1 := by
      rw [fr_in_rw_it16 (fun m hm => by rw [List.mem_singleton.mp hm]; decide), pr_up_ne (by decide)]
      exact fr_in_sk (fun m hm => by rw [List.mem_singleton.mp hm]; decide)
    by_cases c : k < w.length
    · have hd : w.drop k = w[k] :: w.drop (k + 1) := List.drop_eq_getElem_cons c
      have hx := hw w[k] (List.getElem_mem c)
      have i1' : At (in_rw_it16 φ k).1 tx (w[k] :: (w.drop (k + 1) ++ r)) := by rw [hd] at i1; exact i1
      obtain ⟨p, hlt, h4, -, -, hc, e2⟩ := i1'.hd
      have nb := i1'.nb_in hx.1 hx.2 (by decide)
      have nb' : ¬ in_nb_r (in_rw_it16 φ k).1 (97 : Int32) (122 : Int32) = 0 := fun z => by
        rw [show in_nb_r (in_rw_it16 φ k).1 (97 : Int32) (122 : Int32) = 1 from nb] at z; exact absurd z (by decide)
      have s6 : ¬ (6 : Int32) ≤ nI k := fun z => by have := (nI_leI (a := 6) (by decide) (by omega)).mp z; omega
      rw [in_rw_it16, if_neg nb', if_neg s6]
      refine ⟨i1'.adv, ?_⟩
      show ((in_rw_it16 φ k).2 <<< ((8 : Int32).toInt64 &&& 63)) ||| (φ 1 ((in_rw_it16 φ k).1 0 4).toNatClampNeg).toInt64 = _
      rw [← e1, e2, i2, List.take_succ_eq_append_getElem c]
      unfold pkw
      rw [List.foldl_append]
      rfl
    · rw [List.drop_eq_nil_of_le (by omega), List.nil_append] at i1
      have nb : in_nb_r (in_rw_it16 φ k).1 (97 : Int32) (122 : Int32) = 0 := i1.nb_out (a := 97) (b := 122) (by decide) (by decide) hr
      rw [in_rw_it16, if_pos nb, List.drop_eq_nil_of_le (by omega), List.nil_append]
      refine ⟨i1, ?_⟩
      show (in_rw_it16 φ k).2 = _
      rw [i2, List.take_of_length_le (by omega), List.take_of_length_le (by omega)]
end ATS
