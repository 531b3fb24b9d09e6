/-! THE LAW'S STEPS: what is kept stays -/
section JST
variable {σ μ : pr_I}
theorem J.cancel (j : J σ) (h : Wd σ μ) (tm : Tm σ) (tx : Tx σ) {r : Nat} (hr : r < rqn σ) : J (w_cancel σ (tkn σ) r) := by
  have h4 := wI_nr4 h.cr.w
  have t0 := h.ti
  have js := (j.2.1 r hr).2.2.2.1
  obtain ⟨_, _, _, _, s1, s2⟩ := h.se
  rw [(can_w (σ := σ) (n := tkn σ) (r := r)).1]
  unfold w_settle
  have u : ∀ r', r' ≠ r → ∀ (ρ : pr_I) (o o2 : Nat) (v : Int32), pr_up ρ o2 r v o r' = ρ o r' := fun r' hr ρ o o2 v => if_neg (fun z => hr z.2)
  refine j.drop (r := r) (n := tkn σ) (a := can_a σ r) (b := can_b σ r) (p := σ 119 4) (s := 5) rfl h4 hr (fun t ht _ => ?_) (fun o a b _ d => by rw [pr_up_ne d, pr_up_ne b, pr_up_ne a]) (fun o r' hr' _ => by rw [u r' hr', u r' hr', u r' hr']) (by rw [pr_upv (by decide), pr_upv (by decide), pr_upe]) (by decide) (by decide)
  rcases can_ab (σ := σ) (r := r) with ⟨c, ea, eb⟩ | ⟨c, ea, eb⟩
  · have ta := tm.2.1 r hr c
    have tb := tx.2 r hr c
    have e : (σ 30 r - σ 0 7).toInt = (σ 30 r).toInt - (σ 0 7).toInt := i_sub (by have := t0.1; have := t0.2; omega) (by have := t0.1; have := t0.2; have := js.2; omega)
    rw [ea, eb]
    exact am_le (j.pc ht).1 (j.pc ht).2 (by rw [e]; omega) (by rw [e]; omega) js.2.1 (by have := js.2.2; omega) s1 s2
  · rw [ea, eb]
    exact j.am1 s1 s2 ht
theorem J.ext1 (j : J σ) {t : Nat} {v : Int32} (h4 : rqn σ ≤ 40) (hv : v.toInt ≤ 11600) : J (pr_up σ 14 t v) := by
  have k : ∀ o, o ≠ 14 → pr_up σ 14 t v o = σ o := fun o a => pr_up_ne a
  have n : tkn (pr_up σ 14 t v) = tkn σ ∧ rqn (pr_up σ 14 t v) = rqn σ ∧ lkn (pr_up σ 14 t v) = lkn σ := ⟨tkn_c (k 9 (by decide)), rqn_c (k 18 (by decide)), by unfold lkn; rw [k 1 (by decide)]⟩
  refine ⟨fun t' ht => ?_, fun r hr => ?_, fun l hl => ?_⟩
  · rw [n.1] at ht
    obtain ⟨b1, b2, b3, b4, b5, b6, b7⟩ := j.1 t' ht
    unfold Jt
    rw [n.2.1, n.2.2, kp_c (k 15 (by decide)), k 10 (by decide), k 11 (by decide), k 12 (by decide), k 15 (by decide), k 16 (by decide), k 17 (by decide), k 21 (by decide)]
    refine ⟨b1, b2, b3, b4, b5, b6, fun z => ?_, b7.2⟩
    by_cases q : t' = t
    · rw [q, pr_upe]; exact hv
    · rw [pr_upk q]; exact b7.1 z
  · rw [n.2.1] at hr
    obtain ⟨a1, a2, a3, a4, a5⟩ := j.2.1 r hr
    refine ⟨a1.cong n.1 (fun o ho => ?_) (by rw [k 23 (by decide)]), a2.cong n.2.2 (fun o ho => ?_) (k _ (by omega)) (by rw [k 32 (by decide)]) (fun z => ?_), a3.cong (by rw [k 119 (by decide)]) (fun o ho => ?_), ?_, a5.cong n.1 (fun o ho => ?_) (by rw [k 26 (by decide)]) (by rw [k 27 (by decide)])⟩
    · simp only [List.mem_cons, List.not_mem_nil, or_false] at ho
      exact k o (by omega)
    · simp only [List.mem_cons, List.not_mem_nil, or_false] at ho
      exact k o (by omega)
    · rw [k 23 (by decide)] at z
      exact ⟨z, by rw [k 28 (by decide)]⟩
    · simp only [List.mem_cons, List.not_mem_nil, or_false] at ho
      rw [k o (by omega)]
    · unfold Js
      rw [k 21 (by decide), k 22 (by decide)]; exact a4
    · simp only [List.mem_cons, List.not_mem_nil, or_false] at ho
      exact k o (by omega)
  · rw [n.2.2] at hl
    rw [n.1, Pu_l (tkn σ) (fun t' _ => ⟨by rw [k 11 (by decide)], by rw [k 12 (by decide)], kp_c (k 15 (by decide)) t'⟩), k 4 (by decide)]
    exact j.2.2 l hl
theorem J.extend (j : J σ) (h4 : rqn σ ≤ 40) {r v : Int32} {n : Nat} (hv : v.toInt ≤ 11600) : ∀ k, k ≤ tkn σ → J (tk_post_it5 σ n r v k).1
  | 0, _ => j
  | k + 1, hk => by
    have ih := J.extend j h4 (n := n) (r := r) hv k (by omega)
    have f : ∀ o, o ≠ 14 → (tk_post_it5 σ n r v k).1 o = σ o := fun o a => fr_tk_post_it5 (by simpa using a)
    rw [post_s]
    split
    · split
      · rename_i c1 c2
        dsimp only
        refine ih.ext1 (by rw [rqn_c (f 18 (by decide))]; exact h4) ?_
        split
        · exact hv
        · exact (ih.1 k (by rw [tkn_c (f 9 (by decide))]; omega)).2.2.2.2.2.2.1 (by rw [f 15 (by decide)]; exact c2)
      · exact ih
    · exact ih
/-- one event leaves the counts of nodes and links, the capacities -/
theorem pn_fix (h4 : rqn σ ≤ 40) {lat : Int32} : (w_pn σ lat) 0 6 = σ 0 6 ∧ (w_pn σ lat) 1 = σ 1 ∧ (w_pn σ lat) 4 = σ 4 := by
  have f : ∀ o, o ∈ ([0, 1, 4] : List Nat) → w_pn σ lat o = (pr_up σ 0 7 (w_nt σ lat)) o := fun o ho => by
    unfold w_pn
    rw [fr_w_pn_it34 (nin (A := [0, 1, 4]) (by decide) ho) (by simp only [List.mem_cons, List.not_mem_nil, or_false] at ho; omega) h4, fr_w_end (nin (A := [0, 1, 4]) (by decide) ho), fr_w_exp (nin (A := [0, 1, 4]) (by decide) ho)]
    rfl
  refine ⟨?_, ?_, ?_⟩
  · rw [f 0 (by decide), pr_upk (by decide)]
  · rw [f 1 (by decide), pr_up_ne (by decide)]
  · rw [f 4 (by decide), pr_up_ne (by decide)]
theorem pt_fix {lat : Int32} (hlat : lat.toInt ≤ 1100000) : ∀ (K : Nat) (σ μ : pr_I), Wd σ μ → Tm σ → Tx σ → (w_pt_it2 σ lat K) 0 6 = σ 0 6 ∧ (w_pt_it2 σ lat K) 1 = σ 1 ∧ (w_pt_it2 σ lat K) 4 = σ 4
  | 0, σ, _, _, _, _ => ⟨rfl, rfl, rfl⟩
  | K + 1, σ, μ, h, tm, tx => by
    by_cases c : lat ≤ σ 0 7
    · rw [pt_stay c]; exact ⟨rfl, rfl, rfl⟩
    · rw [pt_shift c]
      have c' : (σ 0 7).toInt < lat.toInt := by rw [le_i] at c; omega
      obtain ⟨μ', a, b, d, _, _⟩ := WX1 h tm tx c' hlat
      obtain ⟨p1, p2, p3⟩ := pn_fix (wI_nr4 h.cr.w) (lat := lat)
      obtain ⟨q1, q2, q3⟩ := pt_fix hlat K _ μ' a b d
      exact ⟨q1.trans p1, q2.trans p2, q3.trans p3⟩
theorem ite_or {α : Type} {p : Prop} [Decidable p] (a b : α) : (if p then a else b) = a ∨ (if p then a else b) = b := by
  by_cases c : p
  · exact Or.inl (if_pos c)
  · exact Or.inr (if_neg c)
/-- what is kept along the law's steps -/
def Inv (k : Nat) (σ μ : pr_I) : Prop := WX σ μ ∧ J σ ∧ σ 0 6 = nI 5 ∧ σ 1 8 = nI 9 ∧ (∀ l, l < 9 → (σ 4 l).toInt ≤ 999) ∧ (σ 0 7).toInt ≤ 9 * (k : Int)
theorem Inv.step {k : Nat} {σ' : pr_I} (hk : k < 18) (h : Inv k σ μ) (s : StR σ σ') : ∃ μ', Inv (k + 1) σ' μ' := by
  obtain ⟨hx, j, e6, e8, ca, tn⟩ := h
  have hx' := hx
  obtain ⟨wt, tx, t6⟩ := hx
  have W := wt.1
  have tm := wt.2
  have h4 := wI_nr4 W.cr.w
  have n5 : ndn σ = 5 := by unfold ndn; rw [e6]; rfl
  have l9 : lkn σ = 9 := by unfold lkn; rw [e8]; rfl
  have t0 := W.ti.1
  have fin : ∀ (S ν : pr_I), WT S ν → Tx S → J S → S 0 = σ 0 → S 1 8 = σ 1 8 → S 4 = σ 4 → ∃ μ', Inv (k + 1) S μ' := fun S ν a b c d e f =>
    ⟨ν, ⟨a, b, by rw [d]; exact t6⟩, c, by rw [d]; exact e6, by rw [e]; exact e8, by rw [f]; exact ca, by rw [d]; omega⟩
  rcases s with ⟨r, hr, rfl⟩ | ⟨r, hr, rfl⟩ | ⟨l, hl, rfl⟩ | ⟨l, hl, rfl⟩ | ⟨l, z, hl, hz, rfl⟩ | ⟨z, hz1, hz2, rfl⟩ | ⟨a, b, u, q, ha, hb, hab, hu1, hu2, hq1, hq2, rfl⟩
  · obtain ⟨c1, c2, _⟩ := eq_cancel wt tx hr
    have oo : fx_cancel σ r = σ ∨ fx_cancel σ r = w_cancel σ (tkn σ) r := ite_or _ _
    have fr : ∀ o, o ∈ ([0, 1, 4] : List Nat) → fx_cancel σ r o = σ o := fun o ho => by
      rcases oo with e | e
      · rw [e]
      · rw [e]; exact fr_w_cancel (nin (A := [0, 1, 4]) (by decide) ho)
    refine fin _ _ c1 c2 ?_ (fr 0 (by decide)) (by rw [fr 1 (by decide)]) (fr 4 (by decide))
    rcases oo with e | e
    · rw [e]; exact j
    · rw [e]; exact j.cancel W tm tx hr
  · have fr : ∀ o, o ≠ 14 → fx_extend σ r o = σ o := fun o ho => fr_tk_post (by simpa using ho)
    have hv : (σ 0 7 + σ 119 0).toInt ≤ 11600 := by
      obtain ⟨⟨s1, s2⟩, _⟩ := W.se
      rw [i_add (by omega) (by omega)]
      omega
    exact fin _ _ (eq_extend wt).1 (tx_extend tx) (j.extend h4 hv (tkn σ) (Nat.le_refl _)) (fr 0 (by decide)) (by rw [fr 1 (by decide)]) (fr 4 (by decide))
  · have hl' : l < lkn σ := by omega
    have oo : fx_takeDown σ l = σ ∨ fx_takeDown σ l = (w_close_it21 σ (tkn σ) (rqn σ) l (rqn σ)).1 := ite_or _ _
    have fr : ∀ o, o ∈ ([0, 4] : List Nat) → fx_takeDown σ l o = σ o := fun o ho => by
      rcases oo with e | e
      · rw [e]
      · rw [e, fr_w_close_it21 (nin (A := [0, 4]) (by decide) ho), pr_up_ne (by simp only [List.mem_cons, List.not_mem_nil, or_false] at ho; omega)]
    refine fin _ _ (eq_takeDown wt hl').1 (tx_takeDown wt tx hl') ?_ (fr 0 (by decide)) ?_ (fr 4 (by decide))
    · rcases oo with e | e
      · rw [e]; exact j
      · rw [e]; exact j.close W tm tx rfl hl' _ (Nat.le_refl _)
    · rcases oo with e | e
      · rw [e]
      · rw [e]
        have e : (w_close_it21 σ (tkn σ) (rqn σ) l (rqn σ)).1 1 = (pr_up σ 1 7 ((σ 1 7) &&& (((1 : Int32) <<< ((nI l) &&& 31)) ^^^ ((-1) : Int32)))) 1 := fr_w_close_it21 (by decide)
        rw [e, pr_upk (by decide)]
  · have hl' : l < lkn σ := by omega
    have oo : fx_bringUp σ l = (pr_up σ 1 7 ((σ 1 7) ||| ((1 : Int32) <<< ((nI l) &&& 31)))) ∨ fx_bringUp σ l = σ := ite_or _ _
    have fr : ∀ o, o ≠ 1 → fx_bringUp σ l o = σ o := fun o ho => by
      rcases oo with e | e
      · rw [e]; exact pr_up_ne ho
      · rw [e]
    have e18 : fx_bringUp σ l 1 8 = σ 1 8 := by
      rcases oo with e | e
      · rw [e]; exact pr_upk (by decide)
      · rw [e]
    refine fin _ _ (eq_bringUp wt hl').1 (tx_bringUp tx) ?_ (fr 0 (by decide)) e18 (fr 4 (by decide))
    refine j.cong ⟨tkn_c (fr 9 (by decide)), rqn_c (fr 18 (by decide)), by unfold lkn; rw [e18]⟩ (fun o ho => ?_) (by rw [fr 119 (by decide)]) (fun r _ => fr _ (by omega)) h4
    simp only [List.mem_cons, List.not_mem_nil, or_false] at ho
    exact fr o (by omega)
  · have hl' : l < lkn σ := by omega
    have fr : ∀ o, o ≠ 4 → fx_setCapacity σ l (nI z) o = σ o := fun o ho => by
      unfold fx_setCapacity
      split
      · exact pr_up_ne ho
      · rfl
    have f4 : ∀ i, fx_setCapacity σ l (nI z) 4 i = σ 4 i ∨ (i = l ∧ σ 7 l ≤ nI z ∧ fx_setCapacity σ l (nI z) 4 i = nI z) := fun i => by
      unfold fx_setCapacity
      split
      · rename_i c
        by_cases q : i = l
        · exact Or.inr ⟨q, c, by rw [q, pr_upe]⟩
        · exact Or.inl (pr_upk q)
      · exact Or.inl rfl
    refine ⟨_, ⟨(eq_setCapacity wt hl' (by rw [nI_toInt (by omega)]; omega)).1, tx_setCapacity tx, by rw [fr 0 (by decide)]; exact t6⟩, ?_, by rw [fr 0 (by decide)]; exact e6, by rw [fr 1 (by decide)]; exact e8, fun i hi => ?_, by rw [fr 0 (by decide)]; omega⟩
    · have n : tkn (fx_setCapacity σ l (nI z)) = tkn σ ∧ rqn (fx_setCapacity σ l (nI z)) = rqn σ ∧ lkn (fx_setCapacity σ l (nI z)) = lkn σ := ⟨tkn_c (fr 9 (by decide)), rqn_c (fr 18 (by decide)), by unfold lkn; rw [fr 1 (by decide)]⟩
      refine ⟨fun t ht => ?_, fun r hr => ?_, fun i hi => ?_⟩
      · rw [n.1] at ht
        refine (j.1 t ht).cong n.2.1 n.2.2 (fun o ho => ?_)
        simp only [List.mem_cons, List.not_mem_nil, or_false] at ho
        exact fr o (by omega)
      · rw [n.2.1] at hr
        obtain ⟨a1, a2, a3, a4, a5⟩ := j.2.1 r hr
        refine ⟨a1.cong n.1 (fun o ho => ?_) (by rw [fr 23 (by decide)]), a2.cong n.2.2 (fun o ho => ?_) (fr _ (by omega)) (by rw [fr 32 (by decide)]) (fun z => ?_), a3.cong (by rw [fr 119 (by decide)]) (fun o ho => ?_), ?_, a5.cong n.1 (fun o ho => ?_) (by rw [fr 26 (by decide)]) (by rw [fr 27 (by decide)])⟩
        · simp only [List.mem_cons, List.not_mem_nil, or_false] at ho
          exact fr o (by omega)
        · simp only [List.mem_cons, List.not_mem_nil, or_false] at ho
          exact fr o (by omega)
        · rw [fr 23 (by decide)] at z
          exact ⟨z, by rw [fr 28 (by decide)]⟩
        · simp only [List.mem_cons, List.not_mem_nil, or_false] at ho
          rw [fr o (by omega)]
        · unfold Js
          rw [fr 21 (by decide), fr 22 (by decide)]; exact a4
        · simp only [List.mem_cons, List.not_mem_nil, or_false] at ho
          exact fr o (by omega)
      · rw [n.2.2] at hi
        rw [n.1, Pu_l (tkn σ) (fun t' _ => ⟨by rw [fr 11 (by decide)], by rw [fr 12 (by decide)], kp_c (fr 15 (by decide)) t'⟩)]
        rcases f4 i with q | ⟨q1, q2, q3⟩
        · rw [q]; exact j.2.2 i hi
        · rw [q3, q1, ← (pu_eq j W.cr hl').1]
          exact le_i.mp q2
    · rcases f4 i with q | ⟨_, _, q3⟩
      · rw [q]; exact ca i hi
      · rw [q3, nI_toInt (by omega)]; omega
  · have ez : (nI z).toInt = (z : Int) := nI_toInt (by omega)
    have es : (σ 0 7 + nI z).toInt = (σ 0 7).toInt + z := by rw [i_add (by rw [ez]; omega) (by rw [ez]; omega), ez]
    have c : σ 0 7 + nI z ≤ 1000000 := by
      rw [le_i, es]
      have : (1000000 : Int32).toInt = 1000000 := rfl
      omega
    have A := eq_advance wt (z := nI z) (by rw [ez]; omega) (by rw [ez]; omega) t6
    have X := tx_advance wt tx (z := nI z) (by rw [ez]; omega) (by rw [ez]; omega) t6
    have P := W.pass tm (z := nI z) (lat := σ 0 7 + nI z) (by rw [ez]; omega) (by rw [ez]; omega) (by rw [es, ez]) (by rw [es]; omega)
    have F := pt_fix (lat := σ 0 7 + nI z) (by rw [es]; omega) (sl 1000000) σ μ W tm tx
    have JJ := J.pass (lat := σ 0 7 + nI z) (by rw [es]; omega) (sl 1000000) σ μ W tm tx j
    have ef : fx_advance σ (nI z) = w_pt_it2 σ (σ 0 7 + nI z) (sl 1000000) := by unfold fx_advance; rw [if_pos c]; rfl
    refine ⟨_, ⟨A.1, X, A.2.2.2⟩, ?_⟩
    have e7 : (fx_advance σ (nI z)) 0 7 = σ 0 7 + nI z := by rw [ef]; exact P.2.2.2
    rw [e7, es, ef]
    exact ⟨JJ, by rw [F.1]; exact e6, by rw [F.2.1]; exact e8, by rw [F.2.2]; exact ca, by omega⟩
  · have eu : (nI u).toInt = (u : Int) := nI_toInt (by omega)
    have eq : (nI q).toInt = (q : Int) := nI_toInt (by omega)
    have hu : 1 ≤ (nI u).toInt ∧ (nI u).toInt ≤ 1000 := by rw [eu]; omega
    have hq : 1 ≤ (nI q).toInt ∧ (nI q).toInt ≤ 10000 := by rw [eq]; omega
    have fr : ∀ o, o ∈ ([0, 1, 4] : List Nat) → fx_request σ a b (nI u) (nI q) o = σ o := fun o ho => fr_w_mk (nin (A := [0, 1, 4]) (by decide) ho) (by simp only [List.mem_cons, List.not_mem_nil, or_false] at ho; omega)
    refine fin _ _ (eq_request wt (by omega) (by omega) hab hu hq).1 (tx_request wt tx (by omega) (by omega) hab hu hq) ?_ (fr 0 (by decide)) (by rw [fr 1 (by decide)]) (fr 4 (by decide))
    unfold fx_request
    by_cases c : rqn σ < 40
    · exact j.mk W c (nI_vin (by omega) (by omega)) (nI_vin (by omega) (by omega)) (fun z => hab ((nI_eq (by omega) (by omega)).mp z)) hu (by rw [eq]; omega) (by omega)
    · unfold w_mk
      rw [if_neg (fun z => c ((nI_ltI (by omega) (by decide)).mp z))]
      exact j
end JST
