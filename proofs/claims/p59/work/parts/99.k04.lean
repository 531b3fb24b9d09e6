/-! THE LAW'S STATEMENTS AS READ -/
def kwl (k : Nat) : List Nat := (([[110, 111, 100, 101], [108, 105, 110, 107], [104, 111, 108, 100], [114, 101, 116, 114, 121], [116, 114, 105, 101, 115], [101, 120, 112, 105, 114, 101], [99, 97, 110, 99, 101, 108]] : List (List Nat))).getD k []
theorem kwl_pk : ∀ k, k < 7 → pkw (kwl k) = pk k := by decide +kernel
theorem kwl_ok : ∀ k, k < 7 → (∀ x ∈ kwl k, 97 ≤ x ∧ x ≤ 122) ∧ (kwl k).length ≤ 6 ∧ 0 < (kwl k).length := by decide
theorem pkd : ∀ i, i < 7 → ∀ j, j < 7 → (lg_cmp (pk i) (pk j) = 0 ↔ i = j) := by decide +kernel
theorem pkl : ∀ i, i < 5 → ∀ j, j < 5 → (pkw [97 + i] = pkw [97 + j] ↔ i = j) := by decide +kernel
theorem pkl0 : ∀ i, i < 5 → ¬ pkw [97 + i] = 0 := by decide +kernel
theorem sp32 : ∀ x ∈ ([32] : List Nat), x = 32 := fun x hx => List.mem_singleton.mp hx
theorem sp0 : ∀ x ∈ ([] : List Nat), x = 32 := fun x hx => by cases hx
/-- the configuration under way: so many nodes, so many links, no capacity of a thousand -/
def RW (τ : pr_I) (ν : Nat → Int64) (n l : Nat) : Prop := τ 0 6 = nI n ∧ τ 1 8 = nI l ∧ (∀ j, j < n → ν j = pkw [97 + j]) ∧ (∀ i, i < l → (τ 4 i).toInt ≤ 999) ∧ τ 9 8 = 0 ∧ τ 18 17 = 0 ∧ τ 0 7 = 0
section STM
variable {φ τ : pr_I} {ν : Nat → Int64} {tx r : List Nat} {n l : Nat}
theorem At.kw {k : Nat} (h : At φ tx (kwl k ++ ([32] ++ r))) (hk : k < 7) : At (in_rw φ) tx ([32] ++ r) ∧ in_rw_r φ = pk k := by
  obtain ⟨a, b, c⟩ := kwl_ok k hk
  obtain ⟨h1, h2⟩ := At.word (sp := []) (w := kwl k) (r := [32] ++ r) h sp0 a b c (hdp.cons (by decide))
  exact ⟨h1, h2.trans (kwl_pk k hk)⟩
theorem At.set {i v : Nat} (h : At φ tx (kwl (i + 2) ++ ([32] ++ (jdec v ++ r)))) (hi : i < 4) (hv : v < 1000) (hr : hdp (fun c => c < 48 ∨ 57 < c) r) {a b : Nat} (ea : pr_sv 1 i = nI a) (eb : pr_sv 2 i = nI b) (ha : a ≤ v) (hb : v ≤ b) (hb2 : b < 2 ^ 31) : At (in_st φ τ ν) tx r ∧ in_st_w τ φ ν = pr_up τ 119 i (nI v) ∧ in_st_nu φ τ ν = ν := by
  obtain ⟨h1, h2⟩ := h.kw (by omega)
  obtain ⟨n1, n2⟩ := h1.num (sp := [32]) (a := a) (b := b) sp32 hv hr ha hb hb2
  have e0 : (in_rw φ) 0 0 = 0 := h1.1
  have p0 : ¬ lg_cmp (pk (i + 2)) (pk 0) = 0 := fun z => by have := (pkd (i + 2) (by omega) 0 (by decide)).mp z; omega
  have p1 : ¬ lg_cmp (pk (i + 2)) (pk 1) = 0 := fun z => by have := (pkd (i + 2) (by omega) 1 (by decide)).mp z; omega
  have so : in_so_r (in_rw φ) (pk (i + 2)) = nI i := by
    unfold in_so_r
    rcases (by omega : i = 0 ∨ i = 1 ∨ i = 2 ∨ i = 3) with rfl | rfl | rfl | rfl
    · rw [if_pos ((pkd 2 (by decide) 2 (by decide)).mpr rfl)]; rfl
    · rw [if_neg (fun z => by have := (pkd 3 (by decide) 2 (by decide)).mp z; omega), if_pos ((pkd 3 (by decide) 3 (by decide)).mpr rfl)]; rfl
    · rw [if_neg (fun z => by have := (pkd 4 (by decide) 2 (by decide)).mp z; omega), if_neg (fun z => by have := (pkd 4 (by decide) 3 (by decide)).mp z; omega), if_pos ((pkd 4 (by decide) 4 (by decide)).mpr rfl)]; rfl
    · rw [if_neg (fun z => by have := (pkd 5 (by decide) 2 (by decide)).mp z; omega), if_neg (fun z => by have := (pkd 5 (by decide) 3 (by decide)).mp z; omega), if_neg (fun z => by have := (pkd 5 (by decide) 4 (by decide)).mp z; omega), if_pos ((pkd 5 (by decide) 5 (by decide)).mpr rfl)]; rfl
  have ne : ¬ (nI i : Int32) = (-1) := fun z => by
    rcases (by omega : i = 0 ∨ i = 1 ∨ i = 2 ∨ i = 3) with rfl | rfl | rfl | rfl <;> exact absurd z (by decide)
  have cl : (nI i).toNatClampNeg = i := nI_clamp (by omega)
  unfold in_st in_st_w in_st_nu
  simp only [h2, if_pos e0, if_neg p0, if_neg p1, so, if_neg ne, cl, ea, eb, n2]
  exact ⟨n1, trivial, trivial⟩
theorem nwr (hν : ∀ j, j < n → ν j = pkw [97 + j]) (hn : n ≤ 5) {i : Nat} (hi : i < 5) : w_nw_r τ ν n (pkw [97 + i]) = if i < n then nI i else (-1) := by
  have L : ∀ j k, k + j = n + 1 → k ≤ n → k ≤ i ∨ n ≤ i → w_nw_rl2 τ ν n (pkw [97 + i]) j k = if i < n then nI i else (-1) := by
    intro j
    induction j with
    | zero => intro k h1 h2; omega
    | succ j ih =>
      intro k h1 h2 h3
      rw [w_nw_rl2]
      by_cases c : n ≤ k
      · rw [if_pos ((nI_leI (by omega) (by omega)).mpr c), if_neg (by omega)]
      · rw [if_neg (fun z => c ((nI_leI (by omega) (by omega)).mp z)), hν k (by omega)]
        by_cases e : k = i
        · subst e
          rw [if_pos ((lg_cmp_eq _ _).mpr rfl), if_pos (by omega)]
        · rw [if_neg (fun z => e ((pkl k (by omega) i hi).mp ((lg_cmp_eq _ _).mp z)))]
          exact ih (k + 1) (by omega) (by omega) (by omega)
  exact L (n + 1) 0 (by omega) (by omega) (by omega)
theorem At.let1 {i : Nat} (h : At φ tx ([32] ++ ([97 + i] ++ r))) (hi : i < 5) (hr : hdp (fun c => c < 97 ∨ 122 < c) r) : At (in_rw φ) tx r ∧ in_rw_r φ = pkw [97 + i] :=
  At.word (sp := [32]) (w := [97 + i]) h sp32 (fun x hx => by rw [List.mem_singleton.mp hx]; omega) (by show 1 ≤ 6; decide) (by show 0 < 1; decide) hr
theorem At.node (h : At φ tx (kwl 0 ++ ([32] ++ ([97 + n] ++ r)))) (hn : n < 5) (hr : hdp (fun c => c < 97 ∨ 122 < c) r) (w : RW τ ν n l) : At (in_st φ τ ν) tx r ∧ RW (in_st_w τ φ ν) (in_st_nu φ τ ν) (n + 1) l := by
  obtain ⟨h1, h2⟩ := h.kw (by decide)
  obtain ⟨g1, g2⟩ := h1.let1 hn hr
  obtain ⟨w1, w2, w3, w4, w5, w6, w7⟩ := w
  have e0 : (in_rw φ) 0 0 = 0 := h1.1
  have e1 : (in_rw (in_rw φ)) 0 0 = 0 := g1.1
  have nd : ndn τ = n := by unfold ndn; rw [w1, nI_clamp (by omega)]
  have p0 : lg_cmp (pk 0) (pk 0) = 0 := (pkd 0 (by decide) 0 (by decide)).mpr rfl
  have q0 : ¬ lg_cmp (pkw [97 + n]) (0 : Int64) = 0 := fun z => pkl0 n hn ((lg_cmp_eq _ _).mp z)
  have q1 : w_nw_r τ ν n (pkw [97 + n]) = (-1) := by rw [nwr w3 (by omega) hn, if_neg (by omega)]
  have c12 : nI n < nI 12 := (nI_ltI (by omega) (by decide)).mpr (by omega)
  have c12' : ¬ nI 12 ≤ nI n := fun z => by have := (nI_leI (by decide) (by omega)).mp z; omega
  unfold in_st in_st_w in_st_nu in_no in_no_w in_no_nu
  simp only [h2, if_pos e0, if_pos p0, nd, if_pos c12, g2, if_neg q0, if_pos q1, if_pos e1]
  refine ⟨g1, ?_, ?_, ?_, ?_, ?_, ?_, ?_⟩
  · unfold w_an; rw [if_neg c12', pr_upe]
  · unfold w_an; rw [if_neg c12', pr_upv (by decide)]; exact w2
  · intro j hj
    unfold nm_an lr_up
    rw [if_neg c12']
    by_cases c : j = n
    · rw [if_pos c, c]
    · rw [if_neg c]; exact w3 j (by omega)
  · unfold w_an; rw [if_neg c12', pr_up_ne (by decide)]; exact w4
  · unfold w_an; rw [if_neg c12', pr_up_ne (by decide)]; exact w5
  · unfold w_an; rw [if_neg c12', pr_up_ne (by decide)]; exact w6
  · unfold w_an; rw [if_neg c12', pr_upk (by decide)]; exact w7
theorem At.kn {i : Nat} (h : At φ tx ([32] ++ ([97 + i] ++ r))) (hi : i < n) (hn : n ≤ 5) (hr : hdp (fun c => c < 97 ∨ 122 < c) r) (w1 : τ 0 6 = nI n) (w3 : ∀ j, j < n → ν j = pkw [97 + j]) : At (in_kn φ τ ν) tx r ∧ in_kn_r φ τ ν = nI i := by
  obtain ⟨g1, g2⟩ := h.let1 (by omega) hr
  have nd : ndn τ = n := by unfold ndn; rw [w1, nI_clamp (by omega)]
  have q1 : w_nw_r τ ν n (pkw [97 + i]) = nI i := by rw [nwr w3 hn (by omega), if_pos hi]
  have ne : ¬ (nI i : Int32) = (-1) := fun z => by
    rcases (by omega : i = 0 ∨ i = 1 ∨ i = 2 ∨ i = 3 ∨ i = 4) with rfl | rfl | rfl | rfl | rfl <;> exact absurd z (by decide)
  unfold in_kn in_kn_r
  simp only [nd, g2, q1, if_neg ne]
  exact ⟨g1, trivial⟩
theorem At.link {f t a b c : Nat} (h : At φ tx (kwl 1 ++ ([32] ++ ([97 + f] ++ ([32] ++ ([97 + t] ++ ([32] ++ (jdec a ++ ([32] ++ (jdec b ++ ([32] ++ (jdec c ++ r)))))))))))) (hf : f < n) (ht : t < n) (hft : f ≠ t) (hn : n ≤ 5) (ha : a ≤ 999) (hb : b ≤ 999) (hc1 : 1 ≤ c) (hc : c ≤ 50) (hl : l < 24) (hr : hdp (fun c => c < 48 ∨ 57 < c) r) (w : RW τ ν n l) : At (in_st φ τ ν) tx r ∧ RW (in_st_w τ φ ν) (in_st_nu φ τ ν) n (l + 1) := by
  obtain ⟨h1, h2⟩ := h.kw (by decide)
  have w' := w
  obtain ⟨w1, w2, w3, w4, w5, w6, w7⟩ := w
  obtain ⟨k1, k2⟩ := h1.kn hf hn (hdp.cons (by decide)) w1 w3
  obtain ⟨k3, k4⟩ := k1.kn ht hn (hdp.cons (by decide)) w1 w3
  obtain ⟨n1, n2⟩ := k3.num (sp := [32]) (a := 0) (b := 1000) sp32 (by omega) (hdp.cons (by decide)) (by omega) (by omega) (by decide)
  obtain ⟨n3, n4⟩ := n1.num (sp := [32]) (a := 0) (b := 1000) sp32 (by omega) (hdp.cons (by decide)) (by omega) (by omega) (by decide)
  obtain ⟨n5, n6⟩ := n3.num (sp := [32]) (a := 1) (b := 50) sp32 (by omega) hr (by omega) (by omega) (by decide)
  have e0 : (in_rw φ) 0 0 = 0 := h1.1
  have p0 : ¬ lg_cmp (pk 1) (pk 0) = 0 := fun z => by have := (pkd 1 (by decide) 0 (by decide)).mp z; omega
  have p1 : lg_cmp (pk 1) (pk 1) = 0 := (pkd 1 (by decide) 1 (by decide)).mpr rfl
  have lk : lkn τ = l := by unfold lkn; rw [w2, nI_clamp (by omega)]
  have c24 : nI l < nI 24 := (nI_ltI (by omega) (by decide)).mpr (by omega)
  have nft : ¬ nI f = nI t := fun z => hft ((nI_eq (by omega) (by omega)).mp z)
  have e5 := n5.1
  have q1 : in_rn_r (in_kn (in_kn (in_rw φ) τ ν) τ ν) (0 : Int32) (1000 : Int32) = nI a := n2
  have hcap : ∀ i, i < l + 1 → (pr_up τ 4 l (nI a) 4 i).toInt ≤ 999 := fun i hi => by
    by_cases e : i = l
    · rw [e, pr_upe, nI_toInt (by omega)]; omega
    · rw [pr_upk e]; exact w4 i (by omega)
  unfold in_st in_st_w in_st_nu in_li in_li_w
  have e5' : (in_rn (in_rn (in_rn (in_kn (in_kn (in_rw φ) τ ν) τ ν) (0 : Int32) (1000 : Int32)) (0 : Int32) (1000 : Int32)) (1 : Int32) (50 : Int32)) 0 0 = 0 := e5
  simp only [h2, if_pos e0, if_neg p0, if_pos p1, lk, if_pos c24, k2, k4, if_neg nft, if_pos e5', q1]
  refine ⟨n5, ?_, ?_, w3, ?_, ?_, ?_, ?_⟩
  · unfold lk_add; rw [pr_upv (by decide), pr_upv (by decide), pr_upv (by decide), pr_upv (by decide), pr_upv (by decide), pr_upv (by decide), pr_upv (by decide), pr_upv (by decide), pr_upv (by decide)]; exact w1
  · unfold lk_add; rw [pr_upe]
  · intro i hi
    unfold lk_add
    rw [pr_upv (by decide), pr_upv (by decide), pr_upv (by decide), pr_upv (by decide), pr_upv (by decide), pr_upv (by decide)]
    have := hcap i hi
    by_cases e : i = l
    · rw [e, pr_upe] at this ⊢; exact this
    · rw [pr_upk e] at this ⊢
      rw [pr_upv (by decide), pr_upv (by decide)]; exact this
  · unfold lk_add; rw [pr_upv (by decide), pr_upv (by decide), pr_upv (by decide), pr_upv (by decide), pr_upv (by decide), pr_upv (by decide), pr_upv (by decide), pr_upv (by decide), pr_upv (by decide)]; exact w5
  · unfold lk_add; rw [pr_upv (by decide), pr_upv (by decide), pr_upv (by decide), pr_upv (by decide), pr_upv (by decide), pr_upv (by decide), pr_upv (by decide), pr_upv (by decide), pr_upv (by decide)]; exact w6
  · unfold lk_add; rw [pr_upv (by decide), pr_upv (by decide), pr_upv (by decide), pr_upv (by decide), pr_upv (by decide), pr_upv (by decide), pr_upv (by decide), pr_upv (by decide), pr_upv (by decide)]; exact w7
end STM
