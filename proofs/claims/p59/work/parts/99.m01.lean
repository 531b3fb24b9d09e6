/-! WHAT IS KEPT: tickets, money, paths, deadlines -/
def S32 (σ : pr_I) (r c : Nat) : Nat → Int32
  | 0 => 0
  | t + 1 => S32 σ r c t + (if σ 10 t = nI r then σ c t else 0)
def Pu (σ : pr_I) (l : Nat) : Nat → Int
  | 0 => 0
  | t + 1 => Pu σ l t + (if σ 11 t = nI l then (if tk_kp σ t = 0 then 0 else (σ 12 t).toInt) else 0)
def Jt (σ : pr_I) (t : Nat) : Prop := vp_in (σ 10 t) (rqn σ) ∧ vp_in (σ 11 t) (lkn σ) ∧ (0 ≤ (σ 16 t).toInt ∧ (σ 16 t).toInt ≤ 1000000) ∧ (0 ≤ (σ 17 t).toInt ∧ (σ 17 t).toInt ≤ (σ 16 t).toInt) ∧ σ 12 t = σ 21 ((σ 10 t).toNatClampNeg) ∧ (¬ tk_kp σ t = 0 → σ 17 t = 0) ∧ (σ 15 t = 0 → (σ 14 t).toInt ≤ 11600) ∧ vp_in (σ 15 t) 4
def Jk (σ : pr_I) (r : Nat) : Prop := ∀ t, t < tkn σ → σ 10 t = nI r → ¬ tk_kp σ t = 0 → σ 23 r = 0 ∨ σ 23 r = 1 ∨ σ 23 r = 2
def Jp (σ : pr_I) (r : Nat) : Prop := (∀ p, p < pln σ r → vp_in (σ (35 + r) p) (lkn σ) ∧ σ 2 ((σ (35 + r) p).toNatClampNeg) = rnd σ r p ∧ (¬ 3 ≤ σ 23 r → ¬ ((σ 28 r >>> (σ (35 + r) p &&& 31)) &&& 1) = 1)) ∧ (¬ pln σ r = 0 → rnd σ r (pln σ r) = σ 20 r)
def Jd (σ : pr_I) (r : Nat) : Prop :=
  (σ 23 r = 7 → 0 ≤ (σ 24 r).toInt ∧ (σ 24 r).toInt < (σ 119 2).toInt ∧ (σ 25 r).toInt + ((σ 119 2).toInt - (σ 24 r).toInt) * 1200 + (σ 22 r).toInt ≤ 11100 ∧ 0 ≤ (σ 25 r).toInt) ∧
  (σ 23 r = 0 → 0 ≤ (σ 24 r).toInt ∧ (σ 24 r).toInt < (σ 119 2).toInt ∧ (σ 25 r).toInt + 50 * (2 * ((σ 32 r).toNatClampNeg : Int) - ((σ 33 r).toNatClampNeg : Int)) + 100 + ((σ 119 2).toInt - (σ 24 r).toInt - 1) * 1200 + (σ 22 r).toInt ≤ 11100 ∧ 0 ≤ (σ 25 r).toInt) ∧
  (σ 23 r = 1 → 0 ≤ (σ 24 r).toInt ∧ (σ 24 r).toInt < (σ 119 2).toInt ∧ (σ 25 r).toInt + 50 * ((σ 33 r).toNatClampNeg : Int) + 100 + ((σ 119 2).toInt - (σ 24 r).toInt - 1) * 1200 + (σ 22 r).toInt ≤ 11100 ∧ 0 ≤ (σ 25 r).toInt) ∧
  (σ 23 r = 2 → (σ 30 r).toInt ≤ 11100)
def Js (σ : pr_I) (r : Nat) : Prop := (1 ≤ (σ 21 r).toInt ∧ (σ 21 r).toInt ≤ 1000) ∧ (1 ≤ (σ 22 r).toInt ∧ (σ 22 r).toInt ≤ 60)
def Jm (σ : pr_I) (r : Nat) : Prop := σ 26 r = S32 σ r 16 (tkn σ) ∧ σ 27 r = S32 σ r 17 (tkn σ)
def Jr (σ : pr_I) (r : Nat) : Prop := Jk σ r ∧ Jp σ r ∧ Jd σ r ∧ Js σ r ∧ Jm σ r
def J (σ : pr_I) : Prop := (∀ t, t < tkn σ → Jt σ t) ∧ (∀ r, r < rqn σ → Jr σ r) ∧ ∀ l, l < lkn σ → Pu σ l (tkn σ) ≤ (σ 4 l).toInt
theorem ms {o : Nat} {A B : List Nat} (ho : o ∈ A) (h : ∀ x ∈ A, x ∈ B) : o ∈ B := h o ho
theorem kpt_iff {σ : pr_I} {t : Nat} : ¬ tk_kp σ t = 0 ↔ σ 15 t = 0 ∨ σ 15 t = 1 := by
  unfold tk_kp
  by_cases a : σ 15 t = 0
  · rw [if_pos a]; exact ⟨fun _ => Or.inl a, fun _ => by decide⟩
  · rw [if_neg a]
    by_cases b : σ 15 t = 1
    · rw [if_pos b]; exact ⟨fun _ => Or.inr b, fun _ => by decide⟩
    · rw [if_neg b]; exact ⟨fun z => absurd rfl z, fun z => z.elim (fun q => absurd q a) (fun q => absurd q b)⟩
theorem kp_c {σ σ' : pr_I} (e : σ' 15 = σ 15) (t : Nat) : tk_kp σ' t = tk_kp σ t := by unfold tk_kp; rw [e]
theorem S32_c {σ σ' : pr_I} {r c : Nat} (e10 : σ' 10 = σ 10) (ec : σ' c = σ c) : ∀ n, S32 σ' r c n = S32 σ r c n
  | 0 => rfl
  | n + 1 => by rw [S32, S32, S32_c e10 ec n, e10, ec]
theorem S32_l {σ σ' : pr_I} {r c : Nat} : ∀ n, (∀ t, t < n → σ' 10 t = σ 10 t ∧ σ' c t = σ c t) → S32 σ' r c n = S32 σ r c n
  | 0, _ => rfl
  | n + 1, h => by rw [S32, S32, S32_l n (fun t ht => h t (by omega)), (h n (by omega)).1, (h n (by omega)).2]
theorem Pu_l {σ σ' : pr_I} {l : Nat} : ∀ n, (∀ t, t < n → σ' 11 t = σ 11 t ∧ σ' 12 t = σ 12 t ∧ tk_kp σ' t = tk_kp σ t) → Pu σ' l n = Pu σ l n
  | 0, _ => rfl
  | n + 1, h => by rw [Pu, Pu, Pu_l n (fun t ht => h t (by omega)), (h n (by omega)).1, (h n (by omega)).2.1, (h n (by omega)).2.2]
/-- fewer are kept: no more is promised -/
theorem Pu_le {σ σ' : pr_I} {l : Nat} : ∀ n, (∀ t, t < n → σ' 11 t = σ 11 t ∧ σ' 12 t = σ 12 t ∧ (¬ tk_kp σ' t = 0 → ¬ tk_kp σ t = 0) ∧ 0 ≤ (σ 12 t).toInt) → Pu σ' l n ≤ Pu σ l n
  | 0, _ => Int.le_refl _
  | n + 1, h => by
    have ih := Pu_le (l := l) n (fun t ht => h t (by omega))
    obtain ⟨a, b, c, d⟩ := h n (by omega)
    rw [Pu, Pu, a, b]
    by_cases q : σ 11 n = nI l
    · rw [if_pos q, if_pos q]
      by_cases w : tk_kp σ' n = 0
      · rw [if_pos w]
        split <;> omega
      · rw [if_neg w, if_neg (c w)]; omega
    · rw [if_neg q, if_neg q]; omega
theorem J.un {σ : pr_I} (h : J σ) {t : Nat} (ht : t < tkn σ) : 0 ≤ (σ 12 t).toInt ∧ (σ 12 t).toInt ≤ 1000 := by
  obtain ⟨a, _, _, _, e, _⟩ := h.1 t ht
  have := (h.2.1 _ (vp_in_lt a)).2.2.2.1.1
  rw [e]; omega
theorem Jt.cong {σ σ' : pr_I} {t : Nat} (h : Jt σ t) (n1 : rqn σ' = rqn σ) (n2 : lkn σ' = lkn σ) (k : ∀ o ∈ ([10, 11, 12, 14, 15, 16, 17, 21] : List Nat), σ' o = σ o) : Jt σ' t := by
  unfold Jt at h ⊢
  rw [n1, n2, kp_c (k 15 (by decide)), k 10 (by decide), k 11 (by decide), k 12 (by decide), k 14 (by decide), k 15 (by decide), k 16 (by decide), k 17 (by decide), k 21 (by decide)]
  exact h
theorem Jk.cong {σ σ' : pr_I} {r : Nat} (h : Jk σ r) (n : tkn σ' = tkn σ) (k : ∀ o ∈ ([10, 15] : List Nat), σ' o = σ o) (s : σ' 23 r = σ 23 r) : Jk σ' r := fun t ht e kp => by
  rw [n] at ht
  rw [k 10 (by decide)] at e
  rw [kp_c (k 15 (by decide))] at kp
  rw [s]; exact h t ht e kp
theorem rnd_c {σ σ' : pr_I} {r : Nat} (e3 : σ' 3 = σ 3) (e19 : σ' 19 = σ 19) (ep : σ' (35 + r) = σ (35 + r)) : ∀ p, rnd σ' r p = rnd σ r p
  | 0 => by rw [rnd, rnd, e19]
  | p + 1 => by rw [rnd, rnd, e3, ep]
theorem Jp.cong {σ σ' : pr_I} {r : Nat} (h : Jp σ r) (n2 : lkn σ' = lkn σ) (k : ∀ o ∈ ([2, 3, 19, 20] : List Nat), σ' o = σ o) (ep : σ' (35 + r) = σ (35 + r)) (e32 : σ' 32 r = σ 32 r) (x : ¬ 3 ≤ σ' 23 r → ¬ 3 ≤ σ 23 r ∧ σ' 28 r = σ 28 r) : Jp σ' r := by
  have el : pln σ' r = pln σ r := by unfold pln; rw [e32]
  have er := rnd_c (k 3 (by decide)) (k 19 (by decide)) ep
  refine ⟨fun p hp => ?_, fun hz => ?_⟩
  · rw [el] at hp
    obtain ⟨a, b, c⟩ := h.1 p hp
    rw [n2, ep, k 2 (by decide), er]
    refine ⟨a, b, fun z => ?_⟩
    obtain ⟨z1, z2⟩ := x z
    rw [z2]; exact c z1
  · rw [el] at hz ⊢
    rw [er, k 20 (by decide)]
    exact h.2 hz
theorem Jd.cong {σ σ' : pr_I} {r : Nat} (h : Jd σ r) (e119 : σ' 119 2 = σ 119 2) (k : ∀ o ∈ ([22, 23, 24, 25, 30, 32, 33] : List Nat), σ' o r = σ o r) : Jd σ' r := by
  unfold Jd at h ⊢
  rw [e119, k 22 (by decide), k 23 (by decide), k 24 (by decide), k 25 (by decide), k 30 (by decide), k 32 (by decide), k 33 (by decide)]
  exact h
theorem Jm.cong {σ σ' : pr_I} {r : Nat} (h : Jm σ r) (n : tkn σ' = tkn σ) (k : ∀ o ∈ ([10, 16, 17] : List Nat), σ' o = σ o) (e26 : σ' 26 r = σ 26 r) (e27 : σ' 27 r = σ 27 r) : Jm σ' r := by
  unfold Jm at h ⊢
  rw [n, e26, e27, S32_c (k 10 (by decide)) (k 16 (by decide)), S32_c (k 10 (by decide)) (k 17 (by decide))]
  exact h
/-- one request's own cells move -/
theorem J.req {σ σ' : pr_I} {r : Nat} (h : J σ) (n : tkn σ' = tkn σ ∧ rqn σ' = rqn σ ∧ lkn σ' = lkn σ) (k : ∀ o ∈ ([2, 3, 4, 10, 11, 12, 14, 15, 16, 17, 19, 20, 21, 22, 26, 27] : List Nat), σ' o = σ o) (e119 : σ' 119 2 = σ 119 2) (ot : ∀ r', r' ≠ r → (∀ o ∈ ([23, 24, 25, 28, 30, 32, 33] : List Nat), σ' o r' = σ o r') ∧ (r' < 40 → σ' (35 + r') = σ (35 + r'))) (h4 : rqn σ ≤ 40) (new : r < rqn σ → Jk σ' r ∧ Jp σ' r ∧ Jd σ' r) : J σ' := by
  obtain ⟨n1, n2, n3⟩ := n
  refine ⟨fun t ht => ?_, fun r' hr' => ?_, fun l hl => ?_⟩
  · rw [n1] at ht
    exact (h.1 t ht).cong n2 n3 (fun o ho => k o (ms ho (by decide)))
  · rw [n2] at hr'
    obtain ⟨a, b, c, d, e⟩ := h.2.1 r' hr'
    have d' : Js σ' r' := by unfold Js at d ⊢; rw [k 21 (by decide), k 22 (by decide)]; exact d
    have e' : Jm σ' r' := e.cong n1 (fun o ho => k o (ms ho (by decide))) (by rw [k 26 (by decide)]) (by rw [k 27 (by decide)])
    by_cases q : r' = r
    · subst q
      obtain ⟨x1, x2, x3⟩ := new hr'
      exact ⟨x1, x2, x3, d', e'⟩
    · obtain ⟨o1, o2⟩ := ot r' q
      refine ⟨a.cong n1 (fun o ho => k o (ms ho (by decide))) (o1 23 (by decide)), b.cong n3 (fun o ho => k o (ms ho (by decide))) (o2 (by omega)) (o1 32 (by decide)) (fun z => ?_), c.cong e119 (fun o ho => ?_), d', e'⟩
      · rw [o1 23 (by decide)] at z
        exact ⟨z, o1 28 (by decide)⟩
      · by_cases q2 : o = 22
        · rw [q2, k 22 (by decide)]
        · exact o1 o (by simp only [List.mem_cons, List.not_mem_nil, or_false] at ho ⊢; omega)
  · rw [n3] at hl
    rw [n1, Pu_l (tkn σ) (fun t _ => ⟨by rw [k 11 (by decide)], by rw [k 12 (by decide)], kp_c (k 15 (by decide)) t⟩), k 4 (by decide)]
    exact h.2.2 l hl
/-- nothing that is kept moves -/
theorem J.cong {σ σ' : pr_I} (h : J σ) (n : tkn σ' = tkn σ ∧ rqn σ' = rqn σ ∧ lkn σ' = lkn σ) (k : ∀ o ∈ ([2, 3, 4, 10, 11, 12, 14, 15, 16, 17, 19, 20, 21, 22, 23, 24, 25, 26, 27, 28, 30, 32, 33] : List Nat), σ' o = σ o) (e119 : σ' 119 2 = σ 119 2) (ep : ∀ r, r < 40 → σ' (35 + r) = σ (35 + r)) (h4 : rqn σ ≤ 40) : J σ' :=
  h.req (r := rqn σ) n (fun o ho => k o (ms ho (by decide))) e119 (fun r' _ => ⟨fun o ho => by rw [k o (ms ho (by decide))], ep r'⟩) h4 (fun z => absurd z (Nat.lt_irrefl _))
