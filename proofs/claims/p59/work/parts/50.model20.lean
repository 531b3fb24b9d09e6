noncomputable def m_lr_it2 (σ : pr_I) : Nat → pr_I
  | 0 => σ
  | k + 1 => (pr_up (m_lr_it2 σ k) 11 k (if (σ 1 (96 + 7 * k + 5)) = (1 : Int32) then (m_av_r (m_lr_it2 σ k) (mtn σ) k) else (0 : Int32)))
theorem fr_m_lr_it2 {σ : pr_I} {o : Nat} (hms : ∀ m ∈ ([11] : List Nat), o ≠ m) : ∀ {k : Nat}, (m_lr_it2 σ k) o = σ o := by
  simp only [List.mem_cons, List.not_mem_nil, or_false, forall_eq_or_imp, forall_eq] at hms
  intro k
  induction k with
  | zero =>
    show σ o = σ o
    rfl
  | succ k ih =>
    show (pr_up (m_lr_it2 σ k) 11 k (if (σ 1 (96 + 7 * k + 5)) = (1 : Int32) then (m_av_r (m_lr_it2 σ k) (mtn σ) k) else (0 : Int32))) o = σ o
    rw [pr_up_ne (by omega), ih]

noncomputable def m_lr (σ : pr_I) : pr_I := (m_lr_it2 σ (mln σ))
theorem fr_m_lr {σ : pr_I}  {o : Nat} (hms : ∀ m ∈ ([11] : List Nat), o ≠ m) : m_lr σ o = σ o := by
  unfold m_lr
  simp only [List.mem_cons, List.not_mem_nil, or_false, forall_eq_or_imp, forall_eq] at hms
  rw [fr_m_lr_it2 (by simp only [List.mem_cons, List.not_mem_nil, or_false, forall_eq_or_imp, forall_eq]; omega)]

theorem mI_k15 {σ ψ : pr_I} (h : mI σ) (hk : ∀ {o : Nat}, (∀ m ∈ ([15] : List Nat), o ≠ m) → ψ o = σ o) : mI ψ := h.keep (fun o j B q => by
  rw [hk (fun m hm => by
    simp only [List.mem_cons, List.not_mem_nil, or_false] at hm
    rw [hm]; intro e; subst e; simp [mB] at q)])
noncomputable def m_nxt (σ : pr_I) (k1 : Nat) (x : Int32) : Int32 := (if (σ 1 (96 + 7 * k1 + 0)) = x then (if (σ 11 k1) ≤ (σ 12 k1) then (if (σ 1 (96 + 7 * k1 + 1)) = x then (if (σ 12 k1) ≤ 0 then ((-1) : Int32) else (σ 1 (96 + 7 * k1 + 0))) else ((-1) : Int32)) else (σ 1 (96 + 7 * k1 + 1))) else (if (σ 1 (96 + 7 * k1 + 1)) = x then (if (σ 12 k1) ≤ 0 then ((-1) : Int32) else (σ 1 (96 + 7 * k1 + 0))) else ((-1) : Int32)))
theorem me_in {σ : pr_I} {k : Nat} {x : Int32} (hL : ∀ k, k < 24 → vp_in (σ 1 (96 + 7 * k + 0)) 12 ∧ vp_in (σ 1 (96 + 7 * k + 1)) 12) (hk : k < 24) (h : ¬ m_nxt σ k x = -1) : vp_in (m_nxt σ k x) 12 := by
  unfold m_nxt at *
  (repeat' split) <;> (repeat' split at h) <;> first | exact (hL k hk).1 | exact (hL k hk).2 | exact absurd rfl h | contradiction
noncomputable def m_me_it2 (σ : pr_I) (s : Int32) (t : Int32) : Nat → pr_I
  | 0 => σ
  | k + 1 => (pr_up (m_me_it2 σ s t k) 15 k (0 : Int32))
theorem fr_m_me_it2 {σ : pr_I} {s : Int32} {t : Int32} {o : Nat} (hms : ∀ m ∈ ([15] : List Nat), o ≠ m) : ∀ {k : Nat}, (m_me_it2 σ s t k) o = σ o := by
  simp only [List.mem_cons, List.not_mem_nil, or_false, forall_eq_or_imp, forall_eq] at hms
  intro k
  induction k with
  | zero =>
    show σ o = σ o
    rfl
  | succ k ih =>
    show (pr_up (m_me_it2 σ s t k) 15 k (0 : Int32)) o = σ o
    rw [pr_up_ne (by omega), ih]

noncomputable def m_me_it54 (σ σ1 : pr_I) (s : Int32) (t : Int32) (k : Nat) (x3 : Int32) : Nat → pr_I × Int32
  | 0 => (σ1, x3)
  | k1 + 1 => (if (m_nxt σ k1 ((m_me_it54 σ σ1 s t k x3 k1).1 14 k)) = ((-1) : Int32) then ((m_me_it54 σ σ1 s t k x3 k1).1, ((m_me_it54 σ σ1 s t k x3 k1).2)) else (if ((m_me_it54 σ σ1 s t k x3 k1).1 15 ((m_nxt σ k1 ((m_me_it54 σ σ1 s t k x3 k1).1 14 k)).toNatClampNeg)) = 0 then ((pr_up (pr_up (pr_up (m_me_it54 σ σ1 s t k x3 k1).1 15 ((m_nxt σ k1 ((m_me_it54 σ σ1 s t k x3 k1).1 14 k)).toNatClampNeg) (1 : Int32)) 13 ((m_nxt σ k1 ((m_me_it54 σ σ1 s t k x3 k1).1 14 k)).toNatClampNeg) (nI k1)) 14 (((m_me_it54 σ σ1 s t k x3 k1).2).toNatClampNeg) (m_nxt σ k1 ((m_me_it54 σ σ1 s t k x3 k1).1 14 k))), (((m_me_it54 σ σ1 s t k x3 k1).2) + Int32.ofInt (1))) else ((m_me_it54 σ σ1 s t k x3 k1).1, ((m_me_it54 σ σ1 s t k x3 k1).2))))
theorem fr_m_me_it54 {σ σ1 : pr_I} {s : Int32} {t : Int32} {k : Nat} {x3 : Int32} {o : Nat} (hms : ∀ m ∈ ([13, 14, 15] : List Nat), o ≠ m) : ∀ {k1 : Nat}, (m_me_it54 σ σ1 s t k x3 k1).1 o = σ1 o := by
  simp only [List.mem_cons, List.not_mem_nil, or_false, forall_eq_or_imp, forall_eq] at hms
  intro k1
  induction k1 with
  | zero =>
    show σ1 o = σ1 o
    rfl
  | succ k1 ih =>
    by_cases c_153 : (m_nxt σ k1 ((m_me_it54 σ σ1 s t k x3 k1).1 14 k)) = ((-1) : Int32)
    · refine (congrFun (congrArg (fun z : pr_I × Int32 => z.1) (if_pos c_153)) o).trans ?_
      show (m_me_it54 σ σ1 s t k x3 k1).1 o = σ1 o
      rw [ih]
    · refine (congrFun (congrArg (fun z : pr_I × Int32 => z.1) (if_neg c_153)) o).trans ?_
      by_cases c_163 : ((m_me_it54 σ σ1 s t k x3 k1).1 15 ((m_nxt σ k1 ((m_me_it54 σ σ1 s t k x3 k1).1 14 k)).toNatClampNeg)) = 0
      · refine (congrFun (congrArg (fun z : pr_I × Int32 => z.1) (if_pos c_163)) o).trans ?_
        show (pr_up (pr_up (pr_up (m_me_it54 σ σ1 s t k x3 k1).1 15 ((m_nxt σ k1 ((m_me_it54 σ σ1 s t k x3 k1).1 14 k)).toNatClampNeg) (1 : Int32)) 13 ((m_nxt σ k1 ((m_me_it54 σ σ1 s t k x3 k1).1 14 k)).toNatClampNeg) (nI k1)) 14 (((m_me_it54 σ σ1 s t k x3 k1).2).toNatClampNeg) (m_nxt σ k1 ((m_me_it54 σ σ1 s t k x3 k1).1 14 k))) o = σ1 o
        rw [pr_up_ne (by omega), pr_up_ne (by omega), pr_up_ne (by omega), ih]
      · refine (congrFun (congrArg (fun z : pr_I × Int32 => z.1) (if_neg c_163)) o).trans ?_
        show (m_me_it54 σ σ1 s t k x3 k1).1 o = σ1 o
        rw [ih]

noncomputable def m_me_it45 (σ : pr_I) (s : Int32) (t : Int32) : Nat → pr_I × Int32
  | 0 => ((pr_up (pr_up (m_me_it2 σ s t (mnn σ)) 15 s.toNatClampNeg (1 : Int32)) 14 0 s), (nI 1))
  | k + 1 => (if ((m_me_it45 σ s t k).2) ≤ (nI k) then ((m_me_it45 σ s t k).1, ((m_me_it45 σ s t k).2)) else ((m_me_it54 σ (m_me_it45 σ s t k).1 s t k ((m_me_it45 σ s t k).2) (mln σ)).1, ((m_me_it54 σ (m_me_it45 σ s t k).1 s t k ((m_me_it45 σ s t k).2) (mln σ)).2)))
theorem fr_m_me_it45 {σ : pr_I} {s : Int32} {t : Int32} {o : Nat} (hms : ∀ m ∈ ([13, 14, 15] : List Nat), o ≠ m) : ∀ {k : Nat}, (m_me_it45 σ s t k).1 o = (pr_up (pr_up (m_me_it2 σ s t (mnn σ)) 15 s.toNatClampNeg (1 : Int32)) 14 0 s) o := by
  simp only [List.mem_cons, List.not_mem_nil, or_false, forall_eq_or_imp, forall_eq] at hms
  intro k
  induction k with
  | zero =>
    show (pr_up (pr_up (m_me_it2 σ s t (mnn σ)) 15 s.toNatClampNeg (1 : Int32)) 14 0 s) o = (pr_up (pr_up (m_me_it2 σ s t (mnn σ)) 15 s.toNatClampNeg (1 : Int32)) 14 0 s) o
    rfl
  | succ k ih =>
    by_cases c_48 : ((m_me_it45 σ s t k).2) ≤ (nI k)
    · refine (congrFun (congrArg (fun z : pr_I × Int32 => z.1) (if_pos c_48)) o).trans ?_
      show (m_me_it45 σ s t k).1 o = (pr_up (pr_up (m_me_it2 σ s t (mnn σ)) 15 s.toNatClampNeg (1 : Int32)) 14 0 s) o
      rw [ih]
    · refine (congrFun (congrArg (fun z : pr_I × Int32 => z.1) (if_neg c_48)) o).trans ?_
      show (m_me_it54 σ (m_me_it45 σ s t k).1 s t k ((m_me_it45 σ s t k).2) (mln σ)).1 o = (pr_up (pr_up (m_me_it2 σ s t (mnn σ)) 15 s.toNatClampNeg (1 : Int32)) 14 0 s) o
      rw [fr_m_me_it54 (by simp only [List.mem_cons, List.not_mem_nil, or_false, forall_eq_or_imp, forall_eq]; omega), ih]

noncomputable def m_me_it45_e (σ : pr_I) (s : Int32) (t : Int32) (k : Nat) : Bool := (if ((m_me_it45 σ s t k).2) ≤ (nI k) then true else false)
theorem st_m_me_it45_48 {σ : pr_I} {s : Int32} {t : Int32} {k : Nat} (c_48 : ((m_me_it45 σ s t k).2) ≤ (nI k)) : ∀ j, k + j < 2 ^ 31 → m_me_it45 σ s t (k + j) = m_me_it45 σ s t k
  | 0, _ => rfl
  | j + 1, hj => by
    have ih := st_m_me_it45_48 c_48 j (by omega)
    have c2_48 : ((m_me_it45 σ s t k).2) ≤ (nI (k + j)) := Int32.le_trans c_48 ((nI_leI (by omega) (by omega)).mpr (by omega))
    show m_me_it45 σ s t ((k + j) + 1) = m_me_it45 σ s t k
    simp only [m_me_it45, ih, if_pos c2_48]
noncomputable def m_me_r (σ : pr_I) (s : Int32) (t : Int32) : Int32 := ((m_me_it45 σ s t (sl 12)).1 15 t.toNatClampNeg)
noncomputable def m_me (σ : pr_I) (s : Int32) (t : Int32) : pr_I := (m_me_it45 σ s t (sl 12)).1
theorem me_lt {σ : pr_I} {s t : Int32} {k : Nat} (hend : m_me_it45_e σ s t (sl 12) = true) (c : ¬ (m_me_it45 σ s t k).2 ≤ nI k) (hk : k ≤ sl 12) : k < 12 := by
  have h12 := sl_eq 12
  rcases Nat.lt_or_ge k (sl 12) with h | h
  · omega
  · have e : k = sl 12 := by omega
    rw [e] at c
    exact absurd hend (by simp only [m_me_it45_e, if_neg c]; decide)
theorem mI_m_me_it54 {σ σ1 : pr_I} {s t : Int32} {k : Nat} {x3 : Int32} (hI : mI σ) (hJ : mI σ1) : ∀ k1, k1 ≤ mln σ → mI (m_me_it54 σ σ1 s t k x3 k1).1
  | 0, _ => hJ
  | k1 + 1, hk => by
    have ih := mI_m_me_it54 (σ := σ) (σ1 := σ1) (s := s) (t := t) (k := k) (x3 := x3) hI hJ k1 (by omega)
    have hl24 := mI_nl24 hI
    have hfl : ∀ k, k < 24 → vp_in (σ 1 (96 + 7 * k + 0)) 12 ∧ vp_in (σ 1 (96 + 7 * k + 1)) 12 := fun k hk => ⟨mI_link hI hk (by decide) rfl, mI_link hI hk (by decide) rfl⟩
    unfold m_me_it54
    by_cases c : (m_nxt σ k1 ((m_me_it54 σ σ1 s t k x3 k1).1 14 k)) = -1
    · rw [if_pos c]; exact ih
    · rw [if_neg c]
      refine p_ite (P := fun z : pr_I × Int32 => mI z.1) (((ih.upn rfl).upv (B := 24) rfl (nI_vin (by omega) (by decide))).upv (B := 12) rfl (me_in hfl (by omega) c)) ih
theorem mI_m_me_it45 {σ : pr_I} {s t : Int32} (hI : mI σ) (hs : vp_in s 12) : ∀ k, mI (m_me_it45 σ s t k).1
  | 0 => ((mI_k15 hI (fun h => fr_m_me_it2 h)).upn rfl).upv (B := 12) rfl hs
  | k + 1 => by
    have ih := mI_m_me_it45 (t := t) hI hs k
    unfold m_me_it45
    exact p_ite (P := fun z : pr_I × Int32 => mI z.1) ih (mI_m_me_it54 hI ih _ (Nat.le_refl _))
theorem me_b2 {σ : pr_I} {s t : Int32} {x : Nat} : ∀ k, x < k → (m_me_it2 σ s t k) 15 x = 0
  | 0, h => by omega
  | k + 1, h => by
    show pr_up (m_me_it2 σ s t k) 15 k (0 : Int32) 15 x = 0
    by_cases e : x = k
    · subst e; exact pr_upe
    · rw [pr_upk e]; exact me_b2 k (by omega)
theorem me_up {σ : pr_I} {x k : Nat} (h : σ 15 x = 0 ∨ σ 15 x = 1) : pr_up σ 15 k (1 : Int32) 15 x = 0 ∨ pr_up σ 15 k (1 : Int32) 15 x = 1 := by
  by_cases e : x = k
  · subst e; exact Or.inr pr_upe
  · rw [pr_upk e]; exact h
theorem me_up3 {σ : pr_I} {x a b d : Nat} {c e : Int32} (h : σ 15 x = 0 ∨ σ 15 x = 1) : pr_up (pr_up (pr_up σ 15 a (1 : Int32)) 13 b c) 14 d e 15 x = 0 ∨ pr_up (pr_up (pr_up σ 15 a (1 : Int32)) 13 b c) 14 d e 15 x = 1 := by
  rw [pr_up_ne (by decide), pr_up_ne (by decide)]
  exact me_up h
theorem me_up2 {σ : pr_I} {x a d : Nat} {e : Int32} (h : σ 15 x = 0 ∨ σ 15 x = 1) : pr_up (pr_up σ 15 a (1 : Int32)) 14 d e 15 x = 0 ∨ pr_up (pr_up σ 15 a (1 : Int32)) 14 d e 15 x = 1 := by
  rw [pr_up_ne (by decide)]
  exact me_up h
theorem me_b54 {σ σ1 : pr_I} {s t : Int32} {k x : Nat} {x3 : Int32} (h : σ1 15 x = 0 ∨ σ1 15 x = 1) : ∀ k1, (m_me_it54 σ σ1 s t k x3 k1).1 15 x = 0 ∨ (m_me_it54 σ σ1 s t k x3 k1).1 15 x = 1
  | 0 => h
  | k1 + 1 => by
    have ih := me_b54 (σ := σ) (s := s) (t := t) (k := k) (x3 := x3) h k1
    unfold m_me_it54
    refine p_ite (P := fun z : pr_I × Int32 => z.1 15 x = 0 ∨ z.1 15 x = 1) ih (p_ite (P := fun z : pr_I × Int32 => z.1 15 x = 0 ∨ z.1 15 x = 1) ?_ ih)
    exact me_up (σ := (m_me_it54 σ σ1 s t k x3 k1).1) (k := (m_nxt σ k1 ((m_me_it54 σ σ1 s t k x3 k1).1 14 k)).toNatClampNeg) ih
theorem me_b45 {σ : pr_I} {s t : Int32} {x : Nat} (hx : x < mnn σ) : ∀ k, (m_me_it45 σ s t k).1 15 x = 0 ∨ (m_me_it45 σ s t k).1 15 x = 1
  | 0 => me_up (σ := m_me_it2 σ s t (mnn σ)) (k := s.toNatClampNeg) (Or.inl (me_b2 (s := s) (t := t) (mnn σ) hx))
  | k + 1 => by
    have ih := me_b45 (s := s) (t := t) hx k
    unfold m_me_it45
    exact p_ite (P := fun z : pr_I × Int32 => z.1 15 x = 0 ∨ z.1 15 x = 1) ih (me_b54 ih _)
theorem fr_m_me {σ : pr_I} {s : Int32} {t : Int32} {o : Nat} (hms : ∀ m ∈ ([13, 14, 15] : List Nat), o ≠ m) : m_me σ s t o = σ o := by
  unfold m_me
  simp only [List.mem_cons, List.not_mem_nil, or_false, forall_eq_or_imp, forall_eq] at hms
  rw [fr_m_me_it45 (by simp only [List.mem_cons, List.not_mem_nil, or_false, forall_eq_or_imp, forall_eq]; omega), pr_up_ne (by omega), pr_up_ne (by omega), fr_m_me_it2 (by simp only [List.mem_cons, List.not_mem_nil, or_false, forall_eq_or_imp, forall_eq]; omega)]

def m_me_ok (σ : pr_I) (s t : Int32) : Prop := m_me_it45_e σ s t (sl 12) = true ∧ (∀ k k1, k < 12 → k1 < mln σ → ¬ (m_me_it45 σ s t k).2 ≤ nI k → ¬ (m_nxt σ k1 ((m_me_it54 σ (m_me_it45 σ s t k).1 s t k ((m_me_it45 σ s t k).2) k1).1 14 k)) = -1 → (m_me_it54 σ (m_me_it45 σ s t k).1 s t k ((m_me_it45 σ s t k).2) k1).1 15 ((m_nxt σ k1 ((m_me_it54 σ (m_me_it45 σ s t k).1 s t k ((m_me_it45 σ s t k).2) k1).1 14 k)).toNatClampNeg) = 0 → vp_in (m_me_it54 σ (m_me_it45 σ s t k).1 s t k ((m_me_it45 σ s t k).2) k1).2 12) ∧ t.toNatClampNeg < mnn σ
theorem mI_m_me {σ : pr_I} {s t : Int32} (hI : mI σ) (hs : vp_in s 12) : mI (m_me σ s t) := mI_m_me_it45 hI hs _
theorem mI_k12 {σ ψ : pr_I} (h : mI σ) (hk : ∀ {o : Nat}, (∀ m ∈ ([12] : List Nat), o ≠ m) → ψ o = σ o) : mI ψ := h.keep (fun o j B q => by
  rw [hk (fun m hm => by
    simp only [List.mem_cons, List.not_mem_nil, or_false] at hm
    rw [hm]; intro e; subst e; simp [mB] at q)])
theorem mI_k11 {σ ψ : pr_I} (h : mI σ) (hk : ∀ {o : Nat}, (∀ m ∈ ([11] : List Nat), o ≠ m) → ψ o = σ o) : mI ψ := h.keep (fun o j B q => by
  rw [hk (fun m hm => by
    simp only [List.mem_cons, List.not_mem_nil, or_false] at hm
    rw [hm]; intro e; subst e; simp [mB] at q)])
noncomputable def m_wi_r (σ : pr_I) (y : Int32) (x : Int32) : Int32 := (if (σ 1 (96 + 7 * y.toNatClampNeg + 1)) = x then (1 : Int32) else (0 : Int32))
noncomputable def m_ot_r (σ : pr_I) (x : Int32) : Int32 := (if (m_wi_r σ (σ 13 x.toNatClampNeg) x) = 0 then (σ 1 (96 + 7 * ((σ 13 x.toNatClampNeg).toNatClampNeg) + 1)) else (σ 1 (96 + 7 * ((σ 13 x.toNatClampNeg).toNatClampNeg) + 0)))
theorem m_ot_in {σ : pr_I} {x : Int32} (hI : mI σ) : vp_in (m_ot_r σ x) 12 := by
  have h := vp_in_lt (hI 13 x.toNatClampNeg 24 rfl)
  unfold m_ot_r
  exact p_ite (P := fun z : Int32 => vp_in z 12) (mI_link hI h (by decide) rfl) (mI_link hI h (by decide) rfl)
noncomputable def m_pu_it6 (σ : pr_I) (s : Int32) (t : Int32) : Nat → Int32 × Int32
  | 0 => ((1000000000 : Int32), t)
  | k + 1 => (if ((m_pu_it6 σ s t k).2) = s then (((m_pu_it6 σ s t k).1), ((m_pu_it6 σ s t k).2)) else ((if (if (m_wi_r σ (σ 13 (((m_pu_it6 σ s t k).2).toNatClampNeg)) ((m_pu_it6 σ s t k).2)) = 0 then (σ 12 ((σ 13 (((m_pu_it6 σ s t k).2).toNatClampNeg)).toNatClampNeg)) else ((σ 11 ((σ 13 (((m_pu_it6 σ s t k).2).toNatClampNeg)).toNatClampNeg)) - (σ 12 ((σ 13 (((m_pu_it6 σ s t k).2).toNatClampNeg)).toNatClampNeg)))) < ((m_pu_it6 σ s t k).1) then (if (m_wi_r σ (σ 13 (((m_pu_it6 σ s t k).2).toNatClampNeg)) ((m_pu_it6 σ s t k).2)) = 0 then (σ 12 ((σ 13 (((m_pu_it6 σ s t k).2).toNatClampNeg)).toNatClampNeg)) else ((σ 11 ((σ 13 (((m_pu_it6 σ s t k).2).toNatClampNeg)).toNatClampNeg)) - (σ 12 ((σ 13 (((m_pu_it6 σ s t k).2).toNatClampNeg)).toNatClampNeg)))) else ((m_pu_it6 σ s t k).1)), (m_ot_r σ ((m_pu_it6 σ s t k).2))))
noncomputable def m_pu_it6_e (σ : pr_I) (s : Int32) (t : Int32) (k : Nat) : Bool := (if ((m_pu_it6 σ s t k).2) = s then true else false)
theorem st_m_pu_it6_9 {σ : pr_I} {s : Int32} {t : Int32} {k : Nat} (c_9 : ((m_pu_it6 σ s t k).2) = s) : ∀ j, m_pu_it6 σ s t (k + j) = m_pu_it6 σ s t k
  | 0 => rfl
  | j + 1 => by
    have ih := st_m_pu_it6_9 c_9 j
    show m_pu_it6 σ s t ((k + j) + 1) = m_pu_it6 σ s t k
    simp only [m_pu_it6, ih, if_pos c_9]
noncomputable def m_pu_it87 (σ : pr_I) (s : Int32) (t : Int32) : Nat → pr_I × Int32
  | 0 => (σ, t)
  | k + 1 => (if ((m_pu_it87 σ s t k).2) = s then ((m_pu_it87 σ s t k).1, ((m_pu_it87 σ s t k).2)) else ((pr_up (m_pu_it87 σ s t k).1 12 ((σ 13 (((m_pu_it87 σ s t k).2).toNatClampNeg)).toNatClampNeg) (((m_pu_it87 σ s t k).1 12 ((σ 13 (((m_pu_it87 σ s t k).2).toNatClampNeg)).toNatClampNeg)) + (if (m_wi_r (m_pu_it87 σ s t k).1 (σ 13 (((m_pu_it87 σ s t k).2).toNatClampNeg)) ((m_pu_it87 σ s t k).2)) = 0 then (-((m_pu_it6 σ s t (sl 12)).1)) else ((m_pu_it6 σ s t (sl 12)).1)))), (m_ot_r (pr_up (m_pu_it87 σ s t k).1 12 ((σ 13 (((m_pu_it87 σ s t k).2).toNatClampNeg)).toNatClampNeg) (((m_pu_it87 σ s t k).1 12 ((σ 13 (((m_pu_it87 σ s t k).2).toNatClampNeg)).toNatClampNeg)) + (if (m_wi_r (m_pu_it87 σ s t k).1 (σ 13 (((m_pu_it87 σ s t k).2).toNatClampNeg)) ((m_pu_it87 σ s t k).2)) = 0 then (-((m_pu_it6 σ s t (sl 12)).1)) else ((m_pu_it6 σ s t (sl 12)).1)))) ((m_pu_it87 σ s t k).2))))
theorem fr_m_pu_it87 {σ : pr_I} {s : Int32} {t : Int32} {o : Nat} (hms : ∀ m ∈ ([12] : List Nat), o ≠ m) : ∀ {k : Nat}, (m_pu_it87 σ s t k).1 o = σ o := by
  simp only [List.mem_cons, List.not_mem_nil, or_false, forall_eq_or_imp, forall_eq] at hms
  intro k
  induction k with
  | zero =>
    show σ o = σ o
    rfl
  | succ k ih =>
    by_cases c_90 : ((m_pu_it87 σ s t k).2) = s
    · refine (congrFun (congrArg (fun z : pr_I × Int32 => z.1) (if_pos c_90)) o).trans ?_
      show (m_pu_it87 σ s t k).1 o = σ o
      rw [ih]
    · refine (congrFun (congrArg (fun z : pr_I × Int32 => z.1) (if_neg c_90)) o).trans ?_
      show (pr_up (m_pu_it87 σ s t k).1 12 ((σ 13 (((m_pu_it87 σ s t k).2).toNatClampNeg)).toNatClampNeg) (((m_pu_it87 σ s t k).1 12 ((σ 13 (((m_pu_it87 σ s t k).2).toNatClampNeg)).toNatClampNeg)) + (if (m_wi_r (m_pu_it87 σ s t k).1 (σ 13 (((m_pu_it87 σ s t k).2).toNatClampNeg)) ((m_pu_it87 σ s t k).2)) = 0 then (-((m_pu_it6 σ s t (sl 12)).1)) else ((m_pu_it6 σ s t (sl 12)).1)))) o = σ o
      rw [pr_up_ne (by omega), ih]

noncomputable def m_pu_it87_e (σ : pr_I) (s : Int32) (t : Int32) (k : Nat) : Bool := (if ((m_pu_it87 σ s t k).2) = s then true else false)
theorem st_m_pu_it87_90 {σ : pr_I} {s : Int32} {t : Int32} {k : Nat} (c_90 : ((m_pu_it87 σ s t k).2) = s) : ∀ j, m_pu_it87 σ s t (k + j) = m_pu_it87 σ s t k
  | 0 => rfl
  | j + 1 => by
    have ih := st_m_pu_it87_90 c_90 j
    show m_pu_it87 σ s t ((k + j) + 1) = m_pu_it87 σ s t k
    simp only [m_pu_it87, ih, if_pos c_90]
noncomputable def m_pu_r (σ : pr_I) (s : Int32) (t : Int32) : Int32 := ((m_pu_it6 σ s t (sl 12)).1)
noncomputable def m_pu (σ : pr_I) (s : Int32) (t : Int32) : pr_I := (m_pu_it87 σ s t (sl 12)).1
theorem pu_n1 {σ : pr_I} {s t : Int32} (hI : mI σ) (ht : vp_in t 12) : ∀ k, vp_in (m_pu_it6 σ s t k).2 12
  | 0 => ht
  | k + 1 => by
    have ih := pu_n1 (s := s) hI ht k
    unfold m_pu_it6
    exact p_ite (P := fun z : Int32 × Int32 => vp_in z.2 12) ih (m_ot_in hI)
theorem pu_n2 {σ : pr_I} {s t : Int32} (hI : mI σ) (ht : vp_in t 12) : ∀ k, mI (m_pu_it87 σ s t k).1 ∧ vp_in (m_pu_it87 σ s t k).2 12
  | 0 => ⟨hI, ht⟩
  | k + 1 => by
    obtain ⟨i1, i2⟩ := pu_n2 (s := s) hI ht k
    unfold m_pu_it87
    exact p_ite (P := fun z : pr_I × Int32 => mI z.1 ∧ vp_in z.2 12) ⟨i1, i2⟩ ⟨i1.upn rfl, m_ot_in (i1.upn rfl)⟩
theorem fr_m_pu {σ : pr_I} {s : Int32} {t : Int32} {o : Nat} (hms : ∀ m ∈ ([12] : List Nat), o ≠ m) : m_pu σ s t o = σ o := by
  unfold m_pu
  simp only [List.mem_cons, List.not_mem_nil, or_false, forall_eq_or_imp, forall_eq] at hms
  rw [fr_m_pu_it87 (by simp only [List.mem_cons, List.not_mem_nil, or_false, forall_eq_or_imp, forall_eq]; omega)]

def m_pu_ok (σ : pr_I) (s t : Int32) : Prop := m_pu_it6_e σ s t (sl 12) = true ∧ m_pu_it87_e σ s t (sl 12) = true
theorem mI_m_pu {σ : pr_I} {s t : Int32} (hI : mI σ) (ht : vp_in t 12) : mI (m_pu σ s t) := (pu_n2 hI ht _).1
noncomputable def m_fs_it2 (σ : pr_I) (s : Int32) (t : Int32) : Nat → pr_I
  | 0 => σ
  | k + 1 => (pr_up (m_fs_it2 σ s t k) 12 k (0 : Int32))
theorem fr_m_fs_it2 {σ : pr_I} {s : Int32} {t : Int32} {o : Nat} (hms : ∀ m ∈ ([12] : List Nat), o ≠ m) : ∀ {k : Nat}, (m_fs_it2 σ s t k) o = σ o := by
  simp only [List.mem_cons, List.not_mem_nil, or_false, forall_eq_or_imp, forall_eq] at hms
  intro k
  induction k with
  | zero =>
    show σ o = σ o
    rfl
  | succ k ih =>
    show (pr_up (m_fs_it2 σ s t k) 12 k (0 : Int32)) o = σ o
    rw [pr_up_ne (by omega), ih]

noncomputable def m_fs_fl28 (σ : pr_I) (s : Int32) (t : Int32) : Nat → pr_I → Int32 → pr_I × Int32
  | 0, σ1, _ => (σ1, 0)
  | j + 1, σ1, x3 => (if (m_me_r σ1 s t) = 0 then ((m_me σ1 s t), x3) else (m_fs_fl28 σ s t j (m_pu (m_me σ1 s t) s t) (x3 + (m_pu_r (m_me σ1 s t) s t))))
def m_fs_ok28 (σ : pr_I) (s : Int32) (t : Int32) : Nat → pr_I → Int32 → Prop
  | 0, _, _ => False
  | j + 1, σ1, x3 => ((m_me_ok σ1 s t) ∧ (if (m_me_r σ1 s t) = 0 then True else ((m_pu_ok (m_me σ1 s t) s t) ∧ (m_fs_ok28 σ s t j (m_pu (m_me σ1 s t) s t) (x3 + (m_pu_r (m_me σ1 s t) s t))))))
theorem fr_m_fs_fl28 {σ : pr_I} {s : Int32} {t : Int32} {o : Nat} (hms : ∀ m ∈ ([12, 13, 14, 15] : List Nat), o ≠ m) : ∀ {j : Nat} {σ1 : pr_I} {x3 : Int32}, (m_fs_fl28 σ s t j σ1 x3).1 o = σ1 o := by
  simp only [List.mem_cons, List.not_mem_nil, or_false, forall_eq_or_imp, forall_eq] at hms
  intro j
  induction j with
  | zero => intro _ _; rfl
  | succ j ih =>
    intro σ1 x3
    show ((if (m_me_r σ1 s t) = 0 then ((m_me σ1 s t), x3) else (m_fs_fl28 σ s t j (m_pu (m_me σ1 s t) s t) (x3 + (m_pu_r (m_me σ1 s t) s t))))).1 o = σ1 o
    by_cases c_34 : (m_me_r σ1 s t) = 0
    · refine (congrFun (congrArg (fun z : pr_I × Int32 => z.1) (if_pos c_34)) o).trans ?_
      show (m_me σ1 s t) o = σ1 o
      rw [fr_m_me (by simp only [List.mem_cons, List.not_mem_nil, or_false, forall_eq_or_imp, forall_eq]; omega)]
    · refine (congrFun (congrArg (fun z : pr_I × Int32 => z.1) (if_neg c_34)) o).trans ?_
      rw [ih, fr_m_pu (by simp only [List.mem_cons, List.not_mem_nil, or_false, forall_eq_or_imp, forall_eq]; omega), fr_m_me (by simp only [List.mem_cons, List.not_mem_nil, or_false, forall_eq_or_imp, forall_eq]; omega)]

noncomputable def m_fs_r (σ : pr_I) (s : Int32) (t : Int32) : Int32 := ((m_fs_fl28 σ s t (sl 24001) (m_fs_it2 σ s t (mln σ)) (nI 0)).2)
noncomputable def m_fs (σ : pr_I) (s : Int32) (t : Int32) : pr_I := (m_fs_fl28 σ s t (sl 24001) (m_fs_it2 σ s t (mln σ)) (nI 0)).1
theorem fr_m_fs {σ : pr_I} {s : Int32} {t : Int32} {o : Nat} (hms : ∀ m ∈ ([12, 13, 14, 15] : List Nat), o ≠ m) : m_fs σ s t o = σ o := by
  unfold m_fs
  simp only [List.mem_cons, List.not_mem_nil, or_false, forall_eq_or_imp, forall_eq] at hms
  rw [fr_m_fs_fl28 (by simp only [List.mem_cons, List.not_mem_nil, or_false, forall_eq_or_imp, forall_eq]; omega), fr_m_fs_it2 (by simp only [List.mem_cons, List.not_mem_nil, or_false, forall_eq_or_imp, forall_eq]; omega)]

theorem mI_m_fs_fl28 {σ : pr_I} {s t : Int32} (hs : vp_in s 12) (ht : vp_in t 12) : ∀ (j : Nat) (σ1 : pr_I) (x3 : Int32), mI σ1 → mI (m_fs_fl28 σ s t j σ1 x3).1
  | 0, _, _, h => h
  | j + 1, σ1, x3, h => by
    unfold m_fs_fl28
    exact p_ite (P := fun z : pr_I × Int32 => mI z.1) (mI_m_me h hs) (mI_m_fs_fl28 hs ht j _ _ (mI_m_pu (mI_m_me h hs) ht))
theorem mI_m_fs {σ : pr_I} {s t : Int32} (hI : mI σ) (hs : vp_in s 12) (ht : vp_in t 12) : mI (m_fs σ s t) := mI_m_fs_fl28 hs ht _ _ _ (mI_k12 hI (fun h => fr_m_fs_it2 h))
def m_fs_ok (σ : pr_I) (s t : Int32) : Prop := m_fs_ok28 σ s t (sl 24001) (m_fs_it2 σ s t (mln σ)) (nI 0)
noncomputable def mf_greatestFlow_r (σ : pr_I) (s : Nat) (t : Nat) : Int32 := (m_fs_r (m_lr (pr_up σ 0 6 (0 : Int32))) (nI s) (nI t))
noncomputable def mf_greatestFlow (σ : pr_I) (s : Nat) (t : Nat) : pr_I := (m_fs (m_lr (pr_up σ 0 6 (0 : Int32))) (nI s) (nI t))
theorem fr_mf_greatestFlow {σ : pr_I} {s : Nat} {t : Nat} {o : Nat} (hms : ∀ m ∈ ([0, 11, 12, 13, 14, 15] : List Nat), o ≠ m) : mf_greatestFlow σ s t o = σ o := by
  unfold mf_greatestFlow
  simp only [List.mem_cons, List.not_mem_nil, or_false, forall_eq_or_imp, forall_eq] at hms
  rw [fr_m_fs (by simp only [List.mem_cons, List.not_mem_nil, or_false, forall_eq_or_imp, forall_eq]; omega), fr_m_lr (by simp only [List.mem_cons, List.not_mem_nil, or_false, forall_eq_or_imp, forall_eq]; omega), pr_up_ne (by omega)]

noncomputable def mf_smallestCut_it28 (σ : pr_I) (s : Nat) (t : Nat) : Nat → Int32
  | 0 => (0 : Int32)
  | k + 1 => ((mf_smallestCut_it28 σ s t k) ||| (if (m_fs_r (m_lr (pr_up σ 0 6 (0 : Int32))) (nI s) (nI t)) < 0 then (0 : Int32) else (if (σ 1 (96 + 7 * k + 5)) = (1 : Int32) then (if ((m_fs (m_lr (pr_up σ 0 6 (0 : Int32))) (nI s) (nI t)) 15 ((σ 1 (96 + 7 * k + 0)).toNatClampNeg)) = 0 then (0 : Int32) else (if ((m_fs (m_lr (pr_up σ 0 6 (0 : Int32))) (nI s) (nI t)) 15 ((σ 1 (96 + 7 * k + 1)).toNatClampNeg)) = 0 then ((1 : Int32) <<< ((nI k) &&& 31)) else (0 : Int32))) else (0 : Int32))))
noncomputable def mf_smallestCut_r (σ : pr_I) (s : Nat) (t : Nat) : Int32 := (mf_smallestCut_it28 σ s t (mln σ))
noncomputable def mf_smallestCut (σ : pr_I) (s : Nat) (t : Nat) : pr_I := (m_fs (m_lr (pr_up σ 0 6 (0 : Int32))) (nI s) (nI t))
theorem fr_mf_smallestCut {σ : pr_I} {s : Nat} {t : Nat} {o : Nat} (hms : ∀ m ∈ ([0, 11, 12, 13, 14, 15] : List Nat), o ≠ m) : mf_smallestCut σ s t o = σ o := by
  unfold mf_smallestCut
  simp only [List.mem_cons, List.not_mem_nil, or_false, forall_eq_or_imp, forall_eq] at hms
  rw [fr_m_fs (by simp only [List.mem_cons, List.not_mem_nil, or_false, forall_eq_or_imp, forall_eq]; omega), fr_m_lr (by simp only [List.mem_cons, List.not_mem_nil, or_false, forall_eq_or_imp, forall_eq]; omega), pr_up_ne (by omega)]

noncomputable def mf_disjointPaths_it22 (σ : pr_I) (s : Nat) (t : Nat) (u : Int32) : Nat → pr_I
  | 0 => (pr_up σ 0 6 (0 : Int32))
  | k + 1 => (pr_up (mf_disjointPaths_it22 σ s t u k) 11 k (if (m_has_r (mf_disjointPaths_it22 σ s t u k) (m_lw_r (pr_up σ 0 6 (0 : Int32)) (mtn σ) (mln σ) u) (nI k)) = 0 then (0 : Int32) else (1 : Int32)))
theorem fr_mf_disjointPaths_it22 {σ : pr_I} {s : Nat} {t : Nat} {u : Int32} {o : Nat} (hms : ∀ m ∈ ([11] : List Nat), o ≠ m) : ∀ {k : Nat}, (mf_disjointPaths_it22 σ s t u k) o = (pr_up σ 0 6 (0 : Int32)) o := by
  simp only [List.mem_cons, List.not_mem_nil, or_false, forall_eq_or_imp, forall_eq] at hms
  intro k
  induction k with
  | zero =>
    show (pr_up σ 0 6 (0 : Int32)) o = (pr_up σ 0 6 (0 : Int32)) o
    rfl
  | succ k ih =>
    show (pr_up (mf_disjointPaths_it22 σ s t u k) 11 k (if (m_has_r (mf_disjointPaths_it22 σ s t u k) (m_lw_r (pr_up σ 0 6 (0 : Int32)) (mtn σ) (mln σ) u) (nI k)) = 0 then (0 : Int32) else (1 : Int32))) o = (pr_up σ 0 6 (0 : Int32)) o
    rw [pr_up_ne (by omega), ih]

noncomputable def mf_disjointPaths_r (σ : pr_I) (s : Nat) (t : Nat) (u : Int32) : Int32 := (m_fs_r (mf_disjointPaths_it22 σ s t u (mln σ)) (nI s) (nI t))
noncomputable def mf_disjointPaths (σ : pr_I) (s : Nat) (t : Nat) (u : Int32) : pr_I := (m_fs (mf_disjointPaths_it22 σ s t u (mln σ)) (nI s) (nI t))
theorem fr_mf_disjointPaths {σ : pr_I} {s : Nat} {t : Nat} {u : Int32} {o : Nat} (hms : ∀ m ∈ ([0, 11, 12, 13, 14, 15] : List Nat), o ≠ m) : mf_disjointPaths σ s t u o = σ o := by
  unfold mf_disjointPaths
  simp only [List.mem_cons, List.not_mem_nil, or_false, forall_eq_or_imp, forall_eq] at hms
  rw [fr_m_fs (by simp only [List.mem_cons, List.not_mem_nil, or_false, forall_eq_or_imp, forall_eq]; omega), fr_mf_disjointPaths_it22 (by simp only [List.mem_cons, List.not_mem_nil, or_false, forall_eq_or_imp, forall_eq]; omega), pr_up_ne (by omega)]

