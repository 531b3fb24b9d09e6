/-! THE ROUNDS OF BOTH, IN STEP -/
theorem up89 {X : pr_I} {f g : Nat} {v w : Int32} : pr_up (pr_up X 8 f v) 9 g w 1 = X 1 := by
  rw [pr_up_ne (show (1 : Nat) ≠ 9 by decide), pr_up_ne (show (1 : Nat) ≠ 8 by decide)]
theorem up89p {X : pr_I} {f g : Nat} {v w c : Int32} : (pr_up (pr_up X 8 f v) 9 g w, c).1 1 = X 1 := @up89 X f g v w
section LOCK
variable {σ μ : pr_I} {u v t : Int32} {nl nn k : Nat}
theorem it59_no {a : pr_I} {j : Nat} (h : ¬ bf_al u j ∨ (pt_meas_it59 σ a nl t u k j).1 118 (bf_f σ j) ≤ (pt_meas_it59 σ a nl t u k j).1 118 (bf_g σ j) + σ 5 j * (16 : Int32) + 1) : pt_meas_it59 σ a nl t u k (j + 1) = pt_meas_it59 σ a nl t u k j := by
  rw [pt_meas_it59]
  by_cases c : ((u >>> (nI j &&& 31)) &&& 1) = 0
  · rw [if_pos c]
  · rw [if_neg c]; exact if_pos (h.resolve_left (fun q => q c))
theorem it59_up {a : pr_I} {j : Nat} (h : bf_al u j) (h2 : ¬ (pt_meas_it59 σ a nl t u k j).1 118 (bf_f σ j) ≤ (pt_meas_it59 σ a nl t u k j).1 118 (bf_g σ j) + σ 5 j * (16 : Int32) + 1) : pt_meas_it59 σ a nl t u k (j + 1) = (pr_up (pt_meas_it59 σ a nl t u k j).1 118 (bf_f σ j) ((pt_meas_it59 σ a nl t u k j).1 118 (bf_g σ j) + σ 5 j * (16 : Int32) + 1), nI 1) := by
  rw [pt_meas_it59]
  exact (if_neg h).trans (if_neg h2)
theorem it60_no {b : pr_I} {j : Nat} (h : m_has_r (m_lp_it60 μ b t v k j).1 v (nI j) = 0 ∨ m_sh_r (m_lp_it60 μ b t v k j).1 j = 0) : m_lp_it60 μ b t v k (j + 1) = m_lp_it60 μ b t v k j := by
  rw [m_lp_it60]
  by_cases c : m_has_r (m_lp_it60 μ b t v k j).1 v (nI j) = 0
  · rw [if_pos c]
  · rw [if_neg c, if_pos (h.resolve_left c)]
theorem it60_up {b : pr_I} {j : Nat} (h : ¬ m_has_r (m_lp_it60 μ b t v k j).1 v (nI j) = 0) (h2 : ¬ m_sh_r (m_lp_it60 μ b t v k j).1 j = 0) (e2 : σ 2 j = μ 1 (96 + 7 * j + 0)) (e3 : σ 3 j = μ 1 (96 + 7 * j + 1)) (e5 : σ 5 j = μ 1 (96 + 7 * j + 3)) : m_lp_it60 μ b t v k (j + 1) = (pr_up (pr_up (m_lp_it60 μ b t v k j).1 8 (bf_f σ j) ((m_lp_it60 μ b t v k j).1 8 (bf_g σ j) + σ 5 j)) 9 (bf_f σ j) ((m_lp_it60 μ b t v k j).1 9 (bf_g σ j) + 1), nI 1) := by
  rw [m_lp_it60, if_neg h, if_neg h2]
  unfold bf_f bf_g
  rw [e2, e3, e5]
/-- the same links are allowed -/
def HU (u v : Int32) (nl : Nat) : Prop := ∀ k, k < nl → ∀ b : pr_I, (m_has_r b v (nI k) = 0 ↔ ¬ bf_al u k)
theorem lock1 {t' : Int32} {k' : Nat} (B : BL σ μ nl nn) (hu : HU u v nl) {a b : pr_I} (h : LSb nn a b) (hb1 : b 1 = μ 1) : ∀ j, j ≤ nl →
    LSb nn (pt_meas_it59 σ a nl t u k j).1 (m_lp_it60 μ b t' v k' j).1 ∧ (m_lp_it60 μ b t' v k' j).1 1 = μ 1 ∧ (pt_meas_it59 σ a nl t u k j).2 = (m_lp_it60 μ b t' v k' j).2 ∧
    (((pt_meas_it59 σ a nl t u k j).2 = nI 0 ∧ (pt_meas_it59 σ a nl t u k j).1 = a ∧ (m_lp_it60 μ b t' v k' j).1 = b) ∨ ((pt_meas_it59 σ a nl t u k j).2 = nI 1 ∧ ∃ i x, i < j ∧ bf_D (pt_meas_it59 σ a nl t u k (i + 1)).1 x < bf_D (pt_meas_it59 σ a nl t u k i).1 x))
  | 0, _ => ⟨h, hb1, rfl, Or.inl ⟨rfl, rfl, rfl⟩⟩
  | j + 1, hj => by
    obtain ⟨i1, i2, i3, i4⟩ := lock1 (t' := t') (k' := k') B hu h hb1 j (by omega)
    have hjl : j < nl := by omega
    have keep : pt_meas_it59 σ a nl t u k (j + 1) = pt_meas_it59 σ a nl t u k j → m_lp_it60 μ b t' v k' (j + 1) = m_lp_it60 μ b t' v k' j → LSb nn (pt_meas_it59 σ a nl t u k (j + 1)).1 (m_lp_it60 μ b t' v k' (j + 1)).1 ∧ (m_lp_it60 μ b t' v k' (j + 1)).1 1 = μ 1 ∧ (pt_meas_it59 σ a nl t u k (j + 1)).2 = (m_lp_it60 μ b t' v k' (j + 1)).2 ∧
    (((pt_meas_it59 σ a nl t u k (j + 1)).2 = nI 0 ∧ (pt_meas_it59 σ a nl t u k (j + 1)).1 = a ∧ (m_lp_it60 μ b t' v k' (j + 1)).1 = b) ∨ ((pt_meas_it59 σ a nl t u k (j + 1)).2 = nI 1 ∧ ∃ i x, i < j + 1 ∧ bf_D (pt_meas_it59 σ a nl t u k (i + 1)).1 x < bf_D (pt_meas_it59 σ a nl t u k i).1 x)) := by
      intro e1 e2
      rw [e1, e2]
      refine ⟨i1, i2, i3, ?_⟩
      rcases i4 with q | ⟨q, i, x, z1, z2⟩
      · exact Or.inl q
      · exact Or.inr ⟨q, i, x, by omega, z2⟩
    by_cases c : bf_al u j
    · have c' : ¬ m_has_r (m_lp_it60 μ b t' v k' j).1 v (nI j) = 0 := fun q => ((hu j hjl _).mp q) c
      obtain ⟨_, _, _, e2, e3, e5⟩ := B.2.2 j hjl
      rcases i1.step B i2 hjl with ⟨s1, s2, s3, s4, s5⟩ | ⟨s1, s2, s3⟩
      · have w1 := it59_up (nl := nl) (t := t) (k := k) c s2
        have w2 := it60_up (σ := σ) (t := t') (k := k') c' s3 e2 e3 e5
        have w3 := s5 (bf_f σ j)
        rw [if_pos rfl] at w3
        refine ⟨by rw [w1, w2]; exact s4, by rw [w2, up89p]; exact i2, by rw [w1, w2], Or.inr ⟨by rw [w1], j, bf_f σ j, by omega, ?_⟩⟩
        rw [w1]
        exact Nat.lt_of_le_of_lt (Nat.le_of_eq w3) s1
      · exact keep (it59_no (Or.inr s2)) (it60_no (Or.inr s3))
    · exact keep (it59_no (Or.inl c)) (it60_no (Or.inl ((hu j hjl _).mpr c)))
theorem lock2 {t' : Int32} {k' : Nat} (B : BL σ μ nl nn) (hu : HU u v nl) {a b : pr_I} (h : LSb nn a b) (hb1 : b 1 = μ 1) : Rn (bf_al u) (bf_f σ) (bf_g σ) (bf_w σ) nl (fun j => bf_D (pt_meas_it59 σ a nl t u k j).1) := fun j hj => by
  obtain ⟨i1, i2, _, _⟩ := lock1 (t := t) (k := k) (t' := t') (k' := k') B hu h hb1 j (by omega)
  by_cases c : bf_al u j
  · rcases i1.step B i2 hj with ⟨s1, s2, s3, s4, s5⟩ | ⟨s1, s2, s3⟩
    · have w1 := it59_up (nl := nl) (t := t) (k := k) c s2
      refine Or.inl ⟨c, s1, fun x => ?_⟩
      show bf_D (pt_meas_it59 σ a nl t u k (j + 1)).1 x = _
      rw [w1]; exact s5 x
    · refine Or.inr ⟨fun _ => s1, fun x => ?_⟩
      show bf_D (pt_meas_it59 σ a nl t u k (j + 1)).1 x = _
      rw [it59_no (Or.inr s2)]
  · refine Or.inr ⟨fun q => absurd q c, fun x => ?_⟩
    show bf_D (pt_meas_it59 σ a nl t u k (j + 1)).1 x = _
    rw [it59_no (Or.inl c)]
end LOCK
/-! where both begin -/
theorem it3_c {σ : pr_I} {nl : Nat} {t u : Int32} : ∀ n, n ≤ 12 → ∀ x, x < n → (pt_meas_it3 σ nl t u n) 118 x = if nI x = t then (0 : Int32) else 1000000000
  | 0, _, _, h => absurd h (by omega)
  | n + 1, hn, x, hx => by
    rw [pt_meas_it3]
    by_cases e : x = n
    · subst e; rw [pr_upe]
    · rw [pr_upk e]; exact it3_c n (by omega) x (by omega)
theorem it2_c {μ : pr_I} {t v : Int32} : ∀ n, ∀ x, x < n → (m_lp_it2 μ t v n) 8 x = 1000000000
  | 0, _, h => absurd h (by omega)
  | n + 1, x, hx => by
    rw [m_lp_it2]
    by_cases e : x = n
    · subst e; rw [pr_upv (by decide), pr_upe]
    · rw [pr_upv (by decide), pr_upk e]; exact it2_c n x (by omega)
theorem lock0 {σ μ : pr_I} {u v t : Int32} {nl nn : Nat} (hn : nn ≤ 12) (ht : vp_in t nn) : LSb nn (pt_meas_it3 σ nl t u (sl 12)) (pr_up (pr_up (m_lp_it2 μ t v nn) 8 t.toNatClampNeg (0 : Int32)) 9 t.toNatClampNeg (0 : Int32)) ∧ bf_D (pt_meas_it3 σ nl t u (sl 12)) t.toNatClampNeg = 0 ∧ ∀ x, x < 12 → x ≠ t.toNatClampNeg → bf_D (pt_meas_it3 σ nl t u (sl 12)) x = 1000000000 := by
  rw [sl_eq 12]
  have htn := vp_in_lt ht
  have et : t = nI t.toNatClampNeg := vp_nI ht (by omega)
  have C : ∀ x, x < 12 → (pt_meas_it3 σ nl t u 12) 118 x = if x = t.toNatClampNeg then (0 : Int32) else 1000000000 := fun x hx => by
    rw [it3_c 12 (by decide) x hx]
    by_cases e : x = t.toNatClampNeg
    · rw [if_pos e, if_pos (by rw [e]; exact et.symm)]
    · rw [if_neg e, if_neg (fun q => e ((nI_eq (by omega) (by omega)).mp (q.trans et)))]
  refine ⟨⟨fun x hx => ?_, fun x h1 h2 => ?_⟩, ?_, fun x hx e => ?_⟩
  · by_cases e : x = t.toNatClampNeg
    · refine Or.inr ⟨0, 0, ?_, ?_, ?_, by omega, Nat.zero_le _⟩
      · rw [C x (by omega), if_pos e]; rfl
      · rw [e, pr_upv (by decide), pr_upe]; rfl
      · rw [e, pr_upe]; rfl
    · refine Or.inl ⟨?_, ?_⟩
      · rw [C x (by omega), if_neg e]; rfl
      · rw [pr_upv (by decide), pr_upk e]; exact it2_c nn x hx
  · rw [C x h2, if_neg (by omega)]; rfl
  · unfold bf_D
    rw [C _ (by omega), if_pos rfl]; rfl
  · unfold bf_D
    rw [C x hx, if_neg e]
    exact nI_clamp (n := 1000000000) (by decide)
