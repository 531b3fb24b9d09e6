/-! CRITICAL LINKS ON BOTH SIDES -/
theorem av_congr {X Y : pr_I} {n k : Nat} (h : X 1 = Y 1) : m_av_r X n k = m_av_r Y n k := by
  unfold m_av_r m_prom_r
  rw [prom_congr (μ := Y) (μ' := X) (n := n) (n' := n) n (fun t _ c _ => by rw [h]), h]
theorem lw_congr {X Y : pr_I} (h : X 1 = Y 1) {n nl : Nat} {u : Int32} : ∀ k, m_lw_it4 X n nl u k = m_lw_it4 Y n nl u k
  | 0 => rfl
  | k + 1 => by rw [m_lw_it4, m_lw_it4, lw_congr h k, av_congr h, h]
theorem WT.any {σ μ X : pr_I} (h : WT σ μ) (hm : mI X) (h1 : X 1 = μ 1) : WT σ X := ⟨h.1.cong h.1.cr.w hm (fun _ _ => rfl) h1, h.2⟩
theorem HU.bits {u v : Int32} {nl k : Nat} (h : HU u v nl) (hl : nl ≤ 24) (hk : k < nl) : bit u k = bit v k := by
  have q := h k hk (fun _ _ => 0)
  rw [has_bit (by omega), bf_bit (by omega)] at q
  cases e1 : bit u k <;> cases e2 : bit v k
  · rfl
  · rw [e1, e2] at q; exact absurd rfl (q.mpr (by decide))
  · rw [e1, e2] at q; exact absurd rfl (q.mp (by decide))
  · rfl
theorem HU.mask {u v : Int32} {nl k : Nat} (h : HU u v nl) (hl : nl ≤ 24) (hk : k < nl) : HU (u &&& (((1 : Int32) <<< ((nI k) &&& 31)) ^^^ ((-1) : Int32))) (v &&& (((1 : Int32) <<< ((nI k) &&& 31)) ^^^ ((-1) : Int32))) nl := by
  refine HU.of hl (fun i hi => ?_)
  rw [bit_off (by omega) (by omega), bit_off (by omega) (by omega), h.bits hl hi]
section CRIT
variable {σ μ : pr_I}
theorem crit_X (h : WT σ μ) {s t : Nat} {u : Int32} (hs : s < ndn σ) (k : Nat) : WT σ (mf_criticalLinks_it38 μ s t u k).1 := by
  have hnn : ndn σ ≤ 12 := Nat.le_of_lt_succ (vp_in_lt (h.1.cr.w 0 6 13 rfl))
  refine h.any (mI_mf_criticalLinks_it38 h.1.cr.m (nI_vin (by omega) (by decide)) k) ?_
  exact (fr_mf_criticalLinks_it38 (by decide)).trans ((fr_m_fi (by decide)).trans (pr_up_ne (by decide)))
theorem crit_ok (h : WT σ μ) {s t : Nat} {u : Int32} (hs : s < ndn σ) (ht : t < ndn σ) {k : Nat} (hk : k < lkn σ) : m_fi_ok (mf_criticalLinks_it38 μ s t u k).1 (nI s) (nI t) ((m_lw_r (pr_up μ 0 6 (0 : Int32)) (mtn μ) (mln μ) u) &&& (((1 : Int32) <<< ((nI k) &&& 31)) ^^^ ((-1) : Int32))) ∧ (bit (pt_reach_r σ (lkn σ) (nI s) ((lk_wu σ u (lkn σ) &&& σ 1 7) &&& (((1 : Int32) <<< ((nI k) &&& 31)) ^^^ ((-1) : Int32)))) t = true ↔ ¬ m_fi_r (mf_criticalLinks_it38 μ s t u k).1 (nI s) (nI t) ((m_lw_r (pr_up μ 0 6 (0 : Int32)) (mtn μ) (mln μ) u) &&& (((1 : Int32) <<< ((nI k) &&& 31)) ^^^ ((-1) : Int32))) = 0) := by
  have hnn : ndn σ ≤ 12 := Nat.le_of_lt_succ (vp_in_lt (h.1.cr.w 0 6 13 rfl))
  have hx := crit_X h (t := t) (u := u) hs k
  have hu := (HU.wide h (u := u)).mask (wI_nl24 h.1.cr.w) hk
  exact ⟨(find2 hx.1.bl hu (nI_vin hs (by omega)) (nI_vin ht (by omega)) hx.1.cr.ln hx.1.cr.nn).1, reach_fi hx.1.bl hu hs ht hx.1.cr.ln hx.1.cr.nn⟩
theorem Pth.mask {u : Int32} {nl s t n k : Nat} {ls np : Nat → Nat} (p : Pth σ u nl s t n ls np) (hl : nl ≤ 24) (hk : k < nl) (hb : bit u k = false) : Pth σ (u &&& (((1 : Int32) <<< ((nI k) &&& 31)) ^^^ ((-1) : Int32))) nl s t n ls np := by
  refine ⟨p.1, p.2.1, fun i hi => ?_⟩
  obtain ⟨a, b, c⟩ := p.2.2 i hi
  refine ⟨a, ?_, c⟩
  rw [bit_off (by omega) (by omega), b]
  by_cases e : ls i = k
  · rw [e, hb] at b; exact absurd b (by decide)
  · rw [if_neg e]
theorem crit_it (h : WT σ μ) {s t : Nat} {u : Int32} (hs : s < ndn σ) (ht : t < ndn σ) (hr : bit (pt_reach_r σ (lkn σ) (nI s) (lk_wu σ u (lkn σ) &&& σ 1 7)) t = true) : ∀ k, k ≤ lkn σ → fx_criticalLinks_it62 σ s t u k = (mf_criticalLinks_it38 μ s t u k).2
  | 0, _ => rfl
  | k + 1, hk => by
    have hnn : ndn σ ≤ 12 := Nat.le_of_lt_succ (vp_in_lt (h.1.cr.w 0 6 13 rfl))
    have h24 := wI_nl24 h.1.cr.w
    have ih := crit_it h hs ht hr k (by omega)
    have C := (crit_ok h hs ht (u := u) (k := k) (by omega)).2
    have hu := HU.wide h (u := u)
    have z1 : ¬ (1 : Int32) = 0 := by decide
    rw [fx_criticalLinks_it62, mf_criticalLinks_it38, bit_eq (show t < 32 by omega), ih]
    by_cases c : m_has_r (mf_criticalLinks_it38 μ s t u k).1 (m_lw_r (pr_up μ 0 6 (0 : Int32)) (mtn μ) (mln μ) u) (nI k) = 0
    · have hb : bit (lk_wu σ u (lkn σ) &&& σ 1 7) k = false := by
        have q := (hu k (by omega) _).mp c
        cases e : bit (lk_wu σ u (lkn σ) &&& σ 1 7) k
        · rfl
        · exact absurd ((bf_bit (k := k) (by omega)).mpr e) q
      obtain ⟨n, ls, np, p⟩ := fi_pth h.1.mu.bl hu hs ht h.1.mu.cr.ln h.1.mu.cr.nn ((reach_fi h.1.mu.bl hu hs ht h.1.mu.cr.ln h.1.mu.cr.nn).mp hr)
      have r := pth_reach h.1.bl hs (p.mask h24 (by omega) hb)
      rw [if_pos c, if_pos r, if_neg z1, if_neg z1]
    · rw [if_neg c]
      by_cases r : bit (pt_reach_r σ (lkn σ) (nI s) ((lk_wu σ u (lkn σ) &&& σ 1 7) &&& (((1 : Int32) <<< ((nI k) &&& 31)) ^^^ ((-1) : Int32)))) t = true
      · rw [if_pos r, if_neg z1, if_neg z1, if_neg (C.mp r)]
      · have r2 : m_fi_r (mf_criticalLinks_it38 μ s t u k).1 (nI s) (nI t) ((m_lw_r (pr_up μ 0 6 (0 : Int32)) (mtn μ) (mln μ) u) &&& (((1 : Int32) <<< ((nI k) &&& 31)) ^^^ ((-1) : Int32))) = 0 := Classical.byContradiction (fun q => r (C.mpr q))
        rw [if_neg r, if_pos rfl, if_pos rfl, if_pos r2]
theorem eq_criticalLinks (h : WT σ μ) {s t : Nat} {u : Int32} (hs : s < ndn σ) (ht : t < ndn σ) : fx_criticalLinks_r σ s t u = mf_criticalLinks_r μ s t u ∧ m_fi_ok (pr_up μ 0 6 (0 : Int32)) (nI s) (nI t) (m_lw_r (pr_up μ 0 6 (0 : Int32)) (mtn μ) (mln μ) u) ∧ (∀ i, i < mln μ → m_fi_ok (mf_criticalLinks_it38 μ s t u i).1 (nI s) (nI t) ((m_lw_r (pr_up μ 0 6 (0 : Int32)) (mtn μ) (mln μ) u) &&& (((1 : Int32) <<< ((nI i) &&& 31)) ^^^ ((-1) : Int32)))) ∧ WT σ (mf_criticalLinks μ s t u) := by
  have hnn : ndn σ ≤ 12 := Nat.le_of_lt_succ (vp_in_lt (h.1.cr.w 0 6 13 rfl))
  have R := reach_fi h.1.mu.bl (HU.wide h (u := u)) hs ht h.1.mu.cr.ln h.1.mu.cr.nn
  have z1 : ¬ (1 : Int32) = 0 := by decide
  refine ⟨?_, (find_wide h hs ht).1, fun i hi => ?_, ?_⟩
  · unfold fx_criticalLinks_r mf_criticalLinks_r
    rw [bit_eq (show t < 32 by omega)]
    by_cases c : bit (pt_reach_r σ (lkn σ) (nI s) (lk_wu σ u (lkn σ) &&& σ 1 7)) t = true
    · rw [if_pos c, if_neg z1, if_neg (R.mp c), h.1.cr.ln]
      exact crit_it h hs ht c _ (Nat.le_refl _)
    · have c2 : m_fi_r (pr_up μ 0 6 (0 : Int32)) (nI s) (nI t) (m_lw_r (pr_up μ 0 6 (0 : Int32)) (mtn μ) (mln μ) u) = 0 := Classical.byContradiction (fun q => c (R.mpr q))
      rw [if_neg c, if_pos rfl, if_pos c2]
  · rw [h.1.cr.ln] at hi
    exact (crit_ok h hs ht hi).1
  · unfold mf_criticalLinks
    split
    · exact h.any (mI_m_fi h.1.mu.cr.m (nI_vin (by omega) (by decide))) ((fr_m_fi (by decide)).trans (pr_up_ne (by decide)))
    · exact crit_X h hs _
end CRIT
/-! THE WIDEST WAY ON BOTH SIDES -/
section WIDE
variable {σ μ : pr_I}
/-- a way of so many units as this link has -/
def gdw (σ : pr_I) (s t k : Nat) : Prop := bit (pt_reach_r σ (lkn σ) (nI s) (lk_wu σ (lk_av σ k) (lkn σ) &&& σ 1 7)) t = true
theorem wide_X (h : WT σ μ) {s t : Nat} (hs : s < ndn σ) (k : Nat) : WT σ (mf_widest_it16 μ s t k).1 ∧ (mf_widest_it16 μ s t k).1 1 = (pr_up μ 0 6 (0 : Int32)) 1 := by
  have hnn : ndn σ ≤ 12 := Nat.le_of_lt_succ (vp_in_lt (h.1.cr.w 0 6 13 rfl))
  have e : (mf_widest_it16 μ s t k).1 1 = (pr_up μ 0 6 (0 : Int32)) 1 := fr_mf_widest_it16 (by decide)
  exact ⟨h.any (mI_mf_widest_it16 h.1.cr.m (nI_vin (by omega) (by decide)) k) (e.trans (pr_up_ne (by decide))), e⟩
theorem wide_ok (h : WT σ μ) {s t : Nat} (hs : s < ndn σ) (ht : t < ndn σ) {k : Nat} (hk : k < lkn σ) : m_av_r (mf_widest_it16 μ s t k).1 (mtn μ) k = lk_av σ k ∧ m_fi_ok (mf_widest_it16 μ s t k).1 (nI s) (nI t) (m_lw_r (mf_widest_it16 μ s t k).1 (mtn μ) (mln μ) (m_av_r (mf_widest_it16 μ s t k).1 (mtn μ) k)) ∧ (gdw σ s t k ↔ ¬ m_fi_r (mf_widest_it16 μ s t k).1 (nI s) (nI t) (m_lw_r (mf_widest_it16 μ s t k).1 (mtn μ) (mln μ) (m_av_r (mf_widest_it16 μ s t k).1 (mtn μ) k)) = 0) := by
  have hnn : ndn σ ≤ 12 := Nat.le_of_lt_succ (vp_in_lt (h.1.cr.w 0 6 13 rfl))
  obtain ⟨hx, e⟩ := wide_X h (t := t) hs k
  have av : lk_av σ k = m_av_r (pr_up μ 0 6 (0 : Int32)) (mtn μ) k := eq_linkValue h hk (c := 6) (by decide)
  have ea : m_av_r (mf_widest_it16 μ s t k).1 (mtn μ) k = lk_av σ k := (av_congr e).trans av.symm
  have hu : HU (lk_wu σ (lk_av σ k) (lkn σ) &&& σ 1 7) (m_lw_r (mf_widest_it16 μ s t k).1 (mtn μ) (mln μ) (lk_av σ k)) (lkn σ) := by
    have := HU.wide h (u := lk_av σ k)
    unfold m_lw_r at this ⊢
    rw [lw_congr e]; exact this
  rw [ea]
  exact ⟨rfl, (find2 hx.1.bl hu (nI_vin hs (by omega)) (nI_vin ht (by omega)) hx.1.cr.ln hx.1.cr.nn).1, reach_fi hx.1.bl hu hs ht hx.1.cr.ln hx.1.cr.nn⟩
/-- where there is a way of so many units, its narrowest link is up and has as many -/
theorem wide_up (h : WT σ μ) {s t k : Nat} (hs : s < ndn σ) (ht : t < ndn σ) (hst : s ≠ t) (g : gdw σ s t k) : ∃ j, j < lkn σ ∧ ¬ lk_up σ j = 0 ∧ gdw σ s t j ∧ (lk_av σ k).toInt ≤ (lk_av σ j).toInt := by
  have hnn : ndn σ ≤ 12 := Nat.le_of_lt_succ (vp_in_lt (h.1.cr.w 0 6 13 rfl))
  have h24 := wI_nl24 h.1.cr.w
  have hu := HU.wide h (u := lk_av σ k)
  obtain ⟨n, ls, np, p1, p2, p3⟩ := fi_pth h.1.mu.bl hu hs ht h.1.mu.cr.ln h.1.mu.cr.nn ((reach_fi h.1.mu.bl hu hs ht h.1.mu.cr.ln h.1.mu.cr.nn).mp g)
  have n0 : 0 < n := by
    by_cases z : n = 0
    · rw [z] at p2; exact absurd (p1.symm.trans p2) hst
    · omega
  have W : ∀ x, x < n → lk_up σ (ls x) ≠ 0 ∧ (lk_av σ k).toInt ≤ (lk_av σ (ls x)).toInt ∧ bit (σ 1 7) (ls x) = true := fun x hx => by
    obtain ⟨a, b, _⟩ := p3 x hx
    rw [bit_and, wu_bit _ h24 _ (by omega)] at b
    have b1 := (Bool.and_eq_true _ _).mp b
    have b2 := (Bool.and_eq_true _ _).mp b1.1
    refine ⟨by rw [lk_bit (by omega), b1.2]; decide, ?_, b1.2⟩
    by_cases q : lk_av σ (ls x) < lk_av σ k
    · rw [decide_eq_true q] at b2; exact absurd b2.2 (by decide)
    · have q' : ¬ (lk_av σ (ls x)).toInt < (lk_av σ k).toInt := fun z => q (lt_i.mpr z)
      omega
  obtain ⟨x, x1, _, x3⟩ := mn (fun i => ((lk_av σ (ls i)).toInt + 2147483648).toNat) (fun _ => True) n ⟨0, n0, trivial⟩
  have lo : ∀ y, y < n → (lk_av σ (ls x)).toInt ≤ (lk_av σ (ls y)).toInt := fun y hy => by
    have q : ((lk_av σ (ls x)).toInt + 2147483648).toNat ≤ ((lk_av σ (ls y)).toInt + 2147483648).toNat := x3 y hy trivial
    have := (lk_av σ (ls x)).le_toInt
    have := (lk_av σ (ls y)).le_toInt
    omega
  refine ⟨ls x, (p3 x x1).1, (W x x1).1, ?_, (W x x1).2.1⟩
  refine pth_reach h.1.bl hs (n := n) (ls := ls) (np := np) ⟨p1, p2, fun y hy => ?_⟩
  obtain ⟨a, _, c⟩ := p3 y hy
  refine ⟨a, ?_, c⟩
  have := lo y hy
  rw [bit_and, wu_bit _ h24 _ (by omega), (W y hy).2.2, decide_eq_true a, decide_eq_false (fun z => by have := lt_i.mp z; omega)]
  rfl
theorem width_it {s t : Nat} (ht : t < 32) : ∀ k, (0 ≤ (pt_width_it6 σ (lkn σ) (nI s) (nI t) k).toInt) ∧ (pt_width_it6 σ (lkn σ) (nI s) (nI t) k = 0 ∨ ∃ j, j < k ∧ gdw σ s t j ∧ pt_width_it6 σ (lkn σ) (nI s) (nI t) k = lk_av σ j) ∧ ∀ j, j < k → ¬ lk_up σ j = 0 → gdw σ s t j → (lk_av σ j).toInt ≤ (pt_width_it6 σ (lkn σ) (nI s) (nI t) k).toInt
  | 0 => ⟨Int.le_refl 0, Or.inl rfl, fun j hj => absurd hj (by omega)⟩
  | k + 1 => by
    obtain ⟨i1, i2, i3⟩ := width_it (s := s) ht k
    have z1 : ¬ (1 : Int32) = 0 := by decide
    rw [pt_width_it6, bit_eq ht]
    generalize pt_width_it6 σ (lkn σ) (nI s) (nI t) k = C at *
    have st : (¬ lk_up σ k = 0 → gdw σ s t k → (lk_av σ k).toInt ≤ C.toInt) → (0 ≤ C.toInt) ∧ (C = 0 ∨ ∃ j, j < k + 1 ∧ gdw σ s t j ∧ C = lk_av σ j) ∧ ∀ j, j < k + 1 → ¬ lk_up σ j = 0 → gdw σ s t j → (lk_av σ j).toInt ≤ C.toInt := fun hk => by
      refine ⟨i1, ?_, fun j hj a b => ?_⟩
      · rcases i2 with q | ⟨j, j1, j2⟩
        · exact Or.inl q
        · exact Or.inr ⟨j, by omega, j2⟩
      · by_cases e : j = k
        · rw [e] at a b ⊢; exact hk a b
        · exact i3 j (by omega) a b
    by_cases c1 : lk_up σ k = 0
    · rw [if_pos c1, if_pos rfl]
      exact st (fun q => absurd c1 q)
    · rw [if_neg c1, if_neg z1]
      by_cases c2 : lk_av σ k ≤ C
      · rw [if_pos c2]
        exact st (fun _ _ => le_i.mp c2)
      · have c2' : ¬ (lk_av σ k).toInt ≤ C.toInt := fun z => c2 (le_i.mpr z)
        rw [if_neg c2]
        by_cases c3 : gdw σ s t k
        · rw [if_pos (show bit (pt_reach_r σ (lkn σ) (nI s) (lk_wu σ (lk_av σ k) (lkn σ) &&& σ 1 7)) t = true from c3), if_neg z1]
          refine ⟨by omega, Or.inr ⟨k, by omega, c3, rfl⟩, fun j hj a b => ?_⟩
          by_cases e : j = k
          · rw [e]; exact Int.le_refl _
          · have := i3 j (by omega) a b
            omega
        · rw [if_neg (show ¬ bit (pt_reach_r σ (lkn σ) (nI s) (lk_wu σ (lk_av σ k) (lkn σ) &&& σ 1 7)) t = true from c3), if_pos rfl]
          exact st (fun _ q => absurd q c3)
theorem widest_it (h : WT σ μ) {s t : Nat} (hs : s < ndn σ) (ht : t < ndn σ) : ∀ k, k ≤ lkn σ → (0 ≤ (mf_widest_it16 μ s t k).2.toInt) ∧ ((mf_widest_it16 μ s t k).2 = 0 ∨ ∃ j, j < k ∧ gdw σ s t j ∧ (mf_widest_it16 μ s t k).2 = lk_av σ j) ∧ ∀ j, j < k → gdw σ s t j → (lk_av σ j).toInt ≤ (mf_widest_it16 μ s t k).2.toInt
  | 0, _ => ⟨Int.le_refl 0, Or.inl rfl, fun j hj => absurd hj (by omega)⟩
  | k + 1, hk => by
    obtain ⟨i1, i2, i3⟩ := widest_it h hs ht k (by omega)
    obtain ⟨ea, _, F⟩ := wide_ok h hs ht (k := k) (by omega)
    rw [mf_widest_it16]
    rw [ea] at F ⊢
    generalize (mf_widest_it16 μ s t k).2 = C at *
    have st : (gdw σ s t k → (lk_av σ k).toInt ≤ C.toInt) → (0 ≤ C.toInt) ∧ (C = 0 ∨ ∃ j, j < k + 1 ∧ gdw σ s t j ∧ C = lk_av σ j) ∧ ∀ j, j < k + 1 → gdw σ s t j → (lk_av σ j).toInt ≤ C.toInt := fun hk => by
      refine ⟨i1, ?_, fun j hj b => ?_⟩
      · rcases i2 with q | ⟨j, j1, j2⟩
        · exact Or.inl q
        · exact Or.inr ⟨j, by omega, j2⟩
      · by_cases e : j = k
        · rw [e] at b ⊢; exact hk b
        · exact i3 j (by omega) b
    by_cases c2 : lk_av σ k ≤ C
    · rw [if_pos c2]
      exact st (fun _ => le_i.mp c2)
    · have c2' : ¬ (lk_av σ k).toInt ≤ C.toInt := fun z => c2 (le_i.mpr z)
      rw [if_neg c2]
      by_cases c3 : gdw σ s t k
      · rw [if_neg (F.mp c3)]
        refine ⟨by show 0 ≤ (lk_av σ k).toInt; omega, Or.inr ⟨k, by omega, c3, rfl⟩, fun j hj b => ?_⟩
        show (lk_av σ j).toInt ≤ (lk_av σ k).toInt
        by_cases e : j = k
        · rw [e]; exact Int.le_refl _
        · have := i3 j (by omega) b
          omega
      · rw [if_pos (Classical.byContradiction (fun q => c3 (F.mpr q)))]
        exact st (fun q => absurd q c3)
theorem eq_widest (h : WT σ μ) {s t : Nat} (hs : s < ndn σ) (ht : t < ndn σ) (hst : s ≠ t) : fx_widest_r σ s t = mf_widest_r μ s t ∧ (∀ i, i < mln μ → m_fi_ok (mf_widest_it16 μ s t i).1 (nI s) (nI t) (m_lw_r (mf_widest_it16 μ s t i).1 (mtn μ) (mln μ) (m_av_r (mf_widest_it16 μ s t i).1 (mtn μ) i))) ∧ WT σ (mf_widest μ s t) := by
  have hnn : ndn σ ≤ 12 := Nat.le_of_lt_succ (vp_in_lt (h.1.cr.w 0 6 13 rfl))
  refine ⟨?_, fun i hi => ?_, (wide_X h hs _).1⟩
  · obtain ⟨a1, a2, a3⟩ := width_it (σ := σ) (s := s) (t := t) (by omega) (lkn σ)
    obtain ⟨b1, b2, b3⟩ := widest_it h hs ht (lkn σ) (Nat.le_refl _)
    unfold fx_widest_r mf_widest_r pt_width_r
    rw [h.1.cr.ln]
    generalize pt_width_it6 σ (lkn σ) (nI s) (nI t) (lkn σ) = C at *
    generalize (mf_widest_it16 μ s t (lkn σ)).2 = M at *
    have z0 : (0 : Int32).toInt = 0 := rfl
    apply Int32.toInt_inj.mp
    have le1 : C.toInt ≤ M.toInt := by
      rcases a2 with q | ⟨j, j1, j2, j3⟩
      · rw [q, z0]; exact b1
      · rw [j3]; exact b3 j j1 j2
    have le2 : M.toInt ≤ C.toInt := by
      rcases b2 with q | ⟨j, j1, j2, j3⟩
      · rw [q, z0]; exact a1
      · obtain ⟨j', k1, k2, k3, k4⟩ := wide_up h hs ht hst j2
        have := a3 j' k1 k2 k3
        rw [j3]; omega
    omega
  · rw [h.1.cr.ln] at hi
    exact (wide_ok h hs ht hi).2.1
end WIDE
