/-! FLOWS ON BOTH SIDES: the calls -/
section FC
variable {τ φ μ : pr_I} {nl nn s t : Nat}
theorem FI.le (h : FI φ nl) : Vf τ s (φ 2) nl ≤ 1000 * (nl : Int) := Vf_le nl (fun j hj => by
  obtain ⟨h1, h2, h3, h4⟩ := h j hj
  omega)
theorem fs28_s {μ0 M : pr_I} {S T x : Int32} {j : Nat} : m_fs_fl28 μ0 S T (j + 1) M x = (if (m_me_r M S T) = 0 then ((m_me M S T), x) else (m_fs_fl28 μ0 S T j (m_pu (m_me M S T) S T) (x + (m_pu_r (m_me M S T) S T)))) := rfl
theorem fso_s {μ0 M : pr_I} {S T x : Int32} {j : Nat} : m_fs_ok28 μ0 S T (j + 1) M x = ((m_me_ok M S T) ∧ (if (m_me_r M S T) = 0 then True else ((m_pu_ok (m_me M S T) S T) ∧ (m_fs_ok28 μ0 S T j (m_pu (m_me M S T) S T) (x + (m_pu_r (m_me M S T) S T)))))) := rfl
theorem fi20_s {φ0 : pr_I} {S T : Int32} {k : Nat} : fl_fi_it20 φ0 τ nl S T (k + 1) = (if (fl_is_r (fl_fi_it20 φ0 τ nl S T k).1 T) = 0 then ((fl_fi_it20 φ0 τ nl S T k).1, ((fl_fi_it20 φ0 τ nl S T k).2)) else ((fl_se (fl_gr (fl_fi_it20 φ0 τ nl S T k).1 τ nl S T) τ nl S), (((fl_fi_it20 φ0 τ nl S T k).2) + (fl_gr_r (fl_fi_it20 φ0 τ nl S T k).1 τ nl S T)))) := by
  rw [fl_fi_it20]
theorem fl_loop {φ0 μ0 : pr_I} (hs : s < nn) (ht : t < nn) (hst : s ≠ t) : ∀ (j k : Nat) (Q M : pr_I) (x : Int32), fl_fi_it20 φ0 τ nl (nI s) (nI t) k = (fl_se Q τ nl (nI s), x) → BL τ M nl nn → FR Q M nl → FI Q nl → mln M = nl → mnn M = nn → x.toInt = Vf τ s (Q 2) nl → 0 ≤ x.toInt → (24001 : Int) ≤ Vf τ s (Q 2) nl + (j : Int) → m_fs_ok28 μ0 (nI s) (nI t) j M x ∧ ∃ k', k' ≤ k + j ∧ fl_is_r (fl_fi_it20 φ0 τ nl (nI s) (nI t) k').1 (nI t) = 0 ∧ (fl_fi_it20 φ0 τ nl (nI s) (nI t) k').2 = (m_fs_fl28 μ0 (nI s) (nI t) j M x).2 ∧ 0 ≤ ((m_fs_fl28 μ0 (nI s) (nI t) j M x).2).toInt ∧ ∀ y, y < nn → (bit ((fl_fi_it20 φ0 τ nl (nI s) (nI t) k').1 0 4) y = true ∧ (m_fs_fl28 μ0 (nI s) (nI t) j M x).1 15 y = 1) ∨ (bit ((fl_fi_it20 φ0 τ nl (nI s) (nI t) k').1 0 4) y = false ∧ (m_fs_fl28 μ0 (nI s) (nI t) j M x).1 15 y = 0)
  | 0, k, Q, M, x, hk, B, F, I, hl, hnn, hx, hx0, hj => by
    have := I.le (τ := τ) (s := s)
    have := B.1
    omega
  | j + 1, k, Q, M, x, hk, B, F, I, hl, hnn, hx, hx0, hj => by
    obtain ⟨T1, T2, T3, T4⟩ := fl_turn B F I hl hnn hs ht hst
    have lim := I.le (τ := τ) (s := s)
    have h24 := B.1
    rw [fs28_s, fso_s]
    by_cases c : m_me_r M (nI s) (nI t) = 0
    · rw [if_pos c, if_pos c]
      refine ⟨⟨T1, trivial⟩, k, by omega, ?_, ?_, hx0, fun y hy => ?_⟩
      · rw [hk]; exact T3.mpr c
      · rw [hk]
      · rw [hk]; exact T2 y hy
    · rw [if_neg c, if_neg c]
      obtain ⟨U1, U2, U3, U4, U5, U6, U7⟩ := T4 c
      have m1 : m_pu (m_me M (nI s) (nI t)) (nI s) (nI t) 1 = M 1 := (fr_m_pu (by decide)).trans (fr_m_me (by decide))
      have hk2 : fl_fi_it20 φ0 τ nl (nI s) (nI t) (k + 1) = (fl_se (fl_gr (fl_se Q τ nl (nI s)) τ nl (nI s) (nI t)) τ nl (nI s), x + m_pu_r (m_me M (nI s) (nI t)) (nI s) (nI t)) := by
        rw [fi20_s, hk]
        dsimp only
        rw [if_neg (fun z => c (T3.mp z)), U2]
      have ex : (x + m_pu_r (m_me M (nI s) (nI t)) (nI s) (nI t)).toInt = x.toInt + (m_pu_r (m_me M (nI s) (nI t)) (nI s) (nI t)).toInt := i_add (by omega) (by omega)
      obtain ⟨V1, k', V2, V3⟩ := fl_loop (φ0 := φ0) (μ0 := μ0) hs ht hst j (k + 1) (fl_gr (fl_se Q τ nl (nI s)) τ nl (nI s) (nI t)) (m_pu (m_me M (nI s) (nI t)) (nI s) (nI t)) (x + m_pu_r (m_me M (nI s) (nI t)) (nI s) (nI t)) hk2 (by unfold BL; rw [m1]; exact B) U3 U4 (by unfold mln; rw [m1]; exact hl) (by unfold mnn; rw [m1]; exact hnn) (by rw [ex, U7]; omega) (by omega) (by omega)
      exact ⟨⟨T1, U1, V1⟩, k', by omega, V3⟩
/-- all of it: equal flows, and the nodes that are met at last -/
theorem fs2_0 {S T : Int32} : ∀ n x, x < n → m_fs_it2 μ S T n 12 x = 0
  | 0, _, h => absurd h (by omega)
  | n + 1, x, h => by
    rw [m_fs_it2]
    by_cases e : x = n
    · rw [e, pr_upe]
    · rw [pr_upk e]; exact fs2_0 n x (by omega)
theorem fl_all (B : BL τ μ nl nn) (hR : ∀ k, k < nl → φ 1 k = μ 11 k ∧ (φ 1 k).toInt ≤ 1000 ∧ -1000000 ≤ (φ 1 k).toInt) (hl : mln μ = nl) (hnn : mnn μ = nn) (hs : s < nn) (ht : t < nn) (hst : s ≠ t) : m_fs_ok μ (nI s) (nI t) ∧ fl_fi_r φ τ nl (nI s) (nI t) = m_fs_r μ (nI s) (nI t) ∧ 0 ≤ (m_fs_r μ (nI s) (nI t)).toInt ∧ ∀ y, y < nn → (bit (fl_fi φ τ nl (nI s) (nI t) 0 4) y = true ∧ m_fs μ (nI s) (nI t) 15 y = 1) ∨ (bit (fl_fi φ τ nl (nI s) (nI t) 0 4) y = false ∧ m_fs μ (nI s) (nI t) 15 y = 0) := by
  have h24 := B.1
  have z0 : (0 : Int32).toInt = 0 := rfl
  have m1 : m_fs_it2 μ (nI s) (nI t) (mln μ) 1 = μ 1 := fr_m_fs_it2 (by decide)
  have m11 : m_fs_it2 μ (nI s) (nI t) (mln μ) 11 = μ 11 := fr_m_fs_it2 (by decide)
  have q1 : pr_row φ 2 (fl_row (0 : Int32) (φ 2) 24) 1 = φ 1 := pr_row_ne (by decide)
  have q2 : ∀ k, k < nl → pr_row φ 2 (fl_row (0 : Int32) (φ 2) 24) 2 k = 0 := fun k hk => by
    show (if (2 : Nat) = 2 then fl_row (0 : Int32) (φ 2) 24 else φ 2) k = 0
    rw [if_pos rfl]
    show (if k < 24 then (0 : Int32) else φ 2 k) = 0
    rw [if_pos (by omega)]
  have v0 : Vf τ s (pr_row φ 2 (fl_row (0 : Int32) (φ 2) 24) 2) nl = 0 := Vf_0 nl q2
  obtain ⟨L1, k', L2, L3, L4, L5, L6⟩ := fl_loop (τ := τ) (nl := nl) (φ0 := φ) (μ0 := μ) hs ht hst (sl 24001) 0 (pr_row φ 2 (fl_row (0 : Int32) (φ 2) 24)) (m_fs_it2 μ (nI s) (nI t) (mln μ)) 0 rfl (by unfold BL; rw [m1]; exact B) (fun k hk => ⟨by rw [q1, m11]; exact (hR k hk).1, by rw [q2 k hk, fs2_0 _ _ (by omega)]⟩) (fun k hk => by rw [q2 k hk, q1, z0]; exact ⟨Int.le_refl _, Or.inl rfl, (hR k hk).2⟩) ((congrArg (fun f : Nat → Int32 => (f 7).toNatClampNeg) m1).trans hl) ((congrArg (fun f : Nat → Int32 => (f 6).toNatClampNeg) m1).trans hnn) (by rw [v0, z0]) (by decide) (by rw [v0, sl_eq 24001]; omega)
  have st : ∀ N, k' ≤ N → fl_fi_it20 φ τ nl (nI s) (nI t) N = fl_fi_it20 φ τ nl (nI s) (nI t) k' := fun N hN => by
    have := st_fl_fi_it20_32 (σ := φ) (τ := τ) (nl := nl) (s := nI s) (t := nI t) L3 (N - k')
    rw [show k' + (N - k') = N by omega] at this
    exact this
  have e := st (sl 1000000) (by rw [sl_eq 1000000]; rw [sl_eq 24001] at L2; omega)
  refine ⟨L1, ?_, L5, fun y hy => ?_⟩
  · unfold fl_fi_r m_fs_r
    rw [e]; exact L4
  · unfold fl_fi m_fs
    rw [e]; exact L6 y hy
/-! the rooms -/
theorem av_room : ∀ n k, k < n → fl_av_it2 φ τ nl n 1 k = (if (if lk_up τ k = 0 then (0 : Int32) else 1) = 0 then (0 : Int32) else (lk_av τ k))
  | 0, _, h => absurd h (by omega)
  | n + 1, k, h => by
    rw [fl_av_it2]
    by_cases e : k = n
    · rw [e, pr_upe]
    · rw [pr_upk e]; exact av_room n k (by omega)
theorem lr_room : ∀ n k, k < n → m_lr_it2 μ n 11 k = (if (μ 1 (96 + 7 * k + 5)) = (1 : Int32) then (m_av_r μ (mtn μ) k) else (0 : Int32))
  | 0, _, h => absurd h (by omega)
  | n + 1, k, h => by
    have e1 : m_lr_it2 μ n 1 = μ 1 := fr_m_lr_it2 (by decide)
    rw [m_lr_it2]
    by_cases e : k = n
    · rw [e, pr_upe, av_congr e1]
    · rw [pr_upk e]; exact lr_room n k (by omega)
theorem one_room {u : Int32} : ∀ n k, k < n → fl_one_it2 φ u n 1 k = ((u >>> ((nI k) &&& 31)) &&& (1 : Int32))
  | 0, _, h => absurd h (by omega)
  | n + 1, k, h => by
    rw [fl_one_it2]
    by_cases e : k = n
    · rw [e, pr_upe]
    · rw [pr_upk e]; exact one_room n k (by omega)
theorem dj_room {u : Int32} : ∀ n k, k < 24 → k < n → mf_disjointPaths_it22 μ s t u n 11 k = (if bit (m_lw_r (pr_up μ 0 6 (0 : Int32)) (mtn μ) (mln μ) u) k = true then (1 : Int32) else (0 : Int32))
  | 0, _, _, h => absurd h (by omega)
  | n + 1, k, h24, h => by
    rw [mf_disjointPaths_it22]
    by_cases e : k = n
    · rw [e, pr_upe]
      have hb := has_bit (b := mf_disjointPaths_it22 μ s t u n) (v := m_lw_r (pr_up μ 0 6 (0 : Int32)) (mtn μ) (mln μ) u) (k := n) (by omega)
      by_cases c : bit (m_lw_r (pr_up μ 0 6 (0 : Int32)) (mtn μ) (mln μ) u) n = true
      · rw [if_pos c, if_neg (fun z => (hb.mp z) c)]
      · rw [if_neg c, if_pos (hb.mpr c)]
    · rw [pr_upk e]; exact dj_room n k h24 (by omega)
end FC
section FD
variable {τ φ μ : pr_I} {s t : Nat}
theorem av_bd (h : WT τ μ) (tx : Tx τ) {k : Nat} (hk : k < lkn τ) : (lk_av τ k).toInt ≤ 1000 ∧ -1000000 ≤ (lk_av τ k).toInt := by
  have h5 := wI_n5 h.1.cr.w
  have bd := prom_bd (μ := μ) (n := tkn τ) (x := nI k) (tkn τ) h5 (fun t ht => by
    rw [← h.1.cr.tick ht (c := 2) (by decide)]; exact tx.1 t ht)
  rw [← h.1.cr.pr hk] at bd
  have cb := (h.1.lk k hk).2.2.2.2.2
  unfold lk_av
  rw [i_sub (by omega) (by omega)]
  omega
theorem lr_same (h : WT τ μ) (tx : Tx τ) {k : Nat} (hk : k < lkn τ) : fl_av φ τ (lkn τ) 1 k = m_lr (pr_up μ 0 6 (0 : Int32)) 11 k ∧ (fl_av φ τ (lkn τ) 1 k).toInt ≤ 1000 ∧ -1000000 ≤ (fl_av φ τ (lkn τ) 1 k).toInt := by
  have h24 := wI_nl24 h.1.cr.w
  have bd := av_bd h tx hk
  have av : lk_av τ k = m_av_r (pr_up μ 0 6 (0 : Int32)) (mtn μ) k := eq_linkValue h hk (c := 6) (by decide)
  have up : (pr_up μ 0 6 (0 : Int32)) 1 (96 + 7 * k + 5) = lk_up τ k := (h.1.mu.up k hk).symm
  have z0 : (0 : Int32).toInt = 0 := rfl
  unfold fl_av m_lr
  rw [av_room _ k hk, lr_room _ k (by rw [h.1.mu.cr.ln]; exact hk), up, show mtn (pr_up μ 0 6 (0 : Int32)) = mtn μ from h.1.mu.cr.tn.trans h.1.cr.tn.symm, ← av]
  rcases up_01 (σ := τ) (k := k) (by omega) with c | c
  · rw [if_pos c, if_pos rfl, c, if_neg (by decide), z0]
    exact ⟨rfl, by decide, by decide⟩
  · rw [c, if_neg (show ¬ (1 : Int32) = 0 by decide), if_neg (show ¬ (1 : Int32) = 0 by decide), if_pos rfl]
    exact ⟨rfl, bd⟩
theorem WT.lr (h : WT τ μ) : WT τ (m_lr (pr_up μ 0 6 (0 : Int32))) := h.any (mI_k11 h.1.mu.cr.m (fun q => fr_m_lr q)) ((fr_m_lr (by decide)).trans (pr_up_ne (by decide)))
theorem WT.fs {X : pr_I} (h : WT τ X) (hs : s < ndn τ) (ht : t < ndn τ) : WT τ (m_fs X (nI s) (nI t)) := by
  have hnn : ndn τ ≤ 12 := Nat.le_of_lt_succ (vp_in_lt (h.1.cr.w 0 6 13 rfl))
  exact h.any (mI_m_fs h.1.cr.m (nI_vin (by omega) (by decide)) (nI_vin (by omega) (by decide))) (fr_m_fs (by decide))
theorem eq_greatestFlow (h : WT τ μ) (tx : Tx τ) (hs : s < ndn τ) (ht : t < ndn τ) (hst : s ≠ t) : fx_greatestFlow_r φ τ s t = mf_greatestFlow_r μ s t ∧ m_fs_ok (m_lr (pr_up μ 0 6 (0 : Int32))) (nI s) (nI t) ∧ WT τ (mf_greatestFlow μ s t) := by
  have hx := h.lr
  obtain ⟨F1, F2, _, _⟩ := fl_all (φ := fl_av φ τ (lkn τ)) hx.1.bl (fun k hk => lr_same h tx hk) hx.1.cr.ln hx.1.cr.nn hs ht hst
  exact ⟨F2, F1, hx.fs hs ht⟩
theorem cut_Y {R2 R3 : Bool} {S : Int32} {j : Nat} : bit (if (if (if R2 = true then (1 : Int32) else 0) = 0 then (0 : Int32) else (if (if R3 = true then (1 : Int32) else 0) = 0 then (1 : Int32) else (0 : Int32))) = 0 then (0 : Int32) else S) j = ((R2 && !R3) && bit S j) := by
  cases R2 <;> cases R3 <;> simp [bit_0]
theorem cut_X {U R2 R3 : Bool} {M2 M3 S : Int32} {j : Nat} (h2 : (R2 = true ∧ M2 = 1) ∨ (R2 = false ∧ M2 = 0)) (h3 : (R3 = true ∧ M3 = 1) ∨ (R3 = false ∧ M3 = 0)) : bit (if (if U = true then (1 : Int32) else 0) = (1 : Int32) then (if M2 = 0 then (0 : Int32) else (if M3 = 0 then S else (0 : Int32))) else (0 : Int32)) j = (U && ((R2 && !R3) && bit S j)) := by
  rcases h2 with ⟨rfl, rfl⟩ | ⟨rfl, rfl⟩ <;> rcases h3 with ⟨rfl, rfl⟩ | ⟨rfl, rfl⟩ <;> cases U <;> simp [bit_0]
theorem cut_B : ∀ {c u r : Bool}, (c && u || u && (r && true)) = ((c || r && true) && u) := by decide
theorem cut_B0 : ∀ {c u v r : Bool}, (c && u || v && (r && false)) = ((c || r && false) && u) := by decide
theorem cut_it (h : WT τ μ) (tx : Tx τ) (hs : s < ndn τ) (ht : t < ndn τ) (hst : s ≠ t) : ∀ n, n ≤ lkn τ → ∀ j, j < 32 → bit (mf_smallestCut_it28 μ s t n) j = bit (fx_smallestCut_it42 φ τ s t n &&& τ 1 7) j
  | 0, _, j, _ => by
    show bit 0 j = bit (0 &&& τ 1 7) j
    rw [bit_and, bit_0]; rfl
  | n + 1, hn, j, hj => by
    have ih := cut_it h tx hs ht hst n (by omega) j hj
    have hx := h.lr
    have h24 := wI_nl24 h.1.cr.w
    have hnn : ndn τ ≤ 12 := Nat.le_of_lt_succ (vp_in_lt (h.1.cr.w 0 6 13 rfl))
    obtain ⟨_, _, F3, F4⟩ := fl_all (φ := fl_av φ τ (lkn τ)) hx.1.bl (fun k hk => lr_same h tx hk) hx.1.cr.ln hx.1.cr.nn hs ht hst
    obtain ⟨v2, v3, _, e2, e3, _⟩ := h.1.bl.2.2 n (by omega)
    have l2 := vp_in_lt v2
    have l3 := vp_in_lt v3
    have f2 : τ 2 n = nI (τ 2 n).toNatClampNeg := vp_nI v2 (by omega)
    have f3 : τ 3 n = nI (τ 3 n).toNatClampNeg := vp_nI v3 (by omega)
    have up := h.1.up n (by omega)
    have z1 : ¬ (1 : Int32) = 0 := by decide
    have nneg : ¬ m_fs_r (m_lr (pr_up μ 0 6 (0 : Int32))) (nI s) (nI t) < 0 := fun z => by
      have := lt_i.mp z
      rw [show (0 : Int32).toInt = 0 from rfl] at this; omega
    rw [mf_smallestCut_it28, fx_smallestCut_it42, bit_or, bit_and, bit_or, ih, bit_and, if_neg nneg, ← up, ← e2, ← e3, lk_bit (by omega)]
    have g2 := F4 _ l2
    have g3 := F4 _ l3
    have i2 : fl_is_r (fl_fi (fl_av φ τ (lkn τ)) τ (lkn τ) (nI s) (nI t)) (τ 2 n) = if bit (fl_fi (fl_av φ τ (lkn τ)) τ (lkn τ) (nI s) (nI t) 0 4) (τ 2 n).toNatClampNeg = true then 1 else 0 := by
      rw [← is_bit (by omega), ← f2]
    have i3 : fl_is_r (fl_fi (fl_av φ τ (lkn τ)) τ (lkn τ) (nI s) (nI t)) (τ 3 n) = if bit (fl_fi (fl_av φ τ (lkn τ)) τ (lkn τ) (nI s) (nI t) 0 4) (τ 3 n).toNatClampNeg = true then 1 else 0 := by
      rw [← is_bit (by omega), ← f3]
    rw [i2, i3, cut_X g2 g3, cut_Y, bit_sh1 (by omega) hj]
    by_cases e : j = n
    · rw [e, decide_eq_true rfl]
      exact cut_B
    · rw [decide_eq_false e]
      exact cut_B0
theorem eq_smallestCut (h : WT τ μ) (tx : Tx τ) (hs : s < ndn τ) (ht : t < ndn τ) (hst : s ≠ t) : fx_smallestCut_r φ τ s t = mf_smallestCut_r μ s t ∧ m_fs_ok (m_lr (pr_up μ 0 6 (0 : Int32))) (nI s) (nI t) ∧ WT τ (mf_smallestCut μ s t) := by
  obtain ⟨_, F1, F2⟩ := eq_greatestFlow (φ := φ) h tx hs ht hst
  refine ⟨?_, F1, F2⟩
  unfold fx_smallestCut_r mf_smallestCut_r
  rw [h.1.cr.ln]
  exact (bit_ext (fun j hj => cut_it h tx hs ht hst _ (Nat.le_refl _) j hj)).symm
theorem eq_disjointPaths (h : WT τ μ) {u : Int32} (hs : s < ndn τ) (ht : t < ndn τ) (hst : s ≠ t) : fx_disjointPaths_r φ τ s t u = mf_disjointPaths_r μ s t u ∧ m_fs_ok (mf_disjointPaths_it22 μ s t u (mln μ)) (nI s) (nI t) ∧ WT τ (mf_disjointPaths μ s t u) := by
  have h24 := wI_nl24 h.1.cr.w
  have z1 : (1 : Int32).toInt = 1 := rfl
  have z0 : (0 : Int32).toInt = 0 := rfl
  have hx : WT τ (mf_disjointPaths_it22 μ s t u (mln μ)) := h.any (mI_k11 h.1.mu.cr.m (fun q => fr_mf_disjointPaths_it22 q)) ((fr_mf_disjointPaths_it22 (by decide)).trans (pr_up_ne (by decide)))
  have hu := HU.wide h (u := u)
  obtain ⟨F1, F2, _, _⟩ := fl_all (φ := fl_one φ (lk_wu τ u (lkn τ) &&& τ 1 7)) hx.1.bl (fun k hk => by
    unfold fl_one
    rw [sl_eq 24, one_room 24 k (by omega), dj_room _ k (by omega) (by rw [h.1.cr.ln]; exact hk), bit_eq (by omega), hu.bits h24 hk]
    refine ⟨rfl, ?_, ?_⟩
    · split
      · rw [z1]; decide
      · rw [z0]; decide
    · split
      · rw [z1]; decide
      · rw [z0]; decide) hx.1.cr.ln hx.1.cr.nn hs ht hst
  exact ⟨F2, F1, hx.fs hs ht⟩
end FD
