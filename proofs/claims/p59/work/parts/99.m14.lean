/-! FLOWS: the last search is closed -/
section SCL
variable {τ φ μ : pr_I} {nl nn s : Nat}
theorem ac_row {a : pr_I} (a1 : a 1 = φ 1) (a2 : a 2 = φ 2) {k : Nat} {x : Int32} : fl_ac_r a τ nl k x = fl_ac_r φ τ nl k x := by
  unfold fl_ac_r
  rw [a1, a2]
theorem se_in2 (B : BL τ μ nl nn) (F : FR φ μ nl) {a b σ0 : pr_I} {tl k : Nat} {pos : Nat → Nat} {S S' T : Int32} (h : SR τ φ nl nn s tl a b pos) (a1 : a 1 = φ 1) (a2 : a 2 = φ 2) (hk : k < tl) : ∀ k1, k1 ≤ nl → ∃ tl' pos', tl ≤ tl' ∧ SR τ φ nl nn s tl' (fl_se_it35 σ0 a τ nl S k (nI tl) k1).1 (m_me_it54 μ b S' T k (nI tl) k1).1 pos' ∧ (fl_se_it35 σ0 a τ nl S k (nI tl) k1).2 = nI tl' ∧ (m_me_it54 μ b S' T k (nI tl) k1).2 = nI tl' ∧
    (∀ i, i < tl → (fl_se_it35 σ0 a τ nl S k (nI tl) k1).1 3 i = a 3 i) ∧ (∀ x, x < nn → bit (a 0 4) x = true → bit ((fl_se_it35 σ0 a τ nl S k (nI tl) k1).1 0 4) x = true) ∧
    (∀ x, x < nn → bit ((fl_se_it35 σ0 a τ nl S k (nI tl) k1).1 0 4) x = true → bit (a 0 4) x = true ∨ ∃ i, tl ≤ i ∧ i < tl' ∧ (fl_se_it35 σ0 a τ nl S k (nI tl) k1).1 3 i = nI x) ∧
    (∀ j, j < k1 → ∀ y, y < nn → fl_ac_r φ τ nl j (a 3 k) = nI y → bit ((fl_se_it35 σ0 a τ nl S k (nI tl) k1).1 0 4) y = true)
  | 0, _ => ⟨tl, pos, Nat.le_refl _, h, rfl, rfl, fun _ _ => rfl, fun _ _ z => z, fun _ _ z => Or.inl z, fun j hj => absurd hj (Nat.not_lt_zero j)⟩
  | k1 + 1, hk1 => by
    obtain ⟨tl', pos', i1, i2, i3, i4, c1, c2, c3, c4⟩ := se_in2 B F (σ0 := σ0) (S := S) (S' := S') (T := T) h a1 a2 hk k1 (by omega)
    have hn := B.2.1
    have r1 : (fl_se_it35 σ0 a τ nl S k (nI tl) k1).1 1 = φ 1 := (fr_fl_se_it35 (by decide)).trans a1
    have r2 : (fl_se_it35 σ0 a τ nl S k (nI tl) k1).1 2 = φ 2 := (fr_fl_se_it35 (by decide)).trans a2
    obtain ⟨q, q1, q2, q3, q4, q5⟩ := i2.2.2.1 k (by omega)
    have ea : a 3 k = nI q := (c1 k hk).symm.trans q2
    have tn : tl' ≤ nn := by rw [← i2.2.1]; exact cn_le _
    rw [ea] at c4 ⊢
    rw [fl_se_it35, m_me_it54, q2, q3, i3, i4, ← ac_eq B F r1 r2 (x := nI q) (show k1 < nl by omega)]
    have er : ∀ j x, fl_ac_r (fl_se_it35 σ0 a τ nl S k (nI tl) k1).1 τ nl j x = fl_ac_r φ τ nl j x := fun j x => ac_row r1 r2
    generalize (fl_se_it35 σ0 a τ nl S k (nI tl) k1).1 = A at *
    generalize (m_me_it54 μ b S' T k (nI tl) k1).1 = C at *
    rcases ac_cases B r1 r2 (k := k1) (q := q) (by omega) q1 with d | ⟨y, y1, y2, y3⟩
    · rw [if_pos d, if_pos d]
      refine ⟨tl', pos', i1, i2, rfl, rfl, c1, c2, c3, fun j hj y hy e => ?_⟩
      by_cases z : j = k1
      · subst z
        rw [er] at d
        rw [d] at e
        exact absurd e.symm (nI_m1n (by omega))
      · exact c4 j (by omega) y hy e
    · have hit : ∀ j, j < k1 + 1 → ∀ w, w < nn → fl_ac_r φ τ nl j (nI q) = nI w → (j < k1 ∨ w = y) := fun j hj w hw e => by
        by_cases z : j = k1
        · subst z
          rw [← er, y2] at e
          exact Or.inr ((nI_eq (by omega) (by omega)).mp e).symm
        · exact Or.inl (by omega)
      rw [y2, if_neg (nI_m1n (by omega)), if_neg (nI_m1n (by omega)), is_bit (show y < 32 by omega), nI_clamp (show y < 2 ^ 31 by omega)]
      rcases i2.1 y y1 with ⟨m1, m2⟩ | ⟨m1, m2⟩
      · rw [m1, m2, if_pos rfl, if_neg (by decide), if_neg (by decide)]
        refine ⟨tl', pos', i1, i2, rfl, rfl, c1, c2, c3, fun j hj w hw e => ?_⟩
        rcases hit j hj w hw e with z | z
        · exact c4 j z w hw e
        · rw [z]; exact m1
      · have rm := i2.room y1 m1
        rw [m1, m2, if_neg (show ¬ false = true by decide), if_pos rfl, if_pos rfl, if_neg (show ¬ (12 : Int32) ≤ nI tl' from fun z => by have := (nI_leI (a := 12) (by decide) (by omega)).mp z; omega), nI_clamp (show tl' < 2 ^ 31 by omega)]
        have eb : ∀ i, i < 32 → bit (pr_up (pr_up (pr_up A 0 4 (A 0 4 ||| ((1 : Int32) <<< (nI y &&& 31)))) 4 y (nI k1)) 3 tl' (nI y) 0 4) i = if i = y then true else bit (A 0 4) i := fun i hi => by
          rw [pr_upv (by decide), pr_upv (by decide), pr_upe]; exact bit_on (by omega) hi
        have e3 : ∀ i, pr_up (pr_up (pr_up A 0 4 (A 0 4 ||| ((1 : Int32) <<< (nI y &&& 31)))) 4 y (nI k1)) 3 tl' (nI y) 3 i = if i = tl' then nI y else A 3 i := fun i => by
          by_cases z : i = tl'
          · rw [if_pos z, z, pr_upe]
          · rw [if_neg z, pr_upk z, pr_upv (by decide), pr_upv (by decide)]
        refine ⟨tl' + 1, _, by omega, i2.add hn y1 m1 (by omega) q1 q4 y3, nI_1 _, nI_1 _, fun i hi => ?_, fun x hx z => ?_, fun x hx z => ?_, fun j hj w hw e => ?_⟩
        · dsimp only
          rw [e3, if_neg (by omega)]; exact c1 i hi
        · dsimp only
          rw [eb x (by omega)]
          by_cases w : x = y
          · rw [if_pos w]
          · rw [if_neg w]; exact c2 x hx z
        · dsimp only at z ⊢
          rw [eb x (by omega)] at z
          by_cases w : x = y
          · exact Or.inr ⟨tl', i1, by omega, by rw [e3, if_pos rfl, w]⟩
          · rw [if_neg w] at z
            rcases c3 x hx z with g | ⟨i, g1, g2, g3⟩
            · exact Or.inl g
            · exact Or.inr ⟨i, g1, by omega, by rw [e3, if_neg (by omega)]; exact g3⟩
        · dsimp only
          rw [eb w (by omega)]
          rcases hit j hj w hw e with z | z
          · by_cases w' : w = y
            · rw [if_pos w']
            · rw [if_neg w']; exact c4 j z w hw e
          · rw [if_pos z]
theorem se_out2 (B : BL τ μ nl nn) (F : FR φ μ nl) (hl : mln μ = nl) (hnn : mnn μ = nn) (hs : s < nn) {T : Int32} : ∀ k, k ≤ 12 → ∃ tl pos, SR τ φ nl nn s tl (fl_se_it19 φ τ nl (nI s) k).1 (m_me_it45 μ (nI s) T k).1 pos ∧ (fl_se_it19 φ τ nl (nI s) k).2 = nI tl ∧ (m_me_it45 μ (nI s) T k).2 = nI tl ∧
    bit ((fl_se_it19 φ τ nl (nI s) k).1 0 4) s = true ∧ (∀ x, x < nn → bit ((fl_se_it19 φ τ nl (nI s) k).1 0 4) x = true → ∃ i, i < tl ∧ (fl_se_it19 φ τ nl (nI s) k).1 3 i = nI x) ∧
    ∀ i, i < k → i < tl → ∀ j, j < nl → ∀ y, y < nn → fl_ac_r φ τ nl j ((fl_se_it19 φ τ nl (nI s) k).1 3 i) = nI y → bit ((fl_se_it19 φ τ nl (nI s) k).1 0 4) y = true
  | 0, _ => by
    have hn := B.2.1
    obtain ⟨tl, pos, i1, i2, i3⟩ := se_out B F hl hnn hs (T := T) 0 (by decide)
    have e1 : (fl_se_it19 φ τ nl (nI s) 0).1 = pr_up (pr_up φ 0 4 ((1 : Int32) <<< (nI s &&& 31))) 3 0 (nI s) := rfl
    have e2 : (fl_se_it19 φ τ nl (nI s) 0).2 = nI 1 := rfl
    have tn : tl ≤ nn := by rw [← i1.2.1]; exact cn_le _
    have t1 : tl = 1 := ((nI_eq (by omega) (by omega)).mp (e2.symm.trans i2)).symm
    have bs : ∀ i, i < 32 → bit (pr_up (pr_up φ 0 4 ((1 : Int32) <<< (nI s &&& 31))) 3 0 (nI s) 0 4) i = decide (i = s) := fun i hi => by
      rw [pr_upv (by decide), pr_upe]; exact bit_sh1 (by omega) hi
    refine ⟨tl, pos, i1, i2, i3, by rw [e1, bs s (by omega)]; exact decide_eq_true rfl, fun x hx z => ⟨0, by omega, ?_⟩, fun i hi => absurd hi (Nat.not_lt_zero i)⟩
    rw [e1, bs x (by omega)] at z
    rw [e1, pr_upe, of_decide_eq_true z]
  | k + 1, hk => by
    obtain ⟨tl, pos, i1, i2, i3, d0, d1, d2⟩ := se_out2 B F hl hnn hs (T := T) k (by omega)
    have hn := B.2.1
    have tn : tl ≤ nn := by rw [← i1.2.1]; exact cn_le _
    have r1 : (fl_se_it19 φ τ nl (nI s) k).1 1 = φ 1 := (fr_fl_se_it19 (by decide)).trans ((pr_up_ne (by decide)).trans (pr_up_ne (by decide)))
    have r2 : (fl_se_it19 φ τ nl (nI s) k).1 2 = φ 2 := (fr_fl_se_it19 (by decide)).trans ((pr_up_ne (by decide)).trans (pr_up_ne (by decide)))
    rw [fl_se_it19, m_me_it45, i2, i3, hl]
    by_cases c : nI tl ≤ nI k
    · rw [if_pos c, if_pos c]
      refine ⟨tl, pos, i1, rfl, rfl, d0, d1, fun i hi ht => d2 i ?_ ht⟩
      have := (nI_leI (by omega) (by omega)).mp c
      omega
    · rw [if_neg c, if_neg c]
      have c2 : k < tl := by
        by_cases q : k < tl
        · exact q
        · exact absurd ((nI_leI (by omega) (by omega)).mpr (by omega)) c
      obtain ⟨tl', pos', j1, j2, j3, j4, g1, g2, g3, g4⟩ := se_in2 B F (σ0 := φ) (S := nI s) (S' := nI s) (T := T) i1 r1 r2 c2 nl (Nat.le_refl _)
      refine ⟨tl', pos', j2, j3, j4, g2 s hs d0, fun x hx z => ?_, fun i hi ht j hj y hy e => ?_⟩
      · dsimp only at z ⊢
        rcases g3 x hx z with w | ⟨i, w1, w2, w3⟩
        · obtain ⟨i, w1, w2⟩ := d1 x hx w
          exact ⟨i, by omega, by rw [g1 i w1]; exact w2⟩
        · exact ⟨i, w2, w3⟩
      · dsimp only at e ⊢
        by_cases z : i = k
        · subst z
          rw [g1 i c2] at e
          exact g4 j hj y hy e
        · rw [g1 i (by omega)] at e
          exact g2 y hy (d2 i (by omega) (by omega) j hj y hy e)
/-- the nodes met at last are closed -/
theorem se_clo (B : BL τ μ nl nn) (F : FR φ μ nl) (hl : mln μ = nl) (hnn : mnn μ = nn) (hs : s < nn) : bit (fl_se φ τ nl (nI s) 0 4) s = true ∧ ∀ j x y, j < nl → x < nn → y < nn → bit (fl_se φ τ nl (nI s) 0 4) x = true → Fe τ φ j y x → bit (fl_se φ τ nl (nI s) 0 4) y = true := by
  obtain ⟨tl, pos, i1, i2, i3, d0, d1, d2⟩ := se_out2 B F hl hnn hs (T := nI s) 12 (Nat.le_refl _)
  have hn := B.2.1
  have tn : tl ≤ nn := by rw [← i1.2.1]; exact cn_le _
  unfold fl_se
  rw [sl_eq 12]
  refine ⟨d0, fun j x y hj hx hy hb fe => ?_⟩
  obtain ⟨i, w1, w2⟩ := d1 x hx hb
  obtain ⟨v2, v3, _⟩ := B.2.2 j hj
  have f2 : τ 2 j = nI (bf_f τ j) := vp_nI v2 (by omega)
  have f3 : τ 3 j = nI (bf_g τ j) := vp_nI v3 (by omega)
  have l2 : bf_f τ j < nn := vp_in_lt v2
  have l3 : bf_g τ j < nn := vp_in_lt v3
  by_cases exy : x = y
  · rw [← exy]; exact hb
  · refine d2 i (by omega) w1 j hj y hy ?_
    rw [w2]
    unfold fl_ac_r
    rcases fe with ⟨e1, e2, e3⟩ | ⟨e1, e2, e3⟩
    · rw [if_pos (by rw [f2, e2]), if_neg (ni_le e3), f3, e1]
    · rw [if_neg (fun z => by rw [f2, e1] at z; exact exy ((nI_eq (by omega) (by omega)).mp z).symm), if_pos (by rw [f3, e2]), if_neg (ni_le e3), f2, e1]
end SCL
