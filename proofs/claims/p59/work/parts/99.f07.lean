/-! WHAT WAS MADE IS A WORLD -/
section MB
variable {T : pr_T} {a k n m j : Nat} {v : Option Nat}
theorem mm_a (ha : a < T.1) (hj : j ≠ k) : (pr_upr (mm_T T n m) a k v).2.2 a j = T.2.2 a j := (if_neg (fun z => hj z.2)).trans ((if_neg (by omega)).trans (if_neg (by omega)))
theorem mm_o (ha : a < T.1) (hj : j < n) : (pr_upr (mm_T T n m) a k v).2.2 T.1 j = some (T.1 + 1 + j) := (if_neg (fun z => by omega)).trans ((if_pos rfl).trans (if_pos hj))
theorem mm_ko : (pr_upr (mm_T T n m) a k v).2.1 T.1 = (24, n) := if_pos rfl
theorem mm_kr (hj : j < n) : (pr_upr (mm_T T n m) a k v).2.1 (T.1 + 1 + j) = (20, m) := (if_neg (by omega)).trans (if_pos ⟨by omega, by omega⟩)
theorem al_kr {t i : Nat} (hj : j < i) : (alT T t a k n i).2.1 (T.1 + j) = (t, n) := if_pos ⟨by omega, by omega⟩
theorem al_r {t i : Nat} (h1 : k ≤ j) (h2 : j < k + i) : (alT T t a k n i).2.2 a j = some (T.1 + (j - k)) := if_pos ⟨rfl, h1, h2⟩
theorem al_ra {t i : Nat} (ha : a < T.1) (h : j < k ∨ k + i ≤ j) : (alT T t a k n i).2.2 a j = T.2.2 a j := (if_neg (fun z => by omega)).trans (if_neg (by omega))
end MB
/-- the requests' cells -/
theorem x4_cells {T : pr_T} {a : Nat} (hT : T.1 = a + 1) : (∀ j, j < 15 → (tX4_init T a).2.1 (a + 1 + j) = (20, 40)) ∧ (tX4_init T a).2.1 (a + 16) = (24, 40) ∧ (∀ j, j < 40 → (tX4_init T a).2.1 (a + 17 + j) = (20, 11)) ∧ (tX4_init T a).2.1 (a + 57) = (24, 40) ∧ (∀ j, j < 40 → (tX4_init T a).2.1 (a + 58 + j) = (20, 11)) ∧
    (∀ j, j < 15 → (tX4_init T a).2.2 a j = some (a + 1 + j)) ∧ (tX4_init T a).2.2 a 15 = some (a + 16) ∧ (tX4_init T a).2.2 a 16 = some (a + 57) ∧ (∀ j, j < 40 → (tX4_init T a).2.2 (a + 16) j = some (a + 17 + j)) ∧ ∀ j, j < 40 → (tX4_init T a).2.2 (a + 57) j = some (a + 58 + j) := by
  obtain ⟨U, hU⟩ : ∃ U, U = alT T 20 a 0 40 15 := ⟨_, rfl⟩
  have u1 : U.1 = a + 16 := by rw [hU]; show T.1 + 15 = a + 16; omega
  obtain ⟨V, hV⟩ : ∃ V, V = pr_upr (mm_T U 40 11) a 15 (some U.1) := ⟨_, rfl⟩
  have v1 : V.1 = a + 57 := by rw [hV]; show U.1 + 1 + 40 = a + 57; omega
  have e : tX4_init T a = pr_upr (mm_T V 40 11) a 16 (some V.1) := by rw [hV, hU]; rfl
  obtain ⟨m1, m2, m3⟩ := mm_kp (T := V) (a := a) (k := 16) (n := 40) (m := 11) (v := some V.1)
  obtain ⟨l1, l2, l3⟩ := mm_kp (T := U) (a := a) (k := 15) (n := 40) (m := 11) (v := some U.1)
  rw [← hV] at l1 l2 l3
  rw [e]
  refine ⟨fun j hj => ?_, ?_, fun j hj => ?_, ?_, fun j hj => ?_, fun j hj => ?_, ?_, ?_, fun j hj => ?_, fun j hj => ?_⟩
  · rw [m2 _ (by omega), l2 _ (by omega), hU, ← hT]
    exact al_kr hj
  · rw [m2 _ (by omega), hV, ← u1]; exact mm_ko
  · rw [m2 _ (by omega), hV, show a + 17 + j = U.1 + 1 + j by omega]; exact mm_kr hj
  · rw [← v1]; exact mm_ko
  · rw [show a + 58 + j = V.1 + 1 + j by omega]; exact mm_kr hj
  · rw [mm_a (by omega) (by omega), hV, mm_a (by omega) (by omega), hU, al_r (by omega) (by omega)]
    congr 1
    omega
  · rw [mm_a (by omega) (by omega), hV]
    refine (if_pos ⟨rfl, rfl⟩).trans ?_
    rw [u1]
  · refine (if_pos ⟨rfl, rfl⟩).trans ?_
    rw [v1]
  · rw [m3 _ (by omega) (by omega), hV, ← u1, mm_o (by omega) hj]
    congr 1
    omega
  · rw [← v1, mm_o (by omega) hj]
    congr 1
    omega
/-- a list of cells: an object with i arrays behind it -/
theorem al_cells {T : pr_T} {t a k n i : Nat} (hT : T.1 = a + 1) : (∀ j, j < i → (alT T t a k n i).2.1 (a + 1 + j) = (t, n)) ∧ ∀ j, k ≤ j → j < k + i → (alT T t a k n i).2.2 a j = some (a + 1 + (j - k)) := by
  refine ⟨fun j hj => ?_, fun j h1 h2 => ?_⟩
  · rw [← hT]; exact al_kr hj
  · rw [al_r h1 h2, hT]
theorem sb_in {T : pr_T} {ci k w : Nat} {tf : pr_T → Nat → pr_T} : (∀ b, (sb T ci k w tf).2.1 b = (tf (pr_new T ci 0) T.1).2.1 b) ∧ ∀ b, b ≠ w → (sb T ci k w tf).2.2 b = (tf (pr_new T ci 0) T.1).2.2 b :=
  ⟨fun b => rfl, fun b hb => funext fun j => if_neg (fun z => hb z.1)⟩
