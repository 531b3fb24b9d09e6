/-! THE REFERENCE IS MADE -/
def tX8_init (T : pr_T) (a : Nat) : pr_T := (alT (alT (alT (alT (alT (alT (alT T 20 a 0 5384 5) 23 a 5 2 1) 20 a 7 700 1) 20 a 14 12 3) 20 a 18 24 2) 20 a 20 12 2) 23 a 22 12 1)
theorem x8_ps {T : pr_T} {a : Nat} (ha : a < T.1) : ∃ R1 R2 R3 R4 R5 R6 : pr_T, R1 = alT T 20 a 0 5384 5 ∧ R2 = alT R1 23 a 5 2 1 ∧ R3 = alT R2 20 a 7 700 1 ∧ R4 = alT R3 20 a 14 12 3 ∧ R5 = alT R4 20 a 18 24 2 ∧ R6 = alT R5 20 a 20 12 2 ∧ tX8_init T a = alT R6 23 a 22 12 1 ∧ PS a 0 T R1 ∧ PS a 5 R1 R2 ∧ PS a 7 R2 R3 ∧ PS a 14 R3 R4 ∧ PS a 18 R4 R5 ∧ PS a 20 R5 R6 ∧ PS a 22 R6 (tX8_init T a) := by
  obtain ⟨R1, h1⟩ : ∃ R1, R1 = alT T 20 a 0 5384 5 := ⟨_, rfl⟩
  obtain ⟨R2, h2⟩ : ∃ R2, R2 = alT R1 23 a 5 2 1 := ⟨_, rfl⟩
  obtain ⟨R3, h3⟩ : ∃ R3, R3 = alT R2 20 a 7 700 1 := ⟨_, rfl⟩
  obtain ⟨R4, h4⟩ : ∃ R4, R4 = alT R3 20 a 14 12 3 := ⟨_, rfl⟩
  obtain ⟨R5, h5⟩ : ∃ R5, R5 = alT R4 20 a 18 24 2 := ⟨_, rfl⟩
  obtain ⟨R6, h6⟩ : ∃ R6, R6 = alT R5 20 a 20 12 2 := ⟨_, rfl⟩
  have e : tX8_init T a = alT R6 23 a 22 12 1 := by rw [h6, h5, h4, h3, h2, h1]; rfl
  have p1 : PS a 0 T R1 := by rw [h1]; exact ps_al ha
  have a1 := Nat.lt_of_lt_of_le ha p1.1
  have p2 : PS a 5 R1 R2 := by rw [h2]; exact ps_al a1
  have a2 := Nat.lt_of_lt_of_le a1 p2.1
  have p3 : PS a 7 R2 R3 := by rw [h3]; exact ps_al a2
  have a3 := Nat.lt_of_lt_of_le a2 p3.1
  have p4 : PS a 14 R3 R4 := by rw [h4]; exact ps_al a3
  have a4 := Nat.lt_of_lt_of_le a3 p4.1
  have p5 : PS a 18 R4 R5 := by rw [h5]; exact ps_al a4
  have a5 := Nat.lt_of_lt_of_le a4 p5.1
  have p6 : PS a 20 R5 R6 := by rw [h6]; exact ps_al a5
  have a6 := Nat.lt_of_lt_of_le a5 p6.1
  have p7 : PS a 22 R6 (tX8_init T a) := by rw [e]; exact ps_al a6
  exact ⟨R1, R2, R3, R4, R5, R6, h1, h2, h3, h4, h5, h6, e, p1, p2, p3, p4, p5, p6, p7⟩
theorem made_Mo {T : pr_T} {m : Nat} (hT : T.1 = m + 1) (ham : T.2.1 m = (8, 0)) : pr_Mo (tX8_init T m) m ∧ (tX8_init T m).1 = m + 16 ∧ PS m 0 T (tX8_init T m) := by
  obtain ⟨R1, R2, R3, R4, R5, R6, h1, h2, h3, h4, h5, h6, e, p1, p2, p3, p4, p5, p6, p7⟩ := x8_ps (T := T) (a := m) (by omega)
  have s1 : R1.1 = m + 6 := by rw [h1]; show T.1 + 5 = _; omega
  have s2 : R2.1 = m + 7 := by rw [h2]; show R1.1 + 1 = _; omega
  have s3 : R3.1 = m + 8 := by rw [h3]; show R2.1 + 1 = _; omega
  have s4 : R4.1 = m + 11 := by rw [h4]; show R3.1 + 3 = _; omega
  have s5 : R5.1 = m + 13 := by rw [h5]; show R4.1 + 2 = _; omega
  have s6 : R6.1 = m + 15 := by rw [h6]; show R5.1 + 2 = _; omega
  have s7 : (tX8_init T m).1 = m + 16 := by rw [e]; show R6.1 + 1 = _; omega
  have q6 := p6.trans p7 (by decide)
  have q5 := p5.trans q6 (by decide)
  have q4 := p4.trans q5 (by decide)
  have q3 := p3.trans q4 (by decide)
  have q2 := p2.trans q3 (by decide)
  have q1 := p1.trans q2 (by decide)
  have c1 : ∀ j, j < 5 → R1.2.1 (m + 1 + j) = (20, 5384) := fun j hj => by rw [h1, ← hT]; exact al_kr hj
  have c2 : R2.2.1 (m + 6) = (23, 2) := by rw [h2, ← s1]; exact al_kr (j := 0) (by decide)
  have c3 : R3.2.1 (m + 7) = (20, 700) := by rw [h3, ← s2]; exact al_kr (j := 0) (by decide)
  have c4 : ∀ j, j < 3 → R4.2.1 (m + 8 + j) = (20, 12) := fun j hj => by rw [h4, ← s3]; exact al_kr hj
  have c5 : ∀ j, j < 2 → R5.2.1 (m + 11 + j) = (20, 24) := fun j hj => by rw [h5, ← s4]; exact al_kr hj
  have c6 : ∀ j, j < 2 → R6.2.1 (m + 13 + j) = (20, 12) := fun j hj => by rw [h6, ← s5]; exact al_kr hj
  have c7 : (tX8_init T m).2.1 (m + 15) = (23, 12) := by rw [e, ← s6]; exact al_kr (j := 0) (by decide)
  refine ⟨⟨fun o ho => ?_, fun k b hk => ?_⟩, s7, q1⟩
  · rcases (by omega : o = 0 ∨ o = 1 ∨ o = 2 ∨ o = 3 ∨ o = 4 ∨ o = 5 ∨ o = 6 ∨ o = 7 ∨ o = 8 ∨ o = 9 ∨ o = 10 ∨ o = 11 ∨ o = 12 ∨ o = 13 ∨ o = 14 ∨ o = 15) with h | h | h | h | h | h | h | h | h | h | h | h | h | h | h | h <;> subst h
    · rw [Nat.add_zero, q1.2.1 _ (by omega)]; exact ham
    · rw [q2.2.1 _ (by omega)]; exact c1 0 (by decide)
    · rw [q2.2.1 _ (by omega)]; exact c1 1 (by decide)
    · rw [q2.2.1 _ (by omega)]; exact c1 2 (by decide)
    · rw [q2.2.1 _ (by omega)]; exact c1 3 (by decide)
    · rw [q2.2.1 _ (by omega)]; exact c1 4 (by decide)
    · rw [q3.2.1 _ (by omega)]; exact c2
    · rw [q4.2.1 _ (by omega)]; exact c3
    · rw [q5.2.1 _ (by omega)]; exact c4 0 (by decide)
    · rw [q5.2.1 _ (by omega)]; exact c4 1 (by decide)
    · rw [q5.2.1 _ (by omega)]; exact c4 2 (by decide)
    · rw [q6.2.1 _ (by omega)]; exact c5 0 (by decide)
    · rw [q6.2.1 _ (by omega)]; exact c5 1 (by decide)
    · rw [p7.2.1 _ (by omega)]; exact c6 0 (by decide)
    · rw [p7.2.1 _ (by omega)]; exact c6 1 (by decide)
    · exact c7
  · have d1 : ∀ j, j < 5 → R1.2.2 m j = some (m + 1 + j) := fun j hj => by rw [h1, al_r (by omega) (by omega), hT]; congr 1
    have d2 : R2.2.2 m 5 = some (m + 6) := by rw [h2, al_r (by omega) (by omega), s1]
    have d3 : R3.2.2 m 7 = some (m + 7) := by rw [h3, al_r (by omega) (by omega), s2]
    have d4 : ∀ j, j < 3 → R4.2.2 m (14 + j) = some (m + 8 + j) := fun j hj => by rw [h4, al_r (by omega) (by omega), s3]; congr 1; omega
    have d5 : ∀ j, j < 2 → R5.2.2 m (18 + j) = some (m + 11 + j) := fun j hj => by rw [h5, al_r (by omega) (by omega), s4]; congr 1; omega
    have d6 : ∀ j, j < 2 → R6.2.2 m (20 + j) = some (m + 13 + j) := fun j hj => by rw [h6, al_r (by omega) (by omega), s5]; congr 1; omega
    have d7 : (tX8_init T m).2.2 m 22 = some (m + 15) := by rw [e, al_r (by omega) (by omega), s6]
    match k, hk with
    | 0, hk => cases hk; rw [q2.2.2.2 _ (by decide)]; exact d1 0 (by decide)
    | 1, hk => cases hk; rw [q2.2.2.2 _ (by decide)]; exact d1 1 (by decide)
    | 2, hk => cases hk; rw [q2.2.2.2 _ (by decide)]; exact d1 2 (by decide)
    | 3, hk => cases hk; rw [q2.2.2.2 _ (by decide)]; exact d1 3 (by decide)
    | 4, hk => cases hk; rw [q2.2.2.2 _ (by decide)]; exact d1 4 (by decide)
    | 5, hk => cases hk; rw [q3.2.2.2 _ (by decide)]; exact d2
    | 6, hk => cases hk
    | 7, hk => cases hk; rw [q4.2.2.2 _ (by decide)]; exact d3
    | 14, hk => cases hk; rw [q5.2.2.2 _ (by decide)]; exact d4 0 (by decide)
    | 15, hk => cases hk; rw [q5.2.2.2 _ (by decide)]; exact d4 1 (by decide)
    | 16, hk => cases hk; rw [q5.2.2.2 _ (by decide)]; exact d4 2 (by decide)
    | 18, hk => cases hk; rw [q6.2.2.2 _ (by decide)]; exact d5 0 (by decide)
    | 19, hk => cases hk; rw [q6.2.2.2 _ (by decide)]; exact d5 1 (by decide)
    | 20, hk => cases hk; rw [p7.2.2.2 _ (by decide)]; exact d6 0 (by decide)
    | 21, hk => cases hk; rw [p7.2.2.2 _ (by decide)]; exact d6 1 (by decide)
    | 22, hk => cases hk; exact d7
    | 8, hk | 9, hk | 10, hk | 11, hk | 12, hk | 13, hk | 17, hk => cases hk
    | k + 23, hk => cases hk