/-! READING: names -/
theorem nI_lin2 (a b k : Nat) : nI a + nI b * nI k = nI (a + b * k) := by
  unfold nI; rw [Int32.ofNat_add, Int32.ofNat_mul]
noncomputable def inm_f (r b : Nat → Int32) (a f c : Nat) : Nat → Nat → Int32 → Int32
  | 0, _, x => x
  | j + 1, i, x => if x = 0 then x else if nI c ≤ nI i then x else inm_f r b a f c j (i + 1) (if r (a + 1 + i) = b (f + i) then (1 : Int32) else (0 : Int32))
/-- whether the letters from f on, c of them, are the name of the node k in the row r -/
noncomputable def inm (r b : Nat → Int32) (k f c : Nat) : Int32 := inm_f r b (12 + 7 * k) f c (c + 1) 0 (if r (12 + 7 * k) = nI c then (1 : Int32) else (0 : Int32))
noncomputable def nmd (r b : Nat → Int32) (f c : Nat) : Nat → Int32
  | 0 => -1
  | k + 1 => if inm r b k f c = 0 then nmd r b f c k else nI k
theorem inm_nb1 {r b : Nat → Int32} {a f c : Nat} : ∀ (j i : Nat) (x : Int32), x = 0 ∨ x = 1 → inm_f r b a f c j i x = 0 ∨ inm_f r b a f c j i x = 1
  | 0, _, _, h => h
  | j + 1, i, x, h => by
    unfold inm_f
    by_cases c1 : x = 0
    · rw [if_pos c1]; exact h
    · rw [if_neg c1]
      by_cases c2 : nI c ≤ nI i
      · rw [if_pos c2]; exact h
      · rw [if_neg c2]
        refine inm_nb1 j (i + 1) _ ?_
        split
        · exact Or.inr rfl
        · exact Or.inl rfl
theorem inm_nb {r b : Nat → Int32} {a f c : Nat} {p : Prop} [Decidable p] : inm_f r b a f c (c + 1) 0 (if p then (1 : Int32) else (0 : Int32)) = 0 ∨ inm_f r b a f c (c + 1) 0 (if p then (1 : Int32) else (0 : Int32)) = 1 := inm_nb1 _ _ _ (by
  split
  · exact Or.inr rfl
  · exact Or.inl rfl)
theorem nmd_in {r b : Nat → Int32} {f c : Nat} : ∀ k, k ≤ 12 → nmd r b f c k = -1 ∨ vp_in (nmd r b f c k) k
  | 0, _ => Or.inl rfl
  | k + 1, h => by
    unfold nmd
    by_cases e : inm r b k f c = 0
    · rw [if_pos e]
      rcases nmd_in k (by omega) with h2 | h2
      · exact Or.inl h2
      · exact Or.inr (vp_in_mono h2 (by omega))
    · rw [if_neg e]; exact Or.inr (nI_vin (by omega) (by omega))
