section PRM
variable {g : pr_C} {X : pr_X} {M : pr_MD} {d mc ms : Nat} {nL : Nat} {Q : State → Prop} {cs sl pc : Nat} {ls st : List Value} {T : pr_T} {I : pr_I} {L : pr_L}
theorem pr_ialdM (hA : pr_Am g X M d mc ms) {a n k : Nat} {v : Int32} (ha : T.2.1 a = (20, n)) (hk : k < n) (hn : n ≤ 100000) (hr : I a k = v) (hd : decode M.2.1 pc = .ok (.iaload, 1)) (kk : pr_G g X nL Q cs sl (pc + 1) ls (.int v :: st) T I L) : pr_G g X nL Q cs sl pc ls (.int (nI k) :: .ref a :: st) T I L := by
  subst hr
  refine pr_iald hA ha (nI_vin hk (by omega)) hd ?_
  rw [nI_clamp (by omega)]; exact kk
theorem pr_iastM (hA : pr_Am g X M d mc ms) {a n k : Nat} {v : Int32} {I' : pr_I} (ha : T.2.1 a = (20, n)) (hk : k < n) (hn : n ≤ 100000) (hu : pr_up I a k v = I') (hd : decode M.2.1 pc = .ok (.iastore, 1)) (kk : pr_G g X nL Q cs sl (pc + 1) ls st T I' L) : pr_G g X nL Q cs sl pc ls (.int v :: .int (nI k) :: .ref a :: st) T I L := by
  subst hu
  refine pr_iast hA ha (nI_vin hk (by omega)) hd ?_
  rw [nI_clamp (by omega)]; exact kk
end PRM
/-! THE REFERENCE: its cells, 16 of them -/
def mo_K (o : Nat) : Nat × Nat := match o with | 0 => (8, 0) | 1 => (20, 5384) | 2 => (20, 5384) | 3 => (20, 5384) | 4 => (20, 5384) | 5 => (20, 5384) | 6 => (23, 2) | 7 => (20, 700) | 8 => (20, 12) | 9 => (20, 12) | 10 => (20, 12) | 11 => (20, 24) | 12 => (20, 24) | 13 => (20, 12) | 14 => (20, 12) | _ => (23, 12)
def mo_F (k : Nat) : Option Nat := match k with | 0 => some 1 | 1 => some 2 | 2 => some 3 | 3 => some 4 | 4 => some 5 | 5 => some 6 | 7 => some 7 | 14 => some 8 | 15 => some 9 | 16 => some 10 | 18 => some 11 | 19 => some 12 | 20 => some 13 | 21 => some 14 | 22 => some 15 | _ => none
def pr_Mo (T : pr_T) (m : Nat) : Prop := (∀ o, o < 16 → T.2.1 (m + o) = mo_K o) ∧ ∀ k b, mo_F k = some b → T.2.2 m k = some (m + b)
theorem mo_k0 {T : pr_T} {m : Nat} (h : pr_Mo T m) : T.2.1 m = (8, 0) := h.1 0 (by decide)
theorem mo_k1 {T : pr_T} {m : Nat} (h : pr_Mo T m) : T.2.1 (m + 1) = (20, 5384) := h.1 1 (by decide)
theorem mo_k2 {T : pr_T} {m : Nat} (h : pr_Mo T m) : T.2.1 (m + 2) = (20, 5384) := h.1 2 (by decide)
theorem mo_k3 {T : pr_T} {m : Nat} (h : pr_Mo T m) : T.2.1 (m + 3) = (20, 5384) := h.1 3 (by decide)
theorem mo_k4 {T : pr_T} {m : Nat} (h : pr_Mo T m) : T.2.1 (m + 4) = (20, 5384) := h.1 4 (by decide)
theorem mo_k5 {T : pr_T} {m : Nat} (h : pr_Mo T m) : T.2.1 (m + 5) = (20, 5384) := h.1 5 (by decide)
theorem mo_k6 {T : pr_T} {m : Nat} (h : pr_Mo T m) : T.2.1 (m + 6) = (23, 2) := h.1 6 (by decide)
theorem mo_k7 {T : pr_T} {m : Nat} (h : pr_Mo T m) : T.2.1 (m + 7) = (20, 700) := h.1 7 (by decide)
theorem mo_k8 {T : pr_T} {m : Nat} (h : pr_Mo T m) : T.2.1 (m + 8) = (20, 12) := h.1 8 (by decide)
theorem mo_k9 {T : pr_T} {m : Nat} (h : pr_Mo T m) : T.2.1 (m + 9) = (20, 12) := h.1 9 (by decide)
theorem mo_k10 {T : pr_T} {m : Nat} (h : pr_Mo T m) : T.2.1 (m + 10) = (20, 12) := h.1 10 (by decide)
theorem mo_k11 {T : pr_T} {m : Nat} (h : pr_Mo T m) : T.2.1 (m + 11) = (20, 24) := h.1 11 (by decide)
theorem mo_k12 {T : pr_T} {m : Nat} (h : pr_Mo T m) : T.2.1 (m + 12) = (20, 24) := h.1 12 (by decide)
theorem mo_k13 {T : pr_T} {m : Nat} (h : pr_Mo T m) : T.2.1 (m + 13) = (20, 12) := h.1 13 (by decide)
theorem mo_k14 {T : pr_T} {m : Nat} (h : pr_Mo T m) : T.2.1 (m + 14) = (20, 12) := h.1 14 (by decide)
theorem mo_k15 {T : pr_T} {m : Nat} (h : pr_Mo T m) : T.2.1 (m + 15) = (23, 12) := h.1 15 (by decide)
theorem mo_f0_0 {T : pr_T} {m : Nat} (h : pr_Mo T m) : T.2.2 m 0 = some (m + 1) := h.2 0 1 rfl
theorem mo_f0_1 {T : pr_T} {m : Nat} (h : pr_Mo T m) : T.2.2 m 1 = some (m + 2) := h.2 1 2 rfl
theorem mo_f0_2 {T : pr_T} {m : Nat} (h : pr_Mo T m) : T.2.2 m 2 = some (m + 3) := h.2 2 3 rfl
theorem mo_f0_3 {T : pr_T} {m : Nat} (h : pr_Mo T m) : T.2.2 m 3 = some (m + 4) := h.2 3 4 rfl
theorem mo_f0_4 {T : pr_T} {m : Nat} (h : pr_Mo T m) : T.2.2 m 4 = some (m + 5) := h.2 4 5 rfl
theorem mo_f0_5 {T : pr_T} {m : Nat} (h : pr_Mo T m) : T.2.2 m 5 = some (m + 6) := h.2 5 6 rfl
theorem mo_f0_7 {T : pr_T} {m : Nat} (h : pr_Mo T m) : T.2.2 m 7 = some (m + 7) := h.2 7 7 rfl
theorem mo_f0_14 {T : pr_T} {m : Nat} (h : pr_Mo T m) : T.2.2 m 14 = some (m + 8) := h.2 14 8 rfl
theorem mo_f0_15 {T : pr_T} {m : Nat} (h : pr_Mo T m) : T.2.2 m 15 = some (m + 9) := h.2 15 9 rfl
theorem mo_f0_16 {T : pr_T} {m : Nat} (h : pr_Mo T m) : T.2.2 m 16 = some (m + 10) := h.2 16 10 rfl
theorem mo_f0_18 {T : pr_T} {m : Nat} (h : pr_Mo T m) : T.2.2 m 18 = some (m + 11) := h.2 18 11 rfl
theorem mo_f0_19 {T : pr_T} {m : Nat} (h : pr_Mo T m) : T.2.2 m 19 = some (m + 12) := h.2 19 12 rfl
theorem mo_f0_20 {T : pr_T} {m : Nat} (h : pr_Mo T m) : T.2.2 m 20 = some (m + 13) := h.2 20 13 rfl
theorem mo_f0_21 {T : pr_T} {m : Nat} (h : pr_Mo T m) : T.2.2 m 21 = some (m + 14) := h.2 21 14 rfl
theorem mo_f0_22 {T : pr_T} {m : Nat} (h : pr_Mo T m) : T.2.2 m 22 = some (m + 15) := h.2 22 15 rfl
theorem nI_lin (a b k c : Nat) : nI a + nI b * nI k + nI c = nI (a + b * k + c) := by
  unfold nI; rw [Int32.ofNat_add, Int32.ofNat_add, Int32.ofNat_mul]
noncomputable def m_kept_r (σ : pr_I) (t : Nat) : Int32 := (if (σ 1 (1384 + 8 * t + 5)) = 0 then (1 : Int32) else (if (σ 1 (1384 + 8 * t + 5)) = (1 : Int32) then (1 : Int32) else (0 : Int32)))
noncomputable def m_prom_it4 (σ : pr_I) (n : Nat) (x : Int32) : Nat → Int32
  | 0 => (0 : Int32)
  | k + 1 => ((m_prom_it4 σ n x k) + (if (σ 1 (1384 + 8 * k + 1)) = x then (if (m_kept_r σ k) = 0 then (0 : Int32) else (σ 1 (1384 + 8 * k + 2))) else (0 : Int32)))
noncomputable def m_prom_r (σ : pr_I) (n : Nat) (x : Int32) : Int32 := (m_prom_it4 σ n x n)