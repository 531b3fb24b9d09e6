/-! int[n][m] AND World[n] OVER THE WALK'S MEMORY -/
def mm_T (T : pr_T) (n k : Nat) : pr_T := (T.1 + 1 + n, fun b => if b = T.1 then (24, n) else if T.1 + 1 ≤ b ∧ b < T.1 + 1 + n then (20, k) else T.2.1 b, fun b j => if b = T.1 then (if j < n then some (T.1 + 1 + j) else none) else if T.1 + 1 ≤ b ∧ b < T.1 + 1 + n then none else T.2.2 b j)
/-- rows of nothing but 0 from t on -/
def zI (I : pr_I) (t n : Nat) : pr_I := fun b => if t ≤ b ∧ b < t + n then (fun _ => 0) else I b
theorem zI_in {I : pr_I} {t n b : Nat} (h1 : t ≤ b) (h2 : b < t + n) : zI I t n b = fun _ => 0 := if_pos ⟨h1, h2⟩
theorem zI_out {I : pr_I} {t n b : Nat} (h : b < t ∨ t + n ≤ b) : zI I t n b = I b := if_neg (by omega)
section NWM
variable {g : pr_C} {X : pr_X} {M : pr_MD} {d mc ms : Nat} {nL : Nat} {Q : State → Prop} {cs sl pc : Nat} {ls st : List Value} {T : pr_T} {I : pr_I} {L : pr_L}
theorem pr_newM (hA : pr_Am g X M d mc ms) {index : Nat} {x y : Int32} (n k : Nat) (hw : Cond.classLink M.1.cls index "[[I" ∈ pr_gw) (hx0 : ¬ x < 0) (hy0 : ¬ y < 0) (hN : x.toNatClampNeg = n) (hKk : y.toNatClampNeg = k) (hn1 : n ≤ 100000) (hk1 : k ≤ 100000) (hcs : cs + (1 + n) ≤ mc) (hsl : sl + (n + n * k) ≤ ms) (hd : decode M.2.1 pc = .ok (.multianewarray index 2, 4)) (kk : pr_G g X nL Q (cs + 1 + n) (sl + n + n * k) (pc + 4) ls (.ref T.1 :: st) (mm_T T n k) (zI I T.1 (1 + n)) L) : pr_G g X nL Q cs sl pc ls (.int y :: .int x :: st) T I L := by
  obtain ⟨p, l, e, R, s, m, args, below, meth, c⟩ := X
  intro H locs lsS hR hl hS
  obtain ⟨hx, hb, hml, hown, hts, hK, hSF, hlk, hnt, hzs, hret, hdf, hdl, hmc, hms⟩ := hA
  have h24 := (hK.2 4 _ rfl).2
  have h20 := (hK.2 0 _ rfl).2
  refine mu_W hx hb hown (hts _ hw) hSF.2.2.2.2.2.2.2.2.2.1 hx0 hy0 hN hKk hn1 hk1 (Nat.le_trans hcs hmc) (Nat.le_trans hsl hms) hR.1 hd (fun cA cC H1 e1 e2 z1 o1 hO hR1 => ?_)
  have ec : cC = pr_ca g 20 := Option.some.inj (e2.symm.trans h20)
  have ea : cA = pr_ca g 24 := Option.some.inj (e1.symm.trans h24)
  subst ec; subst ea
  refine kk H1 _ lsS ⟨z1, by show pr_z g ≤ T.1 + 1 + n; have := hR.2.1; omega, fun b e9 hb9 => ?_⟩ hl ⟨?_, ?_, ?_⟩
  · by_cases hab : b = T.1
    · subst hab
      refine ⟨hR.2.1, ?_⟩
      rw [pr_ent_r (n := n) (Or.inl rfl) (by simp [mm_T])] at hb9
      cases hb9
      show H1[T.1]? = some (vp_cell _ _)
      rw [vp_cell_q, hO]
      unfold mu_o
      congr 2
      funext j
      show mu_r T.1 n j = va_rf (if T.1 = T.1 then (if j < n then some (T.1 + 1 + j) else none) else _)
      rw [if_pos rfl]
      unfold mu_r
      by_cases hj : j < n
      · rw [if_pos hj, if_pos hj]; rfl
      · rw [if_neg hj, if_neg hj]; rfl
    · by_cases hin : T.1 + 1 ≤ b ∧ b < T.1 + 1 + n
      · refine ⟨by have := hR.2.1; omega, ?_⟩
        rw [pr_ent_i (n := k) (t := 20) (Or.inl rfl) (by show (if b = T.1 then _ else if T.1 + 1 ≤ b ∧ b < T.1 + 1 + n then _ else _) = _; rw [if_neg hab, if_pos hin])] at hb9
        cases hb9
        show H1[b]? = some (vp_cell _ _)
        have hj := hR1 (b - (T.1 + 1)) (by omega)
        rw [show T.1 + 1 + (b - (T.1 + 1)) = b by omega] at hj
        rw [vp_cell_i, hj, zI_in (by omega) (by omega)]
        rfl
      · rw [pr_ent_congr (T := T) (I := I) (L := L) (by show (if b = T.1 then _ else if T.1 + 1 ≤ b ∧ b < T.1 + 1 + n then _ else _) = _; rw [if_neg hab, if_neg hin]) (zI_out (by omega)) rfl (by show (fun j => if b = T.1 then _ else if T.1 + 1 ≤ b ∧ b < T.1 + 1 + n then _ else _) = _; funext j; rw [if_neg hab, if_neg hin])] at hb9
        obtain ⟨h2, h3⟩ := hR.2.2 b e9 hb9
        exact ⟨h2, h3.kept (o1 b (by have := h3.lt; rw [hR.1] at this; exact this))⟩
  · have := hS.1; have := hR.1; omega
  · intro q h1 h2
    exact (o1 q (by have := hS.1; have := hR.1; omega)).trans (hS.2.1 q h1 h2)
  · intro q hq
    rcases List.mem_append.mp hq with h | h
    · exact hS.2.2 q h
    · obtain ⟨j, -, rfl⟩ := List.mem_map.mp h
      exact hR.2.1
/-- a row of worlds, with none in it -/
theorem pr_newQ (hA : pr_Am g X M d mc ms) {index : Nat} {x : Int32} (n : Nat) (hw : Cond.classLink M.1.cls index RX6 ∈ pr_gw) (hx0 : ¬ x < 0) (hN : x.toNatClampNeg = n) (hn1 : n ≤ 100000) (hcs : cs + 1 ≤ mc) (hsl : sl + n ≤ ms) (hd : decode M.2.1 pc = .ok (.anewarray index, 3)) (kk : pr_G g X nL Q (cs + 1) (sl + n) (pc + 3) ls (.ref T.1 :: st) (pr_new T 25 n) (pr_row I T.1 (fun _ => 0)) L) : pr_G g X nL Q cs sl pc ls (.int x :: st) T I L := by
  obtain ⟨p, l, e, R, s, m, args, below, meth, c⟩ := X
  intro H locs lsS hR hl hS
  obtain ⟨hx, hb, hml, hown, hts, hK, hSF, hlk, hnt, hzs, hret, hdf, hdl, hmc, hms⟩ := hA
  subst hN
  have h25 := (hK.2 5 _ rfl).2
  refine W.anew hx hb hown (hts _ hw) (va_AO.use hSF.2.2.2.2.2.2.2.2.2.1.2) rfl hd rfl hx0 (by omega) (Nat.le_trans hcs hmc) (Nat.le_trans hsl hms) fun cA kA comp f1 f2 f3 f4 => ?_
  have ea : cA = pr_ca g 25 := by
    obtain ⟨kA, comp, q1, q2, q3, q4⟩ := h25
    exact Option.some.inj (f1.symm.trans q4)
  subst ea
  generalize hH1 : H.push ({ cls := pr_ca g 25, slots := Array.replicate x.toNatClampNeg .null, vm := .none } : Cell) = H1
  have z1 : H1.size = H.size + 1 := by rw [← hH1, Array.size_push]
  have e1 : H1[H.size]? = some (arrV (pr_ca g 25) x.toNatClampNeg (fun _ => .null)) := by rw [← hH1, Array.getElem?_push_size, ← arrV_new]
  have o1 : ∀ q : Nat, q < H.size → H1[q]? = H[q]? := fun q hq => by rw [← hH1, Array.getElem?_push, if_neg (Nat.ne_of_lt hq)]
  rw [hR.1] at e1 ⊢
  refine kk H1 locs lsS (hR.push (by rw [z1, hR.1]) (fun q hq => o1 q (by rw [hR.1]; exact hq)) (fun b hb => pr_row_ne hb) (fun _ _ => rfl) fun e9 he9 => ?_) hl (pr_va_S_up hS z1 o1)
  rw [pr_ent_r (n := x.toNatClampNeg) (Or.inr rfl) (by simp [pr_new])] at he9
  cases he9
  show H1[T.1]? = some (vp_cell _ _)
  rw [vp_cell_q, e1]
  congr 2
  funext j
  simp [pr_new, va_rf]
end NWM
