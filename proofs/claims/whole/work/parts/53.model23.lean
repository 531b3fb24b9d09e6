/-! READING: names -/
theorem nI_lin2 (a b k : Nat) : nI a + nI b * nI k = nI (a + b * k) := by
  unfold nI; rw [Int32.ofNat_add, Int32.ofNat_mul]
noncomputable def inm_f (r b : Nat → Int32) (a f c : Nat) : Nat → Nat → Int32 → Int32
  | 0, _, x => x
  | j + 1, i, x => if x = 0 then x else if nI c ≤ nI i then x else inm_f r b a f c j (i + 1) (if r (a + 1 + i) = b (f + i) then (1 : Int32) else (0 : Int32))
/-- whether the letters from f on, c of them, are the name of the node k in the row r -/
noncomputable def inm (r b : Nat → Int32) (k f c : Nat) : Int32 := inm_f r b (12 + 7 * k) f c (c + 1) 0 (if r (12 + 7 * k) = nI c then (1 : Int32) else (0 : Int32))
noncomputable def nmd (r b : Nat → Int32) (f c : Nat) : Nat → Int32
  | 0 => -1
  | k + 1 => if inm r b k f c = 0 then nmd r b f c k else nI k
theorem inm_nb1 {r b : Nat → Int32} {a f c : Nat} : ∀ (j i : Nat) (x : Int32), x = 0 ∨ x = 1 → inm_f r b a f c j i x = 0 ∨ inm_f r b a f c j i x = 1
  | 0, _, _, h => h
  | j + 1, i, x, h => by
    unfold inm_f
    by_cases c1 : x = 0
    · rw [if_pos c1]; exact h
    · rw [if_neg c1]
      by_cases c2 : nI c ≤ nI i
      · rw [if_pos c2]; exact h
      · rw [if_neg c2]
        refine inm_nb1 j (i + 1) _ ?_
        split
        · exact Or.inr rfl
        · exact Or.inl rfl
theorem inm_nb {r b : Nat → Int32} {a f c : Nat} {p : Prop} [Decidable p] : inm_f r b a f c (c + 1) 0 (if p then (1 : Int32) else (0 : Int32)) = 0 ∨ inm_f r b a f c (c + 1) 0 (if p then (1 : Int32) else (0 : Int32)) = 1 := inm_nb1 _ _ _ (by
  split
  · exact Or.inr rfl
  · exact Or.inl rfl)
set_option maxRecDepth 100000 in
set_option maxHeartbeats 400000 in
theorem c_inm1 {g : pr_C} {l : Launch} (hl : l.stackTraces = false) {T : pr_T} {I : pr_I} {L : pr_L} {m : Nat} {σ : pr_I} (hm : pr_Mo T m) {k f c : Nat} (hk : k < 12) (hfc : f + c ≤ 700) : pr_M g l 1 0 0 mX8_isNamed [.ref (m + 1), .int (nI k), .ref (m + 7), .int (nI f), .int (nI c)] T (rg_put I m 16 σ) L (pr_R (some (.int (inm (σ 1) (σ 7) k f c))) T (rg_put I m 16 σ) L) pr_no := by
  refine pr_ofG (by decide) rfl hl (Nat.le_of_ble_eq_true rfl) (fun X hA hX hXn hXt => ?_)
  subst hX
  show pr_G g X mX8_isNamed.2.2.1 _ 0 0 0 [.ref (m + 1), .int (nI k), .ref (m + 7), .int (nI f), .int (nI c), .null, .null, .null] [] T (rg_put I m 16 σ) L
  obtain ⟨R0, hR0⟩ : ∃ R0, inm_f (σ 1) (σ 7) (12 + 7 * k) f c (c + 1) 0 (if (σ 1 (12 + 7 * k)) = (nI c) then (1 : Int32) else (0 : Int32)) = R0 := ⟨_, rfl⟩
  refine pr_bipush hA (nI 12) dX8_isNamed_0 (by decide) ?_
  refine pr_bipush hA (nI 7) dX8_isNamed_2 (by decide) ?_
  refine pr_iload_n hA dX8_isNamed_4 rfl ?_
  refine pr_imul hA dX8_isNamed_5 ?_
  refine pr_iadd hA dX8_isNamed_6 ?_
  rw [show ((nI 12) + ((nI 7) * (nI k))) = (nI (12 + 7 * k)) from (nI_lin2 12 7 k)]
  refine pr_istore (ls' := [_, _, _, _, _, _, _, _]) hA dX8_isNamed_7 (by decide) rfl ?_
  refine pr_aload_n hA dX8_isNamed_9 rfl ?_
  refine pr_iload hA dX8_isNamed_10 rfl ?_
  refine pr_ialdM (v := (σ 1 (12 + 7 * k))) hA (mo_k1 hm) (by omega) (by omega) (rg_val (by decide)) dX8_isNamed_12 ?_
  refine pr_iload hA dX8_isNamed_13 rfl ?_
  refine pr_join (c := (σ 1 (12 + 7 * k)) = (nI c)) (J := 23) (st := []) (1 : Int32) (0 : Int32) inferInstance (fun kt kf => ?_) ?_
  · refine pr_icmp_ne hA 22 dX8_isNamed_15 (by decide) (fun c_15 => ?_) (fun c_15 => ?_)
    · refine pr_iconst hA (0) dX8_isNamed_22 (by decide) ?_
      exact kf c_15
    · refine pr_iconst hA (1) dX8_isNamed_18 (by decide) ?_
      refine pr_goto hA 23 dX8_isNamed_19 (by decide) ?_
      exact kt c_15
  · refine pr_istore (ls' := [_, _, _, _, _, _, _, _]) hA dX8_isNamed_23 (by decide) rfl ?_
    refine pr_iconst hA (nI 0) dX8_isNamed_25 (by decide) ?_
    refine pr_istore (ls' := [_, _, _, _, _, _, _, _]) hA dX8_isNamed_26 (by decide) rfl ?_
    have lp28 : ∀ (j i : Nat) (x : Int32), c + 1 - i = j → i ≤ c → inm_f (σ 1) (σ 7) (12 + 7 * k) f c j i x = R0 → pr_G g X mX8_isNamed.2.2.1 (pr_MQ g X (pr_R (some (.int (inm (σ 1) (σ 7) k f c))) T (rg_put I m 16 σ) L) pr_no 0 0) 0 0 28 [.ref (m + 1), .int (nI k), .ref (m + 7), .int (nI f), .int (nI c), .int (nI (12 + 7 * k)), .int x, .int (nI i)] [] T (rg_put I m 16 σ) L := by
      intro j
      induction j with
      | zero => intro i x hj hi hR; omega
      | succ j ih =>
        intro i x hj hi hR
        refine pr_iload hA dX8_isNamed_28 rfl ?_
        refine pr_if_eq hA 71 dX8_isNamed_30 (by decide) (fun c_30 => ?_) (fun c_30 => ?_)
        · simp only [inm_f, if_pos c_30] at hR
          refine pr_iload hA dX8_isNamed_71 rfl ?_
          exact pr_ireturn hA rfl (pr_nb (by rw [hR]; rw [← hR0]; exact inm_nb)) (Nat.zero_le _) (Nat.zero_le _) dX8_isNamed_73 ⟨by rw [hR, ← hR0]; rfl, rfl, rfl, rfl⟩
        · refine pr_iload hA dX8_isNamed_33 rfl ?_
          refine pr_iload hA dX8_isNamed_35 rfl ?_
          refine pr_icmp_ge hA 71 dX8_isNamed_37 (by decide) (fun c_37 => ?_) (fun c_37 => ?_)
          · have n_37 : c ≤ i := (nI_leI (by omega) (by omega)).mp c_37
            simp only [inm_f, if_neg c_30, if_pos c_37] at hR
            refine pr_iload hA dX8_isNamed_71 rfl ?_
            exact pr_ireturn hA rfl (pr_nb (by rw [hR]; rw [← hR0]; exact inm_nb)) (Nat.zero_le _) (Nat.zero_le _) dX8_isNamed_73 ⟨by rw [hR, ← hR0]; rfl, rfl, rfl, rfl⟩
          · have n_37 : ¬ c ≤ i := fun q => c_37 ((nI_leI (by omega) (by omega)).mpr q)
            refine pr_aload_n hA dX8_isNamed_40 rfl ?_
            refine pr_iload hA dX8_isNamed_41 rfl ?_
            refine pr_iconst hA (1) dX8_isNamed_43 (by decide) ?_
            refine pr_iaddE (v := nI ((12 + 7 * k) + 1)) hA (nI_1 _) dX8_isNamed_44 ?_
            refine pr_iload hA dX8_isNamed_45 rfl ?_
            refine pr_iadd hA dX8_isNamed_47 ?_
            rw [show ((nI ((12 + 7 * k) + 1)) + (nI i)) = (nI ((12 + 7 * k) + 1 + i)) from (nI_add _ _)]
            refine pr_ialdM (v := (σ 1 ((12 + 7 * k) + 1 + i))) hA (mo_k1 hm) (by omega) (by omega) (rg_val (by decide)) dX8_isNamed_48 ?_
            refine pr_aload_n hA dX8_isNamed_49 rfl ?_
            refine pr_iload_n hA dX8_isNamed_50 rfl ?_
            refine pr_iload hA dX8_isNamed_51 rfl ?_
            refine pr_iadd hA dX8_isNamed_53 ?_
            rw [show ((nI f) + (nI i)) = (nI (f + i)) from (nI_add _ _)]
            refine pr_ialdM (v := (σ 7 (f + i))) hA (mo_k7 hm) (by omega) (by omega) (rg_val (by decide)) dX8_isNamed_54 ?_
            refine pr_join (c := (σ 1 ((12 + 7 * k) + 1 + i)) = (σ 7 (f + i))) (J := 63) (st := []) (1 : Int32) (0 : Int32) inferInstance (fun kt kf => ?_) ?_
            · refine pr_icmp_ne hA 62 dX8_isNamed_55 (by decide) (fun c_55 => ?_) (fun c_55 => ?_)
              · refine pr_iconst hA (0) dX8_isNamed_62 (by decide) ?_
                exact kf c_55
              · refine pr_iconst hA (1) dX8_isNamed_58 (by decide) ?_
                refine pr_goto hA 63 dX8_isNamed_59 (by decide) ?_
                exact kt c_55
            · refine pr_istore (ls' := [_, _, _, _, _, _, _, _]) hA dX8_isNamed_63 (by decide) rfl ?_
              refine pr_iinc (ls' := [_, _, _, _, _, _, _, _]) hA (nI (i + 1)) dX8_isNamed_65 (by decide) rfl (nI_inc _) rfl ?_
              refine pr_goto hA 28 dX8_isNamed_68 (by decide) ?_
              simp only [inm_f, if_neg c_30, if_neg c_37] at hR
              exact ih (i + 1) _ (by omega) (by omega) hR
    exact lp28 (c + 1) 0 _ rfl (Nat.zero_le _) hR0

set_option maxRecDepth 100000 in
set_option maxHeartbeats 400000 in
theorem c_inm3 {g : pr_C} {l : Launch} (hl : l.stackTraces = false) {T : pr_T} {I : pr_I} {L : pr_L} {m : Nat} {σ : pr_I} (hm : pr_Mo T m) {k f c : Nat} (hk : k < 12) (hfc : f + c ≤ 700) : pr_M g l 1 0 0 mX8_isNamed [.ref (m + 3), .int (nI k), .ref (m + 7), .int (nI f), .int (nI c)] T (rg_put I m 16 σ) L (pr_R (some (.int (inm (σ 3) (σ 7) k f c))) T (rg_put I m 16 σ) L) pr_no := by
  refine pr_ofG (by decide) rfl hl (Nat.le_of_ble_eq_true rfl) (fun X hA hX hXn hXt => ?_)
  subst hX
  show pr_G g X mX8_isNamed.2.2.1 _ 0 0 0 [.ref (m + 3), .int (nI k), .ref (m + 7), .int (nI f), .int (nI c), .null, .null, .null] [] T (rg_put I m 16 σ) L
  obtain ⟨R0, hR0⟩ : ∃ R0, inm_f (σ 3) (σ 7) (12 + 7 * k) f c (c + 1) 0 (if (σ 3 (12 + 7 * k)) = (nI c) then (1 : Int32) else (0 : Int32)) = R0 := ⟨_, rfl⟩
  refine pr_bipush hA (nI 12) dX8_isNamed_0 (by decide) ?_
  refine pr_bipush hA (nI 7) dX8_isNamed_2 (by decide) ?_
  refine pr_iload_n hA dX8_isNamed_4 rfl ?_
  refine pr_imul hA dX8_isNamed_5 ?_
  refine pr_iadd hA dX8_isNamed_6 ?_
  rw [show ((nI 12) + ((nI 7) * (nI k))) = (nI (12 + 7 * k)) from (nI_lin2 12 7 k)]
  refine pr_istore (ls' := [_, _, _, _, _, _, _, _]) hA dX8_isNamed_7 (by decide) rfl ?_
  refine pr_aload_n hA dX8_isNamed_9 rfl ?_
  refine pr_iload hA dX8_isNamed_10 rfl ?_
  refine pr_ialdM (v := (σ 3 (12 + 7 * k))) hA (mo_k3 hm) (by omega) (by omega) (rg_val (by decide)) dX8_isNamed_12 ?_
  refine pr_iload hA dX8_isNamed_13 rfl ?_
  refine pr_join (c := (σ 3 (12 + 7 * k)) = (nI c)) (J := 23) (st := []) (1 : Int32) (0 : Int32) inferInstance (fun kt kf => ?_) ?_
  · refine pr_icmp_ne hA 22 dX8_isNamed_15 (by decide) (fun c_15 => ?_) (fun c_15 => ?_)
    · refine pr_iconst hA (0) dX8_isNamed_22 (by decide) ?_
      exact kf c_15
    · refine pr_iconst hA (1) dX8_isNamed_18 (by decide) ?_
      refine pr_goto hA 23 dX8_isNamed_19 (by decide) ?_
      exact kt c_15
  · refine pr_istore (ls' := [_, _, _, _, _, _, _, _]) hA dX8_isNamed_23 (by decide) rfl ?_
    refine pr_iconst hA (nI 0) dX8_isNamed_25 (by decide) ?_
    refine pr_istore (ls' := [_, _, _, _, _, _, _, _]) hA dX8_isNamed_26 (by decide) rfl ?_
    have lp28 : ∀ (j i : Nat) (x : Int32), c + 1 - i = j → i ≤ c → inm_f (σ 3) (σ 7) (12 + 7 * k) f c j i x = R0 → pr_G g X mX8_isNamed.2.2.1 (pr_MQ g X (pr_R (some (.int (inm (σ 3) (σ 7) k f c))) T (rg_put I m 16 σ) L) pr_no 0 0) 0 0 28 [.ref (m + 3), .int (nI k), .ref (m + 7), .int (nI f), .int (nI c), .int (nI (12 + 7 * k)), .int x, .int (nI i)] [] T (rg_put I m 16 σ) L := by
      intro j
      induction j with
      | zero => intro i x hj hi hR; omega
      | succ j ih =>
        intro i x hj hi hR
        refine pr_iload hA dX8_isNamed_28 rfl ?_
        refine pr_if_eq hA 71 dX8_isNamed_30 (by decide) (fun c_30 => ?_) (fun c_30 => ?_)
        · simp only [inm_f, if_pos c_30] at hR
          refine pr_iload hA dX8_isNamed_71 rfl ?_
          exact pr_ireturn hA rfl (pr_nb (by rw [hR]; rw [← hR0]; exact inm_nb)) (Nat.zero_le _) (Nat.zero_le _) dX8_isNamed_73 ⟨by rw [hR, ← hR0]; rfl, rfl, rfl, rfl⟩
        · refine pr_iload hA dX8_isNamed_33 rfl ?_
          refine pr_iload hA dX8_isNamed_35 rfl ?_
          refine pr_icmp_ge hA 71 dX8_isNamed_37 (by decide) (fun c_37 => ?_) (fun c_37 => ?_)
          · have n_37 : c ≤ i := (nI_leI (by omega) (by omega)).mp c_37
            simp only [inm_f, if_neg c_30, if_pos c_37] at hR
            refine pr_iload hA dX8_isNamed_71 rfl ?_
            exact pr_ireturn hA rfl (pr_nb (by rw [hR]; rw [← hR0]; exact inm_nb)) (Nat.zero_le _) (Nat.zero_le _) dX8_isNamed_73 ⟨by rw [hR, ← hR0]; rfl, rfl, rfl, rfl⟩
          · have n_37 : ¬ c ≤ i := fun q => c_37 ((nI_leI (by omega) (by omega)).mpr q)
            refine pr_aload_n hA dX8_isNamed_40 rfl ?_
            refine pr_iload hA dX8_isNamed_41 rfl ?_
            refine pr_iconst hA (1) dX8_isNamed_43 (by decide) ?_
            refine pr_iaddE (v := nI ((12 + 7 * k) + 1)) hA (nI_1 _) dX8_isNamed_44 ?_
            refine pr_iload hA dX8_isNamed_45 rfl ?_
            refine pr_iadd hA dX8_isNamed_47 ?_
            rw [show ((nI ((12 + 7 * k) + 1)) + (nI i)) = (nI ((12 + 7 * k) + 1 + i)) from (nI_add _ _)]
            refine pr_ialdM (v := (σ 3 ((12 + 7 * k) + 1 + i))) hA (mo_k3 hm) (by omega) (by omega) (rg_val (by decide)) dX8_isNamed_48 ?_
            refine pr_aload_n hA dX8_isNamed_49 rfl ?_
            refine pr_iload_n hA dX8_isNamed_50 rfl ?_
            refine pr_iload hA dX8_isNamed_51 rfl ?_
            refine pr_iadd hA dX8_isNamed_53 ?_
            rw [show ((nI f) + (nI i)) = (nI (f + i)) from (nI_add _ _)]
            refine pr_ialdM (v := (σ 7 (f + i))) hA (mo_k7 hm) (by omega) (by omega) (rg_val (by decide)) dX8_isNamed_54 ?_
            refine pr_join (c := (σ 3 ((12 + 7 * k) + 1 + i)) = (σ 7 (f + i))) (J := 63) (st := []) (1 : Int32) (0 : Int32) inferInstance (fun kt kf => ?_) ?_
            · refine pr_icmp_ne hA 62 dX8_isNamed_55 (by decide) (fun c_55 => ?_) (fun c_55 => ?_)
              · refine pr_iconst hA (0) dX8_isNamed_62 (by decide) ?_
                exact kf c_55
              · refine pr_iconst hA (1) dX8_isNamed_58 (by decide) ?_
                refine pr_goto hA 63 dX8_isNamed_59 (by decide) ?_
                exact kt c_55
            · refine pr_istore (ls' := [_, _, _, _, _, _, _, _]) hA dX8_isNamed_63 (by decide) rfl ?_
              refine pr_iinc (ls' := [_, _, _, _, _, _, _, _]) hA (nI (i + 1)) dX8_isNamed_65 (by decide) rfl (nI_inc _) rfl ?_
              refine pr_goto hA 28 dX8_isNamed_68 (by decide) ?_
              simp only [inm_f, if_neg c_30, if_neg c_37] at hR
              exact ih (i + 1) _ (by omega) (by omega) hR
    exact lp28 (c + 1) 0 _ rfl (Nat.zero_le _) hR0

theorem c_inm1E {g : pr_C} {l : Launch} (hl : l.stackTraces = false) {T : pr_T} {I : pr_I} {L : pr_L} {m : Nat} {σ : pr_I} {k f c : Nat} {r b : Nat → Int32} (hm : pr_Mo T m) (hk : k < 12) (hfc : f + c ≤ 700) (hr : σ 1 = r) (hb : σ 7 = b) : pr_M g l 1 0 0 mX8_isNamed [.ref (m + 1), .int (nI k), .ref (m + 7), .int (nI f), .int (nI c)] T (rg_put I m 16 σ) L (pr_R (some (.int (inm r b k f c))) T (rg_put I m 16 σ) L) pr_no := by
  subst hr; subst hb; exact c_inm1 hl hm hk hfc
theorem c_inm3E {g : pr_C} {l : Launch} (hl : l.stackTraces = false) {T : pr_T} {I : pr_I} {L : pr_L} {m : Nat} {σ : pr_I} {k f c : Nat} {r b : Nat → Int32} (hm : pr_Mo T m) (hk : k < 12) (hfc : f + c ≤ 700) (hr : σ 3 = r) (hb : σ 7 = b) : pr_M g l 1 0 0 mX8_isNamed [.ref (m + 3), .int (nI k), .ref (m + 7), .int (nI f), .int (nI c)] T (rg_put I m 16 σ) L (pr_R (some (.int (inm r b k f c))) T (rg_put I m 16 σ) L) pr_no := by
  subst hr; subst hb; exact c_inm3 hl hm hk hfc
set_option maxRecDepth 100000 in
set_option maxHeartbeats 400000 in
theorem c_named {g : pr_C} {l : Launch} (hl : l.stackTraces = false) {T : pr_T} {I : pr_I} {L : pr_L} {m : Nat} {σ : pr_I} (hm : pr_Mo T m) {n : Nat} (hn : σ 0 8 = nI n) (hn7 : n ≤ 700) {q : Nat} (hq : σ 0 10 = nI q) (hqn : q ≤ n) {fn : Nat} (hfn : σ 3 6 = nI fn) (hfn12 : fn ≤ 12) : pr_M g l 4 0 0 mX8_named [.ref m] T (rg_put I m 16 σ) L (pr_R (some (.int (nmd (σ 3) (σ 7) q ((we (σ 7) n q) - q) fn))) T (rg_put I m 16 σ) L) pr_no := by
  refine pr_ofG (by decide) rfl hl (Nat.le_of_ble_eq_true rfl) (fun X hA hX hXn hXt => ?_)
  subst hX
  show pr_G g X mX8_named.2.2.1 _ 0 0 0 [.ref m, .null, .null] [] T (rg_put I m 16 σ) L
  have hwq : q ≤ (we (σ 7) n q) := (we_le hqn).1
  have hwn : (we (σ 7) n q) ≤ n := (we_le hqn).2
  refine pr_iconst hA ((-1)) dX8_named_0 (by decide) ?_
  refine pr_istore_n (ls' := [_, _, _]) hA dX8_named_1 (by decide) rfl ?_
  refine pr_iconst hA (nI 0) dX8_named_2 (by decide) ?_
  refine pr_istore_n (ls' := [_, _, _]) hA dX8_named_3 (by decide) rfl ?_
  have lp4 : ∀ (j k : Nat), fn - k = j → k ≤ fn → pr_G g X mX8_named.2.2.1 (pr_MQ g X (pr_R (some (.int (nmd (σ 3) (σ 7) q ((we (σ 7) n q) - q) fn))) T (rg_put I m 16 σ) L) pr_no 0 0) 0 0 4 [.ref m, .int (nmd (σ 3) (σ 7) q ((we (σ 7) n q) - q) k), .int (nI k)] [] T (rg_put I m 16 σ) L := by
    intro j
    induction j using Nat.strongRecOn with | ind j ih =>
    intro k hj hk
    refine pr_iload_n hA dX8_named_4 rfl ?_
    refine pr_aload_n hA dX8_named_5 rfl ?_
    refine pr_getR hA f_X8_16 rfl (mo_k0 hm) (mo_f0_2 hm) dX8_named_6 ?_
    refine pr_bipush hA (nI 6) dX8_named_9 (by decide) ?_
    refine pr_ialdM (v := (nI fn)) hA (mo_k3 hm) (by omega) (by omega) ((rg_val (by decide)).trans hfn) dX8_named_11 ?_
    refine pr_icmp_ge hA 55 dX8_named_12 (by decide) (fun c_12 => ?_) (fun c_12 => ?_)
    · have n_12 : fn ≤ k := (nI_leI (by omega) (by omega)).mp c_12
      have hex : k = fn := by omega
      subst hex
      refine pr_iload_n hA dX8_named_55 rfl ?_
      exact pr_ireturn hA rfl rfl (Nat.zero_le _) (Nat.zero_le _) dX8_named_56 ⟨rfl, rfl, rfl, rfl⟩
    · have n_12 : ¬ fn ≤ k := fun q => c_12 ((nI_leI (by omega) (by omega)).mpr q)
      refine pr_aload_n hA dX8_named_15 rfl ?_
      refine pr_getR hA f_X8_16 rfl (mo_k0 hm) (mo_f0_2 hm) dX8_named_16 ?_
      refine pr_iload_n hA dX8_named_19 rfl ?_
      refine pr_aload_n hA dX8_named_20 rfl ?_
      refine pr_getR hA f_X8_29 rfl (mo_k0 hm) (mo_f0_7 hm) dX8_named_21 ?_
      refine pr_aload_n hA dX8_named_24 rfl ?_
      refine pr_getE (v := (nI q)) hA f_X8_91 rfl (mo_k0 hm) ((rg_val0 (by decide)).trans hq) dX8_named_25 ?_
      refine pr_aload_n hA dX8_named_28 rfl ?_
      refine pr_callVi hA [] (c_weE (m := m) (σ := σ) (n := n) (q := q) (b := (σ 7)) (pr_hl hA) hm hn (by omega) hq (by omega) rfl) v_X8_104 (mo_k0 hm) (by decide) rfl rfl rfl (by decide) (Nat.zero_le _) (Nat.zero_le _) rfl (Nat.le_of_ble_eq_true rfl) dX8_named_29 ?_
      refine pr_aload_n hA dX8_named_32 rfl ?_
      refine pr_getE (v := (nI q)) hA f_X8_91 rfl (mo_k0 hm) ((rg_val0 (by decide)).trans hq) dX8_named_33 ?_
      refine pr_isub hA dX8_named_36 ?_
      rw [show ((nI (we (σ 7) n q)) - (nI q)) = (nI ((we (σ 7) n q) - q)) from (nI_sub hwq)]
      refine pr_callSi hA [.ref (m + 3), .int (nI k), .ref (m + 7), .int (nI q), .int (nI ((we (σ 7) n q) - q))] (c_inm3E (m := m) (σ := σ) (k := k) (f := q) (c := ((we (σ 7) n q) - q)) (r := (σ 3)) (b := (σ 7)) (pr_hl hA) hm (by omega) (by omega) rfl rfl) s_X8_135 rfl (by decide) (Nat.zero_le _) (Nat.zero_le _) rfl (Nat.le_of_ble_eq_true rfl) dX8_named_37 ?_
      refine pr_join (c := (inm (σ 3) (σ 7) k q ((we (σ 7) n q) - q)) = 0) (J := 48) (st := []) (nmd (σ 3) (σ 7) q ((we (σ 7) n q) - q) k) (nI k) inferInstance (fun kt kf => ?_) ?_
      · refine pr_if_eq hA 47 dX8_named_40 (by decide) (fun c_40 => ?_) (fun c_40 => ?_)
        · refine pr_iload_n hA dX8_named_47 rfl ?_
          exact kt c_40
        · refine pr_iload_n hA dX8_named_43 rfl ?_
          refine pr_goto hA 48 dX8_named_44 (by decide) ?_
          exact kf c_40
      · refine pr_istore_n (ls' := [_, _, _]) hA dX8_named_48 (by decide) rfl ?_
        refine pr_iinc (ls' := [_, _, _]) hA (nI (k + 1)) dX8_named_49 (by decide) rfl (nI_inc _) rfl ?_
        refine pr_goto hA 4 dX8_named_52 (by decide) ?_
        exact ih (fn - (k + 1)) (by omega) (k + 1) rfl (by omega)
  exact lp4 fn 0 rfl (Nat.zero_le _)

theorem c_namedE {g : pr_C} {l : Launch} (hl : l.stackTraces = false) {T : pr_T} {I : pr_I} {L : pr_L} {m : Nat} {σ : pr_I} {n q fn : Nat} {r b : Nat → Int32} (hm : pr_Mo T m) (hn : σ 0 8 = nI n) (hn7 : n ≤ 700) (hq : σ 0 10 = nI q) (hqn : q ≤ n) (hfn : σ 3 6 = nI fn) (hfn12 : fn ≤ 12) (hr : σ 3 = r) (hb : σ 7 = b) : pr_M g l 4 0 0 mX8_named [.ref m] T (rg_put I m 16 σ) L (pr_R (some (.int (nmd r b q (we b n q - q) fn))) T (rg_put I m 16 σ) L) pr_no := by
  subst hr; subst hb; exact c_named hl hm hn hn7 hq hqn hfn hfn12
theorem nmd_in {r b : Nat → Int32} {f c : Nat} : ∀ k, k ≤ 12 → nmd r b f c k = -1 ∨ vp_in (nmd r b f c k) k
  | 0, _ => Or.inl rfl
  | k + 1, h => by
    unfold nmd
    by_cases e : inm r b k f c = 0
    · rw [if_pos e]
      rcases nmd_in k (by omega) with h2 | h2
      · exact Or.inl h2
      · exact Or.inr (vp_in_mono h2 (by omega))
    · rw [if_neg e]; exact Or.inr (nI_vin (by omega) (by omega))
