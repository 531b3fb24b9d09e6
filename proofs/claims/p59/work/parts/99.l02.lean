/-! THE LAW'S load(): the text goes into the object eight letters a word, and is read -/
/-- what load() leaves -/
def lLd (x : Nat) (tx : List Nat) (T : pr_T) (σ τ φ : pr_I) (ν : Nat → Int64) : Option Value → pr_T → pr_I → pr_L → Prop := fun v' T' I' L' => ∃ ι1, TXn ι1 tx tx.length ∧ in_I ι1 ∧ v' = some (.int (fx_load_r ι1 τ σ ν)) ∧ T' = T ∧ lMm x I' (fx_load_w σ ι1 τ ν) (fx_load_v τ ι1 σ ν) φ (fx_load ι1 τ σ ν)
theorem nI_sub1 {n : Nat} (h : 1 ≤ n) : nI n - nI 1 = nI (n - 1) := by
  obtain ⟨m, rfl⟩ : ∃ m, n = m + 1 := ⟨n - 1, by omega⟩
  rw [Nat.add_sub_cancel, ← nI_add, Int32.add_sub_cancel]
theorem ld_step {tx : List Nat} {q q2 : Int64} {n0 k : Nat} (h : q.toBitVec.toNat = wv (fun i => tx.getD (n0 + i) 0) (k - n0)) (h1 : n0 ≤ k) (h2 : k - n0 < 8) (hx : ∀ j, tx.getD j 0 < 128) (e : ((q <<< ((8 : Int32).toInt64 &&& 63)) ||| (nI (tx.getD k 0)).toInt64) = q2) : q2.toBitVec.toNat = wv (fun i => tx.getD (n0 + i) 0) (k + 1 - n0) := by
  have b := wv_lt (f := fun i => tx.getD (n0 + i) 0) (k - n0) (fun i _ => by have := hx (n0 + i); show tx.getD (n0 + i) 0 < 256; omega)
  have b2 : (256 : Nat) ^ (k - n0) ≤ 256 ^ 7 := Nat.pow_le_pow_right (by decide) (by omega)
  have c := hx k
  rw [← e, wd_s h (by omega) (by omega), show k + 1 - n0 = (k - n0) + 1 by omega]
  show _ = wv (fun i => tx.getD (n0 + i) 0) (k - n0) * 256 + tx.getD (n0 + (k - n0)) 0
  rw [show n0 + (k - n0) = k by omega]
set_option maxRecDepth 100000 in
set_option maxHeartbeats 400000 in
theorem c_lload {g : pr_C} {l : Launch} (hl : l.stackTraces = false) {T : pr_T} {I : pr_I} {L : pr_L} {x s u : Nat} {tx : List Nat} {σ τ φ ι : pr_I} (hS : lSt x T) (hM : lMm x I σ τ φ ι) (hO : jO s u tx T I) (hs : x + 251 ≤ s) (hu : x + 251 ≤ u) (hσ : wI σ) (hτ : wI τ) (hι : in_I ι) (hp : ∀ j, j < tx.length → 1 ≤ tx.getD j 0) (hx : ∀ j, tx.getD j 0 < 128) (hn : 1 ≤ tx.length) (h0 : ι 0 3 = 0) : pr_M g l 12 0 0 mL_load [.ref x, .ref s] T I L (lLd x tx T σ τ φ (L (x + 122 + 120))) pr_no := by
  refine pr_ofG (by decide) rfl hl (Nat.le_of_ble_eq_true rfl) (fun X hA hX hXn hXt => ?_)
  subst hX
  show pr_G g X mL_load.2.2.1 _ 0 0 0 [.ref x, .ref s, .null, .null, .null] [] T I L
  have hlen := hO.2.2.2.2.2.2
  have lp : ∀ (j k n0 : Nat) (q : Int64) (I1 : pr_I) (ι1 : pr_I), tx.length - k = j → k ≤ tx.length → lMm x I1 σ τ φ ι1 → in_I ι1 → (∀ a, x + 251 ≤ a → I1 a = I a) → TXn ι1 tx n0 → n0 ≤ k → k - n0 < 8 → (k < tx.length → n0 % 8 = 0) → (k = tx.length → n0 = k) → q.toBitVec.toNat = wv (fun i => tx.getD (n0 + i) 0) (k - n0) → pr_G g X mL_load.2.2.1 (pr_MQ g X (lLd x tx T σ τ φ (L (x + 122 + 120))) pr_no 0 0) 0 0 5 [.ref x, .ref s, .long q, .null, .int (nI k)] [] T I1 L := by
    intro j
    induction j with
    | zero =>
      intro k n0 q I1 ι1 hj hk hM1 hi1 hI1 ht a1 a2 a3 a4 hq
      have hk2 : k = tx.length := by omega
      have hn0 : n0 = tx.length := by rw [a4 hk2, hk2]
      subst hn0
      have hO1 : jO s u tx T I1 := ⟨hO.1, hO.2.1, by rw [hI1 s hs]; exact hO.2.2.1, hO.2.2.2.1, by rw [hI1 u hu]; exact hO.2.2.2.2.1, hO.2.2.2.2.2⟩
      refine pr_iload hA dL_load_5 rfl ?_
      refine pr_aload_n hA dL_load_7 rfl ?_
      refine pr_callVi hA [] (c_jln (pr_hl hA) (Or.inr ⟨u, hO1⟩)) v_L_13 hO1.1 (by decide) (q0 := (RJ0, TJ0, 4)) rfl rfl rfl (by decide) (by omega) (by omega) rfl (Nat.le_of_ble_eq_true rfl) dL_load_8 ?_
      refine pr_icmp_ge hA 65 dL_load_11 (by decide) (fun _ => ?_) (fun c_11 => absurd ((nI_leI (by omega) (by omega)).mpr (by omega)) c_11)
      refine pr_aload_n hA dL_load_65 rfl ?_
      have hL := c_fx_load (g := g) (L := L) (I := I1) (pr_hl hA) hS.2.2.2.2.2.1 hS.1 hi1 hS.2.1 hS.2.2.1 (by omega) (by omega) (by omega) hτ hσ rfl
      rw [hM1.1, hM1.2.1, hM1.2.2.2] at hL
      refine pr_callV hA rfl (As := []) hL v_L_29 hS.k (by decide) rfl rfl rfl (by decide) (by omega) (by omega) rfl (Nat.le_of_ble_eq_true rfl) dL_load_66 (fun v9 T9 I9 L9 q9 => ?_) (fun _ _ _ _ q => q.elim)
      obtain ⟨rfl, rfl, rfl, rfl⟩ := q9
      exact pr_ireturn hA rfl rfl (Nat.zero_le _) (Nat.zero_le _) dL_load_69 ⟨ι1, ht, hi1, rfl, rfl, ((hM1.w _).v _).y _⟩
    | succ j ih =>
      intro k n0 q I1 ι1 hj hk hM1 hi1 hI1 ht a1 a2 a3 a4 hq
      have hk3 : k < tx.length := by omega
      have a5 := a3 hk3
      have hO1 : jO s u tx T I1 := ⟨hO.1, hO.2.1, by rw [hI1 s hs]; exact hO.2.2.1, hO.2.2.2.1, by rw [hI1 u hu]; exact hO.2.2.2.2.1, hO.2.2.2.2.2⟩
      obtain ⟨q2, hq2⟩ : ∃ q2, ((q <<< ((8 : Int32).toInt64 &&& 63)) ||| (nI (tx.getD k 0)).toInt64) = q2 := ⟨_, rfl⟩
      have hw := ld_step hq a1 a2 hx hq2
      refine pr_iload hA dL_load_5 rfl ?_
      refine pr_aload_n hA dL_load_7 rfl ?_
      refine pr_callVi hA [] (c_jln (pr_hl hA) (Or.inr ⟨u, hO1⟩)) v_L_13 hO1.1 (by decide) (q0 := (RJ0, TJ0, 4)) rfl rfl rfl (by decide) (by omega) (by omega) rfl (Nat.le_of_ble_eq_true rfl) dL_load_8 ?_
      refine pr_icmp_ge hA 65 dL_load_11 (by decide) (fun c_11 => absurd c_11 (fun q9 => by have := (nI_leI (by omega) (by omega)).mp q9; omega)) (fun _ => ?_)
      refine pr_lload_n hA dL_load_14 rfl ?_
      refine pr_bipush hA ((8 : Int32)) dL_load_15 (by decide) ?_
      refine pr_lshl hA dL_load_17 ?_
      refine pr_aload_n hA dL_load_18 rfl ?_
      refine pr_iload hA dL_load_19 rfl ?_
      refine pr_callVi hA [.int (nI k)] (c_jca (pr_hl hA) hO1 hk3) v_L_19 hO1.1 (by decide) (q0 := (RJ0, TJ0, 4)) rfl rfl rfl (by decide) (by omega) (by omega) rfl (Nat.le_of_ble_eq_true rfl) dL_load_21 ?_
      refine pr_i2l hA dL_load_24 ?_
      refine pr_lor hA dL_load_25 ?_
      refine pr_topL (z := q2) hq2 ?_
      refine pr_lstore_n (ls' := [_, _, _, _, _]) hA dL_load_26 (by decide) rfl ?_
      have AP : (k % 8 = 7 ∨ k = tx.length - 1) → pr_G g X mL_load.2.2.1 (pr_MQ g X (lLd x tx T σ τ φ (L (x + 122 + 120))) pr_no 0 0) 0 0 51 [.ref x, .ref s, .long q2, .null, .int (nI k)] [] T I1 L := by
        intro cc
        refine pr_aload_n hA dL_load_51 rfl ?_
        refine pr_lload_n hA dL_load_52 rfl ?_
        have hL := c_fx_append (g := g) (L := L) (I := I1) (q := q2) (pr_hl hA) hS.2.2.2.2.2.1 hS.1 hi1
        rw [hM1.2.2.2] at hL
        refine pr_callVi hA [.long q2] hL v_L_23 hS.k (by decide) rfl rfl rfl (by decide) (by omega) (by omega) rfl (Nat.le_of_ble_eq_true rfl) dL_load_53 ?_
        refine pr_pop hA dL_load_56 rfl ?_
        refine pr_lconst hA 0 dL_load_57 (by decide) ?_
        refine pr_lstore_n (ls' := [_, _, _, _, _]) hA dL_load_58 (by decide) rfl ?_
        refine pr_iinc (ls' := [_, _, _, _, _]) hA (nI (k + 1)) dL_load_59 (by decide) rfl (nI_inc _) rfl ?_
        refine pr_goto hA 5 dL_load_62 (by decide) ?_
        have hT := ht.ap hw (by omega) (by omega) (fun i hi => ⟨hp _ (by omega), hx _⟩)
        refine ih (k + 1) (k + 1) 0 _ _ (by omega) (by omega) (hM1.y _) (inI_ap hi1) (fun a ha => (rg_out (by omega)).trans (hI1 a ha)) (by rw [show n0 + (k + 1 - n0) = k + 1 by omega] at hT; exact hT) (Nat.le_refl _) (by omega) (fun z => by omega) (fun _ => rfl) ?_
        rw [Nat.sub_self]; rfl
      by_cases c7 : k % 8 = 7
      · refine pr_iload hA dL_load_27 rfl ?_
        refine pr_bipush hA (nI 8) dL_load_29 (by decide) ?_
        refine pr_irem (z := nI (k % 8)) hA dL_load_31 (by decide) (jmod (by omega) (by decide)) ?_
        refine pr_bipush hA (nI 7) dL_load_32 (by decide) ?_
        refine pr_icmp_eq hA 51 dL_load_34 (by decide) (fun _ => ?_) (fun c_34 => absurd (congrArg nI c7) c_34)
        exact AP (Or.inl c7)
      · refine pr_iload hA dL_load_27 rfl ?_
        refine pr_bipush hA (nI 8) dL_load_29 (by decide) ?_
        refine pr_irem (z := nI (k % 8)) hA dL_load_31 (by decide) (jmod (by omega) (by decide)) ?_
        refine pr_bipush hA (nI 7) dL_load_32 (by decide) ?_
        refine pr_icmp_eq hA 51 dL_load_34 (by decide) (fun c_34 => absurd c_34 (fun q9 => c7 ((nI_eq (by omega) (by decide)).mp q9))) (fun _ => ?_)
        refine pr_iload hA dL_load_37 rfl ?_
        refine pr_aload_n hA dL_load_39 rfl ?_
        refine pr_callVi hA [] (c_jln (pr_hl hA) (Or.inr ⟨u, hO1⟩)) v_L_13 hO1.1 (by decide) (q0 := (RJ0, TJ0, 4)) rfl rfl rfl (by decide) (by omega) (by omega) rfl (Nat.le_of_ble_eq_true rfl) dL_load_40 ?_
        refine pr_iconst hA (nI 1) dL_load_43 (by decide) ?_
        refine pr_isub hA dL_load_44 ?_
        refine pr_topE (z := nI (tx.length - 1)) (nI_sub1 hn) ?_
        refine pr_icmp_eq hA 51 dL_load_45 (by decide) (fun c45 => ?_) (fun c45 => ?_)
        · exact AP (Or.inr ((nI_eq (by omega) (by omega)).mp c45))
        · have c8 : ¬ k = tx.length - 1 := fun z => c45 (congrArg nI z)
          refine pr_goto hA 59 dL_load_48 (by decide) ?_
          refine pr_iinc (ls' := [_, _, _, _, _]) hA (nI (k + 1)) dL_load_59 (by decide) rfl (nI_inc _) rfl ?_
          refine pr_goto hA 5 dL_load_62 (by decide) ?_
          exact ih (k + 1) n0 q2 I1 ι1 (by omega) (by omega) hM1 hi1 hI1 ht (by omega) (by omega) (fun _ => a5) (fun z => by omega) hw
  refine pr_lconst hA 0 dL_load_0 (by decide) ?_
  refine pr_lstore_n (ls' := [_, _, _, _, _]) hA dL_load_1 (by decide) rfl ?_
  refine pr_iconst hA (nI 0) dL_load_2 (by decide) ?_
  refine pr_istore (ls' := [_, _, _, _, _]) hA dL_load_3 (by decide) rfl ?_
  exact lp tx.length 0 0 0 I ι (by omega) (by omega) hM hι (fun _ _ => rfl) ⟨h0, by omega, fun j hj => absurd hj (Nat.not_lt_zero j)⟩ (Nat.le_refl _) (by omega) (fun _ => rfl) (fun z => by omega) rfl
