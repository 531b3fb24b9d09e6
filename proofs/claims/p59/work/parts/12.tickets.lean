/-! TICKETS -/
def tk_kp (σ : pr_I) (t : Nat) : Int32 := if σ 15 t = 0 then 1 else if σ 15 t = 1 then 1 else 0
/-- whether one of the tickets from k on, j of them, is promised to request h on link p -/
def tk_has (σ : pr_I) (h p : Int32) : Nat → Nat → Int32
  | 0, _ => 0
  | j + 1, k => if σ 10 k = h then (if σ 11 k = p then (if tk_kp σ k = 0 then tk_has σ h p j (k + 1) else 1) else tk_has σ h p j (k + 1)) else tk_has σ h p j (k + 1)
def tk_on (σ : pr_I) (p idx : Int32) : Nat → Nat → Int32 → Int32
  | 0, _, _ => -1
  | j + 1, k, b => if σ 11 k = p then (if tk_kp σ k = 0 then tk_on σ p idx j (k + 1) b else (if b = idx then nI k else tk_on σ p idx j (k + 1) (b + 1))) else tk_on σ p idx j (k + 1) b
def tk_cnt (σ : pr_I) (h s : Int32) : Nat → Int32
  | 0 => 0
  | k + 1 => tk_cnt σ h s k + (if σ 10 k = h then (if σ 15 k = s then (1 : Int32) else 0) else 0)
/-- the first expiry among the first k tickets -/
def tk_fe (σ : pr_I) : Nat → Int32
  | 0 => -1
  | k + 1 => if σ 15 k = 0 then (if tk_fe σ k = -1 then σ 14 k else if tk_fe σ k ≤ σ 14 k then tk_fe σ k else σ 14 k) else tk_fe σ k
def tk_poc (σ : pr_I) (h : Int32) : Nat → Int32
  | 0 => 0
  | k + 1 => if σ 10 k = h then (if σ 15 k = 0 then tk_poc σ h k + 1 else tk_poc σ h k) else tk_poc σ h k
/-- the first k tickets' expiry put off to v, if they are held and h's -/
def tk_po (σ : pr_I) (h v : Int32) : Nat → pr_I
  | 0 => σ
  | k + 1 => if σ 10 k = h then (if σ 15 k = 0 then pr_up (tk_po σ h v k) 14 k (if σ 14 k < v then v else σ 14 k) else tk_po σ h v k) else tk_po σ h v k
def tk_val (σ : pr_I) (t c : Nat) : Int32 := match c with | 0 => σ 10 t | 1 => σ 11 t | 2 => σ 12 t | 3 => σ 13 t | 4 => σ 14 t | 5 => σ 15 t | 6 => σ 16 t | _ => σ 17 t
theorem tk_po_ne {σ : pr_I} {h v : Int32} {o : Nat} (ho : o ≠ 14) : ∀ k, tk_po σ h v k o = σ o
  | 0 => rfl
  | k + 1 => by
    have ih := tk_po_ne (σ := σ) (h := h) (v := v) ho k
    unfold tk_po
    split
    · split
      · rw [pr_up_ne ho, ih]
      · exact ih
    · exact ih
theorem tk_po_ge {σ : pr_I} {h v : Int32} : ∀ k i, k ≤ i → tk_po σ h v k 14 i = σ 14 i
  | 0, i, _ => rfl
  | k + 1, i, hi => by
    have ih := tk_po_ge (σ := σ) (h := h) (v := v) k i (by omega)
    unfold tk_po
    split
    · split
      · rw [pr_up_eq]; unfold upd; rw [if_neg (by omega), ih]
      · exact ih
    · exact ih
set_option maxRecDepth 100000 in
set_option maxHeartbeats 4000000 in
theorem c_isFull {g : pr_C} {l : Launch} (hl : l.stackTraces = false) {T : pr_T} {I : pr_I} {L : pr_L} {w : Nat} {σ : pr_I} (hw : pr_W T w) : pr_M g l 1 0 0 mX5_isFull [.ref (w + 9)] T (ws_put I w σ) L (pr_R (some (.int (if σ 9 8 < 500 then 0 else 1))) T (ws_put I w σ) L) pr_no := by
  refine pr_ofG (by decide) rfl hl (Nat.le_of_ble_eq_true rfl) (fun X hA hX hXn hXt => ?_)
  subst hX
  show pr_G g X mX5_isFull.2.2.1 _ 0 0 0 [.ref (w + 9)] [] T (ws_put I w σ) L
  refine pr_aload_n hA dX5_isFull_0 rfl ?_
  refine pr_getE (v := (σ 9 8)) hA f_X5_36 rfl (wk_9 hw) (ws_val (by decide)) dX5_isFull_1 ?_
  refine pr_sipush hA (500) dX5_isFull_4 (by decide) ?_
  refine pr_join (c := (σ 9 8) < (500 : Int32)) (J := 15) (st := []) (0 : Int32) (1 : Int32) inferInstance (fun kt kf => ?_) ?_
  · refine pr_icmp_lt hA 14 dX5_isFull_7 (by decide) (fun c_7 => ?_) (fun c_7 => ?_)
    · refine pr_iconst hA (0) dX5_isFull_14 (by decide) ?_
      exact kt c_7
    · refine pr_iconst hA (1) dX5_isFull_10 (by decide) ?_
      refine pr_goto hA 15 dX5_isFull_11 (by decide) ?_
      exact kf c_7
  · exact pr_ireturn hA rfl (pr_nb (by exact pr_nbj)) (Nat.zero_le _) (Nat.zero_le _) dX5_isFull_15 ⟨rfl, rfl, rfl, rfl⟩

set_option maxRecDepth 100000 in
set_option maxHeartbeats 4000000 in
theorem c_isPromised {g : pr_C} {l : Launch} (hl : l.stackTraces = false) {T : pr_T} {I : pr_I} {L : pr_L} {w : Nat} {σ : pr_I} {k : Nat} (hw : pr_W T w) (hk : k < 500) : pr_M g l 1 0 0 mX5_isPromised [.ref (w + 9), .int (nI k)] T (ws_put I w σ) L (pr_R (some (.int (tk_kp σ k))) T (ws_put I w σ) L) pr_no := by
  refine pr_ofG (by decide) rfl hl (Nat.le_of_ble_eq_true rfl) (fun X hA hX hXn hXt => ?_)
  subst hX
  show pr_G g X mX5_isPromised.2.2.1 _ 0 0 0 [.ref (w + 9), .int (nI k)] [] T (ws_put I w σ) L
  refine pr_aload_n hA dX5_isPromised_0 rfl ?_
  refine pr_getR hA f_X5_27 rfl (wk_9 hw) (wf_9_5 hw) dX5_isPromised_1 ?_
  refine pr_iload_n hA dX5_isPromised_4 rfl ?_
  refine pr_ialdN (v := (σ 15 k)) hA (wk_15 hw) (by omega) (by decide) (ws_val (by decide)) dX5_isPromised_5 ?_
  refine pr_join (c := (σ 15 k) = 0) (J := 24) (st := []) (1 : Int32) (if (σ 15 k) = (1 : Int32) then (1 : Int32) else (0 : Int32)) inferInstance (fun kt kf => ?_) ?_
  · refine pr_if_eq hA 19 dX5_isPromised_6 (by decide) (fun c_6 => ?_) (fun c_6 => ?_)
    · refine pr_iconst hA (1) dX5_isPromised_19 (by decide) ?_
      refine pr_goto hA 24 dX5_isPromised_20 (by decide) ?_
      exact kt c_6
    · refine pr_aload_n hA dX5_isPromised_9 rfl ?_
      refine pr_getR hA f_X5_27 rfl (wk_9 hw) (wf_9_5 hw) dX5_isPromised_10 ?_
      refine pr_iload_n hA dX5_isPromised_13 rfl ?_
      refine pr_ialdN (v := (σ 15 k)) hA (wk_15 hw) (by omega) (by decide) (ws_val (by decide)) dX5_isPromised_14 ?_
      refine pr_iconst hA (1) dX5_isPromised_15 (by decide) ?_
      refine pr_join (c := (σ 15 k) = (1 : Int32)) (J := 24) (st := []) (1 : Int32) (0 : Int32) inferInstance (fun kt kf => ?_) ?_
      · refine pr_icmp_ne hA 23 dX5_isPromised_16 (by decide) (fun c_16 => ?_) (fun c_16 => ?_)
        · refine pr_iconst hA (0) dX5_isPromised_23 (by decide) ?_
          exact kf c_16
        · refine pr_iconst hA (1) dX5_isPromised_19 (by decide) ?_
          refine pr_goto hA 24 dX5_isPromised_20 (by decide) ?_
          exact kt c_16
      · exact kf c_6
  · exact pr_ireturn hA rfl (pr_nb (by (by_cases h1 : σ 15 k = 0 <;> by_cases h2 : σ 15 k = 1 <;> simp [h1, h2]))) (Nat.zero_le _) (Nat.zero_le _) dX5_isPromised_24 ⟨rfl, rfl, rfl, rfl⟩

set_option maxRecDepth 100000 in
set_option maxHeartbeats 4000000 in
theorem c_hasPromiseOn {g : pr_C} {l : Launch} (hl : l.stackTraces = false) {T : pr_T} {I : pr_I} {L : pr_L} {w : Nat} {σ : pr_I} {h p : Int32} {n : Nat} (hn : σ 9 8 = nI n) (hn5 : n ≤ 500) (hw : pr_W T w) : pr_M g l 2 0 0 mX5_hasPromiseOn [.ref (w + 9), .int h, .int p] T (ws_put I w σ) L (pr_R (some (.int (tk_has σ h p n 0))) T (ws_put I w σ) L) pr_no := by
  refine pr_ofG (by decide) rfl hl (Nat.le_of_ble_eq_true rfl) (fun X hA hX hXn hXt => ?_)
  subst hX
  show pr_G g X mX5_hasPromiseOn.2.2.1 _ 0 0 0 [.ref (w + 9), .int h, .int p, .null] [] T (ws_put I w σ) L
  refine pr_iconst hA (nI 0) dX5_hasPromiseOn_0 (by decide) ?_
  refine pr_istore_n (ls' := [_, _, _, _]) hA dX5_hasPromiseOn_1 (by decide) rfl ?_
  have lp2 : ∀ (j k : Nat), n - k = j → k ≤ n → tk_has σ h p (n - k) k = tk_has σ h p n 0 → pr_G g X mX5_hasPromiseOn.2.2.1 (pr_MQ g X (pr_R (some (.int (tk_has σ h p n 0))) T (ws_put I w σ) L) pr_no 0 0) 0 0 2 [.ref (w + 9), .int h, .int p, .int (nI k)] [] T (ws_put I w σ) L := by
    intro j
    induction j using Nat.strongRecOn with | ind j ih =>
    intro k hj hkn hx
    refine pr_iload_n hA dX5_hasPromiseOn_2 rfl ?_
    refine pr_aload_n hA dX5_hasPromiseOn_3 rfl ?_
    refine pr_getE (v := (nI n)) hA f_X5_36 rfl (wk_9 hw) ((ws_val (by decide)).trans hn) dX5_hasPromiseOn_4 ?_
    refine pr_icmp_ge hA 46 dX5_hasPromiseOn_7 (by decide) (fun c_7 => ?_) (fun c_7 => ?_)
    · have n_7 : n ≤ k := (nI_leI (by omega) (by omega)).mp c_7
      have hex : k = n := by omega
      subst hex
      refine pr_iconst hA (0) dX5_hasPromiseOn_46 (by decide) ?_
      exact pr_ireturn hA rfl (pr_nb (by decide)) (Nat.zero_le _) (Nat.zero_le _) dX5_hasPromiseOn_47 ⟨by rw [← hx, Nat.sub_self]; rfl, rfl, rfl, rfl⟩
    · have n_7 : ¬ n ≤ k := fun q => c_7 ((nI_leI (by omega) (by omega)).mpr q)
      refine pr_aload_n hA dX5_hasPromiseOn_10 rfl ?_
      refine pr_getR hA f_X5_9 rfl (wk_9 hw) (wf_9_0 hw) dX5_hasPromiseOn_11 ?_
      refine pr_iload_n hA dX5_hasPromiseOn_14 rfl ?_
      refine pr_ialdN (v := (σ 10 k)) hA (wk_10 hw) (by omega) (by decide) (ws_val (by decide)) dX5_hasPromiseOn_15 ?_
      refine pr_iload_n hA dX5_hasPromiseOn_16 rfl ?_
      refine pr_icmp_ne hA 40 dX5_hasPromiseOn_17 (by decide) (fun c_17 => ?_) (fun c_17 => ?_)
      · refine pr_iinc (ls' := [_, _, _, _]) hA (nI (k + 1)) dX5_hasPromiseOn_40 (by decide) rfl (nI_inc _) rfl ?_
        refine pr_goto hA 2 dX5_hasPromiseOn_43 (by decide) ?_
        exact ih (n - (k + 1)) (by omega) (k + 1) rfl (by omega) (by rw [← hx, show n - k = (n - (k + 1)) + 1 from by omega]; simp only [tk_has, if_neg c_7, if_neg c_17])
      · refine pr_aload_n hA dX5_hasPromiseOn_20 rfl ?_
        refine pr_getR hA f_X5_15 rfl (wk_9 hw) (wf_9_1 hw) dX5_hasPromiseOn_21 ?_
        refine pr_iload_n hA dX5_hasPromiseOn_24 rfl ?_
        refine pr_ialdN (v := (σ 11 k)) hA (wk_11 hw) (by omega) (by decide) (ws_val (by decide)) dX5_hasPromiseOn_25 ?_
        refine pr_iload_n hA dX5_hasPromiseOn_26 rfl ?_
        refine pr_icmp_ne hA 40 dX5_hasPromiseOn_27 (by decide) (fun c_27 => ?_) (fun c_27 => ?_)
        · refine pr_iinc (ls' := [_, _, _, _]) hA (nI (k + 1)) dX5_hasPromiseOn_40 (by decide) rfl (nI_inc _) rfl ?_
          refine pr_goto hA 2 dX5_hasPromiseOn_43 (by decide) ?_
          exact ih (n - (k + 1)) (by omega) (k + 1) rfl (by omega) (by rw [← hx, show n - k = (n - (k + 1)) + 1 from by omega]; simp only [tk_has, if_neg c_7, if_pos c_17, if_neg c_27])
        · refine pr_aload_n hA dX5_hasPromiseOn_30 rfl ?_
          refine pr_iload_n hA dX5_hasPromiseOn_31 rfl ?_
          refine pr_callVi hA [.int (nI k)] (c_isPromised (pr_hl hA) hw (by omega)) v_X5_40 (wk_9 hw) (by decide) rfl rfl rfl (by decide) (Nat.zero_le _) (Nat.zero_le _) rfl (Nat.le_of_ble_eq_true rfl) dX5_hasPromiseOn_32 ?_
          refine pr_if_eq hA 40 dX5_hasPromiseOn_35 (by decide) (fun c_35 => ?_) (fun c_35 => ?_)
          · refine pr_iinc (ls' := [_, _, _, _]) hA (nI (k + 1)) dX5_hasPromiseOn_40 (by decide) rfl (nI_inc _) rfl ?_
            refine pr_goto hA 2 dX5_hasPromiseOn_43 (by decide) ?_
            exact ih (n - (k + 1)) (by omega) (k + 1) rfl (by omega) (by rw [← hx, show n - k = (n - (k + 1)) + 1 from by omega]; simp only [tk_has, if_neg c_7, if_pos c_17, if_pos c_27, if_pos c_35])
          · refine pr_iconst hA (1) dX5_hasPromiseOn_38 (by decide) ?_
            exact pr_ireturn hA rfl (pr_nb (by decide)) (Nat.zero_le _) (Nat.zero_le _) dX5_hasPromiseOn_39 ⟨by rw [← hx, show n - k = (n - (k + 1)) + 1 from by omega]; simp only [tk_has, if_neg c_7, if_pos c_17, if_pos c_27, if_neg c_35], rfl, rfl, rfl⟩
  exact lp2 (n - 0) 0 rfl (by omega) (by rw [Nat.sub_zero])

set_option maxRecDepth 100000 in
set_option maxHeartbeats 4000000 in
theorem c_promisedOn {g : pr_C} {l : Launch} (hl : l.stackTraces = false) {T : pr_T} {I : pr_I} {L : pr_L} {w : Nat} {σ : pr_I} {p idx : Int32} {n : Nat} (hn : σ 9 8 = nI n) (hn5 : n ≤ 500) (hw : pr_W T w) : pr_M g l 2 0 0 mX5_promisedOn [.ref (w + 9), .int p, .int idx] T (ws_put I w σ) L (pr_R (some (.int (tk_on σ p idx n 0 0))) T (ws_put I w σ) L) pr_no := by
  refine pr_ofG (by decide) rfl hl (Nat.le_of_ble_eq_true rfl) (fun X hA hX hXn hXt => ?_)
  subst hX
  show pr_G g X mX5_promisedOn.2.2.1 _ 0 0 0 [.ref (w + 9), .int p, .int idx, .null, .null] [] T (ws_put I w σ) L
  refine pr_iconst hA (0) dX5_promisedOn_0 (by decide) ?_
  refine pr_istore_n (ls' := [_, _, _, _, _]) hA dX5_promisedOn_1 (by decide) rfl ?_
  refine pr_iconst hA (nI 0) dX5_promisedOn_2 (by decide) ?_
  refine pr_istore (ls' := [_, _, _, _, _]) hA dX5_promisedOn_3 (by decide) rfl ?_
  have lp5 : ∀ (j k : Nat) (b : Int32), n - k = j → k ≤ n → tk_on σ p idx (n - k) k b = tk_on σ p idx n 0 0 → pr_G g X mX5_promisedOn.2.2.1 (pr_MQ g X (pr_R (some (.int (tk_on σ p idx n 0 0))) T (ws_put I w σ) L) pr_no 0 0) 0 0 5 [.ref (w + 9), .int p, .int idx, .int b, .int (nI k)] [] T (ws_put I w σ) L := by
    intro j
    induction j using Nat.strongRecOn with | ind j ih =>
    intro k b hj hkn hx
    refine pr_iload hA dX5_promisedOn_5 rfl ?_
    refine pr_aload_n hA dX5_promisedOn_7 rfl ?_
    refine pr_getE (v := (nI n)) hA f_X5_36 rfl (wk_9 hw) ((ws_val (by decide)).trans hn) dX5_promisedOn_8 ?_
    refine pr_icmp_ge hA 51 dX5_promisedOn_11 (by decide) (fun c_11 => ?_) (fun c_11 => ?_)
    · have n_11 : n ≤ k := (nI_leI (by omega) (by omega)).mp c_11
      have hex : k = n := by omega
      subst hex
      refine pr_iconst hA ((-1)) dX5_promisedOn_51 (by decide) ?_
      exact pr_ireturn hA rfl rfl (Nat.zero_le _) (Nat.zero_le _) dX5_promisedOn_52 ⟨by rw [← hx, Nat.sub_self]; rfl, rfl, rfl, rfl⟩
    · have n_11 : ¬ n ≤ k := fun q => c_11 ((nI_leI (by omega) (by omega)).mpr q)
      refine pr_aload_n hA dX5_promisedOn_14 rfl ?_
      refine pr_getR hA f_X5_15 rfl (wk_9 hw) (wf_9_1 hw) dX5_promisedOn_15 ?_
      refine pr_iload hA dX5_promisedOn_18 rfl ?_
      refine pr_ialdN (v := (σ 11 k)) hA (wk_11 hw) (by omega) (by decide) (ws_val (by decide)) dX5_promisedOn_20 ?_
      refine pr_iload_n hA dX5_promisedOn_21 rfl ?_
      refine pr_icmp_ne hA 45 dX5_promisedOn_22 (by decide) (fun c_22 => ?_) (fun c_22 => ?_)
      · refine pr_iinc (ls' := [_, _, _, _, _]) hA (nI (k + 1)) dX5_promisedOn_45 (by decide) rfl (nI_inc _) rfl ?_
        refine pr_goto hA 5 dX5_promisedOn_48 (by decide) ?_
        exact ih (n - (k + 1)) (by omega) (k + 1) _ rfl (by omega) (by rw [← hx, show n - k = (n - (k + 1)) + 1 from by omega]; simp only [tk_on, if_neg c_11, if_neg c_22]; try rfl)
      · refine pr_aload_n hA dX5_promisedOn_25 rfl ?_
        refine pr_iload hA dX5_promisedOn_26 rfl ?_
        refine pr_callVi hA [.int (nI k)] (c_isPromised (pr_hl hA) hw (by omega)) v_X5_40 (wk_9 hw) (by decide) rfl rfl rfl (by decide) (Nat.zero_le _) (Nat.zero_le _) rfl (Nat.le_of_ble_eq_true rfl) dX5_promisedOn_28 ?_
        refine pr_if_eq hA 45 dX5_promisedOn_31 (by decide) (fun c_31 => ?_) (fun c_31 => ?_)
        · refine pr_iinc (ls' := [_, _, _, _, _]) hA (nI (k + 1)) dX5_promisedOn_45 (by decide) rfl (nI_inc _) rfl ?_
          refine pr_goto hA 5 dX5_promisedOn_48 (by decide) ?_
          exact ih (n - (k + 1)) (by omega) (k + 1) _ rfl (by omega) (by rw [← hx, show n - k = (n - (k + 1)) + 1 from by omega]; simp only [tk_on, if_neg c_11, if_pos c_22, if_pos c_31]; try rfl)
        · refine pr_iload_n hA dX5_promisedOn_34 rfl ?_
          refine pr_iload_n hA dX5_promisedOn_35 rfl ?_
          refine pr_icmp_ne hA 42 dX5_promisedOn_36 (by decide) (fun c_36 => ?_) (fun c_36 => ?_)
          · refine pr_iinc (ls' := [_, _, _, _, _]) hA (b + Int32.ofInt (1)) dX5_promisedOn_42 (by decide) rfl rfl rfl ?_
            refine pr_iinc (ls' := [_, _, _, _, _]) hA (nI (k + 1)) dX5_promisedOn_45 (by decide) rfl (nI_inc _) rfl ?_
            refine pr_goto hA 5 dX5_promisedOn_48 (by decide) ?_
            exact ih (n - (k + 1)) (by omega) (k + 1) _ rfl (by omega) (by rw [← hx, show n - k = (n - (k + 1)) + 1 from by omega]; simp only [tk_on, if_neg c_11, if_pos c_22, if_neg c_31, if_neg c_36]; try rfl)
          · refine pr_iload hA dX5_promisedOn_39 rfl ?_
            exact pr_ireturn hA rfl rfl (Nat.zero_le _) (Nat.zero_le _) dX5_promisedOn_41 ⟨by rw [← hx, show n - k = (n - (k + 1)) + 1 from by omega]; simp only [tk_on, if_neg c_11, if_pos c_22, if_neg c_31, if_pos c_36], rfl, rfl, rfl⟩
  exact lp5 n 0 0 rfl (by omega) (by rw [Nat.sub_zero])

set_option maxRecDepth 100000 in
set_option maxHeartbeats 4000000 in
theorem c_firstExpiry {g : pr_C} {l : Launch} (hl : l.stackTraces = false) {T : pr_T} {I : pr_I} {L : pr_L} {w : Nat} {σ : pr_I} {n : Nat} (hn : σ 9 8 = nI n) (hn5 : n ≤ 500) (hw : pr_W T w) : pr_M g l 1 0 0 mX5_firstExpiry [.ref (w + 9)] T (ws_put I w σ) L (pr_R (some (.int (tk_fe σ n))) T (ws_put I w σ) L) pr_no := by
  refine pr_ofG (by decide) rfl hl (Nat.le_of_ble_eq_true rfl) (fun X hA hX hXn hXt => ?_)
  subst hX
  show pr_G g X mX5_firstExpiry.2.2.1 _ 0 0 0 [.ref (w + 9), .null, .null] [] T (ws_put I w σ) L
  refine pr_iconst hA ((-1)) dX5_firstExpiry_0 (by decide) ?_
  refine pr_istore_n (ls' := [_, _, _]) hA dX5_firstExpiry_1 (by decide) rfl ?_
  refine pr_iconst hA (nI 0) dX5_firstExpiry_2 (by decide) ?_
  refine pr_istore_n (ls' := [_, _, _]) hA dX5_firstExpiry_3 (by decide) rfl ?_
  have lp4 : ∀ (j k : Nat), n - k = j → k ≤ n → pr_G g X mX5_firstExpiry.2.2.1 (pr_MQ g X (pr_R (some (.int (tk_fe σ n))) T (ws_put I w σ) L) pr_no 0 0) 0 0 4 [.ref (w + 9), .int (tk_fe σ k), .int (nI k)] [] T (ws_put I w σ) L := by
    intro j
    induction j using Nat.strongRecOn with | ind j ih =>
    intro k hj hkn
    refine pr_iload_n hA dX5_firstExpiry_4 rfl ?_
    refine pr_aload_n hA dX5_firstExpiry_5 rfl ?_
    refine pr_getE (v := (nI n)) hA f_X5_36 rfl (wk_9 hw) ((ws_val (by decide)).trans hn) dX5_firstExpiry_6 ?_
    refine pr_icmp_ge hA 49 dX5_firstExpiry_9 (by decide) (fun c_9 => ?_) (fun c_9 => ?_)
    · have n_9 : n ≤ k := (nI_leI (by omega) (by omega)).mp c_9
      have hex : k = n := by omega
      subst hex
      refine pr_iload_n hA dX5_firstExpiry_49 rfl ?_
      exact pr_ireturn hA rfl rfl (Nat.zero_le _) (Nat.zero_le _) dX5_firstExpiry_50 ⟨rfl, rfl, rfl, rfl⟩
    · have n_9 : ¬ n ≤ k := fun q => c_9 ((nI_leI (by omega) (by omega)).mpr q)
      refine pr_aload_n hA dX5_firstExpiry_12 rfl ?_
      refine pr_getR hA f_X5_27 rfl (wk_9 hw) (wf_9_5 hw) dX5_firstExpiry_13 ?_
      refine pr_iload_n hA dX5_firstExpiry_16 rfl ?_
      refine pr_ialdN (v := (σ 15 k)) hA (wk_15 hw) (by omega) (by decide) (ws_val (by decide)) dX5_firstExpiry_17 ?_
      refine pr_if_ne hA 43 dX5_firstExpiry_18 (by decide) (fun c_18 => ?_) (fun c_18 => ?_)
      · refine pr_iinc (ls' := [_, _, _]) hA (nI (k + 1)) dX5_firstExpiry_43 (by decide) rfl (nI_inc _) rfl ?_
        refine pr_goto hA 4 dX5_firstExpiry_46 (by decide) ?_
        have hb := ih (n - (k + 1)) (by omega) (k + 1) rfl (by omega)
        simp only [tk_fe, if_neg c_9, if_neg c_18] at hb
        exact hb
      · refine pr_iload_n hA dX5_firstExpiry_21 rfl ?_
        refine pr_iconst hA ((-1)) dX5_firstExpiry_22 (by decide) ?_
        refine pr_icmp_eq hA 36 dX5_firstExpiry_23 (by decide) (fun c_23 => ?_) (fun c_23 => ?_)
        · refine pr_aload_n hA dX5_firstExpiry_36 rfl ?_
          refine pr_getR hA f_X5_24 rfl (wk_9 hw) (wf_9_4 hw) dX5_firstExpiry_37 ?_
          refine pr_iload_n hA dX5_firstExpiry_40 rfl ?_
          refine pr_ialdN (v := (σ 14 k)) hA (wk_14 hw) (by omega) (by decide) (ws_val (by decide)) dX5_firstExpiry_41 ?_
          refine pr_istore_n (ls' := [_, _, _]) hA dX5_firstExpiry_42 (by decide) rfl ?_
          refine pr_iinc (ls' := [_, _, _]) hA (nI (k + 1)) dX5_firstExpiry_43 (by decide) rfl (nI_inc _) rfl ?_
          refine pr_goto hA 4 dX5_firstExpiry_46 (by decide) ?_
          have hb := ih (n - (k + 1)) (by omega) (k + 1) rfl (by omega)
          simp only [tk_fe, if_neg c_9, if_pos c_18, if_pos c_23] at hb
          exact hb
        · refine pr_aload_n hA dX5_firstExpiry_26 rfl ?_
          refine pr_getR hA f_X5_24 rfl (wk_9 hw) (wf_9_4 hw) dX5_firstExpiry_27 ?_
          refine pr_iload_n hA dX5_firstExpiry_30 rfl ?_
          refine pr_ialdN (v := (σ 14 k)) hA (wk_14 hw) (by omega) (by decide) (ws_val (by decide)) dX5_firstExpiry_31 ?_
          refine pr_iload_n hA dX5_firstExpiry_32 rfl ?_
          refine pr_icmp_ge hA 43 dX5_firstExpiry_33 (by decide) (fun c_33 => ?_) (fun c_33 => ?_)
          · refine pr_iinc (ls' := [_, _, _]) hA (nI (k + 1)) dX5_firstExpiry_43 (by decide) rfl (nI_inc _) rfl ?_
            refine pr_goto hA 4 dX5_firstExpiry_46 (by decide) ?_
            have hb := ih (n - (k + 1)) (by omega) (k + 1) rfl (by omega)
            simp only [tk_fe, if_neg c_9, if_pos c_18, if_neg c_23, if_pos c_33] at hb
            exact hb
          · refine pr_aload_n hA dX5_firstExpiry_36 rfl ?_
            refine pr_getR hA f_X5_24 rfl (wk_9 hw) (wf_9_4 hw) dX5_firstExpiry_37 ?_
            refine pr_iload_n hA dX5_firstExpiry_40 rfl ?_
            refine pr_ialdN (v := (σ 14 k)) hA (wk_14 hw) (by omega) (by decide) (ws_val (by decide)) dX5_firstExpiry_41 ?_
            refine pr_istore_n (ls' := [_, _, _]) hA dX5_firstExpiry_42 (by decide) rfl ?_
            refine pr_iinc (ls' := [_, _, _]) hA (nI (k + 1)) dX5_firstExpiry_43 (by decide) rfl (nI_inc _) rfl ?_
            refine pr_goto hA 4 dX5_firstExpiry_46 (by decide) ?_
            have hb := ih (n - (k + 1)) (by omega) (k + 1) rfl (by omega)
            simp only [tk_fe, if_neg c_9, if_pos c_18, if_neg c_23, if_neg c_33] at hb
            exact hb
  exact lp4 (n - 0) 0 rfl (by omega)

set_option maxRecDepth 100000 in
set_option maxHeartbeats 4000000 in
theorem c_tvalue {g : pr_C} {l : Launch} (hl : l.stackTraces = false) {T : pr_T} {I : pr_I} {L : pr_L} {w : Nat} {σ : pr_I} {k c : Nat} (hw : pr_W T w) (hk : k < 500) (hc : c ≤ 7) : pr_M g l 1 0 0 mX5_value [.ref (w + 9), .int (nI k), .int (nI c)] T (ws_put I w σ) L (pr_R (some (.int (tk_val σ k c))) T (ws_put I w σ) L) pr_no := by
  refine pr_ofG (by decide) rfl hl (Nat.le_of_ble_eq_true rfl) (fun X hA hX hXn hXt => ?_)
  subst hX
  show pr_G g X mX5_value.2.2.1 _ 0 0 0 [.ref (w + 9), .int (nI k), .int (nI c)] [] T (ws_put I w σ) L
  refine pr_iload_n hA dX5_value_0 rfl ?_
  rcases (by omega : c = 0 ∨ c = 1 ∨ c = 2 ∨ c = 3 ∨ c = 4 ∨ c = 5 ∨ c = 6 ∨ c = 7) with rfl | rfl | rfl | rfl | rfl | rfl | rfl | rfl
  · refine pr_tableIn (off := 43) hA 44 dX5_value_1 (by decide) (by decide) (by decide +kernel) (by decide) ?_
    refine pr_aload_n hA dX5_value_44 rfl ?_
    refine pr_getR hA f_X5_9 rfl (wk_9 hw) (wf_9_0 hw) dX5_value_45 ?_
    refine pr_iload_n hA dX5_value_48 rfl ?_
    refine pr_ialdN (v := (σ 10 k)) hA (wk_10 hw) (by omega) (by decide) (ws_val (by decide)) dX5_value_49 ?_
    exact pr_ireturn hA rfl rfl (Nat.zero_le _) (Nat.zero_le _) dX5_value_50 ⟨rfl, rfl, rfl, rfl⟩
  · refine pr_tableIn (off := 50) hA 51 dX5_value_1 (by decide) (by decide) (by decide +kernel) (by decide) ?_
    refine pr_aload_n hA dX5_value_51 rfl ?_
    refine pr_getR hA f_X5_15 rfl (wk_9 hw) (wf_9_1 hw) dX5_value_52 ?_
    refine pr_iload_n hA dX5_value_55 rfl ?_
    refine pr_ialdN (v := (σ 11 k)) hA (wk_11 hw) (by omega) (by decide) (ws_val (by decide)) dX5_value_56 ?_
    exact pr_ireturn hA rfl rfl (Nat.zero_le _) (Nat.zero_le _) dX5_value_57 ⟨rfl, rfl, rfl, rfl⟩
  · refine pr_tableIn (off := 57) hA 58 dX5_value_1 (by decide) (by decide) (by decide +kernel) (by decide) ?_
    refine pr_aload_n hA dX5_value_58 rfl ?_
    refine pr_getR hA f_X5_18 rfl (wk_9 hw) (wf_9_2 hw) dX5_value_59 ?_
    refine pr_iload_n hA dX5_value_62 rfl ?_
    refine pr_ialdN (v := (σ 12 k)) hA (wk_12 hw) (by omega) (by decide) (ws_val (by decide)) dX5_value_63 ?_
    exact pr_ireturn hA rfl rfl (Nat.zero_le _) (Nat.zero_le _) dX5_value_64 ⟨rfl, rfl, rfl, rfl⟩
  · refine pr_tableIn (off := 64) hA 65 dX5_value_1 (by decide) (by decide) (by decide +kernel) (by decide) ?_
    refine pr_aload_n hA dX5_value_65 rfl ?_
    refine pr_getR hA f_X5_21 rfl (wk_9 hw) (wf_9_3 hw) dX5_value_66 ?_
    refine pr_iload_n hA dX5_value_69 rfl ?_
    refine pr_ialdN (v := (σ 13 k)) hA (wk_13 hw) (by omega) (by decide) (ws_val (by decide)) dX5_value_70 ?_
    exact pr_ireturn hA rfl rfl (Nat.zero_le _) (Nat.zero_le _) dX5_value_71 ⟨rfl, rfl, rfl, rfl⟩
  · refine pr_tableIn (off := 71) hA 72 dX5_value_1 (by decide) (by decide) (by decide +kernel) (by decide) ?_
    refine pr_aload_n hA dX5_value_72 rfl ?_
    refine pr_getR hA f_X5_24 rfl (wk_9 hw) (wf_9_4 hw) dX5_value_73 ?_
    refine pr_iload_n hA dX5_value_76 rfl ?_
    refine pr_ialdN (v := (σ 14 k)) hA (wk_14 hw) (by omega) (by decide) (ws_val (by decide)) dX5_value_77 ?_
    exact pr_ireturn hA rfl rfl (Nat.zero_le _) (Nat.zero_le _) dX5_value_78 ⟨rfl, rfl, rfl, rfl⟩
  · refine pr_tableIn (off := 78) hA 79 dX5_value_1 (by decide) (by decide) (by decide +kernel) (by decide) ?_
    refine pr_aload_n hA dX5_value_79 rfl ?_
    refine pr_getR hA f_X5_27 rfl (wk_9 hw) (wf_9_5 hw) dX5_value_80 ?_
    refine pr_iload_n hA dX5_value_83 rfl ?_
    refine pr_ialdN (v := (σ 15 k)) hA (wk_15 hw) (by omega) (by decide) (ws_val (by decide)) dX5_value_84 ?_
    exact pr_ireturn hA rfl rfl (Nat.zero_le _) (Nat.zero_le _) dX5_value_85 ⟨rfl, rfl, rfl, rfl⟩
  · refine pr_tableIn (off := 85) hA 86 dX5_value_1 (by decide) (by decide) (by decide +kernel) (by decide) ?_
    refine pr_aload_n hA dX5_value_86 rfl ?_
    refine pr_getR hA f_X5_30 rfl (wk_9 hw) (wf_9_6 hw) dX5_value_87 ?_
    refine pr_iload_n hA dX5_value_90 rfl ?_
    refine pr_ialdN (v := (σ 16 k)) hA (wk_16 hw) (by omega) (by decide) (ws_val (by decide)) dX5_value_91 ?_
    exact pr_ireturn hA rfl rfl (Nat.zero_le _) (Nat.zero_le _) dX5_value_92 ⟨rfl, rfl, rfl, rfl⟩
  · refine pr_tableOut hA 93 dX5_value_1 (by decide) (by decide) ?_
    refine pr_aload_n hA dX5_value_93 rfl ?_
    refine pr_getR hA f_X5_33 rfl (wk_9 hw) (wf_9_7 hw) dX5_value_94 ?_
    refine pr_iload_n hA dX5_value_97 rfl ?_
    refine pr_ialdN (v := (σ 17 k)) hA (wk_17 hw) (by omega) (by decide) (ws_val (by decide)) dX5_value_98 ?_
    exact pr_ireturn hA rfl rfl (Nat.zero_le _) (Nat.zero_le _) dX5_value_99 ⟨rfl, rfl, rfl, rfl⟩

