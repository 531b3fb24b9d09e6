/-! THE FLOW -/
section PRL
variable {g : pr_C} {X : pr_X} {M : pr_MD} {d mc ms : Nat} {nL : Nat} {Q : State → Prop} {cs sl pc : Nat} {ls st : List Value} {T : pr_T} {I : pr_I} {L : pr_L}
theorem pr_alen (hA : pr_Am g X M d mc ms) {a n : Nat} (ha : T.2.1 a = (20, n)) (hd : decode M.2.1 pc = .ok (.arraylength, 1)) (kk : pr_G g X nL Q cs sl (pc + 1) ls (.int (nI n) :: st) T I L) : pr_G g X nL Q cs sl pc ls (.ref a :: st) T I L := by
  obtain ⟨p, l, e, R, s, m, args, below, meth, c⟩ := X
  intro H locs lsS hR hl hS
  have hat := (hR.2.2 a _ (pr_ent_i (g := g) (I := I) (L := L) (Or.inl rfl) ha)).2
  have hP : va_P (pr_D g) vwCl [(a, .inl (pr_ca g 20, n, .inl (I a)))] H := fun j q hq => by rw [pr_one hq]; exact hat
  exact va_alen hA.1 hA.2.1 hA.2.2.2.2.2.1 hP 0 0 rfl rfl rfl hd (kk H locs lsS hR hl hS)
end PRL
noncomputable def fl_row (v : Int32) (h : Nat → Int32) (n : Nat) : Nat → Int32 := fun j => if j < n then v else h j
theorem fl_step {v : Int32} {h : Nat → Int32} {φ : pr_I} {o k : Nat} : pr_up (pr_row φ o (fl_row v h k)) o k v = pr_row φ o (fl_row v h (k + 1)) := by
  funext b j
  unfold pr_up pr_row fl_row
  by_cases hb : b = o
  · subst hb
    by_cases hj : j = k
    · subst hj; simp
    · have : (j < k + 1) ↔ (j < k) := by omega
      simp [hj, this]
  · simp [hb]
theorem fl_zero {v : Int32} {h : Nat → Int32} : fl_row v h 0 = h := by funext j; simp [fl_row]
theorem pr_row_self {φ : pr_I} {o : Nat} : pr_row φ o (φ o) = φ := by funext b; unfold pr_row; split <;> simp [*]
set_option maxRecDepth 100000 in
set_option maxHeartbeats 4000000 in
theorem c_fill {g : pr_C} {l : Launch} (hl : l.stackTraces = false) {T : pr_T} {I : pr_I} {L : pr_L} {a n : Nat} {v : Int32} (ha : T.2.1 a = (20, n)) (hn5 : n ≤ 5000) : pr_M g l 1 0 0 mJ7_fill_53178 [.ref a, .int v] T I L (pr_R none T (pr_row I a (fl_row v (I a) n)) L) pr_no := by
  refine pr_ofG (by decide) rfl hl (Nat.le_of_ble_eq_true rfl) (fun X hA hX hXn hXt => ?_)
  subst hX
  show pr_G g X mJ7_fill_53178.2.2.1 _ 0 0 0 [.ref a, .int v, .null, .null] [] T I L
  refine pr_iconst hA (nI 0) dJ7_fill_53178_0 (by decide) ?_
  refine pr_istore_n (ls' := [_, _, _, _]) hA dJ7_fill_53178_1 (by decide) rfl ?_
  refine pr_aload_n hA dJ7_fill_53178_2 rfl ?_
  refine pr_alen hA ha dJ7_fill_53178_3 ?_
  refine pr_istore_n (ls' := [_, _, _, _]) hA dJ7_fill_53178_4 (by decide) rfl ?_
  have lp5 : ∀ (j k : Nat), n - k = j → k ≤ n → pr_G g X mJ7_fill_53178.2.2.1 (pr_MQ g X (pr_R none T (pr_row I a (fl_row v (I a) n)) L) pr_no 0 0) 0 0 5 [.ref a, .int v, .int (nI k), .int (nI n)] [] T (pr_row I a (fl_row v (I a) k)) L := by
    intro j
    induction j using Nat.strongRecOn with | ind j ih =>
    intro k hj hkn
    refine pr_iload_n hA dJ7_fill_53178_5 rfl ?_
    refine pr_iload_n hA dJ7_fill_53178_6 rfl ?_
    refine pr_icmp_ge hA 20 dJ7_fill_53178_7 (by decide) (fun c_7 => ?_) (fun c_7 => ?_)
    · have n_7 : n ≤ k := (nI_leI (by omega) (by omega)).mp c_7
      have e : k = n := by omega
      subst e
      exact pr_return hA rfl (Nat.zero_le _) (Nat.zero_le _) dJ7_fill_53178_20 ⟨rfl, rfl, rfl, rfl⟩
    · have n_7 : ¬ n ≤ k := fun q => c_7 ((nI_leI (by omega) (by omega)).mpr q)
      refine pr_aload_n hA dJ7_fill_53178_10 rfl ?_
      refine pr_iload_n hA dJ7_fill_53178_11 rfl ?_
      refine pr_iload_n hA dJ7_fill_53178_12 rfl ?_
      refine pr_iastN (I' := (pr_row I a (fl_row v (I a) (k + 1)))) hA ha (by omega) (by omega) fl_step dJ7_fill_53178_13 ?_
      refine pr_iinc (ls' := [_, _, _, _]) hA (nI (k + 1)) dJ7_fill_53178_14 (by decide) rfl (nI_inc _) rfl ?_
      refine pr_goto hA 5 dJ7_fill_53178_17 (by decide) ?_
      exact ih (n - (k + 1)) (by omega) (k + 1) rfl (by omega)
  exact (by have h0 := lp5 n 0 rfl (by omega); rw [fl_zero, pr_row_self] at h0; exact h0)

theorem c_fillE {g : pr_C} {l : Launch} (hl : l.stackTraces = false) {T : pr_T} {I I' : pr_I} {L : pr_L} {a n : Nat} {v : Int32} {h : Nat → Int32} (ha : T.2.1 a = (20, n)) (hn5 : n ≤ 5000) (hh : I a = h) (hu : pr_row I a (fl_row v h n) = I') : pr_M g l 1 0 0 mJ7_fill_53178 [.ref a, .int v] T I L (pr_R none T I' L) pr_no := by
  subst hh; subst hu; exact c_fill hl ha hn5
noncomputable def fl_av_it2 (σ : pr_I) (τ : pr_I) (nl : Nat) : Nat → pr_I
  | 0 => σ
  | k + 1 => (pr_up (fl_av_it2 σ τ nl k) 1 k (if (if lk_up τ k = 0 then (0 : Int32) else 1) = 0 then (0 : Int32) else (lk_av τ k)))
theorem fr_fl_av_it2 {σ : pr_I} {τ : pr_I} {nl : Nat} {o : Nat} (hms : ∀ m ∈ ([1] : List Nat), o ≠ m) : ∀ {k : Nat}, (fl_av_it2 σ τ nl k) o = σ o := by
  simp only [List.mem_cons, List.not_mem_nil, or_false, forall_eq_or_imp, forall_eq] at hms
  intro k
  induction k with
  | zero =>
    show σ o = σ o
    rfl
  | succ k ih =>
    show (pr_up (fl_av_it2 σ τ nl k) 1 k (if (if lk_up τ k = 0 then (0 : Int32) else 1) = 0 then (0 : Int32) else (lk_av τ k))) o = σ o
    rw [pr_up_ne (by omega), ih]

noncomputable def fl_av (σ : pr_I) (τ : pr_I) (nl : Nat) : pr_I := (fl_av_it2 σ τ nl nl)
set_option maxRecDepth 100000 in
set_option maxHeartbeats 4000000 in
theorem c_fl_av {g : pr_C} {l : Launch} (hl : l.stackTraces = false) {T : pr_T} {I : pr_I} {L : pr_L} {f : Nat} {σ : pr_I} {τ : pr_I} {nl : Nat} (hf : pr_Fl T f) {v : Nat} (hv : pr_W T v) (hdis : f + 5 ≤ v ∨ v + 121 ≤ f) (hnl : τ 1 8 = nI nl) (hnl24 : nl ≤ 24) (hL : ∀ k, k < nl → vp_in (τ 2 k) 12 ∧ vp_in (τ 3 k) 12) : pr_M g l 2 0 0 mX0_allowAvailable [.ref f, .ref (v + 1)] T (rg_put (ws_put I v τ) f 5 σ) L (pr_R none T (rg_put (ws_put I v τ) f 5 (fl_av σ τ nl)) L) pr_no := by
  refine pr_ofG (by decide) rfl hl (Nat.le_of_ble_eq_true rfl) (fun X hA hX hXn hXt => ?_)
  subst hX
  show pr_G g X mX0_allowAvailable.2.2.1 _ 0 0 0 [.ref f, .ref (v + 1), .null] [] T (rg_put (ws_put I v τ) f 5 σ) L
  refine pr_iconst hA (nI 0) dX0_allowAvailable_0 (by decide) ?_
  refine pr_istore_n (ls' := [_, _, _]) hA dX0_allowAvailable_1 (by decide) rfl ?_
  have lp2 : ∀ (j k : Nat), nl - k = j → k ≤ nl → pr_G g X mX0_allowAvailable.2.2.1 (pr_MQ g X (pr_R none T (rg_put (ws_put I v τ) f 5 (fl_av σ τ nl)) L) pr_no 0 0) 0 0 2 [.ref f, .ref (v + 1), .int (nI k)] [] T (rg_put (ws_put I v τ) f 5 (fl_av_it2 σ τ nl k)) L := by
    intro j
    induction j using Nat.strongRecOn with | ind j ih2 =>
    intro k hj2 hk2
    refine pr_iload_n hA dX0_allowAvailable_2 rfl ?_
    refine pr_aload_n hA dX0_allowAvailable_3 rfl ?_
    refine pr_getE (v := (nI nl)) hA f_X0_28 rfl (wk_1 hv) ((rg_outv (by omega)).trans ((ws_val (by decide)).trans hnl)) dX0_allowAvailable_4 ?_
    refine pr_icmp_ge hA 39 dX0_allowAvailable_7 (by decide) (fun c_7 => ?_) (fun c_7 => ?_)
    · have n_7 : nl ≤ k := (nI_leI (by omega) (by omega)).mp c_7
      have hex : nl = k := by omega
      subst hex
      exact pr_return hA rfl (Nat.zero_le _) (Nat.zero_le _) dX0_allowAvailable_39 ⟨rfl, rfl, rfl, rfl⟩
    · have n_7 : ¬ nl ≤ k := fun q => c_7 ((nI_leI (by omega) (by omega)).mpr q)
      refine pr_aload_n hA dX0_allowAvailable_10 rfl ?_
      refine pr_getR hA f_X0_9 rfl (fk_0 hf) (ff_1 hf) dX0_allowAvailable_11 ?_
      refine pr_iload_n hA dX0_allowAvailable_14 rfl ?_
      refine pr_aload_n hA dX0_allowAvailable_15 rfl ?_
      refine pr_iload_n hA dX0_allowAvailable_16 rfl ?_
      refine pr_gI (I' := (ws_put (rg_put I f 5 (fl_av_it2 σ τ nl k)) v τ)) (ws_rg (by omega)) ?_
      refine pr_callVi hA [.int (nI k)] (c_isUp (pr_hl hA) hv) v_X0_33 (wk_1 hv) (by decide) rfl rfl rfl (by decide) (Nat.zero_le _) (Nat.zero_le _) rfl (Nat.le_of_ble_eq_true rfl) dX0_allowAvailable_17 ?_
      refine pr_gI (I' := (rg_put (ws_put I v τ) f 5 (fl_av_it2 σ τ nl k))) (rg_ws (by omega)) ?_
      refine pr_join (c := (if lk_up τ k = 0 then (0 : Int32) else 1) = 0) (J := 32) (st := [.int (nI k), .ref (f + 1)]) (0 : Int32) (lk_av τ k) inferInstance (fun kt kf => ?_) ?_
      · refine pr_if_eq hA 31 dX0_allowAvailable_20 (by decide) (fun c_20 => ?_) (fun c_20 => ?_)
        · refine pr_iconst hA (0) dX0_allowAvailable_31 (by decide) ?_
          exact kt c_20
        · refine pr_aload_n hA dX0_allowAvailable_23 rfl ?_
          refine pr_iload_n hA dX0_allowAvailable_24 rfl ?_
          refine pr_gI (I' := (ws_put (rg_put I f 5 (fl_av_it2 σ τ nl k)) v τ)) (ws_rg (by omega)) ?_
          refine pr_callVi hA [.int (nI k)] (c_available (pr_hl hA) hv (by omega)) v_X0_37 (wk_1 hv) (by decide) rfl rfl rfl (by decide) (Nat.zero_le _) (Nat.zero_le _) rfl (Nat.le_of_ble_eq_true rfl) dX0_allowAvailable_25 ?_
          refine pr_gI (I' := (rg_put (ws_put I v τ) f 5 (fl_av_it2 σ τ nl k))) (rg_ws (by omega)) ?_
          refine pr_goto hA 32 dX0_allowAvailable_28 (by decide) ?_
          exact kf c_20
      · refine pr_iastN (I' := (rg_put (ws_put I v τ) f 5 (pr_up (fl_av_it2 σ τ nl k) 1 k (if (if lk_up τ k = 0 then (0 : Int32) else 1) = 0 then (0 : Int32) else (lk_av τ k))))) hA (fk_1 hf) (by omega) (by omega) (rg_up (by decide)) dX0_allowAvailable_32 ?_
        refine pr_iinc (ls' := [_, _, _]) hA (nI (k + 1)) dX0_allowAvailable_33 (by decide) rfl (nI_inc _) rfl ?_
        refine pr_goto hA 2 dX0_allowAvailable_36 (by decide) ?_
        have hb := ih2 (nl - (k + 1)) (by omega) (k + 1) rfl (by omega)
        simp only [fl_av_it2] at hb
        exact hb
  exact (lp2 (nl - 0) 0 rfl (by omega))

theorem fr_fl_av {σ : pr_I} {τ : pr_I} {nl : Nat} {o : Nat} (hms : ∀ m ∈ ([1] : List Nat), o ≠ m) : fl_av σ τ nl o = σ o := by
  unfold fl_av
  simp only [List.mem_cons, List.not_mem_nil, or_false, forall_eq_or_imp, forall_eq] at hms
  rw [fr_fl_av_it2 (by simp only [List.mem_cons, List.not_mem_nil, or_false, forall_eq_or_imp, forall_eq]; omega)]

noncomputable def fl_one_it2 (σ : pr_I) (u : Int32) : Nat → pr_I
  | 0 => σ
  | k + 1 => (pr_up (fl_one_it2 σ u k) 1 k ((u >>> ((nI k) &&& 31)) &&& (1 : Int32)))
theorem fr_fl_one_it2 {σ : pr_I} {u : Int32} {o : Nat} (hms : ∀ m ∈ ([1] : List Nat), o ≠ m) : ∀ {k : Nat}, (fl_one_it2 σ u k) o = σ o := by
  simp only [List.mem_cons, List.not_mem_nil, or_false, forall_eq_or_imp, forall_eq] at hms
  intro k
  induction k with
  | zero =>
    show σ o = σ o
    rfl
  | succ k ih =>
    show (pr_up (fl_one_it2 σ u k) 1 k ((u >>> ((nI k) &&& 31)) &&& (1 : Int32))) o = σ o
    rw [pr_up_ne (by omega), ih]

noncomputable def fl_one (σ : pr_I) (u : Int32) : pr_I := (fl_one_it2 σ u (sl 24))
set_option maxRecDepth 100000 in
set_option maxHeartbeats 4000000 in
theorem c_fl_one {g : pr_C} {l : Launch} (hl : l.stackTraces = false) {T : pr_T} {I : pr_I} {L : pr_L} {f : Nat} {σ : pr_I} {u : Int32} (hf : pr_Fl T f)  : pr_M g l 1 0 0 mX0_allowOne [.ref f, .int u] T (rg_put I f 5 σ) L (pr_R none T (rg_put I f 5 (fl_one σ u)) L) pr_no := by
  refine pr_ofG (by decide) rfl hl (Nat.le_of_ble_eq_true rfl) (fun X hA hX hXn hXt => ?_)
  subst hX
  show pr_G g X mX0_allowOne.2.2.1 _ 0 0 0 [.ref f, .int u, .null] [] T (rg_put I f 5 σ) L
  have hsl24 := sl_eq 24
  refine pr_iconst hA (nI 0) dX0_allowOne_0 (by decide) ?_
  refine pr_istore_n (ls' := [_, _, _]) hA dX0_allowOne_1 (by decide) rfl ?_
  have lp2 : ∀ (j k : Nat), (sl 24) - k = j → k ≤ (sl 24) → pr_G g X mX0_allowOne.2.2.1 (pr_MQ g X (pr_R none T (rg_put I f 5 (fl_one σ u)) L) pr_no 0 0) 0 0 2 [.ref f, .int u, .int (nI k)] [] T (rg_put I f 5 (fl_one_it2 σ u k)) L := by
    intro j
    induction j using Nat.strongRecOn with | ind j ih2 =>
    intro k hj2 hk2
    refine pr_iload_n hA dX0_allowOne_2 rfl ?_
    refine pr_bipush hA (nI 24) dX0_allowOne_3 (by decide) ?_
    refine pr_icmp_ge hA 25 dX0_allowOne_5 (by decide) (fun c_5 => ?_) (fun c_5 => ?_)
    · have n_5 : 24 ≤ k := (nI_leI (by omega) (by omega)).mp c_5
      have hex : (sl 24) = k := by omega
      subst hex
      exact pr_return hA rfl (Nat.zero_le _) (Nat.zero_le _) dX0_allowOne_25 ⟨rfl, rfl, rfl, rfl⟩
    · have n_5 : ¬ 24 ≤ k := fun q => c_5 ((nI_leI (by omega) (by omega)).mpr q)
      refine pr_aload_n hA dX0_allowOne_8 rfl ?_
      refine pr_getR hA f_X0_9 rfl (fk_0 hf) (ff_1 hf) dX0_allowOne_9 ?_
      refine pr_iload_n hA dX0_allowOne_12 rfl ?_
      refine pr_iload_n hA dX0_allowOne_13 rfl ?_
      refine pr_iload_n hA dX0_allowOne_14 rfl ?_
      refine pr_ishr hA dX0_allowOne_15 ?_
      refine pr_iconst hA (1) dX0_allowOne_16 (by decide) ?_
      refine pr_iand hA dX0_allowOne_17 ?_
      refine pr_iastN (I' := (rg_put I f 5 (pr_up (fl_one_it2 σ u k) 1 k ((u >>> ((nI k) &&& 31)) &&& (1 : Int32))))) hA (fk_1 hf) (by omega) (by omega) (rg_up (by decide)) dX0_allowOne_18 ?_
      refine pr_iinc (ls' := [_, _, _]) hA (nI (k + 1)) dX0_allowOne_19 (by decide) rfl (nI_inc _) rfl ?_
      refine pr_goto hA 2 dX0_allowOne_22 (by decide) ?_
      have hb := ih2 ((sl 24) - (k + 1)) (by omega) (k + 1) rfl (by omega)
      simp only [fl_one_it2] at hb
      exact hb
  exact (lp2 ((sl 24) - 0) 0 rfl (by omega))

theorem fr_fl_one {σ : pr_I} {u : Int32} {o : Nat} (hms : ∀ m ∈ ([1] : List Nat), o ≠ m) : fl_one σ u o = σ o := by
  unfold fl_one
  simp only [List.mem_cons, List.not_mem_nil, or_false, forall_eq_or_imp, forall_eq] at hms
  rw [fr_fl_one_it2 (by simp only [List.mem_cons, List.not_mem_nil, or_false, forall_eq_or_imp, forall_eq]; omega)]

noncomputable def fl_is_r (σ : pr_I) (x : Int32) : Int32 := (if (((σ 0 4) >>> (x &&& 31)) &&& (1 : Int32)) = 0 then (0 : Int32) else (1 : Int32))
set_option maxRecDepth 100000 in
set_option maxHeartbeats 4000000 in
theorem c_fl_is {g : pr_C} {l : Launch} (hl : l.stackTraces = false) {T : pr_T} {I : pr_I} {L : pr_L} {f : Nat} {σ : pr_I} {x : Int32} (hf : pr_Fl T f)  : pr_M g l 1 0 0 mX0_isReached [.ref f, .int x] T (rg_put I f 5 σ) L (pr_R (some (.int (fl_is_r σ x))) T (rg_put I f 5 σ) L) pr_no := by
  refine pr_ofG (by decide) rfl hl (Nat.le_of_ble_eq_true rfl) (fun X hA hX hXn hXt => ?_)
  subst hX
  show pr_G g X mX0_isReached.2.2.1 _ 0 0 0 [.ref f, .int x] [] T (rg_put I f 5 σ) L
  refine pr_aload_n hA dX0_isReached_0 rfl ?_
  refine pr_getE (v := (σ 0 4)) hA f_X0_24 rfl (fk_0 hf) (rg_val0 (by decide)) dX0_isReached_1 ?_
  refine pr_iload_n hA dX0_isReached_4 rfl ?_
  refine pr_ishr hA dX0_isReached_5 ?_
  refine pr_iconst hA (1) dX0_isReached_6 (by decide) ?_
  refine pr_iand hA dX0_isReached_7 ?_
  refine pr_join (c := (((σ 0 4) >>> (x &&& 31)) &&& (1 : Int32)) = 0) (J := 16) (st := []) (0 : Int32) (1 : Int32) inferInstance (fun kt kf => ?_) ?_
  · refine pr_if_eq hA 15 dX0_isReached_8 (by decide) (fun c_8 => ?_) (fun c_8 => ?_)
    · refine pr_iconst hA (0) dX0_isReached_15 (by decide) ?_
      exact kt c_8
    · refine pr_iconst hA (1) dX0_isReached_11 (by decide) ?_
      refine pr_goto hA 16 dX0_isReached_12 (by decide) ?_
      exact kf c_8
  · exact pr_ireturn hA rfl (pr_nb (by (repeat' split) <;> simp)) (Nat.zero_le _) (Nat.zero_le _) dX0_isReached_16 ⟨rfl, rfl, rfl, rfl⟩

noncomputable def fl_ac_r (σ : pr_I) (τ : pr_I) (nl : Nat) (k : Nat) (x : Int32) : Int32 := (if (τ 2 k) = x then (if (σ 1 k) ≤ (σ 2 k) then (if (τ 3 k) = x then (if (σ 2 k) ≤ 0 then ((-1) : Int32) else (τ 2 k)) else ((-1) : Int32)) else (τ 3 k)) else (if (τ 3 k) = x then (if (σ 2 k) ≤ 0 then ((-1) : Int32) else (τ 2 k)) else ((-1) : Int32)))
set_option maxRecDepth 100000 in
set_option maxHeartbeats 4000000 in
theorem c_fl_ac {g : pr_C} {l : Launch} (hl : l.stackTraces = false) {T : pr_T} {I : pr_I} {L : pr_L} {f : Nat} {σ : pr_I} {τ : pr_I} {nl : Nat} {k : Nat} {x : Int32} (hf : pr_Fl T f) {v : Nat} (hv : pr_W T v) (hdis : f + 5 ≤ v ∨ v + 121 ≤ f) (hnl : τ 1 8 = nI nl) (hnl24 : nl ≤ 24) (hL : ∀ k, k < nl → vp_in (τ 2 k) 12 ∧ vp_in (τ 3 k) 12) (hk : k < nl) : pr_M g l 1 0 0 mX0_across [.ref f, .ref (v + 1), .int (nI k), .int x] T (rg_put (ws_put I v τ) f 5 σ) L (pr_R (some (.int (fl_ac_r σ τ nl k x))) T (rg_put (ws_put I v τ) f 5 σ) L) pr_no := by
  refine pr_ofG (by decide) rfl hl (Nat.le_of_ble_eq_true rfl) (fun X hA hX hXn hXt => ?_)
  subst hX
  show pr_G g X mX0_across.2.2.1 _ 0 0 0 [.ref f, .ref (v + 1), .int (nI k), .int x] [] T (rg_put (ws_put I v τ) f 5 σ) L
  refine pr_aload_n hA dX0_across_0 rfl ?_
  refine pr_getR hA f_X0_62 rfl (wk_1 hv) (wf_1_0 hv) dX0_across_1 ?_
  refine pr_iload_n hA dX0_across_4 rfl ?_
  refine pr_ialdN (v := (τ 2 k)) hA (wk_2 hv) (by omega) (by omega) ((rg_outv (by omega)).trans (ws_val (by decide))) dX0_across_5 ?_
  refine pr_iload_n hA dX0_across_6 rfl ?_
  refine pr_icmp_ne hA 32 dX0_across_7 (by decide) (fun c_7 => ?_) (fun c_7 => ?_)
  · refine pr_aload_n hA dX0_across_32 rfl ?_
    refine pr_getR hA f_X0_65 rfl (wk_1 hv) (wf_1_1 hv) dX0_across_33 ?_
    refine pr_iload_n hA dX0_across_36 rfl ?_
    refine pr_ialdN (v := (τ 3 k)) hA (wk_3 hv) (by omega) (by omega) ((rg_outv (by omega)).trans (ws_val (by decide))) dX0_across_37 ?_
    refine pr_iload_n hA dX0_across_38 rfl ?_
    refine pr_join (c := (τ 3 k) = x) (J := 61) (st := []) (if (σ 2 k) ≤ 0 then ((-1) : Int32) else (τ 2 k)) ((-1) : Int32) inferInstance (fun kt kf => ?_) ?_
    · refine pr_icmp_ne hA 60 dX0_across_39 (by decide) (fun c_39 => ?_) (fun c_39 => ?_)
      · refine pr_iconst hA ((-1)) dX0_across_60 (by decide) ?_
        exact kf c_39
      · refine pr_aload_n hA dX0_across_42 rfl ?_
        refine pr_getR hA f_X0_15 rfl (fk_0 hf) (ff_2 hf) dX0_across_43 ?_
        refine pr_iload_n hA dX0_across_46 rfl ?_
        refine pr_ialdN (v := (σ 2 k)) hA (fk_2 hf) (by omega) (by omega) (rg_val (by decide)) dX0_across_47 ?_
        refine pr_join (c := (σ 2 k) ≤ 0) (J := 61) (st := []) ((-1) : Int32) (τ 2 k) inferInstance (fun kt kf => ?_) ?_
        · refine pr_if_le hA 60 dX0_across_48 (by decide) (fun c_48 => ?_) (fun c_48 => ?_)
          · refine pr_iconst hA ((-1)) dX0_across_60 (by decide) ?_
            exact kt c_48
          · refine pr_aload_n hA dX0_across_51 rfl ?_
            refine pr_getR hA f_X0_62 rfl (wk_1 hv) (wf_1_0 hv) dX0_across_52 ?_
            refine pr_iload_n hA dX0_across_55 rfl ?_
            refine pr_ialdN (v := (τ 2 k)) hA (wk_2 hv) (by omega) (by omega) ((rg_outv (by omega)).trans (ws_val (by decide))) dX0_across_56 ?_
            refine pr_goto hA 61 dX0_across_57 (by decide) ?_
            exact kf c_48
        · exact kt c_39
    · exact pr_ireturn hA rfl rfl (Nat.zero_le _) (Nat.zero_le _) dX0_across_61 ⟨(by simp only [fl_ac_r, if_neg c_7]), rfl, rfl, rfl⟩
  · refine pr_aload_n hA dX0_across_10 rfl ?_
    refine pr_getR hA f_X0_15 rfl (fk_0 hf) (ff_2 hf) dX0_across_11 ?_
    refine pr_iload_n hA dX0_across_14 rfl ?_
    refine pr_ialdN (v := (σ 2 k)) hA (fk_2 hf) (by omega) (by omega) (rg_val (by decide)) dX0_across_15 ?_
    refine pr_aload_n hA dX0_across_16 rfl ?_
    refine pr_getR hA f_X0_9 rfl (fk_0 hf) (ff_1 hf) dX0_across_17 ?_
    refine pr_iload_n hA dX0_across_20 rfl ?_
    refine pr_ialdN (v := (σ 1 k)) hA (fk_1 hf) (by omega) (by omega) (rg_val (by decide)) dX0_across_21 ?_
    refine pr_icmp_ge hA 32 dX0_across_22 (by decide) (fun c_22 => ?_) (fun c_22 => ?_)
    · refine pr_aload_n hA dX0_across_32 rfl ?_
      refine pr_getR hA f_X0_65 rfl (wk_1 hv) (wf_1_1 hv) dX0_across_33 ?_
      refine pr_iload_n hA dX0_across_36 rfl ?_
      refine pr_ialdN (v := (τ 3 k)) hA (wk_3 hv) (by omega) (by omega) ((rg_outv (by omega)).trans (ws_val (by decide))) dX0_across_37 ?_
      refine pr_iload_n hA dX0_across_38 rfl ?_
      refine pr_join (c := (τ 3 k) = x) (J := 61) (st := []) (if (σ 2 k) ≤ 0 then ((-1) : Int32) else (τ 2 k)) ((-1) : Int32) inferInstance (fun kt kf => ?_) ?_
      · refine pr_icmp_ne hA 60 dX0_across_39 (by decide) (fun c_39 => ?_) (fun c_39 => ?_)
        · refine pr_iconst hA ((-1)) dX0_across_60 (by decide) ?_
          exact kf c_39
        · refine pr_aload_n hA dX0_across_42 rfl ?_
          refine pr_getR hA f_X0_15 rfl (fk_0 hf) (ff_2 hf) dX0_across_43 ?_
          refine pr_iload_n hA dX0_across_46 rfl ?_
          refine pr_ialdN (v := (σ 2 k)) hA (fk_2 hf) (by omega) (by omega) (rg_val (by decide)) dX0_across_47 ?_
          refine pr_join (c := (σ 2 k) ≤ 0) (J := 61) (st := []) ((-1) : Int32) (τ 2 k) inferInstance (fun kt kf => ?_) ?_
          · refine pr_if_le hA 60 dX0_across_48 (by decide) (fun c_48 => ?_) (fun c_48 => ?_)
            · refine pr_iconst hA ((-1)) dX0_across_60 (by decide) ?_
              exact kt c_48
            · refine pr_aload_n hA dX0_across_51 rfl ?_
              refine pr_getR hA f_X0_62 rfl (wk_1 hv) (wf_1_0 hv) dX0_across_52 ?_
              refine pr_iload_n hA dX0_across_55 rfl ?_
              refine pr_ialdN (v := (τ 2 k)) hA (wk_2 hv) (by omega) (by omega) ((rg_outv (by omega)).trans (ws_val (by decide))) dX0_across_56 ?_
              refine pr_goto hA 61 dX0_across_57 (by decide) ?_
              exact kf c_48
          · exact kt c_39
      · exact pr_ireturn hA rfl rfl (Nat.zero_le _) (Nat.zero_le _) dX0_across_61 ⟨(by simp only [fl_ac_r, if_pos c_7, if_pos c_22]), rfl, rfl, rfl⟩
    · refine pr_aload_n hA dX0_across_25 rfl ?_
      refine pr_getR hA f_X0_65 rfl (wk_1 hv) (wf_1_1 hv) dX0_across_26 ?_
      refine pr_iload_n hA dX0_across_29 rfl ?_
      refine pr_ialdN (v := (τ 3 k)) hA (wk_3 hv) (by omega) (by omega) ((rg_outv (by omega)).trans (ws_val (by decide))) dX0_across_30 ?_
      exact pr_ireturn hA rfl rfl (Nat.zero_le _) (Nat.zero_le _) dX0_across_31 ⟨(by simp only [fl_ac_r, if_pos c_7, if_neg c_22]), rfl, rfl, rfl⟩

noncomputable def fl_I (φ : pr_I) : Prop := ∀ i, vp_in (φ 3 i) 12 ∧ vp_in (φ 4 i) 24
theorem fl_I.keep {φ ψ : pr_I} (h : fl_I φ) (h3 : ψ 3 = φ 3) (h4 : ψ 4 = φ 4) : fl_I ψ := fun i => by rw [h3, h4]; exact h i
theorem fl_I.up3 {φ : pr_I} {k : Nat} {v : Int32} (h : fl_I φ) (hv : vp_in v 12) : fl_I (pr_up φ 3 k v) := fun i => by
  unfold pr_up
  refine ⟨?_, ?_⟩
  · by_cases q : i = k <;> simp only [q, and_true, and_false, if_true, if_false] <;> first | exact hv | exact (h _).1
  · simpa using (h i).2
theorem fl_I.up4 {φ : pr_I} {k : Nat} {v : Int32} (h : fl_I φ) (hv : vp_in v 24) : fl_I (pr_up φ 4 k v) := fun i => by
  unfold pr_up
  refine ⟨?_, ?_⟩
  · simpa using (h i).1
  · by_cases q : i = k <;> simp only [q, and_true, and_false, if_true, if_false] <;> first | exact hv | exact (h _).2
theorem fl_I.up0 {φ : pr_I} {k : Nat} {v : Int32} (h : fl_I φ) : fl_I (pr_up φ 0 k v) := h.keep (pr_up_ne (by decide)) (pr_up_ne (by decide))
theorem fl_I.up2 {φ : pr_I} {k : Nat} {v : Int32} (h : fl_I φ) : fl_I (pr_up φ 2 k v) := h.keep (pr_up_ne (by decide)) (pr_up_ne (by decide))
theorem fl_ac_in {σ τ : pr_I} {nl k : Nat} {x : Int32} (hL : ∀ k, k < nl → vp_in (τ 2 k) 12 ∧ vp_in (τ 3 k) 12) (hk : k < nl) (h : fl_ac_r σ τ nl k x ≠ -1) : vp_in (fl_ac_r σ τ nl k x) 12 := by
  unfold fl_ac_r at *
  (repeat' split) <;> (repeat' split at h) <;> first | exact (hL k hk).1 | exact (hL k hk).2 | exact absurd rfl h | contradiction
theorem vpi_of {x : Int32} {n : Nat} (h0 : 0 ≤ x) (h1 : x.toInt < n) : vp_in x n := vp_in_iff.mpr ⟨by have := Int32.le_iff_toInt_le.mp h0; exact this, h1⟩
theorem vpi12 {x : Int32} (h0 : 0 ≤ x) (h1 : ¬ (12 : Int32) ≤ x) : vp_in x 12 := vpi_of h0 (by
  have h2 : x < 12 := Int32.not_le.mp h1
  have := Int32.lt_iff_toInt_lt.mp h2
  exact this)
noncomputable def fl_se_it35 (σ σ1 : pr_I) (τ : pr_I) (nl : Nat) (s : Int32) (k : Nat) (x3 : Int32) : Nat → pr_I × Int32
  | 0 => (σ1, x3)
  | k1 + 1 => (if (fl_ac_r (fl_se_it35 σ σ1 τ nl s k x3 k1).1 τ nl k1 ((fl_se_it35 σ σ1 τ nl s k x3 k1).1 3 k)) = ((-1) : Int32) then ((fl_se_it35 σ σ1 τ nl s k x3 k1).1, ((fl_se_it35 σ σ1 τ nl s k x3 k1).2)) else (if (fl_is_r (fl_se_it35 σ σ1 τ nl s k x3 k1).1 (fl_ac_r (fl_se_it35 σ σ1 τ nl s k x3 k1).1 τ nl k1 ((fl_se_it35 σ σ1 τ nl s k x3 k1).1 3 k))) = 0 then (if (12 : Int32) ≤ ((fl_se_it35 σ σ1 τ nl s k x3 k1).2) then ((fl_se_it35 σ σ1 τ nl s k x3 k1).1, ((fl_se_it35 σ σ1 τ nl s k x3 k1).2)) else ((pr_up (pr_up (pr_up (fl_se_it35 σ σ1 τ nl s k x3 k1).1 0 4 (((fl_se_it35 σ σ1 τ nl s k x3 k1).1 0 4) ||| ((1 : Int32) <<< ((fl_ac_r (fl_se_it35 σ σ1 τ nl s k x3 k1).1 τ nl k1 ((fl_se_it35 σ σ1 τ nl s k x3 k1).1 3 k)) &&& 31)))) 4 ((fl_ac_r (fl_se_it35 σ σ1 τ nl s k x3 k1).1 τ nl k1 ((fl_se_it35 σ σ1 τ nl s k x3 k1).1 3 k)).toNatClampNeg) (nI k1)) 3 (((fl_se_it35 σ σ1 τ nl s k x3 k1).2).toNatClampNeg) (fl_ac_r (fl_se_it35 σ σ1 τ nl s k x3 k1).1 τ nl k1 ((fl_se_it35 σ σ1 τ nl s k x3 k1).1 3 k))), (((fl_se_it35 σ σ1 τ nl s k x3 k1).2) + Int32.ofInt (1)))) else ((fl_se_it35 σ σ1 τ nl s k x3 k1).1, ((fl_se_it35 σ σ1 τ nl s k x3 k1).2))))
theorem fr_fl_se_it35 {σ σ1 : pr_I} {τ : pr_I} {nl : Nat} {s : Int32} {k : Nat} {x3 : Int32} {o : Nat} (hms : ∀ m ∈ ([0, 3, 4] : List Nat), o ≠ m) : ∀ {k1 : Nat}, (fl_se_it35 σ σ1 τ nl s k x3 k1).1 o = σ1 o := by
  simp only [List.mem_cons, List.not_mem_nil, or_false, forall_eq_or_imp, forall_eq] at hms
  intro k1
  induction k1 with
  | zero =>
    show σ1 o = σ1 o
    rfl
  | succ k1 ih =>
    by_cases c_63 : (fl_ac_r (fl_se_it35 σ σ1 τ nl s k x3 k1).1 τ nl k1 ((fl_se_it35 σ σ1 τ nl s k x3 k1).1 3 k)) = ((-1) : Int32)
    · refine (congrFun (congrArg (fun z : pr_I × Int32 => z.1) (if_pos c_63)) o).trans ?_
      show (fl_se_it35 σ σ1 τ nl s k x3 k1).1 o = σ1 o
      rw [ih]
    · refine (congrFun (congrArg (fun z : pr_I × Int32 => z.1) (if_neg c_63)) o).trans ?_
      by_cases c_72 : (fl_is_r (fl_se_it35 σ σ1 τ nl s k x3 k1).1 (fl_ac_r (fl_se_it35 σ σ1 τ nl s k x3 k1).1 τ nl k1 ((fl_se_it35 σ σ1 τ nl s k x3 k1).1 3 k))) = 0
      · refine (congrFun (congrArg (fun z : pr_I × Int32 => z.1) (if_pos c_72)) o).trans ?_
        by_cases c_78 : (12 : Int32) ≤ ((fl_se_it35 σ σ1 τ nl s k x3 k1).2)
        · refine (congrFun (congrArg (fun z : pr_I × Int32 => z.1) (if_pos c_78)) o).trans ?_
          show (fl_se_it35 σ σ1 τ nl s k x3 k1).1 o = σ1 o
          rw [ih]
        · refine (congrFun (congrArg (fun z : pr_I × Int32 => z.1) (if_neg c_78)) o).trans ?_
          show (pr_up (pr_up (pr_up (fl_se_it35 σ σ1 τ nl s k x3 k1).1 0 4 (((fl_se_it35 σ σ1 τ nl s k x3 k1).1 0 4) ||| ((1 : Int32) <<< ((fl_ac_r (fl_se_it35 σ σ1 τ nl s k x3 k1).1 τ nl k1 ((fl_se_it35 σ σ1 τ nl s k x3 k1).1 3 k)) &&& 31)))) 4 ((fl_ac_r (fl_se_it35 σ σ1 τ nl s k x3 k1).1 τ nl k1 ((fl_se_it35 σ σ1 τ nl s k x3 k1).1 3 k)).toNatClampNeg) (nI k1)) 3 (((fl_se_it35 σ σ1 τ nl s k x3 k1).2).toNatClampNeg) (fl_ac_r (fl_se_it35 σ σ1 τ nl s k x3 k1).1 τ nl k1 ((fl_se_it35 σ σ1 τ nl s k x3 k1).1 3 k))) o = σ1 o
          rw [pr_up_ne (by omega), pr_up_ne (by omega), pr_up_ne (by omega), ih]
      · refine (congrFun (congrArg (fun z : pr_I × Int32 => z.1) (if_neg c_72)) o).trans ?_
        show (fl_se_it35 σ σ1 τ nl s k x3 k1).1 o = σ1 o
        rw [ih]

noncomputable def fl_se_it19 (σ : pr_I) (τ : pr_I) (nl : Nat) (s : Int32) : Nat → pr_I × Int32
  | 0 => ((pr_up (pr_up σ 0 4 ((1 : Int32) <<< (s &&& 31))) 3 0 s), (1 : Int32))
  | k + 1 => (if ((fl_se_it19 σ τ nl s k).2) ≤ (nI k) then ((fl_se_it19 σ τ nl s k).1, ((fl_se_it19 σ τ nl s k).2)) else ((fl_se_it35 σ (fl_se_it19 σ τ nl s k).1 τ nl s k ((fl_se_it19 σ τ nl s k).2) nl).1, ((fl_se_it35 σ (fl_se_it19 σ τ nl s k).1 τ nl s k ((fl_se_it19 σ τ nl s k).2) nl).2)))
theorem fr_fl_se_it19 {σ : pr_I} {τ : pr_I} {nl : Nat} {s : Int32} {o : Nat} (hms : ∀ m ∈ ([0, 3, 4] : List Nat), o ≠ m) : ∀ {k : Nat}, (fl_se_it19 σ τ nl s k).1 o = (pr_up (pr_up σ 0 4 ((1 : Int32) <<< (s &&& 31))) 3 0 s) o := by
  simp only [List.mem_cons, List.not_mem_nil, or_false, forall_eq_or_imp, forall_eq] at hms
  intro k
  induction k with
  | zero =>
    show (pr_up (pr_up σ 0 4 ((1 : Int32) <<< (s &&& 31))) 3 0 s) o = (pr_up (pr_up σ 0 4 ((1 : Int32) <<< (s &&& 31))) 3 0 s) o
    rfl
  | succ k ih =>
    by_cases c_22 : ((fl_se_it19 σ τ nl s k).2) ≤ (nI k)
    · refine (congrFun (congrArg (fun z : pr_I × Int32 => z.1) (if_pos c_22)) o).trans ?_
      show (fl_se_it19 σ τ nl s k).1 o = (pr_up (pr_up σ 0 4 ((1 : Int32) <<< (s &&& 31))) 3 0 s) o
      rw [ih]
    · refine (congrFun (congrArg (fun z : pr_I × Int32 => z.1) (if_neg c_22)) o).trans ?_
      show (fl_se_it35 σ (fl_se_it19 σ τ nl s k).1 τ nl s k ((fl_se_it19 σ τ nl s k).2) nl).1 o = (pr_up (pr_up σ 0 4 ((1 : Int32) <<< (s &&& 31))) 3 0 s) o
      rw [fr_fl_se_it35 (by simp only [List.mem_cons, List.not_mem_nil, or_false, forall_eq_or_imp, forall_eq]; omega), ih]

theorem st_fl_se_it19_22 {σ : pr_I} {τ : pr_I} {nl : Nat} {s : Int32} {k : Nat} (c_22 : ((fl_se_it19 σ τ nl s k).2) ≤ (nI k)) : ∀ j, k + j < 2 ^ 31 → fl_se_it19 σ τ nl s (k + j) = fl_se_it19 σ τ nl s k
  | 0, _ => rfl
  | j + 1, hj => by
    have ih := st_fl_se_it19_22 c_22 j (by omega)
    have c2_22 : ((fl_se_it19 σ τ nl s k).2) ≤ (nI (k + j)) := Int32.le_trans c_22 ((nI_leI (by omega) (by omega)).mpr (by omega))
    show fl_se_it19 σ τ nl s ((k + j) + 1) = fl_se_it19 σ τ nl s k
    simp only [fl_se_it19, ih, if_pos c2_22]
noncomputable def fl_se (σ : pr_I) (τ : pr_I) (nl : Nat) (s : Int32) : pr_I := (fl_se_it19 σ τ nl s (sl 12)).1
theorem fl_up1 {x : Int32} (h0 : 0 ≤ x) (h1 : ¬ (12 : Int32) ≤ x) : 0 ≤ x + Int32.ofInt 1 ∧ x + Int32.ofInt 1 ≤ 12 := by
  obtain ⟨j, hj, rfl⟩ := vp_in_of (vpi12 h0 h1) (by decide)
  rw [nI_inc]
  exact ⟨nI_pos' (by omega), (nI_leI (a := j + 1) (b := 12) (by omega) (by omega)).mpr (by omega)⟩
theorem fl_se_t1 {σ σ1 τ : pr_I} {nl k : Nat} {s x3 : Int32} (h : 0 ≤ x3) : ∀ k1, 0 ≤ (fl_se_it35 σ σ1 τ nl s k x3 k1).2
  | 0 => h
  | k1 + 1 => by
    have ih := fl_se_t1 (σ := σ) (σ1 := σ1) (τ := τ) (nl := nl) (k := k) (s := s) h k1
    simp only [fl_se_it35]
    (repeat' split) <;> first | exact ih | exact (fl_up1 ih (by assumption)).1
theorem fl_se_t0 {σ τ : pr_I} {nl : Nat} {s : Int32} : ∀ k, 0 ≤ (fl_se_it19 σ τ nl s k).2
  | 0 => by show (0 : Int32) ≤ 1; decide
  | k + 1 => by
    have ih := fl_se_t0 (σ := σ) (τ := τ) (nl := nl) (s := s) k
    simp only [fl_se_it19]
    split
    · exact ih
    · exact fl_se_t1 ih nl
set_option maxRecDepth 100000 in
set_option maxHeartbeats 4000000 in
theorem c_fl_se {g : pr_C} {l : Launch} (hl : l.stackTraces = false) {T : pr_T} {I : pr_I} {L : pr_L} {f : Nat} {σ : pr_I} {τ : pr_I} {nl : Nat} {s : Int32} (hf : pr_Fl T f) {v : Nat} (hv : pr_W T v) (hdis : f + 5 ≤ v ∨ v + 121 ≤ f) (hnl : τ 1 8 = nI nl) (hnl24 : nl ≤ 24) (hL : ∀ k, k < nl → vp_in (τ 2 k) 12 ∧ vp_in (τ 3 k) 12) : pr_M g l 2 0 0 mX0_search [.ref f, .ref (v + 1), .int s] T (rg_put (ws_put I v τ) f 5 σ) L (pr_R none T (rg_put (ws_put I v τ) f 5 (fl_se σ τ nl s)) L) pr_no := by
  refine pr_ofG (by decide) rfl hl (Nat.le_of_ble_eq_true rfl) (fun X hA hX hXn hXt => ?_)
  subst hX
  show pr_G g X mX0_search.2.2.1 _ 0 0 0 [.ref f, .ref (v + 1), .int s, .null, .null, .null, .null] [] T (rg_put (ws_put I v τ) f 5 σ) L
  have hsl12 := sl_eq 12
  refine pr_aload_n hA dX0_search_0 rfl ?_
  refine pr_iconst hA (1) dX0_search_1 (by decide) ?_
  refine pr_iload_n hA dX0_search_2 rfl ?_
  refine pr_ishl hA dX0_search_3 ?_
  refine pr_putE (I' := (rg_put (ws_put I v τ) f 5 (pr_up σ 0 4 ((1 : Int32) <<< (s &&& 31))))) hA f_X0_24 rfl (fk_0 hf) (rg_up0 (by decide)) dX0_search_4 ?_
  refine pr_aload_n hA dX0_search_7 rfl ?_
  refine pr_getR hA f_X0_18 rfl (fk_0 hf) (ff_3 hf) dX0_search_8 ?_
  refine pr_iconst hA (nI 0) dX0_search_11 (by decide) ?_
  refine pr_iload_n hA dX0_search_12 rfl ?_
  refine pr_iastN (I' := (rg_put (ws_put I v τ) f 5 (pr_up (pr_up σ 0 4 ((1 : Int32) <<< (s &&& 31))) 3 0 s))) hA (fk_3 hf) (by omega) (by omega) (rg_up (by decide)) dX0_search_13 ?_
  refine pr_iconst hA (1) dX0_search_14 (by decide) ?_
  refine pr_istore_n (ls' := [_, _, _, _, _, _, _]) hA dX0_search_15 (by decide) rfl ?_
  refine pr_iconst hA (nI 0) dX0_search_16 (by decide) ?_
  refine pr_istore (ls' := [_, _, _, _, _, _, _]) hA dX0_search_17 (by decide) rfl ?_
  have lp19 : ∀ (j k : Nat), (sl 12) - k = j → k ≤ (sl 12) → pr_G g X mX0_search.2.2.1 (pr_MQ g X (pr_R none T (rg_put (ws_put I v τ) f 5 (fl_se σ τ nl s)) L) pr_no 0 0) 0 0 19 [.ref f, .ref (v + 1), .int s, .int ((fl_se_it19 σ τ nl s k).2), .int (nI k), .null, .null] [] T (rg_put (ws_put I v τ) f 5 (fl_se_it19 σ τ nl s k).1) L := by
    intro j
    induction j using Nat.strongRecOn with | ind j ih19 =>
    intro k hj19 hk19
    refine pr_iload hA dX0_search_19 rfl ?_
    refine pr_iload_n hA dX0_search_21 rfl ?_
    refine pr_icmp_ge hA 126 dX0_search_22 (by decide) (fun c_22 => ?_) (fun c_22 => ?_)
    · have hst := st_fl_se_it19_22 c_22 ((sl 12) - k) (by omega)
      rw [show k + ((sl 12) - k) = (sl 12) from by omega] at hst
      refine pr_lessL (ls' := [.ref f, .ref (v + 1), .int s, .int ((fl_se_it19 σ τ nl s k).2), .null, .null, .null]) ⟨.inr rfl, .inr rfl, .inr rfl, .inr rfl, .inl rfl, .inl rfl, .inl rfl, trivial⟩ ?_
      rw [← hst]
      exact pr_return hA rfl (Nat.zero_le _) (Nat.zero_le _) dX0_search_126 ⟨rfl, rfl, rfl, rfl⟩
    · refine pr_iload hA dX0_search_25 rfl ?_
      refine pr_bipush hA (nI 12) dX0_search_27 (by decide) ?_
      refine pr_icmp_ge hA 126 dX0_search_29 (by decide) (fun c_29 => ?_) (fun c_29 => ?_)
      · have n_29 : 12 ≤ k := (nI_leI (by omega) (by omega)).mp c_29
        have hex : (sl 12) = k := by omega
        subst hex
        exact pr_return hA rfl (Nat.zero_le _) (Nat.zero_le _) dX0_search_126 ⟨rfl, rfl, rfl, rfl⟩
      · have n_29 : ¬ 12 ≤ k := fun q => c_29 ((nI_leI (by omega) (by omega)).mpr q)
        refine pr_iconst hA (nI 0) dX0_search_32 (by decide) ?_
        refine pr_istore (ls' := [_, _, _, _, _, _, _]) hA dX0_search_33 (by decide) rfl ?_
        have lp35 : ∀ (j k1 : Nat), nl - k1 = j → k1 ≤ nl → pr_G g X mX0_search.2.2.1 (pr_MQ g X (pr_R none T (rg_put (ws_put I v τ) f 5 (fl_se σ τ nl s)) L) pr_no 0 0) 0 0 35 [.ref f, .ref (v + 1), .int s, .int ((fl_se_it35 σ (fl_se_it19 σ τ nl s k).1 τ nl s k ((fl_se_it19 σ τ nl s k).2) k1).2), .int (nI k), .int (nI k1), .null] [] T (rg_put (ws_put I v τ) f 5 (fl_se_it35 σ (fl_se_it19 σ τ nl s k).1 τ nl s k ((fl_se_it19 σ τ nl s k).2) k1).1) L := by
          intro j
          induction j using Nat.strongRecOn with | ind j ih35 =>
          intro k1 hj35 hk35
          refine pr_iload hA dX0_search_35 rfl ?_
          refine pr_aload_n hA dX0_search_37 rfl ?_
          refine pr_getE (v := (nI nl)) hA f_X0_28 rfl (wk_1 hv) ((rg_outv (by omega)).trans ((ws_val (by decide)).trans hnl)) dX0_search_38 ?_
          refine pr_icmp_ge hA 120 dX0_search_41 (by decide) (fun c_41 => ?_) (fun c_41 => ?_)
          · have n_41 : nl ≤ k1 := (nI_leI (by omega) (by omega)).mp c_41
            have hex : nl = k1 := by omega
            subst hex
            refine pr_iinc (ls' := [_, _, _, _, _, _, _]) hA (nI (k + 1)) dX0_search_120 (by decide) rfl (nI_inc _) rfl ?_
            refine pr_goto hA 19 dX0_search_123 (by decide) ?_
            have hb := ih19 ((sl 12) - (k + 1)) (by omega) (k + 1) rfl (by omega)
            simp only [fl_se_it19, if_neg c_22] at hb
            exact pr_lessL (ls' := [.ref f, .ref (v + 1), .int s, .int ((fl_se_it35 σ (fl_se_it19 σ τ nl s k).1 τ nl s k ((fl_se_it19 σ τ nl s k).2) nl).2), .int (nI (k + 1)), .null, .null]) ⟨.inr rfl, .inr rfl, .inr rfl, .inr rfl, .inr rfl, .inl rfl, .inl rfl, trivial⟩ hb
          · have n_41 : ¬ nl ≤ k1 := fun q => c_41 ((nI_leI (by omega) (by omega)).mpr q)
            refine pr_aload_n hA dX0_search_44 rfl ?_
            refine pr_aload_n hA dX0_search_45 rfl ?_
            refine pr_iload hA dX0_search_46 rfl ?_
            refine pr_aload_n hA dX0_search_48 rfl ?_
            refine pr_getR hA f_X0_18 rfl (fk_0 hf) (ff_3 hf) dX0_search_49 ?_
            refine pr_iload hA dX0_search_52 rfl ?_
            refine pr_ialdN (v := ((fl_se_it35 σ (fl_se_it19 σ τ nl s k).1 τ nl s k ((fl_se_it19 σ τ nl s k).2) k1).1 3 k)) hA (fk_3 hf) (by omega) (by omega) (rg_val (by decide)) dX0_search_54 ?_
            refine pr_callVi hA [.ref (v + 1), .int (nI k1), .int ((fl_se_it35 σ (fl_se_it19 σ τ nl s k).1 τ nl s k ((fl_se_it19 σ τ nl s k).2) k1).1 3 k)] (c_fl_ac (pr_hl hA) hf hv hdis hnl hnl24 hL (by omega)) v_X0_59 (fk_0 hf) (by decide) rfl rfl rfl (by decide) (Nat.zero_le _) (Nat.zero_le _) rfl (Nat.le_of_ble_eq_true rfl) dX0_search_55 ?_
            refine pr_istore (ls' := [_, _, _, _, _, _, _]) hA dX0_search_58 (by decide) rfl ?_
            refine pr_iload hA dX0_search_60 rfl ?_
            refine pr_iconst hA ((-1)) dX0_search_62 (by decide) ?_
            refine pr_icmp_eq hA 114 dX0_search_63 (by decide) (fun c_63 => ?_) (fun c_63 => ?_)
            · refine pr_iinc (ls' := [_, _, _, _, _, _, _]) hA (nI (k1 + 1)) dX0_search_114 (by decide) rfl (nI_inc _) rfl ?_
              refine pr_goto hA 35 dX0_search_117 (by decide) ?_
              have hb := ih35 (nl - (k1 + 1)) (by omega) (k1 + 1) rfl (by omega)
              simp only [fl_se_it35, if_pos c_63] at hb
              exact pr_lessL (ls' := [.ref f, .ref (v + 1), .int s, .int ((fl_se_it35 σ (fl_se_it19 σ τ nl s k).1 τ nl s k ((fl_se_it19 σ τ nl s k).2) k1).2), .int (nI k), .int (nI (k1 + 1)), .null]) ⟨.inr rfl, .inr rfl, .inr rfl, .inr rfl, .inr rfl, .inr rfl, .inl rfl, trivial⟩ hb
            · refine pr_aload_n hA dX0_search_66 rfl ?_
              refine pr_iload hA dX0_search_67 rfl ?_
              refine pr_callVi hA [.int (fl_ac_r (fl_se_it35 σ (fl_se_it19 σ τ nl s k).1 τ nl s k ((fl_se_it19 σ τ nl s k).2) k1).1 τ nl k1 ((fl_se_it35 σ (fl_se_it19 σ τ nl s k).1 τ nl s k ((fl_se_it19 σ τ nl s k).2) k1).1 3 k))] (c_fl_is (pr_hl hA) hf) v_X0_52 (fk_0 hf) (by decide) rfl rfl rfl (by decide) (Nat.zero_le _) (Nat.zero_le _) rfl (Nat.le_of_ble_eq_true rfl) dX0_search_69 ?_
              refine pr_if_ne hA 114 dX0_search_72 (by decide) (fun c_72 => ?_) (fun c_72 => ?_)
              · refine pr_iinc (ls' := [_, _, _, _, _, _, _]) hA (nI (k1 + 1)) dX0_search_114 (by decide) rfl (nI_inc _) rfl ?_
                refine pr_goto hA 35 dX0_search_117 (by decide) ?_
                have hb := ih35 (nl - (k1 + 1)) (by omega) (k1 + 1) rfl (by omega)
                simp only [fl_se_it35, if_neg c_63, if_neg c_72] at hb
                exact pr_lessL (ls' := [.ref f, .ref (v + 1), .int s, .int ((fl_se_it35 σ (fl_se_it19 σ τ nl s k).1 τ nl s k ((fl_se_it19 σ τ nl s k).2) k1).2), .int (nI k), .int (nI (k1 + 1)), .null]) ⟨.inr rfl, .inr rfl, .inr rfl, .inr rfl, .inr rfl, .inr rfl, .inl rfl, trivial⟩ hb
              · refine pr_iload_n hA dX0_search_75 rfl ?_
                refine pr_bipush hA (12) dX0_search_76 (by decide) ?_
                refine pr_icmp_ge hA 114 dX0_search_78 (by decide) (fun c_78 => ?_) (fun c_78 => ?_)
                · refine pr_iinc (ls' := [_, _, _, _, _, _, _]) hA (nI (k1 + 1)) dX0_search_114 (by decide) rfl (nI_inc _) rfl ?_
                  refine pr_goto hA 35 dX0_search_117 (by decide) ?_
                  have hb := ih35 (nl - (k1 + 1)) (by omega) (k1 + 1) rfl (by omega)
                  simp only [fl_se_it35, if_neg c_63, if_pos c_72, if_pos c_78] at hb
                  exact pr_lessL (ls' := [.ref f, .ref (v + 1), .int s, .int ((fl_se_it35 σ (fl_se_it19 σ τ nl s k).1 τ nl s k ((fl_se_it19 σ τ nl s k).2) k1).2), .int (nI k), .int (nI (k1 + 1)), .null]) ⟨.inr rfl, .inr rfl, .inr rfl, .inr rfl, .inr rfl, .inr rfl, .inl rfl, trivial⟩ hb
                · refine pr_aload_n hA dX0_search_81 rfl ?_
                  refine pr_dup hA dX0_search_82 rfl ?_
                  refine pr_getE (v := ((fl_se_it35 σ (fl_se_it19 σ τ nl s k).1 τ nl s k ((fl_se_it19 σ τ nl s k).2) k1).1 0 4)) hA f_X0_24 rfl (fk_0 hf) (rg_val0 (by decide)) dX0_search_83 ?_
                  refine pr_iconst hA (1) dX0_search_86 (by decide) ?_
                  refine pr_iload hA dX0_search_87 rfl ?_
                  refine pr_ishl hA dX0_search_89 ?_
                  refine pr_ior hA dX0_search_90 ?_
                  refine pr_putE (I' := (rg_put (ws_put I v τ) f 5 (pr_up (fl_se_it35 σ (fl_se_it19 σ τ nl s k).1 τ nl s k ((fl_se_it19 σ τ nl s k).2) k1).1 0 4 (((fl_se_it35 σ (fl_se_it19 σ τ nl s k).1 τ nl s k ((fl_se_it19 σ τ nl s k).2) k1).1 0 4) ||| ((1 : Int32) <<< ((fl_ac_r (fl_se_it35 σ (fl_se_it19 σ τ nl s k).1 τ nl s k ((fl_se_it19 σ τ nl s k).2) k1).1 τ nl k1 ((fl_se_it35 σ (fl_se_it19 σ τ nl s k).1 τ nl s k ((fl_se_it19 σ τ nl s k).2) k1).1 3 k)) &&& 31)))))) hA f_X0_24 rfl (fk_0 hf) (rg_up0 (by decide)) dX0_search_91 ?_
                  refine pr_aload_n hA dX0_search_94 rfl ?_
                  refine pr_getR hA f_X0_21 rfl (fk_0 hf) (ff_4 hf) dX0_search_95 ?_
                  refine pr_iload hA dX0_search_98 rfl ?_
                  refine pr_iload hA dX0_search_100 rfl ?_
                  refine pr_iastE (I' := (rg_put (ws_put I v τ) f 5 (pr_up (pr_up (fl_se_it35 σ (fl_se_it19 σ τ nl s k).1 τ nl s k ((fl_se_it19 σ τ nl s k).2) k1).1 0 4 (((fl_se_it35 σ (fl_se_it19 σ τ nl s k).1 τ nl s k ((fl_se_it19 σ τ nl s k).2) k1).1 0 4) ||| ((1 : Int32) <<< ((fl_ac_r (fl_se_it35 σ (fl_se_it19 σ τ nl s k).1 τ nl s k ((fl_se_it19 σ τ nl s k).2) k1).1 τ nl k1 ((fl_se_it35 σ (fl_se_it19 σ τ nl s k).1 τ nl s k ((fl_se_it19 σ τ nl s k).2) k1).1 3 k)) &&& 31)))) 4 ((fl_ac_r (fl_se_it35 σ (fl_se_it19 σ τ nl s k).1 τ nl s k ((fl_se_it19 σ τ nl s k).2) k1).1 τ nl k1 ((fl_se_it35 σ (fl_se_it19 σ τ nl s k).1 τ nl s k ((fl_se_it19 σ τ nl s k).2) k1).1 3 k)).toNatClampNeg) (nI k1)))) hA (fk_4 hf) (fl_ac_in hL (by omega) c_63) (rg_up (by decide)) dX0_search_102 ?_
                  refine pr_aload_n hA dX0_search_103 rfl ?_
                  refine pr_getR hA f_X0_18 rfl (fk_0 hf) (ff_3 hf) dX0_search_104 ?_
                  refine pr_iload_n hA dX0_search_107 rfl ?_
                  refine pr_iload hA dX0_search_108 rfl ?_
                  refine pr_iastE (I' := (rg_put (ws_put I v τ) f 5 (pr_up (pr_up (pr_up (fl_se_it35 σ (fl_se_it19 σ τ nl s k).1 τ nl s k ((fl_se_it19 σ τ nl s k).2) k1).1 0 4 (((fl_se_it35 σ (fl_se_it19 σ τ nl s k).1 τ nl s k ((fl_se_it19 σ τ nl s k).2) k1).1 0 4) ||| ((1 : Int32) <<< ((fl_ac_r (fl_se_it35 σ (fl_se_it19 σ τ nl s k).1 τ nl s k ((fl_se_it19 σ τ nl s k).2) k1).1 τ nl k1 ((fl_se_it35 σ (fl_se_it19 σ τ nl s k).1 τ nl s k ((fl_se_it19 σ τ nl s k).2) k1).1 3 k)) &&& 31)))) 4 ((fl_ac_r (fl_se_it35 σ (fl_se_it19 σ τ nl s k).1 τ nl s k ((fl_se_it19 σ τ nl s k).2) k1).1 τ nl k1 ((fl_se_it35 σ (fl_se_it19 σ τ nl s k).1 τ nl s k ((fl_se_it19 σ τ nl s k).2) k1).1 3 k)).toNatClampNeg) (nI k1)) 3 (((fl_se_it35 σ (fl_se_it19 σ τ nl s k).1 τ nl s k ((fl_se_it19 σ τ nl s k).2) k1).2).toNatClampNeg) (fl_ac_r (fl_se_it35 σ (fl_se_it19 σ τ nl s k).1 τ nl s k ((fl_se_it19 σ τ nl s k).2) k1).1 τ nl k1 ((fl_se_it35 σ (fl_se_it19 σ τ nl s k).1 τ nl s k ((fl_se_it19 σ τ nl s k).2) k1).1 3 k))))) hA (fk_3 hf) (vpi12 (fl_se_t1 (fl_se_t0 k) k1) c_78) (rg_up (by decide)) dX0_search_110 ?_
                  refine pr_iinc (ls' := [_, _, _, _, _, _, _]) hA (((fl_se_it35 σ (fl_se_it19 σ τ nl s k).1 τ nl s k ((fl_se_it19 σ τ nl s k).2) k1).2) + Int32.ofInt (1)) dX0_search_111 (by decide) rfl rfl rfl ?_
                  refine pr_iinc (ls' := [_, _, _, _, _, _, _]) hA (nI (k1 + 1)) dX0_search_114 (by decide) rfl (nI_inc _) rfl ?_
                  refine pr_goto hA 35 dX0_search_117 (by decide) ?_
                  have hb := ih35 (nl - (k1 + 1)) (by omega) (k1 + 1) rfl (by omega)
                  simp only [fl_se_it35, if_neg c_63, if_pos c_72, if_neg c_78] at hb
                  exact pr_lessL (ls' := [.ref f, .ref (v + 1), .int s, .int (((fl_se_it35 σ (fl_se_it19 σ τ nl s k).1 τ nl s k ((fl_se_it19 σ τ nl s k).2) k1).2) + Int32.ofInt (1)), .int (nI k), .int (nI (k1 + 1)), .null]) ⟨.inr rfl, .inr rfl, .inr rfl, .inr rfl, .inr rfl, .inr rfl, .inl rfl, trivial⟩ hb
        exact (lp35 (nl - 0) 0 rfl (by omega))
  exact (lp19 ((sl 12) - 0) 0 rfl (by omega))

theorem fr_fl_se {σ : pr_I} {τ : pr_I} {nl : Nat} {s : Int32} {o : Nat} (hms : ∀ m ∈ ([0, 3, 4] : List Nat), o ≠ m) : fl_se σ τ nl s o = σ o := by
  unfold fl_se
  simp only [List.mem_cons, List.not_mem_nil, or_false, forall_eq_or_imp, forall_eq] at hms
  rw [fr_fl_se_it19 (by simp only [List.mem_cons, List.not_mem_nil, or_false, forall_eq_or_imp, forall_eq]; omega), pr_up_ne (by omega), pr_up_ne (by omega)]

theorem fl_I_se1 {σ σ1 τ : pr_I} {nl k : Nat} {s x3 : Int32} (hn : nl ≤ 24) (hL : ∀ k, k < nl → vp_in (τ 2 k) 12 ∧ vp_in (τ 3 k) 12) (h : fl_I σ1) : ∀ k1, k1 ≤ nl → fl_I (fl_se_it35 σ σ1 τ nl s k x3 k1).1
  | 0, _ => h
  | k1 + 1, hk => by
    have ih := fl_I_se1 (σ := σ) (σ1 := σ1) (τ := τ) (nl := nl) (k := k) (s := s) (x3 := x3) hn hL h k1 (by omega)
    simp only [fl_se_it35]
    (repeat' split) <;> first | exact ih | exact ((ih.up0.up4 (nI_vin (by omega) (by decide))).up3 (fl_ac_in hL (by omega) (by assumption)))
theorem fl_I_se {σ τ : pr_I} {nl : Nat} {s : Int32} (hn : nl ≤ 24) (hL : ∀ k, k < nl → vp_in (τ 2 k) 12 ∧ vp_in (τ 3 k) 12) (hs : vp_in s 12) (h : fl_I σ) : fl_I (fl_se σ τ nl s) := by
  have : ∀ k, fl_I (fl_se_it19 σ τ nl s k).1 := by
    intro k
    induction k with
    | zero => exact (h.up0.up3 hs)
    | succ k ih =>
      simp only [fl_se_it19]
      split
      · exact ih
      · exact fl_I_se1 hn hL ih nl (Nat.le_refl _)
  exact this _
theorem fl_gr_go {σ τ : pr_I} {nl : Nat} {k x : Int32} (hI : True) : True := trivial
noncomputable def fl_gr_it10 (σ : pr_I) (τ : pr_I) (nl : Nat) (s : Int32) (t : Int32) : Nat → Int32 × Int32
  | 0 => ((1000000 : Int32), t)
  | k + 1 => (if ((fl_gr_it10 σ τ nl s t k).2) = s then (((fl_gr_it10 σ τ nl s t k).1), ((fl_gr_it10 σ τ nl s t k).2)) else ((if (if (if (τ 3 ((σ 4 (((fl_gr_it10 σ τ nl s t k).2).toNatClampNeg)).toNatClampNeg)) = ((fl_gr_it10 σ τ nl s t k).2) then (1 : Int32) else (0 : Int32)) = 0 then (σ 2 ((σ 4 (((fl_gr_it10 σ τ nl s t k).2).toNatClampNeg)).toNatClampNeg)) else ((σ 1 ((σ 4 (((fl_gr_it10 σ τ nl s t k).2).toNatClampNeg)).toNatClampNeg)) - (σ 2 ((σ 4 (((fl_gr_it10 σ τ nl s t k).2).toNatClampNeg)).toNatClampNeg)))) < ((fl_gr_it10 σ τ nl s t k).1) then (if (if (τ 3 ((σ 4 (((fl_gr_it10 σ τ nl s t k).2).toNatClampNeg)).toNatClampNeg)) = ((fl_gr_it10 σ τ nl s t k).2) then (1 : Int32) else (0 : Int32)) = 0 then (σ 2 ((σ 4 (((fl_gr_it10 σ τ nl s t k).2).toNatClampNeg)).toNatClampNeg)) else ((σ 1 ((σ 4 (((fl_gr_it10 σ τ nl s t k).2).toNatClampNeg)).toNatClampNeg)) - (σ 2 ((σ 4 (((fl_gr_it10 σ τ nl s t k).2).toNatClampNeg)).toNatClampNeg)))) else ((fl_gr_it10 σ τ nl s t k).1)), (if (if (τ 3 ((σ 4 (((fl_gr_it10 σ τ nl s t k).2).toNatClampNeg)).toNatClampNeg)) = ((fl_gr_it10 σ τ nl s t k).2) then (1 : Int32) else (0 : Int32)) = 0 then (τ 3 ((σ 4 (((fl_gr_it10 σ τ nl s t k).2).toNatClampNeg)).toNatClampNeg)) else (τ 2 ((σ 4 (((fl_gr_it10 σ τ nl s t k).2).toNatClampNeg)).toNatClampNeg)))))
theorem st_fl_gr_it10_20 {σ : pr_I} {τ : pr_I} {nl : Nat} {s : Int32} {t : Int32} {k : Nat} (c_20 : ((fl_gr_it10 σ τ nl s t k).2) = s) : ∀ j, fl_gr_it10 σ τ nl s t (k + j) = fl_gr_it10 σ τ nl s t k
  | 0 => rfl
  | j + 1 => by
    have ih := st_fl_gr_it10_20 c_20 j
    show fl_gr_it10 σ τ nl s t ((k + j) + 1) = fl_gr_it10 σ τ nl s t k
    simp only [fl_gr_it10, ih, if_pos c_20]
noncomputable def fl_gr_it124 (σ : pr_I) (τ : pr_I) (nl : Nat) (s : Int32) (t : Int32) : Nat → pr_I × Int32
  | 0 => (σ, t)
  | k + 1 => (if ((fl_gr_it124 σ τ nl s t k).2) = s then ((fl_gr_it124 σ τ nl s t k).1, ((fl_gr_it124 σ τ nl s t k).2)) else ((pr_up (fl_gr_it124 σ τ nl s t k).1 2 ((σ 4 (((fl_gr_it124 σ τ nl s t k).2).toNatClampNeg)).toNatClampNeg) (((fl_gr_it124 σ τ nl s t k).1 2 ((σ 4 (((fl_gr_it124 σ τ nl s t k).2).toNatClampNeg)).toNatClampNeg)) + (if (if (τ 3 ((σ 4 (((fl_gr_it124 σ τ nl s t k).2).toNatClampNeg)).toNatClampNeg)) = ((fl_gr_it124 σ τ nl s t k).2) then (1 : Int32) else (0 : Int32)) = 0 then (-((fl_gr_it10 σ τ nl s t (sl 12)).1)) else ((fl_gr_it10 σ τ nl s t (sl 12)).1)))), (if (if (τ 3 ((σ 4 (((fl_gr_it124 σ τ nl s t k).2).toNatClampNeg)).toNatClampNeg)) = ((fl_gr_it124 σ τ nl s t k).2) then (1 : Int32) else (0 : Int32)) = 0 then (τ 3 ((σ 4 (((fl_gr_it124 σ τ nl s t k).2).toNatClampNeg)).toNatClampNeg)) else (τ 2 ((σ 4 (((fl_gr_it124 σ τ nl s t k).2).toNatClampNeg)).toNatClampNeg)))))
theorem fr_fl_gr_it124 {σ : pr_I} {τ : pr_I} {nl : Nat} {s : Int32} {t : Int32} {o : Nat} (hms : ∀ m ∈ ([2] : List Nat), o ≠ m) : ∀ {k : Nat}, (fl_gr_it124 σ τ nl s t k).1 o = σ o := by
  simp only [List.mem_cons, List.not_mem_nil, or_false, forall_eq_or_imp, forall_eq] at hms
  intro k
  induction k with
  | zero =>
    show σ o = σ o
    rfl
  | succ k ih =>
    by_cases c_134 : ((fl_gr_it124 σ τ nl s t k).2) = s
    · refine (congrFun (congrArg (fun z : pr_I × Int32 => z.1) (if_pos c_134)) o).trans ?_
      show (fl_gr_it124 σ τ nl s t k).1 o = σ o
      rw [ih]
    · refine (congrFun (congrArg (fun z : pr_I × Int32 => z.1) (if_neg c_134)) o).trans ?_
      show (pr_up (fl_gr_it124 σ τ nl s t k).1 2 ((σ 4 (((fl_gr_it124 σ τ nl s t k).2).toNatClampNeg)).toNatClampNeg) (((fl_gr_it124 σ τ nl s t k).1 2 ((σ 4 (((fl_gr_it124 σ τ nl s t k).2).toNatClampNeg)).toNatClampNeg)) + (if (if (τ 3 ((σ 4 (((fl_gr_it124 σ τ nl s t k).2).toNatClampNeg)).toNatClampNeg)) = ((fl_gr_it124 σ τ nl s t k).2) then (1 : Int32) else (0 : Int32)) = 0 then (-((fl_gr_it10 σ τ nl s t (sl 12)).1)) else ((fl_gr_it10 σ τ nl s t (sl 12)).1)))) o = σ o
      rw [pr_up_ne (by omega), ih]

theorem st_fl_gr_it124_134 {σ : pr_I} {τ : pr_I} {nl : Nat} {s : Int32} {t : Int32} {k : Nat} (c_134 : ((fl_gr_it124 σ τ nl s t k).2) = s) : ∀ j, fl_gr_it124 σ τ nl s t (k + j) = fl_gr_it124 σ τ nl s t k
  | 0 => rfl
  | j + 1 => by
    have ih := st_fl_gr_it124_134 c_134 j
    show fl_gr_it124 σ τ nl s t ((k + j) + 1) = fl_gr_it124 σ τ nl s t k
    simp only [fl_gr_it124, ih, if_pos c_134]
noncomputable def fl_gr_r (σ : pr_I) (τ : pr_I) (nl : Nat) (s : Int32) (t : Int32) : Int32 := ((fl_gr_it10 σ τ nl s t (sl 12)).1)
noncomputable def fl_gr (σ : pr_I) (τ : pr_I) (nl : Nat) (s : Int32) (t : Int32) : pr_I := (fl_gr_it124 σ τ nl s t (sl 12)).1
theorem fl_gr_n0 {σ τ : pr_I} {nl : Nat} {s t : Int32} (ht : vp_in t 12) (hI : fl_I σ) (hLL : ∀ k, k < 24 → vp_in (τ 2 k) 12 ∧ vp_in (τ 3 k) 12) : ∀ k, vp_in (fl_gr_it10 σ τ nl s t k).2 12
  | 0 => ht
  | k + 1 => by
    have ih := fl_gr_n0 (σ := σ) (τ := τ) (nl := nl) (s := s) ht hI hLL k
    have he : vp_in (σ 4 (fl_gr_it10 σ τ nl s t k).2.toNatClampNeg) 24 := (hI _).2
    simp only [fl_gr_it10]
    (repeat' split) <;> first | exact ih | exact (hLL _ (vp_in_lt he)).1 | exact (hLL _ (vp_in_lt he)).2
theorem fl_gr_n1 {σ τ : pr_I} {nl : Nat} {s t : Int32} (ht : vp_in t 12) (hI : fl_I σ) (hLL : ∀ k, k < 24 → vp_in (τ 2 k) 12 ∧ vp_in (τ 3 k) 12) : ∀ k, vp_in (fl_gr_it124 σ τ nl s t k).2 12
  | 0 => ht
  | k + 1 => by
    have ih := fl_gr_n1 (σ := σ) (τ := τ) (nl := nl) (s := s) ht hI hLL k
    have he : vp_in (σ 4 (fl_gr_it124 σ τ nl s t k).2.toNatClampNeg) 24 := (hI _).2
    simp only [fl_gr_it124]
    (repeat' split) <;> first | exact ih | exact (hLL _ (vp_in_lt he)).1 | exact (hLL _ (vp_in_lt he)).2
set_option maxRecDepth 100000 in
set_option maxHeartbeats 4000000 in
theorem c_fl_gr {g : pr_C} {l : Launch} (hl : l.stackTraces = false) {T : pr_T} {I : pr_I} {L : pr_L} {f : Nat} {σ : pr_I} {τ : pr_I} {nl : Nat} {s : Int32} {t : Int32} (hf : pr_Fl T f) {v : Nat} (hv : pr_W T v) (hdis : f + 5 ≤ v ∨ v + 121 ≤ f) (hnl : τ 1 8 = nI nl) (hnl24 : nl ≤ 24) (hL : ∀ k, k < nl → vp_in (τ 2 k) 12 ∧ vp_in (τ 3 k) 12) (hI : fl_I σ) (hLL : ∀ k, k < 24 → vp_in (τ 2 k) 12 ∧ vp_in (τ 3 k) 12) (ht : vp_in t 12) : pr_M g l 2 0 0 mX0_growOneWay [.ref f, .ref (v + 1), .int s, .int t] T (rg_put (ws_put I v τ) f 5 σ) L (pr_R (some (.int (fl_gr_r σ τ nl s t))) T (rg_put (ws_put I v τ) f 5 (fl_gr σ τ nl s t)) L) pr_no := by
  refine pr_ofG (by decide) rfl hl (Nat.le_of_ble_eq_true rfl) (fun X hA hX hXn hXt => ?_)
  subst hX
  show pr_G g X mX0_growOneWay.2.2.1 _ 0 0 0 [.ref f, .ref (v + 1), .int s, .int t, .null, .null, .null, .null, .null] [] T (rg_put (ws_put I v τ) f 5 σ) L
  have hsl12 := sl_eq 12
  refine pr_ldc hA kK_X0_51 dX0_growOneWay_0 ?_
  refine pr_istore (ls' := [_, _, _, _, _, _, _, _, _]) hA dX0_growOneWay_2 (by decide) rfl ?_
  refine pr_iload_n hA dX0_growOneWay_4 rfl ?_
  refine pr_istore (ls' := [_, _, _, _, _, _, _, _, _]) hA dX0_growOneWay_5 (by decide) rfl ?_
  refine pr_iconst hA (nI 0) dX0_growOneWay_7 (by decide) ?_
  refine pr_istore (ls' := [_, _, _, _, _, _, _, _, _]) hA dX0_growOneWay_8 (by decide) rfl ?_
  have lp10 : ∀ (j k : Nat), (sl 12) - k = j → k ≤ (sl 12) → pr_G g X mX0_growOneWay.2.2.1 (pr_MQ g X (pr_R (some (.int (fl_gr_r σ τ nl s t))) T (rg_put (ws_put I v τ) f 5 (fl_gr σ τ nl s t)) L) pr_no 0 0) 0 0 10 [.ref f, .ref (v + 1), .int s, .int t, .int ((fl_gr_it10 σ τ nl s t k).1), .int ((fl_gr_it10 σ τ nl s t k).2), .int (nI k), .null, .null] [] T (rg_put (ws_put I v τ) f 5 σ) L := by
    intro j
    induction j using Nat.strongRecOn with | ind j ih10 =>
    intro k hj10 hk10
    refine pr_iload hA dX0_growOneWay_10 rfl ?_
    refine pr_bipush hA (nI 12) dX0_growOneWay_12 (by decide) ?_
    refine pr_icmp_ge hA 118 dX0_growOneWay_14 (by decide) (fun c_14 => ?_) (fun c_14 => ?_)
    · have n_14 : 12 ≤ k := (nI_leI (by omega) (by omega)).mp c_14
      have hex : (sl 12) = k := by omega
      subst hex
      refine pr_iload_n hA dX0_growOneWay_118 rfl ?_
      refine pr_istore (ls' := [_, _, _, _, _, _, _, _, _]) hA dX0_growOneWay_119 (by decide) rfl ?_
      refine pr_iconst hA (nI 0) dX0_growOneWay_121 (by decide) ?_
      refine pr_istore (ls' := [_, _, _, _, _, _, _, _, _]) hA dX0_growOneWay_122 (by decide) rfl ?_
      have lp124 : ∀ (j k : Nat), (sl 12) - k = j → k ≤ (sl 12) → pr_G g X mX0_growOneWay.2.2.1 (pr_MQ g X (pr_R (some (.int (fl_gr_r σ τ nl s t))) T (rg_put (ws_put I v τ) f 5 (fl_gr σ τ nl s t)) L) pr_no 0 0) 0 0 124 [.ref f, .ref (v + 1), .int s, .int t, .int ((fl_gr_it10 σ τ nl s t (sl 12)).1), .int ((fl_gr_it124 σ τ nl s t k).2), .int (nI k), .null, .null] [] T (rg_put (ws_put I v τ) f 5 (fl_gr_it124 σ τ nl s t k).1) L := by
        intro j
        induction j using Nat.strongRecOn with | ind j ih124 =>
        intro k hj124 hk124
        refine pr_iload hA dX0_growOneWay_124 rfl ?_
        refine pr_bipush hA (nI 12) dX0_growOneWay_126 (by decide) ?_
        refine pr_icmp_ge hA 218 dX0_growOneWay_128 (by decide) (fun c_128 => ?_) (fun c_128 => ?_)
        · have n_128 : 12 ≤ k := (nI_leI (by omega) (by omega)).mp c_128
          have hex : (sl 12) = k := by omega
          subst hex
          refine pr_iload hA dX0_growOneWay_218 rfl ?_
          exact pr_ireturn hA rfl rfl (Nat.zero_le _) (Nat.zero_le _) dX0_growOneWay_220 ⟨rfl, rfl, rfl, rfl⟩
        · have n_128 : ¬ 12 ≤ k := fun q => c_128 ((nI_leI (by omega) (by omega)).mpr q)
          refine pr_iload hA dX0_growOneWay_131 rfl ?_
          refine pr_iload_n hA dX0_growOneWay_133 rfl ?_
          refine pr_icmp_eq hA 218 dX0_growOneWay_134 (by decide) (fun c_134 => ?_) (fun c_134 => ?_)
          · have hst := st_fl_gr_it124_134 c_134 ((sl 12) - k)
            rw [show k + ((sl 12) - k) = (sl 12) from by omega] at hst
            refine pr_lessL (ls' := [.ref f, .ref (v + 1), .int s, .int t, .int ((fl_gr_it10 σ τ nl s t (sl 12)).1), .int ((fl_gr_it124 σ τ nl s t k).2), .null, .null, .null]) ⟨.inr rfl, .inr rfl, .inr rfl, .inr rfl, .inr rfl, .inr rfl, .inl rfl, .inl rfl, .inl rfl, trivial⟩ ?_
            rw [← hst]
            refine pr_iload hA dX0_growOneWay_218 rfl ?_
            exact pr_ireturn hA rfl rfl (Nat.zero_le _) (Nat.zero_le _) dX0_growOneWay_220 ⟨rfl, rfl, rfl, rfl⟩
          · refine pr_aload_n hA dX0_growOneWay_137 rfl ?_
            refine pr_getR hA f_X0_21 rfl (fk_0 hf) (ff_4 hf) dX0_growOneWay_138 ?_
            refine pr_iload hA dX0_growOneWay_141 rfl ?_
            refine pr_ialdE (v := (σ 4 (((fl_gr_it124 σ τ nl s t k).2).toNatClampNeg))) hA (fk_4 hf) (fl_gr_n1 ht hI hLL k) ((rg_val (by decide)).trans (congrFun (fr_fl_gr_it124 (by decide)) _)) dX0_growOneWay_143 ?_
            refine pr_istore (ls' := [_, _, _, _, _, _, _, _, _]) hA dX0_growOneWay_144 (by decide) rfl ?_
            refine pr_aload_n hA dX0_growOneWay_146 rfl ?_
            refine pr_getR hA f_X0_65 rfl (wk_1 hv) (wf_1_1 hv) dX0_growOneWay_147 ?_
            refine pr_iload hA dX0_growOneWay_150 rfl ?_
            refine pr_ialdE (v := (τ 3 ((σ 4 (((fl_gr_it124 σ τ nl s t k).2).toNatClampNeg)).toNatClampNeg))) hA (wk_3 hv) (hI _).2 ((rg_outv (by omega)).trans (ws_val (by decide))) dX0_growOneWay_152 ?_
            refine pr_iload hA dX0_growOneWay_153 rfl ?_
            refine pr_join (c := (τ 3 ((σ 4 (((fl_gr_it124 σ τ nl s t k).2).toNatClampNeg)).toNatClampNeg)) = ((fl_gr_it124 σ τ nl s t k).2)) (J := 163) (st := []) (1 : Int32) (0 : Int32) inferInstance (fun kt kf => ?_) ?_
            · refine pr_icmp_ne hA 162 dX0_growOneWay_155 (by decide) (fun c_155 => ?_) (fun c_155 => ?_)
              · refine pr_iconst hA (0) dX0_growOneWay_162 (by decide) ?_
                exact kf c_155
              · refine pr_iconst hA (1) dX0_growOneWay_158 (by decide) ?_
                refine pr_goto hA 163 dX0_growOneWay_159 (by decide) ?_
                exact kt c_155
            · refine pr_istore (ls' := [_, _, _, _, _, _, _, _, _]) hA dX0_growOneWay_163 (by decide) rfl ?_
              refine pr_aload_n hA dX0_growOneWay_165 rfl ?_
              refine pr_getR hA f_X0_15 rfl (fk_0 hf) (ff_2 hf) dX0_growOneWay_166 ?_
              refine pr_iload hA dX0_growOneWay_169 rfl ?_
              refine pr_dup2 hA dX0_growOneWay_171 rfl rfl ?_
              refine pr_ialdE (v := ((fl_gr_it124 σ τ nl s t k).1 2 ((σ 4 (((fl_gr_it124 σ τ nl s t k).2).toNatClampNeg)).toNatClampNeg))) hA (fk_2 hf) (hI _).2 (rg_val (by decide)) dX0_growOneWay_172 ?_
              refine pr_iload hA dX0_growOneWay_173 rfl ?_
              refine pr_join (c := (if (τ 3 ((σ 4 (((fl_gr_it124 σ τ nl s t k).2).toNatClampNeg)).toNatClampNeg)) = ((fl_gr_it124 σ τ nl s t k).2) then (1 : Int32) else (0 : Int32)) = 0) (J := 186) (st := [.int ((fl_gr_it124 σ τ nl s t k).1 2 ((σ 4 (((fl_gr_it124 σ τ nl s t k).2).toNatClampNeg)).toNatClampNeg)), .int (σ 4 (((fl_gr_it124 σ τ nl s t k).2).toNatClampNeg)), .ref (f + 2)]) (-((fl_gr_it10 σ τ nl s t (sl 12)).1)) ((fl_gr_it10 σ τ nl s t (sl 12)).1) inferInstance (fun kt kf => ?_) ?_
              · refine pr_if_eq hA 183 dX0_growOneWay_175 (by decide) (fun c_175 => ?_) (fun c_175 => ?_)
                · refine pr_iload hA dX0_growOneWay_183 rfl ?_
                  refine pr_ineg hA dX0_growOneWay_185 ?_
                  exact kt c_175
                · refine pr_iload hA dX0_growOneWay_178 rfl ?_
                  refine pr_goto hA 186 dX0_growOneWay_180 (by decide) ?_
                  exact kf c_175
              · refine pr_iadd hA dX0_growOneWay_186 ?_
                refine pr_iastE (I' := (rg_put (ws_put I v τ) f 5 (pr_up (fl_gr_it124 σ τ nl s t k).1 2 ((σ 4 (((fl_gr_it124 σ τ nl s t k).2).toNatClampNeg)).toNatClampNeg) (((fl_gr_it124 σ τ nl s t k).1 2 ((σ 4 (((fl_gr_it124 σ τ nl s t k).2).toNatClampNeg)).toNatClampNeg)) + (if (if (τ 3 ((σ 4 (((fl_gr_it124 σ τ nl s t k).2).toNatClampNeg)).toNatClampNeg)) = ((fl_gr_it124 σ τ nl s t k).2) then (1 : Int32) else (0 : Int32)) = 0 then (-((fl_gr_it10 σ τ nl s t (sl 12)).1)) else ((fl_gr_it10 σ τ nl s t (sl 12)).1)))))) hA (fk_2 hf) (hI _).2 (rg_up (by decide)) dX0_growOneWay_187 ?_
                refine pr_iload hA dX0_growOneWay_188 rfl ?_
                refine pr_join (c := (if (τ 3 ((σ 4 (((fl_gr_it124 σ τ nl s t k).2).toNatClampNeg)).toNatClampNeg)) = ((fl_gr_it124 σ τ nl s t k).2) then (1 : Int32) else (0 : Int32)) = 0) (J := 210) (st := []) (τ 3 ((σ 4 (((fl_gr_it124 σ τ nl s t k).2).toNatClampNeg)).toNatClampNeg)) (τ 2 ((σ 4 (((fl_gr_it124 σ τ nl s t k).2).toNatClampNeg)).toNatClampNeg)) inferInstance (fun kt kf => ?_) ?_
                · refine pr_if_eq hA 203 dX0_growOneWay_190 (by decide) (fun c_190 => ?_) (fun c_190 => ?_)
                  · refine pr_aload_n hA dX0_growOneWay_203 rfl ?_
                    refine pr_getR hA f_X0_65 rfl (wk_1 hv) (wf_1_1 hv) dX0_growOneWay_204 ?_
                    refine pr_iload hA dX0_growOneWay_207 rfl ?_
                    refine pr_ialdE (v := (τ 3 ((σ 4 (((fl_gr_it124 σ τ nl s t k).2).toNatClampNeg)).toNatClampNeg))) hA (wk_3 hv) (hI _).2 ((rg_outv (by omega)).trans (ws_val (by decide))) dX0_growOneWay_209 ?_
                    exact kt c_190
                  · refine pr_aload_n hA dX0_growOneWay_193 rfl ?_
                    refine pr_getR hA f_X0_62 rfl (wk_1 hv) (wf_1_0 hv) dX0_growOneWay_194 ?_
                    refine pr_iload hA dX0_growOneWay_197 rfl ?_
                    refine pr_ialdE (v := (τ 2 ((σ 4 (((fl_gr_it124 σ τ nl s t k).2).toNatClampNeg)).toNatClampNeg))) hA (wk_2 hv) (hI _).2 ((rg_outv (by omega)).trans (ws_val (by decide))) dX0_growOneWay_199 ?_
                    refine pr_goto hA 210 dX0_growOneWay_200 (by decide) ?_
                    exact kf c_190
                · refine pr_istore (ls' := [_, _, _, _, _, _, _, _, _]) hA dX0_growOneWay_210 (by decide) rfl ?_
                  refine pr_iinc (ls' := [_, _, _, _, _, _, _, _, _]) hA (nI (k + 1)) dX0_growOneWay_212 (by decide) rfl (nI_inc _) rfl ?_
                  refine pr_goto hA 124 dX0_growOneWay_215 (by decide) ?_
                  have hb := ih124 ((sl 12) - (k + 1)) (by omega) (k + 1) rfl (by omega)
                  simp only [fl_gr_it124, if_neg c_134] at hb
                  exact pr_lessL (ls' := [.ref f, .ref (v + 1), .int s, .int t, .int ((fl_gr_it10 σ τ nl s t (sl 12)).1), .int (if (if (τ 3 ((σ 4 (((fl_gr_it124 σ τ nl s t k).2).toNatClampNeg)).toNatClampNeg)) = ((fl_gr_it124 σ τ nl s t k).2) then (1 : Int32) else (0 : Int32)) = 0 then (τ 3 ((σ 4 (((fl_gr_it124 σ τ nl s t k).2).toNatClampNeg)).toNatClampNeg)) else (τ 2 ((σ 4 (((fl_gr_it124 σ τ nl s t k).2).toNatClampNeg)).toNatClampNeg))), .int (nI (k + 1)), .null, .null]) ⟨.inr rfl, .inr rfl, .inr rfl, .inr rfl, .inr rfl, .inr rfl, .inr rfl, .inl rfl, .inl rfl, trivial⟩ hb
      exact (lp124 ((sl 12) - 0) 0 rfl (by omega))
    · have n_14 : ¬ 12 ≤ k := fun q => c_14 ((nI_leI (by omega) (by omega)).mpr q)
      refine pr_iload hA dX0_growOneWay_17 rfl ?_
      refine pr_iload_n hA dX0_growOneWay_19 rfl ?_
      refine pr_icmp_eq hA 118 dX0_growOneWay_20 (by decide) (fun c_20 => ?_) (fun c_20 => ?_)
      · have hst := st_fl_gr_it10_20 c_20 ((sl 12) - k)
        rw [show k + ((sl 12) - k) = (sl 12) from by omega] at hst
        refine pr_lessL (ls' := [.ref f, .ref (v + 1), .int s, .int t, .int ((fl_gr_it10 σ τ nl s t k).1), .int ((fl_gr_it10 σ τ nl s t k).2), .null, .null, .null]) ⟨.inr rfl, .inr rfl, .inr rfl, .inr rfl, .inr rfl, .inr rfl, .inl rfl, .inl rfl, .inl rfl, trivial⟩ ?_
        rw [← hst]
        refine pr_iload_n hA dX0_growOneWay_118 rfl ?_
        refine pr_istore (ls' := [_, _, _, _, _, _, _, _, _]) hA dX0_growOneWay_119 (by decide) rfl ?_
        refine pr_iconst hA (nI 0) dX0_growOneWay_121 (by decide) ?_
        refine pr_istore (ls' := [_, _, _, _, _, _, _, _, _]) hA dX0_growOneWay_122 (by decide) rfl ?_
        have lp124 : ∀ (j k : Nat), (sl 12) - k = j → k ≤ (sl 12) → pr_G g X mX0_growOneWay.2.2.1 (pr_MQ g X (pr_R (some (.int (fl_gr_r σ τ nl s t))) T (rg_put (ws_put I v τ) f 5 (fl_gr σ τ nl s t)) L) pr_no 0 0) 0 0 124 [.ref f, .ref (v + 1), .int s, .int t, .int ((fl_gr_it10 σ τ nl s t (sl 12)).1), .int ((fl_gr_it124 σ τ nl s t k).2), .int (nI k), .null, .null] [] T (rg_put (ws_put I v τ) f 5 (fl_gr_it124 σ τ nl s t k).1) L := by
          intro j
          induction j using Nat.strongRecOn with | ind j ih124 =>
          intro k hj124 hk124
          refine pr_iload hA dX0_growOneWay_124 rfl ?_
          refine pr_bipush hA (nI 12) dX0_growOneWay_126 (by decide) ?_
          refine pr_icmp_ge hA 218 dX0_growOneWay_128 (by decide) (fun c_128 => ?_) (fun c_128 => ?_)
          · have n_128 : 12 ≤ k := (nI_leI (by omega) (by omega)).mp c_128
            have hex : (sl 12) = k := by omega
            subst hex
            refine pr_iload hA dX0_growOneWay_218 rfl ?_
            exact pr_ireturn hA rfl rfl (Nat.zero_le _) (Nat.zero_le _) dX0_growOneWay_220 ⟨rfl, rfl, rfl, rfl⟩
          · have n_128 : ¬ 12 ≤ k := fun q => c_128 ((nI_leI (by omega) (by omega)).mpr q)
            refine pr_iload hA dX0_growOneWay_131 rfl ?_
            refine pr_iload_n hA dX0_growOneWay_133 rfl ?_
            refine pr_icmp_eq hA 218 dX0_growOneWay_134 (by decide) (fun c_134 => ?_) (fun c_134 => ?_)
            · have hst := st_fl_gr_it124_134 c_134 ((sl 12) - k)
              rw [show k + ((sl 12) - k) = (sl 12) from by omega] at hst
              refine pr_lessL (ls' := [.ref f, .ref (v + 1), .int s, .int t, .int ((fl_gr_it10 σ τ nl s t (sl 12)).1), .int ((fl_gr_it124 σ τ nl s t k).2), .null, .null, .null]) ⟨.inr rfl, .inr rfl, .inr rfl, .inr rfl, .inr rfl, .inr rfl, .inl rfl, .inl rfl, .inl rfl, trivial⟩ ?_
              rw [← hst]
              refine pr_iload hA dX0_growOneWay_218 rfl ?_
              exact pr_ireturn hA rfl rfl (Nat.zero_le _) (Nat.zero_le _) dX0_growOneWay_220 ⟨rfl, rfl, rfl, rfl⟩
            · refine pr_aload_n hA dX0_growOneWay_137 rfl ?_
              refine pr_getR hA f_X0_21 rfl (fk_0 hf) (ff_4 hf) dX0_growOneWay_138 ?_
              refine pr_iload hA dX0_growOneWay_141 rfl ?_
              refine pr_ialdE (v := (σ 4 (((fl_gr_it124 σ τ nl s t k).2).toNatClampNeg))) hA (fk_4 hf) (fl_gr_n1 ht hI hLL k) ((rg_val (by decide)).trans (congrFun (fr_fl_gr_it124 (by decide)) _)) dX0_growOneWay_143 ?_
              refine pr_istore (ls' := [_, _, _, _, _, _, _, _, _]) hA dX0_growOneWay_144 (by decide) rfl ?_
              refine pr_aload_n hA dX0_growOneWay_146 rfl ?_
              refine pr_getR hA f_X0_65 rfl (wk_1 hv) (wf_1_1 hv) dX0_growOneWay_147 ?_
              refine pr_iload hA dX0_growOneWay_150 rfl ?_
              refine pr_ialdE (v := (τ 3 ((σ 4 (((fl_gr_it124 σ τ nl s t k).2).toNatClampNeg)).toNatClampNeg))) hA (wk_3 hv) (hI _).2 ((rg_outv (by omega)).trans (ws_val (by decide))) dX0_growOneWay_152 ?_
              refine pr_iload hA dX0_growOneWay_153 rfl ?_
              refine pr_join (c := (τ 3 ((σ 4 (((fl_gr_it124 σ τ nl s t k).2).toNatClampNeg)).toNatClampNeg)) = ((fl_gr_it124 σ τ nl s t k).2)) (J := 163) (st := []) (1 : Int32) (0 : Int32) inferInstance (fun kt kf => ?_) ?_
              · refine pr_icmp_ne hA 162 dX0_growOneWay_155 (by decide) (fun c_155 => ?_) (fun c_155 => ?_)
                · refine pr_iconst hA (0) dX0_growOneWay_162 (by decide) ?_
                  exact kf c_155
                · refine pr_iconst hA (1) dX0_growOneWay_158 (by decide) ?_
                  refine pr_goto hA 163 dX0_growOneWay_159 (by decide) ?_
                  exact kt c_155
              · refine pr_istore (ls' := [_, _, _, _, _, _, _, _, _]) hA dX0_growOneWay_163 (by decide) rfl ?_
                refine pr_aload_n hA dX0_growOneWay_165 rfl ?_
                refine pr_getR hA f_X0_15 rfl (fk_0 hf) (ff_2 hf) dX0_growOneWay_166 ?_
                refine pr_iload hA dX0_growOneWay_169 rfl ?_
                refine pr_dup2 hA dX0_growOneWay_171 rfl rfl ?_
                refine pr_ialdE (v := ((fl_gr_it124 σ τ nl s t k).1 2 ((σ 4 (((fl_gr_it124 σ τ nl s t k).2).toNatClampNeg)).toNatClampNeg))) hA (fk_2 hf) (hI _).2 (rg_val (by decide)) dX0_growOneWay_172 ?_
                refine pr_iload hA dX0_growOneWay_173 rfl ?_
                refine pr_join (c := (if (τ 3 ((σ 4 (((fl_gr_it124 σ τ nl s t k).2).toNatClampNeg)).toNatClampNeg)) = ((fl_gr_it124 σ τ nl s t k).2) then (1 : Int32) else (0 : Int32)) = 0) (J := 186) (st := [.int ((fl_gr_it124 σ τ nl s t k).1 2 ((σ 4 (((fl_gr_it124 σ τ nl s t k).2).toNatClampNeg)).toNatClampNeg)), .int (σ 4 (((fl_gr_it124 σ τ nl s t k).2).toNatClampNeg)), .ref (f + 2)]) (-((fl_gr_it10 σ τ nl s t (sl 12)).1)) ((fl_gr_it10 σ τ nl s t (sl 12)).1) inferInstance (fun kt kf => ?_) ?_
                · refine pr_if_eq hA 183 dX0_growOneWay_175 (by decide) (fun c_175 => ?_) (fun c_175 => ?_)
                  · refine pr_iload hA dX0_growOneWay_183 rfl ?_
                    refine pr_ineg hA dX0_growOneWay_185 ?_
                    exact kt c_175
                  · refine pr_iload hA dX0_growOneWay_178 rfl ?_
                    refine pr_goto hA 186 dX0_growOneWay_180 (by decide) ?_
                    exact kf c_175
                · refine pr_iadd hA dX0_growOneWay_186 ?_
                  refine pr_iastE (I' := (rg_put (ws_put I v τ) f 5 (pr_up (fl_gr_it124 σ τ nl s t k).1 2 ((σ 4 (((fl_gr_it124 σ τ nl s t k).2).toNatClampNeg)).toNatClampNeg) (((fl_gr_it124 σ τ nl s t k).1 2 ((σ 4 (((fl_gr_it124 σ τ nl s t k).2).toNatClampNeg)).toNatClampNeg)) + (if (if (τ 3 ((σ 4 (((fl_gr_it124 σ τ nl s t k).2).toNatClampNeg)).toNatClampNeg)) = ((fl_gr_it124 σ τ nl s t k).2) then (1 : Int32) else (0 : Int32)) = 0 then (-((fl_gr_it10 σ τ nl s t (sl 12)).1)) else ((fl_gr_it10 σ τ nl s t (sl 12)).1)))))) hA (fk_2 hf) (hI _).2 (rg_up (by decide)) dX0_growOneWay_187 ?_
                  refine pr_iload hA dX0_growOneWay_188 rfl ?_
                  refine pr_join (c := (if (τ 3 ((σ 4 (((fl_gr_it124 σ τ nl s t k).2).toNatClampNeg)).toNatClampNeg)) = ((fl_gr_it124 σ τ nl s t k).2) then (1 : Int32) else (0 : Int32)) = 0) (J := 210) (st := []) (τ 3 ((σ 4 (((fl_gr_it124 σ τ nl s t k).2).toNatClampNeg)).toNatClampNeg)) (τ 2 ((σ 4 (((fl_gr_it124 σ τ nl s t k).2).toNatClampNeg)).toNatClampNeg)) inferInstance (fun kt kf => ?_) ?_
                  · refine pr_if_eq hA 203 dX0_growOneWay_190 (by decide) (fun c_190 => ?_) (fun c_190 => ?_)
                    · refine pr_aload_n hA dX0_growOneWay_203 rfl ?_
                      refine pr_getR hA f_X0_65 rfl (wk_1 hv) (wf_1_1 hv) dX0_growOneWay_204 ?_
                      refine pr_iload hA dX0_growOneWay_207 rfl ?_
                      refine pr_ialdE (v := (τ 3 ((σ 4 (((fl_gr_it124 σ τ nl s t k).2).toNatClampNeg)).toNatClampNeg))) hA (wk_3 hv) (hI _).2 ((rg_outv (by omega)).trans (ws_val (by decide))) dX0_growOneWay_209 ?_
                      exact kt c_190
                    · refine pr_aload_n hA dX0_growOneWay_193 rfl ?_
                      refine pr_getR hA f_X0_62 rfl (wk_1 hv) (wf_1_0 hv) dX0_growOneWay_194 ?_
                      refine pr_iload hA dX0_growOneWay_197 rfl ?_
                      refine pr_ialdE (v := (τ 2 ((σ 4 (((fl_gr_it124 σ τ nl s t k).2).toNatClampNeg)).toNatClampNeg))) hA (wk_2 hv) (hI _).2 ((rg_outv (by omega)).trans (ws_val (by decide))) dX0_growOneWay_199 ?_
                      refine pr_goto hA 210 dX0_growOneWay_200 (by decide) ?_
                      exact kf c_190
                  · refine pr_istore (ls' := [_, _, _, _, _, _, _, _, _]) hA dX0_growOneWay_210 (by decide) rfl ?_
                    refine pr_iinc (ls' := [_, _, _, _, _, _, _, _, _]) hA (nI (k + 1)) dX0_growOneWay_212 (by decide) rfl (nI_inc _) rfl ?_
                    refine pr_goto hA 124 dX0_growOneWay_215 (by decide) ?_
                    have hb := ih124 ((sl 12) - (k + 1)) (by omega) (k + 1) rfl (by omega)
                    simp only [fl_gr_it124, if_neg c_134] at hb
                    exact pr_lessL (ls' := [.ref f, .ref (v + 1), .int s, .int t, .int ((fl_gr_it10 σ τ nl s t (sl 12)).1), .int (if (if (τ 3 ((σ 4 (((fl_gr_it124 σ τ nl s t k).2).toNatClampNeg)).toNatClampNeg)) = ((fl_gr_it124 σ τ nl s t k).2) then (1 : Int32) else (0 : Int32)) = 0 then (τ 3 ((σ 4 (((fl_gr_it124 σ τ nl s t k).2).toNatClampNeg)).toNatClampNeg)) else (τ 2 ((σ 4 (((fl_gr_it124 σ τ nl s t k).2).toNatClampNeg)).toNatClampNeg))), .int (nI (k + 1)), .null, .null]) ⟨.inr rfl, .inr rfl, .inr rfl, .inr rfl, .inr rfl, .inr rfl, .inr rfl, .inl rfl, .inl rfl, trivial⟩ hb
        exact (lp124 ((sl 12) - 0) 0 rfl (by omega))
      · refine pr_aload_n hA dX0_growOneWay_23 rfl ?_
        refine pr_getR hA f_X0_21 rfl (fk_0 hf) (ff_4 hf) dX0_growOneWay_24 ?_
        refine pr_iload hA dX0_growOneWay_27 rfl ?_
        refine pr_ialdE (v := (σ 4 (((fl_gr_it10 σ τ nl s t k).2).toNatClampNeg))) hA (fk_4 hf) (fl_gr_n0 ht hI hLL k) (rg_val (by decide)) dX0_growOneWay_29 ?_
        refine pr_istore (ls' := [_, _, _, _, _, _, _, _, _]) hA dX0_growOneWay_30 (by decide) rfl ?_
        refine pr_aload_n hA dX0_growOneWay_32 rfl ?_
        refine pr_getR hA f_X0_65 rfl (wk_1 hv) (wf_1_1 hv) dX0_growOneWay_33 ?_
        refine pr_iload hA dX0_growOneWay_36 rfl ?_
        refine pr_ialdE (v := (τ 3 ((σ 4 (((fl_gr_it10 σ τ nl s t k).2).toNatClampNeg)).toNatClampNeg))) hA (wk_3 hv) (hI _).2 ((rg_outv (by omega)).trans (ws_val (by decide))) dX0_growOneWay_38 ?_
        refine pr_iload hA dX0_growOneWay_39 rfl ?_
        refine pr_join (c := (τ 3 ((σ 4 (((fl_gr_it10 σ τ nl s t k).2).toNatClampNeg)).toNatClampNeg)) = ((fl_gr_it10 σ τ nl s t k).2)) (J := 49) (st := []) (1 : Int32) (0 : Int32) inferInstance (fun kt kf => ?_) ?_
        · refine pr_icmp_ne hA 48 dX0_growOneWay_41 (by decide) (fun c_41 => ?_) (fun c_41 => ?_)
          · refine pr_iconst hA (0) dX0_growOneWay_48 (by decide) ?_
            exact kf c_41
          · refine pr_iconst hA (1) dX0_growOneWay_44 (by decide) ?_
            refine pr_goto hA 49 dX0_growOneWay_45 (by decide) ?_
            exact kt c_41
        · refine pr_istore (ls' := [_, _, _, _, _, _, _, _, _]) hA dX0_growOneWay_49 (by decide) rfl ?_
          refine pr_iload hA dX0_growOneWay_51 rfl ?_
          refine pr_iload hA dX0_growOneWay_53 rfl ?_
          refine pr_join (c := (if (τ 3 ((σ 4 (((fl_gr_it10 σ τ nl s t k).2).toNatClampNeg)).toNatClampNeg)) = ((fl_gr_it10 σ τ nl s t k).2) then (1 : Int32) else (0 : Int32)) = 0) (J := 83) (st := [.int ((fl_gr_it10 σ τ nl s t k).1)]) (σ 2 ((σ 4 (((fl_gr_it10 σ τ nl s t k).2).toNatClampNeg)).toNatClampNeg)) ((σ 1 ((σ 4 (((fl_gr_it10 σ τ nl s t k).2).toNatClampNeg)).toNatClampNeg)) - (σ 2 ((σ 4 (((fl_gr_it10 σ τ nl s t k).2).toNatClampNeg)).toNatClampNeg))) inferInstance (fun kt kf => ?_) ?_
          · refine pr_if_eq hA 76 dX0_growOneWay_55 (by decide) (fun c_55 => ?_) (fun c_55 => ?_)
            · refine pr_aload_n hA dX0_growOneWay_76 rfl ?_
              refine pr_getR hA f_X0_15 rfl (fk_0 hf) (ff_2 hf) dX0_growOneWay_77 ?_
              refine pr_iload hA dX0_growOneWay_80 rfl ?_
              refine pr_ialdE (v := (σ 2 ((σ 4 (((fl_gr_it10 σ τ nl s t k).2).toNatClampNeg)).toNatClampNeg))) hA (fk_2 hf) (hI _).2 (rg_val (by decide)) dX0_growOneWay_82 ?_
              exact kt c_55
            · refine pr_aload_n hA dX0_growOneWay_58 rfl ?_
              refine pr_getR hA f_X0_9 rfl (fk_0 hf) (ff_1 hf) dX0_growOneWay_59 ?_
              refine pr_iload hA dX0_growOneWay_62 rfl ?_
              refine pr_ialdE (v := (σ 1 ((σ 4 (((fl_gr_it10 σ τ nl s t k).2).toNatClampNeg)).toNatClampNeg))) hA (fk_1 hf) (hI _).2 (rg_val (by decide)) dX0_growOneWay_64 ?_
              refine pr_aload_n hA dX0_growOneWay_65 rfl ?_
              refine pr_getR hA f_X0_15 rfl (fk_0 hf) (ff_2 hf) dX0_growOneWay_66 ?_
              refine pr_iload hA dX0_growOneWay_69 rfl ?_
              refine pr_ialdE (v := (σ 2 ((σ 4 (((fl_gr_it10 σ τ nl s t k).2).toNatClampNeg)).toNatClampNeg))) hA (fk_2 hf) (hI _).2 (rg_val (by decide)) dX0_growOneWay_71 ?_
              refine pr_isub hA dX0_growOneWay_72 ?_
              refine pr_goto hA 83 dX0_growOneWay_73 (by decide) ?_
              exact kf c_55
          · refine pr_mmin hA rfl ⟨kM_X0_68, kT_J9_min_7cf53, kZ_J9, kO_J9_min_7cf53⟩ (by decide) (Nat.zero_le _) (Nat.zero_le _) (Nat.le_of_ble_eq_true rfl) dX0_growOneWay_83 ?_
            refine pr_istore (ls' := [_, _, _, _, _, _, _, _, _]) hA dX0_growOneWay_86 (by decide) rfl ?_
            refine pr_iload hA dX0_growOneWay_88 rfl ?_
            refine pr_join (c := (if (τ 3 ((σ 4 (((fl_gr_it10 σ τ nl s t k).2).toNatClampNeg)).toNatClampNeg)) = ((fl_gr_it10 σ τ nl s t k).2) then (1 : Int32) else (0 : Int32)) = 0) (J := 110) (st := []) (τ 3 ((σ 4 (((fl_gr_it10 σ τ nl s t k).2).toNatClampNeg)).toNatClampNeg)) (τ 2 ((σ 4 (((fl_gr_it10 σ τ nl s t k).2).toNatClampNeg)).toNatClampNeg)) inferInstance (fun kt kf => ?_) ?_
            · refine pr_if_eq hA 103 dX0_growOneWay_90 (by decide) (fun c_90 => ?_) (fun c_90 => ?_)
              · refine pr_aload_n hA dX0_growOneWay_103 rfl ?_
                refine pr_getR hA f_X0_65 rfl (wk_1 hv) (wf_1_1 hv) dX0_growOneWay_104 ?_
                refine pr_iload hA dX0_growOneWay_107 rfl ?_
                refine pr_ialdE (v := (τ 3 ((σ 4 (((fl_gr_it10 σ τ nl s t k).2).toNatClampNeg)).toNatClampNeg))) hA (wk_3 hv) (hI _).2 ((rg_outv (by omega)).trans (ws_val (by decide))) dX0_growOneWay_109 ?_
                exact kt c_90
              · refine pr_aload_n hA dX0_growOneWay_93 rfl ?_
                refine pr_getR hA f_X0_62 rfl (wk_1 hv) (wf_1_0 hv) dX0_growOneWay_94 ?_
                refine pr_iload hA dX0_growOneWay_97 rfl ?_
                refine pr_ialdE (v := (τ 2 ((σ 4 (((fl_gr_it10 σ τ nl s t k).2).toNatClampNeg)).toNatClampNeg))) hA (wk_2 hv) (hI _).2 ((rg_outv (by omega)).trans (ws_val (by decide))) dX0_growOneWay_99 ?_
                refine pr_goto hA 110 dX0_growOneWay_100 (by decide) ?_
                exact kf c_90
            · refine pr_istore (ls' := [_, _, _, _, _, _, _, _, _]) hA dX0_growOneWay_110 (by decide) rfl ?_
              refine pr_iinc (ls' := [_, _, _, _, _, _, _, _, _]) hA (nI (k + 1)) dX0_growOneWay_112 (by decide) rfl (nI_inc _) rfl ?_
              refine pr_goto hA 10 dX0_growOneWay_115 (by decide) ?_
              have hb := ih10 ((sl 12) - (k + 1)) (by omega) (k + 1) rfl (by omega)
              simp only [fl_gr_it10, if_neg c_20] at hb
              exact pr_lessL (ls' := [.ref f, .ref (v + 1), .int s, .int t, .int (if (if (if (τ 3 ((σ 4 (((fl_gr_it10 σ τ nl s t k).2).toNatClampNeg)).toNatClampNeg)) = ((fl_gr_it10 σ τ nl s t k).2) then (1 : Int32) else (0 : Int32)) = 0 then (σ 2 ((σ 4 (((fl_gr_it10 σ τ nl s t k).2).toNatClampNeg)).toNatClampNeg)) else ((σ 1 ((σ 4 (((fl_gr_it10 σ τ nl s t k).2).toNatClampNeg)).toNatClampNeg)) - (σ 2 ((σ 4 (((fl_gr_it10 σ τ nl s t k).2).toNatClampNeg)).toNatClampNeg)))) < ((fl_gr_it10 σ τ nl s t k).1) then (if (if (τ 3 ((σ 4 (((fl_gr_it10 σ τ nl s t k).2).toNatClampNeg)).toNatClampNeg)) = ((fl_gr_it10 σ τ nl s t k).2) then (1 : Int32) else (0 : Int32)) = 0 then (σ 2 ((σ 4 (((fl_gr_it10 σ τ nl s t k).2).toNatClampNeg)).toNatClampNeg)) else ((σ 1 ((σ 4 (((fl_gr_it10 σ τ nl s t k).2).toNatClampNeg)).toNatClampNeg)) - (σ 2 ((σ 4 (((fl_gr_it10 σ τ nl s t k).2).toNatClampNeg)).toNatClampNeg)))) else ((fl_gr_it10 σ τ nl s t k).1)), .int (if (if (τ 3 ((σ 4 (((fl_gr_it10 σ τ nl s t k).2).toNatClampNeg)).toNatClampNeg)) = ((fl_gr_it10 σ τ nl s t k).2) then (1 : Int32) else (0 : Int32)) = 0 then (τ 3 ((σ 4 (((fl_gr_it10 σ τ nl s t k).2).toNatClampNeg)).toNatClampNeg)) else (τ 2 ((σ 4 (((fl_gr_it10 σ τ nl s t k).2).toNatClampNeg)).toNatClampNeg))), .int (nI (k + 1)), .null, .null]) ⟨.inr rfl, .inr rfl, .inr rfl, .inr rfl, .inr rfl, .inr rfl, .inr rfl, .inl rfl, .inl rfl, trivial⟩ hb
  exact (lp10 ((sl 12) - 0) 0 rfl (by omega))

theorem fr_fl_gr {σ : pr_I} {τ : pr_I} {nl : Nat} {s : Int32} {t : Int32} {o : Nat} (hms : ∀ m ∈ ([2] : List Nat), o ≠ m) : fl_gr σ τ nl s t o = σ o := by
  unfold fl_gr
  simp only [List.mem_cons, List.not_mem_nil, or_false, forall_eq_or_imp, forall_eq] at hms
  rw [fr_fl_gr_it124 (by simp only [List.mem_cons, List.not_mem_nil, or_false, forall_eq_or_imp, forall_eq]; omega)]

noncomputable def fl_fi_it20 (σ : pr_I) (τ : pr_I) (nl : Nat) (s : Int32) (t : Int32) : Nat → pr_I × Int32
  | 0 => ((fl_se (pr_row σ 2 (fl_row (0 : Int32) (σ 2) 24)) τ nl s), (0 : Int32))
  | k + 1 => (if (fl_is_r (fl_fi_it20 σ τ nl s t k).1 t) = 0 then ((fl_fi_it20 σ τ nl s t k).1, ((fl_fi_it20 σ τ nl s t k).2)) else ((fl_se (fl_gr (fl_fi_it20 σ τ nl s t k).1 τ nl s t) τ nl s), (((fl_fi_it20 σ τ nl s t k).2) + (fl_gr_r (fl_fi_it20 σ τ nl s t k).1 τ nl s t))))
theorem fr_fl_fi_it20 {σ : pr_I} {τ : pr_I} {nl : Nat} {s : Int32} {t : Int32} {o : Nat} (hms : ∀ m ∈ ([0, 2, 3, 4] : List Nat), o ≠ m) : ∀ {k : Nat}, (fl_fi_it20 σ τ nl s t k).1 o = (fl_se (pr_row σ 2 (fl_row (0 : Int32) (σ 2) 24)) τ nl s) o := by
  simp only [List.mem_cons, List.not_mem_nil, or_false, forall_eq_or_imp, forall_eq] at hms
  intro k
  induction k with
  | zero =>
    show (fl_se (pr_row σ 2 (fl_row (0 : Int32) (σ 2) 24)) τ nl s) o = (fl_se (pr_row σ 2 (fl_row (0 : Int32) (σ 2) 24)) τ nl s) o
    rfl
  | succ k ih =>
    by_cases c_32 : (fl_is_r (fl_fi_it20 σ τ nl s t k).1 t) = 0
    · refine (congrFun (congrArg (fun z : pr_I × Int32 => z.1) (if_pos c_32)) o).trans ?_
      show (fl_fi_it20 σ τ nl s t k).1 o = (fl_se (pr_row σ 2 (fl_row (0 : Int32) (σ 2) 24)) τ nl s) o
      rw [ih]
    · refine (congrFun (congrArg (fun z : pr_I × Int32 => z.1) (if_neg c_32)) o).trans ?_
      show (fl_se (fl_gr (fl_fi_it20 σ τ nl s t k).1 τ nl s t) τ nl s) o = (fl_se (pr_row σ 2 (fl_row (0 : Int32) (σ 2) 24)) τ nl s) o
      rw [fr_fl_se (by simp only [List.mem_cons, List.not_mem_nil, or_false, forall_eq_or_imp, forall_eq]; omega), fr_fl_gr (by simp only [List.mem_cons, List.not_mem_nil, or_false, forall_eq_or_imp, forall_eq]; omega), ih]

theorem st_fl_fi_it20_32 {σ : pr_I} {τ : pr_I} {nl : Nat} {s : Int32} {t : Int32} {k : Nat} (c_32 : (fl_is_r (fl_fi_it20 σ τ nl s t k).1 t) = 0) : ∀ j, fl_fi_it20 σ τ nl s t (k + j) = fl_fi_it20 σ τ nl s t k
  | 0 => rfl
  | j + 1 => by
    have ih := st_fl_fi_it20_32 c_32 j
    show fl_fi_it20 σ τ nl s t ((k + j) + 1) = fl_fi_it20 σ τ nl s t k
    simp only [fl_fi_it20, ih, if_pos c_32]
noncomputable def fl_fi_r (σ : pr_I) (τ : pr_I) (nl : Nat) (s : Int32) (t : Int32) : Int32 := ((fl_fi_it20 σ τ nl s t (sl 1000000)).2)
noncomputable def fl_fi (σ : pr_I) (τ : pr_I) (nl : Nat) (s : Int32) (t : Int32) : pr_I := (fl_fi_it20 σ τ nl s t (sl 1000000)).1
theorem fl_I_gr {σ τ : pr_I} {nl : Nat} {s t : Int32} (hI : fl_I σ) : fl_I (fl_gr σ τ nl s t) := hI.keep (fr_fl_gr (by decide)) (fr_fl_gr (by decide))
theorem fl_fi_I {σ τ : pr_I} {nl : Nat} {s t : Int32} (hn : nl ≤ 24) (hL : ∀ k, k < nl → vp_in (τ 2 k) 12 ∧ vp_in (τ 3 k) 12) (hs : vp_in s 12) (hI : fl_I σ) : ∀ k, fl_I (fl_fi_it20 σ τ nl s t k).1
  | 0 => fl_I_se hn hL hs (hI.keep rfl rfl)
  | k + 1 => by
    have ih := fl_fi_I (t := t) hn hL hs hI k
    simp only [fl_fi_it20]
    split
    · exact ih
    · exact fl_I_se hn hL hs (fl_I_gr ih)
set_option maxRecDepth 100000 in
set_option maxHeartbeats 4000000 in
theorem c_fl_fi {g : pr_C} {l : Launch} (hl : l.stackTraces = false) {T : pr_T} {I : pr_I} {L : pr_L} {f : Nat} {σ : pr_I} {τ : pr_I} {nl : Nat} {s : Int32} {t : Int32} (hf : pr_Fl T f) {v : Nat} (hv : pr_W T v) (hdis : f + 5 ≤ v ∨ v + 121 ≤ f) (hnl : τ 1 8 = nI nl) (hnl24 : nl ≤ 24) (hL : ∀ k, k < nl → vp_in (τ 2 k) 12 ∧ vp_in (τ 3 k) 12) (hI : fl_I σ) (hLL : ∀ k, k < 24 → vp_in (τ 2 k) 12 ∧ vp_in (τ 3 k) 12) (hs : vp_in s 12) (ht : vp_in t 12) : pr_M g l 4 0 0 mX0_fill [.ref f, .ref (v + 1), .int s, .int t] T (rg_put (ws_put I v τ) f 5 σ) L (pr_R (some (.int (fl_fi_r σ τ nl s t))) T (rg_put (ws_put I v τ) f 5 (fl_fi σ τ nl s t)) L) pr_no := by
  refine pr_ofG (by decide) rfl hl (Nat.le_of_ble_eq_true rfl) (fun X hA hX hXn hXt => ?_)
  subst hX
  show pr_G g X mX0_fill.2.2.1 _ 0 0 0 [.ref f, .ref (v + 1), .int s, .int t, .null, .null] [] T (rg_put (ws_put I v τ) f 5 σ) L
  have hsl1000000 := sl_eq 1000000
  refine pr_aload_n hA dX0_fill_0 rfl ?_
  refine pr_getR hA f_X0_15 rfl (fk_0 hf) (ff_2 hf) dX0_fill_1 ?_
  refine pr_iconst hA (0) dX0_fill_4 (by decide) ?_
  refine pr_callSv hA [.ref (f + 2), .int (0 : Int32)] (c_fillE (pr_hl hA) (fk_2 hf) (by decide) (rg_row (by decide)) (rg_put_row (by decide))) s_X0_41 rfl (by decide) (Nat.zero_le _) (Nat.zero_le _) rfl (Nat.le_of_ble_eq_true rfl) dX0_fill_5 ?_
  refine pr_iconst hA (0) dX0_fill_8 (by decide) ?_
  refine pr_istore (ls' := [_, _, _, _, _, _]) hA dX0_fill_9 (by decide) rfl ?_
  refine pr_aload_n hA dX0_fill_11 rfl ?_
  refine pr_aload_n hA dX0_fill_12 rfl ?_
  refine pr_iload_n hA dX0_fill_13 rfl ?_
  refine pr_callVv hA [.ref (v + 1), .int s] (c_fl_se (pr_hl hA) hf hv hdis hnl hnl24 hL) v_X0_47 (fk_0 hf) (by decide) rfl rfl rfl (by decide) (Nat.zero_le _) (Nat.zero_le _) rfl (Nat.le_of_ble_eq_true rfl) dX0_fill_14 ?_
  refine pr_iconst hA (nI 0) dX0_fill_17 (by decide) ?_
  refine pr_istore (ls' := [_, _, _, _, _, _]) hA dX0_fill_18 (by decide) rfl ?_
  have lp20 : ∀ (j k : Nat), (sl 1000000) - k = j → k ≤ (sl 1000000) → pr_G g X mX0_fill.2.2.1 (pr_MQ g X (pr_R (some (.int (fl_fi_r σ τ nl s t))) T (rg_put (ws_put I v τ) f 5 (fl_fi σ τ nl s t)) L) pr_no 0 0) 0 0 20 [.ref f, .ref (v + 1), .int s, .int t, .int ((fl_fi_it20 σ τ nl s t k).2), .int (nI k)] [] T (rg_put (ws_put I v τ) f 5 (fl_fi_it20 σ τ nl s t k).1) L := by
    intro j
    induction j using Nat.strongRecOn with | ind j ih20 =>
    intro k hj20 hk20
    refine pr_iload hA dX0_fill_20 rfl ?_
    refine pr_ldc hA kK_X0_51 dX0_fill_22 ?_
    rw [show (1000000 : Int32) = nI (sl 1000000) from by rw [sl_eq]; rfl]
    refine pr_icmp_ge hA 59 dX0_fill_24 (by decide) (fun c_24 => ?_) (fun c_24 => ?_)
    · have n_24 : (sl 1000000) ≤ k := (nI_leI (by omega) (by omega)).mp c_24
      have hex : (sl 1000000) = k := by omega
      subst hex
      refine pr_iload hA dX0_fill_59 rfl ?_
      exact pr_ireturn hA rfl rfl (Nat.zero_le _) (Nat.zero_le _) dX0_fill_61 ⟨rfl, rfl, rfl, rfl⟩
    · have n_24 : ¬ (sl 1000000) ≤ k := fun q => c_24 ((nI_leI (by omega) (by omega)).mpr q)
      refine pr_aload_n hA dX0_fill_27 rfl ?_
      refine pr_iload_n hA dX0_fill_28 rfl ?_
      refine pr_callVi hA [.int t] (c_fl_is (pr_hl hA) hf) v_X0_52 (fk_0 hf) (by decide) rfl rfl rfl (by decide) (Nat.zero_le _) (Nat.zero_le _) rfl (Nat.le_of_ble_eq_true rfl) dX0_fill_29 ?_
      refine pr_if_eq hA 59 dX0_fill_32 (by decide) (fun c_32 => ?_) (fun c_32 => ?_)
      · have hst := st_fl_fi_it20_32 c_32 ((sl 1000000) - k)
        rw [show k + ((sl 1000000) - k) = (sl 1000000) from by omega] at hst
        refine pr_lessL (ls' := [.ref f, .ref (v + 1), .int s, .int t, .int ((fl_fi_it20 σ τ nl s t k).2), .null]) ⟨.inr rfl, .inr rfl, .inr rfl, .inr rfl, .inr rfl, .inl rfl, trivial⟩ ?_
        rw [← hst]
        refine pr_iload hA dX0_fill_59 rfl ?_
        exact pr_ireturn hA rfl rfl (Nat.zero_le _) (Nat.zero_le _) dX0_fill_61 ⟨rfl, rfl, rfl, rfl⟩
      · refine pr_iload hA dX0_fill_35 rfl ?_
        refine pr_aload_n hA dX0_fill_37 rfl ?_
        refine pr_aload_n hA dX0_fill_38 rfl ?_
        refine pr_iload_n hA dX0_fill_39 rfl ?_
        refine pr_iload_n hA dX0_fill_40 rfl ?_
        refine pr_callVi hA [.ref (v + 1), .int s, .int t] (c_fl_gr (pr_hl hA) hf hv hdis hnl hnl24 hL (fl_fi_I hnl24 hL hs hI k) hLL ht) v_X0_55 (fk_0 hf) (by decide) rfl rfl rfl (by decide) (Nat.zero_le _) (Nat.zero_le _) rfl (Nat.le_of_ble_eq_true rfl) dX0_fill_41 ?_
        refine pr_iadd hA dX0_fill_44 ?_
        refine pr_istore (ls' := [_, _, _, _, _, _]) hA dX0_fill_45 (by decide) rfl ?_
        refine pr_aload_n hA dX0_fill_47 rfl ?_
        refine pr_aload_n hA dX0_fill_48 rfl ?_
        refine pr_iload_n hA dX0_fill_49 rfl ?_
        refine pr_callVv hA [.ref (v + 1), .int s] (c_fl_se (pr_hl hA) hf hv hdis hnl hnl24 hL) v_X0_47 (fk_0 hf) (by decide) rfl rfl rfl (by decide) (Nat.zero_le _) (Nat.zero_le _) rfl (Nat.le_of_ble_eq_true rfl) dX0_fill_50 ?_
        refine pr_iinc (ls' := [_, _, _, _, _, _]) hA (nI (k + 1)) dX0_fill_53 (by decide) rfl (nI_inc _) rfl ?_
        refine pr_goto hA 20 dX0_fill_56 (by decide) ?_
        have hb := ih20 ((sl 1000000) - (k + 1)) (by omega) (k + 1) rfl (by omega)
        simp only [fl_fi_it20, if_neg c_32] at hb
        exact hb
  exact (lp20 ((sl 1000000) - 0) 0 rfl (by omega))

theorem fr_fl_fi {σ : pr_I} {τ : pr_I} {nl : Nat} {s : Int32} {t : Int32} {o : Nat} (hms : ∀ m ∈ ([0, 2, 3, 4] : List Nat), o ≠ m) : fl_fi σ τ nl s t o = σ o := by
  unfold fl_fi
  simp only [List.mem_cons, List.not_mem_nil, or_false, forall_eq_or_imp, forall_eq] at hms
  rw [fr_fl_fi_it20 (by simp only [List.mem_cons, List.not_mem_nil, or_false, forall_eq_or_imp, forall_eq]; omega), fr_fl_se (by simp only [List.mem_cons, List.not_mem_nil, or_false, forall_eq_or_imp, forall_eq]; omega), pr_row_ne (by omega)]

theorem fl_I_fi {σ τ : pr_I} {nl : Nat} {s t : Int32} (hn : nl ≤ 24) (hL : ∀ k, k < nl → vp_in (τ 2 k) 12 ∧ vp_in (τ 3 k) 12) (hs : vp_in s 12) (hI : fl_I σ) : fl_I (fl_fi σ τ nl s t) := fl_fi_I hn hL hs hI _
