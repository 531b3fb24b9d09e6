section PRZ
variable {g : pr_C} {X : pr_X} {M : pr_MD} {d mc ms : Nat} {nL : Nat} {Q : State → Prop} {cs sl pc : Nat} {ls st : List Value} {T : pr_T} {I : pr_I} {L : pr_L}
theorem pr_zaldE (hA : pr_Am g X M d mc ms) {a n : Nat} {j v : Int32} (ha : T.2.1 a = (23, n)) (hin : vp_in j n) (hr : I a j.toNatClampNeg = v) (hd : decode M.2.1 pc = .ok (.baload, 1)) (kk : pr_G g X nL Q cs sl (pc + 1) ls (.int v :: st) T I L) : pr_G g X nL Q cs sl pc ls (.int j :: .ref a :: st) T I L := by
  subst hr; exact pr_zald hA ha hin hd kk
theorem pr_zaldN (hA : pr_Am g X M d mc ms) {a n k : Nat} {v : Int32} (ha : T.2.1 a = (23, n)) (hk : k < n) (hn : n ≤ 5000) (hr : I a k = v) (hd : decode M.2.1 pc = .ok (.baload, 1)) (kk : pr_G g X nL Q cs sl (pc + 1) ls (.int v :: st) T I L) : pr_G g X nL Q cs sl pc ls (.int (nI k) :: .ref a :: st) T I L := by
  subst hr
  refine pr_zald hA ha (nI_vin hk (by omega)) hd ?_
  rw [nI_clamp (by omega)]; exact kk
theorem pr_zastE (hA : pr_Am g X M d mc ms) {a n : Nat} {j v v' : Int32} {I' : pr_I} (ha : T.2.1 a = (23, n)) (hin : vp_in j n) (hv : vp_nar .boolean v = v') (hu : pr_up I a j.toNatClampNeg v' = I') (hd : decode M.2.1 pc = .ok (.bastore, 1)) (kk : pr_G g X nL Q cs sl (pc + 1) ls st T I' L) : pr_G g X nL Q cs sl pc ls (.int v :: .int j :: .ref a :: st) T I L := by
  subst hu; subst hv; exact pr_zast hA ha hin hd kk
theorem pr_zastN (hA : pr_Am g X M d mc ms) {a n k : Nat} {v v' : Int32} {I' : pr_I} (ha : T.2.1 a = (23, n)) (hk : k < n) (hn : n ≤ 5000) (hv : vp_nar .boolean v = v') (hu : pr_up I a k v' = I') (hd : decode M.2.1 pc = .ok (.bastore, 1)) (kk : pr_G g X nL Q cs sl (pc + 1) ls st T I' L) : pr_G g X nL Q cs sl pc ls (.int v :: .int (nI k) :: .ref a :: st) T I L := by
  subst hu; subst hv
  refine pr_zast hA ha (nI_vin hk (by omega)) hd ?_
  rw [nI_clamp (by omega)]; exact kk
end PRZ
noncomputable def m_lr_it2 (σ : pr_I) : Nat → pr_I
  | 0 => σ
  | k + 1 => (pr_up (m_lr_it2 σ k) 11 k (if (σ 1 (96 + 7 * k + 5)) = (1 : Int32) then (m_av_r (m_lr_it2 σ k) (mtn σ) k) else (0 : Int32)))
theorem fr_m_lr_it2 {σ : pr_I} {o : Nat} (hms : ∀ m ∈ ([11] : List Nat), o ≠ m) : ∀ {k : Nat}, (m_lr_it2 σ k) o = σ o := by
  simp only [List.mem_cons, List.not_mem_nil, or_false, forall_eq_or_imp, forall_eq] at hms
  intro k
  induction k with
  | zero =>
    show σ o = σ o
    rfl
  | succ k ih =>
    show (pr_up (m_lr_it2 σ k) 11 k (if (σ 1 (96 + 7 * k + 5)) = (1 : Int32) then (m_av_r (m_lr_it2 σ k) (mtn σ) k) else (0 : Int32))) o = σ o
    rw [pr_up_ne (by omega), ih]

noncomputable def m_lr (σ : pr_I) : pr_I := (m_lr_it2 σ (mln σ))
set_option maxRecDepth 100000 in
set_option maxHeartbeats 400000 in
theorem c_m_lr {g : pr_C} {l : Launch} (hl : l.stackTraces = false) {T : pr_T} {I : pr_I} {L : pr_L} {m : Nat} {σ : pr_I}  (hm : pr_Mo T m) (hI : mI σ) : pr_M g l 5 0 0 mX8_laysRoom [.ref m] T (rg_put I m 16 σ) L (pr_R none T (rg_put I m 16 (m_lr σ)) L) pr_no := by
  refine pr_ofG (by decide) rfl hl (Nat.le_of_ble_eq_true rfl) (fun X hA hX hXn hXt => ?_)
  subst hX
  show pr_G g X mX8_laysRoom.2.2.1 _ 0 0 0 [.ref m, .null] [] T (rg_put I m 16 σ) L
  have hn5 := mI_n5 hI
  have hr4 := mI_nr4 hI
  have hl24 := mI_nl24 hI
  have hn12 := mI_nn12 hI
  refine pr_iconst hA (nI 0) dX8_laysRoom_0 (by decide) ?_
  refine pr_istore_n (ls' := [_, _]) hA dX8_laysRoom_1 (by decide) rfl ?_
  have lp2 : ∀ (j k : Nat), (mln σ) - k = j → k ≤ (mln σ) → pr_G g X mX8_laysRoom.2.2.1 (pr_MQ g X (pr_R none T (rg_put I m 16 (m_lr σ)) L) pr_no 0 0) 0 0 2 [.ref m, .int (nI k)] [] T (rg_put I m 16 (m_lr_it2 σ k)) L := by
    intro j
    induction j using Nat.strongRecOn with | ind j ih2 =>
    intro k hj2 hk2
    refine pr_iload_n hA dX8_laysRoom_2 rfl ?_
    refine pr_aload_n hA dX8_laysRoom_3 rfl ?_
    refine pr_getR hA f_X8_9 rfl (mo_k0 hm) (mo_f0_0 hm) dX8_laysRoom_4 ?_
    refine pr_bipush hA (nI 7) dX8_laysRoom_7 (by decide) ?_
    refine pr_ialdM (v := (nI (mln σ))) hA (mo_k1 hm) (by omega) (by omega) ((rg_val (by decide)).trans ((congrFun (fr_m_lr_it2 (by decide)) _).trans (mI_nl hI))) dX8_laysRoom_9 ?_
    refine pr_icmp_ge hA 44 dX8_laysRoom_10 (by decide) (fun c_10 => ?_) (fun c_10 => ?_)
    · have n_10 : (mln σ) ≤ k := (nI_leI (by omega) (by omega)).mp c_10
      have hex : (mln σ) = k := by omega
      subst hex
      exact pr_return hA rfl (Nat.zero_le _) (Nat.zero_le _) dX8_laysRoom_44 ⟨rfl, rfl, rfl, rfl⟩
    · have n_10 : ¬ (mln σ) ≤ k := fun q => c_10 ((nI_leI (by omega) (by omega)).mpr q)
      refine pr_aload_n hA dX8_laysRoom_13 rfl ?_
      refine pr_getR hA f_X8_41 rfl (mo_k0 hm) (mo_f0_18 hm) dX8_laysRoom_14 ?_
      refine pr_iload_n hA dX8_laysRoom_17 rfl ?_
      refine pr_aload_n hA dX8_laysRoom_18 rfl ?_
      refine pr_iload_n hA dX8_laysRoom_19 rfl ?_
      refine pr_iconst hA (5) dX8_laysRoom_20 (by decide) ?_
      refine pr_callVi hA [.int (nI k), .int (5 : Int32)] (c_m_link (m := m) (k := k) (c := 5) (σ := (m_lr_it2 σ k)) (pr_hl hA) hm (by omega) (by omega)) v_X8_204 (mo_k0 hm) (by decide) rfl rfl rfl (by decide) (Nat.zero_le _) (Nat.zero_le _) rfl (Nat.le_of_ble_eq_true rfl) dX8_laysRoom_21 ?_
      rw [show ((m_lr_it2 σ k) 1 (96 + 7 * k + 5)) = (σ 1 (96 + 7 * k + 5)) from (congrFun (fr_m_lr_it2 (by decide)) _)]
      refine pr_iconst hA (1) dX8_laysRoom_24 (by decide) ?_
      refine pr_join (c := (σ 1 (96 + 7 * k + 5)) = (1 : Int32)) (J := 37) (st := [.int (nI k), .ref (m + 11)]) (m_av_r (m_lr_it2 σ k) (mtn σ) k) (0 : Int32) inferInstance (fun kt kf => ?_) ?_
      · refine pr_icmp_ne hA 36 dX8_laysRoom_25 (by decide) (fun c_25 => ?_) (fun c_25 => ?_)
        · refine pr_iconst hA (0) dX8_laysRoom_36 (by decide) ?_
          exact kf c_25
        · refine pr_aload_n hA dX8_laysRoom_28 rfl ?_
          refine pr_iload_n hA dX8_laysRoom_29 rfl ?_
          refine pr_callVi hA [.int (nI k)] (c_m_av (m := m) (σ := (m_lr_it2 σ k)) (n := (mtn σ)) (lk := k) (pr_hl hA) hm ((congrFun (fr_m_lr_it2 (by decide)) _).trans (mI_n hI)) (mI_n5 hI) (by omega)) v_X8_209 (mo_k0 hm) (by decide) rfl rfl rfl (by decide) (Nat.zero_le _) (Nat.zero_le _) rfl (Nat.le_of_ble_eq_true rfl) dX8_laysRoom_30 ?_
          refine pr_goto hA 37 dX8_laysRoom_33 (by decide) ?_
          exact kt c_25
      · refine pr_iastM (I' := (rg_put I m 16 (pr_up (m_lr_it2 σ k) 11 k (if (σ 1 (96 + 7 * k + 5)) = (1 : Int32) then (m_av_r (m_lr_it2 σ k) (mtn σ) k) else (0 : Int32))))) hA (mo_k11 hm) (by omega) (by omega) (rg_up (by decide)) dX8_laysRoom_37 ?_
        refine pr_iinc (ls' := [_, _]) hA (nI (k + 1)) dX8_laysRoom_38 (by decide) rfl (nI_inc _) rfl ?_
        refine pr_goto hA 2 dX8_laysRoom_41 (by decide) ?_
        have hb := ih2 ((mln σ) - (k + 1)) (by omega) (k + 1) rfl (by omega)
        simp only [m_lr_it2] at hb
        exact hb
  exact (lp2 ((mln σ) - 0) 0 rfl (by omega))

theorem fr_m_lr {σ : pr_I}  {o : Nat} (hms : ∀ m ∈ ([11] : List Nat), o ≠ m) : m_lr σ o = σ o := by
  unfold m_lr
  simp only [List.mem_cons, List.not_mem_nil, or_false, forall_eq_or_imp, forall_eq] at hms
  rw [fr_m_lr_it2 (by simp only [List.mem_cons, List.not_mem_nil, or_false, forall_eq_or_imp, forall_eq]; omega)]

theorem mI_k15 {σ ψ : pr_I} (h : mI σ) (hk : ∀ {o : Nat}, (∀ m ∈ ([15] : List Nat), o ≠ m) → ψ o = σ o) : mI ψ := h.keep (fun o j B q => by
  rw [hk (fun m hm => by
    simp only [List.mem_cons, List.not_mem_nil, or_false] at hm
    rw [hm]; intro e; subst e; simp [mB] at q)])
noncomputable def m_nxt (σ : pr_I) (k1 : Nat) (x : Int32) : Int32 := (if (σ 1 (96 + 7 * k1 + 0)) = x then (if (σ 11 k1) ≤ (σ 12 k1) then (if (σ 1 (96 + 7 * k1 + 1)) = x then (if (σ 12 k1) ≤ 0 then ((-1) : Int32) else (σ 1 (96 + 7 * k1 + 0))) else ((-1) : Int32)) else (σ 1 (96 + 7 * k1 + 1))) else (if (σ 1 (96 + 7 * k1 + 1)) = x then (if (σ 12 k1) ≤ 0 then ((-1) : Int32) else (σ 1 (96 + 7 * k1 + 0))) else ((-1) : Int32)))
theorem me_in {σ : pr_I} {k : Nat} {x : Int32} (hL : ∀ k, k < 24 → vp_in (σ 1 (96 + 7 * k + 0)) 12 ∧ vp_in (σ 1 (96 + 7 * k + 1)) 12) (hk : k < 24) (h : ¬ m_nxt σ k x = -1) : vp_in (m_nxt σ k x) 12 := by
  unfold m_nxt at *
  (repeat' split) <;> (repeat' split at h) <;> first | exact (hL k hk).1 | exact (hL k hk).2 | exact absurd rfl h | contradiction
noncomputable def m_me_it2 (σ : pr_I) (s : Int32) (t : Int32) : Nat → pr_I
  | 0 => σ
  | k + 1 => (pr_up (m_me_it2 σ s t k) 15 k (0 : Int32))
theorem fr_m_me_it2 {σ : pr_I} {s : Int32} {t : Int32} {o : Nat} (hms : ∀ m ∈ ([15] : List Nat), o ≠ m) : ∀ {k : Nat}, (m_me_it2 σ s t k) o = σ o := by
  simp only [List.mem_cons, List.not_mem_nil, or_false, forall_eq_or_imp, forall_eq] at hms
  intro k
  induction k with
  | zero =>
    show σ o = σ o
    rfl
  | succ k ih =>
    show (pr_up (m_me_it2 σ s t k) 15 k (0 : Int32)) o = σ o
    rw [pr_up_ne (by omega), ih]

noncomputable def m_me_it54 (σ σ1 : pr_I) (s : Int32) (t : Int32) (k : Nat) (x3 : Int32) : Nat → pr_I × Int32
  | 0 => (σ1, x3)
  | k1 + 1 => (if (m_nxt σ k1 ((m_me_it54 σ σ1 s t k x3 k1).1 14 k)) = ((-1) : Int32) then ((m_me_it54 σ σ1 s t k x3 k1).1, ((m_me_it54 σ σ1 s t k x3 k1).2)) else (if ((m_me_it54 σ σ1 s t k x3 k1).1 15 ((m_nxt σ k1 ((m_me_it54 σ σ1 s t k x3 k1).1 14 k)).toNatClampNeg)) = 0 then ((pr_up (pr_up (pr_up (m_me_it54 σ σ1 s t k x3 k1).1 15 ((m_nxt σ k1 ((m_me_it54 σ σ1 s t k x3 k1).1 14 k)).toNatClampNeg) (1 : Int32)) 13 ((m_nxt σ k1 ((m_me_it54 σ σ1 s t k x3 k1).1 14 k)).toNatClampNeg) (nI k1)) 14 (((m_me_it54 σ σ1 s t k x3 k1).2).toNatClampNeg) (m_nxt σ k1 ((m_me_it54 σ σ1 s t k x3 k1).1 14 k))), (((m_me_it54 σ σ1 s t k x3 k1).2) + Int32.ofInt (1))) else ((m_me_it54 σ σ1 s t k x3 k1).1, ((m_me_it54 σ σ1 s t k x3 k1).2))))
theorem fr_m_me_it54 {σ σ1 : pr_I} {s : Int32} {t : Int32} {k : Nat} {x3 : Int32} {o : Nat} (hms : ∀ m ∈ ([13, 14, 15] : List Nat), o ≠ m) : ∀ {k1 : Nat}, (m_me_it54 σ σ1 s t k x3 k1).1 o = σ1 o := by
  simp only [List.mem_cons, List.not_mem_nil, or_false, forall_eq_or_imp, forall_eq] at hms
  intro k1
  induction k1 with
  | zero =>
    show σ1 o = σ1 o
    rfl
  | succ k1 ih =>
    by_cases c_153 : (m_nxt σ k1 ((m_me_it54 σ σ1 s t k x3 k1).1 14 k)) = ((-1) : Int32)
    · refine (congrFun (congrArg (fun z : pr_I × Int32 => z.1) (if_pos c_153)) o).trans ?_
      show (m_me_it54 σ σ1 s t k x3 k1).1 o = σ1 o
      rw [ih]
    · refine (congrFun (congrArg (fun z : pr_I × Int32 => z.1) (if_neg c_153)) o).trans ?_
      by_cases c_163 : ((m_me_it54 σ σ1 s t k x3 k1).1 15 ((m_nxt σ k1 ((m_me_it54 σ σ1 s t k x3 k1).1 14 k)).toNatClampNeg)) = 0
      · refine (congrFun (congrArg (fun z : pr_I × Int32 => z.1) (if_pos c_163)) o).trans ?_
        show (pr_up (pr_up (pr_up (m_me_it54 σ σ1 s t k x3 k1).1 15 ((m_nxt σ k1 ((m_me_it54 σ σ1 s t k x3 k1).1 14 k)).toNatClampNeg) (1 : Int32)) 13 ((m_nxt σ k1 ((m_me_it54 σ σ1 s t k x3 k1).1 14 k)).toNatClampNeg) (nI k1)) 14 (((m_me_it54 σ σ1 s t k x3 k1).2).toNatClampNeg) (m_nxt σ k1 ((m_me_it54 σ σ1 s t k x3 k1).1 14 k))) o = σ1 o
        rw [pr_up_ne (by omega), pr_up_ne (by omega), pr_up_ne (by omega), ih]
      · refine (congrFun (congrArg (fun z : pr_I × Int32 => z.1) (if_neg c_163)) o).trans ?_
        show (m_me_it54 σ σ1 s t k x3 k1).1 o = σ1 o
        rw [ih]

noncomputable def m_me_it45 (σ : pr_I) (s : Int32) (t : Int32) : Nat → pr_I × Int32
  | 0 => ((pr_up (pr_up (m_me_it2 σ s t (mnn σ)) 15 s.toNatClampNeg (1 : Int32)) 14 0 s), (nI 1))
  | k + 1 => (if ((m_me_it45 σ s t k).2) ≤ (nI k) then ((m_me_it45 σ s t k).1, ((m_me_it45 σ s t k).2)) else ((m_me_it54 σ (m_me_it45 σ s t k).1 s t k ((m_me_it45 σ s t k).2) (mln σ)).1, ((m_me_it54 σ (m_me_it45 σ s t k).1 s t k ((m_me_it45 σ s t k).2) (mln σ)).2)))
theorem fr_m_me_it45 {σ : pr_I} {s : Int32} {t : Int32} {o : Nat} (hms : ∀ m ∈ ([13, 14, 15] : List Nat), o ≠ m) : ∀ {k : Nat}, (m_me_it45 σ s t k).1 o = (pr_up (pr_up (m_me_it2 σ s t (mnn σ)) 15 s.toNatClampNeg (1 : Int32)) 14 0 s) o := by
  simp only [List.mem_cons, List.not_mem_nil, or_false, forall_eq_or_imp, forall_eq] at hms
  intro k
  induction k with
  | zero =>
    show (pr_up (pr_up (m_me_it2 σ s t (mnn σ)) 15 s.toNatClampNeg (1 : Int32)) 14 0 s) o = (pr_up (pr_up (m_me_it2 σ s t (mnn σ)) 15 s.toNatClampNeg (1 : Int32)) 14 0 s) o
    rfl
  | succ k ih =>
    by_cases c_48 : ((m_me_it45 σ s t k).2) ≤ (nI k)
    · refine (congrFun (congrArg (fun z : pr_I × Int32 => z.1) (if_pos c_48)) o).trans ?_
      show (m_me_it45 σ s t k).1 o = (pr_up (pr_up (m_me_it2 σ s t (mnn σ)) 15 s.toNatClampNeg (1 : Int32)) 14 0 s) o
      rw [ih]
    · refine (congrFun (congrArg (fun z : pr_I × Int32 => z.1) (if_neg c_48)) o).trans ?_
      show (m_me_it54 σ (m_me_it45 σ s t k).1 s t k ((m_me_it45 σ s t k).2) (mln σ)).1 o = (pr_up (pr_up (m_me_it2 σ s t (mnn σ)) 15 s.toNatClampNeg (1 : Int32)) 14 0 s) o
      rw [fr_m_me_it54 (by simp only [List.mem_cons, List.not_mem_nil, or_false, forall_eq_or_imp, forall_eq]; omega), ih]

noncomputable def m_me_it45_e (σ : pr_I) (s : Int32) (t : Int32) (k : Nat) : Bool := (if ((m_me_it45 σ s t k).2) ≤ (nI k) then true else false)
theorem st_m_me_it45_48 {σ : pr_I} {s : Int32} {t : Int32} {k : Nat} (c_48 : ((m_me_it45 σ s t k).2) ≤ (nI k)) : ∀ j, k + j < 2 ^ 31 → m_me_it45 σ s t (k + j) = m_me_it45 σ s t k
  | 0, _ => rfl
  | j + 1, hj => by
    have ih := st_m_me_it45_48 c_48 j (by omega)
    have c2_48 : ((m_me_it45 σ s t k).2) ≤ (nI (k + j)) := Int32.le_trans c_48 ((nI_leI (by omega) (by omega)).mpr (by omega))
    show m_me_it45 σ s t ((k + j) + 1) = m_me_it45 σ s t k
    simp only [m_me_it45, ih, if_pos c2_48]
noncomputable def m_me_r (σ : pr_I) (s : Int32) (t : Int32) : Int32 := ((m_me_it45 σ s t (sl 12)).1 15 t.toNatClampNeg)
noncomputable def m_me (σ : pr_I) (s : Int32) (t : Int32) : pr_I := (m_me_it45 σ s t (sl 12)).1
theorem me_lt {σ : pr_I} {s t : Int32} {k : Nat} (hend : m_me_it45_e σ s t (sl 12) = true) (c : ¬ (m_me_it45 σ s t k).2 ≤ nI k) (hk : k ≤ sl 12) : k < 12 := by
  have h12 := sl_eq 12
  rcases Nat.lt_or_ge k (sl 12) with h | h
  · omega
  · have e : k = sl 12 := by omega
    rw [e] at c
    exact absurd hend (by simp only [m_me_it45_e, if_neg c]; decide)
theorem mI_m_me_it54 {σ σ1 : pr_I} {s t : Int32} {k : Nat} {x3 : Int32} (hI : mI σ) (hJ : mI σ1) : ∀ k1, k1 ≤ mln σ → mI (m_me_it54 σ σ1 s t k x3 k1).1
  | 0, _ => hJ
  | k1 + 1, hk => by
    have ih := mI_m_me_it54 (σ := σ) (σ1 := σ1) (s := s) (t := t) (k := k) (x3 := x3) hI hJ k1 (by omega)
    have hl24 := mI_nl24 hI
    have hfl : ∀ k, k < 24 → vp_in (σ 1 (96 + 7 * k + 0)) 12 ∧ vp_in (σ 1 (96 + 7 * k + 1)) 12 := fun k hk => ⟨mI_link hI hk (by decide) rfl, mI_link hI hk (by decide) rfl⟩
    unfold m_me_it54
    by_cases c : (m_nxt σ k1 ((m_me_it54 σ σ1 s t k x3 k1).1 14 k)) = -1
    · rw [if_pos c]; exact ih
    · rw [if_neg c]
      refine p_ite (P := fun z : pr_I × Int32 => mI z.1) (((ih.upn rfl).upv (B := 24) rfl (nI_vin (by omega) (by decide))).upv (B := 12) rfl (me_in hfl (by omega) c)) ih
theorem mI_m_me_it45 {σ : pr_I} {s t : Int32} (hI : mI σ) (hs : vp_in s 12) : ∀ k, mI (m_me_it45 σ s t k).1
  | 0 => ((mI_k15 hI (fun h => fr_m_me_it2 h)).upn rfl).upv (B := 12) rfl hs
  | k + 1 => by
    have ih := mI_m_me_it45 (t := t) hI hs k
    unfold m_me_it45
    exact p_ite (P := fun z : pr_I × Int32 => mI z.1) ih (mI_m_me_it54 hI ih _ (Nat.le_refl _))
theorem me_b2 {σ : pr_I} {s t : Int32} {x : Nat} : ∀ k, x < k → (m_me_it2 σ s t k) 15 x = 0
  | 0, h => by omega
  | k + 1, h => by
    show pr_up (m_me_it2 σ s t k) 15 k (0 : Int32) 15 x = 0
    by_cases e : x = k
    · subst e; exact pr_upe
    · rw [pr_upk e]; exact me_b2 k (by omega)
theorem me_up {σ : pr_I} {x k : Nat} (h : σ 15 x = 0 ∨ σ 15 x = 1) : pr_up σ 15 k (1 : Int32) 15 x = 0 ∨ pr_up σ 15 k (1 : Int32) 15 x = 1 := by
  by_cases e : x = k
  · subst e; exact Or.inr pr_upe
  · rw [pr_upk e]; exact h
theorem me_up3 {σ : pr_I} {x a b d : Nat} {c e : Int32} (h : σ 15 x = 0 ∨ σ 15 x = 1) : pr_up (pr_up (pr_up σ 15 a (1 : Int32)) 13 b c) 14 d e 15 x = 0 ∨ pr_up (pr_up (pr_up σ 15 a (1 : Int32)) 13 b c) 14 d e 15 x = 1 := by
  rw [pr_up_ne (by decide), pr_up_ne (by decide)]
  exact me_up h
theorem me_up2 {σ : pr_I} {x a d : Nat} {e : Int32} (h : σ 15 x = 0 ∨ σ 15 x = 1) : pr_up (pr_up σ 15 a (1 : Int32)) 14 d e 15 x = 0 ∨ pr_up (pr_up σ 15 a (1 : Int32)) 14 d e 15 x = 1 := by
  rw [pr_up_ne (by decide)]
  exact me_up h
theorem me_b54 {σ σ1 : pr_I} {s t : Int32} {k x : Nat} {x3 : Int32} (h : σ1 15 x = 0 ∨ σ1 15 x = 1) : ∀ k1, (m_me_it54 σ σ1 s t k x3 k1).1 15 x = 0 ∨ (m_me_it54 σ σ1 s t k x3 k1).1 15 x = 1
  | 0 => h
  | k1 + 1 => by
    have ih := me_b54 (σ := σ) (s := s) (t := t) (k := k) (x3 := x3) h k1
    unfold m_me_it54
    refine p_ite (P := fun z : pr_I × Int32 => z.1 15 x = 0 ∨ z.1 15 x = 1) ih (p_ite (P := fun z : pr_I × Int32 => z.1 15 x = 0 ∨ z.1 15 x = 1) ?_ ih)
    exact me_up (σ := (m_me_it54 σ σ1 s t k x3 k1).1) (k := (m_nxt σ k1 ((m_me_it54 σ σ1 s t k x3 k1).1 14 k)).toNatClampNeg) ih
theorem me_b45 {σ : pr_I} {s t : Int32} {x : Nat} (hx : x < mnn σ) : ∀ k, (m_me_it45 σ s t k).1 15 x = 0 ∨ (m_me_it45 σ s t k).1 15 x = 1
  | 0 => me_up (σ := m_me_it2 σ s t (mnn σ)) (k := s.toNatClampNeg) (Or.inl (me_b2 (s := s) (t := t) (mnn σ) hx))
  | k + 1 => by
    have ih := me_b45 (s := s) (t := t) hx k
    unfold m_me_it45
    exact p_ite (P := fun z : pr_I × Int32 => z.1 15 x = 0 ∨ z.1 15 x = 1) ih (me_b54 ih _)
set_option maxRecDepth 100000 in
set_option maxHeartbeats 400000 in
theorem c_m_me {g : pr_C} {l : Launch} (hl : l.stackTraces = false) {T : pr_T} {I : pr_I} {L : pr_L} {m : Nat} {σ : pr_I} {s : Int32} {t : Int32} (hm : pr_Mo T m) (hI : mI σ) (hs : vp_in s 12) (ht : vp_in t 12) (hend : m_me_it45_e σ s t (sl 12) = true) (hmany : ∀ k k1, k < 12 → k1 < mln σ → ¬ (m_me_it45 σ s t k).2 ≤ nI k → ¬ (m_nxt σ k1 ((m_me_it54 σ (m_me_it45 σ s t k).1 s t k ((m_me_it45 σ s t k).2) k1).1 14 k)) = -1 → (m_me_it54 σ (m_me_it45 σ s t k).1 s t k ((m_me_it45 σ s t k).2) k1).1 15 ((m_nxt σ k1 ((m_me_it54 σ (m_me_it45 σ s t k).1 s t k ((m_me_it45 σ s t k).2) k1).1 14 k)).toNatClampNeg) = 0 → vp_in (m_me_it54 σ (m_me_it45 σ s t k).1 s t k ((m_me_it45 σ s t k).2) k1).2 12) (htn : t.toNatClampNeg < mnn σ) : pr_M g l 4 0 0 mX8_meets [.ref m, .int s, .int t] T (rg_put I m 16 σ) L (pr_R (some (.int (m_me_r σ s t))) T (rg_put I m 16 (m_me σ s t)) L) pr_no := by
  refine pr_ofG (by decide) rfl hl (Nat.le_of_ble_eq_true rfl) (fun X hA hX hXn hXt => ?_)
  subst hX
  show pr_G g X mX8_meets.2.2.1 _ 0 0 0 [.ref m, .int s, .int t, .null, .null, .null, .null] [] T (rg_put I m 16 σ) L
  have hn5 := mI_n5 hI
  have hr4 := mI_nr4 hI
  have hl24 := mI_nl24 hI
  have hn12 := mI_nn12 hI
  have hfl : ∀ k, k < 24 → vp_in (σ 1 (96 + 7 * k + 0)) 12 ∧ vp_in (σ 1 (96 + 7 * k + 1)) 12 := fun k hk => ⟨mI_link hI hk (by decide) rfl, mI_link hI hk (by decide) rfl⟩
  have hsl12 := sl_eq 12
  refine pr_iconst hA (nI 0) dX8_meets_0 (by decide) ?_
  refine pr_istore_n (ls' := [_, _, _, _, _, _, _]) hA dX8_meets_1 (by decide) rfl ?_
  have lp2 : ∀ (j k : Nat), (mnn σ) - k = j → k ≤ (mnn σ) → pr_G g X mX8_meets.2.2.1 (pr_MQ g X (pr_R (some (.int (m_me_r σ s t))) T (rg_put I m 16 (m_me σ s t)) L) pr_no 0 0) 0 0 2 [.ref m, .int s, .int t, .int (nI k), .null, .null, .null] [] T (rg_put I m 16 (m_me_it2 σ s t k)) L := by
    intro j
    induction j using Nat.strongRecOn with | ind j ih2 =>
    intro k hj2 hk2
    refine pr_iload_n hA dX8_meets_2 rfl ?_
    refine pr_aload_n hA dX8_meets_3 rfl ?_
    refine pr_getR hA f_X8_9 rfl (mo_k0 hm) (mo_f0_0 hm) dX8_meets_4 ?_
    refine pr_bipush hA (nI 6) dX8_meets_7 (by decide) ?_
    refine pr_ialdM (v := (nI (mnn σ))) hA (mo_k1 hm) (by omega) (by omega) ((rg_val (by decide)).trans ((congrFun (fr_m_me_it2 (by decide)) _).trans (mI_nn hI))) dX8_meets_9 ?_
    refine pr_icmp_ge hA 26 dX8_meets_10 (by decide) (fun c_10 => ?_) (fun c_10 => ?_)
    · have n_10 : (mnn σ) ≤ k := (nI_leI (by omega) (by omega)).mp c_10
      have hex : (mnn σ) = k := by omega
      subst hex
      refine pr_aload_n hA dX8_meets_26 rfl ?_
      refine pr_getR hA f_X8_53 rfl (mo_k0 hm) (mo_f0_22 hm) dX8_meets_27 ?_
      refine pr_iload_n hA dX8_meets_30 rfl ?_
      refine pr_iconst hA (1) dX8_meets_31 (by decide) ?_
      refine pr_zastE (v' := (1 : Int32)) (I' := (rg_put I m 16 (pr_up (m_me_it2 σ s t (mnn σ)) 15 s.toNatClampNeg (1 : Int32)))) hA (mo_k15 hm) hs (by decide) (rg_up (by decide)) dX8_meets_32 ?_
      refine pr_aload_n hA dX8_meets_33 rfl ?_
      refine pr_getR hA f_X8_50 rfl (mo_k0 hm) (mo_f0_21 hm) dX8_meets_34 ?_
      refine pr_iconst hA (nI 0) dX8_meets_37 (by decide) ?_
      refine pr_iload_n hA dX8_meets_38 rfl ?_
      refine pr_iastM (I' := (rg_put I m 16 (pr_up (pr_up (m_me_it2 σ s t (mnn σ)) 15 s.toNatClampNeg (1 : Int32)) 14 0 s))) hA (mo_k14 hm) (by omega) (by omega) (rg_up (by decide)) dX8_meets_39 ?_
      refine pr_iconst hA (nI 1) dX8_meets_40 (by decide) ?_
      refine pr_istore_n (ls' := [_, _, _, _, _, _, _]) hA dX8_meets_41 (by decide) rfl ?_
      refine pr_iconst hA (nI 0) dX8_meets_42 (by decide) ?_
      refine pr_istore (ls' := [_, _, _, _, _, _, _]) hA dX8_meets_43 (by decide) rfl ?_
      have lp45 : ∀ (j k : Nat), (sl 12) - k = j → k ≤ (sl 12) → pr_G g X mX8_meets.2.2.1 (pr_MQ g X (pr_R (some (.int (m_me_r σ s t))) T (rg_put I m 16 (m_me σ s t)) L) pr_no 0 0) 0 0 45 [.ref m, .int s, .int t, .int ((m_me_it45 σ s t k).2), .int (nI k), .null, .null] [] T (rg_put I m 16 (m_me_it45 σ s t k).1) L := by
        intro j
        induction j using Nat.strongRecOn with | ind j ih45 =>
        intro k hj45 hk45
        refine pr_iload hA dX8_meets_45 rfl ?_
        refine pr_iload_n hA dX8_meets_47 rfl ?_
        refine pr_icmp_ge hA 209 dX8_meets_48 (by decide) (fun c_48 => ?_) (fun c_48 => ?_)
        · have hst := st_m_me_it45_48 c_48 ((sl 12) - k) (by omega)
          rw [show k + ((sl 12) - k) = (sl 12) from by omega] at hst
          refine pr_lessL (ls' := [.ref m, .int s, .int t, .int ((m_me_it45 σ s t k).2), .null, .null, .null]) ⟨.inr rfl, .inr rfl, .inr rfl, .inr rfl, .inl rfl, .inl rfl, .inl rfl, trivial⟩ ?_
          rw [← hst]
          refine pr_aload_n hA dX8_meets_209 rfl ?_
          refine pr_getR hA f_X8_53 rfl (mo_k0 hm) (mo_f0_22 hm) dX8_meets_210 ?_
          refine pr_iload_n hA dX8_meets_213 rfl ?_
          refine pr_zaldE (v := ((m_me_it45 σ s t (sl 12)).1 15 t.toNatClampNeg)) hA (mo_k15 hm) ht (rg_val (by decide)) dX8_meets_214 ?_
          exact pr_ireturn hA rfl (pr_nb (by exact me_b45 htn _)) (Nat.zero_le _) (Nat.zero_le _) dX8_meets_215 ⟨rfl, rfl, rfl, rfl⟩
        · have hlt48 : k < 12 := me_lt hend c_48 (by omega)
          refine pr_iconst hA (nI 0) dX8_meets_51 (by decide) ?_
          refine pr_istore (ls' := [_, _, _, _, _, _, _]) hA dX8_meets_52 (by decide) rfl ?_
          have lp54 : ∀ (j k1 : Nat), (mln σ) - k1 = j → k1 ≤ (mln σ) → pr_G g X mX8_meets.2.2.1 (pr_MQ g X (pr_R (some (.int (m_me_r σ s t))) T (rg_put I m 16 (m_me σ s t)) L) pr_no 0 0) 0 0 54 [.ref m, .int s, .int t, .int ((m_me_it54 σ (m_me_it45 σ s t k).1 s t k ((m_me_it45 σ s t k).2) k1).2), .int (nI k), .int (nI k1), .null] [] T (rg_put I m 16 (m_me_it54 σ (m_me_it45 σ s t k).1 s t k ((m_me_it45 σ s t k).2) k1).1) L := by
            intro j
            induction j using Nat.strongRecOn with | ind j ih54 =>
            intro k1 hj54 hk54
            refine pr_iload hA dX8_meets_54 rfl ?_
            refine pr_aload_n hA dX8_meets_56 rfl ?_
            refine pr_getR hA f_X8_9 rfl (mo_k0 hm) (mo_f0_0 hm) dX8_meets_57 ?_
            refine pr_bipush hA (nI 7) dX8_meets_60 (by decide) ?_
            refine pr_ialdM (v := (nI (mln σ))) hA (mo_k1 hm) (by omega) (by omega) ((rg_val (by decide)).trans ((congrFun (fr_m_me_it54 (by decide)) _).trans ((congrFun (fr_m_me_it45 (by decide)) _).trans ((pr_upv (by decide)).trans ((pr_upv (by decide)).trans ((congrFun (fr_m_me_it2 (by decide)) _).trans (mI_nl hI))))))) dX8_meets_62 ?_
            refine pr_icmp_ge hA 203 dX8_meets_63 (by decide) (fun c_63 => ?_) (fun c_63 => ?_)
            · have n_63 : (mln σ) ≤ k1 := (nI_leI (by omega) (by omega)).mp c_63
              have hex : (mln σ) = k1 := by omega
              subst hex
              refine pr_iinc (ls' := [_, _, _, _, _, _, _]) hA (nI (k + 1)) dX8_meets_203 (by decide) rfl (nI_inc _) rfl ?_
              refine pr_goto hA 45 dX8_meets_206 (by decide) ?_
              have hlt : k < (sl 12) := by
                rcases Nat.lt_or_ge k (sl 12) with hlt0 | hlt0
                · exact hlt0
                · have e : k = (sl 12) := by omega
                  exact absurd hend (by rw [← e]; simp only [m_me_it45_e, if_neg c_48]; decide)
              have hb := ih45 ((sl 12) - (k + 1)) (by omega) (k + 1) rfl (by omega)
              simp only [m_me_it45, if_neg c_48] at hb
              exact pr_lessL (ls' := [.ref m, .int s, .int t, .int ((m_me_it54 σ (m_me_it45 σ s t k).1 s t k ((m_me_it45 σ s t k).2) (mln σ)).2), .int (nI (k + 1)), .null, .null]) ⟨.inr rfl, .inr rfl, .inr rfl, .inr rfl, .inr rfl, .inl rfl, .inl rfl, trivial⟩ hb
            · have n_63 : ¬ (mln σ) ≤ k1 := fun q => c_63 ((nI_leI (by omega) (by omega)).mpr q)
              refine pr_aload_n hA dX8_meets_66 rfl ?_
              refine pr_iload hA dX8_meets_67 rfl ?_
              refine pr_iconst hA (0) dX8_meets_69 (by decide) ?_
              refine pr_callVi hA [.int (nI k1), .int (0 : Int32)] (c_m_link (m := m) (k := k1) (c := 0) (σ := (m_me_it54 σ (m_me_it45 σ s t k).1 s t k ((m_me_it45 σ s t k).2) k1).1) (pr_hl hA) hm (by omega) (by omega)) v_X8_204 (mo_k0 hm) (by decide) rfl rfl rfl (by decide) (Nat.zero_le _) (Nat.zero_le _) rfl (Nat.le_of_ble_eq_true rfl) dX8_meets_70 ?_
              rw [show ((m_me_it54 σ (m_me_it45 σ s t k).1 s t k ((m_me_it45 σ s t k).2) k1).1 1 (96 + 7 * k1 + 0)) = (σ 1 (96 + 7 * k1 + 0)) from ((congrFun (fr_m_me_it54 (by decide)) _).trans ((congrFun (fr_m_me_it45 (by decide)) _).trans ((pr_upv (by decide)).trans ((pr_upv (by decide)).trans (congrFun (fr_m_me_it2 (by decide)) _)))))]
              refine pr_aload_n hA dX8_meets_73 rfl ?_
              refine pr_getR hA f_X8_50 rfl (mo_k0 hm) (mo_f0_21 hm) dX8_meets_74 ?_
              refine pr_iload hA dX8_meets_77 rfl ?_
              refine pr_ialdM (v := ((m_me_it54 σ (m_me_it45 σ s t k).1 s t k ((m_me_it45 σ s t k).2) k1).1 14 k)) hA (mo_k14 hm) (by omega) (by omega) (rg_val (by decide)) dX8_meets_79 ?_
              refine pr_join (c := (σ 1 (96 + 7 * k1 + 0)) = ((m_me_it54 σ (m_me_it45 σ s t k).1 s t k ((m_me_it45 σ s t k).2) k1).1 14 k)) (J := 148) (st := []) (if (σ 11 k1) ≤ (σ 12 k1) then (if (σ 1 (96 + 7 * k1 + 1)) = ((m_me_it54 σ (m_me_it45 σ s t k).1 s t k ((m_me_it45 σ s t k).2) k1).1 14 k) then (if (σ 12 k1) ≤ 0 then ((-1) : Int32) else (σ 1 (96 + 7 * k1 + 0))) else ((-1) : Int32)) else (σ 1 (96 + 7 * k1 + 1))) (if (σ 1 (96 + 7 * k1 + 1)) = ((m_me_it54 σ (m_me_it45 σ s t k).1 s t k ((m_me_it45 σ s t k).2) k1).1 14 k) then (if (σ 12 k1) ≤ 0 then ((-1) : Int32) else (σ 1 (96 + 7 * k1 + 0))) else ((-1) : Int32)) inferInstance (fun kt kf => ?_) ?_
              · refine pr_icmp_ne hA 110 dX8_meets_80 (by decide) (fun c_80 => ?_) (fun c_80 => ?_)
                · refine pr_aload_n hA dX8_meets_110 rfl ?_
                  refine pr_iload hA dX8_meets_111 rfl ?_
                  refine pr_iconst hA (1) dX8_meets_113 (by decide) ?_
                  refine pr_callVi hA [.int (nI k1), .int (1 : Int32)] (c_m_link (m := m) (k := k1) (c := 1) (σ := (m_me_it54 σ (m_me_it45 σ s t k).1 s t k ((m_me_it45 σ s t k).2) k1).1) (pr_hl hA) hm (by omega) (by omega)) v_X8_204 (mo_k0 hm) (by decide) rfl rfl rfl (by decide) (Nat.zero_le _) (Nat.zero_le _) rfl (Nat.le_of_ble_eq_true rfl) dX8_meets_114 ?_
                  rw [show ((m_me_it54 σ (m_me_it45 σ s t k).1 s t k ((m_me_it45 σ s t k).2) k1).1 1 (96 + 7 * k1 + 1)) = (σ 1 (96 + 7 * k1 + 1)) from ((congrFun (fr_m_me_it54 (by decide)) _).trans ((congrFun (fr_m_me_it45 (by decide)) _).trans ((pr_upv (by decide)).trans ((pr_upv (by decide)).trans (congrFun (fr_m_me_it2 (by decide)) _)))))]
                  refine pr_aload_n hA dX8_meets_117 rfl ?_
                  refine pr_getR hA f_X8_50 rfl (mo_k0 hm) (mo_f0_21 hm) dX8_meets_118 ?_
                  refine pr_iload hA dX8_meets_121 rfl ?_
                  refine pr_ialdM (v := ((m_me_it54 σ (m_me_it45 σ s t k).1 s t k ((m_me_it45 σ s t k).2) k1).1 14 k)) hA (mo_k14 hm) (by omega) (by omega) (rg_val (by decide)) dX8_meets_123 ?_
                  refine pr_join (c := (σ 1 (96 + 7 * k1 + 1)) = ((m_me_it54 σ (m_me_it45 σ s t k).1 s t k ((m_me_it45 σ s t k).2) k1).1 14 k)) (J := 148) (st := []) (if (σ 12 k1) ≤ 0 then ((-1) : Int32) else (σ 1 (96 + 7 * k1 + 0))) ((-1) : Int32) inferInstance (fun kt kf => ?_) ?_
                  · refine pr_icmp_ne hA 147 dX8_meets_124 (by decide) (fun c_124 => ?_) (fun c_124 => ?_)
                    · refine pr_iconst hA ((-1)) dX8_meets_147 (by decide) ?_
                      exact kf c_124
                    · refine pr_aload_n hA dX8_meets_127 rfl ?_
                      refine pr_getR hA f_X8_44 rfl (mo_k0 hm) (mo_f0_19 hm) dX8_meets_128 ?_
                      refine pr_iload hA dX8_meets_131 rfl ?_
                      refine pr_ialdM (v := (σ 12 k1)) hA (mo_k12 hm) (by omega) (by omega) ((rg_val (by decide)).trans ((congrFun (fr_m_me_it54 (by decide)) _).trans ((congrFun (fr_m_me_it45 (by decide)) _).trans ((pr_upv (by decide)).trans ((pr_upv (by decide)).trans (congrFun (fr_m_me_it2 (by decide)) _)))))) dX8_meets_133 ?_
                      refine pr_join (c := (σ 12 k1) ≤ 0) (J := 148) (st := []) ((-1) : Int32) (σ 1 (96 + 7 * k1 + 0)) inferInstance (fun kt kf => ?_) ?_
                      · refine pr_if_le hA 147 dX8_meets_134 (by decide) (fun c_134 => ?_) (fun c_134 => ?_)
                        · refine pr_iconst hA ((-1)) dX8_meets_147 (by decide) ?_
                          exact kt c_134
                        · refine pr_aload_n hA dX8_meets_137 rfl ?_
                          refine pr_iload hA dX8_meets_138 rfl ?_
                          refine pr_iconst hA (0) dX8_meets_140 (by decide) ?_
                          refine pr_callVi hA [.int (nI k1), .int (0 : Int32)] (c_m_link (m := m) (k := k1) (c := 0) (σ := (m_me_it54 σ (m_me_it45 σ s t k).1 s t k ((m_me_it45 σ s t k).2) k1).1) (pr_hl hA) hm (by omega) (by omega)) v_X8_204 (mo_k0 hm) (by decide) rfl rfl rfl (by decide) (Nat.zero_le _) (Nat.zero_le _) rfl (Nat.le_of_ble_eq_true rfl) dX8_meets_141 ?_
                          rw [show ((m_me_it54 σ (m_me_it45 σ s t k).1 s t k ((m_me_it45 σ s t k).2) k1).1 1 (96 + 7 * k1 + 0)) = (σ 1 (96 + 7 * k1 + 0)) from ((congrFun (fr_m_me_it54 (by decide)) _).trans ((congrFun (fr_m_me_it45 (by decide)) _).trans ((pr_upv (by decide)).trans ((pr_upv (by decide)).trans (congrFun (fr_m_me_it2 (by decide)) _)))))]
                          refine pr_goto hA 148 dX8_meets_144 (by decide) ?_
                          exact kf c_134
                      · exact kt c_124
                  · exact kf c_80
                · refine pr_aload_n hA dX8_meets_83 rfl ?_
                  refine pr_getR hA f_X8_44 rfl (mo_k0 hm) (mo_f0_19 hm) dX8_meets_84 ?_
                  refine pr_iload hA dX8_meets_87 rfl ?_
                  refine pr_ialdM (v := (σ 12 k1)) hA (mo_k12 hm) (by omega) (by omega) ((rg_val (by decide)).trans ((congrFun (fr_m_me_it54 (by decide)) _).trans ((congrFun (fr_m_me_it45 (by decide)) _).trans ((pr_upv (by decide)).trans ((pr_upv (by decide)).trans (congrFun (fr_m_me_it2 (by decide)) _)))))) dX8_meets_89 ?_
                  refine pr_aload_n hA dX8_meets_90 rfl ?_
                  refine pr_getR hA f_X8_41 rfl (mo_k0 hm) (mo_f0_18 hm) dX8_meets_91 ?_
                  refine pr_iload hA dX8_meets_94 rfl ?_
                  refine pr_ialdM (v := (σ 11 k1)) hA (mo_k11 hm) (by omega) (by omega) ((rg_val (by decide)).trans ((congrFun (fr_m_me_it54 (by decide)) _).trans ((congrFun (fr_m_me_it45 (by decide)) _).trans ((pr_upv (by decide)).trans ((pr_upv (by decide)).trans (congrFun (fr_m_me_it2 (by decide)) _)))))) dX8_meets_96 ?_
                  refine pr_join (c := (σ 11 k1) ≤ (σ 12 k1)) (J := 148) (st := []) (if (σ 1 (96 + 7 * k1 + 1)) = ((m_me_it54 σ (m_me_it45 σ s t k).1 s t k ((m_me_it45 σ s t k).2) k1).1 14 k) then (if (σ 12 k1) ≤ 0 then ((-1) : Int32) else (σ 1 (96 + 7 * k1 + 0))) else ((-1) : Int32)) (σ 1 (96 + 7 * k1 + 1)) inferInstance (fun kt kf => ?_) ?_
                  · refine pr_icmp_ge hA 110 dX8_meets_97 (by decide) (fun c_97 => ?_) (fun c_97 => ?_)
                    · refine pr_aload_n hA dX8_meets_110 rfl ?_
                      refine pr_iload hA dX8_meets_111 rfl ?_
                      refine pr_iconst hA (1) dX8_meets_113 (by decide) ?_
                      refine pr_callVi hA [.int (nI k1), .int (1 : Int32)] (c_m_link (m := m) (k := k1) (c := 1) (σ := (m_me_it54 σ (m_me_it45 σ s t k).1 s t k ((m_me_it45 σ s t k).2) k1).1) (pr_hl hA) hm (by omega) (by omega)) v_X8_204 (mo_k0 hm) (by decide) rfl rfl rfl (by decide) (Nat.zero_le _) (Nat.zero_le _) rfl (Nat.le_of_ble_eq_true rfl) dX8_meets_114 ?_
                      rw [show ((m_me_it54 σ (m_me_it45 σ s t k).1 s t k ((m_me_it45 σ s t k).2) k1).1 1 (96 + 7 * k1 + 1)) = (σ 1 (96 + 7 * k1 + 1)) from ((congrFun (fr_m_me_it54 (by decide)) _).trans ((congrFun (fr_m_me_it45 (by decide)) _).trans ((pr_upv (by decide)).trans ((pr_upv (by decide)).trans (congrFun (fr_m_me_it2 (by decide)) _)))))]
                      refine pr_aload_n hA dX8_meets_117 rfl ?_
                      refine pr_getR hA f_X8_50 rfl (mo_k0 hm) (mo_f0_21 hm) dX8_meets_118 ?_
                      refine pr_iload hA dX8_meets_121 rfl ?_
                      refine pr_ialdM (v := ((m_me_it54 σ (m_me_it45 σ s t k).1 s t k ((m_me_it45 σ s t k).2) k1).1 14 k)) hA (mo_k14 hm) (by omega) (by omega) (rg_val (by decide)) dX8_meets_123 ?_
                      refine pr_join (c := (σ 1 (96 + 7 * k1 + 1)) = ((m_me_it54 σ (m_me_it45 σ s t k).1 s t k ((m_me_it45 σ s t k).2) k1).1 14 k)) (J := 148) (st := []) (if (σ 12 k1) ≤ 0 then ((-1) : Int32) else (σ 1 (96 + 7 * k1 + 0))) ((-1) : Int32) inferInstance (fun kt kf => ?_) ?_
                      · refine pr_icmp_ne hA 147 dX8_meets_124 (by decide) (fun c_124 => ?_) (fun c_124 => ?_)
                        · refine pr_iconst hA ((-1)) dX8_meets_147 (by decide) ?_
                          exact kf c_124
                        · refine pr_aload_n hA dX8_meets_127 rfl ?_
                          refine pr_getR hA f_X8_44 rfl (mo_k0 hm) (mo_f0_19 hm) dX8_meets_128 ?_
                          refine pr_iload hA dX8_meets_131 rfl ?_
                          refine pr_ialdM (v := (σ 12 k1)) hA (mo_k12 hm) (by omega) (by omega) ((rg_val (by decide)).trans ((congrFun (fr_m_me_it54 (by decide)) _).trans ((congrFun (fr_m_me_it45 (by decide)) _).trans ((pr_upv (by decide)).trans ((pr_upv (by decide)).trans (congrFun (fr_m_me_it2 (by decide)) _)))))) dX8_meets_133 ?_
                          refine pr_join (c := (σ 12 k1) ≤ 0) (J := 148) (st := []) ((-1) : Int32) (σ 1 (96 + 7 * k1 + 0)) inferInstance (fun kt kf => ?_) ?_
                          · refine pr_if_le hA 147 dX8_meets_134 (by decide) (fun c_134 => ?_) (fun c_134 => ?_)
                            · refine pr_iconst hA ((-1)) dX8_meets_147 (by decide) ?_
                              exact kt c_134
                            · refine pr_aload_n hA dX8_meets_137 rfl ?_
                              refine pr_iload hA dX8_meets_138 rfl ?_
                              refine pr_iconst hA (0) dX8_meets_140 (by decide) ?_
                              refine pr_callVi hA [.int (nI k1), .int (0 : Int32)] (c_m_link (m := m) (k := k1) (c := 0) (σ := (m_me_it54 σ (m_me_it45 σ s t k).1 s t k ((m_me_it45 σ s t k).2) k1).1) (pr_hl hA) hm (by omega) (by omega)) v_X8_204 (mo_k0 hm) (by decide) rfl rfl rfl (by decide) (Nat.zero_le _) (Nat.zero_le _) rfl (Nat.le_of_ble_eq_true rfl) dX8_meets_141 ?_
                              rw [show ((m_me_it54 σ (m_me_it45 σ s t k).1 s t k ((m_me_it45 σ s t k).2) k1).1 1 (96 + 7 * k1 + 0)) = (σ 1 (96 + 7 * k1 + 0)) from ((congrFun (fr_m_me_it54 (by decide)) _).trans ((congrFun (fr_m_me_it45 (by decide)) _).trans ((pr_upv (by decide)).trans ((pr_upv (by decide)).trans (congrFun (fr_m_me_it2 (by decide)) _)))))]
                              refine pr_goto hA 148 dX8_meets_144 (by decide) ?_
                              exact kf c_134
                          · exact kt c_124
                      · exact kt c_97
                    · refine pr_aload_n hA dX8_meets_100 rfl ?_
                      refine pr_iload hA dX8_meets_101 rfl ?_
                      refine pr_iconst hA (1) dX8_meets_103 (by decide) ?_
                      refine pr_callVi hA [.int (nI k1), .int (1 : Int32)] (c_m_link (m := m) (k := k1) (c := 1) (σ := (m_me_it54 σ (m_me_it45 σ s t k).1 s t k ((m_me_it45 σ s t k).2) k1).1) (pr_hl hA) hm (by omega) (by omega)) v_X8_204 (mo_k0 hm) (by decide) rfl rfl rfl (by decide) (Nat.zero_le _) (Nat.zero_le _) rfl (Nat.le_of_ble_eq_true rfl) dX8_meets_104 ?_
                      rw [show ((m_me_it54 σ (m_me_it45 σ s t k).1 s t k ((m_me_it45 σ s t k).2) k1).1 1 (96 + 7 * k1 + 1)) = (σ 1 (96 + 7 * k1 + 1)) from ((congrFun (fr_m_me_it54 (by decide)) _).trans ((congrFun (fr_m_me_it45 (by decide)) _).trans ((pr_upv (by decide)).trans ((pr_upv (by decide)).trans (congrFun (fr_m_me_it2 (by decide)) _)))))]
                      refine pr_goto hA 148 dX8_meets_107 (by decide) ?_
                      exact kf c_97
                  · exact kt c_80
              · rw [show (if (σ 1 (96 + 7 * k1 + 0)) = ((m_me_it54 σ (m_me_it45 σ s t k).1 s t k ((m_me_it45 σ s t k).2) k1).1 14 k) then (if (σ 11 k1) ≤ (σ 12 k1) then (if (σ 1 (96 + 7 * k1 + 1)) = ((m_me_it54 σ (m_me_it45 σ s t k).1 s t k ((m_me_it45 σ s t k).2) k1).1 14 k) then (if (σ 12 k1) ≤ 0 then ((-1) : Int32) else (σ 1 (96 + 7 * k1 + 0))) else ((-1) : Int32)) else (σ 1 (96 + 7 * k1 + 1))) else (if (σ 1 (96 + 7 * k1 + 1)) = ((m_me_it54 σ (m_me_it45 σ s t k).1 s t k ((m_me_it45 σ s t k).2) k1).1 14 k) then (if (σ 12 k1) ≤ 0 then ((-1) : Int32) else (σ 1 (96 + 7 * k1 + 0))) else ((-1) : Int32))) = (m_nxt σ k1 ((m_me_it54 σ (m_me_it45 σ s t k).1 s t k ((m_me_it45 σ s t k).2) k1).1 14 k)) from rfl]
                refine pr_istore (ls' := [_, _, _, _, _, _, _]) hA dX8_meets_148 (by decide) rfl ?_
                refine pr_iload hA dX8_meets_150 rfl ?_
                refine pr_iconst hA ((-1)) dX8_meets_152 (by decide) ?_
                refine pr_icmp_eq hA 197 dX8_meets_153 (by decide) (fun c_153 => ?_) (fun c_153 => ?_)
                · refine pr_iinc (ls' := [_, _, _, _, _, _, _]) hA (nI (k1 + 1)) dX8_meets_197 (by decide) rfl (nI_inc _) rfl ?_
                  refine pr_goto hA 54 dX8_meets_200 (by decide) ?_
                  have hb := ih54 ((mln σ) - (k1 + 1)) (by omega) (k1 + 1) rfl (by omega)
                  simp only [m_me_it54, if_pos c_153] at hb
                  exact pr_lessL (ls' := [.ref m, .int s, .int t, .int ((m_me_it54 σ (m_me_it45 σ s t k).1 s t k ((m_me_it45 σ s t k).2) k1).2), .int (nI k), .int (nI (k1 + 1)), .null]) ⟨.inr rfl, .inr rfl, .inr rfl, .inr rfl, .inr rfl, .inr rfl, .inl rfl, trivial⟩ hb
                · refine pr_aload_n hA dX8_meets_156 rfl ?_
                  refine pr_getR hA f_X8_53 rfl (mo_k0 hm) (mo_f0_22 hm) dX8_meets_157 ?_
                  refine pr_iload hA dX8_meets_160 rfl ?_
                  refine pr_zaldE (v := ((m_me_it54 σ (m_me_it45 σ s t k).1 s t k ((m_me_it45 σ s t k).2) k1).1 15 ((m_nxt σ k1 ((m_me_it54 σ (m_me_it45 σ s t k).1 s t k ((m_me_it45 σ s t k).2) k1).1 14 k)).toNatClampNeg))) hA (mo_k15 hm) (me_in hfl (by omega) c_153) (rg_val (by decide)) dX8_meets_162 ?_
                  refine pr_if_eq hA 169 dX8_meets_163 (by decide) (fun c_163 => ?_) (fun c_163 => ?_)
                  · refine pr_aload_n hA dX8_meets_169 rfl ?_
                    refine pr_getR hA f_X8_53 rfl (mo_k0 hm) (mo_f0_22 hm) dX8_meets_170 ?_
                    refine pr_iload hA dX8_meets_173 rfl ?_
                    refine pr_iconst hA (1) dX8_meets_175 (by decide) ?_
                    refine pr_zastE (v' := (1 : Int32)) (I' := (rg_put I m 16 (pr_up (m_me_it54 σ (m_me_it45 σ s t k).1 s t k ((m_me_it45 σ s t k).2) k1).1 15 ((m_nxt σ k1 ((m_me_it54 σ (m_me_it45 σ s t k).1 s t k ((m_me_it45 σ s t k).2) k1).1 14 k)).toNatClampNeg) (1 : Int32)))) hA (mo_k15 hm) (me_in hfl (by omega) c_153) (by decide) (rg_up (by decide)) dX8_meets_176 ?_
                    refine pr_aload_n hA dX8_meets_177 rfl ?_
                    refine pr_getR hA f_X8_47 rfl (mo_k0 hm) (mo_f0_20 hm) dX8_meets_178 ?_
                    refine pr_iload hA dX8_meets_181 rfl ?_
                    refine pr_iload hA dX8_meets_183 rfl ?_
                    refine pr_iastE (I' := (rg_put I m 16 (pr_up (pr_up (m_me_it54 σ (m_me_it45 σ s t k).1 s t k ((m_me_it45 σ s t k).2) k1).1 15 ((m_nxt σ k1 ((m_me_it54 σ (m_me_it45 σ s t k).1 s t k ((m_me_it45 σ s t k).2) k1).1 14 k)).toNatClampNeg) (1 : Int32)) 13 ((m_nxt σ k1 ((m_me_it54 σ (m_me_it45 σ s t k).1 s t k ((m_me_it45 σ s t k).2) k1).1 14 k)).toNatClampNeg) (nI k1)))) hA (mo_k13 hm) (me_in hfl (by omega) c_153) (rg_up (by decide)) dX8_meets_185 ?_
                    refine pr_aload_n hA dX8_meets_186 rfl ?_
                    refine pr_getR hA f_X8_50 rfl (mo_k0 hm) (mo_f0_21 hm) dX8_meets_187 ?_
                    refine pr_iload_n hA dX8_meets_190 rfl ?_
                    refine pr_iload hA dX8_meets_191 rfl ?_
                    refine pr_iastE (I' := (rg_put I m 16 (pr_up (pr_up (pr_up (m_me_it54 σ (m_me_it45 σ s t k).1 s t k ((m_me_it45 σ s t k).2) k1).1 15 ((m_nxt σ k1 ((m_me_it54 σ (m_me_it45 σ s t k).1 s t k ((m_me_it45 σ s t k).2) k1).1 14 k)).toNatClampNeg) (1 : Int32)) 13 ((m_nxt σ k1 ((m_me_it54 σ (m_me_it45 σ s t k).1 s t k ((m_me_it45 σ s t k).2) k1).1 14 k)).toNatClampNeg) (nI k1)) 14 (((m_me_it54 σ (m_me_it45 σ s t k).1 s t k ((m_me_it45 σ s t k).2) k1).2).toNatClampNeg) (m_nxt σ k1 ((m_me_it54 σ (m_me_it45 σ s t k).1 s t k ((m_me_it45 σ s t k).2) k1).1 14 k))))) hA (mo_k14 hm) (hmany k k1 hlt48 (by omega) c_48 c_153 (by first | exact c_163 | exact Decidable.not_not.mp c_163)) (rg_up (by decide)) dX8_meets_193 ?_
                    refine pr_iinc (ls' := [_, _, _, _, _, _, _]) hA (((m_me_it54 σ (m_me_it45 σ s t k).1 s t k ((m_me_it45 σ s t k).2) k1).2) + Int32.ofInt (1)) dX8_meets_194 (by decide) rfl rfl rfl ?_
                    refine pr_iinc (ls' := [_, _, _, _, _, _, _]) hA (nI (k1 + 1)) dX8_meets_197 (by decide) rfl (nI_inc _) rfl ?_
                    refine pr_goto hA 54 dX8_meets_200 (by decide) ?_
                    have hb := ih54 ((mln σ) - (k1 + 1)) (by omega) (k1 + 1) rfl (by omega)
                    simp only [m_me_it54, if_neg c_153, if_pos c_163] at hb
                    exact pr_lessL (ls' := [.ref m, .int s, .int t, .int (((m_me_it54 σ (m_me_it45 σ s t k).1 s t k ((m_me_it45 σ s t k).2) k1).2) + Int32.ofInt (1)), .int (nI k), .int (nI (k1 + 1)), .null]) ⟨.inr rfl, .inr rfl, .inr rfl, .inr rfl, .inr rfl, .inr rfl, .inl rfl, trivial⟩ hb
                  · refine pr_goto hA 197 dX8_meets_166 (by decide) ?_
                    refine pr_iinc (ls' := [_, _, _, _, _, _, _]) hA (nI (k1 + 1)) dX8_meets_197 (by decide) rfl (nI_inc _) rfl ?_
                    refine pr_goto hA 54 dX8_meets_200 (by decide) ?_
                    have hb := ih54 ((mln σ) - (k1 + 1)) (by omega) (k1 + 1) rfl (by omega)
                    simp only [m_me_it54, if_neg c_153, if_neg c_163] at hb
                    exact pr_lessL (ls' := [.ref m, .int s, .int t, .int ((m_me_it54 σ (m_me_it45 σ s t k).1 s t k ((m_me_it45 σ s t k).2) k1).2), .int (nI k), .int (nI (k1 + 1)), .null]) ⟨.inr rfl, .inr rfl, .inr rfl, .inr rfl, .inr rfl, .inr rfl, .inl rfl, trivial⟩ hb
          exact (lp54 ((mln σ) - 0) 0 rfl (by omega))
      exact (lp45 ((sl 12) - 0) 0 rfl (by omega))
    · have n_10 : ¬ (mnn σ) ≤ k := fun q => c_10 ((nI_leI (by omega) (by omega)).mpr q)
      refine pr_aload_n hA dX8_meets_13 rfl ?_
      refine pr_getR hA f_X8_53 rfl (mo_k0 hm) (mo_f0_22 hm) dX8_meets_14 ?_
      refine pr_iload_n hA dX8_meets_17 rfl ?_
      refine pr_iconst hA (0) dX8_meets_18 (by decide) ?_
      refine pr_zastN (v' := (0 : Int32)) (I' := (rg_put I m 16 (pr_up (m_me_it2 σ s t k) 15 k (0 : Int32)))) hA (mo_k15 hm) (by omega) (by omega) (by decide) (rg_up (by decide)) dX8_meets_19 ?_
      refine pr_iinc (ls' := [_, _, _, _, _, _, _]) hA (nI (k + 1)) dX8_meets_20 (by decide) rfl (nI_inc _) rfl ?_
      refine pr_goto hA 2 dX8_meets_23 (by decide) ?_
      have hb := ih2 ((mnn σ) - (k + 1)) (by omega) (k + 1) rfl (by omega)
      simp only [m_me_it2] at hb
      exact hb
  exact (lp2 ((mnn σ) - 0) 0 rfl (by omega))

theorem fr_m_me {σ : pr_I} {s : Int32} {t : Int32} {o : Nat} (hms : ∀ m ∈ ([13, 14, 15] : List Nat), o ≠ m) : m_me σ s t o = σ o := by
  unfold m_me
  simp only [List.mem_cons, List.not_mem_nil, or_false, forall_eq_or_imp, forall_eq] at hms
  rw [fr_m_me_it45 (by simp only [List.mem_cons, List.not_mem_nil, or_false, forall_eq_or_imp, forall_eq]; omega), pr_up_ne (by omega), pr_up_ne (by omega), fr_m_me_it2 (by simp only [List.mem_cons, List.not_mem_nil, or_false, forall_eq_or_imp, forall_eq]; omega)]

def m_me_ok (σ : pr_I) (s t : Int32) : Prop := m_me_it45_e σ s t (sl 12) = true ∧ (∀ k k1, k < 12 → k1 < mln σ → ¬ (m_me_it45 σ s t k).2 ≤ nI k → ¬ (m_nxt σ k1 ((m_me_it54 σ (m_me_it45 σ s t k).1 s t k ((m_me_it45 σ s t k).2) k1).1 14 k)) = -1 → (m_me_it54 σ (m_me_it45 σ s t k).1 s t k ((m_me_it45 σ s t k).2) k1).1 15 ((m_nxt σ k1 ((m_me_it54 σ (m_me_it45 σ s t k).1 s t k ((m_me_it45 σ s t k).2) k1).1 14 k)).toNatClampNeg) = 0 → vp_in (m_me_it54 σ (m_me_it45 σ s t k).1 s t k ((m_me_it45 σ s t k).2) k1).2 12) ∧ t.toNatClampNeg < mnn σ
theorem mI_m_me {σ : pr_I} {s t : Int32} (hI : mI σ) (hs : vp_in s 12) : mI (m_me σ s t) := mI_m_me_it45 hI hs _
theorem mI_k12 {σ ψ : pr_I} (h : mI σ) (hk : ∀ {o : Nat}, (∀ m ∈ ([12] : List Nat), o ≠ m) → ψ o = σ o) : mI ψ := h.keep (fun o j B q => by
  rw [hk (fun m hm => by
    simp only [List.mem_cons, List.not_mem_nil, or_false] at hm
    rw [hm]; intro e; subst e; simp [mB] at q)])
theorem mI_k11 {σ ψ : pr_I} (h : mI σ) (hk : ∀ {o : Nat}, (∀ m ∈ ([11] : List Nat), o ≠ m) → ψ o = σ o) : mI ψ := h.keep (fun o j B q => by
  rw [hk (fun m hm => by
    simp only [List.mem_cons, List.not_mem_nil, or_false] at hm
    rw [hm]; intro e; subst e; simp [mB] at q)])
noncomputable def m_wi_r (σ : pr_I) (y : Int32) (x : Int32) : Int32 := (if (σ 1 (96 + 7 * y.toNatClampNeg + 1)) = x then (1 : Int32) else (0 : Int32))
set_option maxRecDepth 100000 in
set_option maxHeartbeats 400000 in
theorem c_m_wi {g : pr_C} {l : Launch} (hl : l.stackTraces = false) {T : pr_T} {I : pr_I} {L : pr_L} {m : Nat} {σ : pr_I} {y : Int32} {x : Int32} (hm : pr_Mo T m) (hI : mI σ) (hy : vp_in y 24) : pr_M g l 2 0 0 mX8_isWith [.ref m, .int y, .int x] T (rg_put I m 16 σ) L (pr_R (some (.int (m_wi_r σ y x))) T (rg_put I m 16 σ) L) pr_no := by
  refine pr_ofG (by decide) rfl hl (Nat.le_of_ble_eq_true rfl) (fun X hA hX hXn hXt => ?_)
  subst hX
  show pr_G g X mX8_isWith.2.2.1 _ 0 0 0 [.ref m, .int y, .int x] [] T (rg_put I m 16 σ) L
  have hn5 := mI_n5 hI
  have hr4 := mI_nr4 hI
  have hl24 := mI_nl24 hI
  have hn12 := mI_nn12 hI
  refine pr_aload_n hA dX8_isWith_0 rfl ?_
  refine pr_iload_n hA dX8_isWith_1 rfl ?_
  refine pr_iconst hA (1) dX8_isWith_2 (by decide) ?_
  refine pr_callVi hA [.int y, .int (1 : Int32)] (c_m_linkx (m := m) (x := y) (c := 1) (σ := σ) (pr_hl hA) hm (by assumption) (by omega)) v_X8_204 (mo_k0 hm) (by decide) rfl rfl rfl (by decide) (Nat.zero_le _) (Nat.zero_le _) rfl (Nat.le_of_ble_eq_true rfl) dX8_isWith_3 ?_
  refine pr_iload_n hA dX8_isWith_6 rfl ?_
  refine pr_join (c := (σ 1 (96 + 7 * y.toNatClampNeg + 1)) = x) (J := 15) (st := []) (1 : Int32) (0 : Int32) inferInstance (fun kt kf => ?_) ?_
  · refine pr_icmp_ne hA 14 dX8_isWith_7 (by decide) (fun c_7 => ?_) (fun c_7 => ?_)
    · refine pr_iconst hA (0) dX8_isWith_14 (by decide) ?_
      exact kf c_7
    · refine pr_iconst hA (1) dX8_isWith_10 (by decide) ?_
      refine pr_goto hA 15 dX8_isWith_11 (by decide) ?_
      exact kt c_7
  · exact pr_ireturn hA rfl (pr_nb (by repeat (first | exact Or.inl rfl | exact Or.inr rfl | refine nb_ite ?_ ?_))) (Nat.zero_le _) (Nat.zero_le _) dX8_isWith_15 ⟨rfl, rfl, rfl, rfl⟩

noncomputable def m_ot_r (σ : pr_I) (x : Int32) : Int32 := (if (m_wi_r σ (σ 13 x.toNatClampNeg) x) = 0 then (σ 1 (96 + 7 * ((σ 13 x.toNatClampNeg).toNatClampNeg) + 1)) else (σ 1 (96 + 7 * ((σ 13 x.toNatClampNeg).toNatClampNeg) + 0)))
set_option maxRecDepth 100000 in
set_option maxHeartbeats 400000 in
theorem c_m_ot {g : pr_C} {l : Launch} (hl : l.stackTraces = false) {T : pr_T} {I : pr_I} {L : pr_L} {m : Nat} {σ : pr_I} {x : Int32} (hm : pr_Mo T m) (hI : mI σ) (hx : vp_in x 12) : pr_M g l 3 0 0 mX8_other [.ref m, .int x] T (rg_put I m 16 σ) L (pr_R (some (.int (m_ot_r σ x))) T (rg_put I m 16 σ) L) pr_no := by
  refine pr_ofG (by decide) rfl hl (Nat.le_of_ble_eq_true rfl) (fun X hA hX hXn hXt => ?_)
  subst hX
  show pr_G g X mX8_other.2.2.1 _ 0 0 0 [.ref m, .int x] [] T (rg_put I m 16 σ) L
  have hn5 := mI_n5 hI
  have hr4 := mI_nr4 hI
  have hl24 := mI_nl24 hI
  have hn12 := mI_nn12 hI
  refine pr_aload_n hA dX8_other_0 rfl ?_
  refine pr_aload_n hA dX8_other_1 rfl ?_
  refine pr_getR hA f_X8_47 rfl (mo_k0 hm) (mo_f0_20 hm) dX8_other_2 ?_
  refine pr_iload_n hA dX8_other_5 rfl ?_
  refine pr_ialdE (v := (σ 13 x.toNatClampNeg)) hA (mo_k13 hm) hx (rg_val (by decide)) dX8_other_6 ?_
  refine pr_iload_n hA dX8_other_7 rfl ?_
  have hv8 : mI σ := hI
  refine pr_callVi hA [.int (σ 13 x.toNatClampNeg), .int x] (c_m_wi (m := m) (σ := σ) (y := (σ 13 x.toNatClampNeg)) (x := x) (pr_hl hA) hm hv8 (hI 13 _ 24 rfl)) v_X8_371 (mo_k0 hm) (by decide) rfl rfl rfl (by decide) (Nat.zero_le _) (Nat.zero_le _) rfl (Nat.le_of_ble_eq_true rfl) dX8_other_8 ?_
  refine pr_join (c := (m_wi_r σ (σ 13 x.toNatClampNeg) x) = 0) (J := 39) (st := []) (σ 1 (96 + 7 * ((σ 13 x.toNatClampNeg).toNatClampNeg) + 1)) (σ 1 (96 + 7 * ((σ 13 x.toNatClampNeg).toNatClampNeg) + 0)) inferInstance (fun kt kf => ?_) ?_
  · refine pr_if_eq hA 28 dX8_other_11 (by decide) (fun c_11 => ?_) (fun c_11 => ?_)
    · refine pr_aload_n hA dX8_other_28 rfl ?_
      refine pr_aload_n hA dX8_other_29 rfl ?_
      refine pr_getR hA f_X8_47 rfl (mo_k0 hm) (mo_f0_20 hm) dX8_other_30 ?_
      refine pr_iload_n hA dX8_other_33 rfl ?_
      refine pr_ialdE (v := (σ 13 x.toNatClampNeg)) hA (mo_k13 hm) hx (rg_val (by decide)) dX8_other_34 ?_
      refine pr_iconst hA (1) dX8_other_35 (by decide) ?_
      refine pr_callVi hA [.int (σ 13 x.toNatClampNeg), .int (1 : Int32)] (c_m_linkx (m := m) (x := (σ 13 x.toNatClampNeg)) (c := 1) (σ := σ) (pr_hl hA) hm (hI 13 _ 24 rfl) (by omega)) v_X8_204 (mo_k0 hm) (by decide) rfl rfl rfl (by decide) (Nat.zero_le _) (Nat.zero_le _) rfl (Nat.le_of_ble_eq_true rfl) dX8_other_36 ?_
      exact kt c_11
    · refine pr_aload_n hA dX8_other_14 rfl ?_
      refine pr_aload_n hA dX8_other_15 rfl ?_
      refine pr_getR hA f_X8_47 rfl (mo_k0 hm) (mo_f0_20 hm) dX8_other_16 ?_
      refine pr_iload_n hA dX8_other_19 rfl ?_
      refine pr_ialdE (v := (σ 13 x.toNatClampNeg)) hA (mo_k13 hm) hx (rg_val (by decide)) dX8_other_20 ?_
      refine pr_iconst hA (0) dX8_other_21 (by decide) ?_
      refine pr_callVi hA [.int (σ 13 x.toNatClampNeg), .int (0 : Int32)] (c_m_linkx (m := m) (x := (σ 13 x.toNatClampNeg)) (c := 0) (σ := σ) (pr_hl hA) hm (hI 13 _ 24 rfl) (by omega)) v_X8_204 (mo_k0 hm) (by decide) rfl rfl rfl (by decide) (Nat.zero_le _) (Nat.zero_le _) rfl (Nat.le_of_ble_eq_true rfl) dX8_other_22 ?_
      refine pr_goto hA 39 dX8_other_25 (by decide) ?_
      exact kf c_11
  · exact pr_ireturn hA rfl rfl (Nat.zero_le _) (Nat.zero_le _) dX8_other_39 ⟨rfl, rfl, rfl, rfl⟩

theorem m_ot_in {σ : pr_I} {x : Int32} (hI : mI σ) : vp_in (m_ot_r σ x) 12 := by
  have h := vp_in_lt (hI 13 x.toNatClampNeg 24 rfl)
  unfold m_ot_r
  exact p_ite (P := fun z : Int32 => vp_in z 12) (mI_link hI h (by decide) rfl) (mI_link hI h (by decide) rfl)
noncomputable def m_pu_it6 (σ : pr_I) (s : Int32) (t : Int32) : Nat → Int32 × Int32
  | 0 => ((1000000000 : Int32), t)
  | k + 1 => (if ((m_pu_it6 σ s t k).2) = s then (((m_pu_it6 σ s t k).1), ((m_pu_it6 σ s t k).2)) else ((if (if (m_wi_r σ (σ 13 (((m_pu_it6 σ s t k).2).toNatClampNeg)) ((m_pu_it6 σ s t k).2)) = 0 then (σ 12 ((σ 13 (((m_pu_it6 σ s t k).2).toNatClampNeg)).toNatClampNeg)) else ((σ 11 ((σ 13 (((m_pu_it6 σ s t k).2).toNatClampNeg)).toNatClampNeg)) - (σ 12 ((σ 13 (((m_pu_it6 σ s t k).2).toNatClampNeg)).toNatClampNeg)))) < ((m_pu_it6 σ s t k).1) then (if (m_wi_r σ (σ 13 (((m_pu_it6 σ s t k).2).toNatClampNeg)) ((m_pu_it6 σ s t k).2)) = 0 then (σ 12 ((σ 13 (((m_pu_it6 σ s t k).2).toNatClampNeg)).toNatClampNeg)) else ((σ 11 ((σ 13 (((m_pu_it6 σ s t k).2).toNatClampNeg)).toNatClampNeg)) - (σ 12 ((σ 13 (((m_pu_it6 σ s t k).2).toNatClampNeg)).toNatClampNeg)))) else ((m_pu_it6 σ s t k).1)), (m_ot_r σ ((m_pu_it6 σ s t k).2))))
noncomputable def m_pu_it6_e (σ : pr_I) (s : Int32) (t : Int32) (k : Nat) : Bool := (if ((m_pu_it6 σ s t k).2) = s then true else false)
theorem st_m_pu_it6_9 {σ : pr_I} {s : Int32} {t : Int32} {k : Nat} (c_9 : ((m_pu_it6 σ s t k).2) = s) : ∀ j, m_pu_it6 σ s t (k + j) = m_pu_it6 σ s t k
  | 0 => rfl
  | j + 1 => by
    have ih := st_m_pu_it6_9 c_9 j
    show m_pu_it6 σ s t ((k + j) + 1) = m_pu_it6 σ s t k
    simp only [m_pu_it6, ih, if_pos c_9]
noncomputable def m_pu_it87 (σ : pr_I) (s : Int32) (t : Int32) : Nat → pr_I × Int32
  | 0 => (σ, t)
  | k + 1 => (if ((m_pu_it87 σ s t k).2) = s then ((m_pu_it87 σ s t k).1, ((m_pu_it87 σ s t k).2)) else ((pr_up (m_pu_it87 σ s t k).1 12 ((σ 13 (((m_pu_it87 σ s t k).2).toNatClampNeg)).toNatClampNeg) (((m_pu_it87 σ s t k).1 12 ((σ 13 (((m_pu_it87 σ s t k).2).toNatClampNeg)).toNatClampNeg)) + (if (m_wi_r (m_pu_it87 σ s t k).1 (σ 13 (((m_pu_it87 σ s t k).2).toNatClampNeg)) ((m_pu_it87 σ s t k).2)) = 0 then (-((m_pu_it6 σ s t (sl 12)).1)) else ((m_pu_it6 σ s t (sl 12)).1)))), (m_ot_r (pr_up (m_pu_it87 σ s t k).1 12 ((σ 13 (((m_pu_it87 σ s t k).2).toNatClampNeg)).toNatClampNeg) (((m_pu_it87 σ s t k).1 12 ((σ 13 (((m_pu_it87 σ s t k).2).toNatClampNeg)).toNatClampNeg)) + (if (m_wi_r (m_pu_it87 σ s t k).1 (σ 13 (((m_pu_it87 σ s t k).2).toNatClampNeg)) ((m_pu_it87 σ s t k).2)) = 0 then (-((m_pu_it6 σ s t (sl 12)).1)) else ((m_pu_it6 σ s t (sl 12)).1)))) ((m_pu_it87 σ s t k).2))))
theorem fr_m_pu_it87 {σ : pr_I} {s : Int32} {t : Int32} {o : Nat} (hms : ∀ m ∈ ([12] : List Nat), o ≠ m) : ∀ {k : Nat}, (m_pu_it87 σ s t k).1 o = σ o := by
  simp only [List.mem_cons, List.not_mem_nil, or_false, forall_eq_or_imp, forall_eq] at hms
  intro k
  induction k with
  | zero =>
    show σ o = σ o
    rfl
  | succ k ih =>
    by_cases c_90 : ((m_pu_it87 σ s t k).2) = s
    · refine (congrFun (congrArg (fun z : pr_I × Int32 => z.1) (if_pos c_90)) o).trans ?_
      show (m_pu_it87 σ s t k).1 o = σ o
      rw [ih]
    · refine (congrFun (congrArg (fun z : pr_I × Int32 => z.1) (if_neg c_90)) o).trans ?_
      show (pr_up (m_pu_it87 σ s t k).1 12 ((σ 13 (((m_pu_it87 σ s t k).2).toNatClampNeg)).toNatClampNeg) (((m_pu_it87 σ s t k).1 12 ((σ 13 (((m_pu_it87 σ s t k).2).toNatClampNeg)).toNatClampNeg)) + (if (m_wi_r (m_pu_it87 σ s t k).1 (σ 13 (((m_pu_it87 σ s t k).2).toNatClampNeg)) ((m_pu_it87 σ s t k).2)) = 0 then (-((m_pu_it6 σ s t (sl 12)).1)) else ((m_pu_it6 σ s t (sl 12)).1)))) o = σ o
      rw [pr_up_ne (by omega), ih]

noncomputable def m_pu_it87_e (σ : pr_I) (s : Int32) (t : Int32) (k : Nat) : Bool := (if ((m_pu_it87 σ s t k).2) = s then true else false)
theorem st_m_pu_it87_90 {σ : pr_I} {s : Int32} {t : Int32} {k : Nat} (c_90 : ((m_pu_it87 σ s t k).2) = s) : ∀ j, m_pu_it87 σ s t (k + j) = m_pu_it87 σ s t k
  | 0 => rfl
  | j + 1 => by
    have ih := st_m_pu_it87_90 c_90 j
    show m_pu_it87 σ s t ((k + j) + 1) = m_pu_it87 σ s t k
    simp only [m_pu_it87, ih, if_pos c_90]
noncomputable def m_pu_r (σ : pr_I) (s : Int32) (t : Int32) : Int32 := ((m_pu_it6 σ s t (sl 12)).1)
noncomputable def m_pu (σ : pr_I) (s : Int32) (t : Int32) : pr_I := (m_pu_it87 σ s t (sl 12)).1
theorem pu_n1 {σ : pr_I} {s t : Int32} (hI : mI σ) (ht : vp_in t 12) : ∀ k, vp_in (m_pu_it6 σ s t k).2 12
  | 0 => ht
  | k + 1 => by
    have ih := pu_n1 (s := s) hI ht k
    unfold m_pu_it6
    exact p_ite (P := fun z : Int32 × Int32 => vp_in z.2 12) ih (m_ot_in hI)
theorem pu_n2 {σ : pr_I} {s t : Int32} (hI : mI σ) (ht : vp_in t 12) : ∀ k, mI (m_pu_it87 σ s t k).1 ∧ vp_in (m_pu_it87 σ s t k).2 12
  | 0 => ⟨hI, ht⟩
  | k + 1 => by
    obtain ⟨i1, i2⟩ := pu_n2 (s := s) hI ht k
    unfold m_pu_it87
    exact p_ite (P := fun z : pr_I × Int32 => mI z.1 ∧ vp_in z.2 12) ⟨i1, i2⟩ ⟨i1.upn rfl, m_ot_in (i1.upn rfl)⟩
set_option maxRecDepth 100000 in
set_option maxHeartbeats 400000 in
theorem c_m_pu {g : pr_C} {l : Launch} (hl : l.stackTraces = false) {T : pr_T} {I : pr_I} {L : pr_L} {m : Nat} {σ : pr_I} {s : Int32} {t : Int32} (hm : pr_Mo T m) (hI : mI σ) (ht : vp_in t 12) (hend : m_pu_it6_e σ s t (sl 12) = true) (hend2 : m_pu_it87_e σ s t (sl 12) = true) : pr_M g l 4 0 0 mX8_pushes [.ref m, .int s, .int t] T (rg_put I m 16 σ) L (pr_R (some (.int (m_pu_r σ s t))) T (rg_put I m 16 (m_pu σ s t)) L) pr_no := by
  refine pr_ofG (by decide) rfl hl (Nat.le_of_ble_eq_true rfl) (fun X hA hX hXn hXt => ?_)
  subst hX
  show pr_G g X mX8_pushes.2.2.1 _ 0 0 0 [.ref m, .int s, .int t, .null, .null] [] T (rg_put I m 16 σ) L
  have hn5 := mI_n5 hI
  have hr4 := mI_nr4 hI
  have hl24 := mI_nl24 hI
  have hn12 := mI_nn12 hI
  have hsl12 := sl_eq 12
  refine pr_ldc hA kK_X8_212 dX8_pushes_0 ?_
  refine pr_istore_n (ls' := [_, _, _, _, _]) hA dX8_pushes_2 (by decide) rfl ?_
  refine pr_iload_n hA dX8_pushes_3 rfl ?_
  refine pr_istore (ls' := [_, _, _, _, _]) hA dX8_pushes_4 (by decide) rfl ?_
  have lp6 : ∀ (j k : Nat), (sl 12) - k = j → k ≤ (sl 12) → pr_G g X mX8_pushes.2.2.1 (pr_MQ g X (pr_R (some (.int (m_pu_r σ s t))) T (rg_put I m 16 (m_pu σ s t)) L) pr_no 0 0) 0 0 6 [.ref m, .int s, .int t, .int ((m_pu_it6 σ s t k).1), .int ((m_pu_it6 σ s t k).2)] [] T (rg_put I m 16 σ) L := by
    intro j
    induction j using Nat.strongRecOn with | ind j ih6 =>
    intro k hj6 hk6
    refine pr_iload hA dX8_pushes_6 rfl ?_
    refine pr_iload_n hA dX8_pushes_8 rfl ?_
    refine pr_icmp_eq hA 84 dX8_pushes_9 (by decide) (fun c_9 => ?_) (fun c_9 => ?_)
    · have hst := st_m_pu_it6_9 c_9 ((sl 12) - k)
      rw [show k + ((sl 12) - k) = (sl 12) from by omega] at hst
      refine pr_lessL (ls' := [.ref m, .int s, .int t, .int ((m_pu_it6 σ s t k).1), .int ((m_pu_it6 σ s t k).2)]) ⟨.inr rfl, .inr rfl, .inr rfl, .inr rfl, .inr rfl, trivial⟩ ?_
      rw [← hst]
      refine pr_iload_n hA dX8_pushes_84 rfl ?_
      refine pr_istore (ls' := [_, _, _, _, _]) hA dX8_pushes_85 (by decide) rfl ?_
      have lp87 : ∀ (j k : Nat), (sl 12) - k = j → k ≤ (sl 12) → pr_G g X mX8_pushes.2.2.1 (pr_MQ g X (pr_R (some (.int (m_pu_r σ s t))) T (rg_put I m 16 (m_pu σ s t)) L) pr_no 0 0) 0 0 87 [.ref m, .int s, .int t, .int ((m_pu_it6 σ s t (sl 12)).1), .int ((m_pu_it87 σ s t k).2)] [] T (rg_put I m 16 (m_pu_it87 σ s t k).1) L := by
        intro j
        induction j using Nat.strongRecOn with | ind j ih87 =>
        intro k hj87 hk87
        refine pr_iload hA dX8_pushes_87 rfl ?_
        refine pr_iload_n hA dX8_pushes_89 rfl ?_
        refine pr_icmp_eq hA 141 dX8_pushes_90 (by decide) (fun c_90 => ?_) (fun c_90 => ?_)
        · have hst := st_m_pu_it87_90 c_90 ((sl 12) - k)
          rw [show k + ((sl 12) - k) = (sl 12) from by omega] at hst
          refine pr_lessL (ls' := [.ref m, .int s, .int t, .int ((m_pu_it6 σ s t (sl 12)).1), .int ((m_pu_it87 σ s t k).2)]) ⟨.inr rfl, .inr rfl, .inr rfl, .inr rfl, .inr rfl, trivial⟩ ?_
          rw [← hst]
          refine pr_iload_n hA dX8_pushes_141 rfl ?_
          exact pr_ireturn hA rfl rfl (Nat.zero_le _) (Nat.zero_le _) dX8_pushes_142 ⟨rfl, rfl, rfl, rfl⟩
        · refine pr_aload_n hA dX8_pushes_93 rfl ?_
          refine pr_getR hA f_X8_44 rfl (mo_k0 hm) (mo_f0_19 hm) dX8_pushes_94 ?_
          refine pr_aload_n hA dX8_pushes_97 rfl ?_
          refine pr_getR hA f_X8_47 rfl (mo_k0 hm) (mo_f0_20 hm) dX8_pushes_98 ?_
          refine pr_iload hA dX8_pushes_101 rfl ?_
          refine pr_ialdE (v := (σ 13 (((m_pu_it87 σ s t k).2).toNatClampNeg))) hA (mo_k13 hm) (pu_n2 hI ht k).2 ((rg_val (by decide)).trans (congrFun (fr_m_pu_it87 (by decide)) _)) dX8_pushes_103 ?_
          refine pr_dup2 hA dX8_pushes_104 rfl rfl ?_
          refine pr_ialdE (v := ((m_pu_it87 σ s t k).1 12 ((σ 13 (((m_pu_it87 σ s t k).2).toNatClampNeg)).toNatClampNeg))) hA (mo_k12 hm) (hI 13 _ 24 rfl) (rg_val (by decide)) dX8_pushes_105 ?_
          refine pr_aload_n hA dX8_pushes_106 rfl ?_
          refine pr_aload_n hA dX8_pushes_107 rfl ?_
          refine pr_getR hA f_X8_47 rfl (mo_k0 hm) (mo_f0_20 hm) dX8_pushes_108 ?_
          refine pr_iload hA dX8_pushes_111 rfl ?_
          refine pr_ialdE (v := (σ 13 (((m_pu_it87 σ s t k).2).toNatClampNeg))) hA (mo_k13 hm) (pu_n2 hI ht k).2 ((rg_val (by decide)).trans (congrFun (fr_m_pu_it87 (by decide)) _)) dX8_pushes_113 ?_
          refine pr_iload hA dX8_pushes_114 rfl ?_
          have hv116 : mI (m_pu_it87 σ s t k).1 := (mI_k12 hI (fun h => fr_m_pu_it87 h))
          refine pr_callVi hA [.int (σ 13 (((m_pu_it87 σ s t k).2).toNatClampNeg)), .int ((m_pu_it87 σ s t k).2)] (c_m_wi (m := m) (σ := (m_pu_it87 σ s t k).1) (y := (σ 13 (((m_pu_it87 σ s t k).2).toNatClampNeg))) (x := ((m_pu_it87 σ s t k).2)) (pr_hl hA) hm hv116 (hI 13 _ 24 rfl)) v_X8_371 (mo_k0 hm) (by decide) rfl rfl rfl (by decide) (Nat.zero_le _) (Nat.zero_le _) rfl (Nat.le_of_ble_eq_true rfl) dX8_pushes_116 ?_
          refine pr_join (c := (m_wi_r (m_pu_it87 σ s t k).1 (σ 13 (((m_pu_it87 σ s t k).2).toNatClampNeg)) ((m_pu_it87 σ s t k).2)) = 0) (J := 128) (st := [.int ((m_pu_it87 σ s t k).1 12 ((σ 13 (((m_pu_it87 σ s t k).2).toNatClampNeg)).toNatClampNeg)), .int (σ 13 (((m_pu_it87 σ s t k).2).toNatClampNeg)), .ref (m + 12)]) (-((m_pu_it6 σ s t (sl 12)).1)) ((m_pu_it6 σ s t (sl 12)).1) inferInstance (fun kt kf => ?_) ?_
          · refine pr_if_eq hA 126 dX8_pushes_119 (by decide) (fun c_119 => ?_) (fun c_119 => ?_)
            · refine pr_iload_n hA dX8_pushes_126 rfl ?_
              refine pr_ineg hA dX8_pushes_127 ?_
              exact kt c_119
            · refine pr_iload_n hA dX8_pushes_122 rfl ?_
              refine pr_goto hA 128 dX8_pushes_123 (by decide) ?_
              exact kf c_119
          · refine pr_iadd hA dX8_pushes_128 ?_
            refine pr_iastE (I' := (rg_put I m 16 (pr_up (m_pu_it87 σ s t k).1 12 ((σ 13 (((m_pu_it87 σ s t k).2).toNatClampNeg)).toNatClampNeg) (((m_pu_it87 σ s t k).1 12 ((σ 13 (((m_pu_it87 σ s t k).2).toNatClampNeg)).toNatClampNeg)) + (if (m_wi_r (m_pu_it87 σ s t k).1 (σ 13 (((m_pu_it87 σ s t k).2).toNatClampNeg)) ((m_pu_it87 σ s t k).2)) = 0 then (-((m_pu_it6 σ s t (sl 12)).1)) else ((m_pu_it6 σ s t (sl 12)).1)))))) hA (mo_k12 hm) (hI 13 _ 24 rfl) (rg_up (by decide)) dX8_pushes_129 ?_
            refine pr_aload_n hA dX8_pushes_130 rfl ?_
            refine pr_iload hA dX8_pushes_131 rfl ?_
            have hv133 : mI (pr_up (m_pu_it87 σ s t k).1 12 ((σ 13 (((m_pu_it87 σ s t k).2).toNatClampNeg)).toNatClampNeg) (((m_pu_it87 σ s t k).1 12 ((σ 13 (((m_pu_it87 σ s t k).2).toNatClampNeg)).toNatClampNeg)) + (if (m_wi_r (m_pu_it87 σ s t k).1 (σ 13 (((m_pu_it87 σ s t k).2).toNatClampNeg)) ((m_pu_it87 σ s t k).2)) = 0 then (-((m_pu_it6 σ s t (sl 12)).1)) else ((m_pu_it6 σ s t (sl 12)).1)))) := (mI.upn (mI_k12 hI (fun h => fr_m_pu_it87 h)) rfl)
            refine pr_callVi hA [.int ((m_pu_it87 σ s t k).2)] (c_m_ot (m := m) (σ := (pr_up (m_pu_it87 σ s t k).1 12 ((σ 13 (((m_pu_it87 σ s t k).2).toNatClampNeg)).toNatClampNeg) (((m_pu_it87 σ s t k).1 12 ((σ 13 (((m_pu_it87 σ s t k).2).toNatClampNeg)).toNatClampNeg)) + (if (m_wi_r (m_pu_it87 σ s t k).1 (σ 13 (((m_pu_it87 σ s t k).2).toNatClampNeg)) ((m_pu_it87 σ s t k).2)) = 0 then (-((m_pu_it6 σ s t (sl 12)).1)) else ((m_pu_it6 σ s t (sl 12)).1))))) (x := ((m_pu_it87 σ s t k).2)) (pr_hl hA) hm hv133 (pu_n2 hI ht k).2) v_X8_374 (mo_k0 hm) (by decide) rfl rfl rfl (by decide) (Nat.zero_le _) (Nat.zero_le _) rfl (Nat.le_of_ble_eq_true rfl) dX8_pushes_133 ?_
            refine pr_istore (ls' := [_, _, _, _, _]) hA dX8_pushes_136 (by decide) rfl ?_
            refine pr_goto hA 87 dX8_pushes_138 (by decide) ?_
            have hlt : k < (sl 12) := by
              rcases Nat.lt_or_ge k (sl 12) with hlt0 | hlt0
              · exact hlt0
              · have e : k = (sl 12) := by omega
                exact absurd hend2 (by rw [← e]; simp only [m_pu_it87_e, if_neg c_90]; decide)
            have hb := ih87 ((sl 12) - (k + 1)) (by omega) (k + 1) rfl (by omega)
            simp only [m_pu_it87, if_neg c_90] at hb
            exact hb
      exact (lp87 ((sl 12) - 0) 0 rfl (by omega))
    · refine pr_iload_n hA dX8_pushes_12 rfl ?_
      refine pr_aload_n hA dX8_pushes_13 rfl ?_
      refine pr_aload_n hA dX8_pushes_14 rfl ?_
      refine pr_getR hA f_X8_47 rfl (mo_k0 hm) (mo_f0_20 hm) dX8_pushes_15 ?_
      refine pr_iload hA dX8_pushes_18 rfl ?_
      refine pr_ialdE (v := (σ 13 (((m_pu_it6 σ s t k).2).toNatClampNeg))) hA (mo_k13 hm) (pu_n1 hI ht k) (rg_val (by decide)) dX8_pushes_20 ?_
      refine pr_iload hA dX8_pushes_21 rfl ?_
      have hv23 : mI σ := hI
      refine pr_callVi hA [.int (σ 13 (((m_pu_it6 σ s t k).2).toNatClampNeg)), .int ((m_pu_it6 σ s t k).2)] (c_m_wi (m := m) (σ := σ) (y := (σ 13 (((m_pu_it6 σ s t k).2).toNatClampNeg))) (x := ((m_pu_it6 σ s t k).2)) (pr_hl hA) hm hv23 (hI 13 _ 24 rfl)) v_X8_371 (mo_k0 hm) (by decide) rfl rfl rfl (by decide) (Nat.zero_le _) (Nat.zero_le _) rfl (Nat.le_of_ble_eq_true rfl) dX8_pushes_23 ?_
      refine pr_join (c := (m_wi_r σ (σ 13 (((m_pu_it6 σ s t k).2).toNatClampNeg)) ((m_pu_it6 σ s t k).2)) = 0) (J := 69) (st := [.int ((m_pu_it6 σ s t k).1)]) (σ 12 ((σ 13 (((m_pu_it6 σ s t k).2).toNatClampNeg)).toNatClampNeg)) ((σ 11 ((σ 13 (((m_pu_it6 σ s t k).2).toNatClampNeg)).toNatClampNeg)) - (σ 12 ((σ 13 (((m_pu_it6 σ s t k).2).toNatClampNeg)).toNatClampNeg))) inferInstance (fun kt kf => ?_) ?_
      · refine pr_if_eq hA 57 dX8_pushes_26 (by decide) (fun c_26 => ?_) (fun c_26 => ?_)
        · refine pr_aload_n hA dX8_pushes_57 rfl ?_
          refine pr_getR hA f_X8_44 rfl (mo_k0 hm) (mo_f0_19 hm) dX8_pushes_58 ?_
          refine pr_aload_n hA dX8_pushes_61 rfl ?_
          refine pr_getR hA f_X8_47 rfl (mo_k0 hm) (mo_f0_20 hm) dX8_pushes_62 ?_
          refine pr_iload hA dX8_pushes_65 rfl ?_
          refine pr_ialdE (v := (σ 13 (((m_pu_it6 σ s t k).2).toNatClampNeg))) hA (mo_k13 hm) (pu_n1 hI ht k) (rg_val (by decide)) dX8_pushes_67 ?_
          refine pr_ialdE (v := (σ 12 ((σ 13 (((m_pu_it6 σ s t k).2).toNatClampNeg)).toNatClampNeg))) hA (mo_k12 hm) (hI 13 _ 24 rfl) (rg_val (by decide)) dX8_pushes_68 ?_
          exact kt c_26
        · refine pr_aload_n hA dX8_pushes_29 rfl ?_
          refine pr_getR hA f_X8_41 rfl (mo_k0 hm) (mo_f0_18 hm) dX8_pushes_30 ?_
          refine pr_aload_n hA dX8_pushes_33 rfl ?_
          refine pr_getR hA f_X8_47 rfl (mo_k0 hm) (mo_f0_20 hm) dX8_pushes_34 ?_
          refine pr_iload hA dX8_pushes_37 rfl ?_
          refine pr_ialdE (v := (σ 13 (((m_pu_it6 σ s t k).2).toNatClampNeg))) hA (mo_k13 hm) (pu_n1 hI ht k) (rg_val (by decide)) dX8_pushes_39 ?_
          refine pr_ialdE (v := (σ 11 ((σ 13 (((m_pu_it6 σ s t k).2).toNatClampNeg)).toNatClampNeg))) hA (mo_k11 hm) (hI 13 _ 24 rfl) (rg_val (by decide)) dX8_pushes_40 ?_
          refine pr_aload_n hA dX8_pushes_41 rfl ?_
          refine pr_getR hA f_X8_44 rfl (mo_k0 hm) (mo_f0_19 hm) dX8_pushes_42 ?_
          refine pr_aload_n hA dX8_pushes_45 rfl ?_
          refine pr_getR hA f_X8_47 rfl (mo_k0 hm) (mo_f0_20 hm) dX8_pushes_46 ?_
          refine pr_iload hA dX8_pushes_49 rfl ?_
          refine pr_ialdE (v := (σ 13 (((m_pu_it6 σ s t k).2).toNatClampNeg))) hA (mo_k13 hm) (pu_n1 hI ht k) (rg_val (by decide)) dX8_pushes_51 ?_
          refine pr_ialdE (v := (σ 12 ((σ 13 (((m_pu_it6 σ s t k).2).toNatClampNeg)).toNatClampNeg))) hA (mo_k12 hm) (hI 13 _ 24 rfl) (rg_val (by decide)) dX8_pushes_52 ?_
          refine pr_isub hA dX8_pushes_53 ?_
          refine pr_goto hA 69 dX8_pushes_54 (by decide) ?_
          exact kf c_26
      · refine pr_mmin hA rfl ⟨kM_X8_279, kT_J9_min_7cf53, kZ_J9, kO_J9_min_7cf53⟩ (by decide) (Nat.zero_le _) (Nat.zero_le _) (Nat.le_of_ble_eq_true rfl) dX8_pushes_69 ?_
        refine pr_istore_n (ls' := [_, _, _, _, _]) hA dX8_pushes_72 (by decide) rfl ?_
        refine pr_aload_n hA dX8_pushes_73 rfl ?_
        refine pr_iload hA dX8_pushes_74 rfl ?_
        have hv76 : mI σ := hI
        refine pr_callVi hA [.int ((m_pu_it6 σ s t k).2)] (c_m_ot (m := m) (σ := σ) (x := ((m_pu_it6 σ s t k).2)) (pr_hl hA) hm hv76 (pu_n1 hI ht k)) v_X8_374 (mo_k0 hm) (by decide) rfl rfl rfl (by decide) (Nat.zero_le _) (Nat.zero_le _) rfl (Nat.le_of_ble_eq_true rfl) dX8_pushes_76 ?_
        refine pr_istore (ls' := [_, _, _, _, _]) hA dX8_pushes_79 (by decide) rfl ?_
        refine pr_goto hA 6 dX8_pushes_81 (by decide) ?_
        have hlt : k < (sl 12) := by
          rcases Nat.lt_or_ge k (sl 12) with hlt0 | hlt0
          · exact hlt0
          · have e : k = (sl 12) := by omega
            exact absurd hend (by rw [← e]; simp only [m_pu_it6_e, if_neg c_9]; decide)
        have hb := ih6 ((sl 12) - (k + 1)) (by omega) (k + 1) rfl (by omega)
        simp only [m_pu_it6, if_neg c_9] at hb
        exact hb
  exact (lp6 ((sl 12) - 0) 0 rfl (by omega))

theorem fr_m_pu {σ : pr_I} {s : Int32} {t : Int32} {o : Nat} (hms : ∀ m ∈ ([12] : List Nat), o ≠ m) : m_pu σ s t o = σ o := by
  unfold m_pu
  simp only [List.mem_cons, List.not_mem_nil, or_false, forall_eq_or_imp, forall_eq] at hms
  rw [fr_m_pu_it87 (by simp only [List.mem_cons, List.not_mem_nil, or_false, forall_eq_or_imp, forall_eq]; omega)]

def m_pu_ok (σ : pr_I) (s t : Int32) : Prop := m_pu_it6_e σ s t (sl 12) = true ∧ m_pu_it87_e σ s t (sl 12) = true
theorem mI_m_pu {σ : pr_I} {s t : Int32} (hI : mI σ) (ht : vp_in t 12) : mI (m_pu σ s t) := (pu_n2 hI ht _).1
noncomputable def m_fs_it2 (σ : pr_I) (s : Int32) (t : Int32) : Nat → pr_I
  | 0 => σ
  | k + 1 => (pr_up (m_fs_it2 σ s t k) 12 k (0 : Int32))
theorem fr_m_fs_it2 {σ : pr_I} {s : Int32} {t : Int32} {o : Nat} (hms : ∀ m ∈ ([12] : List Nat), o ≠ m) : ∀ {k : Nat}, (m_fs_it2 σ s t k) o = σ o := by
  simp only [List.mem_cons, List.not_mem_nil, or_false, forall_eq_or_imp, forall_eq] at hms
  intro k
  induction k with
  | zero =>
    show σ o = σ o
    rfl
  | succ k ih =>
    show (pr_up (m_fs_it2 σ s t k) 12 k (0 : Int32)) o = σ o
    rw [pr_up_ne (by omega), ih]

noncomputable def m_fs_fl28 (σ : pr_I) (s : Int32) (t : Int32) : Nat → pr_I → Int32 → pr_I × Int32
  | 0, σ1, _ => (σ1, 0)
  | j + 1, σ1, x3 => (if (m_me_r σ1 s t) = 0 then ((m_me σ1 s t), x3) else (m_fs_fl28 σ s t j (m_pu (m_me σ1 s t) s t) (x3 + (m_pu_r (m_me σ1 s t) s t))))
def m_fs_ok28 (σ : pr_I) (s : Int32) (t : Int32) : Nat → pr_I → Int32 → Prop
  | 0, _, _ => False
  | j + 1, σ1, x3 => ((m_me_ok σ1 s t) ∧ (if (m_me_r σ1 s t) = 0 then True else ((m_pu_ok (m_me σ1 s t) s t) ∧ (m_fs_ok28 σ s t j (m_pu (m_me σ1 s t) s t) (x3 + (m_pu_r (m_me σ1 s t) s t))))))
theorem fr_m_fs_fl28 {σ : pr_I} {s : Int32} {t : Int32} {o : Nat} (hms : ∀ m ∈ ([12, 13, 14, 15] : List Nat), o ≠ m) : ∀ {j : Nat} {σ1 : pr_I} {x3 : Int32}, (m_fs_fl28 σ s t j σ1 x3).1 o = σ1 o := by
  simp only [List.mem_cons, List.not_mem_nil, or_false, forall_eq_or_imp, forall_eq] at hms
  intro j
  induction j with
  | zero => intro _ _; rfl
  | succ j ih =>
    intro σ1 x3
    show ((if (m_me_r σ1 s t) = 0 then ((m_me σ1 s t), x3) else (m_fs_fl28 σ s t j (m_pu (m_me σ1 s t) s t) (x3 + (m_pu_r (m_me σ1 s t) s t))))).1 o = σ1 o
    by_cases c_34 : (m_me_r σ1 s t) = 0
    · refine (congrFun (congrArg (fun z : pr_I × Int32 => z.1) (if_pos c_34)) o).trans ?_
      show (m_me σ1 s t) o = σ1 o
      rw [fr_m_me (by simp only [List.mem_cons, List.not_mem_nil, or_false, forall_eq_or_imp, forall_eq]; omega)]
    · refine (congrFun (congrArg (fun z : pr_I × Int32 => z.1) (if_neg c_34)) o).trans ?_
      rw [ih, fr_m_pu (by simp only [List.mem_cons, List.not_mem_nil, or_false, forall_eq_or_imp, forall_eq]; omega), fr_m_me (by simp only [List.mem_cons, List.not_mem_nil, or_false, forall_eq_or_imp, forall_eq]; omega)]

noncomputable def m_fs_r (σ : pr_I) (s : Int32) (t : Int32) : Int32 := ((m_fs_fl28 σ s t (sl 24001) (m_fs_it2 σ s t (mln σ)) (nI 0)).2)
noncomputable def m_fs (σ : pr_I) (s : Int32) (t : Int32) : pr_I := (m_fs_fl28 σ s t (sl 24001) (m_fs_it2 σ s t (mln σ)) (nI 0)).1
set_option maxRecDepth 100000 in
set_option maxHeartbeats 400000 in
theorem c_m_fs {g : pr_C} {l : Launch} (hl : l.stackTraces = false) {T : pr_T} {I : pr_I} {L : pr_L} {m : Nat} {σ : pr_I} {s : Int32} {t : Int32} (hm : pr_Mo T m) (hI : mI σ) (hs : vp_in s 12) (ht : vp_in t 12) (hok : m_fs_ok28 σ s t (sl 24001) (m_fs_it2 σ s t (mln σ)) (nI 0)) : pr_M g l 6 0 0 mX8_flows [.ref m, .int s, .int t] T (rg_put I m 16 σ) L (pr_R (some (.int (m_fs_r σ s t))) T (rg_put I m 16 (m_fs σ s t)) L) pr_no := by
  refine pr_ofG (by decide) rfl hl (Nat.le_of_ble_eq_true rfl) (fun X hA hX hXn hXt => ?_)
  subst hX
  show pr_G g X mX8_flows.2.2.1 _ 0 0 0 [.ref m, .int s, .int t, .null] [] T (rg_put I m 16 σ) L
  have hn5 := mI_n5 hI
  have hr4 := mI_nr4 hI
  have hl24 := mI_nl24 hI
  have hn12 := mI_nn12 hI
  have hsl24001 := sl_eq 24001
  refine pr_iconst hA (nI 0) dX8_flows_0 (by decide) ?_
  refine pr_istore_n (ls' := [_, _, _, _]) hA dX8_flows_1 (by decide) rfl ?_
  have lp2 : ∀ (j k : Nat), (mln σ) - k = j → k ≤ (mln σ) → pr_G g X mX8_flows.2.2.1 (pr_MQ g X (pr_R (some (.int (m_fs_r σ s t))) T (rg_put I m 16 (m_fs σ s t)) L) pr_no 0 0) 0 0 2 [.ref m, .int s, .int t, .int (nI k)] [] T (rg_put I m 16 (m_fs_it2 σ s t k)) L := by
    intro j
    induction j using Nat.strongRecOn with | ind j ih2 =>
    intro k hj2 hk2
    refine pr_iload_n hA dX8_flows_2 rfl ?_
    refine pr_aload_n hA dX8_flows_3 rfl ?_
    refine pr_getR hA f_X8_9 rfl (mo_k0 hm) (mo_f0_0 hm) dX8_flows_4 ?_
    refine pr_bipush hA (nI 7) dX8_flows_7 (by decide) ?_
    refine pr_ialdM (v := (nI (mln σ))) hA (mo_k1 hm) (by omega) (by omega) ((rg_val (by decide)).trans ((congrFun (fr_m_fs_it2 (by decide)) _).trans (mI_nl hI))) dX8_flows_9 ?_
    refine pr_icmp_ge hA 26 dX8_flows_10 (by decide) (fun c_10 => ?_) (fun c_10 => ?_)
    · have n_10 : (mln σ) ≤ k := (nI_leI (by omega) (by omega)).mp c_10
      have hex : (mln σ) = k := by omega
      subst hex
      refine pr_iconst hA (nI 0) dX8_flows_26 (by decide) ?_
      refine pr_istore_n (ls' := [_, _, _, _]) hA dX8_flows_27 (by decide) rfl ?_
      obtain ⟨R, hR0⟩ : ∃ R, m_fs_fl28 σ s t (sl 24001) (m_fs_it2 σ s t (mln σ)) (nI 0) = R := ⟨_, rfl⟩
      have hf : m_fs_r σ s t = R.2 := by simp only [m_fs_r, hR0]
      have hm0 : m_fs σ s t = R.1 := by simp only [m_fs, hR0]
      have lp28 : ∀ (j : Nat) (σ1 : pr_I) (x3 : Int32), mI σ1 → (∀ {o : Nat}, (∀ m ∈ ([12, 13, 14, 15] : List Nat), o ≠ m) → σ1 o = (m_fs_it2 σ s t (mln σ)) o) → m_fs_ok28 σ s t j σ1 x3 → m_fs_fl28 σ s t j σ1 x3 = R → pr_G g X mX8_flows.2.2.1 (pr_MQ g X (pr_R (some (.int (m_fs_r σ s t))) T (rg_put I m 16 (m_fs σ s t)) L) pr_no 0 0) 0 0 28 [.ref m, .int s, .int t, .int x3] [] T (rg_put I m 16 σ1) L := by
        intro j
        induction j with
        | zero => intro σ1 x3 hJ hσ1 hok hR; exact hok.elim
        | succ j ih =>
          intro σ1 x3 hJ hσ1 hok hR
          have jn5 := mI_n5 hJ
          have jr4 := mI_nr4 hJ
          have jl24 := mI_nl24 hJ
          have jn12 := mI_nn12 hJ
          refine pr_aload_n hA dX8_flows_28 rfl ?_
          refine pr_iload_n hA dX8_flows_29 rfl ?_
          refine pr_iload_n hA dX8_flows_30 rfl ?_
          have hk31 := hok
          simp only [m_fs_ok28] at hk31
          have hneed31 := hk31.1
          have hv31 : mI σ1 := hJ
          refine pr_callVi hA [.int s, .int t] (c_m_me (m := m) (σ := σ1) (s := s) (t := t) (pr_hl hA) hm hv31 hs ht hneed31.1 hneed31.2.1 hneed31.2.2) v_X8_377 (mo_k0 hm) (by decide) rfl rfl rfl (by decide) (Nat.zero_le _) (Nat.zero_le _) rfl (Nat.le_of_ble_eq_true rfl) dX8_flows_31 ?_
          refine pr_if_eq hA 49 dX8_flows_34 (by decide) (fun c_34 => ?_) (fun c_34 => ?_)
          · refine pr_iload_n hA dX8_flows_49 rfl ?_
            simp only [m_fs_fl28, if_pos c_34] at hR
            exact pr_ireturn hA rfl rfl (Nat.zero_le _) (Nat.zero_le _) dX8_flows_50 ⟨(by first | (rw [hf, ← hR]; done) | (rw [hf, ← hR]; simp only [if_pos c_34])), rfl, (by rw [hm0, ← hR]), rfl⟩
          · refine pr_iload_n hA dX8_flows_37 rfl ?_
            refine pr_aload_n hA dX8_flows_38 rfl ?_
            refine pr_iload_n hA dX8_flows_39 rfl ?_
            refine pr_iload_n hA dX8_flows_40 rfl ?_
            have hk41 := hok
            simp only [m_fs_ok28, if_neg c_34] at hk41
            have hneed41 := hk41.2.1
            have hv41 : mI (m_me σ1 s t) := (mI_m_me hJ hs)
            refine pr_callVi hA [.int s, .int t] (c_m_pu (m := m) (σ := (m_me σ1 s t)) (s := s) (t := t) (pr_hl hA) hm hv41 ht hneed41.1 hneed41.2) v_X8_380 (mo_k0 hm) (by decide) rfl rfl rfl (by decide) (Nat.zero_le _) (Nat.zero_le _) rfl (Nat.le_of_ble_eq_true rfl) dX8_flows_41 ?_
            refine pr_iadd hA dX8_flows_44 ?_
            refine pr_istore_n (ls' := [_, _, _, _]) hA dX8_flows_45 (by decide) rfl ?_
            refine pr_goto hA 28 dX8_flows_46 (by decide) ?_
            simp only [m_fs_fl28, if_neg c_34] at hR
            simp only [m_fs_ok28, if_neg c_34] at hok
            exact (ih (m_pu (m_me σ1 s t) s t) (x3 + (m_pu_r (m_me σ1 s t) s t)) (mI_m_pu (mI_m_me hJ hs) ht) (by intro o hms; simp only [List.mem_cons, List.not_mem_nil, or_false, forall_eq_or_imp, forall_eq] at hms; rw [fr_m_pu (by simp only [List.mem_cons, List.not_mem_nil, or_false, forall_eq_or_imp, forall_eq]; omega), fr_m_me (by simp only [List.mem_cons, List.not_mem_nil, or_false, forall_eq_or_imp, forall_eq]; omega)]; exact hσ1 (by simp only [List.mem_cons, List.not_mem_nil, or_false, forall_eq_or_imp, forall_eq]; omega)) hok.2.2 hR)
      exact (lp28 (sl 24001) (m_fs_it2 σ s t (mln σ)) (nI 0) (mI_k12 hI (fun h => fr_m_fs_it2 h)) (fun _ => rfl) hok hR0)
    · have n_10 : ¬ (mln σ) ≤ k := fun q => c_10 ((nI_leI (by omega) (by omega)).mpr q)
      refine pr_aload_n hA dX8_flows_13 rfl ?_
      refine pr_getR hA f_X8_44 rfl (mo_k0 hm) (mo_f0_19 hm) dX8_flows_14 ?_
      refine pr_iload_n hA dX8_flows_17 rfl ?_
      refine pr_iconst hA (0) dX8_flows_18 (by decide) ?_
      refine pr_iastM (I' := (rg_put I m 16 (pr_up (m_fs_it2 σ s t k) 12 k (0 : Int32)))) hA (mo_k12 hm) (by omega) (by omega) (rg_up (by decide)) dX8_flows_19 ?_
      refine pr_iinc (ls' := [_, _, _, _]) hA (nI (k + 1)) dX8_flows_20 (by decide) rfl (nI_inc _) rfl ?_
      refine pr_goto hA 2 dX8_flows_23 (by decide) ?_
      have hb := ih2 ((mln σ) - (k + 1)) (by omega) (k + 1) rfl (by omega)
      simp only [m_fs_it2] at hb
      exact hb
  exact (lp2 ((mln σ) - 0) 0 rfl (by omega))

theorem fr_m_fs {σ : pr_I} {s : Int32} {t : Int32} {o : Nat} (hms : ∀ m ∈ ([12, 13, 14, 15] : List Nat), o ≠ m) : m_fs σ s t o = σ o := by
  unfold m_fs
  simp only [List.mem_cons, List.not_mem_nil, or_false, forall_eq_or_imp, forall_eq] at hms
  rw [fr_m_fs_fl28 (by simp only [List.mem_cons, List.not_mem_nil, or_false, forall_eq_or_imp, forall_eq]; omega), fr_m_fs_it2 (by simp only [List.mem_cons, List.not_mem_nil, or_false, forall_eq_or_imp, forall_eq]; omega)]

theorem mI_m_fs_fl28 {σ : pr_I} {s t : Int32} (hs : vp_in s 12) (ht : vp_in t 12) : ∀ (j : Nat) (σ1 : pr_I) (x3 : Int32), mI σ1 → mI (m_fs_fl28 σ s t j σ1 x3).1
  | 0, _, _, h => h
  | j + 1, σ1, x3, h => by
    unfold m_fs_fl28
    exact p_ite (P := fun z : pr_I × Int32 => mI z.1) (mI_m_me h hs) (mI_m_fs_fl28 hs ht j _ _ (mI_m_pu (mI_m_me h hs) ht))
theorem mI_m_fs {σ : pr_I} {s t : Int32} (hI : mI σ) (hs : vp_in s 12) (ht : vp_in t 12) : mI (m_fs σ s t) := mI_m_fs_fl28 hs ht _ _ _ (mI_k12 hI (fun h => fr_m_fs_it2 h))
def m_fs_ok (σ : pr_I) (s t : Int32) : Prop := m_fs_ok28 σ s t (sl 24001) (m_fs_it2 σ s t (mln σ)) (nI 0)
noncomputable def mf_greatestFlow_r (σ : pr_I) (s : Nat) (t : Nat) : Int32 := (m_fs_r (m_lr (pr_up σ 0 6 (0 : Int32))) (nI s) (nI t))
noncomputable def mf_greatestFlow (σ : pr_I) (s : Nat) (t : Nat) : pr_I := (m_fs (m_lr (pr_up σ 0 6 (0 : Int32))) (nI s) (nI t))
set_option maxRecDepth 100000 in
set_option maxHeartbeats 400000 in
theorem c_mf_greatestFlow {g : pr_C} {l : Launch} (hl : l.stackTraces = false) {T : pr_T} {I : pr_I} {L : pr_L} {m : Nat} {σ : pr_I} {s : Nat} {t : Nat} (hm : pr_Mo T m) (hI : mI σ) (hs : s < mnn σ) (ht : t < mnn σ) (hst : s ≠ t) (hok : m_fs_ok (m_lr (pr_up σ 0 6 (0 : Int32))) (nI s) (nI t)) : pr_M g l 11 0 0 mX8_greatestFlow [.ref m, .int (nI s), .int (nI t)] T (rg_put I m 16 σ) L (pr_R (some (.int (mf_greatestFlow_r σ s t))) T (rg_put I m 16 (mf_greatestFlow σ s t)) L) pr_no := by
  refine pr_ofG (by decide) rfl hl (Nat.le_of_ble_eq_true rfl) (fun X hA hX hXn hXt => ?_)
  subst hX
  show pr_G g X mX8_greatestFlow.2.2.1 _ 0 0 0 [.ref m, .int (nI s), .int (nI t)] [] T (rg_put I m 16 σ) L
  have hn5 := mI_n5 hI
  have hr4 := mI_nr4 hI
  have hl24 := mI_nl24 hI
  have hn12 := mI_nn12 hI
  have hs0 : vp_in (nI s) 12 := nI_vin (by omega) (by decide)
  have ht0 : vp_in (nI t) 12 := nI_vin (by omega) (by decide)
  refine pr_aload_n hA dX8_greatestFlow_0 rfl ?_
  refine pr_iload_n hA dX8_greatestFlow_1 rfl ?_
  refine pr_iload_n hA dX8_greatestFlow_2 rfl ?_
  have hv3 : mI σ := hI
  refine pr_callVi hA [.int (nI s), .int (nI t)] (c_nn_ok (m := m) (σ := σ) (pr_hl hA) hm hv3 (by omega) (by omega) (by omega)) v_X8_337 (mo_k0 hm) (by decide) rfl rfl rfl (by decide) (Nat.zero_le _) (Nat.zero_le _) rfl (Nat.le_of_ble_eq_true rfl) dX8_greatestFlow_3 ?_
  refine pr_if_eq hA 11 dX8_greatestFlow_6 (by decide) (fun c_6 => ?_) (fun c_6 => ?_)
  · refine pr_aload_n hA dX8_greatestFlow_11 rfl ?_
    have hv12 : mI (pr_up σ 0 6 (0 : Int32)) := (mI.upn hI rfl)
    refine pr_callVv hA [] (c_m_lr (m := m) (σ := (pr_up σ 0 6 (0 : Int32))) (pr_hl hA) hm hv12) v_X8_383 (mo_k0 hm) (by decide) rfl rfl rfl (by decide) (Nat.zero_le _) (Nat.zero_le _) rfl (Nat.le_of_ble_eq_true rfl) dX8_greatestFlow_12 ?_
    refine pr_aload_n hA dX8_greatestFlow_15 rfl ?_
    refine pr_iload_n hA dX8_greatestFlow_16 rfl ?_
    refine pr_iload_n hA dX8_greatestFlow_17 rfl ?_
    have hv18 : mI (m_lr (pr_up σ 0 6 (0 : Int32))) := (mI_k11 (mI.upn hI rfl) (fun h => fr_m_lr h))
    refine pr_callVi hA [.int (nI s), .int (nI t)] (c_m_fs (m := m) (σ := (m_lr (pr_up σ 0 6 (0 : Int32)))) (s := (nI s)) (t := (nI t)) (pr_hl hA) hm hv18 hs0 ht0 hok) v_X8_386 (mo_k0 hm) (by decide) rfl rfl rfl (by decide) (Nat.zero_le _) (Nat.zero_le _) rfl (Nat.le_of_ble_eq_true rfl) dX8_greatestFlow_18 ?_
    exact pr_ireturn hA rfl rfl (Nat.zero_le _) (Nat.zero_le _) dX8_greatestFlow_21 ⟨rfl, rfl, rfl, rfl⟩
  · exact (c_6 (by decide)).elim

theorem fr_mf_greatestFlow {σ : pr_I} {s : Nat} {t : Nat} {o : Nat} (hms : ∀ m ∈ ([0, 11, 12, 13, 14, 15] : List Nat), o ≠ m) : mf_greatestFlow σ s t o = σ o := by
  unfold mf_greatestFlow
  simp only [List.mem_cons, List.not_mem_nil, or_false, forall_eq_or_imp, forall_eq] at hms
  rw [fr_m_fs (by simp only [List.mem_cons, List.not_mem_nil, or_false, forall_eq_or_imp, forall_eq]; omega), fr_m_lr (by simp only [List.mem_cons, List.not_mem_nil, or_false, forall_eq_or_imp, forall_eq]; omega), pr_up_ne (by omega)]

noncomputable def mf_smallestCut_it28 (σ : pr_I) (s : Nat) (t : Nat) : Nat → Int32
  | 0 => (0 : Int32)
  | k + 1 => ((mf_smallestCut_it28 σ s t k) ||| (if (m_fs_r (m_lr (pr_up σ 0 6 (0 : Int32))) (nI s) (nI t)) < 0 then (0 : Int32) else (if (σ 1 (96 + 7 * k + 5)) = (1 : Int32) then (if ((m_fs (m_lr (pr_up σ 0 6 (0 : Int32))) (nI s) (nI t)) 15 ((σ 1 (96 + 7 * k + 0)).toNatClampNeg)) = 0 then (0 : Int32) else (if ((m_fs (m_lr (pr_up σ 0 6 (0 : Int32))) (nI s) (nI t)) 15 ((σ 1 (96 + 7 * k + 1)).toNatClampNeg)) = 0 then ((1 : Int32) <<< ((nI k) &&& 31)) else (0 : Int32))) else (0 : Int32))))
noncomputable def mf_smallestCut_r (σ : pr_I) (s : Nat) (t : Nat) : Int32 := (mf_smallestCut_it28 σ s t (mln σ))
noncomputable def mf_smallestCut (σ : pr_I) (s : Nat) (t : Nat) : pr_I := (m_fs (m_lr (pr_up σ 0 6 (0 : Int32))) (nI s) (nI t))
set_option maxRecDepth 100000 in
set_option maxHeartbeats 400000 in
theorem c_mf_smallestCut {g : pr_C} {l : Launch} (hl : l.stackTraces = false) {T : pr_T} {I : pr_I} {L : pr_L} {m : Nat} {σ : pr_I} {s : Nat} {t : Nat} (hm : pr_Mo T m) (hI : mI σ) (hs : s < mnn σ) (ht : t < mnn σ) (hst : s ≠ t) (hok : m_fs_ok (m_lr (pr_up σ 0 6 (0 : Int32))) (nI s) (nI t)) : pr_M g l 11 0 0 mX8_smallestCut [.ref m, .int (nI s), .int (nI t)] T (rg_put I m 16 σ) L (pr_R (some (.int (mf_smallestCut_r σ s t))) T (rg_put I m 16 (mf_smallestCut σ s t)) L) pr_no := by
  refine pr_ofG (by decide) rfl hl (Nat.le_of_ble_eq_true rfl) (fun X hA hX hXn hXt => ?_)
  subst hX
  show pr_G g X mX8_smallestCut.2.2.1 _ 0 0 0 [.ref m, .int (nI s), .int (nI t), .null, .null, .null] [] T (rg_put I m 16 σ) L
  have hn5 := mI_n5 hI
  have hr4 := mI_nr4 hI
  have hl24 := mI_nl24 hI
  have hn12 := mI_nn12 hI
  have hs0 : vp_in (nI s) 12 := nI_vin (by omega) (by decide)
  have ht0 : vp_in (nI t) 12 := nI_vin (by omega) (by decide)
  refine pr_aload_n hA dX8_smallestCut_0 rfl ?_
  refine pr_iload_n hA dX8_smallestCut_1 rfl ?_
  refine pr_iload_n hA dX8_smallestCut_2 rfl ?_
  have hv3 : mI σ := hI
  refine pr_callVi hA [.int (nI s), .int (nI t)] (c_nn_ok (m := m) (σ := σ) (pr_hl hA) hm hv3 (by omega) (by omega) (by omega)) v_X8_337 (mo_k0 hm) (by decide) rfl rfl rfl (by decide) (Nat.zero_le _) (Nat.zero_le _) rfl (Nat.le_of_ble_eq_true rfl) dX8_smallestCut_3 ?_
  refine pr_if_eq hA 11 dX8_smallestCut_6 (by decide) (fun c_6 => ?_) (fun c_6 => ?_)
  · refine pr_aload_n hA dX8_smallestCut_11 rfl ?_
    have hv12 : mI (pr_up σ 0 6 (0 : Int32)) := (mI.upn hI rfl)
    refine pr_callVv hA [] (c_m_lr (m := m) (σ := (pr_up σ 0 6 (0 : Int32))) (pr_hl hA) hm hv12) v_X8_383 (mo_k0 hm) (by decide) rfl rfl rfl (by decide) (Nat.zero_le _) (Nat.zero_le _) rfl (Nat.le_of_ble_eq_true rfl) dX8_smallestCut_12 ?_
    refine pr_aload_n hA dX8_smallestCut_15 rfl ?_
    refine pr_iload_n hA dX8_smallestCut_16 rfl ?_
    refine pr_iload_n hA dX8_smallestCut_17 rfl ?_
    have hv18 : mI (m_lr (pr_up σ 0 6 (0 : Int32))) := (mI_k11 (mI.upn hI rfl) (fun h => fr_m_lr h))
    refine pr_callVi hA [.int (nI s), .int (nI t)] (c_m_fs (m := m) (σ := (m_lr (pr_up σ 0 6 (0 : Int32)))) (s := (nI s)) (t := (nI t)) (pr_hl hA) hm hv18 hs0 ht0 hok) v_X8_386 (mo_k0 hm) (by decide) rfl rfl rfl (by decide) (Nat.zero_le _) (Nat.zero_le _) rfl (Nat.le_of_ble_eq_true rfl) dX8_smallestCut_18 ?_
    refine pr_istore_n (ls' := [_, _, _, _, _, _]) hA dX8_smallestCut_21 (by decide) rfl ?_
    refine pr_iconst hA (0) dX8_smallestCut_22 (by decide) ?_
    refine pr_istore (ls' := [_, _, _, _, _, _]) hA dX8_smallestCut_23 (by decide) rfl ?_
    refine pr_iconst hA (nI 0) dX8_smallestCut_25 (by decide) ?_
    refine pr_istore (ls' := [_, _, _, _, _, _]) hA dX8_smallestCut_26 (by decide) rfl ?_
    have lp28 : ∀ (j k : Nat), (mln σ) - k = j → k ≤ (mln σ) → pr_G g X mX8_smallestCut.2.2.1 (pr_MQ g X (pr_R (some (.int (mf_smallestCut_r σ s t))) T (rg_put I m 16 (mf_smallestCut σ s t)) L) pr_no 0 0) 0 0 28 [.ref m, .int (nI s), .int (nI t), .int (m_fs_r (m_lr (pr_up σ 0 6 (0 : Int32))) (nI s) (nI t)), .int (mf_smallestCut_it28 σ s t k), .int (nI k)] [] T (rg_put I m 16 (m_fs (m_lr (pr_up σ 0 6 (0 : Int32))) (nI s) (nI t))) L := by
      intro j
      induction j using Nat.strongRecOn with | ind j ih28 =>
      intro k hj28 hk28
      refine pr_iload hA dX8_smallestCut_28 rfl ?_
      refine pr_aload_n hA dX8_smallestCut_30 rfl ?_
      refine pr_getR hA f_X8_9 rfl (mo_k0 hm) (mo_f0_0 hm) dX8_smallestCut_31 ?_
      refine pr_bipush hA (nI 7) dX8_smallestCut_34 (by decide) ?_
      refine pr_ialdM (v := (nI (mln σ))) hA (mo_k1 hm) (by omega) (by omega) ((rg_val (by decide)).trans ((congrFun (fr_m_fs (by decide)) _).trans ((congrFun (fr_m_lr (by decide)) _).trans ((pr_upv (by decide)).trans (mI_nl hI))))) dX8_smallestCut_36 ?_
      refine pr_icmp_ge hA 104 dX8_smallestCut_37 (by decide) (fun c_37 => ?_) (fun c_37 => ?_)
      · have n_37 : (mln σ) ≤ k := (nI_leI (by omega) (by omega)).mp c_37
        have hex : (mln σ) = k := by omega
        subst hex
        refine pr_iload hA dX8_smallestCut_104 rfl ?_
        exact pr_ireturn hA rfl rfl (Nat.zero_le _) (Nat.zero_le _) dX8_smallestCut_106 ⟨rfl, rfl, rfl, rfl⟩
      · have n_37 : ¬ (mln σ) ≤ k := fun q => c_37 ((nI_leI (by omega) (by omega)).mpr q)
        refine pr_iload hA dX8_smallestCut_40 rfl ?_
        refine pr_iload_n hA dX8_smallestCut_42 rfl ?_
        refine pr_join (c := (m_fs_r (m_lr (pr_up σ 0 6 (0 : Int32))) (nI s) (nI t)) < 0) (J := 95) (st := [.int (mf_smallestCut_it28 σ s t k)]) (0 : Int32) (if (σ 1 (96 + 7 * k + 5)) = (1 : Int32) then (if ((m_fs (m_lr (pr_up σ 0 6 (0 : Int32))) (nI s) (nI t)) 15 ((σ 1 (96 + 7 * k + 0)).toNatClampNeg)) = 0 then (0 : Int32) else (if ((m_fs (m_lr (pr_up σ 0 6 (0 : Int32))) (nI s) (nI t)) 15 ((σ 1 (96 + 7 * k + 1)).toNatClampNeg)) = 0 then ((1 : Int32) <<< ((nI k) &&& 31)) else (0 : Int32))) else (0 : Int32)) inferInstance (fun kt kf => ?_) ?_
        · refine pr_if_lt hA 94 dX8_smallestCut_43 (by decide) (fun c_43 => ?_) (fun c_43 => ?_)
          · refine pr_iconst hA (0) dX8_smallestCut_94 (by decide) ?_
            exact kt c_43
          · refine pr_aload_n hA dX8_smallestCut_46 rfl ?_
            refine pr_iload hA dX8_smallestCut_47 rfl ?_
            refine pr_iconst hA (5) dX8_smallestCut_49 (by decide) ?_
            refine pr_callVi hA [.int (nI k), .int (5 : Int32)] (c_m_link (m := m) (k := k) (c := 5) (σ := (m_fs (m_lr (pr_up σ 0 6 (0 : Int32))) (nI s) (nI t))) (pr_hl hA) hm (by omega) (by omega)) v_X8_204 (mo_k0 hm) (by decide) rfl rfl rfl (by decide) (Nat.zero_le _) (Nat.zero_le _) rfl (Nat.le_of_ble_eq_true rfl) dX8_smallestCut_50 ?_
            rw [show ((m_fs (m_lr (pr_up σ 0 6 (0 : Int32))) (nI s) (nI t)) 1 (96 + 7 * k + 5)) = (σ 1 (96 + 7 * k + 5)) from ((congrFun (fr_m_fs (by decide)) _).trans ((congrFun (fr_m_lr (by decide)) _).trans (pr_upv (by decide))))]
            refine pr_iconst hA (1) dX8_smallestCut_53 (by decide) ?_
            refine pr_join (c := (σ 1 (96 + 7 * k + 5)) = (1 : Int32)) (J := 95) (st := [.int (mf_smallestCut_it28 σ s t k)]) (if ((m_fs (m_lr (pr_up σ 0 6 (0 : Int32))) (nI s) (nI t)) 15 ((σ 1 (96 + 7 * k + 0)).toNatClampNeg)) = 0 then (0 : Int32) else (if ((m_fs (m_lr (pr_up σ 0 6 (0 : Int32))) (nI s) (nI t)) 15 ((σ 1 (96 + 7 * k + 1)).toNatClampNeg)) = 0 then ((1 : Int32) <<< ((nI k) &&& 31)) else (0 : Int32))) (0 : Int32) inferInstance (fun kt kf => ?_) ?_
            · refine pr_icmp_ne hA 94 dX8_smallestCut_54 (by decide) (fun c_54 => ?_) (fun c_54 => ?_)
              · refine pr_iconst hA (0) dX8_smallestCut_94 (by decide) ?_
                exact kf c_54
              · refine pr_aload_n hA dX8_smallestCut_57 rfl ?_
                refine pr_getR hA f_X8_53 rfl (mo_k0 hm) (mo_f0_22 hm) dX8_smallestCut_58 ?_
                refine pr_aload_n hA dX8_smallestCut_61 rfl ?_
                refine pr_iload hA dX8_smallestCut_62 rfl ?_
                refine pr_iconst hA (0) dX8_smallestCut_64 (by decide) ?_
                refine pr_callVi hA [.int (nI k), .int (0 : Int32)] (c_m_link (m := m) (k := k) (c := 0) (σ := (m_fs (m_lr (pr_up σ 0 6 (0 : Int32))) (nI s) (nI t))) (pr_hl hA) hm (by omega) (by omega)) v_X8_204 (mo_k0 hm) (by decide) rfl rfl rfl (by decide) (Nat.zero_le _) (Nat.zero_le _) rfl (Nat.le_of_ble_eq_true rfl) dX8_smallestCut_65 ?_
                rw [show ((m_fs (m_lr (pr_up σ 0 6 (0 : Int32))) (nI s) (nI t)) 1 (96 + 7 * k + 0)) = (σ 1 (96 + 7 * k + 0)) from ((congrFun (fr_m_fs (by decide)) _).trans ((congrFun (fr_m_lr (by decide)) _).trans (pr_upv (by decide))))]
                refine pr_zaldE (v := ((m_fs (m_lr (pr_up σ 0 6 (0 : Int32))) (nI s) (nI t)) 15 ((σ 1 (96 + 7 * k + 0)).toNatClampNeg))) hA (mo_k15 hm) (mI_link hI (k := k) (c := 0) (by omega) (by decide) rfl) (rg_val (by decide)) dX8_smallestCut_68 ?_
                refine pr_join (c := ((m_fs (m_lr (pr_up σ 0 6 (0 : Int32))) (nI s) (nI t)) 15 ((σ 1 (96 + 7 * k + 0)).toNatClampNeg)) = 0) (J := 95) (st := [.int (mf_smallestCut_it28 σ s t k)]) (0 : Int32) (if ((m_fs (m_lr (pr_up σ 0 6 (0 : Int32))) (nI s) (nI t)) 15 ((σ 1 (96 + 7 * k + 1)).toNatClampNeg)) = 0 then ((1 : Int32) <<< ((nI k) &&& 31)) else (0 : Int32)) inferInstance (fun kt kf => ?_) ?_
                · refine pr_if_eq hA 94 dX8_smallestCut_69 (by decide) (fun c_69 => ?_) (fun c_69 => ?_)
                  · refine pr_iconst hA (0) dX8_smallestCut_94 (by decide) ?_
                    exact kt c_69
                  · refine pr_aload_n hA dX8_smallestCut_72 rfl ?_
                    refine pr_getR hA f_X8_53 rfl (mo_k0 hm) (mo_f0_22 hm) dX8_smallestCut_73 ?_
                    refine pr_aload_n hA dX8_smallestCut_76 rfl ?_
                    refine pr_iload hA dX8_smallestCut_77 rfl ?_
                    refine pr_iconst hA (1) dX8_smallestCut_79 (by decide) ?_
                    refine pr_callVi hA [.int (nI k), .int (1 : Int32)] (c_m_link (m := m) (k := k) (c := 1) (σ := (m_fs (m_lr (pr_up σ 0 6 (0 : Int32))) (nI s) (nI t))) (pr_hl hA) hm (by omega) (by omega)) v_X8_204 (mo_k0 hm) (by decide) rfl rfl rfl (by decide) (Nat.zero_le _) (Nat.zero_le _) rfl (Nat.le_of_ble_eq_true rfl) dX8_smallestCut_80 ?_
                    rw [show ((m_fs (m_lr (pr_up σ 0 6 (0 : Int32))) (nI s) (nI t)) 1 (96 + 7 * k + 1)) = (σ 1 (96 + 7 * k + 1)) from ((congrFun (fr_m_fs (by decide)) _).trans ((congrFun (fr_m_lr (by decide)) _).trans (pr_upv (by decide))))]
                    refine pr_zaldE (v := ((m_fs (m_lr (pr_up σ 0 6 (0 : Int32))) (nI s) (nI t)) 15 ((σ 1 (96 + 7 * k + 1)).toNatClampNeg))) hA (mo_k15 hm) (mI_link hI (k := k) (c := 1) (by omega) (by decide) rfl) (rg_val (by decide)) dX8_smallestCut_83 ?_
                    refine pr_join (c := ((m_fs (m_lr (pr_up σ 0 6 (0 : Int32))) (nI s) (nI t)) 15 ((σ 1 (96 + 7 * k + 1)).toNatClampNeg)) = 0) (J := 95) (st := [.int (mf_smallestCut_it28 σ s t k)]) ((1 : Int32) <<< ((nI k) &&& 31)) (0 : Int32) inferInstance (fun kt kf => ?_) ?_
                    · refine pr_if_ne hA 94 dX8_smallestCut_84 (by decide) (fun c_84 => ?_) (fun c_84 => ?_)
                      · refine pr_iconst hA (0) dX8_smallestCut_94 (by decide) ?_
                        exact kf c_84
                      · refine pr_iconst hA (1) dX8_smallestCut_87 (by decide) ?_
                        refine pr_iload hA dX8_smallestCut_88 rfl ?_
                        refine pr_ishl hA dX8_smallestCut_90 ?_
                        refine pr_goto hA 95 dX8_smallestCut_91 (by decide) ?_
                        exact kt c_84
                    · exact kf c_69
                · exact kt c_54
            · exact kf c_43
        · refine pr_ior hA dX8_smallestCut_95 ?_
          refine pr_istore (ls' := [_, _, _, _, _, _]) hA dX8_smallestCut_96 (by decide) rfl ?_
          refine pr_iinc (ls' := [_, _, _, _, _, _]) hA (nI (k + 1)) dX8_smallestCut_98 (by decide) rfl (nI_inc _) rfl ?_
          refine pr_goto hA 28 dX8_smallestCut_101 (by decide) ?_
          have hb := ih28 ((mln σ) - (k + 1)) (by omega) (k + 1) rfl (by omega)
          simp only [mf_smallestCut_it28] at hb
          exact hb
    exact (lp28 ((mln σ) - 0) 0 rfl (by omega))
  · exact (c_6 (by decide)).elim

theorem fr_mf_smallestCut {σ : pr_I} {s : Nat} {t : Nat} {o : Nat} (hms : ∀ m ∈ ([0, 11, 12, 13, 14, 15] : List Nat), o ≠ m) : mf_smallestCut σ s t o = σ o := by
  unfold mf_smallestCut
  simp only [List.mem_cons, List.not_mem_nil, or_false, forall_eq_or_imp, forall_eq] at hms
  rw [fr_m_fs (by simp only [List.mem_cons, List.not_mem_nil, or_false, forall_eq_or_imp, forall_eq]; omega), fr_m_lr (by simp only [List.mem_cons, List.not_mem_nil, or_false, forall_eq_or_imp, forall_eq]; omega), pr_up_ne (by omega)]

noncomputable def mf_disjointPaths_it22 (σ : pr_I) (s : Nat) (t : Nat) (u : Int32) : Nat → pr_I
  | 0 => (pr_up σ 0 6 (0 : Int32))
  | k + 1 => (pr_up (mf_disjointPaths_it22 σ s t u k) 11 k (if (m_has_r (mf_disjointPaths_it22 σ s t u k) (m_lw_r (pr_up σ 0 6 (0 : Int32)) (mtn σ) (mln σ) u) (nI k)) = 0 then (0 : Int32) else (1 : Int32)))
theorem fr_mf_disjointPaths_it22 {σ : pr_I} {s : Nat} {t : Nat} {u : Int32} {o : Nat} (hms : ∀ m ∈ ([11] : List Nat), o ≠ m) : ∀ {k : Nat}, (mf_disjointPaths_it22 σ s t u k) o = (pr_up σ 0 6 (0 : Int32)) o := by
  simp only [List.mem_cons, List.not_mem_nil, or_false, forall_eq_or_imp, forall_eq] at hms
  intro k
  induction k with
  | zero =>
    show (pr_up σ 0 6 (0 : Int32)) o = (pr_up σ 0 6 (0 : Int32)) o
    rfl
  | succ k ih =>
    show (pr_up (mf_disjointPaths_it22 σ s t u k) 11 k (if (m_has_r (mf_disjointPaths_it22 σ s t u k) (m_lw_r (pr_up σ 0 6 (0 : Int32)) (mtn σ) (mln σ) u) (nI k)) = 0 then (0 : Int32) else (1 : Int32))) o = (pr_up σ 0 6 (0 : Int32)) o
    rw [pr_up_ne (by omega), ih]

noncomputable def mf_disjointPaths_r (σ : pr_I) (s : Nat) (t : Nat) (u : Int32) : Int32 := (m_fs_r (mf_disjointPaths_it22 σ s t u (mln σ)) (nI s) (nI t))
noncomputable def mf_disjointPaths (σ : pr_I) (s : Nat) (t : Nat) (u : Int32) : pr_I := (m_fs (mf_disjointPaths_it22 σ s t u (mln σ)) (nI s) (nI t))
set_option maxRecDepth 100000 in
set_option maxHeartbeats 400000 in
theorem c_mf_disjointPaths {g : pr_C} {l : Launch} (hl : l.stackTraces = false) {T : pr_T} {I : pr_I} {L : pr_L} {m : Nat} {σ : pr_I} {s : Nat} {t : Nat} {u : Int32} (hm : pr_Mo T m) (hI : mI σ) (hs : s < mnn σ) (ht : t < mnn σ) (hst : s ≠ t) (hu1 : 0 ≤ u) (hu2 : u ≤ 1000) (hok : m_fs_ok (mf_disjointPaths_it22 σ s t u (mln σ)) (nI s) (nI t)) : pr_M g l 11 0 0 mX8_disjointPaths [.ref m, .int (nI s), .int (nI t), .int u] T (rg_put I m 16 σ) L (pr_R (some (.int (mf_disjointPaths_r σ s t u))) T (rg_put I m 16 (mf_disjointPaths σ s t u)) L) pr_no := by
  refine pr_ofG (by decide) rfl hl (Nat.le_of_ble_eq_true rfl) (fun X hA hX hXn hXt => ?_)
  subst hX
  show pr_G g X mX8_disjointPaths.2.2.1 _ 0 0 0 [.ref m, .int (nI s), .int (nI t), .int u, .null, .null] [] T (rg_put I m 16 σ) L
  have hn5 := mI_n5 hI
  have hr4 := mI_nr4 hI
  have hl24 := mI_nl24 hI
  have hn12 := mI_nn12 hI
  have hs0 : vp_in (nI s) 12 := nI_vin (by omega) (by decide)
  have ht0 : vp_in (nI t) 12 := nI_vin (by omega) (by decide)
  refine pr_aload_n hA dX8_disjointPaths_0 rfl ?_
  refine pr_iload_n hA dX8_disjointPaths_1 rfl ?_
  refine pr_iload_n hA dX8_disjointPaths_2 rfl ?_
  refine pr_iload_n hA dX8_disjointPaths_3 rfl ?_
  have hv4 : mI σ := hI
  refine pr_callVi hA [.int (nI s), .int (nI t), .int u] (c_ne_ok (m := m) (σ := σ) (pr_hl hA) hm hv4 (by omega) (by omega) (by omega) hu1 hu2) v_X8_362 (mo_k0 hm) (by decide) rfl rfl rfl (by decide) (Nat.zero_le _) (Nat.zero_le _) rfl (Nat.le_of_ble_eq_true rfl) dX8_disjointPaths_4 ?_
  refine pr_if_eq hA 12 dX8_disjointPaths_7 (by decide) (fun c_7 => ?_) (fun c_7 => ?_)
  · refine pr_aload_n hA dX8_disjointPaths_12 rfl ?_
    refine pr_iload_n hA dX8_disjointPaths_13 rfl ?_
    refine pr_callVi hA [.int u] (c_m_lw (m := m) (σ := (pr_up σ 0 6 (0 : Int32))) (n := (mtn σ)) (nl := (mln σ)) (u := u) (pr_hl hA) hm ((pr_upv (by decide)).trans (mI_n hI)) (mI_n5 hI) ((pr_upv (by decide)).trans (mI_nl hI)) (mI_nl24 hI)) v_X8_365 (mo_k0 hm) (by decide) rfl rfl rfl (by decide) (Nat.zero_le _) (Nat.zero_le _) rfl (Nat.le_of_ble_eq_true rfl) dX8_disjointPaths_14 ?_
    refine pr_istore (ls' := [_, _, _, _, _, _]) hA dX8_disjointPaths_17 (by decide) rfl ?_
    refine pr_iconst hA (nI 0) dX8_disjointPaths_19 (by decide) ?_
    refine pr_istore (ls' := [_, _, _, _, _, _]) hA dX8_disjointPaths_20 (by decide) rfl ?_
    have lp22 : ∀ (j k : Nat), (mln σ) - k = j → k ≤ (mln σ) → pr_G g X mX8_disjointPaths.2.2.1 (pr_MQ g X (pr_R (some (.int (mf_disjointPaths_r σ s t u))) T (rg_put I m 16 (mf_disjointPaths σ s t u)) L) pr_no 0 0) 0 0 22 [.ref m, .int (nI s), .int (nI t), .int u, .int (m_lw_r (pr_up σ 0 6 (0 : Int32)) (mtn σ) (mln σ) u), .int (nI k)] [] T (rg_put I m 16 (mf_disjointPaths_it22 σ s t u k)) L := by
      intro j
      induction j using Nat.strongRecOn with | ind j ih22 =>
      intro k hj22 hk22
      refine pr_iload hA dX8_disjointPaths_22 rfl ?_
      refine pr_aload_n hA dX8_disjointPaths_24 rfl ?_
      refine pr_getR hA f_X8_9 rfl (mo_k0 hm) (mo_f0_0 hm) dX8_disjointPaths_25 ?_
      refine pr_bipush hA (nI 7) dX8_disjointPaths_28 (by decide) ?_
      refine pr_ialdM (v := (nI (mln σ))) hA (mo_k1 hm) (by omega) (by omega) ((rg_val (by decide)).trans ((congrFun (fr_mf_disjointPaths_it22 (by decide)) _).trans ((pr_upv (by decide)).trans (mI_nl hI)))) dX8_disjointPaths_30 ?_
      refine pr_icmp_ge hA 62 dX8_disjointPaths_31 (by decide) (fun c_31 => ?_) (fun c_31 => ?_)
      · have n_31 : (mln σ) ≤ k := (nI_leI (by omega) (by omega)).mp c_31
        have hex : (mln σ) = k := by omega
        subst hex
        refine pr_aload_n hA dX8_disjointPaths_62 rfl ?_
        refine pr_iload_n hA dX8_disjointPaths_63 rfl ?_
        refine pr_iload_n hA dX8_disjointPaths_64 rfl ?_
        have hv65 : mI (mf_disjointPaths_it22 σ s t u (mln σ)) := (mI_k11 (mI.upn hI rfl) (fun h => fr_mf_disjointPaths_it22 h))
        refine pr_callVi hA [.int (nI s), .int (nI t)] (c_m_fs (m := m) (σ := (mf_disjointPaths_it22 σ s t u (mln σ))) (s := (nI s)) (t := (nI t)) (pr_hl hA) hm hv65 hs0 ht0 hok) v_X8_386 (mo_k0 hm) (by decide) rfl rfl rfl (by decide) (Nat.zero_le _) (Nat.zero_le _) rfl (Nat.le_of_ble_eq_true rfl) dX8_disjointPaths_65 ?_
        exact pr_ireturn hA rfl rfl (Nat.zero_le _) (Nat.zero_le _) dX8_disjointPaths_68 ⟨rfl, rfl, rfl, rfl⟩
      · have n_31 : ¬ (mln σ) ≤ k := fun q => c_31 ((nI_leI (by omega) (by omega)).mpr q)
        refine pr_aload_n hA dX8_disjointPaths_34 rfl ?_
        refine pr_getR hA f_X8_41 rfl (mo_k0 hm) (mo_f0_18 hm) dX8_disjointPaths_35 ?_
        refine pr_iload hA dX8_disjointPaths_38 rfl ?_
        refine pr_iload hA dX8_disjointPaths_40 rfl ?_
        refine pr_iload hA dX8_disjointPaths_42 rfl ?_
        refine pr_callSi hA [.int (m_lw_r (pr_up σ 0 6 (0 : Int32)) (mtn σ) (mln σ) u), .int (nI k)] (c_m_has (m := m) (σ := (mf_disjointPaths_it22 σ s t u k)) (s := (m_lw_r (pr_up σ 0 6 (0 : Int32)) (mtn σ) (mln σ) u)) (k := (nI k)) (pr_hl hA) hm) s_X8_213 rfl (by decide) (Nat.zero_le _) (Nat.zero_le _) rfl (Nat.le_of_ble_eq_true rfl) dX8_disjointPaths_44 ?_
        refine pr_join (c := (m_has_r (mf_disjointPaths_it22 σ s t u k) (m_lw_r (pr_up σ 0 6 (0 : Int32)) (mtn σ) (mln σ) u) (nI k)) = 0) (J := 55) (st := [.int (nI k), .ref (m + 11)]) (0 : Int32) (1 : Int32) inferInstance (fun kt kf => ?_) ?_
        · refine pr_if_eq hA 54 dX8_disjointPaths_47 (by decide) (fun c_47 => ?_) (fun c_47 => ?_)
          · refine pr_iconst hA (0) dX8_disjointPaths_54 (by decide) ?_
            exact kt c_47
          · refine pr_iconst hA (1) dX8_disjointPaths_50 (by decide) ?_
            refine pr_goto hA 55 dX8_disjointPaths_51 (by decide) ?_
            exact kf c_47
        · refine pr_iastM (I' := (rg_put I m 16 (pr_up (mf_disjointPaths_it22 σ s t u k) 11 k (if (m_has_r (mf_disjointPaths_it22 σ s t u k) (m_lw_r (pr_up σ 0 6 (0 : Int32)) (mtn σ) (mln σ) u) (nI k)) = 0 then (0 : Int32) else (1 : Int32))))) hA (mo_k11 hm) (by omega) (by omega) (rg_up (by decide)) dX8_disjointPaths_55 ?_
          refine pr_iinc (ls' := [_, _, _, _, _, _]) hA (nI (k + 1)) dX8_disjointPaths_56 (by decide) rfl (nI_inc _) rfl ?_
          refine pr_goto hA 22 dX8_disjointPaths_59 (by decide) ?_
          have hb := ih22 ((mln σ) - (k + 1)) (by omega) (k + 1) rfl (by omega)
          simp only [mf_disjointPaths_it22] at hb
          exact hb
    exact (lp22 ((mln σ) - 0) 0 rfl (by omega))
  · exact (c_7 (by decide)).elim

theorem fr_mf_disjointPaths {σ : pr_I} {s : Nat} {t : Nat} {u : Int32} {o : Nat} (hms : ∀ m ∈ ([0, 11, 12, 13, 14, 15] : List Nat), o ≠ m) : mf_disjointPaths σ s t u o = σ o := by
  unfold mf_disjointPaths
  simp only [List.mem_cons, List.not_mem_nil, or_false, forall_eq_or_imp, forall_eq] at hms
  rw [fr_m_fs (by simp only [List.mem_cons, List.not_mem_nil, or_false, forall_eq_or_imp, forall_eq]; omega), fr_mf_disjointPaths_it22 (by simp only [List.mem_cons, List.not_mem_nil, or_false, forall_eq_or_imp, forall_eq]; omega), pr_up_ne (by omega)]

