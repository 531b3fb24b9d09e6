/-! STRINGS: the law's own and those that were made -/
def jlit (k : Nat) : List Nat := (([[104, 111, 108, 100, 32], [59, 114, 101, 116, 114, 121, 32], [59, 116, 114, 105, 101, 115, 32], [59, 101, 120, 112, 105, 114, 101, 32], [59, 110, 111, 100, 101, 32], [59, 108, 105, 110, 107, 32]] : List (List Nat))).getD k []
theorem jlit_len : ∀ k, k < 6 → pr_llen.getD k 0 = (jlit k).length := by decide
theorem jlit_ch : ∀ k, k < 6 → ∀ j, j < (jlit k).length → pr_lch k j = nI ((jlit k).getD j 0) := by decide
theorem jlit_lt : ∀ k, k < 6 → ∀ x ∈ jlit k, x < 128 := by decide
theorem jlit_8 : ∀ k, k < 6 → (jlit k).length ≤ 8 := by decide
/-- a made string -/
def jO (s u : Nat) (tx : List Nat) (T : pr_T) (I : pr_I) : Prop := T.2.1 s = (9, 0) ∧ T.2.2 s 0 = some u ∧ I s 1 = 0 ∧ T.2.1 u = (22, tx.length) ∧ (∀ j, j < tx.length → I u j = nI (tx.getD j 0)) ∧ (∀ x ∈ tx, x < 128) ∧ tx.length ≤ 700
theorem jmem {tx : List Nat} {j : Nat} (h : j < tx.length) : tx.getD j 0 ∈ tx := by
  rw [List.getD_eq_getElem?_getD, List.getElem?_eq_getElem h]
  exact List.getElem_mem h
theorem jO.bt {s u : Nat} {tx : List Nat} {T : pr_T} {I : pr_I} (h : jO s u tx T I) : jBt tx.length (I u) := fun j hj => by
  rw [h.2.2.2.2.1 j hj]
  exact jbf _ (h.2.2.2.2.2.1 _ (jmem hj))
theorem jfo_v : Cond.fieldLink RJ0 9 (TJ0 0).1 (TJ0 0).2.1 (TJ0 0).2.2.1 ∈ pr_gw := kF_J0_9
theorem jfo_c : Cond.fieldLink RJ0 15 (TJ0 1).1 (TJ0 1).2.1 (TJ0 1).2.2.1 ∈ pr_gw := kF_J0_15
section PRT
variable {g : pr_C} {X : pr_X} {M : pr_MD} {d mc ms : Nat} {nL : Nat} {Q : State → Prop} {cs sl pc : Nat} {ls st : List Value} {T : pr_T} {I : pr_I} {L : pr_L}
theorem pr_callTl (hA : pr_Am g X M d mc ms) (hnL : nL = M.2.2.1) {index k n d' mc' ms' : Nat} {M' : pr_MD} {As stk : List Value} {Φ : Option Value → pr_T → pr_I → pr_L → Prop}
    (hM : pr_M g (pr_launch X) d' mc' ms' M' (.ref (pr_ak g (k + 10)) :: As) T I L Φ pr_no) (hc : pr_cV M.1.cls index M' n) (hk : k < 6) (hq1 : "java/lang/String" = M'.1.cls) (hn : As.length = n) (hdd : d' + 1 ≤ d) (hcs : cs + mc' ≤ mc) (hsl : sl + ms' ≤ ms) (hstk : stk = As.reverse ++ .ref (pr_ak g (k + 10)) :: st) (hst : (st.map fun v => v.category).sum ≤ 8) (hd : decode M.2.1 pc = .ok (.invokevirtual index, 3))
    (kk : ∀ v T' I' L', Φ v T' I' L' → pr_G g X nL Q (cs + mc') (sl + ms') (pc + 3) ls (v.toList ++ st) T' I' L') : pr_G g X nL Q cs sl pc ls stk T I L := by
  subst hnL; subst hstk
  obtain ⟨p, l, e, R, s, m, args, below, meth, c⟩ := X
  intro H locs lsS hR hl hS
  obtain ⟨y', cc', maxL', ret', hh'⟩ := M'
  obtain ⟨⟨hc1, hc2, hc3, ⟨hc4, hc4b, hc4c⟩, hc5, hc6⟩, hc7, hc8⟩ := hc
  dsimp only at hc6 hc5 hc4 hc4b hc4c hq1
  subst hc6
  obtain ⟨hx, hbb, hml, hown, hts, hK, hSF, hlk, hnt, hzs, hret, hdf, hdl, hmc, hms⟩ := hA
  have hrv := vk_recv hSF.2.2.2.2.2.2.2.2.2.2.1 hk hS
  rw [hq1] at hrv
  have hcw := cwV (R := R) (s := s) (args := args) (own := M.1.cls) (index := index) (C := y'.cls) (y := y') (bytes := cc') (maxL := maxL') (ret := ret') (ws := Cond.code y' cc' maxL' ret' :: pr_gw) (ws' := pr_gw) (rm := pr_rm d' mc' ms') (mc := mc') (ms := ms') (Ts := pr_gw) n hts
    (pr_goodgw (fun w hw => by
      rcases List.mem_append.mp hw with h | h
      · simp only [List.mem_cons, List.not_mem_nil, or_false] at h
        rcases h with rfl | rfl | rfl | rfl
        · exact hc1
        · exact hc7
        · exact hc8
        · exact hc2
      · rcases List.mem_cons.mp h with rfl | h
        · exact hc3
        · exact h)) rfl rfl rfl ⟨rfl, hc4, hc4b, hc4c⟩ ⟨Nat.le_trans hdd hdf, by show 8 + (maxL' + 11) + 37 * d' ≤ R.locals; omega⟩
  refine pr_go (Ψ := pr_no) (vx_runV (As := As) (rest := st) ⟨hx, hbb, hml, hown, hts⟩ hM hcw ⟨pr_blind, hrv, fun U hU hW => ⟨rfl, pr_BB.at hR hK hSF hS hU hW⟩⟩ rfl hn hl.1 rfl (by show 2 * 0 + _ ≤ 8; omega) hd ⟨Nat.le_trans hcs hmc, Nat.le_trans hsl hms⟩) hl hS kk (fun _ _ _ _ h => h.elim)
/-- a string of either kind -/
def jS (g : pr_C) (s : Nat) (tx : List Nat) (T : pr_T) (I : pr_I) : Prop := (∃ k, k < 6 ∧ s = pr_ak g (k + 10) ∧ tx = jlit k) ∨ ∃ u, jO s u tx T I
theorem jS.lt {s : Nat} {tx : List Nat} (h : jS g s tx T I) : (∀ x ∈ tx, x < 128) ∧ tx.length ≤ 700 := by
  rcases h with ⟨k, hk, rfl, rfl⟩ | ⟨u, h⟩
  · exact ⟨jlit_lt k hk, Nat.le_trans (jlit_8 k hk) (by decide)⟩
  · exact ⟨h.2.2.2.2.2.1, h.2.2.2.2.2.2⟩
/-- a call on a string -/
theorem pr_callX (hA : pr_Am g X M d mc ms) (hnL : nL = M.2.2.1) {index s n d' mc' ms' : Nat} {tx : List Nat} {M' : pr_MD} {As stk : List Value} {Φ : Option Value → pr_T → pr_I → pr_L → Prop} (hS : jS g s tx T I)
    (hM : pr_M g (pr_launch X) d' mc' ms' M' (.ref s :: As) T I L Φ pr_no) (hc : pr_cV M.1.cls index M' n) (hq1 : RJ0 = M'.1.cls) (hn : As.length = n) (hdd : d' + 1 ≤ d) (hcs : cs + mc' ≤ mc) (hsl : sl + ms' ≤ ms) (hstk : stk = As.reverse ++ .ref s :: st) (hst : (st.map fun v => v.category).sum ≤ 8) (hd : decode M.2.1 pc = .ok (.invokevirtual index, 3))
    (kk : ∀ v T' I' L', Φ v T' I' L' → pr_G g X nL Q (cs + mc') (sl + ms') (pc + 3) ls (v.toList ++ st) T' I' L') : pr_G g X nL Q cs sl pc ls stk T I L := by
  rcases hS with ⟨k, hk, rfl, rfl⟩ | ⟨u, h⟩
  · exact pr_callTl hA hnL hM hc hk hq1 hn hdd hcs hsl hstk hst hd kk
  · exact pr_callV hA hnL hM hc h.1 (by decide) (q0 := (RJ0, TJ0, 4)) rfl hq1 hn hdd hcs hsl hstk hst hd kk (fun _ _ _ _ q => q.elim)
end PRT
set_option maxRecDepth 100000 in
set_option maxHeartbeats 400000 in
theorem c_jcd {g : pr_C} {l : Launch} (hl : l.stackTraces = false) {T : pr_T} {I : pr_I} {L : pr_L} {s : Nat} {tx : List Nat} (hS : jS g s tx T I) : pr_M g l 1 0 0 mJ0_coder_7d493 [.ref s] T I L (pr_R (some (.int 0)) T I L) pr_no := by
  refine pr_ofG (by decide) rfl hl (Nat.le_of_ble_eq_true rfl) (fun X hA hX hXn hXt => ?_)
  subst hX
  rcases hS with ⟨k, hk, rfl, rfl⟩ | ⟨u, h⟩
  · show pr_G g X mJ0_coder_7d493.2.2.1 _ 0 0 0 [.ref (pr_ak g (k + 10))] [] T I L
    refine pr_getsC hA kF_J0_38 dJ0_coder_7d493_0 ?_
    refine pr_if_eq hA 13 dJ0_coder_7d493_3 (by decide) (fun c_3 => absurd c_3 (by decide)) (fun _ => ?_)
    refine pr_aload_n hA dJ0_coder_7d493_6 rfl ?_
    refine pr_lgetc hA hk rfl dJ0_coder_7d493_7 ?_
    refine pr_goto hA 14 dJ0_coder_7d493_10 (by decide) ?_
    exact pr_ireturn hA rfl rfl (Nat.zero_le _) (Nat.zero_le _) dJ0_coder_7d493_14 ⟨rfl, rfl, rfl, rfl⟩
  · show pr_G g X mJ0_coder_7d493.2.2.1 _ 0 0 0 [.ref s] [] T I L
    refine pr_getsC hA kF_J0_38 dJ0_coder_7d493_0 ?_
    refine pr_if_eq hA 13 dJ0_coder_7d493_3 (by decide) (fun c_3 => absurd c_3 (by decide)) (fun _ => ?_)
    refine pr_aload_n hA dJ0_coder_7d493_6 rfl ?_
    refine pr_getJI (v := 0) hA jC9 (by decide) rfl jfo_c h.1 h.2.2.1 dJ0_coder_7d493_7 ?_
    refine pr_goto hA 14 dJ0_coder_7d493_10 (by decide) ?_
    exact pr_ireturn hA rfl rfl (Nat.zero_le _) (Nat.zero_le _) dJ0_coder_7d493_14 ⟨rfl, rfl, rfl, rfl⟩
set_option maxRecDepth 100000 in
set_option maxHeartbeats 400000 in
theorem c_jln {g : pr_C} {l : Launch} (hl : l.stackTraces = false) {T : pr_T} {I : pr_I} {L : pr_L} {s : Nat} {tx : List Nat} (hS : jS g s tx T I) : pr_M g l 2 0 0 mJ0_length_8abf5 [.ref s] T I L (pr_R (some (.int (nI tx.length))) T I L) pr_no := by
  refine pr_ofG (by decide) rfl hl (Nat.le_of_ble_eq_true rfl) (fun X hA hX hXn hXt => ?_)
  subst hX
  rcases hS with ⟨k, hk, rfl, rfl⟩ | ⟨u, h⟩
  · show pr_G g X mJ0_length_8abf5.2.2.1 _ 0 0 0 [.ref (pr_ak g (k + 10))] [] T I L
    refine pr_aload_n hA dJ0_length_8abf5_0 rfl ?_
    refine pr_lgetv hA hk rfl dJ0_length_8abf5_1 ?_
    refine pr_lalen hA hk dJ0_length_8abf5_4 ?_
    rw [jlit_len k hk]
    refine pr_aload_n hA dJ0_length_8abf5_5 rfl ?_
    refine pr_callX hA rfl (As := []) (n := 0) (Or.inl ⟨k, hk, rfl, rfl⟩) (c_jcd (pr_hl hA) (Or.inl ⟨k, hk, rfl, rfl⟩)) v_J0_335 rfl rfl (by decide) (Nat.zero_le _) (Nat.zero_le _) rfl (Nat.le_of_ble_eq_true rfl) dJ0_length_8abf5_6 (fun v9 T8 I8 L8 q9 => ?_)
    obtain ⟨rfl, e7, e8, e9⟩ := q9; obtain rfl := e7.symm; obtain rfl := e8.symm; obtain rfl := e9.symm
    show pr_G g X _ _ 0 0 9 _ (.int 0 :: _) T I L
    refine pr_ishr hA dJ0_length_8abf5_9 ?_
    refine pr_topE (z := nI (jlit k).length) (sb_shr0 _) ?_
    exact pr_ireturn hA rfl rfl (Nat.zero_le _) (Nat.zero_le _) dJ0_length_8abf5_10 ⟨rfl, rfl, rfl, rfl⟩
  · show pr_G g X mJ0_length_8abf5.2.2.1 _ 0 0 0 [.ref s] [] T I L
    refine pr_aload_n hA dJ0_length_8abf5_0 rfl ?_
    refine pr_getJR hA jC9 (by decide) rfl jfo_v h.1 h.2.1 dJ0_length_8abf5_1 ?_
    refine pr_alenB hA h.2.2.2.1 dJ0_length_8abf5_4 ?_
    refine pr_aload_n hA dJ0_length_8abf5_5 rfl ?_
    refine pr_callX hA rfl (As := []) (n := 0) (Or.inr ⟨u, h⟩) (c_jcd (pr_hl hA) (Or.inr ⟨u, h⟩)) v_J0_335 rfl rfl (by decide) (Nat.zero_le _) (Nat.zero_le _) rfl (Nat.le_of_ble_eq_true rfl) dJ0_length_8abf5_6 (fun v9 T8 I8 L8 q9 => ?_)
    obtain ⟨rfl, e7, e8, e9⟩ := q9; obtain rfl := e7.symm; obtain rfl := e8.symm; obtain rfl := e9.symm
    show pr_G g X _ _ 0 0 9 _ (.int 0 :: _) T I L
    refine pr_ishr hA dJ0_length_8abf5_9 ?_
    refine pr_topE (z := nI tx.length) (sb_shr0 _) ?_
    exact pr_ireturn hA rfl rfl (Nat.zero_le _) (Nat.zero_le _) dJ0_length_8abf5_10 ⟨rfl, rfl, rfl, rfl⟩
set_option maxRecDepth 100000 in
set_option maxHeartbeats 400000 in
theorem c_jlt {g : pr_C} {l : Launch} (hl : l.stackTraces = false) {T : pr_T} {I : pr_I} {L : pr_L} {s : Nat} {tx : List Nat} (hS : jS g s tx T I) : pr_M g l 1 0 0 mJ0_isLatin1_aae02 [.ref s] T I L (pr_R (some (.int 1)) T I L) pr_no := by
  refine pr_ofG (by decide) rfl hl (Nat.le_of_ble_eq_true rfl) (fun X hA hX hXn hXt => ?_)
  subst hX
  rcases hS with ⟨k, hk, rfl, rfl⟩ | ⟨u, h⟩
  · show pr_G g X mJ0_isLatin1_aae02.2.2.1 _ 0 0 0 [.ref (pr_ak g (k + 10))] [] T I L
    refine pr_getsC hA kF_J0_38 dJ0_isLatin1_aae02_0 ?_
    refine pr_if_eq hA 17 dJ0_isLatin1_aae02_3 (by decide) (fun c_3 => absurd c_3 (by decide)) (fun _ => ?_)
    refine pr_aload_n hA dJ0_isLatin1_aae02_6 rfl ?_
    refine pr_lgetc hA hk rfl dJ0_isLatin1_aae02_7 ?_
    refine pr_if_ne hA 17 dJ0_isLatin1_aae02_10 (by decide) (fun c_10 => absurd rfl c_10) (fun _ => ?_)
    refine pr_iconst hA (1) dJ0_isLatin1_aae02_13 (by decide) ?_
    refine pr_goto hA 18 dJ0_isLatin1_aae02_14 (by decide) ?_
    exact pr_ireturn hA rfl rfl (Nat.zero_le _) (Nat.zero_le _) dJ0_isLatin1_aae02_18 ⟨rfl, rfl, rfl, rfl⟩
  · show pr_G g X mJ0_isLatin1_aae02.2.2.1 _ 0 0 0 [.ref s] [] T I L
    refine pr_getsC hA kF_J0_38 dJ0_isLatin1_aae02_0 ?_
    refine pr_if_eq hA 17 dJ0_isLatin1_aae02_3 (by decide) (fun c_3 => absurd c_3 (by decide)) (fun _ => ?_)
    refine pr_aload_n hA dJ0_isLatin1_aae02_6 rfl ?_
    refine pr_getJI (v := 0) hA jC9 (by decide) rfl jfo_c h.1 h.2.2.1 dJ0_isLatin1_aae02_7 ?_
    refine pr_if_ne hA 17 dJ0_isLatin1_aae02_10 (by decide) (fun c_10 => absurd rfl c_10) (fun _ => ?_)
    refine pr_iconst hA (1) dJ0_isLatin1_aae02_13 (by decide) ?_
    refine pr_goto hA 18 dJ0_isLatin1_aae02_14 (by decide) ?_
    exact pr_ireturn hA rfl rfl (Nat.zero_le _) (Nat.zero_le _) dJ0_isLatin1_aae02_18 ⟨rfl, rfl, rfl, rfl⟩
def jRow (v n m : Nat) (tx : List Nat) (T : pr_T) (I : pr_I) (L : pr_L) : Option Value → pr_T → pr_I → pr_L → Prop := fun v' T' I' L' => v' = none ∧ T' = T ∧ L' = L ∧ ∃ f, I' = pr_row I v f ∧ (∀ j, j < n → f j = I v j) ∧ (∀ j, j < tx.length → f (n + j) = nI (tx.getD j 0)) ∧ jBt m f
set_option maxRecDepth 100000 in
set_option maxHeartbeats 400000 in
theorem c_jgb {g : pr_C} {l : Launch} (hl : l.stackTraces = false) {T : pr_T} {I : pr_I} {L : pr_L} {s : Nat} {tx : List Nat} (hS : jS g s tx T I) {v m n : Nat} (hv : T.2.1 v = (22, m)) (hn : n ≤ 700) (hm : n + tx.length ≤ m) (hf : jBt m (I v)) : pr_M g l 2 0 0 mJ0_getBytes_840e7 [.ref s, .ref v, .int (nI n), .int 0] T I L (jRow v n m tx T I L) pr_no := by
  have hl7 := hS.lt.2
  refine pr_ofG (by decide) rfl hl (Nat.le_of_ble_eq_true rfl) (fun X hA hX hXn hXt => ?_)
  subst hX
  rcases hS with ⟨k, hk, rfl, rfl⟩ | ⟨u, h⟩
  · show pr_G g X mJ0_getBytes_840e7.2.2.1 _ 0 0 0 [.ref (pr_ak g (k + 10)), .ref v, .int (nI n), .int 0] [] T I L
    refine pr_aload_n hA dJ0_getBytes_840e7_0 rfl ?_
    refine pr_callX hA rfl (As := []) (n := 0) (Or.inl ⟨k, hk, rfl, rfl⟩) (c_jcd (pr_hl hA) (Or.inl ⟨k, hk, rfl, rfl⟩)) v_J0_335 rfl rfl (by decide) (Nat.zero_le _) (Nat.zero_le _) rfl (Nat.le_of_ble_eq_true rfl) dJ0_getBytes_840e7_1 (fun v9 T8 I8 L8 q9 => ?_)
    obtain ⟨rfl, e7, e8, e9⟩ := q9; obtain rfl := e7.symm; obtain rfl := e8.symm; obtain rfl := e9.symm
    show pr_G g X _ _ 0 0 4 _ (.int 0 :: _) T I L
    refine pr_iload_n hA dJ0_getBytes_840e7_4 rfl ?_
    refine pr_icmp_ne hA 28 dJ0_getBytes_840e7_5 (by decide) (fun c_5 => absurd rfl c_5) (fun _ => ?_)
    refine pr_aload_n hA dJ0_getBytes_840e7_8 rfl ?_
    refine pr_lgetv hA hk rfl dJ0_getBytes_840e7_9 ?_
    refine pr_iconst hA (0) dJ0_getBytes_840e7_12 (by decide) ?_
    refine pr_aload_n hA dJ0_getBytes_840e7_13 rfl ?_
    refine pr_iload_n hA dJ0_getBytes_840e7_14 rfl ?_
    refine pr_iload_n hA dJ0_getBytes_840e7_15 rfl ?_
    refine pr_ishl hA dJ0_getBytes_840e7_16 ?_
    refine pr_topE (z := nI n) (jshl0 _) ?_
    refine pr_aload_n hA dJ0_getBytes_840e7_17 rfl ?_
    refine pr_lgetv hA hk rfl dJ0_getBytes_840e7_18 ?_
    refine pr_lalen hA hk dJ0_getBytes_840e7_21 ?_
    rw [jlit_len k hk]
    have cl : (nI (jlit k).length).toNatClampNeg = (jlit k).length := nI_clamp (by omega)
    have cn : (nI n).toNatClampNeg = n := nI_clamp (by omega)
    refine pr_copyT (k := k) (n1 := m) hA rfl hk ⟨kM_J0_212, kN_System_arraycopy__Ljava_lang_Object_ILjava_lang_Object_II_V, kT_System_arraycopy__Ljava_lang_Object_ILjava_lang_Object_II_V, kZ_J10⟩ (by decide) hv (by decide) (nI_pos (by omega)) (nI_pos (by omega)) (by rw [cl, jlit_len k hk]; exact Nat.le_of_eq (Nat.zero_add _)) (by rw [cl, cn]; exact hm) (Nat.le_of_ble_eq_true rfl) dJ0_getBytes_840e7_22 ?_
    rw [cl, cn]
    refine pr_goto hA 43 dJ0_getBytes_840e7_25 (by decide) ?_
    refine pr_return hA rfl (Nat.zero_le _) (Nat.zero_le _) dJ0_getBytes_840e7_43 ⟨rfl, rfl, rfl, _, rfl, fun j hj => pk_cpy_out (Or.inl hj), fun j hj => ?_, fun j hj => ?_⟩
    · rw [pk_cpy_in (by omega) (by omega), show (0 : Int32).toNatClampNeg + (n + j - n) = j from by show 0 + (n + j - n) = j; omega]; exact (jlit_ch k hk _ hj)
    · by_cases c : n ≤ j ∧ j < n + (jlit k).length
      · rw [pk_cpy_in c.1 c.2, show (0 : Int32).toNatClampNeg + (j - n) = j - n from by show 0 + (j - n) = j - n; omega, (jlit_ch k hk _ (by omega))]; exact jbf _ (jlit_lt k hk _ (jmem (by omega)))
      · rw [pk_cpy_out (by omega)]; exact hf j hj
  · show pr_G g X mJ0_getBytes_840e7.2.2.1 _ 0 0 0 [.ref s, .ref v, .int (nI n), .int 0] [] T I L
    refine pr_aload_n hA dJ0_getBytes_840e7_0 rfl ?_
    refine pr_callX hA rfl (As := []) (n := 0) (Or.inr ⟨u, h⟩) (c_jcd (pr_hl hA) (Or.inr ⟨u, h⟩)) v_J0_335 rfl rfl (by decide) (Nat.zero_le _) (Nat.zero_le _) rfl (Nat.le_of_ble_eq_true rfl) dJ0_getBytes_840e7_1 (fun v9 T8 I8 L8 q9 => ?_)
    obtain ⟨rfl, e7, e8, e9⟩ := q9; obtain rfl := e7.symm; obtain rfl := e8.symm; obtain rfl := e9.symm
    show pr_G g X _ _ 0 0 4 _ (.int 0 :: _) T I L
    refine pr_iload_n hA dJ0_getBytes_840e7_4 rfl ?_
    refine pr_icmp_ne hA 28 dJ0_getBytes_840e7_5 (by decide) (fun c_5 => absurd rfl c_5) (fun _ => ?_)
    refine pr_aload_n hA dJ0_getBytes_840e7_8 rfl ?_
    refine pr_getJR hA jC9 (by decide) rfl jfo_v h.1 h.2.1 dJ0_getBytes_840e7_9 ?_
    refine pr_iconst hA (0) dJ0_getBytes_840e7_12 (by decide) ?_
    refine pr_aload_n hA dJ0_getBytes_840e7_13 rfl ?_
    refine pr_iload_n hA dJ0_getBytes_840e7_14 rfl ?_
    refine pr_iload_n hA dJ0_getBytes_840e7_15 rfl ?_
    refine pr_ishl hA dJ0_getBytes_840e7_16 ?_
    refine pr_topE (z := nI n) (jshl0 _) ?_
    refine pr_aload_n hA dJ0_getBytes_840e7_17 rfl ?_
    refine pr_getJR hA jC9 (by decide) rfl jfo_v h.1 h.2.1 dJ0_getBytes_840e7_18 ?_
    refine pr_alenB hA h.2.2.2.1 dJ0_getBytes_840e7_21 ?_
    have cl : (nI tx.length).toNatClampNeg = tx.length := nI_clamp (by omega)
    have cn : (nI n).toNatClampNeg = n := nI_clamp (by omega)
    refine pr_copyB (n0 := tx.length) (n1 := m) hA rfl ⟨kM_J0_212, kN_System_arraycopy__Ljava_lang_Object_ILjava_lang_Object_II_V, kT_System_arraycopy__Ljava_lang_Object_ILjava_lang_Object_II_V, kZ_J10⟩ (by decide) h.2.2.2.1 hv (by decide) (nI_pos (by omega)) (nI_pos (by omega)) (by rw [cl]; exact Nat.le_of_eq (Nat.zero_add _)) (by rw [cl, cn]; exact hm) (fun i hi => by rw [cl] at hi; show fits .byte (.int (I u (0 + i))) = true; rw [Nat.zero_add]; exact h.bt i hi) (Nat.le_of_ble_eq_true rfl) dJ0_getBytes_840e7_22 ?_
    rw [cl, cn]
    refine pr_goto hA 43 dJ0_getBytes_840e7_25 (by decide) ?_
    refine pr_return hA rfl (Nat.zero_le _) (Nat.zero_le _) dJ0_getBytes_840e7_43 ⟨rfl, rfl, rfl, _, rfl, fun j hj => pk_cpy_out (Or.inl hj), fun j hj => ?_, fun j hj => ?_⟩
    · rw [pk_cpy_in (by omega) (by omega), show (0 : Int32).toNatClampNeg + (n + j - n) = j from by show 0 + (n + j - n) = j; omega]; exact (h.2.2.2.2.1 _ hj)
    · by_cases c : n ≤ j ∧ j < n + tx.length
      · rw [pk_cpy_in c.1 c.2, show (0 : Int32).toNatClampNeg + (j - n) = j - n from by show 0 + (j - n) = j - n; omega, (h.2.2.2.2.1 _ (by omega))]; exact jbf _ (h.2.2.2.2.2.1 _ (jmem (by omega)))
      · rw [pk_cpy_out (by omega)]; exact hf j hj
set_option maxRecDepth 100000 in
set_option maxHeartbeats 400000 in
theorem c_jif {g : pr_C} {l : Launch} (hl : l.stackTraces = false) {T : pr_T} {I : pr_I} {L : pr_L} {z b c s : Nat} {tx ty : List Nat} (h : jB z b tx c T I) (hS : jS g s ty T I) : pr_M g l 2 0 0 mJ5_inflateIfNeededFor_a7421 [.ref b, .ref s] T I L (pr_R none T I L) pr_no := by
  obtain ⟨v, m, h1, h2, h3, h4, h5, h6, h7, h8, h9, h10, h11, h12, h13, h14, h15, h16⟩ := h
  refine pr_ofG (by decide) rfl hl (Nat.le_of_ble_eq_true rfl) (fun X hA hX hXn hXt => ?_)
  subst hX
  show pr_G g X mJ5_inflateIfNeededFor_a7421.2.2.1 _ 0 0 0 [.ref b, .ref s] [] T I L
  refine pr_getsC hA kF_J5_18 dJ5_inflateIfNeededFor_a7421_0 ?_
  refine pr_if_eq hA 21 dJ5_inflateIfNeededFor_a7421_3 (by decide) (fun c_3 => absurd c_3 (by decide)) (fun _ => ?_)
  refine pr_aload_n hA dJ5_inflateIfNeededFor_a7421_6 rfl ?_
  refine pr_getJI (v := 0) hA jC8 (by decide) rfl jfk_c h6 h8 dJ5_inflateIfNeededFor_a7421_7 ?_
  refine pr_aload_n hA dJ5_inflateIfNeededFor_a7421_10 rfl ?_
  refine pr_callX hA rfl (As := []) (n := 0) hS (c_jcd (pr_hl hA) hS) v_J5_40 rfl rfl (by decide) (Nat.zero_le _) (Nat.zero_le _) rfl (Nat.le_of_ble_eq_true rfl) dJ5_inflateIfNeededFor_a7421_11 (fun v9 T8 I8 L8 q9 => ?_)
  obtain ⟨rfl, e7, e8, e9⟩ := q9; obtain rfl := e7.symm; obtain rfl := e8.symm; obtain rfl := e9.symm
  show pr_G g X _ _ 0 0 14 _ (.int 0 :: _) T I L
  refine pr_icmp_eq hA 21 dJ5_inflateIfNeededFor_a7421_14 (by decide) (fun _ => ?_) (fun c_14 => absurd rfl c_14)
  exact pr_return hA rfl (Nat.zero_le _) (Nat.zero_le _) dJ5_inflateIfNeededFor_a7421_21 ⟨rfl, rfl, rfl, rfl⟩
set_option maxRecDepth 100000 in
set_option maxHeartbeats 400000 in
theorem c_jps {g : pr_C} {l : Launch} (hl : l.stackTraces = false) {T : pr_T} {I : pr_I} {L : pr_L} {z b c s v m n : Nat} {tx ty : List Nat} (h : jB z b tx c T I) (h7 : T.2.2 b 0 = some v) (h10 : T.2.1 v = (22, m)) (hf : jBt m (I v)) (hn : n ≤ 700) (hm : n + ty.length ≤ m) (hS : jS g s ty T I) : pr_M g l 3 0 0 mJ5_putStringAt_47b60 [.ref b, .int (nI n), .ref s] T I L (jRow v n m ty T I L) pr_no := by
  have h0 := h
  obtain ⟨v1, m1, h1, h2, h3, h4, h5, h6, g7, h8, h9, g10, h11, h12, h13, h14, h15, h16⟩ := h
  refine pr_ofG (by decide) rfl hl (Nat.le_of_ble_eq_true rfl) (fun X hA hX hXn hXt => ?_)
  subst hX
  show pr_G g X mJ5_putStringAt_47b60.2.2.1 _ 0 0 0 [.ref b, .int (nI n), .ref s] [] T I L
  refine pr_aload_n hA dJ5_putStringAt_47b60_0 rfl ?_
  refine pr_aload_n hA dJ5_putStringAt_47b60_1 rfl ?_
  refine pr_callP (n := 1) hA rfl (As := [.ref s]) (c_jif (pr_hl hA) h0 hS) ⟨kM_J5_397, rfl, by decide +kernel, ⟨_, _, _, kO_J5_inflateIfNeededFor_a7421⟩, kI_J5_inflateIfNeededFor_a7421, kZ_J5, kO_J5_inflateIfNeededFor_a7421, kI_J5_inflateIfNeededFor_a7421, by decide +kernel, by decide, rfl⟩ (by decide +kernel) h6 rfl (by decide) (Nat.zero_le _) (Nat.zero_le _) rfl (Nat.le_of_ble_eq_true rfl) dJ5_putStringAt_47b60_2 (fun v9 T8 I8 L8 q9 => ?_)
  obtain ⟨rfl, e7, e8, e9⟩ := q9; obtain rfl := e7.symm; obtain rfl := e8.symm; obtain rfl := e9.symm
  show pr_G g X _ _ 0 0 5 _ [] T I L
  refine pr_aload_n hA dJ5_putStringAt_47b60_5 rfl ?_
  refine pr_aload_n hA dJ5_putStringAt_47b60_6 rfl ?_
  refine pr_getJR hA jC8 (by decide) rfl jfk_v h6 h7 dJ5_putStringAt_47b60_7 ?_
  refine pr_iload_n hA dJ5_putStringAt_47b60_10 rfl ?_
  refine pr_aload_n hA dJ5_putStringAt_47b60_11 rfl ?_
  refine pr_getJI (v := 0) hA jC8 (by decide) rfl jfk_c h6 h8 dJ5_putStringAt_47b60_12 ?_
  refine pr_callX hA rfl (As := [.ref v, .int (nI n), .int 0]) (n := 3) hS (c_jgb (pr_hl hA) hS h10 hn hm hf) v_J5_399 rfl rfl (by decide) (Nat.zero_le _) (Nat.zero_le _) rfl (Nat.le_of_ble_eq_true rfl) dJ5_putStringAt_47b60_15 (fun v9 T8 I8 L8 q9 => ?_)
  obtain ⟨rfl, q9⟩ := q9
  exact pr_return hA rfl (Nat.zero_le _) (Nat.zero_le _) dJ5_putStringAt_47b60_18 ⟨rfl, q9⟩
/-- a string whose cells lie below z stays -/
def jZ (g : pr_C) (z s : Nat) (tx : List Nat) (T : pr_T) (I : pr_I) : Prop := (∃ k, k < 6 ∧ s = pr_ak g (k + 10) ∧ tx = jlit k) ∨ ∃ u, jO s u tx T I ∧ s < z ∧ u < z
theorem jZ.s {g : pr_C} {z s : Nat} {tx : List Nat} {T : pr_T} {I : pr_I} (h : jZ g z s tx T I) : jS g s tx T I := by
  rcases h with h | ⟨u, h, -⟩
  · exact Or.inl h
  · exact Or.inr ⟨u, h⟩
theorem jZ.to {g : pr_C} {s z : Nat} {tx : List Nat} {T T1 : pr_T} {I I1 : pr_I} (h : jZ g z s tx T I) {b : Nat} (hb : T.2.1 b = (8, 0)) (hF : jF z b T I T1 I1) : jZ g z s tx T1 I1 := by
  rcases h with h | ⟨u, h, a, a2⟩
  · exact Or.inl h
  · obtain ⟨h1, h2, h3, h4, h5, h6⟩ := h
    obtain ⟨f1, f2, f3⟩ := hF.2 s a (fun e => by rw [e, hb] at h1; cases h1)
    obtain ⟨k1, k2, k3⟩ := hF.2 u a2 (fun e => by rw [e, hb] at h4; cases h4)
    exact Or.inr ⟨u, ⟨by rw [f1]; exact h1, by rw [f2]; exact h2, by rw [f3]; exact h3, by rw [k1]; exact h4, fun j hj => by rw [k3]; exact h5 j hj, h6⟩, a, a2⟩
set_option maxRecDepth 100000 in
set_option maxHeartbeats 400000 in
theorem c_jas {g : pr_C} {l : Launch} (hl : l.stackTraces = false) {T : pr_T} {I : pr_I} {L : pr_L} {z b s : Nat} {tx ty : List Nat} (h0 : jB z b tx 0 T I) (hZ : jZ g z s ty T I) (hn : tx.length + ty.length ≤ 300) : pr_M g l 5 1 700 mJ5_append_cf1ce [.ref b, .ref s] T I L (jApp z b (tx ++ ty) T I L) pr_no := by
  have h00 := h0
  have hS := hZ.s
  obtain ⟨v0, m0, g1, g2, g3, g4, g5, g6, g7, g8, g9, g10, g11, g12, g13, g14, g15, g16⟩ := h00
  refine pr_ofG (by decide) rfl hl (Nat.le_of_ble_eq_true rfl) (fun X hA hX hXn hXt => ?_)
  subst hX
  show pr_G g X mJ5_append_cf1ce.2.2.1 _ 0 0 0 [.ref b, .ref s, .null] [] T I L
  refine pr_aload_n hA dJ5_append_cf1ce_0 rfl ?_
  refine pr_ifnonnull (x := some s) hA 9 dJ5_append_cf1ce_1 (by decide) (fun _ _ => ?_) (fun q9 => by cases q9)
  refine pr_aload_n hA dJ5_append_cf1ce_9 rfl ?_
  refine pr_callX hA rfl (As := []) (n := 0) hS (c_jln (pr_hl hA) hS) v_J5_32 rfl rfl (by decide) (Nat.zero_le _) (Nat.zero_le _) rfl (Nat.le_of_ble_eq_true rfl) dJ5_append_cf1ce_10 (fun v9 T8 I8 L8 q9 => ?_)
  obtain ⟨rfl, e7, e8, e9⟩ := q9; obtain rfl := e7.symm; obtain rfl := e8.symm; obtain rfl := e9.symm
  show pr_G g X _ _ 0 0 13 _ (.int (nI ty.length) :: _) T I L
  refine pr_istore_n (ls' := [_, _, _]) hA dJ5_append_cf1ce_13 (by decide) rfl ?_
  refine pr_aload_n hA dJ5_append_cf1ce_14 rfl ?_
  refine pr_aload_n hA dJ5_append_cf1ce_15 rfl ?_
  refine pr_getJI (v := nI tx.length) hA jC8 (by decide) rfl jfk_n g6 g9 dJ5_append_cf1ce_16 ?_
  refine pr_iload_n hA dJ5_append_cf1ce_19 rfl ?_
  refine pr_iadd hA dJ5_append_cf1ce_20 ?_
  refine pr_topE (z := nI (tx.length + ty.length)) (nI_add _ _) ?_
  refine pr_callP (n := 1) hA rfl (As := [.int (nI (tx.length + ty.length))]) (c_jens (pr_hl hA) h0 hn) ⟨kM_J5_100, rfl, by decide +kernel, ⟨_, _, _, kO_J5_ensureCapacityInternal_d00df⟩, kI_J5_ensureCapacityInternal_d00df, kZ_J5, kO_J5_ensureCapacityInternal_d00df, kI_J5_ensureCapacityInternal_d00df, by decide +kernel, by decide, rfl⟩ (by decide +kernel) h0.k rfl (by decide) (Nat.le_refl _) (Nat.le_refl _) rfl (Nat.le_of_ble_eq_true rfl) dJ5_append_cf1ce_21 (fun v9 T9 I9 L9 q9 => ?_)
  obtain ⟨rfl, hF, rfl, h⟩ := q9
  have hj := h
  have hS9 : jS g s ty T9 I9 := (hZ.to g6 hF).s
  obtain ⟨v, m, h1, h2, h3, h4, h5, h6, h7, h8, h9, h10, h11, h12, h13, h14, h15, h16⟩ := h
  show pr_G g X _ _ 1 700 24 _ _ T9 I9 _
  refine pr_aload_n hA dJ5_append_cf1ce_24 rfl ?_
  refine pr_aload_n hA dJ5_append_cf1ce_25 rfl ?_
  refine pr_getJI (v := nI tx.length) hA jC8 (by decide) rfl jfk_n h6 h9 dJ5_append_cf1ce_26 ?_
  refine pr_aload_n hA dJ5_append_cf1ce_29 rfl ?_
  refine pr_callP (n := 2) hA rfl (As := [.int (nI tx.length), .ref s]) (c_jps (pr_hl hA) hj h7 h10 h14 (by omega) h12 hS9) ⟨kM_J5_208, rfl, by decide +kernel, ⟨_, _, _, kO_J5_putStringAt_47b60⟩, kI_J5_putStringAt_47b60, kZ_J5, kO_J5_putStringAt_47b60, kI_J5_putStringAt_47b60, by decide +kernel, by decide, rfl⟩ (by decide +kernel) h6 rfl (by decide) (Nat.le_refl _) (Nat.le_refl _) rfl (Nat.le_of_ble_eq_true rfl) dJ5_append_cf1ce_30 (fun v9 T8 I8 L8 q9 => ?_)
  obtain ⟨rfl, e7, e9, f, e8, f1, f2, f3⟩ := q9; obtain rfl := e7.symm; obtain rfl := e9.symm; subst e8
  have h9f : pr_row I9 v f b 3 = nI tx.length := by rw [pr_row_ne (Ne.symm h5)]; exact h9
  show pr_G g X _ _ 1 700 33 _ [] T9 _ _
  refine pr_aload_n hA dJ5_append_cf1ce_33 rfl ?_
  refine pr_dup hA dJ5_append_cf1ce_34 rfl ?_
  refine pr_getJI (v := nI tx.length) hA jC8 (by decide) rfl jfk_n h6 h9f dJ5_append_cf1ce_35 ?_
  refine pr_iload_n hA dJ5_append_cf1ce_38 rfl ?_
  refine pr_iadd hA dJ5_append_cf1ce_39 ?_
  refine pr_topE (z := nI (tx.length + ty.length)) (nI_add _ _) ?_
  refine pr_putJI hA jC8 (by decide) rfl rfl rfl rfl jfk_n h6 dJ5_append_cf1ce_40 ?_
  refine pr_aload_n hA dJ5_append_cf1ce_43 rfl ?_
  refine pr_areturn hA rfl (Or.inl ⟨_, rfl⟩) (Nat.le_refl _) (Nat.le_refl _) dJ5_append_cf1ce_44 ⟨rfl, hF.trans ⟨Nat.le_refl _, fun a ha hab => ⟨rfl, rfl, ?_⟩⟩, rfl, jB.put h1 h2 h3 h4 h5 h6 h7 h10 h13 ?_ ?_ h12 ?_ ?_ ?_ h16 hS9.lt.1⟩
  · rw [pr_up_ne (by omega), pr_row_ne (by omega)]
  · rw [pr_upk (by decide), pr_row_ne (Ne.symm h5)]; exact h8
  · rw [pr_upe]
  · rw [pr_up_ne h5, pr_row_eq]; exact f3
  · intro j hj
    rw [pr_up_ne h5, pr_row_eq, f1 j hj]; exact h15 j hj
  · intro j hj
    rw [pr_up_ne h5, pr_row_eq]; exact f2 j hj
set_option maxRecDepth 100000 in
set_option maxHeartbeats 400000 in
theorem c_jAS {g : pr_C} {l : Launch} (hl : l.stackTraces = false) {T : pr_T} {I : pr_I} {L : pr_L} {z b s : Nat} {tx ty : List Nat} (h0 : jB z b tx 0 T I) (hZ : jZ g z s ty T I) (hn : tx.length + ty.length ≤ 300) : pr_M g l 6 1 700 mJ4_append_15ec4 [.ref b, .ref s] T I L (jApp z b (tx ++ ty) T I L) pr_no := by
  refine pr_ofG (by decide) rfl hl (Nat.le_of_ble_eq_true rfl) (fun X hA hX hXn hXt => ?_)
  subst hX
  show pr_G g X mJ4_append_15ec4.2.2.1 _ 0 0 0 [.ref b, .ref s] [] T I L
  refine pr_aload_n hA dJ4_append_15ec4_0 rfl ?_
  refine pr_aload_n hA dJ4_append_15ec4_1 rfl ?_
  refine pr_callSU (n := 1) hA rfl (As := [.ref s]) (c_jas (pr_hl hA) h0 hZ hn) rfl (by decide +kernel) (by decide) ⟨kM_J4_29, rfl, by decide +kernel, ⟨_, _, _, kO_J5_append_cf1ce⟩, kI_J5_append_cf1ce, kZ_J5, kO_J5_append_cf1ce, kI_J5_append_cf1ce, by decide +kernel, by decide, rfl⟩ h0.k rfl (by decide) (Nat.le_refl _) (Nat.le_refl _) rfl (Nat.le_of_ble_eq_true rfl) dJ4_append_15ec4_2 (fun v9 T9 I9 L9 q9 => ?_)
  obtain ⟨rfl, hF, rfl, h⟩ := q9
  refine pr_pop hA dJ4_append_15ec4_5 rfl ?_
  refine pr_aload_n hA dJ4_append_15ec4_6 rfl ?_
  exact pr_areturn hA rfl (Or.inl ⟨_, rfl⟩) (Nat.le_refl _) (Nat.le_refl _) dJ4_append_15ec4_7 ⟨rfl, hF, rfl, h⟩
set_option maxRecDepth 100000 in
set_option maxHeartbeats 400000 in
theorem c_jbr {g : pr_C} {l : Launch} (hl : l.stackTraces = false) {T : pr_T} {I : pr_I} {L : pr_L} {z b s : Nat} {tx ty : List Nat} (h0 : jB z b tx 0 T I) (hZ : jZ g z s ty T I) (hn : tx.length + ty.length ≤ 300) : pr_M g l 7 1 700 mJ4_append_cf1ce [.ref b, .ref s] T I L (jApp z b (tx ++ ty) T I L) pr_no := by
  refine pr_ofG (by decide) rfl hl (Nat.le_of_ble_eq_true rfl) (fun X hA hX hXn hXt => ?_)
  subst hX
  show pr_G g X mJ4_append_cf1ce.2.2.1 _ 0 0 0 [.ref b, .ref s] [] T I L
  refine pr_aload_n hA dJ4_append_cf1ce_0 rfl ?_
  refine pr_aload_n hA dJ4_append_cf1ce_1 rfl ?_
  refine pr_callV hA rfl (As := [.ref s]) (c_jAS (pr_hl hA) h0 hZ hn) v_J4_23 h0.k (by decide) (q0 := (RJ4, TJ4, 4)) rfl rfl rfl (by decide) (Nat.le_refl _) (Nat.le_refl _) rfl (Nat.le_of_ble_eq_true rfl) dJ4_append_cf1ce_2 (fun v9 T9 I9 L9 q9 => ?_) (fun _ _ _ _ q => q.elim)
  obtain ⟨rfl, hF, rfl, h⟩ := q9
  exact pr_areturn hA rfl (Or.inl ⟨_, rfl⟩) (Nat.le_refl _) (Nat.le_refl _) dJ4_append_cf1ce_5 ⟨rfl, hF, rfl, h⟩
