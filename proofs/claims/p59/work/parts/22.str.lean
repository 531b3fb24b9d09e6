/-! STRING CONSTANTS -/
/-- the sign at place j of text k -/
def pr_sch (k j : Nat) : Int32 := (pr_sbyt.getD k []).getD j 0
section PRS
variable {g : pr_C} {X : pr_X} {M : pr_MD} {d mc ms : Nat} {nL : Nat} {Q : State → Prop} {cs sl pc : Nat} {ls st : List Value} {T : pr_T} {I : pr_I} {L : pr_L}
theorem pr_lds (hA : pr_Am g X M d mc ms) {index k : Nat} {tx : String} (hk : (M.1.cls, index, tx, k) ∈ pr_strs) (hd : decode M.2.1 pc = .ok (.ldc index, 2)) (kk : pr_G g X nL Q cs sl (pc + 2) ls (.ref (pr_ak g k) :: st) T I L) : pr_G g X nL Q cs sl pc ls st T I L := by
  obtain ⟨p, l, e, R, s, m, args, below, meth, c⟩ := X
  intro H locs lsS hR hl hS
  obtain ⟨hx, hb, hml, hown, hts, hK, hSF, hlk, hnt, hzs, hret, hdf, hdl, hmc, hms⟩ := hA
  have hr := hSF.2.2.1 _ hk
  intro T0 hT X0
  obtain ⟨t, a, b⟩ := kk H locs lsS hR hl hS T0 hT X0
  have h1 : (Cond.stringRef M.1.cls index tx).before args s = true := hr.1
  have h2 : (Term.string M.1.cls index).eval args s none [] s = some (.ref (pr_ak g k)) := hr.2
  exact ⟨t, X0.ldcString hx hown h1 h2 (g := F0 m pc lsS st) rfl (by rw [hb]; exact hd) t a, b⟩
theorem pr_sgetv (hA : pr_Am g X M d mc ms) {k : Nat} (hk : k < 7) (hM : M.1.cls = RJ0) (hd : decode M.2.1 pc = .ok (.getfield 9, 3)) (kk : pr_G g X nL Q cs sl (pc + 3) ls (.ref (pr_av g k) :: st) T I L) : pr_G g X nL Q cs sl pc ls (.ref (pr_ak g k) :: st) T I L := by
  obtain ⟨p, l, e, R, s, m, args, below, meth, c⟩ := X
  intro H locs lsS hR hl hS
  obtain ⟨hx, hb, hml, hown, hts, hK, hSF, hlk, hnt, hzs, hret, hdf, hdl, hmc, hms⟩ := hA
  rw [hM] at hown
  exact vk_getf hx hb (hSF.2.1.1 k hk).2.2.1 hS hown (hts _ kF_J0_9) (fun _ h => h) hd (kk H locs lsS hR hl hS)
theorem pr_sgetc (hA : pr_Am g X M d mc ms) {k : Nat} (hk : k < 7) (hM : M.1.cls = RJ0) (hd : decode M.2.1 pc = .ok (.getfield 15, 3)) (kk : pr_G g X nL Q cs sl (pc + 3) ls (.int 0 :: st) T I L) : pr_G g X nL Q cs sl pc ls (.ref (pr_ak g k) :: st) T I L := by
  obtain ⟨p, l, e, R, s, m, args, below, meth, c⟩ := X
  intro H locs lsS hR hl hS
  obtain ⟨hx, hb, hml, hown, hts, hK, hSF, hlk, hnt, hzs, hret, hdf, hdl, hmc, hms⟩ := hA
  rw [hM] at hown
  exact vk_getf hx hb (hSF.2.1.1 k hk).2.1 hS hown (hts _ kF_J0_15) (fun _ h => h) hd (kk H locs lsS hR hl hS)
theorem pr_salen (hA : pr_Am g X M d mc ms) {k : Nat} (hk : k < 7) (hd : decode M.2.1 pc = .ok (.arraylength, 1)) (kk : pr_G g X nL Q cs sl (pc + 1) ls (.int (nI (pr_slen.getD k 0)) :: st) T I L) : pr_G g X nL Q cs sl pc ls (.ref (pr_av g k) :: st) T I L := by
  obtain ⟨p, l, e, R, s, m, args, below, meth, c⟩ := X
  intro H locs lsS hR hl hS
  obtain ⟨hx, hb, hml, hown, hts, hK, hSF, hlk, hnt, hzs, hret, hdf, hdl, hmc, hms⟩ := hA
  exact va_tlen hx hb (hSF.2.1.1 k hk).2.2.2 hS rfl hd (kk H locs lsS hR hl hS)
theorem pr_sbald (hA : pr_Am g X M d mc ms) {k j : Nat} (hk : k < 7) (hj : j < pr_slen.getD k 0) (hd : decode M.2.1 pc = .ok (.baload, 1)) (kk : pr_G g X nL Q cs sl (pc + 1) ls (.int (pr_sch k j) :: st) T I L) : pr_G g X nL Q cs sl pc ls (.int (nI j) :: .ref (pr_av g k) :: st) T I L := by
  obtain ⟨p, l, e, R, s, m, args, below, meth, c⟩ := X
  intro H locs lsS hR hl hS
  obtain ⟨hx, hb, hml, hown, hts, hK, hSF, hlk, hnt, hzs, hret, hdf, hdl, hmc, hms⟩ := hA
  have hle : ∀ k, k < 7 → pr_slen.getD k 0 ≤ 6 := by decide
  have := hle k hk
  exact va_tb hx hb (hSF.2.1.1 k hk).2.2.2 hS (nI_vin hj (by omega)) (by rw [nI_clamp (by omega)]; rfl) hd (kk H locs lsS hR hl hS)
theorem pr_getsB (hA : pr_Am g X M d mc ms) (hM : M.1.cls = RJ0) (hd : decode M.2.1 pc = .ok (.getstatic 38, 3)) (kk : pr_G g X nL Q cs sl (pc + 3) ls (.int 1 :: st) T I L) : pr_G g X nL Q cs sl pc ls st T I L := by
  obtain ⟨p, l, e, R, s, m, args, below, meth, c⟩ := X
  intro H locs lsS hR hl hS
  obtain ⟨hx, hb, hml, hown, hts, hK, hSF, hlk, hnt, hzs, hret, hdf, hdl, hmc, hms⟩ := hA
  rw [hM] at hown
  exact va_gets hx hb hSF.2.2.2.2.2.1 hS hown (hts _ kF_J0_38) (fun _ h => h) hd (kk H locs lsS hR hl hS)
theorem pr_getsQ (hA : pr_Am g X M d mc ms) (hM : M.1.cls = RJ0) (hd : decode M.2.1 pc = .ok (.getstatic 1053, 3)) (kk : ∀ v : Value, (v = .null ∨ ∃ t, v = .ref t) → pr_G g X nL Q cs sl (pc + 3) ls (v :: st) T I L) : pr_G g X nL Q cs sl pc ls st T I L := by
  obtain ⟨p, l, e, R, s, m, args, below, meth, c⟩ := X
  intro H locs lsS hR hl hS
  obtain ⟨hx, hb, hml, hown, hts, hK, hSF, hlk, hnt, hzs, hret, hdf, hdl, hmc, hms⟩ := hA
  rw [hM] at hown
  rcases hSF.2.2.2.2.2.2.1 with h | ⟨t, h⟩
  · exact va_gets hx hb h hS hown (hts _ kF_J0_1053) (fun _ h => h) hd (kk .null (Or.inl rfl) H locs lsS hR hl hS)
  · exact va_gets hx hb h hS hown (hts _ kF_J0_1053) (fun _ h => h) hd (kk (.ref t) (Or.inr ⟨t, rfl⟩) H locs lsS hR hl hS)
theorem pr_callT (hA : pr_Am g X M d mc ms) (hnL : nL = M.2.2.1) {index k n d' mc' ms' : Nat} {M' : pr_MD} {As stk : List Value} {Φ : Option Value → pr_T → pr_I → pr_L → Prop} {Ψ : String → pr_T → pr_I → pr_L → Prop}
    (hM : pr_M g (pr_launch X) d' mc' ms' M' (.ref (pr_ak g k) :: As) T I L Φ Ψ) (hc : pr_cV M.1.cls index M' n) (hk : k < 7) (hq1 : "java/lang/String" = M'.1.cls) (hn : As.length = n) (hdd : d' + 1 ≤ d) (hcs : cs + mc' ≤ mc) (hsl : sl + ms' ≤ ms) (hstk : stk = As.reverse ++ .ref (pr_ak g k) :: st) (hst : (st.map fun v => v.category).sum ≤ 8) (hd : decode M.2.1 pc = .ok (.invokevirtual index, 3))
    (kk : ∀ v T' I' L', Φ v T' I' L' → pr_G g X nL Q (cs + mc') (sl + ms') (pc + 3) ls (v.toList ++ st) T' I' L')
    (kx : ∀ E T' I' L', Ψ E T' I' L' → pr_H g X nL Q (cs + mc') (sl + ms') pc ls st E T' I' L') : pr_G g X nL Q cs sl pc ls stk T I L := by
  subst hnL; subst hstk
  obtain ⟨p, l, e, R, s, m, args, below, meth, c⟩ := X
  intro H locs lsS hR hl hS
  obtain ⟨y', cc', maxL', ret', hh'⟩ := M'
  obtain ⟨⟨hc1, hc2, hc3, ⟨hc4, hc4b, hc4c⟩, hc5, hc6⟩, hc7, hc8⟩ := hc
  dsimp only at hc6 hc5 hc4 hc4b hc4c hq1
  subst hc6
  obtain ⟨hx, hbb, hml, hown, hts, hK, hSF, hlk, hnt, hzs, hret, hdf, hdl, hmc, hms⟩ := hA
  have hrv := vk_recv hSF.2.1 hk hS
  rw [hq1] at hrv
  have hcw := cwV (R := R) (s := s) (args := args) (own := M.1.cls) (index := index) (C := y'.cls) (y := y') (bytes := cc') (maxL := maxL') (ret := ret') (ws := Cond.code y' cc' maxL' ret' :: pr_gw) (ws' := pr_gw) (rm := pr_rm d' mc' ms') (mc := mc') (ms := ms') (Ts := pr_gw) n hts
    (pr_goodgw (fun w hw => by
      rcases List.mem_append.mp hw with h | h
      · simp only [List.mem_cons, List.not_mem_nil, or_false] at h
        rcases h with rfl | rfl | rfl | rfl
        · exact hc1
        · exact hc7
        · exact hc8
        · exact hc2
      · rcases List.mem_cons.mp h with rfl | h
        · exact hc3
        · exact h)) rfl rfl rfl ⟨rfl, hc4, hc4b, hc4c⟩ ⟨Nat.le_trans hdd hdf, by show 8 + (maxL' + 11) + 37 * d' ≤ R.locals; omega⟩
  refine pr_go (vx_runV (As := As) (rest := st) ⟨hx, hbb, hml, hown, hts⟩ hM hcw ⟨pr_blind, hrv, fun U hU hW => ⟨rfl, pr_BB.at hR hK hSF hS hU hW⟩⟩ rfl hn hl.1 rfl (by show 2 * 0 + _ ≤ 8; omega) hd ⟨Nat.le_trans hcs hmc, Nat.le_trans hsl hms⟩) hl hS kk kx
theorem pr_callTi (hA : pr_Am g X M d mc ms) {index k n d' : Nat} {M' : pr_MD} {T' : pr_T} {I' : pr_I} {L' : pr_L} (As : List Value) {stk : List Value} {r : Int32}
    (hM : pr_M g (pr_launch X) d' 0 0 M' (.ref (pr_ak g k) :: As) T I L (pr_R (some (.int r)) T' I' L') pr_no) (hc : pr_cV M.1.cls index M' n) (hk : k < 7) (hq1 : "java/lang/String" = M'.1.cls) (hn : As.length = n) (hdd : d' + 1 ≤ d) (hcs : cs ≤ mc) (hsl : sl ≤ ms) (hstk : stk = As.reverse ++ .ref (pr_ak g k) :: st) (hst : (st.map fun v => v.category).sum ≤ 8) (hd : decode M.2.1 pc = .ok (.invokevirtual index, 3))
    (kk : pr_G g X M.2.2.1 Q cs sl (pc + 3) ls (.int r :: st) T' I' L') : pr_G g X M.2.2.1 Q cs sl pc ls stk T I L :=
  pr_callT hA rfl hM hc hk hq1 hn hdd hcs hsl hstk hst hd (fun v T2 I2 L2 h => by obtain ⟨rfl, rfl, rfl, rfl⟩ := h; exact kk) (fun _ _ _ _ h => h.elim)
end PRS
theorem sl_le : ∀ k, k < 7 → pr_slen.getD k 0 ≤ 6 := by decide

theorem sl_sh (k : Nat) : nI (pr_slen.getD k 0) >>> ((0 : Int32) &&& 31) = nI (pr_slen.getD k 0) := by
  rw [show (0 : Int32) &&& 31 = 0 from by decide]; exact Int32.shiftRight_zero
set_option maxRecDepth 100000 in
set_option maxHeartbeats 400000 in
theorem c_coder {g : pr_C} {l : Launch} (hl : l.stackTraces = false) {T : pr_T} {I : pr_I} {L : pr_L} {k : Nat} (hk : k < 7) : pr_M g l 1 0 0 mJ0_coder_7d493 [.ref (pr_ak g k)] T I L (pr_R (some (.int 0)) T I L) pr_no := by
  refine pr_ofG (by decide) rfl hl (Nat.le_of_ble_eq_true rfl) (fun X hA hX hXn hXt => ?_)
  subst hX
  show pr_G g X mJ0_coder_7d493.2.2.1 _ 0 0 0 [.ref (pr_ak g k)] [] T I L
  refine pr_getsB hA rfl dJ0_coder_7d493_0 ?_
  refine pr_join (c := (1 : Int32) = 0) (J := 14) (st := []) (1 : Int32) (0 : Int32) inferInstance (fun kt kf => ?_) ?_
  · refine pr_if_eq hA 13 dJ0_coder_7d493_3 (by decide) (fun c_3 => ?_) (fun c_3 => ?_)
    · refine pr_iconst hA (1) dJ0_coder_7d493_13 (by decide) ?_
      exact kt c_3
    · refine pr_aload_n hA dJ0_coder_7d493_6 rfl ?_
      refine pr_sgetc hA hk rfl dJ0_coder_7d493_7 ?_
      refine pr_goto hA 14 dJ0_coder_7d493_10 (by decide) ?_
      exact kf c_3
  · exact pr_ireturn hA rfl rfl (Nat.zero_le _) (Nat.zero_le _) dJ0_coder_7d493_14 ⟨rfl, rfl, rfl, rfl⟩

set_option maxRecDepth 100000 in
set_option maxHeartbeats 400000 in
theorem c_isLatin {g : pr_C} {l : Launch} (hl : l.stackTraces = false) {T : pr_T} {I : pr_I} {L : pr_L} {k : Nat} (hk : k < 7) : pr_M g l 1 0 0 mJ0_isLatin1_aae02 [.ref (pr_ak g k)] T I L (pr_R (some (.int 1)) T I L) pr_no := by
  refine pr_ofG (by decide) rfl hl (Nat.le_of_ble_eq_true rfl) (fun X hA hX hXn hXt => ?_)
  subst hX
  show pr_G g X mJ0_isLatin1_aae02.2.2.1 _ 0 0 0 [.ref (pr_ak g k)] [] T I L
  refine pr_getsB hA rfl dJ0_isLatin1_aae02_0 ?_
  refine pr_join (c := (1 : Int32) = 0) (J := 18) (st := []) (0 : Int32) (if (0 : Int32) = 0 then (1 : Int32) else (0 : Int32)) inferInstance (fun kt kf => ?_) ?_
  · refine pr_if_eq hA 17 dJ0_isLatin1_aae02_3 (by decide) (fun c_3 => ?_) (fun c_3 => ?_)
    · refine pr_iconst hA (0) dJ0_isLatin1_aae02_17 (by decide) ?_
      exact kt c_3
    · refine pr_aload_n hA dJ0_isLatin1_aae02_6 rfl ?_
      refine pr_sgetc hA hk rfl dJ0_isLatin1_aae02_7 ?_
      refine pr_join (c := (0 : Int32) = 0) (J := 18) (st := []) (1 : Int32) (0 : Int32) inferInstance (fun kt kf => ?_) ?_
      · refine pr_if_ne hA 17 dJ0_isLatin1_aae02_10 (by decide) (fun c_10 => ?_) (fun c_10 => ?_)
        · refine pr_iconst hA (0) dJ0_isLatin1_aae02_17 (by decide) ?_
          exact kf c_10
        · refine pr_iconst hA (1) dJ0_isLatin1_aae02_13 (by decide) ?_
          refine pr_goto hA 18 dJ0_isLatin1_aae02_14 (by decide) ?_
          exact kt c_10
      · exact kf c_3
  · exact pr_ireturn hA rfl (pr_nb (by first | decide | (split <;> simp))) (Nat.zero_le _) (Nat.zero_le _) dJ0_isLatin1_aae02_18 ⟨rfl, rfl, rfl, rfl⟩

set_option maxRecDepth 100000 in
set_option maxHeartbeats 400000 in
theorem c_slen {g : pr_C} {l : Launch} (hl : l.stackTraces = false) {T : pr_T} {I : pr_I} {L : pr_L} {k : Nat} (hk : k < 7) : pr_M g l 2 0 0 mJ0_length_8abf5 [.ref (pr_ak g k)] T I L (pr_R (some (.int (nI (pr_slen.getD k 0)))) T I L) pr_no := by
  refine pr_ofG (by decide) rfl hl (Nat.le_of_ble_eq_true rfl) (fun X hA hX hXn hXt => ?_)
  subst hX
  show pr_G g X mJ0_length_8abf5.2.2.1 _ 0 0 0 [.ref (pr_ak g k)] [] T I L
  refine pr_aload_n hA dJ0_length_8abf5_0 rfl ?_
  refine pr_sgetv hA hk rfl dJ0_length_8abf5_1 ?_
  refine pr_salen hA hk dJ0_length_8abf5_4 ?_
  refine pr_aload_n hA dJ0_length_8abf5_5 rfl ?_
  refine pr_callTi hA [] (c_coder (pr_hl hA) hk) v_J0_335 hk rfl rfl (by decide) (Nat.zero_le _) (Nat.zero_le _) rfl (Nat.le_of_ble_eq_true rfl) dJ0_length_8abf5_6 ?_
  refine pr_ishr hA dJ0_length_8abf5_9 ?_
  rw [show ((nI (pr_slen.getD k 0)) >>> ((0 : Int32) &&& 31)) = (nI (pr_slen.getD k 0)) from (sl_sh k)]
  exact pr_ireturn hA rfl rfl (Nat.zero_le _) (Nat.zero_le _) dJ0_length_8abf5_10 ⟨rfl, rfl, rfl, rfl⟩

set_option maxRecDepth 100000 in
set_option maxHeartbeats 400000 in
theorem c_chk3n {g : pr_C} {l : Launch} (hl : l.stackTraces = false) {T : pr_T} {I : pr_I} {L : pr_L} {j n : Nat} (hj : j < n) (hn : n < 2 ^ 31) : pr_M g l 1 0 0 mJ3_checkIndex_8e157 [.int (nI j), .int (nI n), .null] T I L (pr_R (some (.int (nI j))) T I L) pr_no := by
  refine pr_ofG (by decide) rfl hl (Nat.le_of_ble_eq_true rfl) (fun X hA hX hXn hXt => ?_)
  subst hX
  show pr_G g X mJ3_checkIndex_8e157.2.2.1 _ 0 0 0 [.int (nI j), .int (nI n), .null] [] T I L
  refine pr_iload_n hA dJ3_checkIndex_8e157_0 rfl ?_
  refine pr_if_lt hA 9 dJ3_checkIndex_8e157_1 (by decide) (fun c_1 => ?_) (fun c_1 => ?_)
  · exact absurd c_1 (nI_pos (by omega))
  · refine pr_iload_n hA dJ3_checkIndex_8e157_4 rfl ?_
    refine pr_iload_n hA dJ3_checkIndex_8e157_5 rfl ?_
    refine pr_icmp_lt hA 16 dJ3_checkIndex_8e157_6 (by decide) (fun c_6 => ?_) (fun c_6 => ?_)
    · have n_6 : j < n := (nI_ltI (by omega) (by omega)).mp c_6
      refine pr_iload_n hA dJ3_checkIndex_8e157_16 rfl ?_
      exact pr_ireturn hA rfl rfl (Nat.zero_le _) (Nat.zero_le _) dJ3_checkIndex_8e157_17 ⟨rfl, rfl, rfl, rfl⟩
    · exact absurd ((nI_ltI (by omega) (by omega)).mpr hj) (Int32.not_lt.mpr (by first | exact c_6 | exact Int32.not_lt.mp c_6))

set_option maxRecDepth 100000 in
set_option maxHeartbeats 400000 in
theorem c_chk3r {g : pr_C} {l : Launch} (hl : l.stackTraces = false) {T : pr_T} {I : pr_I} {L : pr_L} {j n : Nat} {t : Nat} (hj : j < n) (hn : n < 2 ^ 31) : pr_M g l 1 0 0 mJ3_checkIndex_8e157 [.int (nI j), .int (nI n), .ref t] T I L (pr_R (some (.int (nI j))) T I L) pr_no := by
  refine pr_ofG (by decide) rfl hl (Nat.le_of_ble_eq_true rfl) (fun X hA hX hXn hXt => ?_)
  subst hX
  show pr_G g X mJ3_checkIndex_8e157.2.2.1 _ 0 0 0 [.int (nI j), .int (nI n), .ref t] [] T I L
  refine pr_iload_n hA dJ3_checkIndex_8e157_0 rfl ?_
  refine pr_if_lt hA 9 dJ3_checkIndex_8e157_1 (by decide) (fun c_1 => ?_) (fun c_1 => ?_)
  · exact absurd c_1 (nI_pos (by omega))
  · refine pr_iload_n hA dJ3_checkIndex_8e157_4 rfl ?_
    refine pr_iload_n hA dJ3_checkIndex_8e157_5 rfl ?_
    refine pr_icmp_lt hA 16 dJ3_checkIndex_8e157_6 (by decide) (fun c_6 => ?_) (fun c_6 => ?_)
    · have n_6 : j < n := (nI_ltI (by omega) (by omega)).mp c_6
      refine pr_iload_n hA dJ3_checkIndex_8e157_16 rfl ?_
      exact pr_ireturn hA rfl rfl (Nat.zero_le _) (Nat.zero_le _) dJ3_checkIndex_8e157_17 ⟨rfl, rfl, rfl, rfl⟩
    · exact absurd ((nI_ltI (by omega) (by omega)).mpr hj) (Int32.not_lt.mpr (by first | exact c_6 | exact Int32.not_lt.mp c_6))

theorem c_chk3 {g : pr_C} {l : Launch} (hl : l.stackTraces = false) {T : pr_T} {I : pr_I} {L : pr_L} {j n : Nat} {v : Value} (hv : v = .null ∨ ∃ t, v = .ref t) (hj : j < n) (hn : n < 2 ^ 31) : pr_M g l 1 0 0 mJ3_checkIndex_8e157 [.int (nI j), .int (nI n), v] T I L (pr_R (some (.int (nI j))) T I L) pr_no := by
  rcases hv with rfl | ⟨t, rfl⟩
  · exact c_chk3n hl hj hn
  · exact c_chk3r hl hj hn
set_option maxRecDepth 100000 in
set_option maxHeartbeats 400000 in
theorem c_chk0 {g : pr_C} {l : Launch} (hl : l.stackTraces = false) {T : pr_T} {I : pr_I} {L : pr_L} {j n : Nat} (hj : j < n) (hn : n < 2 ^ 31) : pr_M g l 2 0 0 mJ0_checkIndex_df160 [.int (nI j), .int (nI n)] T I L (pr_R none T I L) pr_no := by
  refine pr_ofG (by decide) rfl hl (Nat.le_of_ble_eq_true rfl) (fun X hA hX hXn hXt => ?_)
  subst hX
  show pr_G g X mJ0_checkIndex_df160.2.2.1 _ 0 0 0 [.int (nI j), .int (nI n)] [] T I L
  refine pr_iload_n hA dJ0_checkIndex_df160_0 rfl ?_
  refine pr_iload_n hA dJ0_checkIndex_df160_1 rfl ?_
  refine pr_getsQ hA rfl dJ0_checkIndex_df160_2 (fun v hv => ?_)
  refine pr_callSi hA [.int (nI j), .int (nI n), v] (c_chk3 (pr_hl hA) hv hj hn) s_J0_1059 rfl (by decide) (Nat.zero_le _) (Nat.zero_le _) rfl (Nat.le_of_ble_eq_true rfl) dJ0_checkIndex_df160_5 ?_
  refine pr_pop hA dJ0_checkIndex_df160_8 rfl ?_
  exact pr_return hA rfl (Nat.zero_le _) (Nat.zero_le _) dJ0_checkIndex_df160_9 ⟨rfl, rfl, rfl, rfl⟩

theorem sch_c : ∀ k, k < 7 → ∀ j, j < pr_slen.getD k 0 → (((pr_sch k j) &&& (255 : Int32)).toUInt32 % 65536).toInt32 = pr_sch k j ∧ narrow .char (.int (pr_sch k j)) = .int (pr_sch k j) := by decide +kernel
set_option maxRecDepth 100000 in
set_option maxHeartbeats 400000 in
theorem c_cat1 {g : pr_C} {l : Launch} (hl : l.stackTraces = false) {T : pr_T} {I : pr_I} {L : pr_L} {k : Nat} (hk : k < 7) {j : Nat} (hj : j < pr_slen.getD k 0) : pr_M g l 3 0 0 mJ1_charAt_3b067 [.ref (pr_av g k), .int (nI j)] T I L (pr_R (some (.int (pr_sch k j))) T I L) pr_no := by
  refine pr_ofG (by decide) rfl hl (Nat.le_of_ble_eq_true rfl) (fun X hA hX hXn hXt => ?_)
  subst hX
  show pr_G g X mJ1_charAt_3b067.2.2.1 _ 0 0 0 [.ref (pr_av g k), .int (nI j)] [] T I L
  have hsle := sl_le k hk
  refine pr_iload_n hA dJ1_charAt_3b067_0 rfl ?_
  refine pr_aload_n hA dJ1_charAt_3b067_1 rfl ?_
  refine pr_salen hA hk dJ1_charAt_3b067_2 ?_
  refine pr_callSv hA [.int (nI j), .int (nI (pr_slen.getD k 0))] (c_chk0 (pr_hl hA) (by omega) (by omega)) s_J1_9 rfl (by decide) (Nat.zero_le _) (Nat.zero_le _) rfl (Nat.le_of_ble_eq_true rfl) dJ1_charAt_3b067_3 ?_
  refine pr_aload_n hA dJ1_charAt_3b067_6 rfl ?_
  refine pr_iload_n hA dJ1_charAt_3b067_7 rfl ?_
  refine pr_sbald hA hk (by omega) dJ1_charAt_3b067_8 ?_
  refine pr_sipush hA (255) dJ1_charAt_3b067_9 (by decide) ?_
  refine pr_iand hA dJ1_charAt_3b067_12 ?_
  refine pr_i2c hA dJ1_charAt_3b067_13 ?_
  rw [show ((((pr_sch k j) &&& (255 : Int32))).toUInt32 % 65536).toInt32 = (pr_sch k j) from (sch_c k hk j hj).1]
  exact pr_ireturn hA rfl (sch_c k hk j hj).2 (Nat.zero_le _) (Nat.zero_le _) dJ1_charAt_3b067_14 ⟨rfl, rfl, rfl, rfl⟩

set_option maxRecDepth 100000 in
set_option maxHeartbeats 400000 in
theorem c_cat {g : pr_C} {l : Launch} (hl : l.stackTraces = false) {T : pr_T} {I : pr_I} {L : pr_L} {k : Nat} (hk : k < 7) {j : Nat} (hj : j < pr_slen.getD k 0) : pr_M g l 4 0 0 mJ0_charAt_5068e [.ref (pr_ak g k), .int (nI j)] T I L (pr_R (some (.int (pr_sch k j))) T I L) pr_no := by
  refine pr_ofG (by decide) rfl hl (Nat.le_of_ble_eq_true rfl) (fun X hA hX hXn hXt => ?_)
  subst hX
  show pr_G g X mJ0_charAt_5068e.2.2.1 _ 0 0 0 [.ref (pr_ak g k), .int (nI j)] [] T I L
  refine pr_aload_n hA dJ0_charAt_5068e_0 rfl ?_
  refine pr_callTi hA [] (c_isLatin (pr_hl hA) hk) v_J0_492 hk rfl rfl (by decide) (Nat.zero_le _) (Nat.zero_le _) rfl (Nat.le_of_ble_eq_true rfl) dJ0_charAt_5068e_1 ?_
  refine pr_if_eq hA 16 dJ0_charAt_5068e_4 (by decide) (fun c_4 => ?_) (fun c_4 => ?_)
  · exact absurd c_4 (by decide)
  · refine pr_aload_n hA dJ0_charAt_5068e_7 rfl ?_
    refine pr_sgetv hA hk rfl dJ0_charAt_5068e_8 ?_
    refine pr_iload_n hA dJ0_charAt_5068e_11 rfl ?_
    refine pr_callSi hA [.ref (pr_av g k), .int (nI j)] (c_cat1 (pr_hl hA) hk hj) s_J0_495 rfl (by decide) (Nat.zero_le _) (Nat.zero_le _) rfl (Nat.le_of_ble_eq_true rfl) dJ0_charAt_5068e_12 ?_
    exact pr_ireturn hA rfl (sch_c k hk j hj).2 (Nat.zero_le _) (Nat.zero_le _) dJ0_charAt_5068e_15 ⟨rfl, rfl, rfl, rfl⟩

noncomputable def pk_it (k : Nat) : Nat → Int64
  | 0 => 0
  | j + 1 => (pk_it k j <<< ((8 : Int32).toInt64 &&& 63)) ||| (pr_sch k j).toInt64
noncomputable def pk (k : Nat) : Int64 := pk_it k (pr_slen.getD k 0)
set_option maxRecDepth 100000 in
set_option maxHeartbeats 400000 in
theorem c_packed {g : pr_C} {l : Launch} (hl : l.stackTraces = false) {T : pr_T} {I : pr_I} {L : pr_L} {k : Nat} (hk : k < 7) : pr_M g l 5 0 0 mX1_packed [.ref (pr_ak g k)] T I L (pr_R (some (.long (pk k))) T I L) pr_no := by
  refine pr_ofG (by decide) rfl hl (Nat.le_of_ble_eq_true rfl) (fun X hA hX hXn hXt => ?_)
  subst hX
  show pr_G g X mX1_packed.2.2.1 _ 0 0 0 [.ref (pr_ak g k), .null, .null, .null] [] T I L
  have hsle := sl_le k hk
  refine pr_lconst hA 0 dX1_packed_0 (by decide) ?_
  refine pr_lstore_n (ls' := [_, _, _, _]) hA dX1_packed_1 (by decide) rfl ?_
  refine pr_iconst hA (nI 0) dX1_packed_2 (by decide) ?_
  refine pr_istore_n (ls' := [_, _, _, _]) hA dX1_packed_3 (by decide) rfl ?_
  have lp4 : ∀ (i j : Nat), pr_slen.getD k 0 - j = i → j ≤ pr_slen.getD k 0 → pr_G g X mX1_packed.2.2.1 (pr_MQ g X (pr_R (some (.long (pk k))) T I L) pr_no 0 0) 0 0 4 [.ref (pr_ak g k), .long (pk_it k j), .null, .int (nI j)] [] T I L := by
    intro i
    induction i using Nat.strongRecOn with | ind i ih =>
    intro j hi hj
    refine pr_iload_n hA dX1_packed_4 rfl ?_
    refine pr_aload_n hA dX1_packed_5 rfl ?_
    refine pr_callTi hA [] (c_slen (pr_hl hA) hk) v_X1_140 hk rfl rfl (by decide) (Nat.zero_le _) (Nat.zero_le _) rfl (Nat.le_of_ble_eq_true rfl) dX1_packed_6 ?_
    refine pr_icmp_ge hA 30 dX1_packed_9 (by decide) (fun c_9 => ?_) (fun c_9 => ?_)
    · have n_9 : (pr_slen.getD k 0) ≤ j := (nI_leI (by omega) (by omega)).mp c_9
      have e : j = pr_slen.getD k 0 := by omega
      subst e
      refine pr_lload_n hA dX1_packed_30 rfl ?_
      exact pr_lreturn hA rfl (Nat.zero_le _) (Nat.zero_le _) dX1_packed_31 ⟨rfl, rfl, rfl, rfl⟩
    · have n_9 : ¬ (pr_slen.getD k 0) ≤ j := fun q => c_9 ((nI_leI (by omega) (by omega)).mpr q)
      refine pr_lload_n hA dX1_packed_12 rfl ?_
      refine pr_bipush hA (8) dX1_packed_13 (by decide) ?_
      refine pr_lshl hA dX1_packed_15 ?_
      refine pr_aload_n hA dX1_packed_16 rfl ?_
      refine pr_iload_n hA dX1_packed_17 rfl ?_
      refine pr_callTi hA [.int (nI j)] (c_cat (pr_hl hA) hk (by omega)) v_X1_145 hk rfl rfl (by decide) (Nat.zero_le _) (Nat.zero_le _) rfl (Nat.le_of_ble_eq_true rfl) dX1_packed_18 ?_
      refine pr_i2l hA dX1_packed_21 ?_
      refine pr_lor hA dX1_packed_22 ?_
      refine pr_lstore_n (ls' := [_, _, _, _]) hA dX1_packed_23 (by decide) rfl ?_
      refine pr_iinc (ls' := [_, _, _, _]) hA (nI (j + 1)) dX1_packed_24 (by decide) rfl (nI_inc _) rfl ?_
      refine pr_goto hA 4 dX1_packed_27 (by decide) ?_
      exact ih (pr_slen.getD k 0 - (j + 1)) (by omega) (j + 1) rfl (by omega)
  exact lp4 _ 0 rfl (Nat.zero_le _)

