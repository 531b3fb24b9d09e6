/-! WHAT THE CLASS REFUSES: the three checks, where they pass and where they throw -/
def eIOO : String := "java/lang/IndexOutOfBoundsException"
def eIAE : String := "java/lang/IllegalArgumentException"
set_option maxRecDepth 100000 in
theorem c_ri_ok2 {g : pr_C} {l : Launch} (hl : l.stackTraces = false) {T : pr_T} {I : pr_I} {L : pr_L} {a n : Int32} (h0 : ¬ a < 0) (h1 : a < n) : pr_M g l 1 0 0 mX7_requireIndex [.int a, .int n] T I L (pr_R none T I L) pr_no := by
  refine pr_ofG (by decide) rfl hl (Nat.le_of_ble_eq_true rfl) (fun X hA hX hXn hXt => ?_)
  subst hX
  show pr_G g X mX7_requireIndex.2.2.1 _ 0 0 0 [.int a, .int n] [] T I L
  refine pr_iload_n hA dX7_requireIndex_0 rfl ?_
  refine pr_if_lt hA 9 dX7_requireIndex_1 (by decide) (fun c_1 => absurd c_1 h0) (fun c_1 => ?_)
  refine pr_iload_n hA dX7_requireIndex_4 rfl ?_
  refine pr_iload_n hA dX7_requireIndex_5 rfl ?_
  refine pr_icmp_lt hA 20 dX7_requireIndex_6 (by decide) (fun c_6 => ?_) (fun c_6 => ?_)
  · exact pr_return hA rfl (Nat.zero_le _) (Nat.zero_le _) dX7_requireIndex_20 ⟨rfl, rfl, rfl, rfl⟩
  · exact absurd h1 (by first | exact c_6 | exact Int32.not_lt.mpr c_6)
set_option maxRecDepth 100000 in
theorem c_ri_th {g : pr_C} {l : Launch} (hl : l.stackTraces = false) {T : pr_T} {I : pr_I} {L : pr_L} {a n : Int32} (h : a < 0 ∨ ¬ a < n) : pr_M g l 6 1 6 mX7_requireIndex [.int a, .int n] T I L pr_nv (pr_Th eIOO T I L) := by
  refine pr_ofG (by decide) rfl hl (Nat.le_of_ble_eq_true rfl) (fun X hA hX hXn hXt => ?_)
  subst hX
  have th : pr_G g X mX7_requireIndex.2.2.1 (pr_MQ g X pr_nv (pr_Th eIOO T I L) 1 6) 0 0 9 [.int a, .int n] [] T I L := pr_throwW hA hXt rfl thw_i (by decide) rfl (by decide) (by decide) (by decide) dX7_requireIndex_9 dX7_requireIndex_12 dX7_requireIndex_13 dX7_requireIndex_16 dX7_requireIndex_19 (fun N hN => ⟨rfl, ⟨N, hN, rfl⟩, rfl, rfl⟩)
  show pr_G g X mX7_requireIndex.2.2.1 _ 0 0 0 [.int a, .int n] [] T I L
  refine pr_iload_n hA dX7_requireIndex_0 rfl ?_
  refine pr_if_lt hA 9 dX7_requireIndex_1 (by decide) (fun c_1 => th) (fun c_1 => ?_)
  refine pr_iload_n hA dX7_requireIndex_4 rfl ?_
  refine pr_iload_n hA dX7_requireIndex_5 rfl ?_
  refine pr_icmp_lt hA 20 dX7_requireIndex_6 (by decide) (fun c_6 => ?_) (fun c_6 => th)
  exact absurd c_6 (h.resolve_left c_1)
set_option maxRecDepth 100000 in
theorem c_rr_th {g : pr_C} {l : Launch} (hl : l.stackTraces = false) {T : pr_T} {I : pr_I} {L : pr_L} {a lo hi : Int32} (h : a < lo ∨ ¬ a ≤ hi) : pr_M g l 6 1 6 mX7_requireRange [.int a, .int lo, .int hi] T I L pr_nv (pr_Th eIAE T I L) := by
  refine pr_ofG (by decide) rfl hl (Nat.le_of_ble_eq_true rfl) (fun X hA hX hXn hXt => ?_)
  subst hX
  have th : pr_G g X mX7_requireRange.2.2.1 (pr_MQ g X pr_nv (pr_Th eIAE T I L) 1 6) 0 0 10 [.int a, .int lo, .int hi] [] T I L := pr_throwW hA hXt rfl thw_r (by decide) rfl (by decide) (by decide) (by decide) dX7_requireRange_10 dX7_requireRange_13 dX7_requireRange_14 dX7_requireRange_17 dX7_requireRange_20 (fun N hN => ⟨rfl, ⟨N, hN, rfl⟩, rfl, rfl⟩)
  show pr_G g X mX7_requireRange.2.2.1 _ 0 0 0 [.int a, .int lo, .int hi] [] T I L
  refine pr_iload_n hA dX7_requireRange_0 rfl ?_
  refine pr_iload_n hA dX7_requireRange_1 rfl ?_
  refine pr_icmp_lt hA 10 dX7_requireRange_2 (by decide) (fun c_2 => th) (fun c_2 => ?_)
  refine pr_iload_n hA dX7_requireRange_5 rfl ?_
  refine pr_iload_n hA dX7_requireRange_6 rfl ?_
  refine pr_icmp_le hA 21 dX7_requireRange_7 (by decide) (fun c_7 => ?_) (fun c_7 => th)
  exact absurd c_7 (h.resolve_left c_2)
