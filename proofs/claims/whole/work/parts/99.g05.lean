/-! THE LAW'S WRAPPERS: a face's answer laid into the cell 'out', or a number for what it threw -/
/-- it answers c; nothing else has changed but that there are cells more -/
def pr_Ct (c : Int32) (T : pr_T) (I : pr_I) (L : pr_L) : Option Value → pr_T → pr_I → pr_L → Prop := fun v T' I' L' => v = some (.int c) ∧ (∃ N, T.1 ≤ N ∧ T' = (N, T.2)) ∧ I' = I ∧ L' = L
theorem k_activeWithout {g : pr_C} {l : Launch} (hl : l.stackTraces = false) {T T' : pr_T} {I I' : pr_I} {L L' : pr_L} {x o d' mc' ms' : Nat} {p1 p2 : Int32} {r : Int32} (hM : pr_M g l d' mc' ms' mX7_activeWithout [.ref x, .int p1, .int p2] T I L (pr_R (some (.int r)) T' I' L') pr_no) (hx : T.2.1 x = (7, 0)) (ho : T'.2.1 o = (21, 1)) : pr_M g l (d' + 1) mc' ms' mL_activeWithout [.ref x, .int p1, .int p2, .ref o] T I L (pr_R (some (.int 0)) T' I' (pr_upl L' o 0 r.toInt64)) pr_no := by
  refine pr_ofGH (by decide) rfl hl (Nat.le_of_ble_eq_true rfl) (fun X hA hX hXn hXt => ?_)
  subst hX
  show pr_G g X mL_activeWithout.2.2.1 _ 0 0 0 [.ref x, .int p1, .int p2, .ref o, .null] [] T I L
  refine pr_aload_n hA dL_activeWithout_0 rfl ?_
  refine pr_iconst hA (nI 0) dL_activeWithout_1 (by decide) ?_
  refine pr_aload_n hA dL_activeWithout_2 rfl ?_
  refine pr_iload_n hA dL_activeWithout_3 rfl ?_
  refine pr_iload_n hA dL_activeWithout_4 rfl ?_
  refine pr_callV hA rfl (As := [.int p1, .int p2]) hM v_L_132 hx (by decide) rfl rfl rfl (Nat.le_refl _) (Nat.le_of_eq (Nat.zero_add _)) (Nat.le_of_eq (Nat.zero_add _)) (st := [.int (nI 0), .ref o]) rfl (Nat.le_of_ble_eq_true rfl) dL_activeWithout_5 (fun v T2 I2 L2 h => ?_) (fun _ _ _ _ h => h.elim)
  obtain ⟨rfl, rfl, rfl, rfl⟩ := h
  refine pr_i2l hA dL_activeWithout_8 ?_
  refine pr_lastE hA ho (by decide) (by decide) dL_activeWithout_9 ?_
  refine pr_goto hA 21 dL_activeWithout_10 (by decide) ?_
  refine pr_iconst hA (0) dL_activeWithout_21 (by decide) ?_
  exact pr_ireturn hA rfl rfl (Nat.le_of_eq (Nat.zero_add _)) (Nat.le_of_eq (Nat.zero_add _)) dL_activeWithout_22 ⟨rfl, rfl, rfl, rfl⟩
theorem k_activeWithout_i {g : pr_C} {l : Launch} (hl : l.stackTraces = false) {T : pr_T} {I : pr_I} {L : pr_L} {x o d' mc' ms' : Nat} {p1 p2 : Int32} (hM : pr_M g l d' mc' ms' mX7_activeWithout [.ref x, .int p1, .int p2] T I L pr_nv (pr_Th eIOO T I L)) (hx : T.2.1 x = (7, 0)) : pr_M g l (d' + 1) mc' ms' mL_activeWithout [.ref x, .int p1, .int p2, .ref o] T I L (pr_Ct 1 T I L) pr_no := by
  refine pr_ofGH (by decide) rfl hl (Nat.le_of_ble_eq_true rfl) (fun X hA hX hXn hXt => ?_)
  subst hX
  show pr_G g X mL_activeWithout.2.2.1 _ 0 0 0 [.ref x, .int p1, .int p2, .ref o, .null] [] T I L
  refine pr_aload_n hA dL_activeWithout_0 rfl ?_
  refine pr_iconst hA (nI 0) dL_activeWithout_1 (by decide) ?_
  refine pr_aload_n hA dL_activeWithout_2 rfl ?_
  refine pr_iload_n hA dL_activeWithout_3 rfl ?_
  refine pr_iload_n hA dL_activeWithout_4 rfl ?_
  refine pr_callV hA rfl (As := [.int p1, .int p2]) hM v_L_132 hx (by decide) rfl rfl rfl (Nat.le_refl _) (Nat.le_of_eq (Nat.zero_add _)) (Nat.le_of_eq (Nat.zero_add _)) (st := [.int (nI 0), .ref o]) rfl (Nat.le_of_ble_eq_true rfl) dL_activeWithout_5 (fun v T2 I2 L2 h => h.elim) (fun E2 T2 I2 L2 h => ?_)
  obtain ⟨rfl, ⟨N, hN, rfl⟩, rfl, rfl⟩ := h
  refine pr_catch hA [] ⟨0, 10, 13, 13⟩ [⟨0, 10, 17, 18⟩] hXt (Or.inl rfl) (by decide) (by decide) kC_L_13 (by decide +kernel) (fun q => ?_)
  refine pr_astore (ls' := _) hA dL_activeWithout_13 (by decide) rfl ?_
  refine pr_iconst hA (1) dL_activeWithout_15 (by decide) ?_
  exact pr_ireturn hA rfl rfl (Nat.le_of_eq (Nat.zero_add _)) (Nat.le_of_eq (Nat.zero_add _)) dL_activeWithout_16 ⟨rfl, ⟨N, hN, rfl⟩, rfl, rfl⟩
theorem k_activeWithout_a {g : pr_C} {l : Launch} (hl : l.stackTraces = false) {T : pr_T} {I : pr_I} {L : pr_L} {x o d' mc' ms' : Nat} {p1 p2 : Int32} (hM : pr_M g l d' mc' ms' mX7_activeWithout [.ref x, .int p1, .int p2] T I L pr_nv (pr_Th eIAE T I L)) (hx : T.2.1 x = (7, 0)) : pr_M g l (d' + 1) mc' ms' mL_activeWithout [.ref x, .int p1, .int p2, .ref o] T I L (pr_Ct 2 T I L) pr_no := by
  refine pr_ofGH (by decide) rfl hl (Nat.le_of_ble_eq_true rfl) (fun X hA hX hXn hXt => ?_)
  subst hX
  show pr_G g X mL_activeWithout.2.2.1 _ 0 0 0 [.ref x, .int p1, .int p2, .ref o, .null] [] T I L
  refine pr_aload_n hA dL_activeWithout_0 rfl ?_
  refine pr_iconst hA (nI 0) dL_activeWithout_1 (by decide) ?_
  refine pr_aload_n hA dL_activeWithout_2 rfl ?_
  refine pr_iload_n hA dL_activeWithout_3 rfl ?_
  refine pr_iload_n hA dL_activeWithout_4 rfl ?_
  refine pr_callV hA rfl (As := [.int p1, .int p2]) hM v_L_132 hx (by decide) rfl rfl rfl (Nat.le_refl _) (Nat.le_of_eq (Nat.zero_add _)) (Nat.le_of_eq (Nat.zero_add _)) (st := [.int (nI 0), .ref o]) rfl (Nat.le_of_ble_eq_true rfl) dL_activeWithout_5 (fun v T2 I2 L2 h => h.elim) (fun E2 T2 I2 L2 h => ?_)
  obtain ⟨rfl, ⟨N, hN, rfl⟩, rfl, rfl⟩ := h
  refine pr_catch hA [⟨0, 10, 13, 13⟩] ⟨0, 10, 17, 18⟩ [] hXt (Or.inr ⟨rfl, _, rfl, by decide, kC_L_13⟩) (by decide) (by decide) kC_L_18 (by decide +kernel) (fun q => ?_)
  refine pr_astore (ls' := _) hA dL_activeWithout_17 (by decide) rfl ?_
  refine pr_iconst hA (2) dL_activeWithout_19 (by decide) ?_
  exact pr_ireturn hA rfl rfl (Nat.le_of_eq (Nat.zero_add _)) (Nat.le_of_eq (Nat.zero_add _)) dL_activeWithout_20 ⟨rfl, ⟨N, hN, rfl⟩, rfl, rfl⟩
theorem k_advance {g : pr_C} {l : Launch} (hl : l.stackTraces = false) {T T' : pr_T} {I I' : pr_I} {L L' : pr_L} {x o d' mc' ms' : Nat} {p1 : Int32} {r : Int32} (hM : pr_M g l d' mc' ms' mX7_advance [.ref x, .int p1] T I L (pr_R (some (.int r)) T' I' L') pr_no) (hx : T.2.1 x = (7, 0)) (ho : T'.2.1 o = (21, 1)) : pr_M g l (d' + 1) mc' ms' mL_advance [.ref x, .int p1, .ref o] T I L (pr_R (some (.int 0)) T' I' (pr_upl L' o 0 r.toInt64)) pr_no := by
  refine pr_ofGH (by decide) rfl hl (Nat.le_of_ble_eq_true rfl) (fun X hA hX hXn hXt => ?_)
  subst hX
  show pr_G g X mL_advance.2.2.1 _ 0 0 0 [.ref x, .int p1, .ref o, .null] [] T I L
  refine pr_aload_n hA dL_advance_0 rfl ?_
  refine pr_iconst hA (nI 0) dL_advance_1 (by decide) ?_
  refine pr_aload_n hA dL_advance_2 rfl ?_
  refine pr_iload_n hA dL_advance_3 rfl ?_
  refine pr_callV hA rfl (As := [.int p1]) hM v_L_46 hx (by decide) rfl rfl rfl (Nat.le_refl _) (Nat.le_of_eq (Nat.zero_add _)) (Nat.le_of_eq (Nat.zero_add _)) (st := [.int (nI 0), .ref o]) rfl (Nat.le_of_ble_eq_true rfl) dL_advance_4 (fun v T2 I2 L2 h => ?_) (fun _ _ _ _ h => h.elim)
  obtain ⟨rfl, rfl, rfl, rfl⟩ := h
  refine pr_i2l hA dL_advance_7 ?_
  refine pr_lastE hA ho (by decide) (by decide) dL_advance_8 ?_
  refine pr_goto hA 15 dL_advance_9 (by decide) ?_
  refine pr_iconst hA (0) dL_advance_15 (by decide) ?_
  exact pr_ireturn hA rfl rfl (Nat.le_of_eq (Nat.zero_add _)) (Nat.le_of_eq (Nat.zero_add _)) dL_advance_16 ⟨rfl, rfl, rfl, rfl⟩
theorem k_advance_a {g : pr_C} {l : Launch} (hl : l.stackTraces = false) {T : pr_T} {I : pr_I} {L : pr_L} {x o d' mc' ms' : Nat} {p1 : Int32} (hM : pr_M g l d' mc' ms' mX7_advance [.ref x, .int p1] T I L pr_nv (pr_Th eIAE T I L)) (hx : T.2.1 x = (7, 0)) : pr_M g l (d' + 1) mc' ms' mL_advance [.ref x, .int p1, .ref o] T I L (pr_Ct 1 T I L) pr_no := by
  refine pr_ofGH (by decide) rfl hl (Nat.le_of_ble_eq_true rfl) (fun X hA hX hXn hXt => ?_)
  subst hX
  show pr_G g X mL_advance.2.2.1 _ 0 0 0 [.ref x, .int p1, .ref o, .null] [] T I L
  refine pr_aload_n hA dL_advance_0 rfl ?_
  refine pr_iconst hA (nI 0) dL_advance_1 (by decide) ?_
  refine pr_aload_n hA dL_advance_2 rfl ?_
  refine pr_iload_n hA dL_advance_3 rfl ?_
  refine pr_callV hA rfl (As := [.int p1]) hM v_L_46 hx (by decide) rfl rfl rfl (Nat.le_refl _) (Nat.le_of_eq (Nat.zero_add _)) (Nat.le_of_eq (Nat.zero_add _)) (st := [.int (nI 0), .ref o]) rfl (Nat.le_of_ble_eq_true rfl) dL_advance_4 (fun v T2 I2 L2 h => h.elim) (fun E2 T2 I2 L2 h => ?_)
  obtain ⟨rfl, ⟨N, hN, rfl⟩, rfl, rfl⟩ := h
  refine pr_catch hA [] ⟨0, 9, 12, 18⟩ [] hXt (Or.inl rfl) (by decide) (by decide) kC_L_18 (by decide +kernel) (fun q => ?_)
  refine pr_astore_n (ls' := _) hA dL_advance_12 (by decide) rfl ?_
  refine pr_iconst hA (1) dL_advance_13 (by decide) ?_
  exact pr_ireturn hA rfl rfl (Nat.le_of_eq (Nat.zero_add _)) (Nat.le_of_eq (Nat.zero_add _)) dL_advance_14 ⟨rfl, ⟨N, hN, rfl⟩, rfl, rfl⟩
theorem k_availableAfter {g : pr_C} {l : Launch} (hl : l.stackTraces = false) {T T' : pr_T} {I I' : pr_I} {L L' : pr_L} {x o d' mc' ms' : Nat} {p1 p2 : Int32} {r : Int32} (hM : pr_M g l d' mc' ms' mX7_availableAfter [.ref x, .int p1, .int p2] T I L (pr_R (some (.int r)) T' I' L') pr_no) (hx : T.2.1 x = (7, 0)) (ho : T'.2.1 o = (21, 1)) : pr_M g l (d' + 1) mc' ms' mL_availableAfter [.ref x, .int p1, .int p2, .ref o] T I L (pr_R (some (.int 0)) T' I' (pr_upl L' o 0 r.toInt64)) pr_no := by
  refine pr_ofGH (by decide) rfl hl (Nat.le_of_ble_eq_true rfl) (fun X hA hX hXn hXt => ?_)
  subst hX
  show pr_G g X mL_availableAfter.2.2.1 _ 0 0 0 [.ref x, .int p1, .int p2, .ref o, .null] [] T I L
  refine pr_aload_n hA dL_availableAfter_0 rfl ?_
  refine pr_iconst hA (nI 0) dL_availableAfter_1 (by decide) ?_
  refine pr_aload_n hA dL_availableAfter_2 rfl ?_
  refine pr_iload_n hA dL_availableAfter_3 rfl ?_
  refine pr_iload_n hA dL_availableAfter_4 rfl ?_
  refine pr_callV hA rfl (As := [.int p1, .int p2]) hM v_L_123 hx (by decide) rfl rfl rfl (Nat.le_refl _) (Nat.le_of_eq (Nat.zero_add _)) (Nat.le_of_eq (Nat.zero_add _)) (st := [.int (nI 0), .ref o]) rfl (Nat.le_of_ble_eq_true rfl) dL_availableAfter_5 (fun v T2 I2 L2 h => ?_) (fun _ _ _ _ h => h.elim)
  obtain ⟨rfl, rfl, rfl, rfl⟩ := h
  refine pr_i2l hA dL_availableAfter_8 ?_
  refine pr_lastE hA ho (by decide) (by decide) dL_availableAfter_9 ?_
  refine pr_goto hA 21 dL_availableAfter_10 (by decide) ?_
  refine pr_iconst hA (0) dL_availableAfter_21 (by decide) ?_
  exact pr_ireturn hA rfl rfl (Nat.le_of_eq (Nat.zero_add _)) (Nat.le_of_eq (Nat.zero_add _)) dL_availableAfter_22 ⟨rfl, rfl, rfl, rfl⟩
theorem k_availableAfter_i {g : pr_C} {l : Launch} (hl : l.stackTraces = false) {T : pr_T} {I : pr_I} {L : pr_L} {x o d' mc' ms' : Nat} {p1 p2 : Int32} (hM : pr_M g l d' mc' ms' mX7_availableAfter [.ref x, .int p1, .int p2] T I L pr_nv (pr_Th eIOO T I L)) (hx : T.2.1 x = (7, 0)) : pr_M g l (d' + 1) mc' ms' mL_availableAfter [.ref x, .int p1, .int p2, .ref o] T I L (pr_Ct 1 T I L) pr_no := by
  refine pr_ofGH (by decide) rfl hl (Nat.le_of_ble_eq_true rfl) (fun X hA hX hXn hXt => ?_)
  subst hX
  show pr_G g X mL_availableAfter.2.2.1 _ 0 0 0 [.ref x, .int p1, .int p2, .ref o, .null] [] T I L
  refine pr_aload_n hA dL_availableAfter_0 rfl ?_
  refine pr_iconst hA (nI 0) dL_availableAfter_1 (by decide) ?_
  refine pr_aload_n hA dL_availableAfter_2 rfl ?_
  refine pr_iload_n hA dL_availableAfter_3 rfl ?_
  refine pr_iload_n hA dL_availableAfter_4 rfl ?_
  refine pr_callV hA rfl (As := [.int p1, .int p2]) hM v_L_123 hx (by decide) rfl rfl rfl (Nat.le_refl _) (Nat.le_of_eq (Nat.zero_add _)) (Nat.le_of_eq (Nat.zero_add _)) (st := [.int (nI 0), .ref o]) rfl (Nat.le_of_ble_eq_true rfl) dL_availableAfter_5 (fun v T2 I2 L2 h => h.elim) (fun E2 T2 I2 L2 h => ?_)
  obtain ⟨rfl, ⟨N, hN, rfl⟩, rfl, rfl⟩ := h
  refine pr_catch hA [] ⟨0, 10, 13, 13⟩ [⟨0, 10, 17, 18⟩] hXt (Or.inl rfl) (by decide) (by decide) kC_L_13 (by decide +kernel) (fun q => ?_)
  refine pr_astore (ls' := _) hA dL_availableAfter_13 (by decide) rfl ?_
  refine pr_iconst hA (1) dL_availableAfter_15 (by decide) ?_
  exact pr_ireturn hA rfl rfl (Nat.le_of_eq (Nat.zero_add _)) (Nat.le_of_eq (Nat.zero_add _)) dL_availableAfter_16 ⟨rfl, ⟨N, hN, rfl⟩, rfl, rfl⟩
theorem k_availableAfter_a {g : pr_C} {l : Launch} (hl : l.stackTraces = false) {T : pr_T} {I : pr_I} {L : pr_L} {x o d' mc' ms' : Nat} {p1 p2 : Int32} (hM : pr_M g l d' mc' ms' mX7_availableAfter [.ref x, .int p1, .int p2] T I L pr_nv (pr_Th eIAE T I L)) (hx : T.2.1 x = (7, 0)) : pr_M g l (d' + 1) mc' ms' mL_availableAfter [.ref x, .int p1, .int p2, .ref o] T I L (pr_Ct 2 T I L) pr_no := by
  refine pr_ofGH (by decide) rfl hl (Nat.le_of_ble_eq_true rfl) (fun X hA hX hXn hXt => ?_)
  subst hX
  show pr_G g X mL_availableAfter.2.2.1 _ 0 0 0 [.ref x, .int p1, .int p2, .ref o, .null] [] T I L
  refine pr_aload_n hA dL_availableAfter_0 rfl ?_
  refine pr_iconst hA (nI 0) dL_availableAfter_1 (by decide) ?_
  refine pr_aload_n hA dL_availableAfter_2 rfl ?_
  refine pr_iload_n hA dL_availableAfter_3 rfl ?_
  refine pr_iload_n hA dL_availableAfter_4 rfl ?_
  refine pr_callV hA rfl (As := [.int p1, .int p2]) hM v_L_123 hx (by decide) rfl rfl rfl (Nat.le_refl _) (Nat.le_of_eq (Nat.zero_add _)) (Nat.le_of_eq (Nat.zero_add _)) (st := [.int (nI 0), .ref o]) rfl (Nat.le_of_ble_eq_true rfl) dL_availableAfter_5 (fun v T2 I2 L2 h => h.elim) (fun E2 T2 I2 L2 h => ?_)
  obtain ⟨rfl, ⟨N, hN, rfl⟩, rfl, rfl⟩ := h
  refine pr_catch hA [⟨0, 10, 13, 13⟩] ⟨0, 10, 17, 18⟩ [] hXt (Or.inr ⟨rfl, _, rfl, by decide, kC_L_13⟩) (by decide) (by decide) kC_L_18 (by decide +kernel) (fun q => ?_)
  refine pr_astore (ls' := _) hA dL_availableAfter_17 (by decide) rfl ?_
  refine pr_iconst hA (2) dL_availableAfter_19 (by decide) ?_
  exact pr_ireturn hA rfl rfl (Nat.le_of_eq (Nat.zero_add _)) (Nat.le_of_eq (Nat.zero_add _)) dL_availableAfter_20 ⟨rfl, ⟨N, hN, rfl⟩, rfl, rfl⟩
theorem k_bringUp {g : pr_C} {l : Launch} (hl : l.stackTraces = false) {T T' : pr_T} {I I' : pr_I} {L L' : pr_L} {x o d' mc' ms' : Nat} {p1 : Int32} {r : Int32} (hM : pr_M g l d' mc' ms' mX7_bringUp [.ref x, .int p1] T I L (pr_R (some (.int r)) T' I' L') pr_no) (hx : T.2.1 x = (7, 0)) (ho : T'.2.1 o = (21, 1)) : pr_M g l (d' + 1) mc' ms' mL_bringUp [.ref x, .int p1, .ref o] T I L (pr_R (some (.int 0)) T' I' (pr_upl L' o 0 r.toInt64)) pr_no := by
  refine pr_ofGH (by decide) rfl hl (Nat.le_of_ble_eq_true rfl) (fun X hA hX hXn hXt => ?_)
  subst hX
  show pr_G g X mL_bringUp.2.2.1 _ 0 0 0 [.ref x, .int p1, .ref o, .null] [] T I L
  refine pr_aload_n hA dL_bringUp_0 rfl ?_
  refine pr_iconst hA (nI 0) dL_bringUp_1 (by decide) ?_
  refine pr_aload_n hA dL_bringUp_2 rfl ?_
  refine pr_iload_n hA dL_bringUp_3 rfl ?_
  refine pr_callV hA rfl (As := [.int p1]) hM v_L_33 hx (by decide) rfl rfl rfl (Nat.le_refl _) (Nat.le_of_eq (Nat.zero_add _)) (Nat.le_of_eq (Nat.zero_add _)) (st := [.int (nI 0), .ref o]) rfl (Nat.le_of_ble_eq_true rfl) dL_bringUp_4 (fun v T2 I2 L2 h => ?_) (fun _ _ _ _ h => h.elim)
  obtain ⟨rfl, rfl, rfl, rfl⟩ := h
  refine pr_i2l hA dL_bringUp_7 ?_
  refine pr_lastE hA ho (by decide) (by decide) dL_bringUp_8 ?_
  refine pr_goto hA 15 dL_bringUp_9 (by decide) ?_
  refine pr_iconst hA (0) dL_bringUp_15 (by decide) ?_
  exact pr_ireturn hA rfl rfl (Nat.le_of_eq (Nat.zero_add _)) (Nat.le_of_eq (Nat.zero_add _)) dL_bringUp_16 ⟨rfl, rfl, rfl, rfl⟩
theorem k_bringUp_i {g : pr_C} {l : Launch} (hl : l.stackTraces = false) {T : pr_T} {I : pr_I} {L : pr_L} {x o d' mc' ms' : Nat} {p1 : Int32} (hM : pr_M g l d' mc' ms' mX7_bringUp [.ref x, .int p1] T I L pr_nv (pr_Th eIOO T I L)) (hx : T.2.1 x = (7, 0)) : pr_M g l (d' + 1) mc' ms' mL_bringUp [.ref x, .int p1, .ref o] T I L (pr_Ct 1 T I L) pr_no := by
  refine pr_ofGH (by decide) rfl hl (Nat.le_of_ble_eq_true rfl) (fun X hA hX hXn hXt => ?_)
  subst hX
  show pr_G g X mL_bringUp.2.2.1 _ 0 0 0 [.ref x, .int p1, .ref o, .null] [] T I L
  refine pr_aload_n hA dL_bringUp_0 rfl ?_
  refine pr_iconst hA (nI 0) dL_bringUp_1 (by decide) ?_
  refine pr_aload_n hA dL_bringUp_2 rfl ?_
  refine pr_iload_n hA dL_bringUp_3 rfl ?_
  refine pr_callV hA rfl (As := [.int p1]) hM v_L_33 hx (by decide) rfl rfl rfl (Nat.le_refl _) (Nat.le_of_eq (Nat.zero_add _)) (Nat.le_of_eq (Nat.zero_add _)) (st := [.int (nI 0), .ref o]) rfl (Nat.le_of_ble_eq_true rfl) dL_bringUp_4 (fun v T2 I2 L2 h => h.elim) (fun E2 T2 I2 L2 h => ?_)
  obtain ⟨rfl, ⟨N, hN, rfl⟩, rfl, rfl⟩ := h
  refine pr_catch hA [] ⟨0, 9, 12, 13⟩ [] hXt (Or.inl rfl) (by decide) (by decide) kC_L_13 (by decide +kernel) (fun q => ?_)
  refine pr_astore_n (ls' := _) hA dL_bringUp_12 (by decide) rfl ?_
  refine pr_iconst hA (1) dL_bringUp_13 (by decide) ?_
  exact pr_ireturn hA rfl rfl (Nat.le_of_eq (Nat.zero_add _)) (Nat.le_of_eq (Nat.zero_add _)) dL_bringUp_14 ⟨rfl, ⟨N, hN, rfl⟩, rfl, rfl⟩
theorem k_cancel {g : pr_C} {l : Launch} (hl : l.stackTraces = false) {T T' : pr_T} {I I' : pr_I} {L L' : pr_L} {x o d' mc' ms' : Nat} {p1 : Int32} {r : Int32} (hM : pr_M g l d' mc' ms' mX7_cancel [.ref x, .int p1] T I L (pr_R (some (.int r)) T' I' L') pr_no) (hx : T.2.1 x = (7, 0)) (ho : T'.2.1 o = (21, 1)) : pr_M g l (d' + 1) mc' ms' mL_cancel [.ref x, .int p1, .ref o] T I L (pr_R (some (.int 0)) T' I' (pr_upl L' o 0 r.toInt64)) pr_no := by
  refine pr_ofGH (by decide) rfl hl (Nat.le_of_ble_eq_true rfl) (fun X hA hX hXn hXt => ?_)
  subst hX
  show pr_G g X mL_cancel.2.2.1 _ 0 0 0 [.ref x, .int p1, .ref o, .null] [] T I L
  refine pr_aload_n hA dL_cancel_0 rfl ?_
  refine pr_iconst hA (nI 0) dL_cancel_1 (by decide) ?_
  refine pr_aload_n hA dL_cancel_2 rfl ?_
  refine pr_iload_n hA dL_cancel_3 rfl ?_
  refine pr_callV hA rfl (As := [.int p1]) hM v_L_40 hx (by decide) rfl rfl rfl (Nat.le_refl _) (Nat.le_of_eq (Nat.zero_add _)) (Nat.le_of_eq (Nat.zero_add _)) (st := [.int (nI 0), .ref o]) rfl (Nat.le_of_ble_eq_true rfl) dL_cancel_4 (fun v T2 I2 L2 h => ?_) (fun _ _ _ _ h => h.elim)
  obtain ⟨rfl, rfl, rfl, rfl⟩ := h
  refine pr_i2l hA dL_cancel_7 ?_
  refine pr_lastE hA ho (by decide) (by decide) dL_cancel_8 ?_
  refine pr_goto hA 15 dL_cancel_9 (by decide) ?_
  refine pr_iconst hA (0) dL_cancel_15 (by decide) ?_
  exact pr_ireturn hA rfl rfl (Nat.le_of_eq (Nat.zero_add _)) (Nat.le_of_eq (Nat.zero_add _)) dL_cancel_16 ⟨rfl, rfl, rfl, rfl⟩
theorem k_cancel_i {g : pr_C} {l : Launch} (hl : l.stackTraces = false) {T : pr_T} {I : pr_I} {L : pr_L} {x o d' mc' ms' : Nat} {p1 : Int32} (hM : pr_M g l d' mc' ms' mX7_cancel [.ref x, .int p1] T I L pr_nv (pr_Th eIOO T I L)) (hx : T.2.1 x = (7, 0)) : pr_M g l (d' + 1) mc' ms' mL_cancel [.ref x, .int p1, .ref o] T I L (pr_Ct 1 T I L) pr_no := by
  refine pr_ofGH (by decide) rfl hl (Nat.le_of_ble_eq_true rfl) (fun X hA hX hXn hXt => ?_)
  subst hX
  show pr_G g X mL_cancel.2.2.1 _ 0 0 0 [.ref x, .int p1, .ref o, .null] [] T I L
  refine pr_aload_n hA dL_cancel_0 rfl ?_
  refine pr_iconst hA (nI 0) dL_cancel_1 (by decide) ?_
  refine pr_aload_n hA dL_cancel_2 rfl ?_
  refine pr_iload_n hA dL_cancel_3 rfl ?_
  refine pr_callV hA rfl (As := [.int p1]) hM v_L_40 hx (by decide) rfl rfl rfl (Nat.le_refl _) (Nat.le_of_eq (Nat.zero_add _)) (Nat.le_of_eq (Nat.zero_add _)) (st := [.int (nI 0), .ref o]) rfl (Nat.le_of_ble_eq_true rfl) dL_cancel_4 (fun v T2 I2 L2 h => h.elim) (fun E2 T2 I2 L2 h => ?_)
  obtain ⟨rfl, ⟨N, hN, rfl⟩, rfl, rfl⟩ := h
  refine pr_catch hA [] ⟨0, 9, 12, 13⟩ [] hXt (Or.inl rfl) (by decide) (by decide) kC_L_13 (by decide +kernel) (fun q => ?_)
  refine pr_astore_n (ls' := _) hA dL_cancel_12 (by decide) rfl ?_
  refine pr_iconst hA (1) dL_cancel_13 (by decide) ?_
  exact pr_ireturn hA rfl rfl (Nat.le_of_eq (Nat.zero_add _)) (Nat.le_of_eq (Nat.zero_add _)) dL_cancel_14 ⟨rfl, ⟨N, hN, rfl⟩, rfl, rfl⟩
theorem k_cheapest {g : pr_C} {l : Launch} (hl : l.stackTraces = false) {T T' : pr_T} {I I' : pr_I} {L L' : pr_L} {x o d' mc' ms' : Nat} {p1 p2 p3 : Int32} {r : Int32} (hM : pr_M g l d' mc' ms' mX7_cheapest [.ref x, .int p1, .int p2, .int p3] T I L (pr_R (some (.int r)) T' I' L') pr_no) (hx : T.2.1 x = (7, 0)) (ho : T'.2.1 o = (21, 1)) : pr_M g l (d' + 1) mc' ms' mL_cheapest [.ref x, .int p1, .int p2, .int p3, .ref o] T I L (pr_R (some (.int 0)) T' I' (pr_upl L' o 0 r.toInt64)) pr_no := by
  refine pr_ofGH (by decide) rfl hl (Nat.le_of_ble_eq_true rfl) (fun X hA hX hXn hXt => ?_)
  subst hX
  show pr_G g X mL_cheapest.2.2.1 _ 0 0 0 [.ref x, .int p1, .int p2, .int p3, .ref o, .null] [] T I L
  refine pr_aload hA dL_cheapest_0 rfl ?_
  refine pr_iconst hA (nI 0) dL_cheapest_2 (by decide) ?_
  refine pr_aload_n hA dL_cheapest_3 rfl ?_
  refine pr_iload_n hA dL_cheapest_4 rfl ?_
  refine pr_iload_n hA dL_cheapest_5 rfl ?_
  refine pr_iload_n hA dL_cheapest_6 rfl ?_
  refine pr_callV hA rfl (As := [.int p1, .int p2, .int p3]) hM v_L_79 hx (by decide) rfl rfl rfl (Nat.le_refl _) (Nat.le_of_eq (Nat.zero_add _)) (Nat.le_of_eq (Nat.zero_add _)) (st := [.int (nI 0), .ref o]) rfl (Nat.le_of_ble_eq_true rfl) dL_cheapest_7 (fun v T2 I2 L2 h => ?_) (fun _ _ _ _ h => h.elim)
  obtain ⟨rfl, rfl, rfl, rfl⟩ := h
  refine pr_i2l hA dL_cheapest_10 ?_
  refine pr_lastE hA ho (by decide) (by decide) dL_cheapest_11 ?_
  refine pr_goto hA 23 dL_cheapest_12 (by decide) ?_
  refine pr_iconst hA (0) dL_cheapest_23 (by decide) ?_
  exact pr_ireturn hA rfl rfl (Nat.le_of_eq (Nat.zero_add _)) (Nat.le_of_eq (Nat.zero_add _)) dL_cheapest_24 ⟨rfl, rfl, rfl, rfl⟩
theorem k_cheapest_i {g : pr_C} {l : Launch} (hl : l.stackTraces = false) {T : pr_T} {I : pr_I} {L : pr_L} {x o d' mc' ms' : Nat} {p1 p2 p3 : Int32} (hM : pr_M g l d' mc' ms' mX7_cheapest [.ref x, .int p1, .int p2, .int p3] T I L pr_nv (pr_Th eIOO T I L)) (hx : T.2.1 x = (7, 0)) : pr_M g l (d' + 1) mc' ms' mL_cheapest [.ref x, .int p1, .int p2, .int p3, .ref o] T I L (pr_Ct 1 T I L) pr_no := by
  refine pr_ofGH (by decide) rfl hl (Nat.le_of_ble_eq_true rfl) (fun X hA hX hXn hXt => ?_)
  subst hX
  show pr_G g X mL_cheapest.2.2.1 _ 0 0 0 [.ref x, .int p1, .int p2, .int p3, .ref o, .null] [] T I L
  refine pr_aload hA dL_cheapest_0 rfl ?_
  refine pr_iconst hA (nI 0) dL_cheapest_2 (by decide) ?_
  refine pr_aload_n hA dL_cheapest_3 rfl ?_
  refine pr_iload_n hA dL_cheapest_4 rfl ?_
  refine pr_iload_n hA dL_cheapest_5 rfl ?_
  refine pr_iload_n hA dL_cheapest_6 rfl ?_
  refine pr_callV hA rfl (As := [.int p1, .int p2, .int p3]) hM v_L_79 hx (by decide) rfl rfl rfl (Nat.le_refl _) (Nat.le_of_eq (Nat.zero_add _)) (Nat.le_of_eq (Nat.zero_add _)) (st := [.int (nI 0), .ref o]) rfl (Nat.le_of_ble_eq_true rfl) dL_cheapest_7 (fun v T2 I2 L2 h => h.elim) (fun E2 T2 I2 L2 h => ?_)
  obtain ⟨rfl, ⟨N, hN, rfl⟩, rfl, rfl⟩ := h
  refine pr_catch hA [] ⟨0, 12, 15, 13⟩ [⟨0, 12, 19, 18⟩] hXt (Or.inl rfl) (by decide) (by decide) kC_L_13 (by decide +kernel) (fun q => ?_)
  refine pr_astore (ls' := _) hA dL_cheapest_15 (by decide) rfl ?_
  refine pr_iconst hA (1) dL_cheapest_17 (by decide) ?_
  exact pr_ireturn hA rfl rfl (Nat.le_of_eq (Nat.zero_add _)) (Nat.le_of_eq (Nat.zero_add _)) dL_cheapest_18 ⟨rfl, ⟨N, hN, rfl⟩, rfl, rfl⟩
theorem k_cheapest_a {g : pr_C} {l : Launch} (hl : l.stackTraces = false) {T : pr_T} {I : pr_I} {L : pr_L} {x o d' mc' ms' : Nat} {p1 p2 p3 : Int32} (hM : pr_M g l d' mc' ms' mX7_cheapest [.ref x, .int p1, .int p2, .int p3] T I L pr_nv (pr_Th eIAE T I L)) (hx : T.2.1 x = (7, 0)) : pr_M g l (d' + 1) mc' ms' mL_cheapest [.ref x, .int p1, .int p2, .int p3, .ref o] T I L (pr_Ct 2 T I L) pr_no := by
  refine pr_ofGH (by decide) rfl hl (Nat.le_of_ble_eq_true rfl) (fun X hA hX hXn hXt => ?_)
  subst hX
  show pr_G g X mL_cheapest.2.2.1 _ 0 0 0 [.ref x, .int p1, .int p2, .int p3, .ref o, .null] [] T I L
  refine pr_aload hA dL_cheapest_0 rfl ?_
  refine pr_iconst hA (nI 0) dL_cheapest_2 (by decide) ?_
  refine pr_aload_n hA dL_cheapest_3 rfl ?_
  refine pr_iload_n hA dL_cheapest_4 rfl ?_
  refine pr_iload_n hA dL_cheapest_5 rfl ?_
  refine pr_iload_n hA dL_cheapest_6 rfl ?_
  refine pr_callV hA rfl (As := [.int p1, .int p2, .int p3]) hM v_L_79 hx (by decide) rfl rfl rfl (Nat.le_refl _) (Nat.le_of_eq (Nat.zero_add _)) (Nat.le_of_eq (Nat.zero_add _)) (st := [.int (nI 0), .ref o]) rfl (Nat.le_of_ble_eq_true rfl) dL_cheapest_7 (fun v T2 I2 L2 h => h.elim) (fun E2 T2 I2 L2 h => ?_)
  obtain ⟨rfl, ⟨N, hN, rfl⟩, rfl, rfl⟩ := h
  refine pr_catch hA [⟨0, 12, 15, 13⟩] ⟨0, 12, 19, 18⟩ [] hXt (Or.inr ⟨rfl, _, rfl, by decide, kC_L_13⟩) (by decide) (by decide) kC_L_18 (by decide +kernel) (fun q => ?_)
  refine pr_astore (ls' := _) hA dL_cheapest_19 (by decide) rfl ?_
  refine pr_iconst hA (2) dL_cheapest_21 (by decide) ?_
  exact pr_ireturn hA rfl rfl (Nat.le_of_eq (Nat.zero_add _)) (Nat.le_of_eq (Nat.zero_add _)) dL_cheapest_22 ⟨rfl, ⟨N, hN, rfl⟩, rfl, rfl⟩
theorem k_cheapestLink {g : pr_C} {l : Launch} (hl : l.stackTraces = false) {T T' : pr_T} {I I' : pr_I} {L L' : pr_L} {x o d' mc' ms' : Nat} {p1 p2 p3 p4 : Int32} {r : Int32} (hM : pr_M g l d' mc' ms' mX7_cheapestLink [.ref x, .int p1, .int p2, .int p3, .int p4] T I L (pr_R (some (.int r)) T' I' L') pr_no) (hx : T.2.1 x = (7, 0)) (ho : T'.2.1 o = (21, 1)) : pr_M g l (d' + 1) mc' ms' mL_cheapestLink [.ref x, .int p1, .int p2, .int p3, .int p4, .ref o] T I L (pr_R (some (.int 0)) T' I' (pr_upl L' o 0 r.toInt64)) pr_no := by
  refine pr_ofGH (by decide) rfl hl (Nat.le_of_ble_eq_true rfl) (fun X hA hX hXn hXt => ?_)
  subst hX
  show pr_G g X mL_cheapestLink.2.2.1 _ 0 0 0 [.ref x, .int p1, .int p2, .int p3, .int p4, .ref o, .null] [] T I L
  refine pr_aload hA dL_cheapestLink_0 rfl ?_
  refine pr_iconst hA (nI 0) dL_cheapestLink_2 (by decide) ?_
  refine pr_aload_n hA dL_cheapestLink_3 rfl ?_
  refine pr_iload_n hA dL_cheapestLink_4 rfl ?_
  refine pr_iload_n hA dL_cheapestLink_5 rfl ?_
  refine pr_iload_n hA dL_cheapestLink_6 rfl ?_
  refine pr_iload hA dL_cheapestLink_7 rfl ?_
  refine pr_callV hA rfl (As := [.int p1, .int p2, .int p3, .int p4]) hM v_L_83 hx (by decide) rfl rfl rfl (Nat.le_refl _) (Nat.le_of_eq (Nat.zero_add _)) (Nat.le_of_eq (Nat.zero_add _)) (st := [.int (nI 0), .ref o]) rfl (Nat.le_of_ble_eq_true rfl) dL_cheapestLink_9 (fun v T2 I2 L2 h => ?_) (fun _ _ _ _ h => h.elim)
  obtain ⟨rfl, rfl, rfl, rfl⟩ := h
  refine pr_i2l hA dL_cheapestLink_12 ?_
  refine pr_lastE hA ho (by decide) (by decide) dL_cheapestLink_13 ?_
  refine pr_goto hA 25 dL_cheapestLink_14 (by decide) ?_
  refine pr_iconst hA (0) dL_cheapestLink_25 (by decide) ?_
  exact pr_ireturn hA rfl rfl (Nat.le_of_eq (Nat.zero_add _)) (Nat.le_of_eq (Nat.zero_add _)) dL_cheapestLink_26 ⟨rfl, rfl, rfl, rfl⟩
theorem k_cheapestLink_i {g : pr_C} {l : Launch} (hl : l.stackTraces = false) {T : pr_T} {I : pr_I} {L : pr_L} {x o d' mc' ms' : Nat} {p1 p2 p3 p4 : Int32} (hM : pr_M g l d' mc' ms' mX7_cheapestLink [.ref x, .int p1, .int p2, .int p3, .int p4] T I L pr_nv (pr_Th eIOO T I L)) (hx : T.2.1 x = (7, 0)) : pr_M g l (d' + 1) mc' ms' mL_cheapestLink [.ref x, .int p1, .int p2, .int p3, .int p4, .ref o] T I L (pr_Ct 1 T I L) pr_no := by
  refine pr_ofGH (by decide) rfl hl (Nat.le_of_ble_eq_true rfl) (fun X hA hX hXn hXt => ?_)
  subst hX
  show pr_G g X mL_cheapestLink.2.2.1 _ 0 0 0 [.ref x, .int p1, .int p2, .int p3, .int p4, .ref o, .null] [] T I L
  refine pr_aload hA dL_cheapestLink_0 rfl ?_
  refine pr_iconst hA (nI 0) dL_cheapestLink_2 (by decide) ?_
  refine pr_aload_n hA dL_cheapestLink_3 rfl ?_
  refine pr_iload_n hA dL_cheapestLink_4 rfl ?_
  refine pr_iload_n hA dL_cheapestLink_5 rfl ?_
  refine pr_iload_n hA dL_cheapestLink_6 rfl ?_
  refine pr_iload hA dL_cheapestLink_7 rfl ?_
  refine pr_callV hA rfl (As := [.int p1, .int p2, .int p3, .int p4]) hM v_L_83 hx (by decide) rfl rfl rfl (Nat.le_refl _) (Nat.le_of_eq (Nat.zero_add _)) (Nat.le_of_eq (Nat.zero_add _)) (st := [.int (nI 0), .ref o]) rfl (Nat.le_of_ble_eq_true rfl) dL_cheapestLink_9 (fun v T2 I2 L2 h => h.elim) (fun E2 T2 I2 L2 h => ?_)
  obtain ⟨rfl, ⟨N, hN, rfl⟩, rfl, rfl⟩ := h
  refine pr_catch hA [] ⟨0, 14, 17, 13⟩ [⟨0, 14, 21, 18⟩] hXt (Or.inl rfl) (by decide) (by decide) kC_L_13 (by decide +kernel) (fun q => ?_)
  refine pr_astore (ls' := _) hA dL_cheapestLink_17 (by decide) rfl ?_
  refine pr_iconst hA (1) dL_cheapestLink_19 (by decide) ?_
  exact pr_ireturn hA rfl rfl (Nat.le_of_eq (Nat.zero_add _)) (Nat.le_of_eq (Nat.zero_add _)) dL_cheapestLink_20 ⟨rfl, ⟨N, hN, rfl⟩, rfl, rfl⟩
theorem k_cheapestLink_a {g : pr_C} {l : Launch} (hl : l.stackTraces = false) {T : pr_T} {I : pr_I} {L : pr_L} {x o d' mc' ms' : Nat} {p1 p2 p3 p4 : Int32} (hM : pr_M g l d' mc' ms' mX7_cheapestLink [.ref x, .int p1, .int p2, .int p3, .int p4] T I L pr_nv (pr_Th eIAE T I L)) (hx : T.2.1 x = (7, 0)) : pr_M g l (d' + 1) mc' ms' mL_cheapestLink [.ref x, .int p1, .int p2, .int p3, .int p4, .ref o] T I L (pr_Ct 2 T I L) pr_no := by
  refine pr_ofGH (by decide) rfl hl (Nat.le_of_ble_eq_true rfl) (fun X hA hX hXn hXt => ?_)
  subst hX
  show pr_G g X mL_cheapestLink.2.2.1 _ 0 0 0 [.ref x, .int p1, .int p2, .int p3, .int p4, .ref o, .null] [] T I L
  refine pr_aload hA dL_cheapestLink_0 rfl ?_
  refine pr_iconst hA (nI 0) dL_cheapestLink_2 (by decide) ?_
  refine pr_aload_n hA dL_cheapestLink_3 rfl ?_
  refine pr_iload_n hA dL_cheapestLink_4 rfl ?_
  refine pr_iload_n hA dL_cheapestLink_5 rfl ?_
  refine pr_iload_n hA dL_cheapestLink_6 rfl ?_
  refine pr_iload hA dL_cheapestLink_7 rfl ?_
  refine pr_callV hA rfl (As := [.int p1, .int p2, .int p3, .int p4]) hM v_L_83 hx (by decide) rfl rfl rfl (Nat.le_refl _) (Nat.le_of_eq (Nat.zero_add _)) (Nat.le_of_eq (Nat.zero_add _)) (st := [.int (nI 0), .ref o]) rfl (Nat.le_of_ble_eq_true rfl) dL_cheapestLink_9 (fun v T2 I2 L2 h => h.elim) (fun E2 T2 I2 L2 h => ?_)
  obtain ⟨rfl, ⟨N, hN, rfl⟩, rfl, rfl⟩ := h
  refine pr_catch hA [⟨0, 14, 17, 13⟩] ⟨0, 14, 21, 18⟩ [] hXt (Or.inr ⟨rfl, _, rfl, by decide, kC_L_13⟩) (by decide) (by decide) kC_L_18 (by decide +kernel) (fun q => ?_)
  refine pr_astore (ls' := _) hA dL_cheapestLink_21 (by decide) rfl ?_
  refine pr_iconst hA (2) dL_cheapestLink_23 (by decide) ?_
  exact pr_ireturn hA rfl rfl (Nat.le_of_eq (Nat.zero_add _)) (Nat.le_of_eq (Nat.zero_add _)) dL_cheapestLink_24 ⟨rfl, ⟨N, hN, rfl⟩, rfl, rfl⟩
theorem k_criticalLinks {g : pr_C} {l : Launch} (hl : l.stackTraces = false) {T T' : pr_T} {I I' : pr_I} {L L' : pr_L} {x o d' mc' ms' : Nat} {p1 p2 p3 : Int32} {r : Int32} (hM : pr_M g l d' mc' ms' mX7_criticalLinks [.ref x, .int p1, .int p2, .int p3] T I L (pr_R (some (.int r)) T' I' L') pr_no) (hx : T.2.1 x = (7, 0)) (ho : T'.2.1 o = (21, 1)) : pr_M g l (d' + 1) mc' ms' mL_criticalLinks [.ref x, .int p1, .int p2, .int p3, .ref o] T I L (pr_R (some (.int 0)) T' I' (pr_upl L' o 0 r.toInt64)) pr_no := by
  refine pr_ofGH (by decide) rfl hl (Nat.le_of_ble_eq_true rfl) (fun X hA hX hXn hXt => ?_)
  subst hX
  show pr_G g X mL_criticalLinks.2.2.1 _ 0 0 0 [.ref x, .int p1, .int p2, .int p3, .ref o, .null] [] T I L
  refine pr_aload hA dL_criticalLinks_0 rfl ?_
  refine pr_iconst hA (nI 0) dL_criticalLinks_2 (by decide) ?_
  refine pr_aload_n hA dL_criticalLinks_3 rfl ?_
  refine pr_iload_n hA dL_criticalLinks_4 rfl ?_
  refine pr_iload_n hA dL_criticalLinks_5 rfl ?_
  refine pr_iload_n hA dL_criticalLinks_6 rfl ?_
  refine pr_callV hA rfl (As := [.int p1, .int p2, .int p3]) hM v_L_107 hx (by decide) rfl rfl rfl (Nat.le_refl _) (Nat.le_of_eq (Nat.zero_add _)) (Nat.le_of_eq (Nat.zero_add _)) (st := [.int (nI 0), .ref o]) rfl (Nat.le_of_ble_eq_true rfl) dL_criticalLinks_7 (fun v T2 I2 L2 h => ?_) (fun _ _ _ _ h => h.elim)
  obtain ⟨rfl, rfl, rfl, rfl⟩ := h
  refine pr_i2l hA dL_criticalLinks_10 ?_
  refine pr_lastE hA ho (by decide) (by decide) dL_criticalLinks_11 ?_
  refine pr_goto hA 23 dL_criticalLinks_12 (by decide) ?_
  refine pr_iconst hA (0) dL_criticalLinks_23 (by decide) ?_
  exact pr_ireturn hA rfl rfl (Nat.le_of_eq (Nat.zero_add _)) (Nat.le_of_eq (Nat.zero_add _)) dL_criticalLinks_24 ⟨rfl, rfl, rfl, rfl⟩
theorem k_criticalLinks_i {g : pr_C} {l : Launch} (hl : l.stackTraces = false) {T : pr_T} {I : pr_I} {L : pr_L} {x o d' mc' ms' : Nat} {p1 p2 p3 : Int32} (hM : pr_M g l d' mc' ms' mX7_criticalLinks [.ref x, .int p1, .int p2, .int p3] T I L pr_nv (pr_Th eIOO T I L)) (hx : T.2.1 x = (7, 0)) : pr_M g l (d' + 1) mc' ms' mL_criticalLinks [.ref x, .int p1, .int p2, .int p3, .ref o] T I L (pr_Ct 1 T I L) pr_no := by
  refine pr_ofGH (by decide) rfl hl (Nat.le_of_ble_eq_true rfl) (fun X hA hX hXn hXt => ?_)
  subst hX
  show pr_G g X mL_criticalLinks.2.2.1 _ 0 0 0 [.ref x, .int p1, .int p2, .int p3, .ref o, .null] [] T I L
  refine pr_aload hA dL_criticalLinks_0 rfl ?_
  refine pr_iconst hA (nI 0) dL_criticalLinks_2 (by decide) ?_
  refine pr_aload_n hA dL_criticalLinks_3 rfl ?_
  refine pr_iload_n hA dL_criticalLinks_4 rfl ?_
  refine pr_iload_n hA dL_criticalLinks_5 rfl ?_
  refine pr_iload_n hA dL_criticalLinks_6 rfl ?_
  refine pr_callV hA rfl (As := [.int p1, .int p2, .int p3]) hM v_L_107 hx (by decide) rfl rfl rfl (Nat.le_refl _) (Nat.le_of_eq (Nat.zero_add _)) (Nat.le_of_eq (Nat.zero_add _)) (st := [.int (nI 0), .ref o]) rfl (Nat.le_of_ble_eq_true rfl) dL_criticalLinks_7 (fun v T2 I2 L2 h => h.elim) (fun E2 T2 I2 L2 h => ?_)
  obtain ⟨rfl, ⟨N, hN, rfl⟩, rfl, rfl⟩ := h
  refine pr_catch hA [] ⟨0, 12, 15, 13⟩ [⟨0, 12, 19, 18⟩] hXt (Or.inl rfl) (by decide) (by decide) kC_L_13 (by decide +kernel) (fun q => ?_)
  refine pr_astore (ls' := _) hA dL_criticalLinks_15 (by decide) rfl ?_
  refine pr_iconst hA (1) dL_criticalLinks_17 (by decide) ?_
  exact pr_ireturn hA rfl rfl (Nat.le_of_eq (Nat.zero_add _)) (Nat.le_of_eq (Nat.zero_add _)) dL_criticalLinks_18 ⟨rfl, ⟨N, hN, rfl⟩, rfl, rfl⟩
theorem k_criticalLinks_a {g : pr_C} {l : Launch} (hl : l.stackTraces = false) {T : pr_T} {I : pr_I} {L : pr_L} {x o d' mc' ms' : Nat} {p1 p2 p3 : Int32} (hM : pr_M g l d' mc' ms' mX7_criticalLinks [.ref x, .int p1, .int p2, .int p3] T I L pr_nv (pr_Th eIAE T I L)) (hx : T.2.1 x = (7, 0)) : pr_M g l (d' + 1) mc' ms' mL_criticalLinks [.ref x, .int p1, .int p2, .int p3, .ref o] T I L (pr_Ct 2 T I L) pr_no := by
  refine pr_ofGH (by decide) rfl hl (Nat.le_of_ble_eq_true rfl) (fun X hA hX hXn hXt => ?_)
  subst hX
  show pr_G g X mL_criticalLinks.2.2.1 _ 0 0 0 [.ref x, .int p1, .int p2, .int p3, .ref o, .null] [] T I L
  refine pr_aload hA dL_criticalLinks_0 rfl ?_
  refine pr_iconst hA (nI 0) dL_criticalLinks_2 (by decide) ?_
  refine pr_aload_n hA dL_criticalLinks_3 rfl ?_
  refine pr_iload_n hA dL_criticalLinks_4 rfl ?_
  refine pr_iload_n hA dL_criticalLinks_5 rfl ?_
  refine pr_iload_n hA dL_criticalLinks_6 rfl ?_
  refine pr_callV hA rfl (As := [.int p1, .int p2, .int p3]) hM v_L_107 hx (by decide) rfl rfl rfl (Nat.le_refl _) (Nat.le_of_eq (Nat.zero_add _)) (Nat.le_of_eq (Nat.zero_add _)) (st := [.int (nI 0), .ref o]) rfl (Nat.le_of_ble_eq_true rfl) dL_criticalLinks_7 (fun v T2 I2 L2 h => h.elim) (fun E2 T2 I2 L2 h => ?_)
  obtain ⟨rfl, ⟨N, hN, rfl⟩, rfl, rfl⟩ := h
  refine pr_catch hA [⟨0, 12, 15, 13⟩] ⟨0, 12, 19, 18⟩ [] hXt (Or.inr ⟨rfl, _, rfl, by decide, kC_L_13⟩) (by decide) (by decide) kC_L_18 (by decide +kernel) (fun q => ?_)
  refine pr_astore (ls' := _) hA dL_criticalLinks_19 (by decide) rfl ?_
  refine pr_iconst hA (2) dL_criticalLinks_21 (by decide) ?_
  exact pr_ireturn hA rfl rfl (Nat.le_of_eq (Nat.zero_add _)) (Nat.le_of_eq (Nat.zero_add _)) dL_criticalLinks_22 ⟨rfl, ⟨N, hN, rfl⟩, rfl, rfl⟩
theorem k_disjointPaths {g : pr_C} {l : Launch} (hl : l.stackTraces = false) {T T' : pr_T} {I I' : pr_I} {L L' : pr_L} {x o d' mc' ms' : Nat} {p1 p2 p3 : Int32} {r : Int32} (hM : pr_M g l d' mc' ms' mX7_disjointPaths [.ref x, .int p1, .int p2, .int p3] T I L (pr_R (some (.int r)) T' I' L') pr_no) (hx : T.2.1 x = (7, 0)) (ho : T'.2.1 o = (21, 1)) : pr_M g l (d' + 1) mc' ms' mL_disjointPaths [.ref x, .int p1, .int p2, .int p3, .ref o] T I L (pr_R (some (.int 0)) T' I' (pr_upl L' o 0 r.toInt64)) pr_no := by
  refine pr_ofGH (by decide) rfl hl (Nat.le_of_ble_eq_true rfl) (fun X hA hX hXn hXt => ?_)
  subst hX
  show pr_G g X mL_disjointPaths.2.2.1 _ 0 0 0 [.ref x, .int p1, .int p2, .int p3, .ref o, .null] [] T I L
  refine pr_aload hA dL_disjointPaths_0 rfl ?_
  refine pr_iconst hA (nI 0) dL_disjointPaths_2 (by decide) ?_
  refine pr_aload_n hA dL_disjointPaths_3 rfl ?_
  refine pr_iload_n hA dL_disjointPaths_4 rfl ?_
  refine pr_iload_n hA dL_disjointPaths_5 rfl ?_
  refine pr_iload_n hA dL_disjointPaths_6 rfl ?_
  refine pr_callV hA rfl (As := [.int p1, .int p2, .int p3]) hM v_L_101 hx (by decide) rfl rfl rfl (Nat.le_refl _) (Nat.le_of_eq (Nat.zero_add _)) (Nat.le_of_eq (Nat.zero_add _)) (st := [.int (nI 0), .ref o]) rfl (Nat.le_of_ble_eq_true rfl) dL_disjointPaths_7 (fun v T2 I2 L2 h => ?_) (fun _ _ _ _ h => h.elim)
  obtain ⟨rfl, rfl, rfl, rfl⟩ := h
  refine pr_i2l hA dL_disjointPaths_10 ?_
  refine pr_lastE hA ho (by decide) (by decide) dL_disjointPaths_11 ?_
  refine pr_goto hA 23 dL_disjointPaths_12 (by decide) ?_
  refine pr_iconst hA (0) dL_disjointPaths_23 (by decide) ?_
  exact pr_ireturn hA rfl rfl (Nat.le_of_eq (Nat.zero_add _)) (Nat.le_of_eq (Nat.zero_add _)) dL_disjointPaths_24 ⟨rfl, rfl, rfl, rfl⟩
theorem k_disjointPaths_i {g : pr_C} {l : Launch} (hl : l.stackTraces = false) {T : pr_T} {I : pr_I} {L : pr_L} {x o d' mc' ms' : Nat} {p1 p2 p3 : Int32} (hM : pr_M g l d' mc' ms' mX7_disjointPaths [.ref x, .int p1, .int p2, .int p3] T I L pr_nv (pr_Th eIOO T I L)) (hx : T.2.1 x = (7, 0)) : pr_M g l (d' + 1) mc' ms' mL_disjointPaths [.ref x, .int p1, .int p2, .int p3, .ref o] T I L (pr_Ct 1 T I L) pr_no := by
  refine pr_ofGH (by decide) rfl hl (Nat.le_of_ble_eq_true rfl) (fun X hA hX hXn hXt => ?_)
  subst hX
  show pr_G g X mL_disjointPaths.2.2.1 _ 0 0 0 [.ref x, .int p1, .int p2, .int p3, .ref o, .null] [] T I L
  refine pr_aload hA dL_disjointPaths_0 rfl ?_
  refine pr_iconst hA (nI 0) dL_disjointPaths_2 (by decide) ?_
  refine pr_aload_n hA dL_disjointPaths_3 rfl ?_
  refine pr_iload_n hA dL_disjointPaths_4 rfl ?_
  refine pr_iload_n hA dL_disjointPaths_5 rfl ?_
  refine pr_iload_n hA dL_disjointPaths_6 rfl ?_
  refine pr_callV hA rfl (As := [.int p1, .int p2, .int p3]) hM v_L_101 hx (by decide) rfl rfl rfl (Nat.le_refl _) (Nat.le_of_eq (Nat.zero_add _)) (Nat.le_of_eq (Nat.zero_add _)) (st := [.int (nI 0), .ref o]) rfl (Nat.le_of_ble_eq_true rfl) dL_disjointPaths_7 (fun v T2 I2 L2 h => h.elim) (fun E2 T2 I2 L2 h => ?_)
  obtain ⟨rfl, ⟨N, hN, rfl⟩, rfl, rfl⟩ := h
  refine pr_catch hA [] ⟨0, 12, 15, 13⟩ [⟨0, 12, 19, 18⟩] hXt (Or.inl rfl) (by decide) (by decide) kC_L_13 (by decide +kernel) (fun q => ?_)
  refine pr_astore (ls' := _) hA dL_disjointPaths_15 (by decide) rfl ?_
  refine pr_iconst hA (1) dL_disjointPaths_17 (by decide) ?_
  exact pr_ireturn hA rfl rfl (Nat.le_of_eq (Nat.zero_add _)) (Nat.le_of_eq (Nat.zero_add _)) dL_disjointPaths_18 ⟨rfl, ⟨N, hN, rfl⟩, rfl, rfl⟩
theorem k_disjointPaths_a {g : pr_C} {l : Launch} (hl : l.stackTraces = false) {T : pr_T} {I : pr_I} {L : pr_L} {x o d' mc' ms' : Nat} {p1 p2 p3 : Int32} (hM : pr_M g l d' mc' ms' mX7_disjointPaths [.ref x, .int p1, .int p2, .int p3] T I L pr_nv (pr_Th eIAE T I L)) (hx : T.2.1 x = (7, 0)) : pr_M g l (d' + 1) mc' ms' mL_disjointPaths [.ref x, .int p1, .int p2, .int p3, .ref o] T I L (pr_Ct 2 T I L) pr_no := by
  refine pr_ofGH (by decide) rfl hl (Nat.le_of_ble_eq_true rfl) (fun X hA hX hXn hXt => ?_)
  subst hX
  show pr_G g X mL_disjointPaths.2.2.1 _ 0 0 0 [.ref x, .int p1, .int p2, .int p3, .ref o, .null] [] T I L
  refine pr_aload hA dL_disjointPaths_0 rfl ?_
  refine pr_iconst hA (nI 0) dL_disjointPaths_2 (by decide) ?_
  refine pr_aload_n hA dL_disjointPaths_3 rfl ?_
  refine pr_iload_n hA dL_disjointPaths_4 rfl ?_
  refine pr_iload_n hA dL_disjointPaths_5 rfl ?_
  refine pr_iload_n hA dL_disjointPaths_6 rfl ?_
  refine pr_callV hA rfl (As := [.int p1, .int p2, .int p3]) hM v_L_101 hx (by decide) rfl rfl rfl (Nat.le_refl _) (Nat.le_of_eq (Nat.zero_add _)) (Nat.le_of_eq (Nat.zero_add _)) (st := [.int (nI 0), .ref o]) rfl (Nat.le_of_ble_eq_true rfl) dL_disjointPaths_7 (fun v T2 I2 L2 h => h.elim) (fun E2 T2 I2 L2 h => ?_)
  obtain ⟨rfl, ⟨N, hN, rfl⟩, rfl, rfl⟩ := h
  refine pr_catch hA [⟨0, 12, 15, 13⟩] ⟨0, 12, 19, 18⟩ [] hXt (Or.inr ⟨rfl, _, rfl, by decide, kC_L_13⟩) (by decide) (by decide) kC_L_18 (by decide +kernel) (fun q => ?_)
  refine pr_astore (ls' := _) hA dL_disjointPaths_19 (by decide) rfl ?_
  refine pr_iconst hA (2) dL_disjointPaths_21 (by decide) ?_
  exact pr_ireturn hA rfl rfl (Nat.le_of_eq (Nat.zero_add _)) (Nat.le_of_eq (Nat.zero_add _)) dL_disjointPaths_22 ⟨rfl, ⟨N, hN, rfl⟩, rfl, rfl⟩
theorem k_extend {g : pr_C} {l : Launch} (hl : l.stackTraces = false) {T T' : pr_T} {I I' : pr_I} {L L' : pr_L} {x o d' mc' ms' : Nat} {p1 : Int32} {r : Int32} (hM : pr_M g l d' mc' ms' mX7_extend [.ref x, .int p1] T I L (pr_R (some (.int r)) T' I' L') pr_no) (hx : T.2.1 x = (7, 0)) (ho : T'.2.1 o = (21, 1)) : pr_M g l (d' + 1) mc' ms' mL_extend [.ref x, .int p1, .ref o] T I L (pr_R (some (.int 0)) T' I' (pr_upl L' o 0 r.toInt64)) pr_no := by
  refine pr_ofGH (by decide) rfl hl (Nat.le_of_ble_eq_true rfl) (fun X hA hX hXn hXt => ?_)
  subst hX
  show pr_G g X mL_extend.2.2.1 _ 0 0 0 [.ref x, .int p1, .ref o, .null] [] T I L
  refine pr_aload_n hA dL_extend_0 rfl ?_
  refine pr_iconst hA (nI 0) dL_extend_1 (by decide) ?_
  refine pr_aload_n hA dL_extend_2 rfl ?_
  refine pr_iload_n hA dL_extend_3 rfl ?_
  refine pr_callV hA rfl (As := [.int p1]) hM v_L_43 hx (by decide) rfl rfl rfl (Nat.le_refl _) (Nat.le_of_eq (Nat.zero_add _)) (Nat.le_of_eq (Nat.zero_add _)) (st := [.int (nI 0), .ref o]) rfl (Nat.le_of_ble_eq_true rfl) dL_extend_4 (fun v T2 I2 L2 h => ?_) (fun _ _ _ _ h => h.elim)
  obtain ⟨rfl, rfl, rfl, rfl⟩ := h
  refine pr_i2l hA dL_extend_7 ?_
  refine pr_lastE hA ho (by decide) (by decide) dL_extend_8 ?_
  refine pr_goto hA 15 dL_extend_9 (by decide) ?_
  refine pr_iconst hA (0) dL_extend_15 (by decide) ?_
  exact pr_ireturn hA rfl rfl (Nat.le_of_eq (Nat.zero_add _)) (Nat.le_of_eq (Nat.zero_add _)) dL_extend_16 ⟨rfl, rfl, rfl, rfl⟩
theorem k_extend_i {g : pr_C} {l : Launch} (hl : l.stackTraces = false) {T : pr_T} {I : pr_I} {L : pr_L} {x o d' mc' ms' : Nat} {p1 : Int32} (hM : pr_M g l d' mc' ms' mX7_extend [.ref x, .int p1] T I L pr_nv (pr_Th eIOO T I L)) (hx : T.2.1 x = (7, 0)) : pr_M g l (d' + 1) mc' ms' mL_extend [.ref x, .int p1, .ref o] T I L (pr_Ct 1 T I L) pr_no := by
  refine pr_ofGH (by decide) rfl hl (Nat.le_of_ble_eq_true rfl) (fun X hA hX hXn hXt => ?_)
  subst hX
  show pr_G g X mL_extend.2.2.1 _ 0 0 0 [.ref x, .int p1, .ref o, .null] [] T I L
  refine pr_aload_n hA dL_extend_0 rfl ?_
  refine pr_iconst hA (nI 0) dL_extend_1 (by decide) ?_
  refine pr_aload_n hA dL_extend_2 rfl ?_
  refine pr_iload_n hA dL_extend_3 rfl ?_
  refine pr_callV hA rfl (As := [.int p1]) hM v_L_43 hx (by decide) rfl rfl rfl (Nat.le_refl _) (Nat.le_of_eq (Nat.zero_add _)) (Nat.le_of_eq (Nat.zero_add _)) (st := [.int (nI 0), .ref o]) rfl (Nat.le_of_ble_eq_true rfl) dL_extend_4 (fun v T2 I2 L2 h => h.elim) (fun E2 T2 I2 L2 h => ?_)
  obtain ⟨rfl, ⟨N, hN, rfl⟩, rfl, rfl⟩ := h
  refine pr_catch hA [] ⟨0, 9, 12, 13⟩ [] hXt (Or.inl rfl) (by decide) (by decide) kC_L_13 (by decide +kernel) (fun q => ?_)
  refine pr_astore_n (ls' := _) hA dL_extend_12 (by decide) rfl ?_
  refine pr_iconst hA (1) dL_extend_13 (by decide) ?_
  exact pr_ireturn hA rfl rfl (Nat.le_of_eq (Nat.zero_add _)) (Nat.le_of_eq (Nat.zero_add _)) dL_extend_14 ⟨rfl, ⟨N, hN, rfl⟩, rfl, rfl⟩
theorem k_greatestFlow {g : pr_C} {l : Launch} (hl : l.stackTraces = false) {T T' : pr_T} {I I' : pr_I} {L L' : pr_L} {x o d' mc' ms' : Nat} {p1 p2 : Int32} {r : Int32} (hM : pr_M g l d' mc' ms' mX7_greatestFlow [.ref x, .int p1, .int p2] T I L (pr_R (some (.int r)) T' I' L') pr_no) (hx : T.2.1 x = (7, 0)) (ho : T'.2.1 o = (21, 1)) : pr_M g l (d' + 1) mc' ms' mL_greatestFlow [.ref x, .int p1, .int p2, .ref o] T I L (pr_R (some (.int 0)) T' I' (pr_upl L' o 0 r.toInt64)) pr_no := by
  refine pr_ofGH (by decide) rfl hl (Nat.le_of_ble_eq_true rfl) (fun X hA hX hXn hXt => ?_)
  subst hX
  show pr_G g X mL_greatestFlow.2.2.1 _ 0 0 0 [.ref x, .int p1, .int p2, .ref o, .null] [] T I L
  refine pr_aload_n hA dL_greatestFlow_0 rfl ?_
  refine pr_iconst hA (nI 0) dL_greatestFlow_1 (by decide) ?_
  refine pr_aload_n hA dL_greatestFlow_2 rfl ?_
  refine pr_iload_n hA dL_greatestFlow_3 rfl ?_
  refine pr_iload_n hA dL_greatestFlow_4 rfl ?_
  refine pr_callV hA rfl (As := [.int p1, .int p2]) hM v_L_95 hx (by decide) rfl rfl rfl (Nat.le_refl _) (Nat.le_of_eq (Nat.zero_add _)) (Nat.le_of_eq (Nat.zero_add _)) (st := [.int (nI 0), .ref o]) rfl (Nat.le_of_ble_eq_true rfl) dL_greatestFlow_5 (fun v T2 I2 L2 h => ?_) (fun _ _ _ _ h => h.elim)
  obtain ⟨rfl, rfl, rfl, rfl⟩ := h
  refine pr_i2l hA dL_greatestFlow_8 ?_
  refine pr_lastE hA ho (by decide) (by decide) dL_greatestFlow_9 ?_
  refine pr_goto hA 21 dL_greatestFlow_10 (by decide) ?_
  refine pr_iconst hA (0) dL_greatestFlow_21 (by decide) ?_
  exact pr_ireturn hA rfl rfl (Nat.le_of_eq (Nat.zero_add _)) (Nat.le_of_eq (Nat.zero_add _)) dL_greatestFlow_22 ⟨rfl, rfl, rfl, rfl⟩
theorem k_greatestFlow_i {g : pr_C} {l : Launch} (hl : l.stackTraces = false) {T : pr_T} {I : pr_I} {L : pr_L} {x o d' mc' ms' : Nat} {p1 p2 : Int32} (hM : pr_M g l d' mc' ms' mX7_greatestFlow [.ref x, .int p1, .int p2] T I L pr_nv (pr_Th eIOO T I L)) (hx : T.2.1 x = (7, 0)) : pr_M g l (d' + 1) mc' ms' mL_greatestFlow [.ref x, .int p1, .int p2, .ref o] T I L (pr_Ct 1 T I L) pr_no := by
  refine pr_ofGH (by decide) rfl hl (Nat.le_of_ble_eq_true rfl) (fun X hA hX hXn hXt => ?_)
  subst hX
  show pr_G g X mL_greatestFlow.2.2.1 _ 0 0 0 [.ref x, .int p1, .int p2, .ref o, .null] [] T I L
  refine pr_aload_n hA dL_greatestFlow_0 rfl ?_
  refine pr_iconst hA (nI 0) dL_greatestFlow_1 (by decide) ?_
  refine pr_aload_n hA dL_greatestFlow_2 rfl ?_
  refine pr_iload_n hA dL_greatestFlow_3 rfl ?_
  refine pr_iload_n hA dL_greatestFlow_4 rfl ?_
  refine pr_callV hA rfl (As := [.int p1, .int p2]) hM v_L_95 hx (by decide) rfl rfl rfl (Nat.le_refl _) (Nat.le_of_eq (Nat.zero_add _)) (Nat.le_of_eq (Nat.zero_add _)) (st := [.int (nI 0), .ref o]) rfl (Nat.le_of_ble_eq_true rfl) dL_greatestFlow_5 (fun v T2 I2 L2 h => h.elim) (fun E2 T2 I2 L2 h => ?_)
  obtain ⟨rfl, ⟨N, hN, rfl⟩, rfl, rfl⟩ := h
  refine pr_catch hA [] ⟨0, 10, 13, 13⟩ [⟨0, 10, 17, 18⟩] hXt (Or.inl rfl) (by decide) (by decide) kC_L_13 (by decide +kernel) (fun q => ?_)
  refine pr_astore (ls' := _) hA dL_greatestFlow_13 (by decide) rfl ?_
  refine pr_iconst hA (1) dL_greatestFlow_15 (by decide) ?_
  exact pr_ireturn hA rfl rfl (Nat.le_of_eq (Nat.zero_add _)) (Nat.le_of_eq (Nat.zero_add _)) dL_greatestFlow_16 ⟨rfl, ⟨N, hN, rfl⟩, rfl, rfl⟩
theorem k_greatestFlow_a {g : pr_C} {l : Launch} (hl : l.stackTraces = false) {T : pr_T} {I : pr_I} {L : pr_L} {x o d' mc' ms' : Nat} {p1 p2 : Int32} (hM : pr_M g l d' mc' ms' mX7_greatestFlow [.ref x, .int p1, .int p2] T I L pr_nv (pr_Th eIAE T I L)) (hx : T.2.1 x = (7, 0)) : pr_M g l (d' + 1) mc' ms' mL_greatestFlow [.ref x, .int p1, .int p2, .ref o] T I L (pr_Ct 2 T I L) pr_no := by
  refine pr_ofGH (by decide) rfl hl (Nat.le_of_ble_eq_true rfl) (fun X hA hX hXn hXt => ?_)
  subst hX
  show pr_G g X mL_greatestFlow.2.2.1 _ 0 0 0 [.ref x, .int p1, .int p2, .ref o, .null] [] T I L
  refine pr_aload_n hA dL_greatestFlow_0 rfl ?_
  refine pr_iconst hA (nI 0) dL_greatestFlow_1 (by decide) ?_
  refine pr_aload_n hA dL_greatestFlow_2 rfl ?_
  refine pr_iload_n hA dL_greatestFlow_3 rfl ?_
  refine pr_iload_n hA dL_greatestFlow_4 rfl ?_
  refine pr_callV hA rfl (As := [.int p1, .int p2]) hM v_L_95 hx (by decide) rfl rfl rfl (Nat.le_refl _) (Nat.le_of_eq (Nat.zero_add _)) (Nat.le_of_eq (Nat.zero_add _)) (st := [.int (nI 0), .ref o]) rfl (Nat.le_of_ble_eq_true rfl) dL_greatestFlow_5 (fun v T2 I2 L2 h => h.elim) (fun E2 T2 I2 L2 h => ?_)
  obtain ⟨rfl, ⟨N, hN, rfl⟩, rfl, rfl⟩ := h
  refine pr_catch hA [⟨0, 10, 13, 13⟩] ⟨0, 10, 17, 18⟩ [] hXt (Or.inr ⟨rfl, _, rfl, by decide, kC_L_13⟩) (by decide) (by decide) kC_L_18 (by decide +kernel) (fun q => ?_)
  refine pr_astore (ls' := _) hA dL_greatestFlow_17 (by decide) rfl ?_
  refine pr_iconst hA (2) dL_greatestFlow_19 (by decide) ?_
  exact pr_ireturn hA rfl rfl (Nat.le_of_eq (Nat.zero_add _)) (Nat.le_of_eq (Nat.zero_add _)) dL_greatestFlow_20 ⟨rfl, ⟨N, hN, rfl⟩, rfl, rfl⟩
theorem k_greatestNew {g : pr_C} {l : Launch} (hl : l.stackTraces = false) {T T' : pr_T} {I I' : pr_I} {L L' : pr_L} {x o d' mc' ms' : Nat} {p1 p2 : Int32} {r : Int32} (hM : pr_M g l d' mc' ms' mX7_greatestNew [.ref x, .int p1, .int p2] T I L (pr_R (some (.int r)) T' I' L') pr_no) (hx : T.2.1 x = (7, 0)) (ho : T'.2.1 o = (21, 1)) : pr_M g l (d' + 1) mc' ms' mL_greatestNew [.ref x, .int p1, .int p2, .ref o] T I L (pr_R (some (.int 0)) T' I' (pr_upl L' o 0 r.toInt64)) pr_no := by
  refine pr_ofGH (by decide) rfl hl (Nat.le_of_ble_eq_true rfl) (fun X hA hX hXn hXt => ?_)
  subst hX
  show pr_G g X mL_greatestNew.2.2.1 _ 0 0 0 [.ref x, .int p1, .int p2, .ref o, .null] [] T I L
  refine pr_aload_n hA dL_greatestNew_0 rfl ?_
  refine pr_iconst hA (nI 0) dL_greatestNew_1 (by decide) ?_
  refine pr_aload_n hA dL_greatestNew_2 rfl ?_
  refine pr_iload_n hA dL_greatestNew_3 rfl ?_
  refine pr_iload_n hA dL_greatestNew_4 rfl ?_
  refine pr_callV hA rfl (As := [.int p1, .int p2]) hM v_L_116 hx (by decide) rfl rfl rfl (Nat.le_refl _) (Nat.le_of_eq (Nat.zero_add _)) (Nat.le_of_eq (Nat.zero_add _)) (st := [.int (nI 0), .ref o]) rfl (Nat.le_of_ble_eq_true rfl) dL_greatestNew_5 (fun v T2 I2 L2 h => ?_) (fun _ _ _ _ h => h.elim)
  obtain ⟨rfl, rfl, rfl, rfl⟩ := h
  refine pr_i2l hA dL_greatestNew_8 ?_
  refine pr_lastE hA ho (by decide) (by decide) dL_greatestNew_9 ?_
  refine pr_goto hA 21 dL_greatestNew_10 (by decide) ?_
  refine pr_iconst hA (0) dL_greatestNew_21 (by decide) ?_
  exact pr_ireturn hA rfl rfl (Nat.le_of_eq (Nat.zero_add _)) (Nat.le_of_eq (Nat.zero_add _)) dL_greatestNew_22 ⟨rfl, rfl, rfl, rfl⟩
theorem k_greatestNew_i {g : pr_C} {l : Launch} (hl : l.stackTraces = false) {T : pr_T} {I : pr_I} {L : pr_L} {x o d' mc' ms' : Nat} {p1 p2 : Int32} (hM : pr_M g l d' mc' ms' mX7_greatestNew [.ref x, .int p1, .int p2] T I L pr_nv (pr_Th eIOO T I L)) (hx : T.2.1 x = (7, 0)) : pr_M g l (d' + 1) mc' ms' mL_greatestNew [.ref x, .int p1, .int p2, .ref o] T I L (pr_Ct 1 T I L) pr_no := by
  refine pr_ofGH (by decide) rfl hl (Nat.le_of_ble_eq_true rfl) (fun X hA hX hXn hXt => ?_)
  subst hX
  show pr_G g X mL_greatestNew.2.2.1 _ 0 0 0 [.ref x, .int p1, .int p2, .ref o, .null] [] T I L
  refine pr_aload_n hA dL_greatestNew_0 rfl ?_
  refine pr_iconst hA (nI 0) dL_greatestNew_1 (by decide) ?_
  refine pr_aload_n hA dL_greatestNew_2 rfl ?_
  refine pr_iload_n hA dL_greatestNew_3 rfl ?_
  refine pr_iload_n hA dL_greatestNew_4 rfl ?_
  refine pr_callV hA rfl (As := [.int p1, .int p2]) hM v_L_116 hx (by decide) rfl rfl rfl (Nat.le_refl _) (Nat.le_of_eq (Nat.zero_add _)) (Nat.le_of_eq (Nat.zero_add _)) (st := [.int (nI 0), .ref o]) rfl (Nat.le_of_ble_eq_true rfl) dL_greatestNew_5 (fun v T2 I2 L2 h => h.elim) (fun E2 T2 I2 L2 h => ?_)
  obtain ⟨rfl, ⟨N, hN, rfl⟩, rfl, rfl⟩ := h
  refine pr_catch hA [] ⟨0, 10, 13, 13⟩ [⟨0, 10, 17, 18⟩] hXt (Or.inl rfl) (by decide) (by decide) kC_L_13 (by decide +kernel) (fun q => ?_)
  refine pr_astore (ls' := _) hA dL_greatestNew_13 (by decide) rfl ?_
  refine pr_iconst hA (1) dL_greatestNew_15 (by decide) ?_
  exact pr_ireturn hA rfl rfl (Nat.le_of_eq (Nat.zero_add _)) (Nat.le_of_eq (Nat.zero_add _)) dL_greatestNew_16 ⟨rfl, ⟨N, hN, rfl⟩, rfl, rfl⟩
theorem k_greatestNew_a {g : pr_C} {l : Launch} (hl : l.stackTraces = false) {T : pr_T} {I : pr_I} {L : pr_L} {x o d' mc' ms' : Nat} {p1 p2 : Int32} (hM : pr_M g l d' mc' ms' mX7_greatestNew [.ref x, .int p1, .int p2] T I L pr_nv (pr_Th eIAE T I L)) (hx : T.2.1 x = (7, 0)) : pr_M g l (d' + 1) mc' ms' mL_greatestNew [.ref x, .int p1, .int p2, .ref o] T I L (pr_Ct 2 T I L) pr_no := by
  refine pr_ofGH (by decide) rfl hl (Nat.le_of_ble_eq_true rfl) (fun X hA hX hXn hXt => ?_)
  subst hX
  show pr_G g X mL_greatestNew.2.2.1 _ 0 0 0 [.ref x, .int p1, .int p2, .ref o, .null] [] T I L
  refine pr_aload_n hA dL_greatestNew_0 rfl ?_
  refine pr_iconst hA (nI 0) dL_greatestNew_1 (by decide) ?_
  refine pr_aload_n hA dL_greatestNew_2 rfl ?_
  refine pr_iload_n hA dL_greatestNew_3 rfl ?_
  refine pr_iload_n hA dL_greatestNew_4 rfl ?_
  refine pr_callV hA rfl (As := [.int p1, .int p2]) hM v_L_116 hx (by decide) rfl rfl rfl (Nat.le_refl _) (Nat.le_of_eq (Nat.zero_add _)) (Nat.le_of_eq (Nat.zero_add _)) (st := [.int (nI 0), .ref o]) rfl (Nat.le_of_ble_eq_true rfl) dL_greatestNew_5 (fun v T2 I2 L2 h => h.elim) (fun E2 T2 I2 L2 h => ?_)
  obtain ⟨rfl, ⟨N, hN, rfl⟩, rfl, rfl⟩ := h
  refine pr_catch hA [⟨0, 10, 13, 13⟩] ⟨0, 10, 17, 18⟩ [] hXt (Or.inr ⟨rfl, _, rfl, by decide, kC_L_13⟩) (by decide) (by decide) kC_L_18 (by decide +kernel) (fun q => ?_)
  refine pr_astore (ls' := _) hA dL_greatestNew_17 (by decide) rfl ?_
  refine pr_iconst hA (2) dL_greatestNew_19 (by decide) ?_
  exact pr_ireturn hA rfl rfl (Nat.le_of_eq (Nat.zero_add _)) (Nat.le_of_eq (Nat.zero_add _)) dL_greatestNew_20 ⟨rfl, ⟨N, hN, rfl⟩, rfl, rfl⟩
theorem k_inState {g : pr_C} {l : Launch} (hl : l.stackTraces = false) {T T' : pr_T} {I I' : pr_I} {L L' : pr_L} {x o d' mc' ms' : Nat} {p1 : Int32} {r : Int32} (hM : pr_M g l d' mc' ms' mX7_inState [.ref x, .int p1] T I L (pr_R (some (.int r)) T' I' L') pr_no) (hx : T.2.1 x = (7, 0)) (ho : T'.2.1 o = (21, 1)) : pr_M g l (d' + 1) mc' ms' mL_inState [.ref x, .int p1, .ref o] T I L (pr_R (some (.int 0)) T' I' (pr_upl L' o 0 r.toInt64)) pr_no := by
  refine pr_ofGH (by decide) rfl hl (Nat.le_of_ble_eq_true rfl) (fun X hA hX hXn hXt => ?_)
  subst hX
  show pr_G g X mL_inState.2.2.1 _ 0 0 0 [.ref x, .int p1, .ref o, .null] [] T I L
  refine pr_aload_n hA dL_inState_0 rfl ?_
  refine pr_iconst hA (nI 0) dL_inState_1 (by decide) ?_
  refine pr_aload_n hA dL_inState_2 rfl ?_
  refine pr_iload_n hA dL_inState_3 rfl ?_
  refine pr_callV hA rfl (As := [.int p1]) hM v_L_61 hx (by decide) rfl rfl rfl (Nat.le_refl _) (Nat.le_of_eq (Nat.zero_add _)) (Nat.le_of_eq (Nat.zero_add _)) (st := [.int (nI 0), .ref o]) rfl (Nat.le_of_ble_eq_true rfl) dL_inState_4 (fun v T2 I2 L2 h => ?_) (fun _ _ _ _ h => h.elim)
  obtain ⟨rfl, rfl, rfl, rfl⟩ := h
  refine pr_i2l hA dL_inState_7 ?_
  refine pr_lastE hA ho (by decide) (by decide) dL_inState_8 ?_
  refine pr_goto hA 15 dL_inState_9 (by decide) ?_
  refine pr_iconst hA (0) dL_inState_15 (by decide) ?_
  exact pr_ireturn hA rfl rfl (Nat.le_of_eq (Nat.zero_add _)) (Nat.le_of_eq (Nat.zero_add _)) dL_inState_16 ⟨rfl, rfl, rfl, rfl⟩
theorem k_inState_a {g : pr_C} {l : Launch} (hl : l.stackTraces = false) {T : pr_T} {I : pr_I} {L : pr_L} {x o d' mc' ms' : Nat} {p1 : Int32} (hM : pr_M g l d' mc' ms' mX7_inState [.ref x, .int p1] T I L pr_nv (pr_Th eIAE T I L)) (hx : T.2.1 x = (7, 0)) : pr_M g l (d' + 1) mc' ms' mL_inState [.ref x, .int p1, .ref o] T I L (pr_Ct 1 T I L) pr_no := by
  refine pr_ofGH (by decide) rfl hl (Nat.le_of_ble_eq_true rfl) (fun X hA hX hXn hXt => ?_)
  subst hX
  show pr_G g X mL_inState.2.2.1 _ 0 0 0 [.ref x, .int p1, .ref o, .null] [] T I L
  refine pr_aload_n hA dL_inState_0 rfl ?_
  refine pr_iconst hA (nI 0) dL_inState_1 (by decide) ?_
  refine pr_aload_n hA dL_inState_2 rfl ?_
  refine pr_iload_n hA dL_inState_3 rfl ?_
  refine pr_callV hA rfl (As := [.int p1]) hM v_L_61 hx (by decide) rfl rfl rfl (Nat.le_refl _) (Nat.le_of_eq (Nat.zero_add _)) (Nat.le_of_eq (Nat.zero_add _)) (st := [.int (nI 0), .ref o]) rfl (Nat.le_of_ble_eq_true rfl) dL_inState_4 (fun v T2 I2 L2 h => h.elim) (fun E2 T2 I2 L2 h => ?_)
  obtain ⟨rfl, ⟨N, hN, rfl⟩, rfl, rfl⟩ := h
  refine pr_catch hA [] ⟨0, 9, 12, 18⟩ [] hXt (Or.inl rfl) (by decide) (by decide) kC_L_18 (by decide +kernel) (fun q => ?_)
  refine pr_astore_n (ls' := _) hA dL_inState_12 (by decide) rfl ?_
  refine pr_iconst hA (1) dL_inState_13 (by decide) ?_
  exact pr_ireturn hA rfl rfl (Nat.le_of_eq (Nat.zero_add _)) (Nat.le_of_eq (Nat.zero_add _)) dL_inState_14 ⟨rfl, ⟨N, hN, rfl⟩, rfl, rfl⟩
theorem k_linkValue {g : pr_C} {l : Launch} (hl : l.stackTraces = false) {T T' : pr_T} {I I' : pr_I} {L L' : pr_L} {x o d' mc' ms' : Nat} {p1 p2 : Int32} {r : Int32} (hM : pr_M g l d' mc' ms' mX7_linkValue [.ref x, .int p1, .int p2] T I L (pr_R (some (.int r)) T' I' L') pr_no) (hx : T.2.1 x = (7, 0)) (ho : T'.2.1 o = (21, 1)) : pr_M g l (d' + 1) mc' ms' mL_linkValue [.ref x, .int p1, .int p2, .ref o] T I L (pr_R (some (.int 0)) T' I' (pr_upl L' o 0 r.toInt64)) pr_no := by
  refine pr_ofGH (by decide) rfl hl (Nat.le_of_ble_eq_true rfl) (fun X hA hX hXn hXt => ?_)
  subst hX
  show pr_G g X mL_linkValue.2.2.1 _ 0 0 0 [.ref x, .int p1, .int p2, .ref o, .null] [] T I L
  refine pr_aload_n hA dL_linkValue_0 rfl ?_
  refine pr_iconst hA (nI 0) dL_linkValue_1 (by decide) ?_
  refine pr_aload_n hA dL_linkValue_2 rfl ?_
  refine pr_iload_n hA dL_linkValue_3 rfl ?_
  refine pr_iload_n hA dL_linkValue_4 rfl ?_
  refine pr_callV hA rfl (As := [.int p1, .int p2]) hM v_L_15 hx (by decide) rfl rfl rfl (Nat.le_refl _) (Nat.le_of_eq (Nat.zero_add _)) (Nat.le_of_eq (Nat.zero_add _)) (st := [.int (nI 0), .ref o]) rfl (Nat.le_of_ble_eq_true rfl) dL_linkValue_5 (fun v T2 I2 L2 h => ?_) (fun _ _ _ _ h => h.elim)
  obtain ⟨rfl, rfl, rfl, rfl⟩ := h
  refine pr_i2l hA dL_linkValue_8 ?_
  refine pr_lastE hA ho (by decide) (by decide) dL_linkValue_9 ?_
  refine pr_goto hA 21 dL_linkValue_10 (by decide) ?_
  refine pr_iconst hA (0) dL_linkValue_21 (by decide) ?_
  exact pr_ireturn hA rfl rfl (Nat.le_of_eq (Nat.zero_add _)) (Nat.le_of_eq (Nat.zero_add _)) dL_linkValue_22 ⟨rfl, rfl, rfl, rfl⟩
theorem k_linkValue_i {g : pr_C} {l : Launch} (hl : l.stackTraces = false) {T : pr_T} {I : pr_I} {L : pr_L} {x o d' mc' ms' : Nat} {p1 p2 : Int32} (hM : pr_M g l d' mc' ms' mX7_linkValue [.ref x, .int p1, .int p2] T I L pr_nv (pr_Th eIOO T I L)) (hx : T.2.1 x = (7, 0)) : pr_M g l (d' + 1) mc' ms' mL_linkValue [.ref x, .int p1, .int p2, .ref o] T I L (pr_Ct 1 T I L) pr_no := by
  refine pr_ofGH (by decide) rfl hl (Nat.le_of_ble_eq_true rfl) (fun X hA hX hXn hXt => ?_)
  subst hX
  show pr_G g X mL_linkValue.2.2.1 _ 0 0 0 [.ref x, .int p1, .int p2, .ref o, .null] [] T I L
  refine pr_aload_n hA dL_linkValue_0 rfl ?_
  refine pr_iconst hA (nI 0) dL_linkValue_1 (by decide) ?_
  refine pr_aload_n hA dL_linkValue_2 rfl ?_
  refine pr_iload_n hA dL_linkValue_3 rfl ?_
  refine pr_iload_n hA dL_linkValue_4 rfl ?_
  refine pr_callV hA rfl (As := [.int p1, .int p2]) hM v_L_15 hx (by decide) rfl rfl rfl (Nat.le_refl _) (Nat.le_of_eq (Nat.zero_add _)) (Nat.le_of_eq (Nat.zero_add _)) (st := [.int (nI 0), .ref o]) rfl (Nat.le_of_ble_eq_true rfl) dL_linkValue_5 (fun v T2 I2 L2 h => h.elim) (fun E2 T2 I2 L2 h => ?_)
  obtain ⟨rfl, ⟨N, hN, rfl⟩, rfl, rfl⟩ := h
  refine pr_catch hA [] ⟨0, 10, 13, 13⟩ [⟨0, 10, 17, 18⟩] hXt (Or.inl rfl) (by decide) (by decide) kC_L_13 (by decide +kernel) (fun q => ?_)
  refine pr_astore (ls' := _) hA dL_linkValue_13 (by decide) rfl ?_
  refine pr_iconst hA (1) dL_linkValue_15 (by decide) ?_
  exact pr_ireturn hA rfl rfl (Nat.le_of_eq (Nat.zero_add _)) (Nat.le_of_eq (Nat.zero_add _)) dL_linkValue_16 ⟨rfl, ⟨N, hN, rfl⟩, rfl, rfl⟩
theorem k_linkValue_a {g : pr_C} {l : Launch} (hl : l.stackTraces = false) {T : pr_T} {I : pr_I} {L : pr_L} {x o d' mc' ms' : Nat} {p1 p2 : Int32} (hM : pr_M g l d' mc' ms' mX7_linkValue [.ref x, .int p1, .int p2] T I L pr_nv (pr_Th eIAE T I L)) (hx : T.2.1 x = (7, 0)) : pr_M g l (d' + 1) mc' ms' mL_linkValue [.ref x, .int p1, .int p2, .ref o] T I L (pr_Ct 2 T I L) pr_no := by
  refine pr_ofGH (by decide) rfl hl (Nat.le_of_ble_eq_true rfl) (fun X hA hX hXn hXt => ?_)
  subst hX
  show pr_G g X mL_linkValue.2.2.1 _ 0 0 0 [.ref x, .int p1, .int p2, .ref o, .null] [] T I L
  refine pr_aload_n hA dL_linkValue_0 rfl ?_
  refine pr_iconst hA (nI 0) dL_linkValue_1 (by decide) ?_
  refine pr_aload_n hA dL_linkValue_2 rfl ?_
  refine pr_iload_n hA dL_linkValue_3 rfl ?_
  refine pr_iload_n hA dL_linkValue_4 rfl ?_
  refine pr_callV hA rfl (As := [.int p1, .int p2]) hM v_L_15 hx (by decide) rfl rfl rfl (Nat.le_refl _) (Nat.le_of_eq (Nat.zero_add _)) (Nat.le_of_eq (Nat.zero_add _)) (st := [.int (nI 0), .ref o]) rfl (Nat.le_of_ble_eq_true rfl) dL_linkValue_5 (fun v T2 I2 L2 h => h.elim) (fun E2 T2 I2 L2 h => ?_)
  obtain ⟨rfl, ⟨N, hN, rfl⟩, rfl, rfl⟩ := h
  refine pr_catch hA [⟨0, 10, 13, 13⟩] ⟨0, 10, 17, 18⟩ [] hXt (Or.inr ⟨rfl, _, rfl, by decide, kC_L_13⟩) (by decide) (by decide) kC_L_18 (by decide +kernel) (fun q => ?_)
  refine pr_astore (ls' := _) hA dL_linkValue_17 (by decide) rfl ?_
  refine pr_iconst hA (2) dL_linkValue_19 (by decide) ?_
  exact pr_ireturn hA rfl rfl (Nat.le_of_eq (Nat.zero_add _)) (Nat.le_of_eq (Nat.zero_add _)) dL_linkValue_20 ⟨rfl, ⟨N, hN, rfl⟩, rfl, rfl⟩
theorem k_nameLetter {g : pr_C} {l : Launch} (hl : l.stackTraces = false) {T T' : pr_T} {I I' : pr_I} {L L' : pr_L} {x o d' mc' ms' : Nat} {p1 p2 : Int32} {r : Int32} (hM : pr_M g l d' mc' ms' mX7_nameLetter [.ref x, .int p1, .int p2] T I L (pr_R (some (.int r)) T' I' L') pr_no) (hx : T.2.1 x = (7, 0)) (ho : T'.2.1 o = (21, 1)) : pr_M g l (d' + 1) mc' ms' mL_nameLetter [.ref x, .int p1, .int p2, .ref o] T I L (pr_R (some (.int 0)) T' I' (pr_upl L' o 0 r.toInt64)) pr_no := by
  refine pr_ofGH (by decide) rfl hl (Nat.le_of_ble_eq_true rfl) (fun X hA hX hXn hXt => ?_)
  subst hX
  show pr_G g X mL_nameLetter.2.2.1 _ 0 0 0 [.ref x, .int p1, .int p2, .ref o, .null] [] T I L
  refine pr_aload_n hA dL_nameLetter_0 rfl ?_
  refine pr_iconst hA (nI 0) dL_nameLetter_1 (by decide) ?_
  refine pr_aload_n hA dL_nameLetter_2 rfl ?_
  refine pr_iload_n hA dL_nameLetter_3 rfl ?_
  refine pr_iload_n hA dL_nameLetter_4 rfl ?_
  refine pr_callV hA rfl (As := [.int p1, .int p2]) hM v_L_7 hx (by decide) rfl rfl rfl (Nat.le_refl _) (Nat.le_of_eq (Nat.zero_add _)) (Nat.le_of_eq (Nat.zero_add _)) (st := [.int (nI 0), .ref o]) rfl (Nat.le_of_ble_eq_true rfl) dL_nameLetter_5 (fun v T2 I2 L2 h => ?_) (fun _ _ _ _ h => h.elim)
  obtain ⟨rfl, rfl, rfl, rfl⟩ := h
  refine pr_i2l hA dL_nameLetter_8 ?_
  refine pr_lastE hA ho (by decide) (by decide) dL_nameLetter_9 ?_
  refine pr_goto hA 17 dL_nameLetter_10 (by decide) ?_
  refine pr_iconst hA (0) dL_nameLetter_17 (by decide) ?_
  exact pr_ireturn hA rfl rfl (Nat.le_of_eq (Nat.zero_add _)) (Nat.le_of_eq (Nat.zero_add _)) dL_nameLetter_18 ⟨rfl, rfl, rfl, rfl⟩
theorem k_nameLetter_i {g : pr_C} {l : Launch} (hl : l.stackTraces = false) {T : pr_T} {I : pr_I} {L : pr_L} {x o d' mc' ms' : Nat} {p1 p2 : Int32} (hM : pr_M g l d' mc' ms' mX7_nameLetter [.ref x, .int p1, .int p2] T I L pr_nv (pr_Th eIOO T I L)) (hx : T.2.1 x = (7, 0)) : pr_M g l (d' + 1) mc' ms' mL_nameLetter [.ref x, .int p1, .int p2, .ref o] T I L (pr_Ct 1 T I L) pr_no := by
  refine pr_ofGH (by decide) rfl hl (Nat.le_of_ble_eq_true rfl) (fun X hA hX hXn hXt => ?_)
  subst hX
  show pr_G g X mL_nameLetter.2.2.1 _ 0 0 0 [.ref x, .int p1, .int p2, .ref o, .null] [] T I L
  refine pr_aload_n hA dL_nameLetter_0 rfl ?_
  refine pr_iconst hA (nI 0) dL_nameLetter_1 (by decide) ?_
  refine pr_aload_n hA dL_nameLetter_2 rfl ?_
  refine pr_iload_n hA dL_nameLetter_3 rfl ?_
  refine pr_iload_n hA dL_nameLetter_4 rfl ?_
  refine pr_callV hA rfl (As := [.int p1, .int p2]) hM v_L_7 hx (by decide) rfl rfl rfl (Nat.le_refl _) (Nat.le_of_eq (Nat.zero_add _)) (Nat.le_of_eq (Nat.zero_add _)) (st := [.int (nI 0), .ref o]) rfl (Nat.le_of_ble_eq_true rfl) dL_nameLetter_5 (fun v T2 I2 L2 h => h.elim) (fun E2 T2 I2 L2 h => ?_)
  obtain ⟨rfl, ⟨N, hN, rfl⟩, rfl, rfl⟩ := h
  refine pr_catch hA [] ⟨0, 10, 13, 13⟩ [] hXt (Or.inl rfl) (by decide) (by decide) kC_L_13 (by decide +kernel) (fun q => ?_)
  refine pr_astore (ls' := _) hA dL_nameLetter_13 (by decide) rfl ?_
  refine pr_iconst hA (1) dL_nameLetter_15 (by decide) ?_
  exact pr_ireturn hA rfl rfl (Nat.le_of_eq (Nat.zero_add _)) (Nat.le_of_eq (Nat.zero_add _)) dL_nameLetter_16 ⟨rfl, ⟨N, hN, rfl⟩, rfl, rfl⟩
theorem k_neededHold {g : pr_C} {l : Launch} (hl : l.stackTraces = false) {T T' : pr_T} {I I' : pr_I} {L L' : pr_L} {x o d' mc' ms' : Nat} {p1 p2 p3 : Int32} {r : Int32} (hM : pr_M g l d' mc' ms' mX7_neededHold [.ref x, .int p1, .int p2, .int p3] T I L (pr_R (some (.int r)) T' I' L') pr_no) (hx : T.2.1 x = (7, 0)) (ho : T'.2.1 o = (21, 1)) : pr_M g l (d' + 1) mc' ms' mL_neededHold [.ref x, .int p1, .int p2, .int p3, .ref o] T I L (pr_R (some (.int 0)) T' I' (pr_upl L' o 0 r.toInt64)) pr_no := by
  refine pr_ofGH (by decide) rfl hl (Nat.le_of_ble_eq_true rfl) (fun X hA hX hXn hXt => ?_)
  subst hX
  show pr_G g X mL_neededHold.2.2.1 _ 0 0 0 [.ref x, .int p1, .int p2, .int p3, .ref o, .null] [] T I L
  refine pr_aload hA dL_neededHold_0 rfl ?_
  refine pr_iconst hA (nI 0) dL_neededHold_2 (by decide) ?_
  refine pr_aload_n hA dL_neededHold_3 rfl ?_
  refine pr_iload_n hA dL_neededHold_4 rfl ?_
  refine pr_iload_n hA dL_neededHold_5 rfl ?_
  refine pr_iload_n hA dL_neededHold_6 rfl ?_
  refine pr_callV hA rfl (As := [.int p1, .int p2, .int p3]) hM v_L_89 hx (by decide) rfl rfl rfl (Nat.le_refl _) (Nat.le_of_eq (Nat.zero_add _)) (Nat.le_of_eq (Nat.zero_add _)) (st := [.int (nI 0), .ref o]) rfl (Nat.le_of_ble_eq_true rfl) dL_neededHold_7 (fun v T2 I2 L2 h => ?_) (fun _ _ _ _ h => h.elim)
  obtain ⟨rfl, rfl, rfl, rfl⟩ := h
  refine pr_i2l hA dL_neededHold_10 ?_
  refine pr_lastE hA ho (by decide) (by decide) dL_neededHold_11 ?_
  refine pr_goto hA 23 dL_neededHold_12 (by decide) ?_
  refine pr_iconst hA (0) dL_neededHold_23 (by decide) ?_
  exact pr_ireturn hA rfl rfl (Nat.le_of_eq (Nat.zero_add _)) (Nat.le_of_eq (Nat.zero_add _)) dL_neededHold_24 ⟨rfl, rfl, rfl, rfl⟩
theorem k_neededHold_i {g : pr_C} {l : Launch} (hl : l.stackTraces = false) {T : pr_T} {I : pr_I} {L : pr_L} {x o d' mc' ms' : Nat} {p1 p2 p3 : Int32} (hM : pr_M g l d' mc' ms' mX7_neededHold [.ref x, .int p1, .int p2, .int p3] T I L pr_nv (pr_Th eIOO T I L)) (hx : T.2.1 x = (7, 0)) : pr_M g l (d' + 1) mc' ms' mL_neededHold [.ref x, .int p1, .int p2, .int p3, .ref o] T I L (pr_Ct 1 T I L) pr_no := by
  refine pr_ofGH (by decide) rfl hl (Nat.le_of_ble_eq_true rfl) (fun X hA hX hXn hXt => ?_)
  subst hX
  show pr_G g X mL_neededHold.2.2.1 _ 0 0 0 [.ref x, .int p1, .int p2, .int p3, .ref o, .null] [] T I L
  refine pr_aload hA dL_neededHold_0 rfl ?_
  refine pr_iconst hA (nI 0) dL_neededHold_2 (by decide) ?_
  refine pr_aload_n hA dL_neededHold_3 rfl ?_
  refine pr_iload_n hA dL_neededHold_4 rfl ?_
  refine pr_iload_n hA dL_neededHold_5 rfl ?_
  refine pr_iload_n hA dL_neededHold_6 rfl ?_
  refine pr_callV hA rfl (As := [.int p1, .int p2, .int p3]) hM v_L_89 hx (by decide) rfl rfl rfl (Nat.le_refl _) (Nat.le_of_eq (Nat.zero_add _)) (Nat.le_of_eq (Nat.zero_add _)) (st := [.int (nI 0), .ref o]) rfl (Nat.le_of_ble_eq_true rfl) dL_neededHold_7 (fun v T2 I2 L2 h => h.elim) (fun E2 T2 I2 L2 h => ?_)
  obtain ⟨rfl, ⟨N, hN, rfl⟩, rfl, rfl⟩ := h
  refine pr_catch hA [] ⟨0, 12, 15, 13⟩ [⟨0, 12, 19, 18⟩] hXt (Or.inl rfl) (by decide) (by decide) kC_L_13 (by decide +kernel) (fun q => ?_)
  refine pr_astore (ls' := _) hA dL_neededHold_15 (by decide) rfl ?_
  refine pr_iconst hA (1) dL_neededHold_17 (by decide) ?_
  exact pr_ireturn hA rfl rfl (Nat.le_of_eq (Nat.zero_add _)) (Nat.le_of_eq (Nat.zero_add _)) dL_neededHold_18 ⟨rfl, ⟨N, hN, rfl⟩, rfl, rfl⟩
theorem k_neededHold_a {g : pr_C} {l : Launch} (hl : l.stackTraces = false) {T : pr_T} {I : pr_I} {L : pr_L} {x o d' mc' ms' : Nat} {p1 p2 p3 : Int32} (hM : pr_M g l d' mc' ms' mX7_neededHold [.ref x, .int p1, .int p2, .int p3] T I L pr_nv (pr_Th eIAE T I L)) (hx : T.2.1 x = (7, 0)) : pr_M g l (d' + 1) mc' ms' mL_neededHold [.ref x, .int p1, .int p2, .int p3, .ref o] T I L (pr_Ct 2 T I L) pr_no := by
  refine pr_ofGH (by decide) rfl hl (Nat.le_of_ble_eq_true rfl) (fun X hA hX hXn hXt => ?_)
  subst hX
  show pr_G g X mL_neededHold.2.2.1 _ 0 0 0 [.ref x, .int p1, .int p2, .int p3, .ref o, .null] [] T I L
  refine pr_aload hA dL_neededHold_0 rfl ?_
  refine pr_iconst hA (nI 0) dL_neededHold_2 (by decide) ?_
  refine pr_aload_n hA dL_neededHold_3 rfl ?_
  refine pr_iload_n hA dL_neededHold_4 rfl ?_
  refine pr_iload_n hA dL_neededHold_5 rfl ?_
  refine pr_iload_n hA dL_neededHold_6 rfl ?_
  refine pr_callV hA rfl (As := [.int p1, .int p2, .int p3]) hM v_L_89 hx (by decide) rfl rfl rfl (Nat.le_refl _) (Nat.le_of_eq (Nat.zero_add _)) (Nat.le_of_eq (Nat.zero_add _)) (st := [.int (nI 0), .ref o]) rfl (Nat.le_of_ble_eq_true rfl) dL_neededHold_7 (fun v T2 I2 L2 h => h.elim) (fun E2 T2 I2 L2 h => ?_)
  obtain ⟨rfl, ⟨N, hN, rfl⟩, rfl, rfl⟩ := h
  refine pr_catch hA [⟨0, 12, 15, 13⟩] ⟨0, 12, 19, 18⟩ [] hXt (Or.inr ⟨rfl, _, rfl, by decide, kC_L_13⟩) (by decide) (by decide) kC_L_18 (by decide +kernel) (fun q => ?_)
  refine pr_astore (ls' := _) hA dL_neededHold_19 (by decide) rfl ?_
  refine pr_iconst hA (2) dL_neededHold_21 (by decide) ?_
  exact pr_ireturn hA rfl rfl (Nat.le_of_eq (Nat.zero_add _)) (Nat.le_of_eq (Nat.zero_add _)) dL_neededHold_22 ⟨rfl, ⟨N, hN, rfl⟩, rfl, rfl⟩
theorem k_pathLength {g : pr_C} {l : Launch} (hl : l.stackTraces = false) {T T' : pr_T} {I I' : pr_I} {L L' : pr_L} {x o d' mc' ms' : Nat} {p1 : Int32} {r : Int32} (hM : pr_M g l d' mc' ms' mX7_pathLength [.ref x, .int p1] T I L (pr_R (some (.int r)) T' I' L') pr_no) (hx : T.2.1 x = (7, 0)) (ho : T'.2.1 o = (21, 1)) : pr_M g l (d' + 1) mc' ms' mL_pathLength [.ref x, .int p1, .ref o] T I L (pr_R (some (.int 0)) T' I' (pr_upl L' o 0 r.toInt64)) pr_no := by
  refine pr_ofGH (by decide) rfl hl (Nat.le_of_ble_eq_true rfl) (fun X hA hX hXn hXt => ?_)
  subst hX
  show pr_G g X mL_pathLength.2.2.1 _ 0 0 0 [.ref x, .int p1, .ref o, .null] [] T I L
  refine pr_aload_n hA dL_pathLength_0 rfl ?_
  refine pr_iconst hA (nI 0) dL_pathLength_1 (by decide) ?_
  refine pr_aload_n hA dL_pathLength_2 rfl ?_
  refine pr_iload_n hA dL_pathLength_3 rfl ?_
  refine pr_callV hA rfl (As := [.int p1]) hM v_L_52 hx (by decide) rfl rfl rfl (Nat.le_refl _) (Nat.le_of_eq (Nat.zero_add _)) (Nat.le_of_eq (Nat.zero_add _)) (st := [.int (nI 0), .ref o]) rfl (Nat.le_of_ble_eq_true rfl) dL_pathLength_4 (fun v T2 I2 L2 h => ?_) (fun _ _ _ _ h => h.elim)
  obtain ⟨rfl, rfl, rfl, rfl⟩ := h
  refine pr_i2l hA dL_pathLength_7 ?_
  refine pr_lastE hA ho (by decide) (by decide) dL_pathLength_8 ?_
  refine pr_goto hA 15 dL_pathLength_9 (by decide) ?_
  refine pr_iconst hA (0) dL_pathLength_15 (by decide) ?_
  exact pr_ireturn hA rfl rfl (Nat.le_of_eq (Nat.zero_add _)) (Nat.le_of_eq (Nat.zero_add _)) dL_pathLength_16 ⟨rfl, rfl, rfl, rfl⟩
theorem k_pathLength_i {g : pr_C} {l : Launch} (hl : l.stackTraces = false) {T : pr_T} {I : pr_I} {L : pr_L} {x o d' mc' ms' : Nat} {p1 : Int32} (hM : pr_M g l d' mc' ms' mX7_pathLength [.ref x, .int p1] T I L pr_nv (pr_Th eIOO T I L)) (hx : T.2.1 x = (7, 0)) : pr_M g l (d' + 1) mc' ms' mL_pathLength [.ref x, .int p1, .ref o] T I L (pr_Ct 1 T I L) pr_no := by
  refine pr_ofGH (by decide) rfl hl (Nat.le_of_ble_eq_true rfl) (fun X hA hX hXn hXt => ?_)
  subst hX
  show pr_G g X mL_pathLength.2.2.1 _ 0 0 0 [.ref x, .int p1, .ref o, .null] [] T I L
  refine pr_aload_n hA dL_pathLength_0 rfl ?_
  refine pr_iconst hA (nI 0) dL_pathLength_1 (by decide) ?_
  refine pr_aload_n hA dL_pathLength_2 rfl ?_
  refine pr_iload_n hA dL_pathLength_3 rfl ?_
  refine pr_callV hA rfl (As := [.int p1]) hM v_L_52 hx (by decide) rfl rfl rfl (Nat.le_refl _) (Nat.le_of_eq (Nat.zero_add _)) (Nat.le_of_eq (Nat.zero_add _)) (st := [.int (nI 0), .ref o]) rfl (Nat.le_of_ble_eq_true rfl) dL_pathLength_4 (fun v T2 I2 L2 h => h.elim) (fun E2 T2 I2 L2 h => ?_)
  obtain ⟨rfl, ⟨N, hN, rfl⟩, rfl, rfl⟩ := h
  refine pr_catch hA [] ⟨0, 9, 12, 13⟩ [] hXt (Or.inl rfl) (by decide) (by decide) kC_L_13 (by decide +kernel) (fun q => ?_)
  refine pr_astore_n (ls' := _) hA dL_pathLength_12 (by decide) rfl ?_
  refine pr_iconst hA (1) dL_pathLength_13 (by decide) ?_
  exact pr_ireturn hA rfl rfl (Nat.le_of_eq (Nat.zero_add _)) (Nat.le_of_eq (Nat.zero_add _)) dL_pathLength_14 ⟨rfl, ⟨N, hN, rfl⟩, rfl, rfl⟩
theorem k_pathLink {g : pr_C} {l : Launch} (hl : l.stackTraces = false) {T T' : pr_T} {I I' : pr_I} {L L' : pr_L} {x o d' mc' ms' : Nat} {p1 p2 : Int32} {r : Int32} (hM : pr_M g l d' mc' ms' mX7_pathLink [.ref x, .int p1, .int p2] T I L (pr_R (some (.int r)) T' I' L') pr_no) (hx : T.2.1 x = (7, 0)) (ho : T'.2.1 o = (21, 1)) : pr_M g l (d' + 1) mc' ms' mL_pathLink [.ref x, .int p1, .int p2, .ref o] T I L (pr_R (some (.int 0)) T' I' (pr_upl L' o 0 r.toInt64)) pr_no := by
  refine pr_ofGH (by decide) rfl hl (Nat.le_of_ble_eq_true rfl) (fun X hA hX hXn hXt => ?_)
  subst hX
  show pr_G g X mL_pathLink.2.2.1 _ 0 0 0 [.ref x, .int p1, .int p2, .ref o, .null] [] T I L
  refine pr_aload_n hA dL_pathLink_0 rfl ?_
  refine pr_iconst hA (nI 0) dL_pathLink_1 (by decide) ?_
  refine pr_aload_n hA dL_pathLink_2 rfl ?_
  refine pr_iload_n hA dL_pathLink_3 rfl ?_
  refine pr_iload_n hA dL_pathLink_4 rfl ?_
  refine pr_callV hA rfl (As := [.int p1, .int p2]) hM v_L_55 hx (by decide) rfl rfl rfl (Nat.le_refl _) (Nat.le_of_eq (Nat.zero_add _)) (Nat.le_of_eq (Nat.zero_add _)) (st := [.int (nI 0), .ref o]) rfl (Nat.le_of_ble_eq_true rfl) dL_pathLink_5 (fun v T2 I2 L2 h => ?_) (fun _ _ _ _ h => h.elim)
  obtain ⟨rfl, rfl, rfl, rfl⟩ := h
  refine pr_i2l hA dL_pathLink_8 ?_
  refine pr_lastE hA ho (by decide) (by decide) dL_pathLink_9 ?_
  refine pr_goto hA 17 dL_pathLink_10 (by decide) ?_
  refine pr_iconst hA (0) dL_pathLink_17 (by decide) ?_
  exact pr_ireturn hA rfl rfl (Nat.le_of_eq (Nat.zero_add _)) (Nat.le_of_eq (Nat.zero_add _)) dL_pathLink_18 ⟨rfl, rfl, rfl, rfl⟩
theorem k_pathLink_i {g : pr_C} {l : Launch} (hl : l.stackTraces = false) {T : pr_T} {I : pr_I} {L : pr_L} {x o d' mc' ms' : Nat} {p1 p2 : Int32} (hM : pr_M g l d' mc' ms' mX7_pathLink [.ref x, .int p1, .int p2] T I L pr_nv (pr_Th eIOO T I L)) (hx : T.2.1 x = (7, 0)) : pr_M g l (d' + 1) mc' ms' mL_pathLink [.ref x, .int p1, .int p2, .ref o] T I L (pr_Ct 1 T I L) pr_no := by
  refine pr_ofGH (by decide) rfl hl (Nat.le_of_ble_eq_true rfl) (fun X hA hX hXn hXt => ?_)
  subst hX
  show pr_G g X mL_pathLink.2.2.1 _ 0 0 0 [.ref x, .int p1, .int p2, .ref o, .null] [] T I L
  refine pr_aload_n hA dL_pathLink_0 rfl ?_
  refine pr_iconst hA (nI 0) dL_pathLink_1 (by decide) ?_
  refine pr_aload_n hA dL_pathLink_2 rfl ?_
  refine pr_iload_n hA dL_pathLink_3 rfl ?_
  refine pr_iload_n hA dL_pathLink_4 rfl ?_
  refine pr_callV hA rfl (As := [.int p1, .int p2]) hM v_L_55 hx (by decide) rfl rfl rfl (Nat.le_refl _) (Nat.le_of_eq (Nat.zero_add _)) (Nat.le_of_eq (Nat.zero_add _)) (st := [.int (nI 0), .ref o]) rfl (Nat.le_of_ble_eq_true rfl) dL_pathLink_5 (fun v T2 I2 L2 h => h.elim) (fun E2 T2 I2 L2 h => ?_)
  obtain ⟨rfl, ⟨N, hN, rfl⟩, rfl, rfl⟩ := h
  refine pr_catch hA [] ⟨0, 10, 13, 13⟩ [] hXt (Or.inl rfl) (by decide) (by decide) kC_L_13 (by decide +kernel) (fun q => ?_)
  refine pr_astore (ls' := _) hA dL_pathLink_13 (by decide) rfl ?_
  refine pr_iconst hA (1) dL_pathLink_15 (by decide) ?_
  exact pr_ireturn hA rfl rfl (Nat.le_of_eq (Nat.zero_add _)) (Nat.le_of_eq (Nat.zero_add _)) dL_pathLink_16 ⟨rfl, ⟨N, hN, rfl⟩, rfl, rfl⟩
theorem k_placeOf {g : pr_C} {l : Launch} (hl : l.stackTraces = false) {T T' : pr_T} {I I' : pr_I} {L L' : pr_L} {x o d' mc' ms' : Nat} {p1 : Int32} {r : Int32} (hM : pr_M g l d' mc' ms' mX7_placeOf [.ref x, .int p1] T I L (pr_R (some (.int r)) T' I' L') pr_no) (hx : T.2.1 x = (7, 0)) (ho : T'.2.1 o = (21, 1)) : pr_M g l (d' + 1) mc' ms' mL_placeOf [.ref x, .int p1, .ref o] T I L (pr_R (some (.int 0)) T' I' (pr_upl L' o 0 r.toInt64)) pr_no := by
  refine pr_ofGH (by decide) rfl hl (Nat.le_of_ble_eq_true rfl) (fun X hA hX hXn hXt => ?_)
  subst hX
  show pr_G g X mL_placeOf.2.2.1 _ 0 0 0 [.ref x, .int p1, .ref o, .null] [] T I L
  refine pr_aload_n hA dL_placeOf_0 rfl ?_
  refine pr_iconst hA (nI 0) dL_placeOf_1 (by decide) ?_
  refine pr_aload_n hA dL_placeOf_2 rfl ?_
  refine pr_iload_n hA dL_placeOf_3 rfl ?_
  refine pr_callV hA rfl (As := [.int p1]) hM v_L_58 hx (by decide) rfl rfl rfl (Nat.le_refl _) (Nat.le_of_eq (Nat.zero_add _)) (Nat.le_of_eq (Nat.zero_add _)) (st := [.int (nI 0), .ref o]) rfl (Nat.le_of_ble_eq_true rfl) dL_placeOf_4 (fun v T2 I2 L2 h => ?_) (fun _ _ _ _ h => h.elim)
  obtain ⟨rfl, rfl, rfl, rfl⟩ := h
  refine pr_i2l hA dL_placeOf_7 ?_
  refine pr_lastE hA ho (by decide) (by decide) dL_placeOf_8 ?_
  refine pr_goto hA 15 dL_placeOf_9 (by decide) ?_
  refine pr_iconst hA (0) dL_placeOf_15 (by decide) ?_
  exact pr_ireturn hA rfl rfl (Nat.le_of_eq (Nat.zero_add _)) (Nat.le_of_eq (Nat.zero_add _)) dL_placeOf_16 ⟨rfl, rfl, rfl, rfl⟩
theorem k_placeOf_i {g : pr_C} {l : Launch} (hl : l.stackTraces = false) {T : pr_T} {I : pr_I} {L : pr_L} {x o d' mc' ms' : Nat} {p1 : Int32} (hM : pr_M g l d' mc' ms' mX7_placeOf [.ref x, .int p1] T I L pr_nv (pr_Th eIOO T I L)) (hx : T.2.1 x = (7, 0)) : pr_M g l (d' + 1) mc' ms' mL_placeOf [.ref x, .int p1, .ref o] T I L (pr_Ct 1 T I L) pr_no := by
  refine pr_ofGH (by decide) rfl hl (Nat.le_of_ble_eq_true rfl) (fun X hA hX hXn hXt => ?_)
  subst hX
  show pr_G g X mL_placeOf.2.2.1 _ 0 0 0 [.ref x, .int p1, .ref o, .null] [] T I L
  refine pr_aload_n hA dL_placeOf_0 rfl ?_
  refine pr_iconst hA (nI 0) dL_placeOf_1 (by decide) ?_
  refine pr_aload_n hA dL_placeOf_2 rfl ?_
  refine pr_iload_n hA dL_placeOf_3 rfl ?_
  refine pr_callV hA rfl (As := [.int p1]) hM v_L_58 hx (by decide) rfl rfl rfl (Nat.le_refl _) (Nat.le_of_eq (Nat.zero_add _)) (Nat.le_of_eq (Nat.zero_add _)) (st := [.int (nI 0), .ref o]) rfl (Nat.le_of_ble_eq_true rfl) dL_placeOf_4 (fun v T2 I2 L2 h => h.elim) (fun E2 T2 I2 L2 h => ?_)
  obtain ⟨rfl, ⟨N, hN, rfl⟩, rfl, rfl⟩ := h
  refine pr_catch hA [] ⟨0, 9, 12, 13⟩ [] hXt (Or.inl rfl) (by decide) (by decide) kC_L_13 (by decide +kernel) (fun q => ?_)
  refine pr_astore_n (ls' := _) hA dL_placeOf_12 (by decide) rfl ?_
  refine pr_iconst hA (1) dL_placeOf_13 (by decide) ?_
  exact pr_ireturn hA rfl rfl (Nat.le_of_eq (Nat.zero_add _)) (Nat.le_of_eq (Nat.zero_add _)) dL_placeOf_14 ⟨rfl, ⟨N, hN, rfl⟩, rfl, rfl⟩
theorem k_reachable {g : pr_C} {l : Launch} (hl : l.stackTraces = false) {T T' : pr_T} {I I' : pr_I} {L L' : pr_L} {x o d' mc' ms' : Nat} {p1 p2 : Int32} {r : Int32} (hM : pr_M g l d' mc' ms' mX7_reachable [.ref x, .int p1, .int p2] T I L (pr_R (some (.int r)) T' I' L') pr_no) (hx : T.2.1 x = (7, 0)) (ho : T'.2.1 o = (21, 1)) : pr_M g l (d' + 1) mc' ms' mL_reachable [.ref x, .int p1, .int p2, .ref o] T I L (pr_R (some (.int 0)) T' I' (pr_upl L' o 0 r.toInt64)) pr_no := by
  refine pr_ofGH (by decide) rfl hl (Nat.le_of_ble_eq_true rfl) (fun X hA hX hXn hXt => ?_)
  subst hX
  show pr_G g X mL_reachable.2.2.1 _ 0 0 0 [.ref x, .int p1, .int p2, .ref o, .null] [] T I L
  refine pr_aload_n hA dL_reachable_0 rfl ?_
  refine pr_iconst hA (nI 0) dL_reachable_1 (by decide) ?_
  refine pr_aload_n hA dL_reachable_2 rfl ?_
  refine pr_iload_n hA dL_reachable_3 rfl ?_
  refine pr_iload_n hA dL_reachable_4 rfl ?_
  refine pr_callV hA rfl (As := [.int p1, .int p2]) hM v_L_104 hx (by decide) rfl rfl rfl (Nat.le_refl _) (Nat.le_of_eq (Nat.zero_add _)) (Nat.le_of_eq (Nat.zero_add _)) (st := [.int (nI 0), .ref o]) rfl (Nat.le_of_ble_eq_true rfl) dL_reachable_5 (fun v T2 I2 L2 h => ?_) (fun _ _ _ _ h => h.elim)
  obtain ⟨rfl, rfl, rfl, rfl⟩ := h
  refine pr_i2l hA dL_reachable_8 ?_
  refine pr_lastE hA ho (by decide) (by decide) dL_reachable_9 ?_
  refine pr_goto hA 21 dL_reachable_10 (by decide) ?_
  refine pr_iconst hA (0) dL_reachable_21 (by decide) ?_
  exact pr_ireturn hA rfl rfl (Nat.le_of_eq (Nat.zero_add _)) (Nat.le_of_eq (Nat.zero_add _)) dL_reachable_22 ⟨rfl, rfl, rfl, rfl⟩
theorem k_reachable_i {g : pr_C} {l : Launch} (hl : l.stackTraces = false) {T : pr_T} {I : pr_I} {L : pr_L} {x o d' mc' ms' : Nat} {p1 p2 : Int32} (hM : pr_M g l d' mc' ms' mX7_reachable [.ref x, .int p1, .int p2] T I L pr_nv (pr_Th eIOO T I L)) (hx : T.2.1 x = (7, 0)) : pr_M g l (d' + 1) mc' ms' mL_reachable [.ref x, .int p1, .int p2, .ref o] T I L (pr_Ct 1 T I L) pr_no := by
  refine pr_ofGH (by decide) rfl hl (Nat.le_of_ble_eq_true rfl) (fun X hA hX hXn hXt => ?_)
  subst hX
  show pr_G g X mL_reachable.2.2.1 _ 0 0 0 [.ref x, .int p1, .int p2, .ref o, .null] [] T I L
  refine pr_aload_n hA dL_reachable_0 rfl ?_
  refine pr_iconst hA (nI 0) dL_reachable_1 (by decide) ?_
  refine pr_aload_n hA dL_reachable_2 rfl ?_
  refine pr_iload_n hA dL_reachable_3 rfl ?_
  refine pr_iload_n hA dL_reachable_4 rfl ?_
  refine pr_callV hA rfl (As := [.int p1, .int p2]) hM v_L_104 hx (by decide) rfl rfl rfl (Nat.le_refl _) (Nat.le_of_eq (Nat.zero_add _)) (Nat.le_of_eq (Nat.zero_add _)) (st := [.int (nI 0), .ref o]) rfl (Nat.le_of_ble_eq_true rfl) dL_reachable_5 (fun v T2 I2 L2 h => h.elim) (fun E2 T2 I2 L2 h => ?_)
  obtain ⟨rfl, ⟨N, hN, rfl⟩, rfl, rfl⟩ := h
  refine pr_catch hA [] ⟨0, 10, 13, 13⟩ [⟨0, 10, 17, 18⟩] hXt (Or.inl rfl) (by decide) (by decide) kC_L_13 (by decide +kernel) (fun q => ?_)
  refine pr_astore (ls' := _) hA dL_reachable_13 (by decide) rfl ?_
  refine pr_iconst hA (1) dL_reachable_15 (by decide) ?_
  exact pr_ireturn hA rfl rfl (Nat.le_of_eq (Nat.zero_add _)) (Nat.le_of_eq (Nat.zero_add _)) dL_reachable_16 ⟨rfl, ⟨N, hN, rfl⟩, rfl, rfl⟩
theorem k_reachable_a {g : pr_C} {l : Launch} (hl : l.stackTraces = false) {T : pr_T} {I : pr_I} {L : pr_L} {x o d' mc' ms' : Nat} {p1 p2 : Int32} (hM : pr_M g l d' mc' ms' mX7_reachable [.ref x, .int p1, .int p2] T I L pr_nv (pr_Th eIAE T I L)) (hx : T.2.1 x = (7, 0)) : pr_M g l (d' + 1) mc' ms' mL_reachable [.ref x, .int p1, .int p2, .ref o] T I L (pr_Ct 2 T I L) pr_no := by
  refine pr_ofGH (by decide) rfl hl (Nat.le_of_ble_eq_true rfl) (fun X hA hX hXn hXt => ?_)
  subst hX
  show pr_G g X mL_reachable.2.2.1 _ 0 0 0 [.ref x, .int p1, .int p2, .ref o, .null] [] T I L
  refine pr_aload_n hA dL_reachable_0 rfl ?_
  refine pr_iconst hA (nI 0) dL_reachable_1 (by decide) ?_
  refine pr_aload_n hA dL_reachable_2 rfl ?_
  refine pr_iload_n hA dL_reachable_3 rfl ?_
  refine pr_iload_n hA dL_reachable_4 rfl ?_
  refine pr_callV hA rfl (As := [.int p1, .int p2]) hM v_L_104 hx (by decide) rfl rfl rfl (Nat.le_refl _) (Nat.le_of_eq (Nat.zero_add _)) (Nat.le_of_eq (Nat.zero_add _)) (st := [.int (nI 0), .ref o]) rfl (Nat.le_of_ble_eq_true rfl) dL_reachable_5 (fun v T2 I2 L2 h => h.elim) (fun E2 T2 I2 L2 h => ?_)
  obtain ⟨rfl, ⟨N, hN, rfl⟩, rfl, rfl⟩ := h
  refine pr_catch hA [⟨0, 10, 13, 13⟩] ⟨0, 10, 17, 18⟩ [] hXt (Or.inr ⟨rfl, _, rfl, by decide, kC_L_13⟩) (by decide) (by decide) kC_L_18 (by decide +kernel) (fun q => ?_)
  refine pr_astore (ls' := _) hA dL_reachable_17 (by decide) rfl ?_
  refine pr_iconst hA (2) dL_reachable_19 (by decide) ?_
  exact pr_ireturn hA rfl rfl (Nat.le_of_eq (Nat.zero_add _)) (Nat.le_of_eq (Nat.zero_add _)) dL_reachable_20 ⟨rfl, ⟨N, hN, rfl⟩, rfl, rfl⟩
theorem k_request {g : pr_C} {l : Launch} (hl : l.stackTraces = false) {T T' : pr_T} {I I' : pr_I} {L L' : pr_L} {x o d' mc' ms' : Nat} {p1 p2 p3 p4 : Int32} {r : Int32} (hM : pr_M g l d' mc' ms' mX7_request [.ref x, .int p1, .int p2, .int p3, .int p4] T I L (pr_R (some (.int r)) T' I' L') pr_no) (hx : T.2.1 x = (7, 0)) (ho : T'.2.1 o = (21, 1)) : pr_M g l (d' + 1) mc' ms' mL_request [.ref x, .int p1, .int p2, .int p3, .int p4, .ref o] T I L (pr_R (some (.int 0)) T' I' (pr_upl L' o 0 r.toInt64)) pr_no := by
  refine pr_ofGH (by decide) rfl hl (Nat.le_of_ble_eq_true rfl) (fun X hA hX hXn hXt => ?_)
  subst hX
  show pr_G g X mL_request.2.2.1 _ 0 0 0 [.ref x, .int p1, .int p2, .int p3, .int p4, .ref o, .null] [] T I L
  refine pr_aload hA dL_request_0 rfl ?_
  refine pr_iconst hA (nI 0) dL_request_2 (by decide) ?_
  refine pr_aload_n hA dL_request_3 rfl ?_
  refine pr_iload_n hA dL_request_4 rfl ?_
  refine pr_iload_n hA dL_request_5 rfl ?_
  refine pr_iload_n hA dL_request_6 rfl ?_
  refine pr_iload hA dL_request_7 rfl ?_
  refine pr_callV hA rfl (As := [.int p1, .int p2, .int p3, .int p4]) hM v_L_36 hx (by decide) rfl rfl rfl (Nat.le_refl _) (Nat.le_of_eq (Nat.zero_add _)) (Nat.le_of_eq (Nat.zero_add _)) (st := [.int (nI 0), .ref o]) rfl (Nat.le_of_ble_eq_true rfl) dL_request_9 (fun v T2 I2 L2 h => ?_) (fun _ _ _ _ h => h.elim)
  obtain ⟨rfl, rfl, rfl, rfl⟩ := h
  refine pr_i2l hA dL_request_12 ?_
  refine pr_lastE hA ho (by decide) (by decide) dL_request_13 ?_
  refine pr_goto hA 25 dL_request_14 (by decide) ?_
  refine pr_iconst hA (0) dL_request_25 (by decide) ?_
  exact pr_ireturn hA rfl rfl (Nat.le_of_eq (Nat.zero_add _)) (Nat.le_of_eq (Nat.zero_add _)) dL_request_26 ⟨rfl, rfl, rfl, rfl⟩
theorem k_request_i {g : pr_C} {l : Launch} (hl : l.stackTraces = false) {T : pr_T} {I : pr_I} {L : pr_L} {x o d' mc' ms' : Nat} {p1 p2 p3 p4 : Int32} (hM : pr_M g l d' mc' ms' mX7_request [.ref x, .int p1, .int p2, .int p3, .int p4] T I L pr_nv (pr_Th eIOO T I L)) (hx : T.2.1 x = (7, 0)) : pr_M g l (d' + 1) mc' ms' mL_request [.ref x, .int p1, .int p2, .int p3, .int p4, .ref o] T I L (pr_Ct 1 T I L) pr_no := by
  refine pr_ofGH (by decide) rfl hl (Nat.le_of_ble_eq_true rfl) (fun X hA hX hXn hXt => ?_)
  subst hX
  show pr_G g X mL_request.2.2.1 _ 0 0 0 [.ref x, .int p1, .int p2, .int p3, .int p4, .ref o, .null] [] T I L
  refine pr_aload hA dL_request_0 rfl ?_
  refine pr_iconst hA (nI 0) dL_request_2 (by decide) ?_
  refine pr_aload_n hA dL_request_3 rfl ?_
  refine pr_iload_n hA dL_request_4 rfl ?_
  refine pr_iload_n hA dL_request_5 rfl ?_
  refine pr_iload_n hA dL_request_6 rfl ?_
  refine pr_iload hA dL_request_7 rfl ?_
  refine pr_callV hA rfl (As := [.int p1, .int p2, .int p3, .int p4]) hM v_L_36 hx (by decide) rfl rfl rfl (Nat.le_refl _) (Nat.le_of_eq (Nat.zero_add _)) (Nat.le_of_eq (Nat.zero_add _)) (st := [.int (nI 0), .ref o]) rfl (Nat.le_of_ble_eq_true rfl) dL_request_9 (fun v T2 I2 L2 h => h.elim) (fun E2 T2 I2 L2 h => ?_)
  obtain ⟨rfl, ⟨N, hN, rfl⟩, rfl, rfl⟩ := h
  refine pr_catch hA [] ⟨0, 14, 17, 13⟩ [⟨0, 14, 21, 18⟩] hXt (Or.inl rfl) (by decide) (by decide) kC_L_13 (by decide +kernel) (fun q => ?_)
  refine pr_astore (ls' := _) hA dL_request_17 (by decide) rfl ?_
  refine pr_iconst hA (1) dL_request_19 (by decide) ?_
  exact pr_ireturn hA rfl rfl (Nat.le_of_eq (Nat.zero_add _)) (Nat.le_of_eq (Nat.zero_add _)) dL_request_20 ⟨rfl, ⟨N, hN, rfl⟩, rfl, rfl⟩
theorem k_request_a {g : pr_C} {l : Launch} (hl : l.stackTraces = false) {T : pr_T} {I : pr_I} {L : pr_L} {x o d' mc' ms' : Nat} {p1 p2 p3 p4 : Int32} (hM : pr_M g l d' mc' ms' mX7_request [.ref x, .int p1, .int p2, .int p3, .int p4] T I L pr_nv (pr_Th eIAE T I L)) (hx : T.2.1 x = (7, 0)) : pr_M g l (d' + 1) mc' ms' mL_request [.ref x, .int p1, .int p2, .int p3, .int p4, .ref o] T I L (pr_Ct 2 T I L) pr_no := by
  refine pr_ofGH (by decide) rfl hl (Nat.le_of_ble_eq_true rfl) (fun X hA hX hXn hXt => ?_)
  subst hX
  show pr_G g X mL_request.2.2.1 _ 0 0 0 [.ref x, .int p1, .int p2, .int p3, .int p4, .ref o, .null] [] T I L
  refine pr_aload hA dL_request_0 rfl ?_
  refine pr_iconst hA (nI 0) dL_request_2 (by decide) ?_
  refine pr_aload_n hA dL_request_3 rfl ?_
  refine pr_iload_n hA dL_request_4 rfl ?_
  refine pr_iload_n hA dL_request_5 rfl ?_
  refine pr_iload_n hA dL_request_6 rfl ?_
  refine pr_iload hA dL_request_7 rfl ?_
  refine pr_callV hA rfl (As := [.int p1, .int p2, .int p3, .int p4]) hM v_L_36 hx (by decide) rfl rfl rfl (Nat.le_refl _) (Nat.le_of_eq (Nat.zero_add _)) (Nat.le_of_eq (Nat.zero_add _)) (st := [.int (nI 0), .ref o]) rfl (Nat.le_of_ble_eq_true rfl) dL_request_9 (fun v T2 I2 L2 h => h.elim) (fun E2 T2 I2 L2 h => ?_)
  obtain ⟨rfl, ⟨N, hN, rfl⟩, rfl, rfl⟩ := h
  refine pr_catch hA [⟨0, 14, 17, 13⟩] ⟨0, 14, 21, 18⟩ [] hXt (Or.inr ⟨rfl, _, rfl, by decide, kC_L_13⟩) (by decide) (by decide) kC_L_18 (by decide +kernel) (fun q => ?_)
  refine pr_astore (ls' := _) hA dL_request_21 (by decide) rfl ?_
  refine pr_iconst hA (2) dL_request_23 (by decide) ?_
  exact pr_ireturn hA rfl rfl (Nat.le_of_eq (Nat.zero_add _)) (Nat.le_of_eq (Nat.zero_add _)) dL_request_24 ⟨rfl, ⟨N, hN, rfl⟩, rfl, rfl⟩
theorem k_requestInState {g : pr_C} {l : Launch} (hl : l.stackTraces = false) {T T' : pr_T} {I I' : pr_I} {L L' : pr_L} {x o d' mc' ms' : Nat} {p1 p2 : Int32} {r : Int32} (hM : pr_M g l d' mc' ms' mX7_requestInState [.ref x, .int p1, .int p2] T I L (pr_R (some (.int r)) T' I' L') pr_no) (hx : T.2.1 x = (7, 0)) (ho : T'.2.1 o = (21, 1)) : pr_M g l (d' + 1) mc' ms' mL_requestInState [.ref x, .int p1, .int p2, .ref o] T I L (pr_R (some (.int 0)) T' I' (pr_upl L' o 0 r.toInt64)) pr_no := by
  refine pr_ofGH (by decide) rfl hl (Nat.le_of_ble_eq_true rfl) (fun X hA hX hXn hXt => ?_)
  subst hX
  show pr_G g X mL_requestInState.2.2.1 _ 0 0 0 [.ref x, .int p1, .int p2, .ref o, .null] [] T I L
  refine pr_aload_n hA dL_requestInState_0 rfl ?_
  refine pr_iconst hA (nI 0) dL_requestInState_1 (by decide) ?_
  refine pr_aload_n hA dL_requestInState_2 rfl ?_
  refine pr_iload_n hA dL_requestInState_3 rfl ?_
  refine pr_iload_n hA dL_requestInState_4 rfl ?_
  refine pr_callV hA rfl (As := [.int p1, .int p2]) hM v_L_64 hx (by decide) rfl rfl rfl (Nat.le_refl _) (Nat.le_of_eq (Nat.zero_add _)) (Nat.le_of_eq (Nat.zero_add _)) (st := [.int (nI 0), .ref o]) rfl (Nat.le_of_ble_eq_true rfl) dL_requestInState_5 (fun v T2 I2 L2 h => ?_) (fun _ _ _ _ h => h.elim)
  obtain ⟨rfl, rfl, rfl, rfl⟩ := h
  refine pr_i2l hA dL_requestInState_8 ?_
  refine pr_lastE hA ho (by decide) (by decide) dL_requestInState_9 ?_
  refine pr_goto hA 17 dL_requestInState_10 (by decide) ?_
  refine pr_iconst hA (0) dL_requestInState_17 (by decide) ?_
  exact pr_ireturn hA rfl rfl (Nat.le_of_eq (Nat.zero_add _)) (Nat.le_of_eq (Nat.zero_add _)) dL_requestInState_18 ⟨rfl, rfl, rfl, rfl⟩
theorem k_requestInState_a {g : pr_C} {l : Launch} (hl : l.stackTraces = false) {T : pr_T} {I : pr_I} {L : pr_L} {x o d' mc' ms' : Nat} {p1 p2 : Int32} (hM : pr_M g l d' mc' ms' mX7_requestInState [.ref x, .int p1, .int p2] T I L pr_nv (pr_Th eIAE T I L)) (hx : T.2.1 x = (7, 0)) : pr_M g l (d' + 1) mc' ms' mL_requestInState [.ref x, .int p1, .int p2, .ref o] T I L (pr_Ct 1 T I L) pr_no := by
  refine pr_ofGH (by decide) rfl hl (Nat.le_of_ble_eq_true rfl) (fun X hA hX hXn hXt => ?_)
  subst hX
  show pr_G g X mL_requestInState.2.2.1 _ 0 0 0 [.ref x, .int p1, .int p2, .ref o, .null] [] T I L
  refine pr_aload_n hA dL_requestInState_0 rfl ?_
  refine pr_iconst hA (nI 0) dL_requestInState_1 (by decide) ?_
  refine pr_aload_n hA dL_requestInState_2 rfl ?_
  refine pr_iload_n hA dL_requestInState_3 rfl ?_
  refine pr_iload_n hA dL_requestInState_4 rfl ?_
  refine pr_callV hA rfl (As := [.int p1, .int p2]) hM v_L_64 hx (by decide) rfl rfl rfl (Nat.le_refl _) (Nat.le_of_eq (Nat.zero_add _)) (Nat.le_of_eq (Nat.zero_add _)) (st := [.int (nI 0), .ref o]) rfl (Nat.le_of_ble_eq_true rfl) dL_requestInState_5 (fun v T2 I2 L2 h => h.elim) (fun E2 T2 I2 L2 h => ?_)
  obtain ⟨rfl, ⟨N, hN, rfl⟩, rfl, rfl⟩ := h
  refine pr_catch hA [] ⟨0, 10, 13, 18⟩ [] hXt (Or.inl rfl) (by decide) (by decide) kC_L_18 (by decide +kernel) (fun q => ?_)
  refine pr_astore (ls' := _) hA dL_requestInState_13 (by decide) rfl ?_
  refine pr_iconst hA (1) dL_requestInState_15 (by decide) ?_
  exact pr_ireturn hA rfl rfl (Nat.le_of_eq (Nat.zero_add _)) (Nat.le_of_eq (Nat.zero_add _)) dL_requestInState_16 ⟨rfl, ⟨N, hN, rfl⟩, rfl, rfl⟩
theorem k_requestValue {g : pr_C} {l : Launch} (hl : l.stackTraces = false) {T T' : pr_T} {I I' : pr_I} {L L' : pr_L} {x o d' mc' ms' : Nat} {p1 p2 : Int32} {r : Int32} (hM : pr_M g l d' mc' ms' mX7_requestValue [.ref x, .int p1, .int p2] T I L (pr_R (some (.int r)) T' I' L') pr_no) (hx : T.2.1 x = (7, 0)) (ho : T'.2.1 o = (21, 1)) : pr_M g l (d' + 1) mc' ms' mL_requestValue [.ref x, .int p1, .int p2, .ref o] T I L (pr_R (some (.int 0)) T' I' (pr_upl L' o 0 r.toInt64)) pr_no := by
  refine pr_ofGH (by decide) rfl hl (Nat.le_of_ble_eq_true rfl) (fun X hA hX hXn hXt => ?_)
  subst hX
  show pr_G g X mL_requestValue.2.2.1 _ 0 0 0 [.ref x, .int p1, .int p2, .ref o, .null] [] T I L
  refine pr_aload_n hA dL_requestValue_0 rfl ?_
  refine pr_iconst hA (nI 0) dL_requestValue_1 (by decide) ?_
  refine pr_aload_n hA dL_requestValue_2 rfl ?_
  refine pr_iload_n hA dL_requestValue_3 rfl ?_
  refine pr_iload_n hA dL_requestValue_4 rfl ?_
  refine pr_callV hA rfl (As := [.int p1, .int p2]) hM v_L_49 hx (by decide) rfl rfl rfl (Nat.le_refl _) (Nat.le_of_eq (Nat.zero_add _)) (Nat.le_of_eq (Nat.zero_add _)) (st := [.int (nI 0), .ref o]) rfl (Nat.le_of_ble_eq_true rfl) dL_requestValue_5 (fun v T2 I2 L2 h => ?_) (fun _ _ _ _ h => h.elim)
  obtain ⟨rfl, rfl, rfl, rfl⟩ := h
  refine pr_i2l hA dL_requestValue_8 ?_
  refine pr_lastE hA ho (by decide) (by decide) dL_requestValue_9 ?_
  refine pr_goto hA 21 dL_requestValue_10 (by decide) ?_
  refine pr_iconst hA (0) dL_requestValue_21 (by decide) ?_
  exact pr_ireturn hA rfl rfl (Nat.le_of_eq (Nat.zero_add _)) (Nat.le_of_eq (Nat.zero_add _)) dL_requestValue_22 ⟨rfl, rfl, rfl, rfl⟩
theorem k_requestValue_i {g : pr_C} {l : Launch} (hl : l.stackTraces = false) {T : pr_T} {I : pr_I} {L : pr_L} {x o d' mc' ms' : Nat} {p1 p2 : Int32} (hM : pr_M g l d' mc' ms' mX7_requestValue [.ref x, .int p1, .int p2] T I L pr_nv (pr_Th eIOO T I L)) (hx : T.2.1 x = (7, 0)) : pr_M g l (d' + 1) mc' ms' mL_requestValue [.ref x, .int p1, .int p2, .ref o] T I L (pr_Ct 1 T I L) pr_no := by
  refine pr_ofGH (by decide) rfl hl (Nat.le_of_ble_eq_true rfl) (fun X hA hX hXn hXt => ?_)
  subst hX
  show pr_G g X mL_requestValue.2.2.1 _ 0 0 0 [.ref x, .int p1, .int p2, .ref o, .null] [] T I L
  refine pr_aload_n hA dL_requestValue_0 rfl ?_
  refine pr_iconst hA (nI 0) dL_requestValue_1 (by decide) ?_
  refine pr_aload_n hA dL_requestValue_2 rfl ?_
  refine pr_iload_n hA dL_requestValue_3 rfl ?_
  refine pr_iload_n hA dL_requestValue_4 rfl ?_
  refine pr_callV hA rfl (As := [.int p1, .int p2]) hM v_L_49 hx (by decide) rfl rfl rfl (Nat.le_refl _) (Nat.le_of_eq (Nat.zero_add _)) (Nat.le_of_eq (Nat.zero_add _)) (st := [.int (nI 0), .ref o]) rfl (Nat.le_of_ble_eq_true rfl) dL_requestValue_5 (fun v T2 I2 L2 h => h.elim) (fun E2 T2 I2 L2 h => ?_)
  obtain ⟨rfl, ⟨N, hN, rfl⟩, rfl, rfl⟩ := h
  refine pr_catch hA [] ⟨0, 10, 13, 13⟩ [⟨0, 10, 17, 18⟩] hXt (Or.inl rfl) (by decide) (by decide) kC_L_13 (by decide +kernel) (fun q => ?_)
  refine pr_astore (ls' := _) hA dL_requestValue_13 (by decide) rfl ?_
  refine pr_iconst hA (1) dL_requestValue_15 (by decide) ?_
  exact pr_ireturn hA rfl rfl (Nat.le_of_eq (Nat.zero_add _)) (Nat.le_of_eq (Nat.zero_add _)) dL_requestValue_16 ⟨rfl, ⟨N, hN, rfl⟩, rfl, rfl⟩
theorem k_requestValue_a {g : pr_C} {l : Launch} (hl : l.stackTraces = false) {T : pr_T} {I : pr_I} {L : pr_L} {x o d' mc' ms' : Nat} {p1 p2 : Int32} (hM : pr_M g l d' mc' ms' mX7_requestValue [.ref x, .int p1, .int p2] T I L pr_nv (pr_Th eIAE T I L)) (hx : T.2.1 x = (7, 0)) : pr_M g l (d' + 1) mc' ms' mL_requestValue [.ref x, .int p1, .int p2, .ref o] T I L (pr_Ct 2 T I L) pr_no := by
  refine pr_ofGH (by decide) rfl hl (Nat.le_of_ble_eq_true rfl) (fun X hA hX hXn hXt => ?_)
  subst hX
  show pr_G g X mL_requestValue.2.2.1 _ 0 0 0 [.ref x, .int p1, .int p2, .ref o, .null] [] T I L
  refine pr_aload_n hA dL_requestValue_0 rfl ?_
  refine pr_iconst hA (nI 0) dL_requestValue_1 (by decide) ?_
  refine pr_aload_n hA dL_requestValue_2 rfl ?_
  refine pr_iload_n hA dL_requestValue_3 rfl ?_
  refine pr_iload_n hA dL_requestValue_4 rfl ?_
  refine pr_callV hA rfl (As := [.int p1, .int p2]) hM v_L_49 hx (by decide) rfl rfl rfl (Nat.le_refl _) (Nat.le_of_eq (Nat.zero_add _)) (Nat.le_of_eq (Nat.zero_add _)) (st := [.int (nI 0), .ref o]) rfl (Nat.le_of_ble_eq_true rfl) dL_requestValue_5 (fun v T2 I2 L2 h => h.elim) (fun E2 T2 I2 L2 h => ?_)
  obtain ⟨rfl, ⟨N, hN, rfl⟩, rfl, rfl⟩ := h
  refine pr_catch hA [⟨0, 10, 13, 13⟩] ⟨0, 10, 17, 18⟩ [] hXt (Or.inr ⟨rfl, _, rfl, by decide, kC_L_13⟩) (by decide) (by decide) kC_L_18 (by decide +kernel) (fun q => ?_)
  refine pr_astore (ls' := _) hA dL_requestValue_17 (by decide) rfl ?_
  refine pr_iconst hA (2) dL_requestValue_19 (by decide) ?_
  exact pr_ireturn hA rfl rfl (Nat.le_of_eq (Nat.zero_add _)) (Nat.le_of_eq (Nat.zero_add _)) dL_requestValue_20 ⟨rfl, ⟨N, hN, rfl⟩, rfl, rfl⟩
theorem k_restoreSnapshot {g : pr_C} {l : Launch} (hl : l.stackTraces = false) {T T' : pr_T} {I I' : pr_I} {L L' : pr_L} {x o d' mc' ms' : Nat} {p1 : Int32} {r : Int32} (hM : pr_M g l d' mc' ms' mX7_restoreSnapshot [.ref x, .int p1] T I L (pr_R (some (.int r)) T' I' L') pr_no) (hx : T.2.1 x = (7, 0)) (ho : T'.2.1 o = (21, 1)) : pr_M g l (d' + 1) mc' ms' mL_restoreSnapshot [.ref x, .int p1, .ref o] T I L (pr_R (some (.int 0)) T' I' (pr_upl L' o 0 r.toInt64)) pr_no := by
  refine pr_ofGH (by decide) rfl hl (Nat.le_of_ble_eq_true rfl) (fun X hA hX hXn hXt => ?_)
  subst hX
  show pr_G g X mL_restoreSnapshot.2.2.1 _ 0 0 0 [.ref x, .int p1, .ref o, .null] [] T I L
  refine pr_aload_n hA dL_restoreSnapshot_0 rfl ?_
  refine pr_iconst hA (nI 0) dL_restoreSnapshot_1 (by decide) ?_
  refine pr_aload_n hA dL_restoreSnapshot_2 rfl ?_
  refine pr_iload_n hA dL_restoreSnapshot_3 rfl ?_
  refine pr_callV hA rfl (As := [.int p1]) hM v_L_138 hx (by decide) rfl rfl rfl (Nat.le_refl _) (Nat.le_of_eq (Nat.zero_add _)) (Nat.le_of_eq (Nat.zero_add _)) (st := [.int (nI 0), .ref o]) rfl (Nat.le_of_ble_eq_true rfl) dL_restoreSnapshot_4 (fun v T2 I2 L2 h => ?_) (fun _ _ _ _ h => h.elim)
  obtain ⟨rfl, rfl, rfl, rfl⟩ := h
  refine pr_i2l hA dL_restoreSnapshot_7 ?_
  refine pr_lastE hA ho (by decide) (by decide) dL_restoreSnapshot_8 ?_
  refine pr_goto hA 15 dL_restoreSnapshot_9 (by decide) ?_
  refine pr_iconst hA (0) dL_restoreSnapshot_15 (by decide) ?_
  exact pr_ireturn hA rfl rfl (Nat.le_of_eq (Nat.zero_add _)) (Nat.le_of_eq (Nat.zero_add _)) dL_restoreSnapshot_16 ⟨rfl, rfl, rfl, rfl⟩
theorem k_restoreSnapshot_a {g : pr_C} {l : Launch} (hl : l.stackTraces = false) {T : pr_T} {I : pr_I} {L : pr_L} {x o d' mc' ms' : Nat} {p1 : Int32} (hM : pr_M g l d' mc' ms' mX7_restoreSnapshot [.ref x, .int p1] T I L pr_nv (pr_Th eIAE T I L)) (hx : T.2.1 x = (7, 0)) : pr_M g l (d' + 1) mc' ms' mL_restoreSnapshot [.ref x, .int p1, .ref o] T I L (pr_Ct 1 T I L) pr_no := by
  refine pr_ofGH (by decide) rfl hl (Nat.le_of_ble_eq_true rfl) (fun X hA hX hXn hXt => ?_)
  subst hX
  show pr_G g X mL_restoreSnapshot.2.2.1 _ 0 0 0 [.ref x, .int p1, .ref o, .null] [] T I L
  refine pr_aload_n hA dL_restoreSnapshot_0 rfl ?_
  refine pr_iconst hA (nI 0) dL_restoreSnapshot_1 (by decide) ?_
  refine pr_aload_n hA dL_restoreSnapshot_2 rfl ?_
  refine pr_iload_n hA dL_restoreSnapshot_3 rfl ?_
  refine pr_callV hA rfl (As := [.int p1]) hM v_L_138 hx (by decide) rfl rfl rfl (Nat.le_refl _) (Nat.le_of_eq (Nat.zero_add _)) (Nat.le_of_eq (Nat.zero_add _)) (st := [.int (nI 0), .ref o]) rfl (Nat.le_of_ble_eq_true rfl) dL_restoreSnapshot_4 (fun v T2 I2 L2 h => h.elim) (fun E2 T2 I2 L2 h => ?_)
  obtain ⟨rfl, ⟨N, hN, rfl⟩, rfl, rfl⟩ := h
  refine pr_catch hA [] ⟨0, 9, 12, 18⟩ [] hXt (Or.inl rfl) (by decide) (by decide) kC_L_18 (by decide +kernel) (fun q => ?_)
  refine pr_astore_n (ls' := _) hA dL_restoreSnapshot_12 (by decide) rfl ?_
  refine pr_iconst hA (1) dL_restoreSnapshot_13 (by decide) ?_
  exact pr_ireturn hA rfl rfl (Nat.le_of_eq (Nat.zero_add _)) (Nat.le_of_eq (Nat.zero_add _)) dL_restoreSnapshot_14 ⟨rfl, ⟨N, hN, rfl⟩, rfl, rfl⟩
theorem k_revenueAfter {g : pr_C} {l : Launch} (hl : l.stackTraces = false) {T T' : pr_T} {I I' : pr_I} {L L' : pr_L} {x o d' mc' ms' : Nat} {p1 : Int32} {r : Int64} (hM : pr_M g l d' mc' ms' mX7_revenueAfter [.ref x, .int p1] T I L (pr_R (some (.long r)) T' I' L') pr_no) (hx : T.2.1 x = (7, 0)) (ho : T'.2.1 o = (21, 1)) : pr_M g l (d' + 1) mc' ms' mL_revenueAfter [.ref x, .int p1, .ref o] T I L (pr_R (some (.int 0)) T' I' (pr_upl L' o 0 r)) pr_no := by
  refine pr_ofGH (by decide) rfl hl (Nat.le_of_ble_eq_true rfl) (fun X hA hX hXn hXt => ?_)
  subst hX
  show pr_G g X mL_revenueAfter.2.2.1 _ 0 0 0 [.ref x, .int p1, .ref o, .null] [] T I L
  refine pr_aload_n hA dL_revenueAfter_0 rfl ?_
  refine pr_iconst hA (nI 0) dL_revenueAfter_1 (by decide) ?_
  refine pr_aload_n hA dL_revenueAfter_2 rfl ?_
  refine pr_iload_n hA dL_revenueAfter_3 rfl ?_
  refine pr_callV hA rfl (As := [.int p1]) hM v_L_119 hx (by decide) rfl rfl rfl (Nat.le_refl _) (Nat.le_of_eq (Nat.zero_add _)) (Nat.le_of_eq (Nat.zero_add _)) (st := [.int (nI 0), .ref o]) rfl (Nat.le_of_ble_eq_true rfl) dL_revenueAfter_4 (fun v T2 I2 L2 h => ?_) (fun _ _ _ _ h => h.elim)
  obtain ⟨rfl, rfl, rfl, rfl⟩ := h
  refine pr_lastE hA ho (by decide) (by decide) dL_revenueAfter_7 ?_
  refine pr_goto hA 14 dL_revenueAfter_8 (by decide) ?_
  refine pr_iconst hA (0) dL_revenueAfter_14 (by decide) ?_
  exact pr_ireturn hA rfl rfl (Nat.le_of_eq (Nat.zero_add _)) (Nat.le_of_eq (Nat.zero_add _)) dL_revenueAfter_15 ⟨rfl, rfl, rfl, rfl⟩
theorem k_revenueAfter_a {g : pr_C} {l : Launch} (hl : l.stackTraces = false) {T : pr_T} {I : pr_I} {L : pr_L} {x o d' mc' ms' : Nat} {p1 : Int32} (hM : pr_M g l d' mc' ms' mX7_revenueAfter [.ref x, .int p1] T I L pr_nv (pr_Th eIAE T I L)) (hx : T.2.1 x = (7, 0)) : pr_M g l (d' + 1) mc' ms' mL_revenueAfter [.ref x, .int p1, .ref o] T I L (pr_Ct 1 T I L) pr_no := by
  refine pr_ofGH (by decide) rfl hl (Nat.le_of_ble_eq_true rfl) (fun X hA hX hXn hXt => ?_)
  subst hX
  show pr_G g X mL_revenueAfter.2.2.1 _ 0 0 0 [.ref x, .int p1, .ref o, .null] [] T I L
  refine pr_aload_n hA dL_revenueAfter_0 rfl ?_
  refine pr_iconst hA (nI 0) dL_revenueAfter_1 (by decide) ?_
  refine pr_aload_n hA dL_revenueAfter_2 rfl ?_
  refine pr_iload_n hA dL_revenueAfter_3 rfl ?_
  refine pr_callV hA rfl (As := [.int p1]) hM v_L_119 hx (by decide) rfl rfl rfl (Nat.le_refl _) (Nat.le_of_eq (Nat.zero_add _)) (Nat.le_of_eq (Nat.zero_add _)) (st := [.int (nI 0), .ref o]) rfl (Nat.le_of_ble_eq_true rfl) dL_revenueAfter_4 (fun v T2 I2 L2 h => h.elim) (fun E2 T2 I2 L2 h => ?_)
  obtain ⟨rfl, ⟨N, hN, rfl⟩, rfl, rfl⟩ := h
  refine pr_catch hA [] ⟨0, 8, 11, 18⟩ [] hXt (Or.inl rfl) (by decide) (by decide) kC_L_18 (by decide +kernel) (fun q => ?_)
  refine pr_astore_n (ls' := _) hA dL_revenueAfter_11 (by decide) rfl ?_
  refine pr_iconst hA (1) dL_revenueAfter_12 (by decide) ?_
  exact pr_ireturn hA rfl rfl (Nat.le_of_eq (Nat.zero_add _)) (Nat.le_of_eq (Nat.zero_add _)) dL_revenueAfter_13 ⟨rfl, ⟨N, hN, rfl⟩, rfl, rfl⟩
theorem k_roundTrip {g : pr_C} {l : Launch} (hl : l.stackTraces = false) {T T' : pr_T} {I I' : pr_I} {L L' : pr_L} {x o d' mc' ms' : Nat} {p1 p2 p3 : Int32} {r : Int32} (hM : pr_M g l d' mc' ms' mX7_roundTrip [.ref x, .int p1, .int p2, .int p3] T I L (pr_R (some (.int r)) T' I' L') pr_no) (hx : T.2.1 x = (7, 0)) (ho : T'.2.1 o = (21, 1)) : pr_M g l (d' + 1) mc' ms' mL_roundTrip [.ref x, .int p1, .int p2, .int p3, .ref o] T I L (pr_R (some (.int 0)) T' I' (pr_upl L' o 0 r.toInt64)) pr_no := by
  refine pr_ofGH (by decide) rfl hl (Nat.le_of_ble_eq_true rfl) (fun X hA hX hXn hXt => ?_)
  subst hX
  show pr_G g X mL_roundTrip.2.2.1 _ 0 0 0 [.ref x, .int p1, .int p2, .int p3, .ref o, .null] [] T I L
  refine pr_aload hA dL_roundTrip_0 rfl ?_
  refine pr_iconst hA (nI 0) dL_roundTrip_2 (by decide) ?_
  refine pr_aload_n hA dL_roundTrip_3 rfl ?_
  refine pr_iload_n hA dL_roundTrip_4 rfl ?_
  refine pr_iload_n hA dL_roundTrip_5 rfl ?_
  refine pr_iload_n hA dL_roundTrip_6 rfl ?_
  refine pr_callV hA rfl (As := [.int p1, .int p2, .int p3]) hM v_L_86 hx (by decide) rfl rfl rfl (Nat.le_refl _) (Nat.le_of_eq (Nat.zero_add _)) (Nat.le_of_eq (Nat.zero_add _)) (st := [.int (nI 0), .ref o]) rfl (Nat.le_of_ble_eq_true rfl) dL_roundTrip_7 (fun v T2 I2 L2 h => ?_) (fun _ _ _ _ h => h.elim)
  obtain ⟨rfl, rfl, rfl, rfl⟩ := h
  refine pr_i2l hA dL_roundTrip_10 ?_
  refine pr_lastE hA ho (by decide) (by decide) dL_roundTrip_11 ?_
  refine pr_goto hA 23 dL_roundTrip_12 (by decide) ?_
  refine pr_iconst hA (0) dL_roundTrip_23 (by decide) ?_
  exact pr_ireturn hA rfl rfl (Nat.le_of_eq (Nat.zero_add _)) (Nat.le_of_eq (Nat.zero_add _)) dL_roundTrip_24 ⟨rfl, rfl, rfl, rfl⟩
theorem k_roundTrip_i {g : pr_C} {l : Launch} (hl : l.stackTraces = false) {T : pr_T} {I : pr_I} {L : pr_L} {x o d' mc' ms' : Nat} {p1 p2 p3 : Int32} (hM : pr_M g l d' mc' ms' mX7_roundTrip [.ref x, .int p1, .int p2, .int p3] T I L pr_nv (pr_Th eIOO T I L)) (hx : T.2.1 x = (7, 0)) : pr_M g l (d' + 1) mc' ms' mL_roundTrip [.ref x, .int p1, .int p2, .int p3, .ref o] T I L (pr_Ct 1 T I L) pr_no := by
  refine pr_ofGH (by decide) rfl hl (Nat.le_of_ble_eq_true rfl) (fun X hA hX hXn hXt => ?_)
  subst hX
  show pr_G g X mL_roundTrip.2.2.1 _ 0 0 0 [.ref x, .int p1, .int p2, .int p3, .ref o, .null] [] T I L
  refine pr_aload hA dL_roundTrip_0 rfl ?_
  refine pr_iconst hA (nI 0) dL_roundTrip_2 (by decide) ?_
  refine pr_aload_n hA dL_roundTrip_3 rfl ?_
  refine pr_iload_n hA dL_roundTrip_4 rfl ?_
  refine pr_iload_n hA dL_roundTrip_5 rfl ?_
  refine pr_iload_n hA dL_roundTrip_6 rfl ?_
  refine pr_callV hA rfl (As := [.int p1, .int p2, .int p3]) hM v_L_86 hx (by decide) rfl rfl rfl (Nat.le_refl _) (Nat.le_of_eq (Nat.zero_add _)) (Nat.le_of_eq (Nat.zero_add _)) (st := [.int (nI 0), .ref o]) rfl (Nat.le_of_ble_eq_true rfl) dL_roundTrip_7 (fun v T2 I2 L2 h => h.elim) (fun E2 T2 I2 L2 h => ?_)
  obtain ⟨rfl, ⟨N, hN, rfl⟩, rfl, rfl⟩ := h
  refine pr_catch hA [] ⟨0, 12, 15, 13⟩ [⟨0, 12, 19, 18⟩] hXt (Or.inl rfl) (by decide) (by decide) kC_L_13 (by decide +kernel) (fun q => ?_)
  refine pr_astore (ls' := _) hA dL_roundTrip_15 (by decide) rfl ?_
  refine pr_iconst hA (1) dL_roundTrip_17 (by decide) ?_
  exact pr_ireturn hA rfl rfl (Nat.le_of_eq (Nat.zero_add _)) (Nat.le_of_eq (Nat.zero_add _)) dL_roundTrip_18 ⟨rfl, ⟨N, hN, rfl⟩, rfl, rfl⟩
theorem k_roundTrip_a {g : pr_C} {l : Launch} (hl : l.stackTraces = false) {T : pr_T} {I : pr_I} {L : pr_L} {x o d' mc' ms' : Nat} {p1 p2 p3 : Int32} (hM : pr_M g l d' mc' ms' mX7_roundTrip [.ref x, .int p1, .int p2, .int p3] T I L pr_nv (pr_Th eIAE T I L)) (hx : T.2.1 x = (7, 0)) : pr_M g l (d' + 1) mc' ms' mL_roundTrip [.ref x, .int p1, .int p2, .int p3, .ref o] T I L (pr_Ct 2 T I L) pr_no := by
  refine pr_ofGH (by decide) rfl hl (Nat.le_of_ble_eq_true rfl) (fun X hA hX hXn hXt => ?_)
  subst hX
  show pr_G g X mL_roundTrip.2.2.1 _ 0 0 0 [.ref x, .int p1, .int p2, .int p3, .ref o, .null] [] T I L
  refine pr_aload hA dL_roundTrip_0 rfl ?_
  refine pr_iconst hA (nI 0) dL_roundTrip_2 (by decide) ?_
  refine pr_aload_n hA dL_roundTrip_3 rfl ?_
  refine pr_iload_n hA dL_roundTrip_4 rfl ?_
  refine pr_iload_n hA dL_roundTrip_5 rfl ?_
  refine pr_iload_n hA dL_roundTrip_6 rfl ?_
  refine pr_callV hA rfl (As := [.int p1, .int p2, .int p3]) hM v_L_86 hx (by decide) rfl rfl rfl (Nat.le_refl _) (Nat.le_of_eq (Nat.zero_add _)) (Nat.le_of_eq (Nat.zero_add _)) (st := [.int (nI 0), .ref o]) rfl (Nat.le_of_ble_eq_true rfl) dL_roundTrip_7 (fun v T2 I2 L2 h => h.elim) (fun E2 T2 I2 L2 h => ?_)
  obtain ⟨rfl, ⟨N, hN, rfl⟩, rfl, rfl⟩ := h
  refine pr_catch hA [⟨0, 12, 15, 13⟩] ⟨0, 12, 19, 18⟩ [] hXt (Or.inr ⟨rfl, _, rfl, by decide, kC_L_13⟩) (by decide) (by decide) kC_L_18 (by decide +kernel) (fun q => ?_)
  refine pr_astore (ls' := _) hA dL_roundTrip_19 (by decide) rfl ?_
  refine pr_iconst hA (2) dL_roundTrip_21 (by decide) ?_
  exact pr_ireturn hA rfl rfl (Nat.le_of_eq (Nat.zero_add _)) (Nat.le_of_eq (Nat.zero_add _)) dL_roundTrip_22 ⟨rfl, ⟨N, hN, rfl⟩, rfl, rfl⟩
theorem k_saveSnapshot {g : pr_C} {l : Launch} (hl : l.stackTraces = false) {T T' : pr_T} {I I' : pr_I} {L L' : pr_L} {x o d' mc' ms' : Nat} {p1 : Int32} {r : Int32} (hM : pr_M g l d' mc' ms' mX7_saveSnapshot [.ref x, .int p1] T I L (pr_R (some (.int r)) T' I' L') pr_no) (hx : T.2.1 x = (7, 0)) (ho : T'.2.1 o = (21, 1)) : pr_M g l (d' + 1) mc' ms' mL_saveSnapshot [.ref x, .int p1, .ref o] T I L (pr_R (some (.int 0)) T' I' (pr_upl L' o 0 r.toInt64)) pr_no := by
  refine pr_ofGH (by decide) rfl hl (Nat.le_of_ble_eq_true rfl) (fun X hA hX hXn hXt => ?_)
  subst hX
  show pr_G g X mL_saveSnapshot.2.2.1 _ 0 0 0 [.ref x, .int p1, .ref o, .null] [] T I L
  refine pr_aload_n hA dL_saveSnapshot_0 rfl ?_
  refine pr_iconst hA (nI 0) dL_saveSnapshot_1 (by decide) ?_
  refine pr_aload_n hA dL_saveSnapshot_2 rfl ?_
  refine pr_iload_n hA dL_saveSnapshot_3 rfl ?_
  refine pr_callV hA rfl (As := [.int p1]) hM v_L_135 hx (by decide) rfl rfl rfl (Nat.le_refl _) (Nat.le_of_eq (Nat.zero_add _)) (Nat.le_of_eq (Nat.zero_add _)) (st := [.int (nI 0), .ref o]) rfl (Nat.le_of_ble_eq_true rfl) dL_saveSnapshot_4 (fun v T2 I2 L2 h => ?_) (fun _ _ _ _ h => h.elim)
  obtain ⟨rfl, rfl, rfl, rfl⟩ := h
  refine pr_i2l hA dL_saveSnapshot_7 ?_
  refine pr_lastE hA ho (by decide) (by decide) dL_saveSnapshot_8 ?_
  refine pr_goto hA 15 dL_saveSnapshot_9 (by decide) ?_
  refine pr_iconst hA (0) dL_saveSnapshot_15 (by decide) ?_
  exact pr_ireturn hA rfl rfl (Nat.le_of_eq (Nat.zero_add _)) (Nat.le_of_eq (Nat.zero_add _)) dL_saveSnapshot_16 ⟨rfl, rfl, rfl, rfl⟩
theorem k_saveSnapshot_a {g : pr_C} {l : Launch} (hl : l.stackTraces = false) {T : pr_T} {I : pr_I} {L : pr_L} {x o d' mc' ms' : Nat} {p1 : Int32} (hM : pr_M g l d' mc' ms' mX7_saveSnapshot [.ref x, .int p1] T I L pr_nv (pr_Th eIAE T I L)) (hx : T.2.1 x = (7, 0)) : pr_M g l (d' + 1) mc' ms' mL_saveSnapshot [.ref x, .int p1, .ref o] T I L (pr_Ct 1 T I L) pr_no := by
  refine pr_ofGH (by decide) rfl hl (Nat.le_of_ble_eq_true rfl) (fun X hA hX hXn hXt => ?_)
  subst hX
  show pr_G g X mL_saveSnapshot.2.2.1 _ 0 0 0 [.ref x, .int p1, .ref o, .null] [] T I L
  refine pr_aload_n hA dL_saveSnapshot_0 rfl ?_
  refine pr_iconst hA (nI 0) dL_saveSnapshot_1 (by decide) ?_
  refine pr_aload_n hA dL_saveSnapshot_2 rfl ?_
  refine pr_iload_n hA dL_saveSnapshot_3 rfl ?_
  refine pr_callV hA rfl (As := [.int p1]) hM v_L_135 hx (by decide) rfl rfl rfl (Nat.le_refl _) (Nat.le_of_eq (Nat.zero_add _)) (Nat.le_of_eq (Nat.zero_add _)) (st := [.int (nI 0), .ref o]) rfl (Nat.le_of_ble_eq_true rfl) dL_saveSnapshot_4 (fun v T2 I2 L2 h => h.elim) (fun E2 T2 I2 L2 h => ?_)
  obtain ⟨rfl, ⟨N, hN, rfl⟩, rfl, rfl⟩ := h
  refine pr_catch hA [] ⟨0, 9, 12, 18⟩ [] hXt (Or.inl rfl) (by decide) (by decide) kC_L_18 (by decide +kernel) (fun q => ?_)
  refine pr_astore_n (ls' := _) hA dL_saveSnapshot_12 (by decide) rfl ?_
  refine pr_iconst hA (1) dL_saveSnapshot_13 (by decide) ?_
  exact pr_ireturn hA rfl rfl (Nat.le_of_eq (Nat.zero_add _)) (Nat.le_of_eq (Nat.zero_add _)) dL_saveSnapshot_14 ⟨rfl, ⟨N, hN, rfl⟩, rfl, rfl⟩
theorem k_setCapacity {g : pr_C} {l : Launch} (hl : l.stackTraces = false) {T T' : pr_T} {I I' : pr_I} {L L' : pr_L} {x o d' mc' ms' : Nat} {p1 p2 : Int32} {r : Int32} (hM : pr_M g l d' mc' ms' mX7_setCapacity [.ref x, .int p1, .int p2] T I L (pr_R (some (.int r)) T' I' L') pr_no) (hx : T.2.1 x = (7, 0)) (ho : T'.2.1 o = (21, 1)) : pr_M g l (d' + 1) mc' ms' mL_setCapacity [.ref x, .int p1, .int p2, .ref o] T I L (pr_R (some (.int 0)) T' I' (pr_upl L' o 0 r.toInt64)) pr_no := by
  refine pr_ofGH (by decide) rfl hl (Nat.le_of_ble_eq_true rfl) (fun X hA hX hXn hXt => ?_)
  subst hX
  show pr_G g X mL_setCapacity.2.2.1 _ 0 0 0 [.ref x, .int p1, .int p2, .ref o, .null] [] T I L
  refine pr_aload_n hA dL_setCapacity_0 rfl ?_
  refine pr_iconst hA (nI 0) dL_setCapacity_1 (by decide) ?_
  refine pr_aload_n hA dL_setCapacity_2 rfl ?_
  refine pr_iload_n hA dL_setCapacity_3 rfl ?_
  refine pr_iload_n hA dL_setCapacity_4 rfl ?_
  refine pr_callV hA rfl (As := [.int p1, .int p2]) hM v_L_27 hx (by decide) rfl rfl rfl (Nat.le_refl _) (Nat.le_of_eq (Nat.zero_add _)) (Nat.le_of_eq (Nat.zero_add _)) (st := [.int (nI 0), .ref o]) rfl (Nat.le_of_ble_eq_true rfl) dL_setCapacity_5 (fun v T2 I2 L2 h => ?_) (fun _ _ _ _ h => h.elim)
  obtain ⟨rfl, rfl, rfl, rfl⟩ := h
  refine pr_i2l hA dL_setCapacity_8 ?_
  refine pr_lastE hA ho (by decide) (by decide) dL_setCapacity_9 ?_
  refine pr_goto hA 21 dL_setCapacity_10 (by decide) ?_
  refine pr_iconst hA (0) dL_setCapacity_21 (by decide) ?_
  exact pr_ireturn hA rfl rfl (Nat.le_of_eq (Nat.zero_add _)) (Nat.le_of_eq (Nat.zero_add _)) dL_setCapacity_22 ⟨rfl, rfl, rfl, rfl⟩
theorem k_setCapacity_i {g : pr_C} {l : Launch} (hl : l.stackTraces = false) {T : pr_T} {I : pr_I} {L : pr_L} {x o d' mc' ms' : Nat} {p1 p2 : Int32} (hM : pr_M g l d' mc' ms' mX7_setCapacity [.ref x, .int p1, .int p2] T I L pr_nv (pr_Th eIOO T I L)) (hx : T.2.1 x = (7, 0)) : pr_M g l (d' + 1) mc' ms' mL_setCapacity [.ref x, .int p1, .int p2, .ref o] T I L (pr_Ct 1 T I L) pr_no := by
  refine pr_ofGH (by decide) rfl hl (Nat.le_of_ble_eq_true rfl) (fun X hA hX hXn hXt => ?_)
  subst hX
  show pr_G g X mL_setCapacity.2.2.1 _ 0 0 0 [.ref x, .int p1, .int p2, .ref o, .null] [] T I L
  refine pr_aload_n hA dL_setCapacity_0 rfl ?_
  refine pr_iconst hA (nI 0) dL_setCapacity_1 (by decide) ?_
  refine pr_aload_n hA dL_setCapacity_2 rfl ?_
  refine pr_iload_n hA dL_setCapacity_3 rfl ?_
  refine pr_iload_n hA dL_setCapacity_4 rfl ?_
  refine pr_callV hA rfl (As := [.int p1, .int p2]) hM v_L_27 hx (by decide) rfl rfl rfl (Nat.le_refl _) (Nat.le_of_eq (Nat.zero_add _)) (Nat.le_of_eq (Nat.zero_add _)) (st := [.int (nI 0), .ref o]) rfl (Nat.le_of_ble_eq_true rfl) dL_setCapacity_5 (fun v T2 I2 L2 h => h.elim) (fun E2 T2 I2 L2 h => ?_)
  obtain ⟨rfl, ⟨N, hN, rfl⟩, rfl, rfl⟩ := h
  refine pr_catch hA [] ⟨0, 10, 13, 13⟩ [⟨0, 10, 17, 18⟩] hXt (Or.inl rfl) (by decide) (by decide) kC_L_13 (by decide +kernel) (fun q => ?_)
  refine pr_astore (ls' := _) hA dL_setCapacity_13 (by decide) rfl ?_
  refine pr_iconst hA (1) dL_setCapacity_15 (by decide) ?_
  exact pr_ireturn hA rfl rfl (Nat.le_of_eq (Nat.zero_add _)) (Nat.le_of_eq (Nat.zero_add _)) dL_setCapacity_16 ⟨rfl, ⟨N, hN, rfl⟩, rfl, rfl⟩
theorem k_setCapacity_a {g : pr_C} {l : Launch} (hl : l.stackTraces = false) {T : pr_T} {I : pr_I} {L : pr_L} {x o d' mc' ms' : Nat} {p1 p2 : Int32} (hM : pr_M g l d' mc' ms' mX7_setCapacity [.ref x, .int p1, .int p2] T I L pr_nv (pr_Th eIAE T I L)) (hx : T.2.1 x = (7, 0)) : pr_M g l (d' + 1) mc' ms' mL_setCapacity [.ref x, .int p1, .int p2, .ref o] T I L (pr_Ct 2 T I L) pr_no := by
  refine pr_ofGH (by decide) rfl hl (Nat.le_of_ble_eq_true rfl) (fun X hA hX hXn hXt => ?_)
  subst hX
  show pr_G g X mL_setCapacity.2.2.1 _ 0 0 0 [.ref x, .int p1, .int p2, .ref o, .null] [] T I L
  refine pr_aload_n hA dL_setCapacity_0 rfl ?_
  refine pr_iconst hA (nI 0) dL_setCapacity_1 (by decide) ?_
  refine pr_aload_n hA dL_setCapacity_2 rfl ?_
  refine pr_iload_n hA dL_setCapacity_3 rfl ?_
  refine pr_iload_n hA dL_setCapacity_4 rfl ?_
  refine pr_callV hA rfl (As := [.int p1, .int p2]) hM v_L_27 hx (by decide) rfl rfl rfl (Nat.le_refl _) (Nat.le_of_eq (Nat.zero_add _)) (Nat.le_of_eq (Nat.zero_add _)) (st := [.int (nI 0), .ref o]) rfl (Nat.le_of_ble_eq_true rfl) dL_setCapacity_5 (fun v T2 I2 L2 h => h.elim) (fun E2 T2 I2 L2 h => ?_)
  obtain ⟨rfl, ⟨N, hN, rfl⟩, rfl, rfl⟩ := h
  refine pr_catch hA [⟨0, 10, 13, 13⟩] ⟨0, 10, 17, 18⟩ [] hXt (Or.inr ⟨rfl, _, rfl, by decide, kC_L_13⟩) (by decide) (by decide) kC_L_18 (by decide +kernel) (fun q => ?_)
  refine pr_astore (ls' := _) hA dL_setCapacity_17 (by decide) rfl ?_
  refine pr_iconst hA (2) dL_setCapacity_19 (by decide) ?_
  exact pr_ireturn hA rfl rfl (Nat.le_of_eq (Nat.zero_add _)) (Nat.le_of_eq (Nat.zero_add _)) dL_setCapacity_20 ⟨rfl, ⟨N, hN, rfl⟩, rfl, rfl⟩
theorem k_setSetting {g : pr_C} {l : Launch} (hl : l.stackTraces = false) {T T' : pr_T} {I I' : pr_I} {L L' : pr_L} {x o d' mc' ms' : Nat} {p1 p2 : Int32} {r : Int32} (hM : pr_M g l d' mc' ms' mX7_setSetting [.ref x, .int p1, .int p2] T I L (pr_R (some (.int r)) T' I' L') pr_no) (hx : T.2.1 x = (7, 0)) (ho : T'.2.1 o = (21, 1)) : pr_M g l (d' + 1) mc' ms' mL_setSetting [.ref x, .int p1, .int p2, .ref o] T I L (pr_R (some (.int 0)) T' I' (pr_upl L' o 0 r.toInt64)) pr_no := by
  refine pr_ofGH (by decide) rfl hl (Nat.le_of_ble_eq_true rfl) (fun X hA hX hXn hXt => ?_)
  subst hX
  show pr_G g X mL_setSetting.2.2.1 _ 0 0 0 [.ref x, .int p1, .int p2, .ref o, .null] [] T I L
  refine pr_aload_n hA dL_setSetting_0 rfl ?_
  refine pr_iconst hA (nI 0) dL_setSetting_1 (by decide) ?_
  refine pr_aload_n hA dL_setSetting_2 rfl ?_
  refine pr_iload_n hA dL_setSetting_3 rfl ?_
  refine pr_iload_n hA dL_setSetting_4 rfl ?_
  refine pr_callV hA rfl (As := [.int p1, .int p2]) hM v_L_24 hx (by decide) rfl rfl rfl (Nat.le_refl _) (Nat.le_of_eq (Nat.zero_add _)) (Nat.le_of_eq (Nat.zero_add _)) (st := [.int (nI 0), .ref o]) rfl (Nat.le_of_ble_eq_true rfl) dL_setSetting_5 (fun v T2 I2 L2 h => ?_) (fun _ _ _ _ h => h.elim)
  obtain ⟨rfl, rfl, rfl, rfl⟩ := h
  refine pr_i2l hA dL_setSetting_8 ?_
  refine pr_lastE hA ho (by decide) (by decide) dL_setSetting_9 ?_
  refine pr_goto hA 17 dL_setSetting_10 (by decide) ?_
  refine pr_iconst hA (0) dL_setSetting_17 (by decide) ?_
  exact pr_ireturn hA rfl rfl (Nat.le_of_eq (Nat.zero_add _)) (Nat.le_of_eq (Nat.zero_add _)) dL_setSetting_18 ⟨rfl, rfl, rfl, rfl⟩
theorem k_setSetting_a {g : pr_C} {l : Launch} (hl : l.stackTraces = false) {T : pr_T} {I : pr_I} {L : pr_L} {x o d' mc' ms' : Nat} {p1 p2 : Int32} (hM : pr_M g l d' mc' ms' mX7_setSetting [.ref x, .int p1, .int p2] T I L pr_nv (pr_Th eIAE T I L)) (hx : T.2.1 x = (7, 0)) : pr_M g l (d' + 1) mc' ms' mL_setSetting [.ref x, .int p1, .int p2, .ref o] T I L (pr_Ct 1 T I L) pr_no := by
  refine pr_ofGH (by decide) rfl hl (Nat.le_of_ble_eq_true rfl) (fun X hA hX hXn hXt => ?_)
  subst hX
  show pr_G g X mL_setSetting.2.2.1 _ 0 0 0 [.ref x, .int p1, .int p2, .ref o, .null] [] T I L
  refine pr_aload_n hA dL_setSetting_0 rfl ?_
  refine pr_iconst hA (nI 0) dL_setSetting_1 (by decide) ?_
  refine pr_aload_n hA dL_setSetting_2 rfl ?_
  refine pr_iload_n hA dL_setSetting_3 rfl ?_
  refine pr_iload_n hA dL_setSetting_4 rfl ?_
  refine pr_callV hA rfl (As := [.int p1, .int p2]) hM v_L_24 hx (by decide) rfl rfl rfl (Nat.le_refl _) (Nat.le_of_eq (Nat.zero_add _)) (Nat.le_of_eq (Nat.zero_add _)) (st := [.int (nI 0), .ref o]) rfl (Nat.le_of_ble_eq_true rfl) dL_setSetting_5 (fun v T2 I2 L2 h => h.elim) (fun E2 T2 I2 L2 h => ?_)
  obtain ⟨rfl, ⟨N, hN, rfl⟩, rfl, rfl⟩ := h
  refine pr_catch hA [] ⟨0, 10, 13, 18⟩ [] hXt (Or.inl rfl) (by decide) (by decide) kC_L_18 (by decide +kernel) (fun q => ?_)
  refine pr_astore (ls' := _) hA dL_setSetting_13 (by decide) rfl ?_
  refine pr_iconst hA (1) dL_setSetting_15 (by decide) ?_
  exact pr_ireturn hA rfl rfl (Nat.le_of_eq (Nat.zero_add _)) (Nat.le_of_eq (Nat.zero_add _)) dL_setSetting_16 ⟨rfl, ⟨N, hN, rfl⟩, rfl, rfl⟩
theorem k_setting {g : pr_C} {l : Launch} (hl : l.stackTraces = false) {T T' : pr_T} {I I' : pr_I} {L L' : pr_L} {x o d' mc' ms' : Nat} {p1 : Int32} {r : Int32} (hM : pr_M g l d' mc' ms' mX7_setting [.ref x, .int p1] T I L (pr_R (some (.int r)) T' I' L') pr_no) (hx : T.2.1 x = (7, 0)) (ho : T'.2.1 o = (21, 1)) : pr_M g l (d' + 1) mc' ms' mL_setting [.ref x, .int p1, .ref o] T I L (pr_R (some (.int 0)) T' I' (pr_upl L' o 0 r.toInt64)) pr_no := by
  refine pr_ofGH (by decide) rfl hl (Nat.le_of_ble_eq_true rfl) (fun X hA hX hXn hXt => ?_)
  subst hX
  show pr_G g X mL_setting.2.2.1 _ 0 0 0 [.ref x, .int p1, .ref o, .null] [] T I L
  refine pr_aload_n hA dL_setting_0 rfl ?_
  refine pr_iconst hA (nI 0) dL_setting_1 (by decide) ?_
  refine pr_aload_n hA dL_setting_2 rfl ?_
  refine pr_iload_n hA dL_setting_3 rfl ?_
  refine pr_callV hA rfl (As := [.int p1]) hM v_L_20 hx (by decide) rfl rfl rfl (Nat.le_refl _) (Nat.le_of_eq (Nat.zero_add _)) (Nat.le_of_eq (Nat.zero_add _)) (st := [.int (nI 0), .ref o]) rfl (Nat.le_of_ble_eq_true rfl) dL_setting_4 (fun v T2 I2 L2 h => ?_) (fun _ _ _ _ h => h.elim)
  obtain ⟨rfl, rfl, rfl, rfl⟩ := h
  refine pr_i2l hA dL_setting_7 ?_
  refine pr_lastE hA ho (by decide) (by decide) dL_setting_8 ?_
  refine pr_goto hA 15 dL_setting_9 (by decide) ?_
  refine pr_iconst hA (0) dL_setting_15 (by decide) ?_
  exact pr_ireturn hA rfl rfl (Nat.le_of_eq (Nat.zero_add _)) (Nat.le_of_eq (Nat.zero_add _)) dL_setting_16 ⟨rfl, rfl, rfl, rfl⟩
theorem k_setting_a {g : pr_C} {l : Launch} (hl : l.stackTraces = false) {T : pr_T} {I : pr_I} {L : pr_L} {x o d' mc' ms' : Nat} {p1 : Int32} (hM : pr_M g l d' mc' ms' mX7_setting [.ref x, .int p1] T I L pr_nv (pr_Th eIAE T I L)) (hx : T.2.1 x = (7, 0)) : pr_M g l (d' + 1) mc' ms' mL_setting [.ref x, .int p1, .ref o] T I L (pr_Ct 1 T I L) pr_no := by
  refine pr_ofGH (by decide) rfl hl (Nat.le_of_ble_eq_true rfl) (fun X hA hX hXn hXt => ?_)
  subst hX
  show pr_G g X mL_setting.2.2.1 _ 0 0 0 [.ref x, .int p1, .ref o, .null] [] T I L
  refine pr_aload_n hA dL_setting_0 rfl ?_
  refine pr_iconst hA (nI 0) dL_setting_1 (by decide) ?_
  refine pr_aload_n hA dL_setting_2 rfl ?_
  refine pr_iload_n hA dL_setting_3 rfl ?_
  refine pr_callV hA rfl (As := [.int p1]) hM v_L_20 hx (by decide) rfl rfl rfl (Nat.le_refl _) (Nat.le_of_eq (Nat.zero_add _)) (Nat.le_of_eq (Nat.zero_add _)) (st := [.int (nI 0), .ref o]) rfl (Nat.le_of_ble_eq_true rfl) dL_setting_4 (fun v T2 I2 L2 h => h.elim) (fun E2 T2 I2 L2 h => ?_)
  obtain ⟨rfl, ⟨N, hN, rfl⟩, rfl, rfl⟩ := h
  refine pr_catch hA [] ⟨0, 9, 12, 18⟩ [] hXt (Or.inl rfl) (by decide) (by decide) kC_L_18 (by decide +kernel) (fun q => ?_)
  refine pr_astore_n (ls' := _) hA dL_setting_12 (by decide) rfl ?_
  refine pr_iconst hA (1) dL_setting_13 (by decide) ?_
  exact pr_ireturn hA rfl rfl (Nat.le_of_eq (Nat.zero_add _)) (Nat.le_of_eq (Nat.zero_add _)) dL_setting_14 ⟨rfl, ⟨N, hN, rfl⟩, rfl, rfl⟩
theorem k_smallestCut {g : pr_C} {l : Launch} (hl : l.stackTraces = false) {T T' : pr_T} {I I' : pr_I} {L L' : pr_L} {x o d' mc' ms' : Nat} {p1 p2 : Int32} {r : Int32} (hM : pr_M g l d' mc' ms' mX7_smallestCut [.ref x, .int p1, .int p2] T I L (pr_R (some (.int r)) T' I' L') pr_no) (hx : T.2.1 x = (7, 0)) (ho : T'.2.1 o = (21, 1)) : pr_M g l (d' + 1) mc' ms' mL_smallestCut [.ref x, .int p1, .int p2, .ref o] T I L (pr_R (some (.int 0)) T' I' (pr_upl L' o 0 r.toInt64)) pr_no := by
  refine pr_ofGH (by decide) rfl hl (Nat.le_of_ble_eq_true rfl) (fun X hA hX hXn hXt => ?_)
  subst hX
  show pr_G g X mL_smallestCut.2.2.1 _ 0 0 0 [.ref x, .int p1, .int p2, .ref o, .null] [] T I L
  refine pr_aload_n hA dL_smallestCut_0 rfl ?_
  refine pr_iconst hA (nI 0) dL_smallestCut_1 (by decide) ?_
  refine pr_aload_n hA dL_smallestCut_2 rfl ?_
  refine pr_iload_n hA dL_smallestCut_3 rfl ?_
  refine pr_iload_n hA dL_smallestCut_4 rfl ?_
  refine pr_callV hA rfl (As := [.int p1, .int p2]) hM v_L_98 hx (by decide) rfl rfl rfl (Nat.le_refl _) (Nat.le_of_eq (Nat.zero_add _)) (Nat.le_of_eq (Nat.zero_add _)) (st := [.int (nI 0), .ref o]) rfl (Nat.le_of_ble_eq_true rfl) dL_smallestCut_5 (fun v T2 I2 L2 h => ?_) (fun _ _ _ _ h => h.elim)
  obtain ⟨rfl, rfl, rfl, rfl⟩ := h
  refine pr_i2l hA dL_smallestCut_8 ?_
  refine pr_lastE hA ho (by decide) (by decide) dL_smallestCut_9 ?_
  refine pr_goto hA 21 dL_smallestCut_10 (by decide) ?_
  refine pr_iconst hA (0) dL_smallestCut_21 (by decide) ?_
  exact pr_ireturn hA rfl rfl (Nat.le_of_eq (Nat.zero_add _)) (Nat.le_of_eq (Nat.zero_add _)) dL_smallestCut_22 ⟨rfl, rfl, rfl, rfl⟩
theorem k_smallestCut_i {g : pr_C} {l : Launch} (hl : l.stackTraces = false) {T : pr_T} {I : pr_I} {L : pr_L} {x o d' mc' ms' : Nat} {p1 p2 : Int32} (hM : pr_M g l d' mc' ms' mX7_smallestCut [.ref x, .int p1, .int p2] T I L pr_nv (pr_Th eIOO T I L)) (hx : T.2.1 x = (7, 0)) : pr_M g l (d' + 1) mc' ms' mL_smallestCut [.ref x, .int p1, .int p2, .ref o] T I L (pr_Ct 1 T I L) pr_no := by
  refine pr_ofGH (by decide) rfl hl (Nat.le_of_ble_eq_true rfl) (fun X hA hX hXn hXt => ?_)
  subst hX
  show pr_G g X mL_smallestCut.2.2.1 _ 0 0 0 [.ref x, .int p1, .int p2, .ref o, .null] [] T I L
  refine pr_aload_n hA dL_smallestCut_0 rfl ?_
  refine pr_iconst hA (nI 0) dL_smallestCut_1 (by decide) ?_
  refine pr_aload_n hA dL_smallestCut_2 rfl ?_
  refine pr_iload_n hA dL_smallestCut_3 rfl ?_
  refine pr_iload_n hA dL_smallestCut_4 rfl ?_
  refine pr_callV hA rfl (As := [.int p1, .int p2]) hM v_L_98 hx (by decide) rfl rfl rfl (Nat.le_refl _) (Nat.le_of_eq (Nat.zero_add _)) (Nat.le_of_eq (Nat.zero_add _)) (st := [.int (nI 0), .ref o]) rfl (Nat.le_of_ble_eq_true rfl) dL_smallestCut_5 (fun v T2 I2 L2 h => h.elim) (fun E2 T2 I2 L2 h => ?_)
  obtain ⟨rfl, ⟨N, hN, rfl⟩, rfl, rfl⟩ := h
  refine pr_catch hA [] ⟨0, 10, 13, 13⟩ [⟨0, 10, 17, 18⟩] hXt (Or.inl rfl) (by decide) (by decide) kC_L_13 (by decide +kernel) (fun q => ?_)
  refine pr_astore (ls' := _) hA dL_smallestCut_13 (by decide) rfl ?_
  refine pr_iconst hA (1) dL_smallestCut_15 (by decide) ?_
  exact pr_ireturn hA rfl rfl (Nat.le_of_eq (Nat.zero_add _)) (Nat.le_of_eq (Nat.zero_add _)) dL_smallestCut_16 ⟨rfl, ⟨N, hN, rfl⟩, rfl, rfl⟩
theorem k_smallestCut_a {g : pr_C} {l : Launch} (hl : l.stackTraces = false) {T : pr_T} {I : pr_I} {L : pr_L} {x o d' mc' ms' : Nat} {p1 p2 : Int32} (hM : pr_M g l d' mc' ms' mX7_smallestCut [.ref x, .int p1, .int p2] T I L pr_nv (pr_Th eIAE T I L)) (hx : T.2.1 x = (7, 0)) : pr_M g l (d' + 1) mc' ms' mL_smallestCut [.ref x, .int p1, .int p2, .ref o] T I L (pr_Ct 2 T I L) pr_no := by
  refine pr_ofGH (by decide) rfl hl (Nat.le_of_ble_eq_true rfl) (fun X hA hX hXn hXt => ?_)
  subst hX
  show pr_G g X mL_smallestCut.2.2.1 _ 0 0 0 [.ref x, .int p1, .int p2, .ref o, .null] [] T I L
  refine pr_aload_n hA dL_smallestCut_0 rfl ?_
  refine pr_iconst hA (nI 0) dL_smallestCut_1 (by decide) ?_
  refine pr_aload_n hA dL_smallestCut_2 rfl ?_
  refine pr_iload_n hA dL_smallestCut_3 rfl ?_
  refine pr_iload_n hA dL_smallestCut_4 rfl ?_
  refine pr_callV hA rfl (As := [.int p1, .int p2]) hM v_L_98 hx (by decide) rfl rfl rfl (Nat.le_refl _) (Nat.le_of_eq (Nat.zero_add _)) (Nat.le_of_eq (Nat.zero_add _)) (st := [.int (nI 0), .ref o]) rfl (Nat.le_of_ble_eq_true rfl) dL_smallestCut_5 (fun v T2 I2 L2 h => h.elim) (fun E2 T2 I2 L2 h => ?_)
  obtain ⟨rfl, ⟨N, hN, rfl⟩, rfl, rfl⟩ := h
  refine pr_catch hA [⟨0, 10, 13, 13⟩] ⟨0, 10, 17, 18⟩ [] hXt (Or.inr ⟨rfl, _, rfl, by decide, kC_L_13⟩) (by decide) (by decide) kC_L_18 (by decide +kernel) (fun q => ?_)
  refine pr_astore (ls' := _) hA dL_smallestCut_17 (by decide) rfl ?_
  refine pr_iconst hA (2) dL_smallestCut_19 (by decide) ?_
  exact pr_ireturn hA rfl rfl (Nat.le_of_eq (Nat.zero_add _)) (Nat.le_of_eq (Nat.zero_add _)) dL_smallestCut_20 ⟨rfl, ⟨N, hN, rfl⟩, rfl, rfl⟩
theorem k_stateAfter {g : pr_C} {l : Launch} (hl : l.stackTraces = false) {T T' : pr_T} {I I' : pr_I} {L L' : pr_L} {x o d' mc' ms' : Nat} {p1 p2 : Int32} {r : Int32} (hM : pr_M g l d' mc' ms' mX7_stateAfter [.ref x, .int p1, .int p2] T I L (pr_R (some (.int r)) T' I' L') pr_no) (hx : T.2.1 x = (7, 0)) (ho : T'.2.1 o = (21, 1)) : pr_M g l (d' + 1) mc' ms' mL_stateAfter [.ref x, .int p1, .int p2, .ref o] T I L (pr_R (some (.int 0)) T' I' (pr_upl L' o 0 r.toInt64)) pr_no := by
  refine pr_ofGH (by decide) rfl hl (Nat.le_of_ble_eq_true rfl) (fun X hA hX hXn hXt => ?_)
  subst hX
  show pr_G g X mL_stateAfter.2.2.1 _ 0 0 0 [.ref x, .int p1, .int p2, .ref o, .null] [] T I L
  refine pr_aload_n hA dL_stateAfter_0 rfl ?_
  refine pr_iconst hA (nI 0) dL_stateAfter_1 (by decide) ?_
  refine pr_aload_n hA dL_stateAfter_2 rfl ?_
  refine pr_iload_n hA dL_stateAfter_3 rfl ?_
  refine pr_iload_n hA dL_stateAfter_4 rfl ?_
  refine pr_callV hA rfl (As := [.int p1, .int p2]) hM v_L_129 hx (by decide) rfl rfl rfl (Nat.le_refl _) (Nat.le_of_eq (Nat.zero_add _)) (Nat.le_of_eq (Nat.zero_add _)) (st := [.int (nI 0), .ref o]) rfl (Nat.le_of_ble_eq_true rfl) dL_stateAfter_5 (fun v T2 I2 L2 h => ?_) (fun _ _ _ _ h => h.elim)
  obtain ⟨rfl, rfl, rfl, rfl⟩ := h
  refine pr_i2l hA dL_stateAfter_8 ?_
  refine pr_lastE hA ho (by decide) (by decide) dL_stateAfter_9 ?_
  refine pr_goto hA 21 dL_stateAfter_10 (by decide) ?_
  refine pr_iconst hA (0) dL_stateAfter_21 (by decide) ?_
  exact pr_ireturn hA rfl rfl (Nat.le_of_eq (Nat.zero_add _)) (Nat.le_of_eq (Nat.zero_add _)) dL_stateAfter_22 ⟨rfl, rfl, rfl, rfl⟩
theorem k_stateAfter_i {g : pr_C} {l : Launch} (hl : l.stackTraces = false) {T : pr_T} {I : pr_I} {L : pr_L} {x o d' mc' ms' : Nat} {p1 p2 : Int32} (hM : pr_M g l d' mc' ms' mX7_stateAfter [.ref x, .int p1, .int p2] T I L pr_nv (pr_Th eIOO T I L)) (hx : T.2.1 x = (7, 0)) : pr_M g l (d' + 1) mc' ms' mL_stateAfter [.ref x, .int p1, .int p2, .ref o] T I L (pr_Ct 1 T I L) pr_no := by
  refine pr_ofGH (by decide) rfl hl (Nat.le_of_ble_eq_true rfl) (fun X hA hX hXn hXt => ?_)
  subst hX
  show pr_G g X mL_stateAfter.2.2.1 _ 0 0 0 [.ref x, .int p1, .int p2, .ref o, .null] [] T I L
  refine pr_aload_n hA dL_stateAfter_0 rfl ?_
  refine pr_iconst hA (nI 0) dL_stateAfter_1 (by decide) ?_
  refine pr_aload_n hA dL_stateAfter_2 rfl ?_
  refine pr_iload_n hA dL_stateAfter_3 rfl ?_
  refine pr_iload_n hA dL_stateAfter_4 rfl ?_
  refine pr_callV hA rfl (As := [.int p1, .int p2]) hM v_L_129 hx (by decide) rfl rfl rfl (Nat.le_refl _) (Nat.le_of_eq (Nat.zero_add _)) (Nat.le_of_eq (Nat.zero_add _)) (st := [.int (nI 0), .ref o]) rfl (Nat.le_of_ble_eq_true rfl) dL_stateAfter_5 (fun v T2 I2 L2 h => h.elim) (fun E2 T2 I2 L2 h => ?_)
  obtain ⟨rfl, ⟨N, hN, rfl⟩, rfl, rfl⟩ := h
  refine pr_catch hA [] ⟨0, 10, 13, 13⟩ [⟨0, 10, 17, 18⟩] hXt (Or.inl rfl) (by decide) (by decide) kC_L_13 (by decide +kernel) (fun q => ?_)
  refine pr_astore (ls' := _) hA dL_stateAfter_13 (by decide) rfl ?_
  refine pr_iconst hA (1) dL_stateAfter_15 (by decide) ?_
  exact pr_ireturn hA rfl rfl (Nat.le_of_eq (Nat.zero_add _)) (Nat.le_of_eq (Nat.zero_add _)) dL_stateAfter_16 ⟨rfl, ⟨N, hN, rfl⟩, rfl, rfl⟩
theorem k_stateAfter_a {g : pr_C} {l : Launch} (hl : l.stackTraces = false) {T : pr_T} {I : pr_I} {L : pr_L} {x o d' mc' ms' : Nat} {p1 p2 : Int32} (hM : pr_M g l d' mc' ms' mX7_stateAfter [.ref x, .int p1, .int p2] T I L pr_nv (pr_Th eIAE T I L)) (hx : T.2.1 x = (7, 0)) : pr_M g l (d' + 1) mc' ms' mL_stateAfter [.ref x, .int p1, .int p2, .ref o] T I L (pr_Ct 2 T I L) pr_no := by
  refine pr_ofGH (by decide) rfl hl (Nat.le_of_ble_eq_true rfl) (fun X hA hX hXn hXt => ?_)
  subst hX
  show pr_G g X mL_stateAfter.2.2.1 _ 0 0 0 [.ref x, .int p1, .int p2, .ref o, .null] [] T I L
  refine pr_aload_n hA dL_stateAfter_0 rfl ?_
  refine pr_iconst hA (nI 0) dL_stateAfter_1 (by decide) ?_
  refine pr_aload_n hA dL_stateAfter_2 rfl ?_
  refine pr_iload_n hA dL_stateAfter_3 rfl ?_
  refine pr_iload_n hA dL_stateAfter_4 rfl ?_
  refine pr_callV hA rfl (As := [.int p1, .int p2]) hM v_L_129 hx (by decide) rfl rfl rfl (Nat.le_refl _) (Nat.le_of_eq (Nat.zero_add _)) (Nat.le_of_eq (Nat.zero_add _)) (st := [.int (nI 0), .ref o]) rfl (Nat.le_of_ble_eq_true rfl) dL_stateAfter_5 (fun v T2 I2 L2 h => h.elim) (fun E2 T2 I2 L2 h => ?_)
  obtain ⟨rfl, ⟨N, hN, rfl⟩, rfl, rfl⟩ := h
  refine pr_catch hA [⟨0, 10, 13, 13⟩] ⟨0, 10, 17, 18⟩ [] hXt (Or.inr ⟨rfl, _, rfl, by decide, kC_L_13⟩) (by decide) (by decide) kC_L_18 (by decide +kernel) (fun q => ?_)
  refine pr_astore (ls' := _) hA dL_stateAfter_17 (by decide) rfl ?_
  refine pr_iconst hA (2) dL_stateAfter_19 (by decide) ?_
  exact pr_ireturn hA rfl rfl (Nat.le_of_eq (Nat.zero_add _)) (Nat.le_of_eq (Nat.zero_add _)) dL_stateAfter_20 ⟨rfl, ⟨N, hN, rfl⟩, rfl, rfl⟩
theorem k_takeDown {g : pr_C} {l : Launch} (hl : l.stackTraces = false) {T T' : pr_T} {I I' : pr_I} {L L' : pr_L} {x o d' mc' ms' : Nat} {p1 : Int32} {r : Int32} (hM : pr_M g l d' mc' ms' mX7_takeDown [.ref x, .int p1] T I L (pr_R (some (.int r)) T' I' L') pr_no) (hx : T.2.1 x = (7, 0)) (ho : T'.2.1 o = (21, 1)) : pr_M g l (d' + 1) mc' ms' mL_takeDown [.ref x, .int p1, .ref o] T I L (pr_R (some (.int 0)) T' I' (pr_upl L' o 0 r.toInt64)) pr_no := by
  refine pr_ofGH (by decide) rfl hl (Nat.le_of_ble_eq_true rfl) (fun X hA hX hXn hXt => ?_)
  subst hX
  show pr_G g X mL_takeDown.2.2.1 _ 0 0 0 [.ref x, .int p1, .ref o, .null] [] T I L
  refine pr_aload_n hA dL_takeDown_0 rfl ?_
  refine pr_iconst hA (nI 0) dL_takeDown_1 (by decide) ?_
  refine pr_aload_n hA dL_takeDown_2 rfl ?_
  refine pr_iload_n hA dL_takeDown_3 rfl ?_
  refine pr_callV hA rfl (As := [.int p1]) hM v_L_30 hx (by decide) rfl rfl rfl (Nat.le_refl _) (Nat.le_of_eq (Nat.zero_add _)) (Nat.le_of_eq (Nat.zero_add _)) (st := [.int (nI 0), .ref o]) rfl (Nat.le_of_ble_eq_true rfl) dL_takeDown_4 (fun v T2 I2 L2 h => ?_) (fun _ _ _ _ h => h.elim)
  obtain ⟨rfl, rfl, rfl, rfl⟩ := h
  refine pr_i2l hA dL_takeDown_7 ?_
  refine pr_lastE hA ho (by decide) (by decide) dL_takeDown_8 ?_
  refine pr_goto hA 15 dL_takeDown_9 (by decide) ?_
  refine pr_iconst hA (0) dL_takeDown_15 (by decide) ?_
  exact pr_ireturn hA rfl rfl (Nat.le_of_eq (Nat.zero_add _)) (Nat.le_of_eq (Nat.zero_add _)) dL_takeDown_16 ⟨rfl, rfl, rfl, rfl⟩
theorem k_takeDown_i {g : pr_C} {l : Launch} (hl : l.stackTraces = false) {T : pr_T} {I : pr_I} {L : pr_L} {x o d' mc' ms' : Nat} {p1 : Int32} (hM : pr_M g l d' mc' ms' mX7_takeDown [.ref x, .int p1] T I L pr_nv (pr_Th eIOO T I L)) (hx : T.2.1 x = (7, 0)) : pr_M g l (d' + 1) mc' ms' mL_takeDown [.ref x, .int p1, .ref o] T I L (pr_Ct 1 T I L) pr_no := by
  refine pr_ofGH (by decide) rfl hl (Nat.le_of_ble_eq_true rfl) (fun X hA hX hXn hXt => ?_)
  subst hX
  show pr_G g X mL_takeDown.2.2.1 _ 0 0 0 [.ref x, .int p1, .ref o, .null] [] T I L
  refine pr_aload_n hA dL_takeDown_0 rfl ?_
  refine pr_iconst hA (nI 0) dL_takeDown_1 (by decide) ?_
  refine pr_aload_n hA dL_takeDown_2 rfl ?_
  refine pr_iload_n hA dL_takeDown_3 rfl ?_
  refine pr_callV hA rfl (As := [.int p1]) hM v_L_30 hx (by decide) rfl rfl rfl (Nat.le_refl _) (Nat.le_of_eq (Nat.zero_add _)) (Nat.le_of_eq (Nat.zero_add _)) (st := [.int (nI 0), .ref o]) rfl (Nat.le_of_ble_eq_true rfl) dL_takeDown_4 (fun v T2 I2 L2 h => h.elim) (fun E2 T2 I2 L2 h => ?_)
  obtain ⟨rfl, ⟨N, hN, rfl⟩, rfl, rfl⟩ := h
  refine pr_catch hA [] ⟨0, 9, 12, 13⟩ [] hXt (Or.inl rfl) (by decide) (by decide) kC_L_13 (by decide +kernel) (fun q => ?_)
  refine pr_astore_n (ls' := _) hA dL_takeDown_12 (by decide) rfl ?_
  refine pr_iconst hA (1) dL_takeDown_13 (by decide) ?_
  exact pr_ireturn hA rfl rfl (Nat.le_of_eq (Nat.zero_add _)) (Nat.le_of_eq (Nat.zero_add _)) dL_takeDown_14 ⟨rfl, ⟨N, hN, rfl⟩, rfl, rfl⟩
theorem k_ticketOn {g : pr_C} {l : Launch} (hl : l.stackTraces = false) {T T' : pr_T} {I I' : pr_I} {L L' : pr_L} {x o d' mc' ms' : Nat} {p1 p2 : Int32} {r : Int32} (hM : pr_M g l d' mc' ms' mX7_ticketOn [.ref x, .int p1, .int p2] T I L (pr_R (some (.int r)) T' I' L') pr_no) (hx : T.2.1 x = (7, 0)) (ho : T'.2.1 o = (21, 1)) : pr_M g l (d' + 1) mc' ms' mL_ticketOn [.ref x, .int p1, .int p2, .ref o] T I L (pr_R (some (.int 0)) T' I' (pr_upl L' o 0 r.toInt64)) pr_no := by
  refine pr_ofGH (by decide) rfl hl (Nat.le_of_ble_eq_true rfl) (fun X hA hX hXn hXt => ?_)
  subst hX
  show pr_G g X mL_ticketOn.2.2.1 _ 0 0 0 [.ref x, .int p1, .int p2, .ref o, .null] [] T I L
  refine pr_aload_n hA dL_ticketOn_0 rfl ?_
  refine pr_iconst hA (nI 0) dL_ticketOn_1 (by decide) ?_
  refine pr_aload_n hA dL_ticketOn_2 rfl ?_
  refine pr_iload_n hA dL_ticketOn_3 rfl ?_
  refine pr_iload_n hA dL_ticketOn_4 rfl ?_
  refine pr_callV hA rfl (As := [.int p1, .int p2]) hM v_L_70 hx (by decide) rfl rfl rfl (Nat.le_refl _) (Nat.le_of_eq (Nat.zero_add _)) (Nat.le_of_eq (Nat.zero_add _)) (st := [.int (nI 0), .ref o]) rfl (Nat.le_of_ble_eq_true rfl) dL_ticketOn_5 (fun v T2 I2 L2 h => ?_) (fun _ _ _ _ h => h.elim)
  obtain ⟨rfl, rfl, rfl, rfl⟩ := h
  refine pr_i2l hA dL_ticketOn_8 ?_
  refine pr_lastE hA ho (by decide) (by decide) dL_ticketOn_9 ?_
  refine pr_goto hA 17 dL_ticketOn_10 (by decide) ?_
  refine pr_iconst hA (0) dL_ticketOn_17 (by decide) ?_
  exact pr_ireturn hA rfl rfl (Nat.le_of_eq (Nat.zero_add _)) (Nat.le_of_eq (Nat.zero_add _)) dL_ticketOn_18 ⟨rfl, rfl, rfl, rfl⟩
theorem k_ticketOn_i {g : pr_C} {l : Launch} (hl : l.stackTraces = false) {T : pr_T} {I : pr_I} {L : pr_L} {x o d' mc' ms' : Nat} {p1 p2 : Int32} (hM : pr_M g l d' mc' ms' mX7_ticketOn [.ref x, .int p1, .int p2] T I L pr_nv (pr_Th eIOO T I L)) (hx : T.2.1 x = (7, 0)) : pr_M g l (d' + 1) mc' ms' mL_ticketOn [.ref x, .int p1, .int p2, .ref o] T I L (pr_Ct 1 T I L) pr_no := by
  refine pr_ofGH (by decide) rfl hl (Nat.le_of_ble_eq_true rfl) (fun X hA hX hXn hXt => ?_)
  subst hX
  show pr_G g X mL_ticketOn.2.2.1 _ 0 0 0 [.ref x, .int p1, .int p2, .ref o, .null] [] T I L
  refine pr_aload_n hA dL_ticketOn_0 rfl ?_
  refine pr_iconst hA (nI 0) dL_ticketOn_1 (by decide) ?_
  refine pr_aload_n hA dL_ticketOn_2 rfl ?_
  refine pr_iload_n hA dL_ticketOn_3 rfl ?_
  refine pr_iload_n hA dL_ticketOn_4 rfl ?_
  refine pr_callV hA rfl (As := [.int p1, .int p2]) hM v_L_70 hx (by decide) rfl rfl rfl (Nat.le_refl _) (Nat.le_of_eq (Nat.zero_add _)) (Nat.le_of_eq (Nat.zero_add _)) (st := [.int (nI 0), .ref o]) rfl (Nat.le_of_ble_eq_true rfl) dL_ticketOn_5 (fun v T2 I2 L2 h => h.elim) (fun E2 T2 I2 L2 h => ?_)
  obtain ⟨rfl, ⟨N, hN, rfl⟩, rfl, rfl⟩ := h
  refine pr_catch hA [] ⟨0, 10, 13, 13⟩ [] hXt (Or.inl rfl) (by decide) (by decide) kC_L_13 (by decide +kernel) (fun q => ?_)
  refine pr_astore (ls' := _) hA dL_ticketOn_13 (by decide) rfl ?_
  refine pr_iconst hA (1) dL_ticketOn_15 (by decide) ?_
  exact pr_ireturn hA rfl rfl (Nat.le_of_eq (Nat.zero_add _)) (Nat.le_of_eq (Nat.zero_add _)) dL_ticketOn_16 ⟨rfl, ⟨N, hN, rfl⟩, rfl, rfl⟩
theorem k_ticketValue {g : pr_C} {l : Launch} (hl : l.stackTraces = false) {T T' : pr_T} {I I' : pr_I} {L L' : pr_L} {x o d' mc' ms' : Nat} {p1 p2 : Int32} {r : Int32} (hM : pr_M g l d' mc' ms' mX7_ticketValue [.ref x, .int p1, .int p2] T I L (pr_R (some (.int r)) T' I' L') pr_no) (hx : T.2.1 x = (7, 0)) (ho : T'.2.1 o = (21, 1)) : pr_M g l (d' + 1) mc' ms' mL_ticketValue [.ref x, .int p1, .int p2, .ref o] T I L (pr_R (some (.int 0)) T' I' (pr_upl L' o 0 r.toInt64)) pr_no := by
  refine pr_ofGH (by decide) rfl hl (Nat.le_of_ble_eq_true rfl) (fun X hA hX hXn hXt => ?_)
  subst hX
  show pr_G g X mL_ticketValue.2.2.1 _ 0 0 0 [.ref x, .int p1, .int p2, .ref o, .null] [] T I L
  refine pr_aload_n hA dL_ticketValue_0 rfl ?_
  refine pr_iconst hA (nI 0) dL_ticketValue_1 (by decide) ?_
  refine pr_aload_n hA dL_ticketValue_2 rfl ?_
  refine pr_iload_n hA dL_ticketValue_3 rfl ?_
  refine pr_iload_n hA dL_ticketValue_4 rfl ?_
  refine pr_callV hA rfl (As := [.int p1, .int p2]) hM v_L_67 hx (by decide) rfl rfl rfl (Nat.le_refl _) (Nat.le_of_eq (Nat.zero_add _)) (Nat.le_of_eq (Nat.zero_add _)) (st := [.int (nI 0), .ref o]) rfl (Nat.le_of_ble_eq_true rfl) dL_ticketValue_5 (fun v T2 I2 L2 h => ?_) (fun _ _ _ _ h => h.elim)
  obtain ⟨rfl, rfl, rfl, rfl⟩ := h
  refine pr_i2l hA dL_ticketValue_8 ?_
  refine pr_lastE hA ho (by decide) (by decide) dL_ticketValue_9 ?_
  refine pr_goto hA 21 dL_ticketValue_10 (by decide) ?_
  refine pr_iconst hA (0) dL_ticketValue_21 (by decide) ?_
  exact pr_ireturn hA rfl rfl (Nat.le_of_eq (Nat.zero_add _)) (Nat.le_of_eq (Nat.zero_add _)) dL_ticketValue_22 ⟨rfl, rfl, rfl, rfl⟩
theorem k_ticketValue_i {g : pr_C} {l : Launch} (hl : l.stackTraces = false) {T : pr_T} {I : pr_I} {L : pr_L} {x o d' mc' ms' : Nat} {p1 p2 : Int32} (hM : pr_M g l d' mc' ms' mX7_ticketValue [.ref x, .int p1, .int p2] T I L pr_nv (pr_Th eIOO T I L)) (hx : T.2.1 x = (7, 0)) : pr_M g l (d' + 1) mc' ms' mL_ticketValue [.ref x, .int p1, .int p2, .ref o] T I L (pr_Ct 1 T I L) pr_no := by
  refine pr_ofGH (by decide) rfl hl (Nat.le_of_ble_eq_true rfl) (fun X hA hX hXn hXt => ?_)
  subst hX
  show pr_G g X mL_ticketValue.2.2.1 _ 0 0 0 [.ref x, .int p1, .int p2, .ref o, .null] [] T I L
  refine pr_aload_n hA dL_ticketValue_0 rfl ?_
  refine pr_iconst hA (nI 0) dL_ticketValue_1 (by decide) ?_
  refine pr_aload_n hA dL_ticketValue_2 rfl ?_
  refine pr_iload_n hA dL_ticketValue_3 rfl ?_
  refine pr_iload_n hA dL_ticketValue_4 rfl ?_
  refine pr_callV hA rfl (As := [.int p1, .int p2]) hM v_L_67 hx (by decide) rfl rfl rfl (Nat.le_refl _) (Nat.le_of_eq (Nat.zero_add _)) (Nat.le_of_eq (Nat.zero_add _)) (st := [.int (nI 0), .ref o]) rfl (Nat.le_of_ble_eq_true rfl) dL_ticketValue_5 (fun v T2 I2 L2 h => h.elim) (fun E2 T2 I2 L2 h => ?_)
  obtain ⟨rfl, ⟨N, hN, rfl⟩, rfl, rfl⟩ := h
  refine pr_catch hA [] ⟨0, 10, 13, 13⟩ [⟨0, 10, 17, 18⟩] hXt (Or.inl rfl) (by decide) (by decide) kC_L_13 (by decide +kernel) (fun q => ?_)
  refine pr_astore (ls' := _) hA dL_ticketValue_13 (by decide) rfl ?_
  refine pr_iconst hA (1) dL_ticketValue_15 (by decide) ?_
  exact pr_ireturn hA rfl rfl (Nat.le_of_eq (Nat.zero_add _)) (Nat.le_of_eq (Nat.zero_add _)) dL_ticketValue_16 ⟨rfl, ⟨N, hN, rfl⟩, rfl, rfl⟩
theorem k_ticketValue_a {g : pr_C} {l : Launch} (hl : l.stackTraces = false) {T : pr_T} {I : pr_I} {L : pr_L} {x o d' mc' ms' : Nat} {p1 p2 : Int32} (hM : pr_M g l d' mc' ms' mX7_ticketValue [.ref x, .int p1, .int p2] T I L pr_nv (pr_Th eIAE T I L)) (hx : T.2.1 x = (7, 0)) : pr_M g l (d' + 1) mc' ms' mL_ticketValue [.ref x, .int p1, .int p2, .ref o] T I L (pr_Ct 2 T I L) pr_no := by
  refine pr_ofGH (by decide) rfl hl (Nat.le_of_ble_eq_true rfl) (fun X hA hX hXn hXt => ?_)
  subst hX
  show pr_G g X mL_ticketValue.2.2.1 _ 0 0 0 [.ref x, .int p1, .int p2, .ref o, .null] [] T I L
  refine pr_aload_n hA dL_ticketValue_0 rfl ?_
  refine pr_iconst hA (nI 0) dL_ticketValue_1 (by decide) ?_
  refine pr_aload_n hA dL_ticketValue_2 rfl ?_
  refine pr_iload_n hA dL_ticketValue_3 rfl ?_
  refine pr_iload_n hA dL_ticketValue_4 rfl ?_
  refine pr_callV hA rfl (As := [.int p1, .int p2]) hM v_L_67 hx (by decide) rfl rfl rfl (Nat.le_refl _) (Nat.le_of_eq (Nat.zero_add _)) (Nat.le_of_eq (Nat.zero_add _)) (st := [.int (nI 0), .ref o]) rfl (Nat.le_of_ble_eq_true rfl) dL_ticketValue_5 (fun v T2 I2 L2 h => h.elim) (fun E2 T2 I2 L2 h => ?_)
  obtain ⟨rfl, ⟨N, hN, rfl⟩, rfl, rfl⟩ := h
  refine pr_catch hA [⟨0, 10, 13, 13⟩] ⟨0, 10, 17, 18⟩ [] hXt (Or.inr ⟨rfl, _, rfl, by decide, kC_L_13⟩) (by decide) (by decide) kC_L_18 (by decide +kernel) (fun q => ?_)
  refine pr_astore (ls' := _) hA dL_ticketValue_17 (by decide) rfl ?_
  refine pr_iconst hA (2) dL_ticketValue_19 (by decide) ?_
  exact pr_ireturn hA rfl rfl (Nat.le_of_eq (Nat.zero_add _)) (Nat.le_of_eq (Nat.zero_add _)) dL_ticketValue_20 ⟨rfl, ⟨N, hN, rfl⟩, rfl, rfl⟩
theorem k_ticketsInState {g : pr_C} {l : Launch} (hl : l.stackTraces = false) {T T' : pr_T} {I I' : pr_I} {L L' : pr_L} {x o d' mc' ms' : Nat} {p1 : Int32} {r : Int32} (hM : pr_M g l d' mc' ms' mX7_ticketsInState [.ref x, .int p1] T I L (pr_R (some (.int r)) T' I' L') pr_no) (hx : T.2.1 x = (7, 0)) (ho : T'.2.1 o = (21, 1)) : pr_M g l (d' + 1) mc' ms' mL_ticketsInState [.ref x, .int p1, .ref o] T I L (pr_R (some (.int 0)) T' I' (pr_upl L' o 0 r.toInt64)) pr_no := by
  refine pr_ofGH (by decide) rfl hl (Nat.le_of_ble_eq_true rfl) (fun X hA hX hXn hXt => ?_)
  subst hX
  show pr_G g X mL_ticketsInState.2.2.1 _ 0 0 0 [.ref x, .int p1, .ref o, .null] [] T I L
  refine pr_aload_n hA dL_ticketsInState_0 rfl ?_
  refine pr_iconst hA (nI 0) dL_ticketsInState_1 (by decide) ?_
  refine pr_aload_n hA dL_ticketsInState_2 rfl ?_
  refine pr_iload_n hA dL_ticketsInState_3 rfl ?_
  refine pr_callV hA rfl (As := [.int p1]) hM v_L_73 hx (by decide) rfl rfl rfl (Nat.le_refl _) (Nat.le_of_eq (Nat.zero_add _)) (Nat.le_of_eq (Nat.zero_add _)) (st := [.int (nI 0), .ref o]) rfl (Nat.le_of_ble_eq_true rfl) dL_ticketsInState_4 (fun v T2 I2 L2 h => ?_) (fun _ _ _ _ h => h.elim)
  obtain ⟨rfl, rfl, rfl, rfl⟩ := h
  refine pr_i2l hA dL_ticketsInState_7 ?_
  refine pr_lastE hA ho (by decide) (by decide) dL_ticketsInState_8 ?_
  refine pr_goto hA 15 dL_ticketsInState_9 (by decide) ?_
  refine pr_iconst hA (0) dL_ticketsInState_15 (by decide) ?_
  exact pr_ireturn hA rfl rfl (Nat.le_of_eq (Nat.zero_add _)) (Nat.le_of_eq (Nat.zero_add _)) dL_ticketsInState_16 ⟨rfl, rfl, rfl, rfl⟩
theorem k_ticketsInState_a {g : pr_C} {l : Launch} (hl : l.stackTraces = false) {T : pr_T} {I : pr_I} {L : pr_L} {x o d' mc' ms' : Nat} {p1 : Int32} (hM : pr_M g l d' mc' ms' mX7_ticketsInState [.ref x, .int p1] T I L pr_nv (pr_Th eIAE T I L)) (hx : T.2.1 x = (7, 0)) : pr_M g l (d' + 1) mc' ms' mL_ticketsInState [.ref x, .int p1, .ref o] T I L (pr_Ct 1 T I L) pr_no := by
  refine pr_ofGH (by decide) rfl hl (Nat.le_of_ble_eq_true rfl) (fun X hA hX hXn hXt => ?_)
  subst hX
  show pr_G g X mL_ticketsInState.2.2.1 _ 0 0 0 [.ref x, .int p1, .ref o, .null] [] T I L
  refine pr_aload_n hA dL_ticketsInState_0 rfl ?_
  refine pr_iconst hA (nI 0) dL_ticketsInState_1 (by decide) ?_
  refine pr_aload_n hA dL_ticketsInState_2 rfl ?_
  refine pr_iload_n hA dL_ticketsInState_3 rfl ?_
  refine pr_callV hA rfl (As := [.int p1]) hM v_L_73 hx (by decide) rfl rfl rfl (Nat.le_refl _) (Nat.le_of_eq (Nat.zero_add _)) (Nat.le_of_eq (Nat.zero_add _)) (st := [.int (nI 0), .ref o]) rfl (Nat.le_of_ble_eq_true rfl) dL_ticketsInState_4 (fun v T2 I2 L2 h => h.elim) (fun E2 T2 I2 L2 h => ?_)
  obtain ⟨rfl, ⟨N, hN, rfl⟩, rfl, rfl⟩ := h
  refine pr_catch hA [] ⟨0, 9, 12, 18⟩ [] hXt (Or.inl rfl) (by decide) (by decide) kC_L_18 (by decide +kernel) (fun q => ?_)
  refine pr_astore_n (ls' := _) hA dL_ticketsInState_12 (by decide) rfl ?_
  refine pr_iconst hA (1) dL_ticketsInState_13 (by decide) ?_
  exact pr_ireturn hA rfl rfl (Nat.le_of_eq (Nat.zero_add _)) (Nat.le_of_eq (Nat.zero_add _)) dL_ticketsInState_14 ⟨rfl, ⟨N, hN, rfl⟩, rfl, rfl⟩
theorem k_ticketsOf {g : pr_C} {l : Launch} (hl : l.stackTraces = false) {T T' : pr_T} {I I' : pr_I} {L L' : pr_L} {x o d' mc' ms' : Nat} {p1 p2 : Int32} {r : Int32} (hM : pr_M g l d' mc' ms' mX7_ticketsOf [.ref x, .int p1, .int p2] T I L (pr_R (some (.int r)) T' I' L') pr_no) (hx : T.2.1 x = (7, 0)) (ho : T'.2.1 o = (21, 1)) : pr_M g l (d' + 1) mc' ms' mL_ticketsOf [.ref x, .int p1, .int p2, .ref o] T I L (pr_R (some (.int 0)) T' I' (pr_upl L' o 0 r.toInt64)) pr_no := by
  refine pr_ofGH (by decide) rfl hl (Nat.le_of_ble_eq_true rfl) (fun X hA hX hXn hXt => ?_)
  subst hX
  show pr_G g X mL_ticketsOf.2.2.1 _ 0 0 0 [.ref x, .int p1, .int p2, .ref o, .null] [] T I L
  refine pr_aload_n hA dL_ticketsOf_0 rfl ?_
  refine pr_iconst hA (nI 0) dL_ticketsOf_1 (by decide) ?_
  refine pr_aload_n hA dL_ticketsOf_2 rfl ?_
  refine pr_iload_n hA dL_ticketsOf_3 rfl ?_
  refine pr_iload_n hA dL_ticketsOf_4 rfl ?_
  refine pr_callV hA rfl (As := [.int p1, .int p2]) hM v_L_76 hx (by decide) rfl rfl rfl (Nat.le_refl _) (Nat.le_of_eq (Nat.zero_add _)) (Nat.le_of_eq (Nat.zero_add _)) (st := [.int (nI 0), .ref o]) rfl (Nat.le_of_ble_eq_true rfl) dL_ticketsOf_5 (fun v T2 I2 L2 h => ?_) (fun _ _ _ _ h => h.elim)
  obtain ⟨rfl, rfl, rfl, rfl⟩ := h
  refine pr_i2l hA dL_ticketsOf_8 ?_
  refine pr_lastE hA ho (by decide) (by decide) dL_ticketsOf_9 ?_
  refine pr_goto hA 21 dL_ticketsOf_10 (by decide) ?_
  refine pr_iconst hA (0) dL_ticketsOf_21 (by decide) ?_
  exact pr_ireturn hA rfl rfl (Nat.le_of_eq (Nat.zero_add _)) (Nat.le_of_eq (Nat.zero_add _)) dL_ticketsOf_22 ⟨rfl, rfl, rfl, rfl⟩
theorem k_ticketsOf_i {g : pr_C} {l : Launch} (hl : l.stackTraces = false) {T : pr_T} {I : pr_I} {L : pr_L} {x o d' mc' ms' : Nat} {p1 p2 : Int32} (hM : pr_M g l d' mc' ms' mX7_ticketsOf [.ref x, .int p1, .int p2] T I L pr_nv (pr_Th eIOO T I L)) (hx : T.2.1 x = (7, 0)) : pr_M g l (d' + 1) mc' ms' mL_ticketsOf [.ref x, .int p1, .int p2, .ref o] T I L (pr_Ct 1 T I L) pr_no := by
  refine pr_ofGH (by decide) rfl hl (Nat.le_of_ble_eq_true rfl) (fun X hA hX hXn hXt => ?_)
  subst hX
  show pr_G g X mL_ticketsOf.2.2.1 _ 0 0 0 [.ref x, .int p1, .int p2, .ref o, .null] [] T I L
  refine pr_aload_n hA dL_ticketsOf_0 rfl ?_
  refine pr_iconst hA (nI 0) dL_ticketsOf_1 (by decide) ?_
  refine pr_aload_n hA dL_ticketsOf_2 rfl ?_
  refine pr_iload_n hA dL_ticketsOf_3 rfl ?_
  refine pr_iload_n hA dL_ticketsOf_4 rfl ?_
  refine pr_callV hA rfl (As := [.int p1, .int p2]) hM v_L_76 hx (by decide) rfl rfl rfl (Nat.le_refl _) (Nat.le_of_eq (Nat.zero_add _)) (Nat.le_of_eq (Nat.zero_add _)) (st := [.int (nI 0), .ref o]) rfl (Nat.le_of_ble_eq_true rfl) dL_ticketsOf_5 (fun v T2 I2 L2 h => h.elim) (fun E2 T2 I2 L2 h => ?_)
  obtain ⟨rfl, ⟨N, hN, rfl⟩, rfl, rfl⟩ := h
  refine pr_catch hA [] ⟨0, 10, 13, 13⟩ [⟨0, 10, 17, 18⟩] hXt (Or.inl rfl) (by decide) (by decide) kC_L_13 (by decide +kernel) (fun q => ?_)
  refine pr_astore (ls' := _) hA dL_ticketsOf_13 (by decide) rfl ?_
  refine pr_iconst hA (1) dL_ticketsOf_15 (by decide) ?_
  exact pr_ireturn hA rfl rfl (Nat.le_of_eq (Nat.zero_add _)) (Nat.le_of_eq (Nat.zero_add _)) dL_ticketsOf_16 ⟨rfl, ⟨N, hN, rfl⟩, rfl, rfl⟩
theorem k_ticketsOf_a {g : pr_C} {l : Launch} (hl : l.stackTraces = false) {T : pr_T} {I : pr_I} {L : pr_L} {x o d' mc' ms' : Nat} {p1 p2 : Int32} (hM : pr_M g l d' mc' ms' mX7_ticketsOf [.ref x, .int p1, .int p2] T I L pr_nv (pr_Th eIAE T I L)) (hx : T.2.1 x = (7, 0)) : pr_M g l (d' + 1) mc' ms' mL_ticketsOf [.ref x, .int p1, .int p2, .ref o] T I L (pr_Ct 2 T I L) pr_no := by
  refine pr_ofGH (by decide) rfl hl (Nat.le_of_ble_eq_true rfl) (fun X hA hX hXn hXt => ?_)
  subst hX
  show pr_G g X mL_ticketsOf.2.2.1 _ 0 0 0 [.ref x, .int p1, .int p2, .ref o, .null] [] T I L
  refine pr_aload_n hA dL_ticketsOf_0 rfl ?_
  refine pr_iconst hA (nI 0) dL_ticketsOf_1 (by decide) ?_
  refine pr_aload_n hA dL_ticketsOf_2 rfl ?_
  refine pr_iload_n hA dL_ticketsOf_3 rfl ?_
  refine pr_iload_n hA dL_ticketsOf_4 rfl ?_
  refine pr_callV hA rfl (As := [.int p1, .int p2]) hM v_L_76 hx (by decide) rfl rfl rfl (Nat.le_refl _) (Nat.le_of_eq (Nat.zero_add _)) (Nat.le_of_eq (Nat.zero_add _)) (st := [.int (nI 0), .ref o]) rfl (Nat.le_of_ble_eq_true rfl) dL_ticketsOf_5 (fun v T2 I2 L2 h => h.elim) (fun E2 T2 I2 L2 h => ?_)
  obtain ⟨rfl, ⟨N, hN, rfl⟩, rfl, rfl⟩ := h
  refine pr_catch hA [⟨0, 10, 13, 13⟩] ⟨0, 10, 17, 18⟩ [] hXt (Or.inr ⟨rfl, _, rfl, by decide, kC_L_13⟩) (by decide) (by decide) kC_L_18 (by decide +kernel) (fun q => ?_)
  refine pr_astore (ls' := _) hA dL_ticketsOf_17 (by decide) rfl ?_
  refine pr_iconst hA (2) dL_ticketsOf_19 (by decide) ?_
  exact pr_ireturn hA rfl rfl (Nat.le_of_eq (Nat.zero_add _)) (Nat.le_of_eq (Nat.zero_add _)) dL_ticketsOf_20 ⟨rfl, ⟨N, hN, rfl⟩, rfl, rfl⟩
theorem k_ticksForNew {g : pr_C} {l : Launch} (hl : l.stackTraces = false) {T T' : pr_T} {I I' : pr_I} {L L' : pr_L} {x o d' mc' ms' : Nat} {p1 p2 p3 : Int32} {r : Int32} (hM : pr_M g l d' mc' ms' mX7_ticksForNew [.ref x, .int p1, .int p2, .int p3] T I L (pr_R (some (.int r)) T' I' L') pr_no) (hx : T.2.1 x = (7, 0)) (ho : T'.2.1 o = (21, 1)) : pr_M g l (d' + 1) mc' ms' mL_ticksForNew [.ref x, .int p1, .int p2, .int p3, .ref o] T I L (pr_R (some (.int 0)) T' I' (pr_upl L' o 0 r.toInt64)) pr_no := by
  refine pr_ofGH (by decide) rfl hl (Nat.le_of_ble_eq_true rfl) (fun X hA hX hXn hXt => ?_)
  subst hX
  show pr_G g X mL_ticksForNew.2.2.1 _ 0 0 0 [.ref x, .int p1, .int p2, .int p3, .ref o, .null] [] T I L
  refine pr_aload hA dL_ticksForNew_0 rfl ?_
  refine pr_iconst hA (nI 0) dL_ticksForNew_2 (by decide) ?_
  refine pr_aload_n hA dL_ticksForNew_3 rfl ?_
  refine pr_iload_n hA dL_ticksForNew_4 rfl ?_
  refine pr_iload_n hA dL_ticksForNew_5 rfl ?_
  refine pr_iload_n hA dL_ticksForNew_6 rfl ?_
  refine pr_callV hA rfl (As := [.int p1, .int p2, .int p3]) hM v_L_113 hx (by decide) rfl rfl rfl (Nat.le_refl _) (Nat.le_of_eq (Nat.zero_add _)) (Nat.le_of_eq (Nat.zero_add _)) (st := [.int (nI 0), .ref o]) rfl (Nat.le_of_ble_eq_true rfl) dL_ticksForNew_7 (fun v T2 I2 L2 h => ?_) (fun _ _ _ _ h => h.elim)
  obtain ⟨rfl, rfl, rfl, rfl⟩ := h
  refine pr_i2l hA dL_ticksForNew_10 ?_
  refine pr_lastE hA ho (by decide) (by decide) dL_ticksForNew_11 ?_
  refine pr_goto hA 23 dL_ticksForNew_12 (by decide) ?_
  refine pr_iconst hA (0) dL_ticksForNew_23 (by decide) ?_
  exact pr_ireturn hA rfl rfl (Nat.le_of_eq (Nat.zero_add _)) (Nat.le_of_eq (Nat.zero_add _)) dL_ticksForNew_24 ⟨rfl, rfl, rfl, rfl⟩
theorem k_ticksForNew_i {g : pr_C} {l : Launch} (hl : l.stackTraces = false) {T : pr_T} {I : pr_I} {L : pr_L} {x o d' mc' ms' : Nat} {p1 p2 p3 : Int32} (hM : pr_M g l d' mc' ms' mX7_ticksForNew [.ref x, .int p1, .int p2, .int p3] T I L pr_nv (pr_Th eIOO T I L)) (hx : T.2.1 x = (7, 0)) : pr_M g l (d' + 1) mc' ms' mL_ticksForNew [.ref x, .int p1, .int p2, .int p3, .ref o] T I L (pr_Ct 1 T I L) pr_no := by
  refine pr_ofGH (by decide) rfl hl (Nat.le_of_ble_eq_true rfl) (fun X hA hX hXn hXt => ?_)
  subst hX
  show pr_G g X mL_ticksForNew.2.2.1 _ 0 0 0 [.ref x, .int p1, .int p2, .int p3, .ref o, .null] [] T I L
  refine pr_aload hA dL_ticksForNew_0 rfl ?_
  refine pr_iconst hA (nI 0) dL_ticksForNew_2 (by decide) ?_
  refine pr_aload_n hA dL_ticksForNew_3 rfl ?_
  refine pr_iload_n hA dL_ticksForNew_4 rfl ?_
  refine pr_iload_n hA dL_ticksForNew_5 rfl ?_
  refine pr_iload_n hA dL_ticksForNew_6 rfl ?_
  refine pr_callV hA rfl (As := [.int p1, .int p2, .int p3]) hM v_L_113 hx (by decide) rfl rfl rfl (Nat.le_refl _) (Nat.le_of_eq (Nat.zero_add _)) (Nat.le_of_eq (Nat.zero_add _)) (st := [.int (nI 0), .ref o]) rfl (Nat.le_of_ble_eq_true rfl) dL_ticksForNew_7 (fun v T2 I2 L2 h => h.elim) (fun E2 T2 I2 L2 h => ?_)
  obtain ⟨rfl, ⟨N, hN, rfl⟩, rfl, rfl⟩ := h
  refine pr_catch hA [] ⟨0, 12, 15, 13⟩ [⟨0, 12, 19, 18⟩] hXt (Or.inl rfl) (by decide) (by decide) kC_L_13 (by decide +kernel) (fun q => ?_)
  refine pr_astore (ls' := _) hA dL_ticksForNew_15 (by decide) rfl ?_
  refine pr_iconst hA (1) dL_ticksForNew_17 (by decide) ?_
  exact pr_ireturn hA rfl rfl (Nat.le_of_eq (Nat.zero_add _)) (Nat.le_of_eq (Nat.zero_add _)) dL_ticksForNew_18 ⟨rfl, ⟨N, hN, rfl⟩, rfl, rfl⟩
theorem k_ticksForNew_a {g : pr_C} {l : Launch} (hl : l.stackTraces = false) {T : pr_T} {I : pr_I} {L : pr_L} {x o d' mc' ms' : Nat} {p1 p2 p3 : Int32} (hM : pr_M g l d' mc' ms' mX7_ticksForNew [.ref x, .int p1, .int p2, .int p3] T I L pr_nv (pr_Th eIAE T I L)) (hx : T.2.1 x = (7, 0)) : pr_M g l (d' + 1) mc' ms' mL_ticksForNew [.ref x, .int p1, .int p2, .int p3, .ref o] T I L (pr_Ct 2 T I L) pr_no := by
  refine pr_ofGH (by decide) rfl hl (Nat.le_of_ble_eq_true rfl) (fun X hA hX hXn hXt => ?_)
  subst hX
  show pr_G g X mL_ticksForNew.2.2.1 _ 0 0 0 [.ref x, .int p1, .int p2, .int p3, .ref o, .null] [] T I L
  refine pr_aload hA dL_ticksForNew_0 rfl ?_
  refine pr_iconst hA (nI 0) dL_ticksForNew_2 (by decide) ?_
  refine pr_aload_n hA dL_ticksForNew_3 rfl ?_
  refine pr_iload_n hA dL_ticksForNew_4 rfl ?_
  refine pr_iload_n hA dL_ticksForNew_5 rfl ?_
  refine pr_iload_n hA dL_ticksForNew_6 rfl ?_
  refine pr_callV hA rfl (As := [.int p1, .int p2, .int p3]) hM v_L_113 hx (by decide) rfl rfl rfl (Nat.le_refl _) (Nat.le_of_eq (Nat.zero_add _)) (Nat.le_of_eq (Nat.zero_add _)) (st := [.int (nI 0), .ref o]) rfl (Nat.le_of_ble_eq_true rfl) dL_ticksForNew_7 (fun v T2 I2 L2 h => h.elim) (fun E2 T2 I2 L2 h => ?_)
  obtain ⟨rfl, ⟨N, hN, rfl⟩, rfl, rfl⟩ := h
  refine pr_catch hA [⟨0, 12, 15, 13⟩] ⟨0, 12, 19, 18⟩ [] hXt (Or.inr ⟨rfl, _, rfl, by decide, kC_L_13⟩) (by decide) (by decide) kC_L_18 (by decide +kernel) (fun q => ?_)
  refine pr_astore (ls' := _) hA dL_ticksForNew_19 (by decide) rfl ?_
  refine pr_iconst hA (2) dL_ticksForNew_21 (by decide) ?_
  exact pr_ireturn hA rfl rfl (Nat.le_of_eq (Nat.zero_add _)) (Nat.le_of_eq (Nat.zero_add _)) dL_ticksForNew_22 ⟨rfl, ⟨N, hN, rfl⟩, rfl, rfl⟩
theorem k_ticksUntilActive {g : pr_C} {l : Launch} (hl : l.stackTraces = false) {T T' : pr_T} {I I' : pr_I} {L L' : pr_L} {x o d' mc' ms' : Nat} {p1 : Int32} {r : Int32} (hM : pr_M g l d' mc' ms' mX7_ticksUntilActive [.ref x, .int p1] T I L (pr_R (some (.int r)) T' I' L') pr_no) (hx : T.2.1 x = (7, 0)) (ho : T'.2.1 o = (21, 1)) : pr_M g l (d' + 1) mc' ms' mL_ticksUntilActive [.ref x, .int p1, .ref o] T I L (pr_R (some (.int 0)) T' I' (pr_upl L' o 0 r.toInt64)) pr_no := by
  refine pr_ofGH (by decide) rfl hl (Nat.le_of_ble_eq_true rfl) (fun X hA hX hXn hXt => ?_)
  subst hX
  show pr_G g X mL_ticksUntilActive.2.2.1 _ 0 0 0 [.ref x, .int p1, .ref o, .null] [] T I L
  refine pr_aload_n hA dL_ticksUntilActive_0 rfl ?_
  refine pr_iconst hA (nI 0) dL_ticksUntilActive_1 (by decide) ?_
  refine pr_aload_n hA dL_ticksUntilActive_2 rfl ?_
  refine pr_iload_n hA dL_ticksUntilActive_3 rfl ?_
  refine pr_callV hA rfl (As := [.int p1]) hM v_L_110 hx (by decide) rfl rfl rfl (Nat.le_refl _) (Nat.le_of_eq (Nat.zero_add _)) (Nat.le_of_eq (Nat.zero_add _)) (st := [.int (nI 0), .ref o]) rfl (Nat.le_of_ble_eq_true rfl) dL_ticksUntilActive_4 (fun v T2 I2 L2 h => ?_) (fun _ _ _ _ h => h.elim)
  obtain ⟨rfl, rfl, rfl, rfl⟩ := h
  refine pr_i2l hA dL_ticksUntilActive_7 ?_
  refine pr_lastE hA ho (by decide) (by decide) dL_ticksUntilActive_8 ?_
  refine pr_goto hA 15 dL_ticksUntilActive_9 (by decide) ?_
  refine pr_iconst hA (0) dL_ticksUntilActive_15 (by decide) ?_
  exact pr_ireturn hA rfl rfl (Nat.le_of_eq (Nat.zero_add _)) (Nat.le_of_eq (Nat.zero_add _)) dL_ticksUntilActive_16 ⟨rfl, rfl, rfl, rfl⟩
theorem k_ticksUntilActive_i {g : pr_C} {l : Launch} (hl : l.stackTraces = false) {T : pr_T} {I : pr_I} {L : pr_L} {x o d' mc' ms' : Nat} {p1 : Int32} (hM : pr_M g l d' mc' ms' mX7_ticksUntilActive [.ref x, .int p1] T I L pr_nv (pr_Th eIOO T I L)) (hx : T.2.1 x = (7, 0)) : pr_M g l (d' + 1) mc' ms' mL_ticksUntilActive [.ref x, .int p1, .ref o] T I L (pr_Ct 1 T I L) pr_no := by
  refine pr_ofGH (by decide) rfl hl (Nat.le_of_ble_eq_true rfl) (fun X hA hX hXn hXt => ?_)
  subst hX
  show pr_G g X mL_ticksUntilActive.2.2.1 _ 0 0 0 [.ref x, .int p1, .ref o, .null] [] T I L
  refine pr_aload_n hA dL_ticksUntilActive_0 rfl ?_
  refine pr_iconst hA (nI 0) dL_ticksUntilActive_1 (by decide) ?_
  refine pr_aload_n hA dL_ticksUntilActive_2 rfl ?_
  refine pr_iload_n hA dL_ticksUntilActive_3 rfl ?_
  refine pr_callV hA rfl (As := [.int p1]) hM v_L_110 hx (by decide) rfl rfl rfl (Nat.le_refl _) (Nat.le_of_eq (Nat.zero_add _)) (Nat.le_of_eq (Nat.zero_add _)) (st := [.int (nI 0), .ref o]) rfl (Nat.le_of_ble_eq_true rfl) dL_ticksUntilActive_4 (fun v T2 I2 L2 h => h.elim) (fun E2 T2 I2 L2 h => ?_)
  obtain ⟨rfl, ⟨N, hN, rfl⟩, rfl, rfl⟩ := h
  refine pr_catch hA [] ⟨0, 9, 12, 13⟩ [] hXt (Or.inl rfl) (by decide) (by decide) kC_L_13 (by decide +kernel) (fun q => ?_)
  refine pr_astore_n (ls' := _) hA dL_ticksUntilActive_12 (by decide) rfl ?_
  refine pr_iconst hA (1) dL_ticksUntilActive_13 (by decide) ?_
  exact pr_ireturn hA rfl rfl (Nat.le_of_eq (Nat.zero_add _)) (Nat.le_of_eq (Nat.zero_add _)) dL_ticksUntilActive_14 ⟨rfl, ⟨N, hN, rfl⟩, rfl, rfl⟩
theorem k_ticksUntilAvailable {g : pr_C} {l : Launch} (hl : l.stackTraces = false) {T T' : pr_T} {I I' : pr_I} {L L' : pr_L} {x o d' mc' ms' : Nat} {p1 p2 : Int32} {r : Int32} (hM : pr_M g l d' mc' ms' mX7_ticksUntilAvailable [.ref x, .int p1, .int p2] T I L (pr_R (some (.int r)) T' I' L') pr_no) (hx : T.2.1 x = (7, 0)) (ho : T'.2.1 o = (21, 1)) : pr_M g l (d' + 1) mc' ms' mL_ticksUntilAvailable [.ref x, .int p1, .int p2, .ref o] T I L (pr_R (some (.int 0)) T' I' (pr_upl L' o 0 r.toInt64)) pr_no := by
  refine pr_ofGH (by decide) rfl hl (Nat.le_of_ble_eq_true rfl) (fun X hA hX hXn hXt => ?_)
  subst hX
  show pr_G g X mL_ticksUntilAvailable.2.2.1 _ 0 0 0 [.ref x, .int p1, .int p2, .ref o, .null] [] T I L
  refine pr_aload_n hA dL_ticksUntilAvailable_0 rfl ?_
  refine pr_iconst hA (nI 0) dL_ticksUntilAvailable_1 (by decide) ?_
  refine pr_aload_n hA dL_ticksUntilAvailable_2 rfl ?_
  refine pr_iload_n hA dL_ticksUntilAvailable_3 rfl ?_
  refine pr_iload_n hA dL_ticksUntilAvailable_4 rfl ?_
  refine pr_callV hA rfl (As := [.int p1, .int p2]) hM v_L_126 hx (by decide) rfl rfl rfl (Nat.le_refl _) (Nat.le_of_eq (Nat.zero_add _)) (Nat.le_of_eq (Nat.zero_add _)) (st := [.int (nI 0), .ref o]) rfl (Nat.le_of_ble_eq_true rfl) dL_ticksUntilAvailable_5 (fun v T2 I2 L2 h => ?_) (fun _ _ _ _ h => h.elim)
  obtain ⟨rfl, rfl, rfl, rfl⟩ := h
  refine pr_i2l hA dL_ticksUntilAvailable_8 ?_
  refine pr_lastE hA ho (by decide) (by decide) dL_ticksUntilAvailable_9 ?_
  refine pr_goto hA 21 dL_ticksUntilAvailable_10 (by decide) ?_
  refine pr_iconst hA (0) dL_ticksUntilAvailable_21 (by decide) ?_
  exact pr_ireturn hA rfl rfl (Nat.le_of_eq (Nat.zero_add _)) (Nat.le_of_eq (Nat.zero_add _)) dL_ticksUntilAvailable_22 ⟨rfl, rfl, rfl, rfl⟩
theorem k_ticksUntilAvailable_i {g : pr_C} {l : Launch} (hl : l.stackTraces = false) {T : pr_T} {I : pr_I} {L : pr_L} {x o d' mc' ms' : Nat} {p1 p2 : Int32} (hM : pr_M g l d' mc' ms' mX7_ticksUntilAvailable [.ref x, .int p1, .int p2] T I L pr_nv (pr_Th eIOO T I L)) (hx : T.2.1 x = (7, 0)) : pr_M g l (d' + 1) mc' ms' mL_ticksUntilAvailable [.ref x, .int p1, .int p2, .ref o] T I L (pr_Ct 1 T I L) pr_no := by
  refine pr_ofGH (by decide) rfl hl (Nat.le_of_ble_eq_true rfl) (fun X hA hX hXn hXt => ?_)
  subst hX
  show pr_G g X mL_ticksUntilAvailable.2.2.1 _ 0 0 0 [.ref x, .int p1, .int p2, .ref o, .null] [] T I L
  refine pr_aload_n hA dL_ticksUntilAvailable_0 rfl ?_
  refine pr_iconst hA (nI 0) dL_ticksUntilAvailable_1 (by decide) ?_
  refine pr_aload_n hA dL_ticksUntilAvailable_2 rfl ?_
  refine pr_iload_n hA dL_ticksUntilAvailable_3 rfl ?_
  refine pr_iload_n hA dL_ticksUntilAvailable_4 rfl ?_
  refine pr_callV hA rfl (As := [.int p1, .int p2]) hM v_L_126 hx (by decide) rfl rfl rfl (Nat.le_refl _) (Nat.le_of_eq (Nat.zero_add _)) (Nat.le_of_eq (Nat.zero_add _)) (st := [.int (nI 0), .ref o]) rfl (Nat.le_of_ble_eq_true rfl) dL_ticksUntilAvailable_5 (fun v T2 I2 L2 h => h.elim) (fun E2 T2 I2 L2 h => ?_)
  obtain ⟨rfl, ⟨N, hN, rfl⟩, rfl, rfl⟩ := h
  refine pr_catch hA [] ⟨0, 10, 13, 13⟩ [⟨0, 10, 17, 18⟩] hXt (Or.inl rfl) (by decide) (by decide) kC_L_13 (by decide +kernel) (fun q => ?_)
  refine pr_astore (ls' := _) hA dL_ticksUntilAvailable_13 (by decide) rfl ?_
  refine pr_iconst hA (1) dL_ticksUntilAvailable_15 (by decide) ?_
  exact pr_ireturn hA rfl rfl (Nat.le_of_eq (Nat.zero_add _)) (Nat.le_of_eq (Nat.zero_add _)) dL_ticksUntilAvailable_16 ⟨rfl, ⟨N, hN, rfl⟩, rfl, rfl⟩
theorem k_ticksUntilAvailable_a {g : pr_C} {l : Launch} (hl : l.stackTraces = false) {T : pr_T} {I : pr_I} {L : pr_L} {x o d' mc' ms' : Nat} {p1 p2 : Int32} (hM : pr_M g l d' mc' ms' mX7_ticksUntilAvailable [.ref x, .int p1, .int p2] T I L pr_nv (pr_Th eIAE T I L)) (hx : T.2.1 x = (7, 0)) : pr_M g l (d' + 1) mc' ms' mL_ticksUntilAvailable [.ref x, .int p1, .int p2, .ref o] T I L (pr_Ct 2 T I L) pr_no := by
  refine pr_ofGH (by decide) rfl hl (Nat.le_of_ble_eq_true rfl) (fun X hA hX hXn hXt => ?_)
  subst hX
  show pr_G g X mL_ticksUntilAvailable.2.2.1 _ 0 0 0 [.ref x, .int p1, .int p2, .ref o, .null] [] T I L
  refine pr_aload_n hA dL_ticksUntilAvailable_0 rfl ?_
  refine pr_iconst hA (nI 0) dL_ticksUntilAvailable_1 (by decide) ?_
  refine pr_aload_n hA dL_ticksUntilAvailable_2 rfl ?_
  refine pr_iload_n hA dL_ticksUntilAvailable_3 rfl ?_
  refine pr_iload_n hA dL_ticksUntilAvailable_4 rfl ?_
  refine pr_callV hA rfl (As := [.int p1, .int p2]) hM v_L_126 hx (by decide) rfl rfl rfl (Nat.le_refl _) (Nat.le_of_eq (Nat.zero_add _)) (Nat.le_of_eq (Nat.zero_add _)) (st := [.int (nI 0), .ref o]) rfl (Nat.le_of_ble_eq_true rfl) dL_ticksUntilAvailable_5 (fun v T2 I2 L2 h => h.elim) (fun E2 T2 I2 L2 h => ?_)
  obtain ⟨rfl, ⟨N, hN, rfl⟩, rfl, rfl⟩ := h
  refine pr_catch hA [⟨0, 10, 13, 13⟩] ⟨0, 10, 17, 18⟩ [] hXt (Or.inr ⟨rfl, _, rfl, by decide, kC_L_13⟩) (by decide) (by decide) kC_L_18 (by decide +kernel) (fun q => ?_)
  refine pr_astore (ls' := _) hA dL_ticksUntilAvailable_17 (by decide) rfl ?_
  refine pr_iconst hA (2) dL_ticksUntilAvailable_19 (by decide) ?_
  exact pr_ireturn hA rfl rfl (Nat.le_of_eq (Nat.zero_add _)) (Nat.le_of_eq (Nat.zero_add _)) dL_ticksUntilAvailable_20 ⟨rfl, ⟨N, hN, rfl⟩, rfl, rfl⟩
theorem k_widest {g : pr_C} {l : Launch} (hl : l.stackTraces = false) {T T' : pr_T} {I I' : pr_I} {L L' : pr_L} {x o d' mc' ms' : Nat} {p1 p2 : Int32} {r : Int32} (hM : pr_M g l d' mc' ms' mX7_widest [.ref x, .int p1, .int p2] T I L (pr_R (some (.int r)) T' I' L') pr_no) (hx : T.2.1 x = (7, 0)) (ho : T'.2.1 o = (21, 1)) : pr_M g l (d' + 1) mc' ms' mL_widest [.ref x, .int p1, .int p2, .ref o] T I L (pr_R (some (.int 0)) T' I' (pr_upl L' o 0 r.toInt64)) pr_no := by
  refine pr_ofGH (by decide) rfl hl (Nat.le_of_ble_eq_true rfl) (fun X hA hX hXn hXt => ?_)
  subst hX
  show pr_G g X mL_widest.2.2.1 _ 0 0 0 [.ref x, .int p1, .int p2, .ref o, .null] [] T I L
  refine pr_aload_n hA dL_widest_0 rfl ?_
  refine pr_iconst hA (nI 0) dL_widest_1 (by decide) ?_
  refine pr_aload_n hA dL_widest_2 rfl ?_
  refine pr_iload_n hA dL_widest_3 rfl ?_
  refine pr_iload_n hA dL_widest_4 rfl ?_
  refine pr_callV hA rfl (As := [.int p1, .int p2]) hM v_L_92 hx (by decide) rfl rfl rfl (Nat.le_refl _) (Nat.le_of_eq (Nat.zero_add _)) (Nat.le_of_eq (Nat.zero_add _)) (st := [.int (nI 0), .ref o]) rfl (Nat.le_of_ble_eq_true rfl) dL_widest_5 (fun v T2 I2 L2 h => ?_) (fun _ _ _ _ h => h.elim)
  obtain ⟨rfl, rfl, rfl, rfl⟩ := h
  refine pr_i2l hA dL_widest_8 ?_
  refine pr_lastE hA ho (by decide) (by decide) dL_widest_9 ?_
  refine pr_goto hA 21 dL_widest_10 (by decide) ?_
  refine pr_iconst hA (0) dL_widest_21 (by decide) ?_
  exact pr_ireturn hA rfl rfl (Nat.le_of_eq (Nat.zero_add _)) (Nat.le_of_eq (Nat.zero_add _)) dL_widest_22 ⟨rfl, rfl, rfl, rfl⟩
theorem k_widest_i {g : pr_C} {l : Launch} (hl : l.stackTraces = false) {T : pr_T} {I : pr_I} {L : pr_L} {x o d' mc' ms' : Nat} {p1 p2 : Int32} (hM : pr_M g l d' mc' ms' mX7_widest [.ref x, .int p1, .int p2] T I L pr_nv (pr_Th eIOO T I L)) (hx : T.2.1 x = (7, 0)) : pr_M g l (d' + 1) mc' ms' mL_widest [.ref x, .int p1, .int p2, .ref o] T I L (pr_Ct 1 T I L) pr_no := by
  refine pr_ofGH (by decide) rfl hl (Nat.le_of_ble_eq_true rfl) (fun X hA hX hXn hXt => ?_)
  subst hX
  show pr_G g X mL_widest.2.2.1 _ 0 0 0 [.ref x, .int p1, .int p2, .ref o, .null] [] T I L
  refine pr_aload_n hA dL_widest_0 rfl ?_
  refine pr_iconst hA (nI 0) dL_widest_1 (by decide) ?_
  refine pr_aload_n hA dL_widest_2 rfl ?_
  refine pr_iload_n hA dL_widest_3 rfl ?_
  refine pr_iload_n hA dL_widest_4 rfl ?_
  refine pr_callV hA rfl (As := [.int p1, .int p2]) hM v_L_92 hx (by decide) rfl rfl rfl (Nat.le_refl _) (Nat.le_of_eq (Nat.zero_add _)) (Nat.le_of_eq (Nat.zero_add _)) (st := [.int (nI 0), .ref o]) rfl (Nat.le_of_ble_eq_true rfl) dL_widest_5 (fun v T2 I2 L2 h => h.elim) (fun E2 T2 I2 L2 h => ?_)
  obtain ⟨rfl, ⟨N, hN, rfl⟩, rfl, rfl⟩ := h
  refine pr_catch hA [] ⟨0, 10, 13, 13⟩ [⟨0, 10, 17, 18⟩] hXt (Or.inl rfl) (by decide) (by decide) kC_L_13 (by decide +kernel) (fun q => ?_)
  refine pr_astore (ls' := _) hA dL_widest_13 (by decide) rfl ?_
  refine pr_iconst hA (1) dL_widest_15 (by decide) ?_
  exact pr_ireturn hA rfl rfl (Nat.le_of_eq (Nat.zero_add _)) (Nat.le_of_eq (Nat.zero_add _)) dL_widest_16 ⟨rfl, ⟨N, hN, rfl⟩, rfl, rfl⟩
theorem k_widest_a {g : pr_C} {l : Launch} (hl : l.stackTraces = false) {T : pr_T} {I : pr_I} {L : pr_L} {x o d' mc' ms' : Nat} {p1 p2 : Int32} (hM : pr_M g l d' mc' ms' mX7_widest [.ref x, .int p1, .int p2] T I L pr_nv (pr_Th eIAE T I L)) (hx : T.2.1 x = (7, 0)) : pr_M g l (d' + 1) mc' ms' mL_widest [.ref x, .int p1, .int p2, .ref o] T I L (pr_Ct 2 T I L) pr_no := by
  refine pr_ofGH (by decide) rfl hl (Nat.le_of_ble_eq_true rfl) (fun X hA hX hXn hXt => ?_)
  subst hX
  show pr_G g X mL_widest.2.2.1 _ 0 0 0 [.ref x, .int p1, .int p2, .ref o, .null] [] T I L
  refine pr_aload_n hA dL_widest_0 rfl ?_
  refine pr_iconst hA (nI 0) dL_widest_1 (by decide) ?_
  refine pr_aload_n hA dL_widest_2 rfl ?_
  refine pr_iload_n hA dL_widest_3 rfl ?_
  refine pr_iload_n hA dL_widest_4 rfl ?_
  refine pr_callV hA rfl (As := [.int p1, .int p2]) hM v_L_92 hx (by decide) rfl rfl rfl (Nat.le_refl _) (Nat.le_of_eq (Nat.zero_add _)) (Nat.le_of_eq (Nat.zero_add _)) (st := [.int (nI 0), .ref o]) rfl (Nat.le_of_ble_eq_true rfl) dL_widest_5 (fun v T2 I2 L2 h => h.elim) (fun E2 T2 I2 L2 h => ?_)
  obtain ⟨rfl, ⟨N, hN, rfl⟩, rfl, rfl⟩ := h
  refine pr_catch hA [⟨0, 10, 13, 13⟩] ⟨0, 10, 17, 18⟩ [] hXt (Or.inr ⟨rfl, _, rfl, by decide, kC_L_13⟩) (by decide) (by decide) kC_L_18 (by decide +kernel) (fun q => ?_)
  refine pr_astore (ls' := _) hA dL_widest_17 (by decide) rfl ?_
  refine pr_iconst hA (2) dL_widest_19 (by decide) ?_
  exact pr_ireturn hA rfl rfl (Nat.le_of_eq (Nat.zero_add _)) (Nat.le_of_eq (Nat.zero_add _)) dL_widest_20 ⟨rfl, ⟨N, hN, rfl⟩, rfl, rfl⟩
