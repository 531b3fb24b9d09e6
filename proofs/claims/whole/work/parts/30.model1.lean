section PRM
variable {g : pr_C} {X : pr_X} {M : pr_MD} {d mc ms : Nat} {nL : Nat} {Q : State → Prop} {cs sl pc : Nat} {ls st : List Value} {T : pr_T} {I : pr_I} {L : pr_L}
theorem pr_ialdM (hA : pr_Am g X M d mc ms) {a n k : Nat} {v : Int32} (ha : T.2.1 a = (20, n)) (hk : k < n) (hn : n ≤ 100000) (hr : I a k = v) (hd : decode M.2.1 pc = .ok (.iaload, 1)) (kk : pr_G g X nL Q cs sl (pc + 1) ls (.int v :: st) T I L) : pr_G g X nL Q cs sl pc ls (.int (nI k) :: .ref a :: st) T I L := by
  subst hr
  refine pr_iald hA ha (nI_vin hk (by omega)) hd ?_
  rw [nI_clamp (by omega)]; exact kk
theorem pr_iastM (hA : pr_Am g X M d mc ms) {a n k : Nat} {v : Int32} {I' : pr_I} (ha : T.2.1 a = (20, n)) (hk : k < n) (hn : n ≤ 100000) (hu : pr_up I a k v = I') (hd : decode M.2.1 pc = .ok (.iastore, 1)) (kk : pr_G g X nL Q cs sl (pc + 1) ls st T I' L) : pr_G g X nL Q cs sl pc ls (.int v :: .int (nI k) :: .ref a :: st) T I L := by
  subst hu
  refine pr_iast hA ha (nI_vin hk (by omega)) hd ?_
  rw [nI_clamp (by omega)]; exact kk
end PRM
/-! THE REFERENCE: its cells, 16 of them -/
def mo_K (o : Nat) : Nat × Nat := match o with | 0 => (8, 0) | 1 => (20, 5384) | 2 => (20, 5384) | 3 => (20, 5384) | 4 => (20, 5384) | 5 => (20, 5384) | 6 => (23, 2) | 7 => (20, 700) | 8 => (20, 12) | 9 => (20, 12) | 10 => (20, 12) | 11 => (20, 24) | 12 => (20, 24) | 13 => (20, 12) | 14 => (20, 12) | _ => (23, 12)
def mo_F (k : Nat) : Option Nat := match k with | 0 => some 1 | 1 => some 2 | 2 => some 3 | 3 => some 4 | 4 => some 5 | 5 => some 6 | 7 => some 7 | 14 => some 8 | 15 => some 9 | 16 => some 10 | 18 => some 11 | 19 => some 12 | 20 => some 13 | 21 => some 14 | 22 => some 15 | _ => none
def pr_Mo (T : pr_T) (m : Nat) : Prop := (∀ o, o < 16 → T.2.1 (m + o) = mo_K o) ∧ ∀ k b, mo_F k = some b → T.2.2 m k = some (m + b)
theorem mo_k0 {T : pr_T} {m : Nat} (h : pr_Mo T m) : T.2.1 m = (8, 0) := h.1 0 (by decide)
theorem mo_k1 {T : pr_T} {m : Nat} (h : pr_Mo T m) : T.2.1 (m + 1) = (20, 5384) := h.1 1 (by decide)
theorem mo_k2 {T : pr_T} {m : Nat} (h : pr_Mo T m) : T.2.1 (m + 2) = (20, 5384) := h.1 2 (by decide)
theorem mo_k3 {T : pr_T} {m : Nat} (h : pr_Mo T m) : T.2.1 (m + 3) = (20, 5384) := h.1 3 (by decide)
theorem mo_k4 {T : pr_T} {m : Nat} (h : pr_Mo T m) : T.2.1 (m + 4) = (20, 5384) := h.1 4 (by decide)
theorem mo_k5 {T : pr_T} {m : Nat} (h : pr_Mo T m) : T.2.1 (m + 5) = (20, 5384) := h.1 5 (by decide)
theorem mo_k6 {T : pr_T} {m : Nat} (h : pr_Mo T m) : T.2.1 (m + 6) = (23, 2) := h.1 6 (by decide)
theorem mo_k7 {T : pr_T} {m : Nat} (h : pr_Mo T m) : T.2.1 (m + 7) = (20, 700) := h.1 7 (by decide)
theorem mo_k8 {T : pr_T} {m : Nat} (h : pr_Mo T m) : T.2.1 (m + 8) = (20, 12) := h.1 8 (by decide)
theorem mo_k9 {T : pr_T} {m : Nat} (h : pr_Mo T m) : T.2.1 (m + 9) = (20, 12) := h.1 9 (by decide)
theorem mo_k10 {T : pr_T} {m : Nat} (h : pr_Mo T m) : T.2.1 (m + 10) = (20, 12) := h.1 10 (by decide)
theorem mo_k11 {T : pr_T} {m : Nat} (h : pr_Mo T m) : T.2.1 (m + 11) = (20, 24) := h.1 11 (by decide)
theorem mo_k12 {T : pr_T} {m : Nat} (h : pr_Mo T m) : T.2.1 (m + 12) = (20, 24) := h.1 12 (by decide)
theorem mo_k13 {T : pr_T} {m : Nat} (h : pr_Mo T m) : T.2.1 (m + 13) = (20, 12) := h.1 13 (by decide)
theorem mo_k14 {T : pr_T} {m : Nat} (h : pr_Mo T m) : T.2.1 (m + 14) = (20, 12) := h.1 14 (by decide)
theorem mo_k15 {T : pr_T} {m : Nat} (h : pr_Mo T m) : T.2.1 (m + 15) = (23, 12) := h.1 15 (by decide)
theorem mo_f0_0 {T : pr_T} {m : Nat} (h : pr_Mo T m) : T.2.2 m 0 = some (m + 1) := h.2 0 1 rfl
theorem mo_f0_1 {T : pr_T} {m : Nat} (h : pr_Mo T m) : T.2.2 m 1 = some (m + 2) := h.2 1 2 rfl
theorem mo_f0_2 {T : pr_T} {m : Nat} (h : pr_Mo T m) : T.2.2 m 2 = some (m + 3) := h.2 2 3 rfl
theorem mo_f0_3 {T : pr_T} {m : Nat} (h : pr_Mo T m) : T.2.2 m 3 = some (m + 4) := h.2 3 4 rfl
theorem mo_f0_4 {T : pr_T} {m : Nat} (h : pr_Mo T m) : T.2.2 m 4 = some (m + 5) := h.2 4 5 rfl
theorem mo_f0_5 {T : pr_T} {m : Nat} (h : pr_Mo T m) : T.2.2 m 5 = some (m + 6) := h.2 5 6 rfl
theorem mo_f0_7 {T : pr_T} {m : Nat} (h : pr_Mo T m) : T.2.2 m 7 = some (m + 7) := h.2 7 7 rfl
theorem mo_f0_14 {T : pr_T} {m : Nat} (h : pr_Mo T m) : T.2.2 m 14 = some (m + 8) := h.2 14 8 rfl
theorem mo_f0_15 {T : pr_T} {m : Nat} (h : pr_Mo T m) : T.2.2 m 15 = some (m + 9) := h.2 15 9 rfl
theorem mo_f0_16 {T : pr_T} {m : Nat} (h : pr_Mo T m) : T.2.2 m 16 = some (m + 10) := h.2 16 10 rfl
theorem mo_f0_18 {T : pr_T} {m : Nat} (h : pr_Mo T m) : T.2.2 m 18 = some (m + 11) := h.2 18 11 rfl
theorem mo_f0_19 {T : pr_T} {m : Nat} (h : pr_Mo T m) : T.2.2 m 19 = some (m + 12) := h.2 19 12 rfl
theorem mo_f0_20 {T : pr_T} {m : Nat} (h : pr_Mo T m) : T.2.2 m 20 = some (m + 13) := h.2 20 13 rfl
theorem mo_f0_21 {T : pr_T} {m : Nat} (h : pr_Mo T m) : T.2.2 m 21 = some (m + 14) := h.2 21 14 rfl
theorem mo_f0_22 {T : pr_T} {m : Nat} (h : pr_Mo T m) : T.2.2 m 22 = some (m + 15) := h.2 22 15 rfl
theorem nI_lin (a b k c : Nat) : nI a + nI b * nI k + nI c = nI (a + b * k + c) := by
  unfold nI; rw [Int32.ofNat_add, Int32.ofNat_add, Int32.ofNat_mul]
set_option maxRecDepth 100000 in
set_option maxHeartbeats 400000 in
theorem c_m_link {g : pr_C} {l : Launch} (hl : l.stackTraces = false) {T : pr_T} {I : pr_I} {L : pr_L} {m k c : Nat} {σ : pr_I} (hm : pr_Mo T m) (hk : k < 24) (hc : c < 7) : pr_M g l 1 0 0 mX8_link [.ref m, .int (nI k), .int (nI c)] T (rg_put I m 16 σ) L (pr_R (some (.int (σ 1 (96 + 7 * k + c)))) T (rg_put I m 16 σ) L) pr_no := by
  refine pr_ofG (by decide) rfl hl (Nat.le_of_ble_eq_true rfl) (fun X hA hX hXn hXt => ?_)
  subst hX
  show pr_G g X mX8_link.2.2.1 _ 0 0 0 [.ref m, .int (nI k), .int (nI c)] [] T (rg_put I m 16 σ) L
  refine pr_aload_n hA dX8_link_0 rfl ?_
  refine pr_getR hA f_X8_9 rfl (mo_k0 hm) (mo_f0_0 hm) dX8_link_1 ?_
  refine pr_bipush hA (nI 96) dX8_link_4 (by decide) ?_
  refine pr_bipush hA (nI 7) dX8_link_6 (by decide) ?_
  refine pr_iload_n hA dX8_link_8 rfl ?_
  refine pr_imul hA dX8_link_9 ?_
  refine pr_iadd hA dX8_link_10 ?_
  refine pr_iload_n hA dX8_link_11 rfl ?_
  refine pr_iadd hA dX8_link_12 ?_
  rw [show (((nI 96) + ((nI 7) * (nI k))) + (nI c)) = (nI (96 + 7 * k + c)) from (nI_lin 96 7 k c)]
  refine pr_ialdM (v := (σ 1 (96 + 7 * k + c))) hA (mo_k1 hm) (by omega) (by omega) (rg_val (by decide)) dX8_link_13 ?_
  exact pr_ireturn hA rfl rfl (Nat.zero_le _) (Nat.zero_le _) dX8_link_14 ⟨rfl, rfl, rfl, rfl⟩

theorem c_m_linkx {g : pr_C} {l : Launch} (hl : l.stackTraces = false) {T : pr_T} {I : pr_I} {L : pr_L} {m c : Nat} {x : Int32} {σ : pr_I} (hm : pr_Mo T m) (hx : vp_in x 24) (hc : c < 7) : pr_M g l 1 0 0 mX8_link [.ref m, .int x, .int (nI c)] T (rg_put I m 16 σ) L (pr_R (some (.int (σ 1 (96 + 7 * x.toNatClampNeg + c)))) T (rg_put I m 16 σ) L) pr_no := by
  obtain ⟨j, hj, rfl⟩ := vp_in_of hx (by decide)
  rw [nI_clamp (by omega)]
  exact c_m_link hl hm hj hc
set_option maxRecDepth 100000 in
set_option maxHeartbeats 400000 in
theorem c_m_req {g : pr_C} {l : Launch} (hl : l.stackTraces = false) {T : pr_T} {I : pr_I} {L : pr_L} {m k c : Nat} {σ : pr_I} (hm : pr_Mo T m) (hk : k < 40) (hc : c < 28) : pr_M g l 1 0 0 mX8_req [.ref m, .int (nI k), .int (nI c)] T (rg_put I m 16 σ) L (pr_R (some (.int (σ 1 (264 + 28 * k + c)))) T (rg_put I m 16 σ) L) pr_no := by
  refine pr_ofG (by decide) rfl hl (Nat.le_of_ble_eq_true rfl) (fun X hA hX hXn hXt => ?_)
  subst hX
  show pr_G g X mX8_req.2.2.1 _ 0 0 0 [.ref m, .int (nI k), .int (nI c)] [] T (rg_put I m 16 σ) L
  refine pr_aload_n hA dX8_req_0 rfl ?_
  refine pr_getR hA f_X8_9 rfl (mo_k0 hm) (mo_f0_0 hm) dX8_req_1 ?_
  refine pr_sipush hA (264) dX8_req_4 (by decide) ?_
  refine pr_bipush hA (nI 28) dX8_req_7 (by decide) ?_
  refine pr_iload_n hA dX8_req_9 rfl ?_
  refine pr_imul hA dX8_req_10 ?_
  refine pr_iadd hA dX8_req_11 ?_
  refine pr_iload_n hA dX8_req_12 rfl ?_
  refine pr_iadd hA dX8_req_13 ?_
  rw [show (((264 : Int32) + ((nI 28) * (nI k))) + (nI c)) = (nI (264 + 28 * k + c)) from (nI_lin 264 28 k c)]
  refine pr_ialdM (v := (σ 1 (264 + 28 * k + c))) hA (mo_k1 hm) (by omega) (by omega) (rg_val (by decide)) dX8_req_14 ?_
  exact pr_ireturn hA rfl rfl (Nat.zero_le _) (Nat.zero_le _) dX8_req_15 ⟨rfl, rfl, rfl, rfl⟩

theorem c_m_reqx {g : pr_C} {l : Launch} (hl : l.stackTraces = false) {T : pr_T} {I : pr_I} {L : pr_L} {m c : Nat} {x : Int32} {σ : pr_I} (hm : pr_Mo T m) (hx : vp_in x 40) (hc : c < 28) : pr_M g l 1 0 0 mX8_req [.ref m, .int x, .int (nI c)] T (rg_put I m 16 σ) L (pr_R (some (.int (σ 1 (264 + 28 * x.toNatClampNeg + c)))) T (rg_put I m 16 σ) L) pr_no := by
  obtain ⟨j, hj, rfl⟩ := vp_in_of hx (by decide)
  rw [nI_clamp (by omega)]
  exact c_m_req hl hm hj hc
set_option maxRecDepth 100000 in
set_option maxHeartbeats 400000 in
theorem c_m_tick {g : pr_C} {l : Launch} (hl : l.stackTraces = false) {T : pr_T} {I : pr_I} {L : pr_L} {m k c : Nat} {σ : pr_I} (hm : pr_Mo T m) (hk : k < 500) (hc : c < 8) : pr_M g l 1 0 0 mX8_tick [.ref m, .int (nI k), .int (nI c)] T (rg_put I m 16 σ) L (pr_R (some (.int (σ 1 (1384 + 8 * k + c)))) T (rg_put I m 16 σ) L) pr_no := by
  refine pr_ofG (by decide) rfl hl (Nat.le_of_ble_eq_true rfl) (fun X hA hX hXn hXt => ?_)
  subst hX
  show pr_G g X mX8_tick.2.2.1 _ 0 0 0 [.ref m, .int (nI k), .int (nI c)] [] T (rg_put I m 16 σ) L
  refine pr_aload_n hA dX8_tick_0 rfl ?_
  refine pr_getR hA f_X8_9 rfl (mo_k0 hm) (mo_f0_0 hm) dX8_tick_1 ?_
  refine pr_sipush hA (1384) dX8_tick_4 (by decide) ?_
  refine pr_bipush hA (nI 8) dX8_tick_7 (by decide) ?_
  refine pr_iload_n hA dX8_tick_9 rfl ?_
  refine pr_imul hA dX8_tick_10 ?_
  refine pr_iadd hA dX8_tick_11 ?_
  refine pr_iload_n hA dX8_tick_12 rfl ?_
  refine pr_iadd hA dX8_tick_13 ?_
  rw [show (((1384 : Int32) + ((nI 8) * (nI k))) + (nI c)) = (nI (1384 + 8 * k + c)) from (nI_lin 1384 8 k c)]
  refine pr_ialdM (v := (σ 1 (1384 + 8 * k + c))) hA (mo_k1 hm) (by omega) (by omega) (rg_val (by decide)) dX8_tick_14 ?_
  exact pr_ireturn hA rfl rfl (Nat.zero_le _) (Nat.zero_le _) dX8_tick_15 ⟨rfl, rfl, rfl, rfl⟩

theorem c_m_tickx {g : pr_C} {l : Launch} (hl : l.stackTraces = false) {T : pr_T} {I : pr_I} {L : pr_L} {m c : Nat} {x : Int32} {σ : pr_I} (hm : pr_Mo T m) (hx : vp_in x 500) (hc : c < 8) : pr_M g l 1 0 0 mX8_tick [.ref m, .int x, .int (nI c)] T (rg_put I m 16 σ) L (pr_R (some (.int (σ 1 (1384 + 8 * x.toNatClampNeg + c)))) T (rg_put I m 16 σ) L) pr_no := by
  obtain ⟨j, hj, rfl⟩ := vp_in_of hx (by decide)
  rw [nI_clamp (by omega)]
  exact c_m_tick hl hm hj hc
set_option maxRecDepth 100000 in
set_option maxHeartbeats 400000 in
theorem c_m_putReq {g : pr_C} {l : Launch} (hl : l.stackTraces = false) {T : pr_T} {I : pr_I} {L : pr_L} {m k c : Nat} {σ : pr_I} {z : Int32} (hm : pr_Mo T m) (hk : k < 40) (hc : c < 28) : pr_M g l 1 0 0 mX8_putReq [.ref m, .int (nI k), .int (nI c), .int z] T (rg_put I m 16 σ) L (pr_R none T (rg_put I m 16 (pr_up σ 1 (264 + 28 * k + c) z)) L) pr_no := by
  refine pr_ofG (by decide) rfl hl (Nat.le_of_ble_eq_true rfl) (fun X hA hX hXn hXt => ?_)
  subst hX
  show pr_G g X mX8_putReq.2.2.1 _ 0 0 0 [.ref m, .int (nI k), .int (nI c), .int z] [] T (rg_put I m 16 σ) L
  refine pr_aload_n hA dX8_putReq_0 rfl ?_
  refine pr_getR hA f_X8_9 rfl (mo_k0 hm) (mo_f0_0 hm) dX8_putReq_1 ?_
  refine pr_sipush hA (264) dX8_putReq_4 (by decide) ?_
  refine pr_bipush hA (nI 28) dX8_putReq_7 (by decide) ?_
  refine pr_iload_n hA dX8_putReq_9 rfl ?_
  refine pr_imul hA dX8_putReq_10 ?_
  refine pr_iadd hA dX8_putReq_11 ?_
  refine pr_iload_n hA dX8_putReq_12 rfl ?_
  refine pr_iadd hA dX8_putReq_13 ?_
  rw [show (((264 : Int32) + ((nI 28) * (nI k))) + (nI c)) = (nI (264 + 28 * k + c)) from (nI_lin 264 28 k c)]
  refine pr_iload_n hA dX8_putReq_14 rfl ?_
  refine pr_iastM (I' := (rg_put I m 16 (pr_up σ 1 (264 + 28 * k + c) z))) hA (mo_k1 hm) (by omega) (by omega) (rg_up (by decide)) dX8_putReq_15 ?_
  exact pr_return hA rfl (Nat.zero_le _) (Nat.zero_le _) dX8_putReq_16 ⟨rfl, rfl, rfl, rfl⟩

theorem c_m_putReqx {g : pr_C} {l : Launch} (hl : l.stackTraces = false) {T : pr_T} {I : pr_I} {L : pr_L} {m c : Nat} {x : Int32} {σ : pr_I} {z : Int32} (hm : pr_Mo T m) (hx : vp_in x 40) (hc : c < 28) : pr_M g l 1 0 0 mX8_putReq [.ref m, .int x, .int (nI c), .int z] T (rg_put I m 16 σ) L (pr_R none T (rg_put I m 16 (pr_up σ 1 (264 + 28 * x.toNatClampNeg + c) z)) L) pr_no := by
  obtain ⟨j, hj, rfl⟩ := vp_in_of hx (by decide)
  rw [nI_clamp (by omega)]
  exact c_m_putReq hl hm hj hc
set_option maxRecDepth 100000 in
set_option maxHeartbeats 400000 in
theorem c_m_putTick {g : pr_C} {l : Launch} (hl : l.stackTraces = false) {T : pr_T} {I : pr_I} {L : pr_L} {m k c : Nat} {σ : pr_I} {z : Int32} (hm : pr_Mo T m) (hk : k < 500) (hc : c < 8) : pr_M g l 1 0 0 mX8_putTick [.ref m, .int (nI k), .int (nI c), .int z] T (rg_put I m 16 σ) L (pr_R none T (rg_put I m 16 (pr_up σ 1 (1384 + 8 * k + c) z)) L) pr_no := by
  refine pr_ofG (by decide) rfl hl (Nat.le_of_ble_eq_true rfl) (fun X hA hX hXn hXt => ?_)
  subst hX
  show pr_G g X mX8_putTick.2.2.1 _ 0 0 0 [.ref m, .int (nI k), .int (nI c), .int z] [] T (rg_put I m 16 σ) L
  refine pr_aload_n hA dX8_putTick_0 rfl ?_
  refine pr_getR hA f_X8_9 rfl (mo_k0 hm) (mo_f0_0 hm) dX8_putTick_1 ?_
  refine pr_sipush hA (1384) dX8_putTick_4 (by decide) ?_
  refine pr_bipush hA (nI 8) dX8_putTick_7 (by decide) ?_
  refine pr_iload_n hA dX8_putTick_9 rfl ?_
  refine pr_imul hA dX8_putTick_10 ?_
  refine pr_iadd hA dX8_putTick_11 ?_
  refine pr_iload_n hA dX8_putTick_12 rfl ?_
  refine pr_iadd hA dX8_putTick_13 ?_
  rw [show (((1384 : Int32) + ((nI 8) * (nI k))) + (nI c)) = (nI (1384 + 8 * k + c)) from (nI_lin 1384 8 k c)]
  refine pr_iload_n hA dX8_putTick_14 rfl ?_
  refine pr_iastM (I' := (rg_put I m 16 (pr_up σ 1 (1384 + 8 * k + c) z))) hA (mo_k1 hm) (by omega) (by omega) (rg_up (by decide)) dX8_putTick_15 ?_
  exact pr_return hA rfl (Nat.zero_le _) (Nat.zero_le _) dX8_putTick_16 ⟨rfl, rfl, rfl, rfl⟩

theorem c_m_putTickx {g : pr_C} {l : Launch} (hl : l.stackTraces = false) {T : pr_T} {I : pr_I} {L : pr_L} {m c : Nat} {x : Int32} {σ : pr_I} {z : Int32} (hm : pr_Mo T m) (hx : vp_in x 500) (hc : c < 8) : pr_M g l 1 0 0 mX8_putTick [.ref m, .int x, .int (nI c), .int z] T (rg_put I m 16 σ) L (pr_R none T (rg_put I m 16 (pr_up σ 1 (1384 + 8 * x.toNatClampNeg + c) z)) L) pr_no := by
  obtain ⟨j, hj, rfl⟩ := vp_in_of hx (by decide)
  rw [nI_clamp (by omega)]
  exact c_m_putTick hl hm hj hc
noncomputable def m_kept_r (σ : pr_I) (t : Nat) : Int32 := (if (σ 1 (1384 + 8 * t + 5)) = 0 then (1 : Int32) else (if (σ 1 (1384 + 8 * t + 5)) = (1 : Int32) then (1 : Int32) else (0 : Int32)))
set_option maxRecDepth 100000 in
set_option maxHeartbeats 400000 in
theorem c_m_kept {g : pr_C} {l : Launch} (hl : l.stackTraces = false) {T : pr_T} {I : pr_I} {L : pr_L} {m : Nat} {σ : pr_I} {t : Nat} (hm : pr_Mo T m) (ht : t < 500) : pr_M g l 2 0 0 mX8_isKept [.ref m, .int (nI t)] T (rg_put I m 16 σ) L (pr_R (some (.int (m_kept_r σ t))) T (rg_put I m 16 σ) L) pr_no := by
  refine pr_ofG (by decide) rfl hl (Nat.le_of_ble_eq_true rfl) (fun X hA hX hXn hXt => ?_)
  subst hX
  show pr_G g X mX8_isKept.2.2.1 _ 0 0 0 [.ref m, .int (nI t)] [] T (rg_put I m 16 σ) L
  refine pr_aload_n hA dX8_isKept_0 rfl ?_
  refine pr_iload_n hA dX8_isKept_1 rfl ?_
  refine pr_iconst hA (5) dX8_isKept_2 (by decide) ?_
  refine pr_callVi hA [.int (nI t), .int (5 : Int32)] (c_m_tick (m := m) (k := t) (c := 5) (σ := σ) (pr_hl hA) hm (by omega) (by omega)) v_X8_197 (mo_k0 hm) (by decide) rfl rfl rfl (by decide) (Nat.zero_le _) (Nat.zero_le _) rfl (Nat.le_of_ble_eq_true rfl) dX8_isKept_3 ?_
  refine pr_join (c := (σ 1 (1384 + 8 * t + 5)) = 0) (J := 24) (st := []) (1 : Int32) (if (σ 1 (1384 + 8 * t + 5)) = (1 : Int32) then (1 : Int32) else (0 : Int32)) inferInstance (fun kt kf => ?_) ?_
  · refine pr_if_eq hA 19 dX8_isKept_6 (by decide) (fun c_6 => ?_) (fun c_6 => ?_)
    · refine pr_iconst hA (1) dX8_isKept_19 (by decide) ?_
      refine pr_goto hA 24 dX8_isKept_20 (by decide) ?_
      exact kt c_6
    · refine pr_aload_n hA dX8_isKept_9 rfl ?_
      refine pr_iload_n hA dX8_isKept_10 rfl ?_
      refine pr_iconst hA (5) dX8_isKept_11 (by decide) ?_
      refine pr_callVi hA [.int (nI t), .int (5 : Int32)] (c_m_tick (m := m) (k := t) (c := 5) (σ := σ) (pr_hl hA) hm (by omega) (by omega)) v_X8_197 (mo_k0 hm) (by decide) rfl rfl rfl (by decide) (Nat.zero_le _) (Nat.zero_le _) rfl (Nat.le_of_ble_eq_true rfl) dX8_isKept_12 ?_
      refine pr_iconst hA (1) dX8_isKept_15 (by decide) ?_
      refine pr_join (c := (σ 1 (1384 + 8 * t + 5)) = (1 : Int32)) (J := 24) (st := []) (1 : Int32) (0 : Int32) inferInstance (fun kt kf => ?_) ?_
      · refine pr_icmp_ne hA 23 dX8_isKept_16 (by decide) (fun c_16 => ?_) (fun c_16 => ?_)
        · refine pr_iconst hA (0) dX8_isKept_23 (by decide) ?_
          exact kf c_16
        · refine pr_iconst hA (1) dX8_isKept_19 (by decide) ?_
          refine pr_goto hA 24 dX8_isKept_20 (by decide) ?_
          exact kt c_16
      · exact kf c_6
  · exact pr_ireturn hA rfl (pr_nb (by (repeat' split) <;> simp)) (Nat.zero_le _) (Nat.zero_le _) dX8_isKept_24 ⟨rfl, rfl, rfl, rfl⟩

noncomputable def m_prom_it4 (σ : pr_I) (n : Nat) (x : Int32) : Nat → Int32
  | 0 => (0 : Int32)
  | k + 1 => ((m_prom_it4 σ n x k) + (if (σ 1 (1384 + 8 * k + 1)) = x then (if (m_kept_r σ k) = 0 then (0 : Int32) else (σ 1 (1384 + 8 * k + 2))) else (0 : Int32)))
noncomputable def m_prom_r (σ : pr_I) (n : Nat) (x : Int32) : Int32 := (m_prom_it4 σ n x n)
set_option maxRecDepth 100000 in
set_option maxHeartbeats 400000 in
theorem c_m_prom {g : pr_C} {l : Launch} (hl : l.stackTraces = false) {T : pr_T} {I : pr_I} {L : pr_L} {m : Nat} {σ : pr_I} {n : Nat} {x : Int32} (hm : pr_Mo T m) (hn : σ 1 9 = nI n) (hn5 : n ≤ 500) : pr_M g l 3 0 0 mX8_promised [.ref m, .int x] T (rg_put I m 16 σ) L (pr_R (some (.int (m_prom_r σ n x))) T (rg_put I m 16 σ) L) pr_no := by
  refine pr_ofG (by decide) rfl hl (Nat.le_of_ble_eq_true rfl) (fun X hA hX hXn hXt => ?_)
  subst hX
  show pr_G g X mX8_promised.2.2.1 _ 0 0 0 [.ref m, .int x, .null, .null] [] T (rg_put I m 16 σ) L
  refine pr_iconst hA (0) dX8_promised_0 (by decide) ?_
  refine pr_istore_n (ls' := [_, _, _, _]) hA dX8_promised_1 (by decide) rfl ?_
  refine pr_iconst hA (nI 0) dX8_promised_2 (by decide) ?_
  refine pr_istore_n (ls' := [_, _, _, _]) hA dX8_promised_3 (by decide) rfl ?_
  have lp4 : ∀ (j k : Nat), n - k = j → k ≤ n → pr_G g X mX8_promised.2.2.1 (pr_MQ g X (pr_R (some (.int (m_prom_r σ n x))) T (rg_put I m 16 σ) L) pr_no 0 0) 0 0 4 [.ref m, .int x, .int (m_prom_it4 σ n x k), .int (nI k)] [] T (rg_put I m 16 σ) L := by
    intro j
    induction j using Nat.strongRecOn with | ind j ih4 =>
    intro k hj4 hk4
    refine pr_iload_n hA dX8_promised_4 rfl ?_
    refine pr_aload_n hA dX8_promised_5 rfl ?_
    refine pr_getR hA f_X8_9 rfl (mo_k0 hm) (mo_f0_0 hm) dX8_promised_6 ?_
    refine pr_bipush hA (nI 9) dX8_promised_9 (by decide) ?_
    refine pr_ialdM (v := (nI n)) hA (mo_k1 hm) (by omega) (by omega) ((rg_val (by decide)).trans hn) dX8_promised_11 ?_
    refine pr_icmp_ge hA 52 dX8_promised_12 (by decide) (fun c_12 => ?_) (fun c_12 => ?_)
    · have n_12 : n ≤ k := (nI_leI (by omega) (by omega)).mp c_12
      have hex : n = k := by omega
      subst hex
      refine pr_iload_n hA dX8_promised_52 rfl ?_
      exact pr_ireturn hA rfl rfl (Nat.zero_le _) (Nat.zero_le _) dX8_promised_53 ⟨rfl, rfl, rfl, rfl⟩
    · have n_12 : ¬ n ≤ k := fun q => c_12 ((nI_leI (by omega) (by omega)).mpr q)
      refine pr_iload_n hA dX8_promised_15 rfl ?_
      refine pr_aload_n hA dX8_promised_16 rfl ?_
      refine pr_iload_n hA dX8_promised_17 rfl ?_
      refine pr_iconst hA (1) dX8_promised_18 (by decide) ?_
      refine pr_callVi hA [.int (nI k), .int (1 : Int32)] (c_m_tick (m := m) (k := k) (c := 1) (σ := σ) (pr_hl hA) hm (by omega) (by omega)) v_X8_197 (mo_k0 hm) (by decide) rfl rfl rfl (by decide) (Nat.zero_le _) (Nat.zero_le _) rfl (Nat.le_of_ble_eq_true rfl) dX8_promised_19 ?_
      refine pr_iload_n hA dX8_promised_22 rfl ?_
      refine pr_join (c := (σ 1 (1384 + 8 * k + 1)) = x) (J := 44) (st := [.int (m_prom_it4 σ n x k)]) (if (m_kept_r σ k) = 0 then (0 : Int32) else (σ 1 (1384 + 8 * k + 2))) (0 : Int32) inferInstance (fun kt kf => ?_) ?_
      · refine pr_icmp_ne hA 43 dX8_promised_23 (by decide) (fun c_23 => ?_) (fun c_23 => ?_)
        · refine pr_iconst hA (0) dX8_promised_43 (by decide) ?_
          exact kf c_23
        · refine pr_aload_n hA dX8_promised_26 rfl ?_
          refine pr_iload_n hA dX8_promised_27 rfl ?_
          refine pr_callVi hA [.int (nI k)] (c_m_kept (pr_hl hA) hm (by omega)) v_X8_201 (mo_k0 hm) (by decide) rfl rfl rfl (by decide) (Nat.zero_le _) (Nat.zero_le _) rfl (Nat.le_of_ble_eq_true rfl) dX8_promised_28 ?_
          refine pr_join (c := (m_kept_r σ k) = 0) (J := 44) (st := [.int (m_prom_it4 σ n x k)]) (0 : Int32) (σ 1 (1384 + 8 * k + 2)) inferInstance (fun kt kf => ?_) ?_
          · refine pr_if_eq hA 43 dX8_promised_31 (by decide) (fun c_31 => ?_) (fun c_31 => ?_)
            · refine pr_iconst hA (0) dX8_promised_43 (by decide) ?_
              exact kt c_31
            · refine pr_aload_n hA dX8_promised_34 rfl ?_
              refine pr_iload_n hA dX8_promised_35 rfl ?_
              refine pr_iconst hA (2) dX8_promised_36 (by decide) ?_
              refine pr_callVi hA [.int (nI k), .int (2 : Int32)] (c_m_tick (m := m) (k := k) (c := 2) (σ := σ) (pr_hl hA) hm (by omega) (by omega)) v_X8_197 (mo_k0 hm) (by decide) rfl rfl rfl (by decide) (Nat.zero_le _) (Nat.zero_le _) rfl (Nat.le_of_ble_eq_true rfl) dX8_promised_37 ?_
              refine pr_goto hA 44 dX8_promised_40 (by decide) ?_
              exact kf c_31
          · exact kt c_23
      · refine pr_iadd hA dX8_promised_44 ?_
        refine pr_istore_n (ls' := [_, _, _, _]) hA dX8_promised_45 (by decide) rfl ?_
        refine pr_iinc (ls' := [_, _, _, _]) hA (nI (k + 1)) dX8_promised_46 (by decide) rfl (nI_inc _) rfl ?_
        refine pr_goto hA 4 dX8_promised_49 (by decide) ?_
        have hb := ih4 (n - (k + 1)) (by omega) (k + 1) rfl (by omega)
        simp only [m_prom_it4] at hb
        exact hb
  exact (lp4 (n - 0) 0 rfl (by omega))

