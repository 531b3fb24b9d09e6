/-! SNAPSHOTS OF THE CLASS: the first saving, restoring -/
/-- the memory's kinds behind a first saving -/
def snT (T : pr_T) (sn k : Nat) : pr_T := pr_upr (tX6_init (pr_new T 6 0) T.1) sn k (some T.1)
theorem snT_f {T : pr_T} {sn k : Nat} (hs : sn < T.1) : (snT T sn k).1 = T.1 + 121 ∧ (∀ b, b < T.1 → (snT T sn k).2.1 b = T.2.1 b) ∧ (∀ b, b < T.1 → b ≠ sn → (snT T sn k).2.2 b = T.2.2 b) ∧ pr_W (snT T sn k) T.1 ∧ (snT T sn k).2.2 sn k = some T.1 ∧ ∀ j, j ≠ k → (snT T sn k).2.2 sn j = T.2.2 sn j := by
  obtain ⟨h1, h2, h3⟩ := made_W (T := pr_new T 6 0) (w := T.1) rfl (if_pos rfl)
  have n1 : ∀ b, b < T.1 → (pr_new T 6 0).2.1 b = T.2.1 b := fun b hb => if_neg (by omega)
  have n2 : ∀ b, b < T.1 → (pr_new T 6 0).2.2 b = T.2.2 b := fun b hb => funext fun j => if_neg (by omega)
  refine ⟨h2, fun b hb => (h3.2.1 b (Nat.lt_succ_of_lt hb)).trans (n1 b hb), fun b hb hbs => ?_, ⟨fun o ho => h1.1 o ho, fun o ho k' b hk => ?_⟩, if_pos ⟨rfl, rfl⟩, fun j hj => ?_⟩
  · funext j
    exact (if_neg (fun z => hbs z.1)).trans ((congrFun (h3.2.2.1 b (Nat.lt_succ_of_lt hb) (by omega)) j).trans (congrFun (n2 b hb) j))
  · exact (if_neg (fun z => by have := z.1; omega)).trans (h1.2 o ho k' b hk)
  · exact (if_neg (fun z => hj z.2)).trans ((congrFun (h3.2.2.1 sn (Nat.lt_succ_of_lt hs) (by omega)) j).trans (congrFun (n2 sn hs) j))
theorem snT_W {T : pr_T} {sn k w : Nat} (hs : sn < T.1) (hw : pr_W T w) (h1 : w + 121 ≤ T.1) (hd : sn < w ∨ w + 121 ≤ sn) : pr_W (snT T sn k) w := by
  obtain ⟨-, f1, f2, -⟩ := snT_f (k := k) hs
  exact ⟨fun o ho => (f1 _ (by omega)).trans (hw.1 o ho), fun o ho k' b hk => by rw [f2 _ (by omega) (by omega)]; exact hw.2 o ho k' b hk⟩
theorem snT_X7 {T : pr_T} {sn k x w v f y : Nat} (hs : sn < T.1) (hx : pr_X7 T x w v sn f y) (h1 : x < T.1) (hd : x ≠ sn) : pr_X7 (snT T sn k) x w v sn f y := by
  obtain ⟨-, f1, f2, -⟩ := snT_f (k := k) hs
  obtain ⟨x0, x1, x2, x3, x4, x5⟩ := hx
  exact ⟨(f1 _ h1).trans x0, by rw [f2 _ h1 hd]; exact x1, by rw [f2 _ h1 hd]; exact x2, by rw [f2 _ h1 hd]; exact x3, by rw [f2 _ h1 hd]; exact x4, by rw [f2 _ h1 hd]; exact x5⟩
set_option maxRecDepth 100000 in
/-- saved for the first time -/
theorem c_fx_save0 {g : pr_C} {l : Launch} (hl : l.stackTraces = false) {T : pr_T} {I : pr_I} {L : pr_L} {w k : Nat} {σ : pr_I} (hw : pr_W T w) (hwT : w + 121 ≤ T.1) {x v sn f y : Nat} (hx : pr_X7 T x w v sn f y) (hxT : x < T.1) (hxs : x ≠ sn) (hsT : sn < T.1) (hsw : sn < w ∨ w + 121 ≤ sn) (hsn : T.2.1 sn = (25, 2)) (hk : k < 2) (hT : T.2.2 sn k = none) (hI : wI σ) : pr_M g l 4 121 5815 mX7_saveSnapshot [.ref x, .int (nI k)] T (ws_put I w σ) L (pr_R (some (.int (σ 0 7))) (snT T sn k) (ws_put (ws_put I w σ) T.1 (wcp (snw (ws_put I w σ) T.1) σ)) (l_cp (nwL L T.1) w T.1)) pr_no := by
  refine pr_ofG (by decide) rfl hl (Nat.le_of_ble_eq_true rfl) (fun X hA hX hXn hXt => ?_)
  have r1 : (0 : Int32) ≤ nI k := (nI_leI (a := 0) (by decide) (by omega)).mpr (by omega)
  have r2 : nI k ≤ (1 : Int32) := (nI_leI (b := 1) (by omega) (by decide)).mpr (by omega)
  have hc : (nI k).toNatClampNeg = k := nI_clamp (by omega)
  obtain ⟨f0, f1, f2, f3, f4, f5⟩ := snT_f (k := k) hsT
  have hx' := snT_X7 (k := k) hsT hx hxT hxs
  have hw' := snT_W (k := k) hsT hw hwT hsw
  show pr_G g X mX7_saveSnapshot.2.2.1 _ 0 0 0 [.ref x, .int (nI k)] [] T _ L
  refine pr_iload_n hA dX7_saveSnapshot_0 rfl ?_
  refine pr_iconst hA (0) dX7_saveSnapshot_1 (by decide) ?_
  refine pr_iconst hA (1) dX7_saveSnapshot_2 (by decide) ?_
  refine pr_callSv hA [.int (nI k), .int 0, .int 1] (c_rr_ok (pr_hl hA) r1 r2) s_X7_86 rfl (by decide) (Nat.zero_le _) (Nat.zero_le _) rfl (Nat.le_of_ble_eq_true rfl) dX7_saveSnapshot_3 ?_
  refine pr_aload_n hA dX7_saveSnapshot_6 rfl ?_
  refine pr_getR hA f_X7_19 rfl hx.1 hx.2.2.2.1 dX7_saveSnapshot_7 ?_
  refine pr_iload_n hA dX7_saveSnapshot_10 rfl ?_
  refine pr_aald hA (Or.inr rfl) hsn (nI_vin hk (by decide)) dX7_saveSnapshot_11 ?_
  refine pr_ifnonnull hA 28 dX7_saveSnapshot_12 (by decide) (fun a ha => ?_) (fun _ => ?_)
  · rw [hc, hT] at ha; cases ha
  refine pr_aload_n hA dX7_saveSnapshot_15 rfl ?_
  refine pr_getR hA f_X7_19 rfl hx.1 hx.2.2.2.1 dX7_saveSnapshot_16 ?_
  refine pr_iload_n hA dX7_saveSnapshot_19 rfl ?_
  refine pr_newO hA n_X7_7 (by decide) (by decide) dX7_saveSnapshot_20 ?_
  refine pr_dup hA dX7_saveSnapshot_23 rfl ?_
  refine pr_callI hA rfl (c_X6_init (pr_hl hA) (T := pr_new T 6 0) (w := T.1) (if_pos rfl) (Nat.lt_succ_self _) pr_row_eq) b_X7_9 kI_X6_init rfl rfl rfl (by decide) (by decide) (by decide) rfl (Nat.le_of_ble_eq_true rfl) dX7_saveSnapshot_24 (fun v' T' I' L' hh => ?_)
  obtain ⟨rfl, rfl, rfl, rfl⟩ := hh
  refine pr_aast hA (a := sn) (n := 2) (b := T.1) (f1 sn hsT |>.trans hsn) (by have := f3.1 0 (by decide); rw [Nat.add_zero] at this; exact this) hk (by decide) dX7_saveSnapshot_27 ?_
  have eI : pr_row (zI (pr_row (ws_put I w σ) T.1 (fun _ => 0)) (pr_new T 6 0).1 119) ((pr_new T 6 0).1 + 118) (va_cpy (pr_sv 0) (fun _ => 0) 0 0 5) = ws_put (ws_put I w σ) T.1 (snw (ws_put I w σ) T.1) := snw_put (I := ws_put I w σ) (t := T.1)
  rw [eI]
  show pr_G g X mX7_saveSnapshot.2.2.1 _ _ _ _ [.ref x, .int (nI k)] [] (snT T sn k) (ws_put (ws_put I w σ) T.1 (snw (ws_put I w σ) T.1)) (nwL L T.1)
  refine pr_aload_n hA dX7_saveSnapshot_28 rfl ?_
  refine pr_getR hA f_X7_19 rfl hx'.1 hx'.2.2.2.1 dX7_saveSnapshot_29 ?_
  refine pr_iload_n hA dX7_saveSnapshot_32 rfl ?_
  refine pr_aaldN hA (Or.inr rfl) ((f1 sn hsT).trans hsn) hk (by decide) f4 dX7_saveSnapshot_33 ?_
  refine pr_aload_n hA dX7_saveSnapshot_34 rfl ?_
  refine pr_getR hA f_X7_10 rfl hx'.1 hx'.2.1 dX7_saveSnapshot_35 ?_
  refine pr_callVv hA [.ref w] (c_w_cpE (w := T.1) (v := w) (σ := snw (ws_put I w σ) T.1) (τ := σ) (pr_hl hA) f3 hw' (by omega) hI) v_X7_52 (wk_0 f3) (by decide) rfl rfl rfl (by decide) (by decide) (by decide) rfl (Nat.le_of_ble_eq_true rfl) dX7_saveSnapshot_38 ?_
  refine pr_aload_n hA dX7_saveSnapshot_41 rfl ?_
  refine pr_getR hA f_X7_10 rfl hx'.1 hx'.2.1 dX7_saveSnapshot_42 ?_
  refine pr_getE (v := σ 0 7) hA f_X7_121 rfl (wk_0 hw') ((congrFun (ws_out (by omega)) 7).trans ws_val0) dX7_saveSnapshot_45 ?_
  exact pr_ireturn hA rfl rfl (by decide) (by decide) dX7_saveSnapshot_48 ⟨rfl, rfl, rfl, rfl⟩
set_option maxRecDepth 100000 in
theorem c_fx_restore0 {g : pr_C} {l : Launch} (hl : l.stackTraces = false) {T : pr_T} {I : pr_I} {L : pr_L} {k : Nat} {x w v sn f y : Nat} (hx : pr_X7 T x w v sn f y) (hsn : T.2.1 sn = (25, 2)) (hk : k < 2) (hT : T.2.2 sn k = none) : pr_M g l 4 0 0 mX7_restoreSnapshot [.ref x, .int (nI k)] T I L (pr_R (some (.int (-1))) T I L) pr_no := by
  refine pr_ofG (by decide) rfl hl (Nat.le_of_ble_eq_true rfl) (fun X hA hX hXn hXt => ?_)
  have r1 : (0 : Int32) ≤ nI k := (nI_leI (a := 0) (by decide) (by omega)).mpr (by omega)
  have r2 : nI k ≤ (1 : Int32) := (nI_leI (b := 1) (by omega) (by decide)).mpr (by omega)
  have hc : (nI k).toNatClampNeg = k := nI_clamp (by omega)
  show pr_G g X mX7_restoreSnapshot.2.2.1 _ 0 0 0 [.ref x, .int (nI k)] [] T _ L
  refine pr_iload_n hA dX7_restoreSnapshot_0 rfl ?_
  refine pr_iconst hA (0) dX7_restoreSnapshot_1 (by decide) ?_
  refine pr_iconst hA (1) dX7_restoreSnapshot_2 (by decide) ?_
  refine pr_callSv hA [.int (nI k), .int 0, .int 1] (c_rr_ok (pr_hl hA) r1 r2) s_X7_86 rfl (by decide) (Nat.zero_le _) (Nat.zero_le _) rfl (Nat.le_of_ble_eq_true rfl) dX7_restoreSnapshot_3 ?_
  refine pr_aload_n hA dX7_restoreSnapshot_6 rfl ?_
  refine pr_getR hA f_X7_19 rfl hx.1 hx.2.2.2.1 dX7_restoreSnapshot_7 ?_
  refine pr_iload_n hA dX7_restoreSnapshot_10 rfl ?_
  refine pr_aald hA (Or.inr rfl) hsn (nI_vin hk (by decide)) dX7_restoreSnapshot_11 ?_
  refine pr_ifnonnull hA 17 dX7_restoreSnapshot_12 (by decide) (fun a ha => ?_) (fun _ => ?_)
  · rw [hc, hT] at ha; cases ha
  refine pr_iconst hA (-1) dX7_restoreSnapshot_15 (by decide) ?_
  exact pr_ireturn hA rfl rfl (Nat.zero_le _) (Nat.zero_le _) dX7_restoreSnapshot_16 ⟨rfl, rfl, rfl, rfl⟩
set_option maxRecDepth 100000 in
theorem c_fx_restore {g : pr_C} {l : Launch} (hl : l.stackTraces = false) {T : pr_T} {I : pr_I} {L : pr_L} {w u k : Nat} {σ τ : pr_I} (hw : pr_W T w) (hu : pr_W T u) (hdis : u + 121 ≤ w ∨ w + 121 ≤ u) {x v sn f y : Nat} (hx : pr_X7 T x w v sn f y) (hsn : T.2.1 sn = (25, 2)) (hk : k < 2) (hT : T.2.2 sn k = some u) (hI : wI τ) : pr_M g l 4 0 0 mX7_restoreSnapshot [.ref x, .int (nI k)] T (ws_put (ws_put I u τ) w σ) L (pr_R (some (.int ((wcp σ τ) 0 7))) T (ws_put (ws_put I u τ) w (wcp σ τ)) (l_cp L u w)) pr_no := by
  refine pr_ofG (by decide) rfl hl (Nat.le_of_ble_eq_true rfl) (fun X hA hX hXn hXt => ?_)
  have r1 : (0 : Int32) ≤ nI k := (nI_leI (a := 0) (by decide) (by omega)).mpr (by omega)
  have r2 : nI k ≤ (1 : Int32) := (nI_leI (b := 1) (by omega) (by decide)).mpr (by omega)
  have hc : (nI k).toNatClampNeg = k := nI_clamp (by omega)
  show pr_G g X mX7_restoreSnapshot.2.2.1 _ 0 0 0 [.ref x, .int (nI k)] [] T _ L
  refine pr_iload_n hA dX7_restoreSnapshot_0 rfl ?_
  refine pr_iconst hA (0) dX7_restoreSnapshot_1 (by decide) ?_
  refine pr_iconst hA (1) dX7_restoreSnapshot_2 (by decide) ?_
  refine pr_callSv hA [.int (nI k), .int 0, .int 1] (c_rr_ok (pr_hl hA) r1 r2) s_X7_86 rfl (by decide) (Nat.zero_le _) (Nat.zero_le _) rfl (Nat.le_of_ble_eq_true rfl) dX7_restoreSnapshot_3 ?_
  refine pr_aload_n hA dX7_restoreSnapshot_6 rfl ?_
  refine pr_getR hA f_X7_19 rfl hx.1 hx.2.2.2.1 dX7_restoreSnapshot_7 ?_
  refine pr_iload_n hA dX7_restoreSnapshot_10 rfl ?_
  refine pr_aald hA (Or.inr rfl) hsn (nI_vin hk (by decide)) dX7_restoreSnapshot_11 ?_
  refine pr_ifnonnull hA 17 dX7_restoreSnapshot_12 (by decide) (fun a ha => ?_) (fun hnone => ?_)
  rotate_left
  · rw [hc, hT] at hnone; cases hnone
  refine pr_aload_n hA dX7_restoreSnapshot_17 rfl ?_
  refine pr_getR hA f_X7_10 rfl hx.1 hx.2.1 dX7_restoreSnapshot_18 ?_
  refine pr_aload_n hA dX7_restoreSnapshot_21 rfl ?_
  refine pr_getR hA f_X7_19 rfl hx.1 hx.2.2.2.1 dX7_restoreSnapshot_22 ?_
  refine pr_iload_n hA dX7_restoreSnapshot_25 rfl ?_
  refine pr_aaldN hA (Or.inr rfl) hsn hk (by decide) hT dX7_restoreSnapshot_26 ?_
  refine pr_callVv hA [.ref u] (c_w_cpE (w := w) (v := u) (σ := σ) (τ := τ) (pr_hl hA) hw hu (by omega) hI) v_X7_52 (wk_0 hw) (by decide) rfl rfl rfl (by decide) (Nat.zero_le _) (Nat.zero_le _) rfl (Nat.le_of_ble_eq_true rfl) dX7_restoreSnapshot_27 ?_
  refine pr_aload_n hA dX7_restoreSnapshot_30 rfl ?_
  refine pr_getR hA f_X7_10 rfl hx.1 hx.2.1 dX7_restoreSnapshot_31 ?_
  refine pr_getE (v := (wcp σ τ) 0 7) hA f_X7_121 rfl (wk_0 hw) ws_val0 dX7_restoreSnapshot_34 ?_
  exact pr_ireturn hA rfl rfl (Nat.zero_le _) (Nat.zero_le _) dX7_restoreSnapshot_37 ⟨rfl, rfl, rfl, rfl⟩
