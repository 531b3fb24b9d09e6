/-! THE LAW'S isRequest() -/
/-- the sum of a column over the tickets of a request -/
def sL (σ : pr_I) (r c : Nat) : Nat → Int64
  | 0 => 0
  | t + 1 => if σ 10 t = nI r then sL σ r c t + (σ c t).toInt64 else sL σ r c t
theorem sL_p {σ : pr_I} {r c t : Nat} (h : σ 10 t = nI r) : sL σ r c (t + 1) = sL σ r c t + (σ c t).toInt64 := if_pos h
theorem sL_n {σ : pr_I} {r c t : Nat} (h : ¬ σ 10 t = nI r) : sL σ r c (t + 1) = sL σ r c t := if_neg h
/-- the node before a place of a path -/
def rnd (σ : pr_I) (r : Nat) : Nat → Int32
  | 0 => σ 19 r
  | p + 1 => σ 3 ((σ (35 + r) p).toNatClampNeg)
def pln (σ : pr_I) (r : Nat) : Nat := (σ 32 r).toNatClampNeg
/-- what isRequest() looks at -/
def IsR (σ : pr_I) (r : Nat) : Prop :=
  (∀ t, t < tkn σ → σ 10 t = nI r → ¬ σ 16 t < σ 17 t ∧ σ 12 t = σ 21 r ∧ (¬ 2 ≤ σ 15 t → σ 23 r = 0 ∨ σ 23 r = 1 ∨ σ 23 r = 2)) ∧
  sL σ r 16 (tkn σ) = (σ 26 r).toInt64 ∧ sL σ r 17 (tkn σ) = (σ 27 r).toInt64 ∧
  (∀ p, p < pln σ r → vp_in (σ (35 + r) p) (lkn σ) ∧ σ 2 ((σ (35 + r) p).toNatClampNeg) = rnd σ r p ∧ (¬ 3 ≤ σ 23 r → ¬ ((σ 28 r >>> (σ (35 + r) p &&& 31)) &&& 1) = 1)) ∧
  (¬ pln σ r = 0 → rnd σ r (pln σ r) = σ 20 r) ∧
  (σ 23 r = 0 ∨ σ 23 r = 1 ∨ σ 23 r = 7 → ¬ σ 25 r ≤ σ 0 7) ∧ (¬ (σ 23 r = 0 ∨ σ 23 r = 1 ∨ σ 23 r = 7) → σ 25 r ≤ σ 0 7)
theorem plk {σ : pr_I} {r p : Nat} (hI : wI σ) (hp : p < pln σ r) : fx_pathLink_r σ r (nI p) = σ (35 + r) p := by
  have h12 := vp_in_lt (hI 32 r 12 rfl)
  have e : σ 32 r = nI (pln σ r) := vp_nI (hI 32 r 12 rfl) (by decide)
  have hp2 : pln σ r < 12 := h12
  unfold fx_pathLink_r
  rw [if_neg (show ¬ nI p < 0 from fun z => by have := (nI_ltI (b := 0) (by omega) (by decide)).mp z; omega), e, if_neg (show ¬ nI (pln σ r) ≤ nI p from fun z => by have := (nI_leI (by omega) (by omega)).mp z; omega), if_neg (by decide), nI_clamp (by omega)]
theorem lc_self (a : Int64) : lg_cmp a a = nI 0 := (lg_cmp_eq a a).mpr rfl
theorem r_toInt {σ : pr_I} {r : Nat} (h : vp_in (σ 23 r) 8) : 0 ≤ (σ 23 r).toInt ∧ (σ 23 r).toInt < 8 := by
  have e := vp_nI h (by decide)
  have l := vp_in_lt h
  rw [e, nI_toInt (by omega)]
  omega
set_option maxRecDepth 100000 in
set_option maxHeartbeats 400000 in
theorem c_isRequest {g : pr_C} {l : Launch} (hl : l.stackTraces = false) {T : pr_T} {I : pr_I} {L : pr_L} {x r : Nat} {σ : pr_I} (hS : lSt x T) (hm : hW I (x + 1) σ) (hI : wI σ) (hr : r < rqn σ) (hst : vp_in (σ 23 r) 8) (F : IsR σ r) : pr_M g l 9 0 0 mL_isRequest [.ref x, .int (nI r)] T I L (pr_R (some (.int 1)) T I L) pr_no := by
  refine pr_ofG (by decide) rfl hl (Nat.le_of_ble_eq_true rfl) (fun X hA hX hXn hXt => ?_)
  subst hX
  show pr_G g X mL_isRequest.2.2.1 _ 0 0 0 [.ref x, .int (nI r), .null, .null, .null, .null, .null, .null, .null, .null] [] T I L
  obtain ⟨F1, F2, F3, F4, F5, F6, F7⟩ := F
  have h5 := wI_n5 hI
  have h4 := wI_nr4 hI
  have h24 := wI_nl24 hI
  have el : σ 32 r = nI (pln σ r) := vp_nI (hI 32 r 12 rfl) (by decide)
  have hl12 : pln σ r < 12 := vp_in_lt (hI 32 r 12 rfl)
  have hnn := r_toInt hst
  have fin : pr_G g X mL_isRequest.2.2.1 (pr_MQ g X (pr_R (some (.int 1)) T I L) pr_no 0 0) 0 0 248 [.ref x, .int (nI r), .long (sL σ r 16 (tkn σ)), .null, .long (sL σ r 17 (tkn σ)), .null, .int (σ 23 r), .int (rnd σ r (pln σ r)), .int (nI (pln σ r)), .null] [] T I L := by
    by_cases c0 : σ 23 r = 0
    · have E : pr_G g X mL_isRequest.2.2.1 (pr_MQ g X (pr_R (some (.int 1)) T I L) pr_no 0 0) 0 0 292 [.ref x, .int (nI r), .long (sL σ r 16 (tkn σ)), .null, .long (sL σ r 17 (tkn σ)), .null, .int (σ 23 r), .int (rnd σ r (pln σ r)), .int (nI 1), .null] [] T I L := by
        refine pr_iload hA dL_isRequest_292 rfl ?_
        refine pr_aload_n hA dL_isRequest_294 rfl ?_
        refine pr_iload_n hA dL_isRequest_295 rfl ?_
        refine pr_bipush hA (nI 6) dL_isRequest_296 (by decide) ?_
        refine pr_callVi hA [.int (nI r), .int (nI 6)] (o_requestValue (pr_hl hA) hS hm hI hr (c := 6) (by decide)) v_L_95 hS.k (by decide) rfl rfl rfl (by decide) (by omega) (by omega) rfl (Nat.le_of_ble_eq_true rfl) dL_isRequest_298 ?_
        refine pr_topE (z := σ 25 r) rfl ?_
        refine pr_aload_n hA dL_isRequest_301 rfl ?_
        refine pr_callVi hA [] (o_time (pr_hl hA) hS hm hI) v_L_113 hS.k (by decide) rfl rfl rfl (by decide) (by omega) (by omega) rfl (Nat.le_of_ble_eq_true rfl) dL_isRequest_302 ?_
        refine pr_icmp_le hA 312 dL_isRequest_305 (by decide) (fun c_305 => absurd c_305 (F6 (Or.inl c0))) (fun _ => ?_)
        refine pr_iconst hA (nI 1) dL_isRequest_308 (by decide) ?_
        refine pr_goto hA 313 dL_isRequest_309 (by decide) ?_
        refine pr_icmp_ne hA 348 dL_isRequest_313 (by decide) (fun c_313 => absurd rfl c_313) (fun _ => ?_)
        refine pr_iload hA dL_isRequest_316 rfl ?_
        refine pr_iconst hA (nI 1) dL_isRequest_318 (by decide) ?_
        refine pr_icmp_le hA 326 dL_isRequest_319 (by decide) (fun _ => ?_) (fun c_319 => absurd (by rw [c0]; decide) c_319)
        refine pr_iconst hA (nI 0) dL_isRequest_326 (by decide) ?_
        refine pr_aload_n hA dL_isRequest_327 rfl ?_
        refine pr_iload_n hA dL_isRequest_328 rfl ?_
        refine pr_callVi hA [.int (nI r)] (o_placeOf (pr_hl hA) hS hm hI hr) v_L_116 hS.k (by decide) rfl rfl rfl (by decide) (by omega) (by omega) rfl (Nat.le_of_ble_eq_true rfl) dL_isRequest_329 ?_
        refine pr_iconst hA ((-1 : Int32)) dL_isRequest_332 (by decide) ?_
        refine pr_icmp_ne hA 340 dL_isRequest_333 (by decide) (fun _ => ?_) (fun c_333 => absurd c_333 (fun z => vin_m1 (hI 33 r 12 rfl) (by decide) (Eq.trans (by unfold fx_placeOf_r; rw [if_pos c0]) z)))
        refine pr_iconst hA (nI 0) dL_isRequest_340 (by decide) ?_
        refine pr_icmp_ne hA 348 dL_isRequest_341 (by decide) (fun c_341 => absurd rfl c_341) (fun _ => ?_)
        refine pr_iconst hA ((1 : Int32)) dL_isRequest_344 (by decide) ?_
        refine pr_goto hA 349 dL_isRequest_345 (by decide) ?_
        exact pr_ireturn hA rfl rfl (Nat.zero_le _) (Nat.zero_le _) dL_isRequest_349 ⟨rfl, rfl, rfl, rfl⟩
      refine pr_iload hA dL_isRequest_248 rfl ?_
      refine pr_if_eq hA 266 dL_isRequest_250 (by decide) (fun _ => ?_) (fun c_250 => absurd c0 c_250)
      refine pr_iconst hA (nI 1) dL_isRequest_266 (by decide) ?_
      refine pr_goto hA 271 dL_isRequest_267 (by decide) ?_
      refine pr_istore (ls' := [_, _, _, _, _, _, _, _, _, _]) hA dL_isRequest_271 (by decide) rfl ?_
      refine pr_aload_n hA dL_isRequest_273 rfl ?_
      refine pr_iload_n hA dL_isRequest_274 rfl ?_
      refine pr_callVi hA [.int (nI r)] (o_pathLength (pr_hl hA) hS hm hI hr) v_L_104 hS.k (by decide) rfl rfl rfl (by decide) (by omega) (by omega) rfl (Nat.le_of_ble_eq_true rfl) dL_isRequest_275 ?_
      refine pr_topE (z := nI (pln σ r)) el ?_
      refine pr_if_eq hA 292 dL_isRequest_278 (by decide) (fun _ => E) (fun c278 => ?_)
      refine pr_iload hA dL_isRequest_281 rfl ?_
      refine pr_aload_n hA dL_isRequest_283 rfl ?_
      refine pr_iload_n hA dL_isRequest_284 rfl ?_
      refine pr_iconst hA (nI 1) dL_isRequest_285 (by decide) ?_
      refine pr_callVi hA [.int (nI r), .int (nI 1)] (o_requestValue (pr_hl hA) hS hm hI hr (c := 1) (by decide)) v_L_95 hS.k (by decide) rfl rfl rfl (by decide) (by omega) (by omega) rfl (Nat.le_of_ble_eq_true rfl) dL_isRequest_286 ?_
      refine pr_topE (z := σ 20 r) rfl ?_
      refine pr_icmp_ne hA 348 dL_isRequest_289 (by decide) (fun c_289 => absurd (F5 (fun z => c278 (by rw [z]; rfl))) c_289) (fun _ => ?_)
      exact E
    by_cases c1 : σ 23 r = nI 1
    · have E : pr_G g X mL_isRequest.2.2.1 (pr_MQ g X (pr_R (some (.int 1)) T I L) pr_no 0 0) 0 0 292 [.ref x, .int (nI r), .long (sL σ r 16 (tkn σ)), .null, .long (sL σ r 17 (tkn σ)), .null, .int (σ 23 r), .int (rnd σ r (pln σ r)), .int (nI 1), .null] [] T I L := by
        refine pr_iload hA dL_isRequest_292 rfl ?_
        refine pr_aload_n hA dL_isRequest_294 rfl ?_
        refine pr_iload_n hA dL_isRequest_295 rfl ?_
        refine pr_bipush hA (nI 6) dL_isRequest_296 (by decide) ?_
        refine pr_callVi hA [.int (nI r), .int (nI 6)] (o_requestValue (pr_hl hA) hS hm hI hr (c := 6) (by decide)) v_L_95 hS.k (by decide) rfl rfl rfl (by decide) (by omega) (by omega) rfl (Nat.le_of_ble_eq_true rfl) dL_isRequest_298 ?_
        refine pr_topE (z := σ 25 r) rfl ?_
        refine pr_aload_n hA dL_isRequest_301 rfl ?_
        refine pr_callVi hA [] (o_time (pr_hl hA) hS hm hI) v_L_113 hS.k (by decide) rfl rfl rfl (by decide) (by omega) (by omega) rfl (Nat.le_of_ble_eq_true rfl) dL_isRequest_302 ?_
        refine pr_icmp_le hA 312 dL_isRequest_305 (by decide) (fun c_305 => absurd c_305 (F6 (Or.inr (Or.inl c1)))) (fun _ => ?_)
        refine pr_iconst hA (nI 1) dL_isRequest_308 (by decide) ?_
        refine pr_goto hA 313 dL_isRequest_309 (by decide) ?_
        refine pr_icmp_ne hA 348 dL_isRequest_313 (by decide) (fun c_313 => absurd rfl c_313) (fun _ => ?_)
        refine pr_iload hA dL_isRequest_316 rfl ?_
        refine pr_iconst hA (nI 1) dL_isRequest_318 (by decide) ?_
        refine pr_icmp_le hA 326 dL_isRequest_319 (by decide) (fun _ => ?_) (fun c_319 => absurd (by rw [c1]; decide) c_319)
        refine pr_iconst hA (nI 0) dL_isRequest_326 (by decide) ?_
        refine pr_aload_n hA dL_isRequest_327 rfl ?_
        refine pr_iload_n hA dL_isRequest_328 rfl ?_
        refine pr_callVi hA [.int (nI r)] (o_placeOf (pr_hl hA) hS hm hI hr) v_L_116 hS.k (by decide) rfl rfl rfl (by decide) (by omega) (by omega) rfl (Nat.le_of_ble_eq_true rfl) dL_isRequest_329 ?_
        refine pr_iconst hA ((-1 : Int32)) dL_isRequest_332 (by decide) ?_
        refine pr_icmp_ne hA 340 dL_isRequest_333 (by decide) (fun _ => ?_) (fun c_333 => absurd c_333 (fun z => vin_m1 (hI 33 r 12 rfl) (by decide) (Eq.trans (by unfold fx_placeOf_r; rw [if_neg c0, if_pos (show σ 23 r = 1 from c1)]) z)))
        refine pr_iconst hA (nI 0) dL_isRequest_340 (by decide) ?_
        refine pr_icmp_ne hA 348 dL_isRequest_341 (by decide) (fun c_341 => absurd rfl c_341) (fun _ => ?_)
        refine pr_iconst hA ((1 : Int32)) dL_isRequest_344 (by decide) ?_
        refine pr_goto hA 349 dL_isRequest_345 (by decide) ?_
        exact pr_ireturn hA rfl rfl (Nat.zero_le _) (Nat.zero_le _) dL_isRequest_349 ⟨rfl, rfl, rfl, rfl⟩
      refine pr_iload hA dL_isRequest_248 rfl ?_
      refine pr_if_eq hA 266 dL_isRequest_250 (by decide) (fun c_250 => absurd c_250 c0) (fun _ => ?_)
      refine pr_iload hA dL_isRequest_253 rfl ?_
      refine pr_iconst hA (nI 1) dL_isRequest_255 (by decide) ?_
      refine pr_icmp_eq hA 266 dL_isRequest_256 (by decide) (fun _ => ?_) (fun c_256 => absurd c1 c_256)
      refine pr_iconst hA (nI 1) dL_isRequest_266 (by decide) ?_
      refine pr_goto hA 271 dL_isRequest_267 (by decide) ?_
      refine pr_istore (ls' := [_, _, _, _, _, _, _, _, _, _]) hA dL_isRequest_271 (by decide) rfl ?_
      refine pr_aload_n hA dL_isRequest_273 rfl ?_
      refine pr_iload_n hA dL_isRequest_274 rfl ?_
      refine pr_callVi hA [.int (nI r)] (o_pathLength (pr_hl hA) hS hm hI hr) v_L_104 hS.k (by decide) rfl rfl rfl (by decide) (by omega) (by omega) rfl (Nat.le_of_ble_eq_true rfl) dL_isRequest_275 ?_
      refine pr_topE (z := nI (pln σ r)) el ?_
      refine pr_if_eq hA 292 dL_isRequest_278 (by decide) (fun _ => E) (fun c278 => ?_)
      refine pr_iload hA dL_isRequest_281 rfl ?_
      refine pr_aload_n hA dL_isRequest_283 rfl ?_
      refine pr_iload_n hA dL_isRequest_284 rfl ?_
      refine pr_iconst hA (nI 1) dL_isRequest_285 (by decide) ?_
      refine pr_callVi hA [.int (nI r), .int (nI 1)] (o_requestValue (pr_hl hA) hS hm hI hr (c := 1) (by decide)) v_L_95 hS.k (by decide) rfl rfl rfl (by decide) (by omega) (by omega) rfl (Nat.le_of_ble_eq_true rfl) dL_isRequest_286 ?_
      refine pr_topE (z := σ 20 r) rfl ?_
      refine pr_icmp_ne hA 348 dL_isRequest_289 (by decide) (fun c_289 => absurd (F5 (fun z => c278 (by rw [z]; rfl))) c_289) (fun _ => ?_)
      exact E
    by_cases c7 : σ 23 r = nI 7
    · have E : pr_G g X mL_isRequest.2.2.1 (pr_MQ g X (pr_R (some (.int 1)) T I L) pr_no 0 0) 0 0 292 [.ref x, .int (nI r), .long (sL σ r 16 (tkn σ)), .null, .long (sL σ r 17 (tkn σ)), .null, .int (σ 23 r), .int (rnd σ r (pln σ r)), .int (nI 1), .null] [] T I L := by
        refine pr_iload hA dL_isRequest_292 rfl ?_
        refine pr_aload_n hA dL_isRequest_294 rfl ?_
        refine pr_iload_n hA dL_isRequest_295 rfl ?_
        refine pr_bipush hA (nI 6) dL_isRequest_296 (by decide) ?_
        refine pr_callVi hA [.int (nI r), .int (nI 6)] (o_requestValue (pr_hl hA) hS hm hI hr (c := 6) (by decide)) v_L_95 hS.k (by decide) rfl rfl rfl (by decide) (by omega) (by omega) rfl (Nat.le_of_ble_eq_true rfl) dL_isRequest_298 ?_
        refine pr_topE (z := σ 25 r) rfl ?_
        refine pr_aload_n hA dL_isRequest_301 rfl ?_
        refine pr_callVi hA [] (o_time (pr_hl hA) hS hm hI) v_L_113 hS.k (by decide) rfl rfl rfl (by decide) (by omega) (by omega) rfl (Nat.le_of_ble_eq_true rfl) dL_isRequest_302 ?_
        refine pr_icmp_le hA 312 dL_isRequest_305 (by decide) (fun c_305 => absurd c_305 (F6 (Or.inr (Or.inr c7)))) (fun _ => ?_)
        refine pr_iconst hA (nI 1) dL_isRequest_308 (by decide) ?_
        refine pr_goto hA 313 dL_isRequest_309 (by decide) ?_
        refine pr_icmp_ne hA 348 dL_isRequest_313 (by decide) (fun c_313 => absurd rfl c_313) (fun _ => ?_)
        refine pr_iload hA dL_isRequest_316 rfl ?_
        refine pr_iconst hA (nI 1) dL_isRequest_318 (by decide) ?_
        refine pr_icmp_le hA 326 dL_isRequest_319 (by decide) (fun c_319 => absurd c_319 (fun z => by rw [le_i, nI_toInt (by decide)] at z; have z0 : (σ 23 r).toInt ≠ 0 := fun e => c0 (Int32.toInt_inj.mp e); have z1 : (σ 23 r).toInt ≠ 1 := fun e => c1 (Int32.toInt_inj.mp e); omega)) (fun _ => ?_)
        refine pr_iconst hA (nI 1) dL_isRequest_322 (by decide) ?_
        refine pr_goto hA 327 dL_isRequest_323 (by decide) ?_
        refine pr_aload_n hA dL_isRequest_327 rfl ?_
        refine pr_iload_n hA dL_isRequest_328 rfl ?_
        refine pr_callVi hA [.int (nI r)] (o_placeOf (pr_hl hA) hS hm hI hr) v_L_116 hS.k (by decide) rfl rfl rfl (by decide) (by omega) (by omega) rfl (Nat.le_of_ble_eq_true rfl) dL_isRequest_329 ?_
        refine pr_iconst hA ((-1 : Int32)) dL_isRequest_332 (by decide) ?_
        refine pr_icmp_ne hA 340 dL_isRequest_333 (by decide) (fun c_333 => absurd (by unfold fx_placeOf_r; rw [if_neg c0, if_neg (show ¬ σ 23 r = 1 from c1)]) c_333) (fun _ => ?_)
        refine pr_iconst hA (nI 1) dL_isRequest_336 (by decide) ?_
        refine pr_goto hA 341 dL_isRequest_337 (by decide) ?_
        refine pr_icmp_ne hA 348 dL_isRequest_341 (by decide) (fun c_341 => absurd rfl c_341) (fun _ => ?_)
        refine pr_iconst hA ((1 : Int32)) dL_isRequest_344 (by decide) ?_
        refine pr_goto hA 349 dL_isRequest_345 (by decide) ?_
        exact pr_ireturn hA rfl rfl (Nat.zero_le _) (Nat.zero_le _) dL_isRequest_349 ⟨rfl, rfl, rfl, rfl⟩
      refine pr_iload hA dL_isRequest_248 rfl ?_
      refine pr_if_eq hA 266 dL_isRequest_250 (by decide) (fun c_250 => absurd c_250 c0) (fun _ => ?_)
      refine pr_iload hA dL_isRequest_253 rfl ?_
      refine pr_iconst hA (nI 1) dL_isRequest_255 (by decide) ?_
      refine pr_icmp_eq hA 266 dL_isRequest_256 (by decide) (fun c_256 => absurd c_256 c1) (fun _ => ?_)
      refine pr_iload hA dL_isRequest_259 rfl ?_
      refine pr_bipush hA (nI 7) dL_isRequest_261 (by decide) ?_
      refine pr_icmp_ne hA 270 dL_isRequest_263 (by decide) (fun c_263 => absurd c7 c_263) (fun _ => ?_)
      refine pr_iconst hA (nI 1) dL_isRequest_266 (by decide) ?_
      refine pr_goto hA 271 dL_isRequest_267 (by decide) ?_
      refine pr_istore (ls' := [_, _, _, _, _, _, _, _, _, _]) hA dL_isRequest_271 (by decide) rfl ?_
      refine pr_aload_n hA dL_isRequest_273 rfl ?_
      refine pr_iload_n hA dL_isRequest_274 rfl ?_
      refine pr_callVi hA [.int (nI r)] (o_pathLength (pr_hl hA) hS hm hI hr) v_L_104 hS.k (by decide) rfl rfl rfl (by decide) (by omega) (by omega) rfl (Nat.le_of_ble_eq_true rfl) dL_isRequest_275 ?_
      refine pr_topE (z := nI (pln σ r)) el ?_
      refine pr_if_eq hA 292 dL_isRequest_278 (by decide) (fun _ => E) (fun c278 => ?_)
      refine pr_iload hA dL_isRequest_281 rfl ?_
      refine pr_aload_n hA dL_isRequest_283 rfl ?_
      refine pr_iload_n hA dL_isRequest_284 rfl ?_
      refine pr_iconst hA (nI 1) dL_isRequest_285 (by decide) ?_
      refine pr_callVi hA [.int (nI r), .int (nI 1)] (o_requestValue (pr_hl hA) hS hm hI hr (c := 1) (by decide)) v_L_95 hS.k (by decide) rfl rfl rfl (by decide) (by omega) (by omega) rfl (Nat.le_of_ble_eq_true rfl) dL_isRequest_286 ?_
      refine pr_topE (z := σ 20 r) rfl ?_
      refine pr_icmp_ne hA 348 dL_isRequest_289 (by decide) (fun c_289 => absurd (F5 (fun z => c278 (by rw [z]; rfl))) c_289) (fun _ => ?_)
      exact E
    have E : pr_G g X mL_isRequest.2.2.1 (pr_MQ g X (pr_R (some (.int 1)) T I L) pr_no 0 0) 0 0 292 [.ref x, .int (nI r), .long (sL σ r 16 (tkn σ)), .null, .long (sL σ r 17 (tkn σ)), .null, .int (σ 23 r), .int (rnd σ r (pln σ r)), .int (nI 0), .null] [] T I L := by
      refine pr_iload hA dL_isRequest_292 rfl ?_
      refine pr_aload_n hA dL_isRequest_294 rfl ?_
      refine pr_iload_n hA dL_isRequest_295 rfl ?_
      refine pr_bipush hA (nI 6) dL_isRequest_296 (by decide) ?_
      refine pr_callVi hA [.int (nI r), .int (nI 6)] (o_requestValue (pr_hl hA) hS hm hI hr (c := 6) (by decide)) v_L_95 hS.k (by decide) rfl rfl rfl (by decide) (by omega) (by omega) rfl (Nat.le_of_ble_eq_true rfl) dL_isRequest_298 ?_
      refine pr_topE (z := σ 25 r) rfl ?_
      refine pr_aload_n hA dL_isRequest_301 rfl ?_
      refine pr_callVi hA [] (o_time (pr_hl hA) hS hm hI) v_L_113 hS.k (by decide) rfl rfl rfl (by decide) (by omega) (by omega) rfl (Nat.le_of_ble_eq_true rfl) dL_isRequest_302 ?_
      refine pr_icmp_le hA 312 dL_isRequest_305 (by decide) (fun _ => ?_) (fun c_305 => absurd (F7 (fun z => z.elim c0 (fun z => z.elim c1 c7))) c_305)
      refine pr_iconst hA (nI 0) dL_isRequest_312 (by decide) ?_
      refine pr_icmp_ne hA 348 dL_isRequest_313 (by decide) (fun c_313 => absurd rfl c_313) (fun _ => ?_)
      refine pr_iload hA dL_isRequest_316 rfl ?_
      refine pr_iconst hA (nI 1) dL_isRequest_318 (by decide) ?_
      refine pr_icmp_le hA 326 dL_isRequest_319 (by decide) (fun c_319 => absurd c_319 (fun z => by rw [le_i, nI_toInt (by decide)] at z; have z0 : (σ 23 r).toInt ≠ 0 := fun e => c0 (Int32.toInt_inj.mp e); have z1 : (σ 23 r).toInt ≠ 1 := fun e => c1 (Int32.toInt_inj.mp e); omega)) (fun _ => ?_)
      refine pr_iconst hA (nI 1) dL_isRequest_322 (by decide) ?_
      refine pr_goto hA 327 dL_isRequest_323 (by decide) ?_
      refine pr_aload_n hA dL_isRequest_327 rfl ?_
      refine pr_iload_n hA dL_isRequest_328 rfl ?_
      refine pr_callVi hA [.int (nI r)] (o_placeOf (pr_hl hA) hS hm hI hr) v_L_116 hS.k (by decide) rfl rfl rfl (by decide) (by omega) (by omega) rfl (Nat.le_of_ble_eq_true rfl) dL_isRequest_329 ?_
      refine pr_iconst hA ((-1 : Int32)) dL_isRequest_332 (by decide) ?_
      refine pr_icmp_ne hA 340 dL_isRequest_333 (by decide) (fun c_333 => absurd (by unfold fx_placeOf_r; rw [if_neg c0, if_neg (show ¬ σ 23 r = 1 from c1)]) c_333) (fun _ => ?_)
      refine pr_iconst hA (nI 1) dL_isRequest_336 (by decide) ?_
      refine pr_goto hA 341 dL_isRequest_337 (by decide) ?_
      refine pr_icmp_ne hA 348 dL_isRequest_341 (by decide) (fun c_341 => absurd rfl c_341) (fun _ => ?_)
      refine pr_iconst hA ((1 : Int32)) dL_isRequest_344 (by decide) ?_
      refine pr_goto hA 349 dL_isRequest_345 (by decide) ?_
      exact pr_ireturn hA rfl rfl (Nat.zero_le _) (Nat.zero_le _) dL_isRequest_349 ⟨rfl, rfl, rfl, rfl⟩
    refine pr_iload hA dL_isRequest_248 rfl ?_
    refine pr_if_eq hA 266 dL_isRequest_250 (by decide) (fun c_250 => absurd c_250 c0) (fun _ => ?_)
    refine pr_iload hA dL_isRequest_253 rfl ?_
    refine pr_iconst hA (nI 1) dL_isRequest_255 (by decide) ?_
    refine pr_icmp_eq hA 266 dL_isRequest_256 (by decide) (fun c_256 => absurd c_256 c1) (fun _ => ?_)
    refine pr_iload hA dL_isRequest_259 rfl ?_
    refine pr_bipush hA (nI 7) dL_isRequest_261 (by decide) ?_
    refine pr_icmp_ne hA 270 dL_isRequest_263 (by decide) (fun _ => ?_) (fun c_263 => absurd c_263 c7)
    refine pr_iconst hA (nI 0) dL_isRequest_270 (by decide) ?_
    refine pr_istore (ls' := [_, _, _, _, _, _, _, _, _, _]) hA dL_isRequest_271 (by decide) rfl ?_
    refine pr_aload_n hA dL_isRequest_273 rfl ?_
    refine pr_iload_n hA dL_isRequest_274 rfl ?_
    refine pr_callVi hA [.int (nI r)] (o_pathLength (pr_hl hA) hS hm hI hr) v_L_104 hS.k (by decide) rfl rfl rfl (by decide) (by omega) (by omega) rfl (Nat.le_of_ble_eq_true rfl) dL_isRequest_275 ?_
    refine pr_topE (z := nI (pln σ r)) el ?_
    refine pr_if_eq hA 292 dL_isRequest_278 (by decide) (fun _ => E) (fun c278 => ?_)
    refine pr_iload hA dL_isRequest_281 rfl ?_
    refine pr_aload_n hA dL_isRequest_283 rfl ?_
    refine pr_iload_n hA dL_isRequest_284 rfl ?_
    refine pr_iconst hA (nI 1) dL_isRequest_285 (by decide) ?_
    refine pr_callVi hA [.int (nI r), .int (nI 1)] (o_requestValue (pr_hl hA) hS hm hI hr (c := 1) (by decide)) v_L_95 hS.k (by decide) rfl rfl rfl (by decide) (by omega) (by omega) rfl (Nat.le_of_ble_eq_true rfl) dL_isRequest_286 ?_
    refine pr_topE (z := σ 20 r) rfl ?_
    refine pr_icmp_ne hA 348 dL_isRequest_289 (by decide) (fun c_289 => absurd (F5 (fun z => c278 (by rw [z]; rfl))) c_289) (fun _ => ?_)
    exact E
  have lp2 : ∀ (j p : Nat) (v9 : Value), pln σ r - p = j → p ≤ pln σ r → pr_G g X mL_isRequest.2.2.1 (pr_MQ g X (pr_R (some (.int 1)) T I L) pr_no 0 0) 0 0 178 [.ref x, .int (nI r), .long (sL σ r 16 (tkn σ)), .null, .long (sL σ r 17 (tkn σ)), .null, .int (σ 23 r), .int (rnd σ r (p)), .int (nI (p)), v9] [] T I L := by
    intro j
    induction j with
    | zero =>
      intro p v9 hj hp
      have hpe : p = pln σ r := by omega
      subst hpe
      refine pr_iload hA dL_isRequest_178 rfl ?_
      refine pr_aload_n hA dL_isRequest_180 rfl ?_
      refine pr_iload_n hA dL_isRequest_181 rfl ?_
      refine pr_callVi hA [.int (nI r)] (o_pathLength (pr_hl hA) hS hm hI hr) v_L_104 hS.k (by decide) rfl rfl rfl (by decide) (by omega) (by omega) rfl (Nat.le_of_ble_eq_true rfl) dL_isRequest_182 ?_
      refine pr_topE (z := nI (pln σ r)) el ?_
      refine pr_icmp_ge hA 248 dL_isRequest_185 (by decide) (fun _ => ?_) (fun c_185 => absurd ((nI_leI (by omega) (by omega)).mpr (Nat.le_refl _)) c_185)
      refine pr_lessL (ls' := [.ref x, .int (nI r), .long (sL σ r 16 (tkn σ)), .null, .long (sL σ r 17 (tkn σ)), .null, .int (σ 23 r), .int (rnd σ r (pln σ r)), .int (nI (pln σ r)), .null]) ⟨.inr rfl, .inr rfl, .inr rfl, .inr rfl, .inr rfl, .inr rfl, .inr rfl, .inr rfl, .inr rfl, .inl rfl, trivial⟩ ?_
      exact fin
    | succ j ih =>
      intro p v9 hj hp
      have hp2 : p < pln σ r := by omega
      obtain ⟨f1, f2, f3⟩ := F4 p hp2
      have hlp := vp_in_lt f1
      have elp : σ (35 + r) p = nI ((σ (35 + r) p).toNatClampNeg) := vp_nI f1 (by omega)
      obtain ⟨lp, hlp0⟩ : ∃ lp, (σ (35 + r) p).toNatClampNeg = lp := ⟨_, rfl⟩
      have end' : σ 3 lp = rnd σ r (p + 1) := by rw [← hlp0]; rfl
      rw [hlp0] at f2 hlp elp
      refine pr_iload hA dL_isRequest_178 rfl ?_
      refine pr_aload_n hA dL_isRequest_180 rfl ?_
      refine pr_iload_n hA dL_isRequest_181 rfl ?_
      refine pr_callVi hA [.int (nI r)] (o_pathLength (pr_hl hA) hS hm hI hr) v_L_104 hS.k (by decide) rfl rfl rfl (by decide) (by omega) (by omega) rfl (Nat.le_of_ble_eq_true rfl) dL_isRequest_182 ?_
      refine pr_topE (z := nI (pln σ r)) el ?_
      refine pr_icmp_ge hA 248 dL_isRequest_185 (by decide) (fun c_185 => absurd c_185 (fun q9 => by have := (nI_leI (by omega) (by omega)).mp q9; omega)) (fun _ => ?_)
      refine pr_aload_n hA dL_isRequest_188 rfl ?_
      refine pr_iload_n hA dL_isRequest_189 rfl ?_
      refine pr_iload hA dL_isRequest_190 rfl ?_
      refine pr_callVi hA [.int (nI r), .int (nI (p))] (o_pathLink (pr_hl hA) hS hm hI (i := nI p) hr) v_L_107 hS.k (by decide) rfl rfl rfl (by decide) (by omega) (by omega) rfl (Nat.le_of_ble_eq_true rfl) dL_isRequest_192 ?_
      refine pr_topE (z := nI lp) ((plk hI hp2).trans elp) ?_
      refine pr_istore (ls' := [_, _, _, _, _, _, _, _, _, _]) hA dL_isRequest_195 (by decide) rfl ?_
      refine pr_aload_n hA dL_isRequest_197 rfl ?_
      refine pr_iload hA dL_isRequest_198 rfl ?_
      refine pr_iconst hA (nI 0) dL_isRequest_200 (by decide) ?_
      refine pr_callVi hA [.int (nI lp), .int (nI 0)] (o_linkValue (pr_hl hA) hS hm hI hlp (c := 0) (by decide)) v_L_110 hS.k (by decide) rfl rfl rfl (by decide) (by omega) (by omega) rfl (Nat.le_of_ble_eq_true rfl) dL_isRequest_201 ?_
      refine pr_topE (z := σ 2 lp) rfl ?_
      refine pr_iload hA dL_isRequest_204 rfl ?_
      refine pr_icmp_ne hA 231 dL_isRequest_206 (by decide) (fun c_206 => absurd f2 c_206) (fun _ => ?_)
      have E : pr_G g X mL_isRequest.2.2.1 (pr_MQ g X (pr_R (some (.int 1)) T I L) pr_no 0 0) 0 0 233 [.ref x, .int (nI r), .long (sL σ r 16 (tkn σ)), .null, .long (sL σ r 17 (tkn σ)), .null, .int (σ 23 r), .int (rnd σ r (p)), .int (nI (p)), .int (nI lp)] [] T I L := by
        refine pr_aload_n hA dL_isRequest_233 rfl ?_
        refine pr_iload hA dL_isRequest_234 rfl ?_
        refine pr_iconst hA (nI 1) dL_isRequest_236 (by decide) ?_
        refine pr_callVi hA [.int (nI lp), .int (nI 1)] (o_linkValue (pr_hl hA) hS hm hI hlp (c := 1) (by decide)) v_L_110 hS.k (by decide) rfl rfl rfl (by decide) (by omega) (by omega) rfl (Nat.le_of_ble_eq_true rfl) dL_isRequest_237 ?_
        refine pr_topE (z := rnd σ r (p + 1)) end' ?_
        refine pr_istore (ls' := [_, _, _, _, _, _, _, _, _, _]) hA dL_isRequest_240 (by decide) rfl ?_
        refine pr_iinc (ls' := [_, _, _, _, _, _, _, _, _, _]) hA (nI ((p) + 1)) dL_isRequest_242 (by decide) rfl (nI_inc _) rfl ?_
        refine pr_goto hA 178 dL_isRequest_245 (by decide) ?_
        exact ih (p + 1) _ (by omega) (by omega)
      refine pr_iload hA dL_isRequest_209 rfl ?_
      refine pr_iconst hA (nI 3) dL_isRequest_211 (by decide) ?_
      refine pr_icmp_ge hA 233 dL_isRequest_212 (by decide) (fun _ => E) (fun c212 => ?_)
      refine pr_aload_n hA dL_isRequest_215 rfl ?_
      refine pr_iload_n hA dL_isRequest_216 rfl ?_
      refine pr_bipush hA (nI 9) dL_isRequest_217 (by decide) ?_
      refine pr_callVi hA [.int (nI r), .int (nI 9)] (o_requestValue (pr_hl hA) hS hm hI hr (c := 9) (by decide)) v_L_95 hS.k (by decide) rfl rfl rfl (by decide) (by omega) (by omega) rfl (Nat.le_of_ble_eq_true rfl) dL_isRequest_219 ?_
      refine pr_topE (z := σ 28 r) rfl ?_
      refine pr_iload hA dL_isRequest_222 rfl ?_
      refine pr_ishr hA dL_isRequest_224 ?_
      refine pr_iconst hA (nI 1) dL_isRequest_225 (by decide) ?_
      refine pr_iand hA dL_isRequest_226 ?_
      refine pr_iconst hA (nI 1) dL_isRequest_227 (by decide) ?_
      refine pr_icmp_ne hA 233 dL_isRequest_228 (by decide) (fun _ => ?_) (fun c_228 => absurd c_228 (by rw [← elp]; exact f3 c212))
      exact E
  have lp1 : ∀ (j t : Nat), tkn σ - t = j → t ≤ tkn σ → pr_G g X mL_isRequest.2.2.1 (pr_MQ g X (pr_R (some (.int 1)) T I L) pr_no 0 0) 0 0 16 [.ref x, .int (nI r), .long (sL σ r 16 t), .null, .long (sL σ r 17 t), .null, .int (σ 23 r), .int (nI t), .null, .null] [] T I L := by
    intro j
    induction j with
    | zero =>
      intro t hj ht9
      have hte : t = tkn σ := by omega
      subst hte
      refine pr_iload hA dL_isRequest_16 rfl ?_
      refine pr_aload_n hA dL_isRequest_18 rfl ?_
      refine pr_callVi hA [] (o_ticketCount (pr_hl hA) hS hm hI) v_L_98 hS.k (by decide) rfl rfl rfl (by decide) (by omega) (by omega) rfl (Nat.le_of_ble_eq_true rfl) dL_isRequest_19 ?_
      refine pr_icmp_ge hA 138 dL_isRequest_22 (by decide) (fun _ => ?_) (fun c_22 => absurd ((nI_leI (by omega) (by omega)).mpr (Nat.le_refl _)) c_22)
      refine pr_lload_n hA dL_isRequest_138 rfl ?_
      refine pr_aload_n hA dL_isRequest_139 rfl ?_
      refine pr_iload_n hA dL_isRequest_140 rfl ?_
      refine pr_bipush hA (nI 7) dL_isRequest_141 (by decide) ?_
      refine pr_callVi hA [.int (nI r), .int (nI 7)] (o_requestValue (pr_hl hA) hS hm hI hr (c := 7) (by decide)) v_L_95 hS.k (by decide) rfl rfl rfl (by decide) (by omega) (by omega) rfl (Nat.le_of_ble_eq_true rfl) dL_isRequest_143 ?_
      refine pr_topE (z := σ 26 r) rfl ?_
      refine pr_i2l hA dL_isRequest_146 ?_
      refine pr_lcmp hA dL_isRequest_147 ?_
      refine pr_topE (z := nI 0) (by rw [F2]; exact lc_self _) ?_
      refine pr_if_ne hA 165 dL_isRequest_148 (by decide) (fun c_148 => absurd rfl c_148) (fun _ => ?_)
      refine pr_lload hA dL_isRequest_151 rfl ?_
      refine pr_aload_n hA dL_isRequest_153 rfl ?_
      refine pr_iload_n hA dL_isRequest_154 rfl ?_
      refine pr_bipush hA (nI 8) dL_isRequest_155 (by decide) ?_
      refine pr_callVi hA [.int (nI r), .int (nI 8)] (o_requestValue (pr_hl hA) hS hm hI hr (c := 8) (by decide)) v_L_95 hS.k (by decide) rfl rfl rfl (by decide) (by omega) (by omega) rfl (Nat.le_of_ble_eq_true rfl) dL_isRequest_157 ?_
      refine pr_topE (z := σ 27 r) rfl ?_
      refine pr_i2l hA dL_isRequest_160 ?_
      refine pr_lcmp hA dL_isRequest_161 ?_
      refine pr_topE (z := nI 0) (by rw [F3]; exact lc_self _) ?_
      refine pr_if_eq hA 167 dL_isRequest_162 (by decide) (fun _ => ?_) (fun c_162 => absurd rfl c_162)
      refine pr_aload_n hA dL_isRequest_167 rfl ?_
      refine pr_iload_n hA dL_isRequest_168 rfl ?_
      refine pr_iconst hA (nI 0) dL_isRequest_169 (by decide) ?_
      refine pr_callVi hA [.int (nI r), .int (nI 0)] (o_requestValue (pr_hl hA) hS hm hI hr (c := 0) (by decide)) v_L_95 hS.k (by decide) rfl rfl rfl (by decide) (by omega) (by omega) rfl (Nat.le_of_ble_eq_true rfl) dL_isRequest_170 ?_
      refine pr_topE (z := rnd σ r 0) rfl ?_
      refine pr_istore (ls' := [_, _, _, _, _, _, _, _, _, _]) hA dL_isRequest_173 (by decide) rfl ?_
      refine pr_iconst hA (nI 0) dL_isRequest_175 (by decide) ?_
      refine pr_istore (ls' := [_, _, _, _, _, _, _, _, _, _]) hA dL_isRequest_176 (by decide) rfl ?_
      exact lp2 (pln σ r) 0 .null rfl (Nat.zero_le _)
    | succ j ih =>
      intro t hj ht9
      have ht : t < tkn σ := by omega
      refine pr_iload hA dL_isRequest_16 rfl ?_
      refine pr_aload_n hA dL_isRequest_18 rfl ?_
      refine pr_callVi hA [] (o_ticketCount (pr_hl hA) hS hm hI) v_L_98 hS.k (by decide) rfl rfl rfl (by decide) (by omega) (by omega) rfl (Nat.le_of_ble_eq_true rfl) dL_isRequest_19 ?_
      refine pr_icmp_ge hA 138 dL_isRequest_22 (by decide) (fun c_22 => absurd c_22 (fun q9 => by have := (nI_leI (by omega) (by omega)).mp q9; omega)) (fun _ => ?_)
      refine pr_aload_n hA dL_isRequest_25 rfl ?_
      refine pr_iload hA dL_isRequest_26 rfl ?_
      refine pr_iconst hA (nI 0) dL_isRequest_28 (by decide) ?_
      refine pr_callVi hA [.int (nI t), .int (nI 0)] (o_ticketValue (pr_hl hA) hS hm hI ht (c := 0) (by decide)) v_L_101 hS.k (by decide) rfl rfl rfl (by decide) (by omega) (by omega) rfl (Nat.le_of_ble_eq_true rfl) dL_isRequest_29 ?_
      refine pr_topE (z := σ 10 t) rfl ?_
      refine pr_iload_n hA dL_isRequest_32 rfl ?_
      refine pr_icmp_eq hA 39 dL_isRequest_33 (by decide) (fun c33 => ?_) (fun c33 => ?_)
      · obtain ⟨a1, a2, a3⟩ := F1 t ht c33
        have E : pr_G g X mL_isRequest.2.2.1 (pr_MQ g X (pr_R (some (.int 1)) T I L) pr_no 0 0) 0 0 132 [.ref x, .int (nI r), .long (sL σ r 16 (t + 1)), .null, .long (sL σ r 17 (t + 1)), .null, .int (σ 23 r), .int (nI t), .null, .null] [] T I L := by
          refine pr_iinc (ls' := [_, _, _, _, _, _, _, _, _, _]) hA (nI (t + 1)) dL_isRequest_132 (by decide) rfl (nI_inc _) rfl ?_
          refine pr_goto hA 16 dL_isRequest_135 (by decide) ?_
          exact ih (t + 1) (by omega) (by omega)
        refine pr_lload_n hA dL_isRequest_39 rfl ?_
        refine pr_aload_n hA dL_isRequest_40 rfl ?_
        refine pr_iload hA dL_isRequest_41 rfl ?_
        refine pr_bipush hA (nI 6) dL_isRequest_43 (by decide) ?_
        refine pr_callVi hA [.int (nI t), .int (nI 6)] (o_ticketValue (pr_hl hA) hS hm hI ht (c := 6) (by decide)) v_L_101 hS.k (by decide) rfl rfl rfl (by decide) (by omega) (by omega) rfl (Nat.le_of_ble_eq_true rfl) dL_isRequest_45 ?_
        refine pr_topE (z := σ 16 t) rfl ?_
        refine pr_i2l hA dL_isRequest_48 ?_
        refine pr_ladd hA dL_isRequest_49 ?_
        refine pr_topL (z := sL σ r 16 (t + 1)) (sL_p c33).symm ?_
        refine pr_lstore_n (ls' := [_, _, _, _, _, _, _, _, _, _]) hA dL_isRequest_50 (by decide) rfl ?_
        refine pr_lload hA dL_isRequest_51 rfl ?_
        refine pr_aload_n hA dL_isRequest_53 rfl ?_
        refine pr_iload hA dL_isRequest_54 rfl ?_
        refine pr_bipush hA (nI 7) dL_isRequest_56 (by decide) ?_
        refine pr_callVi hA [.int (nI t), .int (nI 7)] (o_ticketValue (pr_hl hA) hS hm hI ht (c := 7) (by decide)) v_L_101 hS.k (by decide) rfl rfl rfl (by decide) (by omega) (by omega) rfl (Nat.le_of_ble_eq_true rfl) dL_isRequest_58 ?_
        refine pr_topE (z := σ 17 t) rfl ?_
        refine pr_i2l hA dL_isRequest_61 ?_
        refine pr_ladd hA dL_isRequest_62 ?_
        refine pr_topL (z := sL σ r 17 (t + 1)) (sL_p c33).symm ?_
        refine pr_lstore (ls' := [_, _, _, _, _, _, _, _, _, _]) hA dL_isRequest_63 (by decide) rfl ?_
        refine pr_aload_n hA dL_isRequest_65 rfl ?_
        refine pr_iload hA dL_isRequest_66 rfl ?_
        refine pr_bipush hA (nI 7) dL_isRequest_68 (by decide) ?_
        refine pr_callVi hA [.int (nI t), .int (nI 7)] (o_ticketValue (pr_hl hA) hS hm hI ht (c := 7) (by decide)) v_L_101 hS.k (by decide) rfl rfl rfl (by decide) (by omega) (by omega) rfl (Nat.le_of_ble_eq_true rfl) dL_isRequest_70 ?_
        refine pr_topE (z := σ 17 t) rfl ?_
        refine pr_aload_n hA dL_isRequest_73 rfl ?_
        refine pr_iload hA dL_isRequest_74 rfl ?_
        refine pr_bipush hA (nI 6) dL_isRequest_76 (by decide) ?_
        refine pr_callVi hA [.int (nI t), .int (nI 6)] (o_ticketValue (pr_hl hA) hS hm hI ht (c := 6) (by decide)) v_L_101 hS.k (by decide) rfl rfl rfl (by decide) (by omega) (by omega) rfl (Nat.le_of_ble_eq_true rfl) dL_isRequest_78 ?_
        refine pr_topE (z := σ 16 t) rfl ?_
        refine pr_icmp_gt hA 100 dL_isRequest_81 (by decide) (fun c_81 => absurd c_81 a1) (fun _ => ?_)
        refine pr_aload_n hA dL_isRequest_84 rfl ?_
        refine pr_iload hA dL_isRequest_85 rfl ?_
        refine pr_iconst hA (nI 2) dL_isRequest_87 (by decide) ?_
        refine pr_callVi hA [.int (nI t), .int (nI 2)] (o_ticketValue (pr_hl hA) hS hm hI ht (c := 2) (by decide)) v_L_101 hS.k (by decide) rfl rfl rfl (by decide) (by omega) (by omega) rfl (Nat.le_of_ble_eq_true rfl) dL_isRequest_88 ?_
        refine pr_topE (z := σ 12 t) rfl ?_
        refine pr_aload_n hA dL_isRequest_91 rfl ?_
        refine pr_iload_n hA dL_isRequest_92 rfl ?_
        refine pr_iconst hA (nI 2) dL_isRequest_93 (by decide) ?_
        refine pr_callVi hA [.int (nI r), .int (nI 2)] (o_requestValue (pr_hl hA) hS hm hI hr (c := 2) (by decide)) v_L_95 hS.k (by decide) rfl rfl rfl (by decide) (by omega) (by omega) rfl (Nat.le_of_ble_eq_true rfl) dL_isRequest_94 ?_
        refine pr_topE (z := σ 21 r) rfl ?_
        refine pr_icmp_eq hA 102 dL_isRequest_97 (by decide) (fun _ => ?_) (fun c_97 => absurd a2 c_97)
        refine pr_aload_n hA dL_isRequest_102 rfl ?_
        refine pr_iload hA dL_isRequest_103 rfl ?_
        refine pr_iconst hA (nI 5) dL_isRequest_105 (by decide) ?_
        refine pr_callVi hA [.int (nI t), .int (nI 5)] (o_ticketValue (pr_hl hA) hS hm hI ht (c := 5) (by decide)) v_L_101 hS.k (by decide) rfl rfl rfl (by decide) (by omega) (by omega) rfl (Nat.le_of_ble_eq_true rfl) dL_isRequest_106 ?_
        refine pr_topE (z := σ 15 t) rfl ?_
        refine pr_iconst hA (nI 2) dL_isRequest_109 (by decide) ?_
        refine pr_icmp_ge hA 132 dL_isRequest_110 (by decide) (fun _ => E) (fun c110 => ?_)
        refine pr_iload hA dL_isRequest_113 rfl ?_
        refine pr_if_eq hA 132 dL_isRequest_115 (by decide) (fun _ => E) (fun c115 => ?_)
        refine pr_iload hA dL_isRequest_118 rfl ?_
        refine pr_iconst hA (nI 1) dL_isRequest_120 (by decide) ?_
        refine pr_icmp_eq hA 132 dL_isRequest_121 (by decide) (fun _ => E) (fun c121 => ?_)
        refine pr_iload hA dL_isRequest_124 rfl ?_
        refine pr_iconst hA (nI 2) dL_isRequest_126 (by decide) ?_
        refine pr_icmp_eq hA 132 dL_isRequest_127 (by decide) (fun _ => ?_) (fun c_127 => absurd (((a3 c110).resolve_left c115).resolve_left c121) c_127)
        exact E
      · have q := ih (t + 1) (by omega) (by omega)
        rw [sL_n c33, sL_n c33] at q
        refine pr_goto hA 132 dL_isRequest_36 (by decide) ?_
        refine pr_iinc (ls' := [_, _, _, _, _, _, _, _, _, _]) hA (nI (t + 1)) dL_isRequest_132 (by decide) rfl (nI_inc _) rfl ?_
        refine pr_goto hA 16 dL_isRequest_135 (by decide) ?_
        exact q
  refine pr_lconst hA 0 dL_isRequest_0 (by decide) ?_
  refine pr_lstore_n (ls' := [_, _, _, _, _, _, _, _, _, _]) hA dL_isRequest_1 (by decide) rfl ?_
  refine pr_lconst hA 0 dL_isRequest_2 (by decide) ?_
  refine pr_lstore (ls' := [_, _, _, _, _, _, _, _, _, _]) hA dL_isRequest_3 (by decide) rfl ?_
  refine pr_aload_n hA dL_isRequest_5 rfl ?_
  refine pr_iload_n hA dL_isRequest_6 rfl ?_
  refine pr_iconst hA (nI 4) dL_isRequest_7 (by decide) ?_
  refine pr_callVi hA [.int (nI r), .int (nI 4)] (o_requestValue (pr_hl hA) hS hm hI hr (c := 4) (by decide)) v_L_95 hS.k (by decide) rfl rfl rfl (by decide) (by omega) (by omega) rfl (Nat.le_of_ble_eq_true rfl) dL_isRequest_8 ?_
  refine pr_topE (z := σ 23 r) rfl ?_
  refine pr_istore (ls' := [_, _, _, _, _, _, _, _, _, _]) hA dL_isRequest_11 (by decide) rfl ?_
  refine pr_iconst hA (nI 0) dL_isRequest_13 (by decide) ?_
  refine pr_istore (ls' := [_, _, _, _, _, _, _, _, _, _]) hA dL_isRequest_14 (by decide) rfl ?_
  exact lp1 (tkn σ) 0 (by omega) (Nat.zero_le _)
