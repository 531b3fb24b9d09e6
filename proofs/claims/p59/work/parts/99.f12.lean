/-! SNAPSHOTS OF THE CLASS -/
section AST
variable {g : pr_C} {X : pr_X} {M : pr_MD} {d mc ms : Nat} {nL : Nat} {Q : State → Prop} {cs sl pc : Nat} {ls st : List Value} {T : pr_T} {I : pr_I} {L : pr_L}
theorem pr_aast (hA : pr_Am g X M d mc ms) {a n b k : Nat} (ha : T.2.1 a = (25, n)) (hb : T.2.1 b = (6, 0)) (hk : k < n) (hn : n ≤ 5000) (hd : decode M.2.1 pc = .ok (.aastore, 1)) (kk : pr_G g X nL Q cs sl (pc + 1) ls st (pr_upr T a k (some b)) I L) : pr_G g X nL Q cs sl pc ls (.ref b :: .int (nI k) :: .ref a :: st) T I L := by
  obtain ⟨p, l, e, R, s, m, args, below, meth, c⟩ := X
  intro H locs lsS hR hl hS
  obtain ⟨hx, hbb, hml, hown, hts, hK, hSF, hlk, hnt, hzs, hret, hdf, hdl, hmc, hms⟩ := hA
  obtain ⟨hza, hat⟩ := hR.2.2 a _ (pr_ent_r (g := g) (I := I) (L := L) (Or.inr rfl) ha)
  obtain ⟨-, hbt⟩ := hR.2.2 b _ (pr_ent_o (g := g) (I := I) (L := L) (by decide) hb)
  obtain ⟨r, hr, cellV, g1, g2, g3, -⟩ := hbt
  have hcls := (hK.1 6 r hr).2
  have er : r.1 = RX6 := by cases hr; rfl
  obtain ⟨kA, comp, k1, k2, k3, -⟩ := (hK.2 5 _ rfl).2
  have hcomp : comp = (pr_D g).1 6 := Option.some.inj (k3.symm.trans (by rw [← er]; exact hcls.1))
  subst hcomp
  obtain ⟨kC, hkC, -⟩ := hcls.2
  have cl : (nI k).toNatClampNeg = k := nI_clamp (by omega)
  refine W.aast hx hbb hat (fun q h => by cases h) (fun h => by cases h) k1 k2 rfl hkC ⟨fun z => by have := lt_i.mp z; rw [nI_toI (by omega)] at this; exact absurd this (by show ¬ (k : Int) < 0; omega), by show _ < (arrV _ _ _).slots.size; rw [arrV_size, cl]; exact hk⟩ g1 (fun q h => by rw [g3] at h; cases h) (by rw [g2]; exact hkC) (by rw [g2]; exact va_assign hcls) rfl rfl hd fun H1 e z oq => ?_
  refine kk H1 _ lsS (hR.upd (T' := pr_upr T a k (some b)) a hza z oq rfl (fun b' hb' => pr_ent_congr rfl rfl rfl (by funext j; exact if_neg (fun q => hb' q.1))) fun e9 he9 => ?_) hl (hS.put z oq hza)
  rw [pr_ent_r (T := pr_upr T a k (some b)) (n := n) (Or.inr rfl) (show (pr_upr T a k (some b)).2.1 a = (25, n) from ha)] at he9
  cases he9
  show H1[a]? = some (vp_cell _ _)
  rw [e, vp_cell_q, vp_cell_q, arrV_store, cl]
  congr 2
  funext q
  by_cases hq : q = k
  · subst hq
    show updV _ q _ q = va_rf (if a = a ∧ q = q then some b else _)
    rw [if_pos ⟨rfl, rfl⟩]
    simp [updV, va_rf]
  · show updV _ k _ q = va_rf (if a = a ∧ q = k then some b else _)
    rw [if_neg (fun z => hq z.2)]
    simp [updV, hq]
end AST
/-- what a snapshot newly made holds before it is written -/
def snw (I : pr_I) (t : Nat) : pr_I := ws_get (nwI I t) t
theorem snw_put {I : pr_I} {t : Nat} : nwI I t = ws_put I t (snw I t) := by
  funext b
  unfold snw ws_put ws_get
  by_cases c : t ≤ b ∧ b < t + 121
  · rw [if_pos c, show t + (b - t) = b by omega]
  · rw [if_neg c, nwI_out (by omega)]
set_option maxRecDepth 100000 in
/-- saved again -/
theorem c_fx_save {g : pr_C} {l : Launch} (hl : l.stackTraces = false) {T : pr_T} {I : pr_I} {L : pr_L} {w u k : Nat} {σ τ : pr_I} (hw : pr_W T w) (hu : pr_W T u) (hdis : u + 121 ≤ w ∨ w + 121 ≤ u) {x v sn f y : Nat} (hx : pr_X7 T x w v sn f y) (hsn : T.2.1 sn = (25, 2)) (hk : k < 2) (hT : T.2.2 sn k = some u) (hI : wI σ) : pr_M g l 4 0 0 mX7_saveSnapshot [.ref x, .int (nI k)] T (ws_put (ws_put I w σ) u τ) L (pr_R (some (.int (σ 0 7))) T (ws_put (ws_put I w σ) u (wcp τ σ)) (l_cp L w u)) pr_no := by
  refine pr_ofG (by decide) rfl hl (Nat.le_of_ble_eq_true rfl) (fun X hA hX hXn hXt => ?_)
  have r1 : (0 : Int32) ≤ nI k := (nI_leI (a := 0) (by decide) (by omega)).mpr (by omega)
  have r2 : nI k ≤ (1 : Int32) := (nI_leI (b := 1) (by omega) (by decide)).mpr (by omega)
  have hc : (nI k).toNatClampNeg = k := nI_clamp (by omega)
  show pr_G g X mX7_saveSnapshot.2.2.1 _ 0 0 0 [.ref x, .int (nI k)] [] T _ L
  refine pr_iload_n hA dX7_saveSnapshot_0 rfl ?_
  refine pr_iconst hA (0) dX7_saveSnapshot_1 (by decide) ?_
  refine pr_iconst hA (1) dX7_saveSnapshot_2 (by decide) ?_
  refine pr_callSv hA [.int (nI k), .int 0, .int 1] (c_rr_ok (pr_hl hA) r1 r2) s_X7_86 rfl (by decide) (Nat.zero_le _) (Nat.zero_le _) rfl (Nat.le_of_ble_eq_true rfl) dX7_saveSnapshot_3 ?_
  refine pr_aload_n hA dX7_saveSnapshot_6 rfl ?_
  refine pr_getR hA f_X7_19 rfl hx.1 hx.2.2.2.1 dX7_saveSnapshot_7 ?_
  refine pr_iload_n hA dX7_saveSnapshot_10 rfl ?_
  refine pr_aald hA (Or.inr rfl) hsn (nI_vin hk (by decide)) dX7_saveSnapshot_11 ?_
  refine pr_ifnonnull hA 28 dX7_saveSnapshot_12 (by decide) (fun a ha => ?_) (fun hnone => ?_)
  rotate_left
  · rw [hc, hT] at hnone; cases hnone
  refine pr_aload_n hA dX7_saveSnapshot_28 rfl ?_
  refine pr_getR hA f_X7_19 rfl hx.1 hx.2.2.2.1 dX7_saveSnapshot_29 ?_
  refine pr_iload_n hA dX7_saveSnapshot_32 rfl ?_
  refine pr_aaldN hA (Or.inr rfl) hsn hk (by decide) hT dX7_saveSnapshot_33 ?_
  refine pr_aload_n hA dX7_saveSnapshot_34 rfl ?_
  refine pr_getR hA f_X7_10 rfl hx.1 hx.2.1 dX7_saveSnapshot_35 ?_
  refine pr_callVv hA [.ref w] (c_w_cpE (w := u) (v := w) (σ := τ) (τ := σ) (pr_hl hA) hu hw (by omega) hI) v_X7_52 (wk_0 hu) (by decide) rfl rfl rfl (by decide) (Nat.zero_le _) (Nat.zero_le _) rfl (Nat.le_of_ble_eq_true rfl) dX7_saveSnapshot_38 ?_
  refine pr_aload_n hA dX7_saveSnapshot_41 rfl ?_
  refine pr_getR hA f_X7_10 rfl hx.1 hx.2.1 dX7_saveSnapshot_42 ?_
  refine pr_getE (v := σ 0 7) hA f_X7_121 rfl (wk_0 hw) ((congrFun (ws_out (by omega)) 7).trans ws_val0) dX7_saveSnapshot_45 ?_
  exact pr_ireturn hA rfl rfl (Nat.zero_le _) (Nat.zero_le _) dX7_saveSnapshot_48 ⟨rfl, rfl, rfl, rfl⟩
