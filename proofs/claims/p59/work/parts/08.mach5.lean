/-! CONTRACTS, CALLS, ENDS -/
def pr_rm (d mc ms : Nat) : Room := { frames := d, cells := mc, slots := ms, locals := 37 * d }
def pr_Qc (g : pr_C) (Φ : Option Value → pr_T → pr_I → pr_L → Prop) : Array Value → State → Outcome → State → Prop := fun _ st o t => (∃ v T I L, o = .returned v ∧ Φ v T I L ∧ pr_Rep g T I L t.heap) ∧ va_F (pr_A g) st t
def pr_Xc (g : pr_C) (Ψ : String → pr_T → pr_I → pr_L → Prop) : String → State → State → Prop := fun E st t => (∃ T I L, Ψ E T I L ∧ pr_Rep g T I L t.heap) ∧ va_F (pr_A g) st t
def pr_no : String → pr_T → pr_I → pr_L → Prop := fun _ _ _ _ => False
def pr_hd (M : pr_MD) : Cond := match M.2.2.2.2 with
  | [] => Cond.code M.1 M.2.1 M.2.2.1 M.2.2.2.1
  | h :: t => Cond.codeWith M.1 M.2.1 M.2.2.1 M.2.2.2.1 (h :: t)
/-- a method's contract: with these arguments, in this world, it returns with Φ, or throws with Ψ -/
def pr_M (g : pr_C) (l : Launch) (d mc ms : Nat) (M : pr_MD) (args : List Value) (T : pr_T) (I : pr_I) (L : pr_L) (Φ : Option Value → pr_T → pr_I → pr_L → Prop) (Ψ : String → pr_T → pr_I → pr_L → Prop) : Prop :=
  vx_Met l M.1 (pr_hd M :: pr_gw) (pr_rm d mc ms) (va_Pc args (pr_BB g T I L)) (pr_Qc g Φ) (pr_Xc g Ψ) mc ms (pr_A g)
/-- what a body owes at its end -/
def pr_MQ (g : pr_C) (X : pr_X) (Φ : Option Value → pr_T → pr_I → pr_L → Prop) (Ψ : String → pr_T → pr_I → pr_L → Prop) (mc ms : Nat) : State → Prop := match X with
  | (_, _, _, _, s, _, args, below, _, _) => vx_MQ below (pr_Qc g Φ) (pr_Xc g Ψ) args s mc ms (pr_A g)
def pr_launch (X : pr_X) : Launch := X.2.1
def pr_mname (X : pr_X) : String := X.2.2.2.2.2.2.2.2.1.name
def pr_table (X : pr_X) : List ExceptionTableEntry := X.2.2.2.2.2.2.2.2.2.exceptionTable.toList
/-- the thrown one, over this frame -/
def pr_H (g : pr_C) (X : pr_X) (nL : Nat) (Q : State → Prop) (cs sl pc : Nat) (ls st : List Value) (E : String) (T : pr_T) (I : pr_I) (L : pr_L) : Prop := match X with
  | (p, l, e, R, s, m, args, below, meth, c) => ∀ (H : Heap) (locs : List Loc) (lsS : Array Slot) (q : Nat) (ce : Cell), pr_Rep g T I L H → pr_lo lsS nL ls → va_S (pr_A g) s.heap H locs → H[q]? = some ce → ce.vm = .none → s.vm.findClass E = some ce.cls → vx_W p l e R s m args below meth c H locs cs sl Q (F0 m pc lsS st) q
theorem pr_BB.at {g : pr_C} {T : pr_T} {I : pr_I} {L : pr_L} {s U : State} {H : Heap} {locs : List Loc} (hR : pr_Rep g T I L H) (hK : va_K (pr_D g) vwCl (pr_tys g) s) (hSF : pr_SF g s s.heap) (hS : va_S (pr_A g) s.heap H locs) (hU : U.heap = H) (hW : s.WarmedH U.vm) : pr_BB g T I L U := by
  subst hU
  exact ⟨hR, va_K.moved hW.alike hK, hSF.to hW hS.2.1⟩
theorem pr_blind {g : pr_C} {T : pr_T} {I : pr_I} {L : pr_L} {args : List Value} : FrameBlind (va_Pc args (pr_BB g T I L)) := fun _ _ _ _ h => ⟨h.1, h.2.blind⟩
theorem pr_M.met {g : pr_C} {l : Launch} {d mc ms : Nat} {M : pr_MD} {args : List Value} {T : pr_T} {I : pr_I} {L : pr_L} {Φ : Option Value → pr_T → pr_I → pr_L → Prop} (h : pr_M g l d mc ms M args T I L Φ pr_no) : Met l M.1 (pr_hd M :: pr_gw) (pr_rm d mc ms) (va_Pc args (pr_BB g T I L)) (pr_Qc g Φ) mc ms (pr_A g) := by
  intro p e ha hc hk s m args0 below hf happ hP hK
  obtain ⟨n, o, h1, h2, h3, hq⟩ := h p e ha hc hk s m args0 below hf happ hP hK
  refine ⟨n, o, h1, h2, h3, ?_⟩
  rcases hq with hq | ⟨q, -, E, ce, L0, ⟨⟨T0, I0, L1, hf, -⟩, -⟩, -⟩
  · exact hq
  · exact hf.elim
/-- weaker ends -/
theorem pr_M.mono {g : pr_C} {l : Launch} {d mc ms : Nat} {M : pr_MD} {args : List Value} {T : pr_T} {I : pr_I} {L : pr_L} {Φ Φ' : Option Value → pr_T → pr_I → pr_L → Prop} {Ψ Ψ' : String → pr_T → pr_I → pr_L → Prop} (h : pr_M g l d mc ms M args T I L Φ Ψ) (h1 : ∀ v T I L, Φ v T I L → Φ' v T I L) (h2 : ∀ E T I L, Ψ E T I L → Ψ' E T I L) : pr_M g l d mc ms M args T I L Φ' Ψ' := by
  intro p e ha hc hk s m args0 below hf happ hP hK
  obtain ⟨n, o, g1, g2, g3, hq⟩ := h p e ha hc hk s m args0 below hf happ hP hK
  refine ⟨n, o, g1, g2, g3, ?_⟩
  rcases hq with ⟨⟨⟨v, T0, I0, L0, e1, e2, e3⟩, e4⟩, e5⟩ | ⟨q, e0, E, ce, L0, ⟨⟨T0, I0, L1, e1, e2⟩, e3⟩, e4⟩
  · exact Or.inl ⟨⟨⟨v, T0, I0, L0, e1, h1 _ _ _ _ e2, e3⟩, e4⟩, e5⟩
  · exact Or.inr ⟨q, e0, E, ce, L0, ⟨⟨T0, I0, L1, h2 _ _ _ _ e1, e2⟩, e3⟩, e4⟩
/-- a contract out of a walk -/
theorem pr_ofG {g : pr_C} {l : Launch} {d mc ms : Nat} {M : pr_MD} {args : List Value} {T : pr_T} {I : pr_I} {L : pr_L} {Φ : Option Value → pr_T → pr_I → pr_L → Prop} {Ψ : String → pr_T → pr_I → pr_L → Prop} (hy : plainName M.1.cls = true) (hh : M.2.2.2.2 = []) (hl : l.stackTraces = false) (hlen : (lg_sl args).length ≤ M.2.2.1)
    (body : ∀ X : pr_X, pr_Am g X M d mc ms → pr_launch X = l → pr_mname X = M.1.name → pr_table X = [] → pr_G g X M.2.2.1 (pr_MQ g X Φ Ψ mc ms) 0 0 0 (pr_en args M.2.2.1) [] T I L) : pr_M g l d mc ms M args T I L Φ Ψ := by
  obtain ⟨y, cc, maxL, ret, hh0⟩ := M
  dsimp only at hh hlen hy
  subst hh
  refine vx_ofW (cc := cc) (maxL := maxL) (ret := ret) hy rfl ?_
  intro p e s m args0 below meth c s₁ B hml htab hP
  obtain ⟨rfl, hR, hK, hSF⟩ := hP
  have hts := atoms_spec (ws := Cond.code y cc maxL ret :: pr_gw) B.pre
  have hAm : pr_Am g (p, l, e, pr_rm d mc ms, s, m, args.toArray, below, meth, c) (y, cc, maxL, ret, []) d mc ms :=
    ⟨B.exec, B.bytes, hml, findClass_of_methodNamed B.named, fun w hw => hts w (List.mem_cons_of_mem _ hw), hK, hSF, B.notSynchronized, hl, by rw [hR.1]; exact hR.2.1, B.returns, Nat.le_refl _, Nat.le_refl _, Nat.le_refl _, Nat.le_refl _⟩
  have hnm : meth.name = y.name := (name_of_methodNamed B.named B.method).1
  have hb := body (p, l, e, pr_rm d mc ms, s, m, args.toArray, below, meth, c) hAm rfl hnm (List.eq_nil_iff_forall_not_mem.mpr htab)
  have hle := lv_entry args (n := maxL) hlen
  rw [lg_entry_eq]
  exact hb s.heap [] _ hR (pr_lo_en hle) va_S.rf
/-- what a call of this method by this entry needs of the tables -/
def pr_cB (own : String) (index : Nat) (M : pr_MD) (n : Nat) : Prop := Cond.methodLink own index M.1 ∈ pr_gw ∧ Cond.initialized M.1.cls ∈ pr_gw ∧ pr_hd M ∈ pr_gw ∧ (M.1.cls ≠ "java/lang/invoke/MethodHandle" ∧ M.1.cls ≠ "java/lang/invoke/VarHandle" ∧ (parseMethodDescriptor M.1.desc).map (fun d => d.parameters.length) = some n) ∧ M.2.2.1 ≤ 18 ∧ M.2.2.2.2 = []
def pr_cV (own : String) (index : Nat) (M : pr_MD) (n : Nat) : Prop := pr_cB own index M n ∧ Cond.instanceMethod M.1 ∈ pr_gw ∧ Cond.selects M.1.cls M.1 M.1 ∈ pr_gw
def pr_cS (own : String) (index : Nat) (M : pr_MD) (n : Nat) : Prop := pr_cB own index M n ∧ Cond.static M.1 ∈ pr_gw
theorem pr_goodgw {ws : List Cond} (h : ∀ w ∈ ws, w ∈ pr_gw) : GoodIn pr_gw ws := fun w hw => ⟨h w hw, good_of_word (List.mem_filter.mp (h w hw)).2⟩
section PRC
variable {g : pr_C} {X : pr_X} {M : pr_MD} {d mc ms : Nat} {nL : Nat} {Q : State → Prop} {cs sl pc : Nat} {ls st : List Value} {T : pr_T} {I : pr_I} {L : pr_L}
theorem pr_go {p : Program} {l : Launch} {e : Env} {R : Room} {s : State} {m : MethodId} {args : Array Value} {below : List Frame} {meth : Method} {c : Code} {H : Heap} {locs : List Loc} {lsS : Array Slot} {mc' ms' : Nat} {st0 st : List Value} {a : Array Value} {Φ : Option Value → pr_T → pr_I → pr_L → Prop} {Ψ : String → pr_T → pr_I → pr_L → Prop}
    (hr : vx_Run p l e R s m args below meth c H locs cs sl mc' ms' (F0 m pc lsS st0) st (pr_Qc g Φ a) (pr_Xc g Ψ) (pr_A g)) (hl : pr_lo lsS nL ls) (hS : va_S (pr_A g) s.heap H locs)
    (kk : ∀ v T' I' L', Φ v T' I' L' → pr_G g (p, l, e, R, s, m, args, below, meth, c) nL Q (cs + mc') (sl + ms') (pc + 3) ls (v.toList ++ st) T' I' L')
    (kx : ∀ E T' I' L', Ψ E T' I' L' → pr_H g (p, l, e, R, s, m, args, below, meth, c) nL Q (cs + mc') (sl + ms') pc ls st E T' I' L') : W p l e R s m args below meth c H locs cs sl Q (F0 m pc lsS st0) := by
  intro T0 hT X0
  rcases hr T0 hT X0 with ⟨v, st₀, t, T', L0, h0, X', hL, e1, e2, ⟨⟨v2, T2, I2, L2, hv, hp, hb⟩, hF⟩, stp⟩ | ⟨q, st₀, t, T', L0, E, ce, h0, X', hL, e1, e2, ⟨⟨T2, I2, L2, hp, hb⟩, hF⟩, hce, hcv, hcl, stp⟩
  · cases hv
    obtain ⟨k1, k2, k3⟩ := vx_keep h0 e1 hS (fun _ _ h => h) (fun _ h => h) hL hF
    have hR2 : pr_Rep g T2 I2 L2 T'.heap := by rw [e1]; exact hb
    obtain ⟨t2, a1, b1⟩ := kk v T2 I2 L2 hp T'.heap (locs ++ L0) lsS hR2 hl k3 T' rfl X'
    exact ⟨t2, stp t2 a1, b1⟩
  · obtain ⟨k1, k2, k3⟩ := vx_keep h0 e1 hS (fun _ _ h => h) (fun _ h => h) hL hF
    have hR2 : pr_Rep g T2 I2 L2 T'.heap := by rw [e1]; exact hb
    obtain ⟨t2, a1, b1⟩ := kx E T2 I2 L2 hp T'.heap (locs ++ L0) lsS q ce hR2 hl k3 (by rw [e1]; exact hce) hcv hcl T' rfl X'
    exact ⟨t2, stp.trans a1, b1⟩
theorem pr_callV (hA : pr_Am g X M d mc ms) (hnL : nL = M.2.2.1) {index ci b n d' mc' ms' : Nat} {M' : pr_MD} {As stk : List Value} {q0 : vw_C} {z0 : Nat} {Φ : Option Value → pr_T → pr_I → pr_L → Prop} {Ψ : String → pr_T → pr_I → pr_L → Prop}
    (hM : pr_M g (pr_launch X) d' mc' ms' M' (.ref b :: As) T I L Φ Ψ) (hc : pr_cV M.1.cls index M' n) (hb : T.2.1 b = (ci, z0)) (hci : ci < 10) (hq : vwCl[ci]? = some q0) (hq1 : q0.1 = M'.1.cls) (hn : As.length = n) (hdd : d' + 1 ≤ d) (hcs : cs + mc' ≤ mc) (hsl : sl + ms' ≤ ms) (hstk : stk = As.reverse ++ .ref b :: st) (hst : (st.map fun v => v.category).sum ≤ 8) (hd : decode M.2.1 pc = .ok (.invokevirtual index, 3))
    (kk : ∀ v T' I' L', Φ v T' I' L' → pr_G g X nL Q (cs + mc') (sl + ms') (pc + 3) ls (v.toList ++ st) T' I' L')
    (kx : ∀ E T' I' L', Ψ E T' I' L' → pr_H g X nL Q (cs + mc') (sl + ms') pc ls st E T' I' L') : pr_G g X nL Q cs sl pc ls stk T I L := by
  subst hnL; subst hstk
  obtain ⟨p, l, e, R, s, m, args, below, meth, c⟩ := X
  intro H locs lsS hR hl hS
  obtain ⟨y', cc', maxL', ret', hh'⟩ := M'
  obtain ⟨⟨hc1, hc2, hc3, ⟨hc4, hc4b, hc4c⟩, hc5, hc6⟩, hc7, hc8⟩ := hc
  dsimp only at hc6 hc5 hc4 hc4b hc4c hq1
  subst hc6
  obtain ⟨hx, hbb, hml, hown, hts, hK, hSF, hlk, hnt, hzs, hret, hdf, hdl, hmc, hms⟩ := hA
  have hat := (hR.2.2 b _ (pr_ent_o (g := g) (I := I) (L := L) hci hb)).2
  have hP : va_P (pr_D g) vwCl [(b, .inr (ci, pr_obj T I b ci))] H := fun j q hq => by rw [pr_one hq]; exact hat
  have hrv := va_recv hK hP hq (q0 := 0) rfl
  rw [hq1] at hrv
  have hcw := cwV (R := R) (s := s) (args := args) (own := M.1.cls) (index := index) (C := y'.cls) (y := y') (bytes := cc') (maxL := maxL') (ret := ret') (ws := Cond.code y' cc' maxL' ret' :: pr_gw) (ws' := pr_gw) (rm := pr_rm d' mc' ms') (mc := mc') (ms := ms') (Ts := pr_gw) n hts
    (pr_goodgw (fun w hw => by
      rcases List.mem_append.mp hw with h | h
      · simp only [List.mem_cons, List.not_mem_nil, or_false] at h
        rcases h with rfl | rfl | rfl | rfl
        · exact hc1
        · exact hc7
        · exact hc8
        · exact hc2
      · rcases List.mem_cons.mp h with rfl | h
        · exact hc3
        · exact h)) rfl rfl rfl ⟨rfl, hc4, hc4b, hc4c⟩ ⟨Nat.le_trans hdd hdf, by show 8 + (maxL' + 11) + 37 * d' ≤ R.locals; omega⟩
  refine pr_go (vx_runV (As := As) (rest := st) ⟨hx, hbb, hml, hown, hts⟩ hM hcw ⟨pr_blind, hrv, fun U hU hW => ⟨rfl, pr_BB.at hR hK hSF hS hU hW⟩⟩ rfl hn hl.1 rfl (by show 2 * 0 + _ ≤ 8; omega) hd ⟨Nat.le_trans hcs hmc, Nat.le_trans hsl hms⟩) hl hS kk kx
theorem pr_callS (hA : pr_Am g X M d mc ms) (hnL : nL = M.2.2.1) {index n d' mc' ms' : Nat} {M' : pr_MD} {As stk : List Value} {Φ : Option Value → pr_T → pr_I → pr_L → Prop} {Ψ : String → pr_T → pr_I → pr_L → Prop}
    (hM : pr_M g (pr_launch X) d' mc' ms' M' As T I L Φ Ψ) (hc : pr_cS M.1.cls index M' n) (hn : As.length = n) (hdd : d' + 1 ≤ d) (hcs : cs + mc' ≤ mc) (hsl : sl + ms' ≤ ms) (hstk : stk = As.reverse ++ st) (hst : (st.map fun v => v.category).sum ≤ 8) (hd : decode M.2.1 pc = .ok (.invokestatic index, 3))
    (kk : ∀ v T' I' L', Φ v T' I' L' → pr_G g X nL Q (cs + mc') (sl + ms') (pc + 3) ls (v.toList ++ st) T' I' L')
    (kx : ∀ E T' I' L', Ψ E T' I' L' → pr_H g X nL Q (cs + mc') (sl + ms') pc ls st E T' I' L') : pr_G g X nL Q cs sl pc ls stk T I L := by
  subst hnL; subst hstk
  obtain ⟨p, l, e, R, s, m, args, below, meth, c⟩ := X
  intro H locs lsS hR hl hS
  obtain ⟨y', cc', maxL', ret', hh'⟩ := M'
  obtain ⟨⟨hc1, hc2, hc3, ⟨hc4, hc4b, hc4c⟩, hc5, hc6⟩, hc7⟩ := hc
  dsimp only at hc6 hc5 hc4 hc4b hc4c
  subst hc6
  obtain ⟨hx, hbb, hml, hown, hts, hK, hSF, hlk, hnt, hzs, hret, hdf, hdl, hmc, hms⟩ := hA
  have hcw := va_cwS (R := R) (s := s) (args := args) (own := M.1.cls) (index := index) (y := y') (bytes := cc') (maxL := maxL') (ret := ret') (ws := Cond.code y' cc' maxL' ret' :: pr_gw) (ws' := pr_gw) (rm := pr_rm d' mc' ms') (mc := mc') (ms := ms') (Ts := pr_gw) n hts
    (pr_goodgw (fun w hw => by
      rcases List.mem_append.mp hw with h | h
      · simp only [List.mem_cons, List.not_mem_nil, or_false] at h
        rcases h with rfl | rfl | rfl
        · exact hc1
        · exact hc7
        · exact hc2
      · rcases List.mem_cons.mp h with rfl | h
        · exact hc3
        · exact h)) rfl rfl rfl ⟨hc4, hc4b, hc4c⟩ ⟨Nat.le_trans hdd hdf, by show 8 + (maxL' + 11) + 37 * d' ≤ R.locals; omega⟩
  refine pr_go (vx_runS (As := As) (rest := st) ⟨hx, hbb, hml, hown, hts⟩ hM hcw ⟨pr_blind, fun U hU hW => ⟨rfl, pr_BB.at hR hK hSF hS hU hW⟩⟩ rfl hn hl.1 rfl (by show 2 * 0 + _ ≤ 8; omega) hd ⟨Nat.le_trans hcs hmc, Nat.le_trans hsl hms⟩) hl hS kk kx
theorem pr_vx {p : Program} {l : Launch} {e : Env} {R : Room} {s : State} {m : MethodId} {args : Array Value} {below : List Frame} {meth : Method} {c : Code} {H : Heap} {locs : List Loc} {mc' ms' : Nat} {k : JFrame} {st : List Value} {Qa : State → Outcome → State → Prop} {XC : String → State → State → Prop} {free : Addr → Prop} (h : va_Run p l e R s m args below meth c H locs cs sl mc' ms' k st Qa free) : vx_Run p l e R s m args below meth c H locs cs sl mc' ms' k st Qa XC free := fun T hT X => Or.inl (h T hT X)
/-- a constructor by a plain entry -/
theorem pr_callI (hA : pr_Am g X M d mc ms) (hnL : nL = M.2.2.1) {index b n d' mc' ms' : Nat} {M' : pr_MD} {As stk : List Value} {Φ : Option Value → pr_T → pr_I → pr_L → Prop}
    (hM : pr_M g (pr_launch X) d' mc' ms' M' (.ref b :: As) T I L Φ pr_no) (hc : pr_cB M.1.cls index M' n) (hc7 : Cond.instanceMethod M'.1 ∈ pr_gw) (hi1 : M'.1.name = "<init>") (hi2 : M'.2.2.2.1 = none) (hn : As.length = n) (hdd : d' + 1 ≤ d) (hcs : cs + mc' ≤ mc) (hsl : sl + ms' ≤ ms) (hstk : stk = As.reverse ++ .ref b :: st) (hst : (st.map fun v => v.category).sum ≤ 8) (hd : decode M.2.1 pc = .ok (.invokespecial index, 3))
    (kk : ∀ v T' I' L', Φ v T' I' L' → pr_G g X nL Q (cs + mc') (sl + ms') (pc + 3) ls (v.toList ++ st) T' I' L') : pr_G g X nL Q cs sl pc ls stk T I L := by
  subst hnL; subst hstk
  obtain ⟨p, l, e, R, s, m, args, below, meth, c⟩ := X
  intro H locs lsS hR hl hS
  obtain ⟨y', cc', maxL', ret', hh'⟩ := M'
  obtain ⟨hc1, hc2, hc3, ⟨hc4, hc4b, hc4c⟩, hc5, hc6⟩ := hc
  dsimp only at hc6 hc5 hc4 hc4b hc4c hi1 hi2
  subst hc6; subst hi2
  obtain ⟨hx, hbb, hml, hown, hts, hK, hSF, hlk, hnt, hzs, hret, hdf, hdl, hmc, hms⟩ := hA
  have hcw := cwI (R := R) (s := s) (args := args) (own := M.1.cls) (index := index) (y := y') (bytes := cc') (maxL := maxL') (ws := Cond.code y' cc' maxL' none :: pr_gw) (ws' := pr_gw) (rm := pr_rm d' mc' ms') (mc := mc') (ms := ms') (Ts := pr_gw) n hts
    (pr_goodgw (fun w hw => by
      rcases List.mem_cons.mp hw with rfl | h
      · exact hc3
      · exact h)) rfl rfl rfl (hts _ hc2) (hts _ hc1) (hts _ hc7) hi1 ⟨hc4, hc4b, hc4c⟩ ⟨Nat.le_trans hdd hdf, by show 8 + (maxL' + 11) + 37 * d' ≤ R.locals; omega⟩
  refine pr_go (Ψ := pr_no) (pr_vx (va_runI (As := As) (rest := st) ⟨hx, hbb, hml, hown, hts⟩ hM.met hcw ⟨pr_blind, fun U hU hW => ⟨rfl, pr_BB.at hR hK hSF hS hU hW⟩⟩ rfl hn hl.1 rfl (by show 2 * 0 + _ ≤ 8; omega) hd ⟨Nat.le_trans hcs hmc, Nat.le_trans hsl hms⟩)) hl hS kk (fun _ _ _ _ h => h.elim)
/-- a constructor of a nest mate -/
theorem pr_callN (hA : pr_Am g X M d mc ms) (hnL : nL = M.2.2.1) {index b n d' mc' ms' : Nat} {M' : pr_MD} {As stk : List Value} {Φ : Option Value → pr_T → pr_I → pr_L → Prop}
    (hM : pr_M g (pr_launch X) d' mc' ms' M' (.ref b :: As) T I L Φ pr_no) (hc1 : Cond.methodLinkNest M.1.cls index M'.1 RX7 ∈ pr_nest) (hc2 : Cond.initialized M'.1.cls ∈ pr_gw) (hc3 : pr_hd M' ∈ pr_gw) (hc4 : M'.1.cls ≠ "java/lang/invoke/MethodHandle" ∧ M'.1.cls ≠ "java/lang/invoke/VarHandle" ∧ (parseMethodDescriptor M'.1.desc).map (fun d => d.parameters.length) = some n) (hc5 : M'.2.2.1 ≤ 18) (hc6 : M'.2.2.2.2 = [])
    (hc7 : Cond.instanceMethod M'.1 ∈ pr_gw) (hi1 : M'.1.name = "<init>") (hi2 : M'.2.2.2.1 = none) (hn : As.length = n) (hdd : d' + 1 ≤ d) (hcs : cs + mc' ≤ mc) (hsl : sl + ms' ≤ ms) (hstk : stk = As.reverse ++ .ref b :: st) (hst : (st.map fun v => v.category).sum ≤ 8) (hd : decode M.2.1 pc = .ok (.invokespecial index, 3))
    (kk : ∀ v T' I' L', Φ v T' I' L' → pr_G g X nL Q (cs + mc') (sl + ms') (pc + 3) ls (v.toList ++ st) T' I' L') : pr_G g X nL Q cs sl pc ls stk T I L := by
  subst hnL; subst hstk
  obtain ⟨p, l, e, R, s, m, args, below, meth, c⟩ := X
  intro H locs lsS hR hl hS
  obtain ⟨y', cc', maxL', ret', hh'⟩ := M'
  dsimp only at hc6 hc5 hc4 hi1 hi2
  subst hc6; subst hi2
  obtain ⟨hx, hbb, hml, hown, hts, hK, hSF, hlk, hnt, hzs, hret, hdf, hdl, hmc, hms⟩ := hA
  have hcw := va_cnB (R := R) (s := s) (args := args) (own := M.1.cls) (host := RX7) (index := index) (y := y') (bytes := cc') (maxL := maxL') (ret := none) (ws := Cond.code y' cc' maxL' none :: pr_gw) (ws' := pr_gw) (rm := pr_rm d' mc' ms') (mc := mc') (ms := ms') (Ts := pr_gw) n hts
    (pr_goodgw (fun w hw => by
      rcases List.mem_cons.mp hw with rfl | h
      · exact hc3
      · exact h)) rfl rfl rfl (hSF.2.2.2.2.2.2.2.2.1 _ hc1) (hts _ hc2) hc4 ⟨Nat.le_trans hdd hdf, by show 8 + (maxL' + 11) + 37 * d' ≤ R.locals; omega⟩
  refine pr_go (Ψ := pr_no) (pr_vx (va_runIN (As := As) (rest := st) ⟨hx, hbb, hml, hown, hts⟩ hM.met ⟨hcw, hi1, hts _ hc7⟩ ⟨pr_blind, fun U hU hW => ⟨rfl, pr_BB.at hR hK hSF hS hU hW⟩⟩ rfl hn hl.1 rfl (by show 2 * 0 + _ ≤ 8; omega) hd ⟨Nat.le_trans hcs hmc, Nat.le_trans hsl hms⟩)) hl hS kk (fun _ _ _ _ h => h.elim)
theorem pr_objInit (hA : pr_Am g X M d mc ms) (hnL : nL = M.2.2.1) {index b : Nat} (h1 : Cond.methodLink M.1.cls index Lib.objectInit ∈ pr_gw) (h2 : Cond.instanceMethod Lib.objectInit ∈ pr_gw) (h3 : Cond.code Lib.objectInit ⟨#[0xb1]⟩ 1 none ∈ pr_gw) (hd1 : 1 ≤ d) (hst : (st.map fun v => v.category).sum ≤ 8) (hd : decode M.2.1 pc = .ok (.invokespecial index, 3)) (kk : pr_G g X nL Q cs sl (pc + 3) ls st T I L) : pr_G g X nL Q cs sl pc ls (.ref b :: st) T I L := by
  subst hnL
  obtain ⟨p, l, e, R, s, m, args, below, meth, c⟩ := X
  intro H locs lsS hR hl hS
  obtain ⟨hx, hbb, hml, hown, hts, hK, hSF, hlk, hnt, hzs, hret, hdf, hdl, hmc, hms⟩ := hA
  exact W.objInit hx hbb hown (hts _ h1) (hts _ h2) (hts _ h3) (g := F0 m pc lsS (.ref b :: st)) rfl (hl.1.trans hml.symm) rfl hd (Nat.le_trans hd1 hdf) (by show 2 * 0 + _ + 12 ≤ R.locals; omega) (kk H locs lsS hR hl hS)
theorem pr_mmax (hA : pr_Am g X M d mc ms) (hnL : nL = M.2.2.1) {index : Nat} {x y : Int32} (hw : Cond.methodLink M.1.cls index Lib.Math.max.name ∈ pr_gw ∧ Cond.static Lib.Math.max.name ∈ pr_gw ∧ Cond.initialized "java/lang/Math" ∈ pr_gw ∧ Cond.code Lib.Math.max.name Lib.Math.max.code 2 (some .int) ∈ pr_gw) (hd1 : 1 ≤ d) (hcs : cs ≤ mc) (hsl : sl ≤ ms) (hst : (st.map fun v => v.category).sum ≤ 8) (hd : decode M.2.1 pc = .ok (.invokestatic index, 3)) (kk : pr_G g X nL Q cs sl (pc + 3) ls (.int (if x < y then y else x) :: st) T I L) : pr_G g X nL Q cs sl pc ls (.int y :: .int x :: st) T I L := by
  subst hnL
  obtain ⟨p, l, e, R, s, m, args, below, meth, c⟩ := X
  intro H locs lsS hR hl hS
  obtain ⟨hx, hbb, hml, hown, hts, hK, hSF, hlk, hnt, hzs, hret, hdf, hdl, hmc, hms⟩ := hA
  exact va_mmax hx hbb (hml.trans hl.1.symm) hown (hts _ hw.1) (hts _ hw.2.1) (hts _ hw.2.2.1) (hts _ hw.2.2.2) (Nat.le_trans hd1 hdf) (by omega) (Nat.le_trans hcs hmc) (Nat.le_trans hsl hms) hd (kk H locs lsS hR hl hS)
theorem pr_mmin (hA : pr_Am g X M d mc ms) (hnL : nL = M.2.2.1) {index : Nat} {x y : Int32} (hw : Cond.methodLink M.1.cls index Lib.Math.min.name ∈ pr_gw ∧ Cond.static Lib.Math.min.name ∈ pr_gw ∧ Cond.initialized "java/lang/Math" ∈ pr_gw ∧ Cond.code Lib.Math.min.name Lib.Math.min.code 2 (some .int) ∈ pr_gw) (hd1 : 1 ≤ d) (hcs : cs ≤ mc) (hsl : sl ≤ ms) (hst : (st.map fun v => v.category).sum ≤ 8) (hd : decode M.2.1 pc = .ok (.invokestatic index, 3)) (kk : pr_G g X nL Q cs sl (pc + 3) ls (.int (if y < x then y else x) :: st) T I L) : pr_G g X nL Q cs sl pc ls (.int y :: .int x :: st) T I L := by
  subst hnL
  obtain ⟨p, l, e, R, s, m, args, below, meth, c⟩ := X
  intro H locs lsS hR hl hS
  obtain ⟨hx, hbb, hml, hown, hts, hK, hSF, hlk, hnt, hzs, hret, hdf, hdl, hmc, hms⟩ := hA
  exact va_mmin hx hbb (hml.trans hl.1.symm) hown (hts _ hw.1) (hts _ hw.2.1) (hts _ hw.2.2.1) (hts _ hw.2.2.2) (Nat.le_trans hd1 hdf) (by omega) (Nat.le_trans hcs hmc) (Nat.le_trans hsl hms) hd (kk H locs lsS hR hl hS)
theorem pr_mminl (hA : pr_Am g X M d mc ms) (hnL : nL = M.2.2.1) {index : Nat} {x y : Int64} (hw : Cond.methodLink M.1.cls index Lib.MathLoose.min_long.x ∈ pr_gw ∧ Cond.static Lib.MathLoose.min_long.x ∈ pr_gw ∧ Cond.initialized "java/lang/Math" ∈ pr_gw ∧ Cond.code Lib.MathLoose.min_long.x Lib.MathLoose.min_long.code 4 (some .long) ∈ pr_gw) (hd1 : 1 ≤ d) (hcs : cs ≤ mc) (hsl : sl ≤ ms) (hst : (st.map fun v => v.category).sum ≤ 8) (hd : decode M.2.1 pc = .ok (.invokestatic index, 3)) (kk : pr_G g X nL Q cs sl (pc + 3) ls (.long (if y < x then y else x) :: st) T I L) : pr_G g X nL Q cs sl pc ls (.long y :: .long x :: st) T I L := by
  subst hnL
  obtain ⟨p, l, e, R, s, m, args, below, meth, c⟩ := X
  intro H locs lsS hR hl hS
  obtain ⟨hx, hbb, hml, hown, hts, hK, hSF, hlk, hnt, hzs, hret, hdf, hdl, hmc, hms⟩ := hA
  exact va_mmin_long hx hbb (hml.trans hl.1.symm) hown (hts _ hw.1) (hts _ hw.2.1) (hts _ hw.2.2.1) (hts _ hw.2.2.2) (Nat.le_trans hd1 hdf) (by omega) (Nat.le_trans hcs hmc) (Nat.le_trans hsl hms) hd (kk H locs lsS hR hl hS)
theorem pr_ireturn (hA : pr_Am g X M d mc ms) {Φ : Option Value → pr_T → pr_I → pr_L → Prop} {Ψ : String → pr_T → pr_I → pr_L → Prop} {v : Int32} {ty : FieldType} (hr : M.2.2.2.1 = some ty) (hn : narrow ty (.int v) = .int v) (hcs : cs ≤ mc) (hsl : sl ≤ ms) (hd : decode M.2.1 pc = .ok (.ireturn, 1)) (hΦ : Φ (some (.int v)) T I L) : pr_G g X nL (pr_MQ g X Φ Ψ mc ms) cs sl pc ls [.int v] T I L := by
  obtain ⟨p, l, e, R, s, m, args, below, meth, c⟩ := X
  intro H locs lsS hR hl hS
  obtain ⟨hx, hbb, hml, hown, hts, hK, hSF, hlk, hnt, hzs, hret, hdf, hdl, hmc, hms⟩ := hA
  refine W.widen hcs hsl (vx_ret ?_)
  exact W.zret hx hbb (hret.trans hr) hn (fun t ht hW => ⟨⟨_, T, I, L, rfl, hΦ, by rw [ht]; exact hR⟩, hS.F ht⟩) hS.2.2 hd
theorem pr_lreturn (hA : pr_Am g X M d mc ms) {Φ : Option Value → pr_T → pr_I → pr_L → Prop} {Ψ : String → pr_T → pr_I → pr_L → Prop} {v : Int64} (hr : M.2.2.2.1 = some .long) (hcs : cs ≤ mc) (hsl : sl ≤ ms) (hd : decode M.2.1 pc = .ok (.lreturn, 1)) (hΦ : Φ (some (.long v)) T I L) : pr_G g X nL (pr_MQ g X Φ Ψ mc ms) cs sl pc ls [.long v] T I L := by
  obtain ⟨p, l, e, R, s, m, args, below, meth, c⟩ := X
  intro H locs lsS hR hl hS
  obtain ⟨hx, hbb, hml, hown, hts, hK, hSF, hlk, hnt, hzs, hret, hdf, hdl, hmc, hms⟩ := hA
  refine W.widen hcs hsl (vx_ret ?_)
  exact W.lret hx hbb (hret.trans hr) (fun t ht hW => ⟨⟨_, T, I, L, rfl, hΦ, by rw [ht]; exact hR⟩, hS.F ht⟩) hS.2.2 hd
theorem pr_areturn (hA : pr_Am g X M d mc ms) {Φ : Option Value → pr_T → pr_I → pr_L → Prop} {Ψ : String → pr_T → pr_I → pr_L → Prop} {b : Nat} {rt : FieldType} (hr : M.2.2.2.1 = some rt) (hrt : (∃ n, rt = .object n) ∨ ∃ t, rt = .array t) (hcs : cs ≤ mc) (hsl : sl ≤ ms) (hd : decode M.2.1 pc = .ok (.areturn, 1)) (hΦ : Φ (some (.ref b)) T I L) : pr_G g X nL (pr_MQ g X Φ Ψ mc ms) cs sl pc ls [.ref b] T I L := by
  obtain ⟨p, l, e, R, s, m, args, below, meth, c⟩ := X
  intro H locs lsS hR hl hS
  obtain ⟨hx, hbb, hml, hown, hts, hK, hSF, hlk, hnt, hzs, hret, hdf, hdl, hmc, hms⟩ := hA
  refine W.widen hcs hsl (vx_ret ?_)
  exact W.aret hx hbb (hret.trans hr) hrt (Or.inr ⟨b, rfl⟩) (fun t ht hW => ⟨⟨_, T, I, L, rfl, hΦ, by rw [ht]; exact hR⟩, hS.F ht⟩) hS.2.2 hd
theorem pr_return (hA : pr_Am g X M d mc ms) {Φ : Option Value → pr_T → pr_I → pr_L → Prop} {Ψ : String → pr_T → pr_I → pr_L → Prop} (hr : M.2.2.2.1 = none) (hcs : cs ≤ mc) (hsl : sl ≤ ms) (hd : decode M.2.1 pc = .ok (.return_, 1)) (hΦ : Φ none T I L) : pr_G g X nL (pr_MQ g X Φ Ψ mc ms) cs sl pc ls [] T I L := by
  obtain ⟨p, l, e, R, s, m, args, below, meth, c⟩ := X
  intro H locs lsS hR hl hS
  obtain ⟨hx, hbb, hml, hown, hts, hK, hSF, hlk, hnt, hzs, hret, hdf, hdl, hmc, hms⟩ := hA
  refine W.widen hcs hsl (vx_ret ?_)
  exact W.vret hx hbb (hret.trans hr) (fun t ht hW => ⟨⟨_, T, I, L, rfl, hΦ, by rw [ht]; exact hR⟩, hS.F ht⟩) hS.2.2 hd
/-- not caught here -/
theorem pr_out (hA : pr_Am g X M d mc ms) (htab : pr_table X = []) {Φ : Option Value → pr_T → pr_I → pr_L → Prop} {Ψ : String → pr_T → pr_I → pr_L → Prop} {E : String} (hcs : cs ≤ mc) (hsl : sl ≤ ms) (hΨ : Ψ E T I L) : pr_H g X nL (pr_MQ g X Φ Ψ mc ms) cs sl pc ls st E T I L := by
  obtain ⟨p, l, e, R, s, m, args, below, meth, c⟩ := X
  intro H locs lsS q ce hR hl hS hce hcv hcl
  obtain ⟨hx, hbb, hml, hown, hts, hK, hSF, hlk, hnt, hzs, hret, hdf, hdl, hmc, hms⟩ := hA
  have htab' : c.exceptionTable.toList = [] := htab
  intro T0 hT X0
  obtain ⟨st1, hrun, hend, hW, hsm⟩ := X0.leaveThrown q (g := F0 m pc lsS st) rfl rfl rfl (fun x hx => by rw [htab'] at hx; cases hx) hlk
  have hheap : (T0.setFrames (.throwing q :: below)).heap = H := hT
  refine ⟨_, st1, .threw q, hrun, hend, Or.inr ⟨q, rfl, E, ce, locs, ⟨⟨T, I, L, hΨ, by rw [hheap]; exact hR⟩, hS.F hheap⟩, by rw [hheap]; exact hce, hcv, hcl, hW, hsm.mono hcs hsl, hS.2.2⟩⟩
/-- what 'throw new E("text")' needs of the tables -/
def pr_thw (own : String) (ik is ic : Nat) (E text : String) (names : List String) (k : Nat) : Prop := Bundle.fit E = true ∧ (∀ n ∈ names, Bundle.fit n = true) ∧ Cond.classLink own ik E ∈ pr_gw ∧ Cond.initialized E ∈ pr_gw ∧ (own, is, text, k) ∈ pr_strs ∧ (∀ w ∈ vx_atS own ic E names, w ∈ pr_gw ∨ w ∈ pr_nest) ∧ ∀ w ∈ Cond.classLink own ik E :: Cond.initialized E :: vx_atS own ic E names, vx_ot w = true
theorem pr_nest_tab : ∀ w ∈ pr_nest, w.onTables = true := by decide +kernel
theorem pr_throw (hA : pr_Am g X M d mc ms) (htab : pr_table X = []) (hnL : nL = M.2.2.1) {Φ : Option Value → pr_T → pr_I → pr_L → Prop} {Ψ : String → pr_T → pr_I → pr_L → Prop} {ik is ic k : Nat} {E text : String} {names : List String} (hw : pr_thw M.1.cls ik is ic E text names k) (hd3 : names.length + 3 < d) (hst : st = []) (hcs : cs + 1 ≤ mc) (hsl : sl + 6 ≤ ms) (hnm : names.length ≤ 3)
    (d0 : decode M.2.1 pc = .ok (.new ik, 3)) (d3 : decode M.2.1 (pc + 3) = .ok (.dup, 1)) (d4 : decode M.2.1 (pc + 4) = .ok (.ldc is, 2)) (d6 : decode M.2.1 (pc + 6) = .ok (.invokespecial ic, 3)) (d9 : decode M.2.1 (pc + 9) = .ok (.athrow, 1))
    (hΨ : ∀ N, T.1 ≤ N → Ψ E (N, T.2) I L) : pr_G g X nL (pr_MQ g X Φ Ψ mc ms) cs sl pc ls st T I L := by
  subst hnL; subst hst
  obtain ⟨p, l, e, R, s, m, args, below, meth, c⟩ := X
  intro H locs lsS hR hl hS
  obtain ⟨hx, hbb, hml, hown, hts, hK, hSF, hlk, hnt, hzs, hret, hdf, hdl, hmc, hms⟩ := hA
  have htab' : c.exceptionTable.toList = [] := htab
  obtain ⟨w1, w2, w3, w4, w5, w6, w7⟩ := hw
  refine vx_throwS hx hbb hnt (own := M.1.cls) (cls := E) (text := text) (names := names) (ik := ik) (is := is) (ic := ic) (sa := pr_ak g k) (A := pr_A g) hown w1 w2 (hts _ w3) (hts _ w4) (hSF.2.2.1 _ w5)
    (fun w hw => by
      rcases w6 w hw with h | h
      · exact hts _ h
      · exact va_Nw.use (pr_nest_tab w h) (hSF.2.2.2.2.2.2.2.2.1 _ h)) w7 hSF.2.2.2.1 hSF.2.2.2.2.1 hS (hl.1.trans hml.symm) d0 d3 d4 d6 d9 (fun x hx => by rw [htab'] at hx; cases hx) (Nat.lt_of_lt_of_le hd3 hdf) ?_ (Nat.le_trans hcs hmc) (Nat.le_trans hsl hms) hlk (fun t ha hz ho => ?_) hS.2.2 hcs hsl
  · simp only [List.map_nil, List.sum_nil]
    have : 37 * (names.length + 4) ≤ 37 * d := Nat.mul_le_mul_left 37 hd3
    omega
  · have hn : T.1 ≤ t.heap.size := by rw [← hR.1]; exact hz
    refine ⟨⟨(t.heap.size, T.2), I, L, hΨ _ hn, rfl, Nat.le_trans hR.2.1 hn, fun a e9 he9 => ?_⟩, Nat.le_trans hS.1 hz, fun q h1 h2 => ?_⟩
    · have he : pr_ent g T I L a = some e9 := by rw [← he9]; exact pr_ent_congr rfl rfl rfl rfl
      obtain ⟨g1, g2⟩ := hR.2.2 a e9 he
      exact ⟨g1, g2.kept (ho a g2.lt)⟩
    · rw [ho q (Nat.lt_of_lt_of_le h1 hS.1)]
      exact hS.2.1 q h1 h2
end PRC
