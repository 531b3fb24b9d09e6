/-! METHODS WITH HANDLERS: entry, catching, being called -/
theorem pr_ofGH {g : pr_C} {l : Launch} {d mc ms : Nat} {M : pr_MD} {args : List Value} {T : pr_T} {I : pr_I} {L : pr_L} {Φ : Option Value → pr_T → pr_I → pr_L → Prop} {Ψ : String → pr_T → pr_I → pr_L → Prop} {h0 : Nat × Nat × Nat × Nat} {ht : List (Nat × Nat × Nat × Nat)} (hy : plainName M.1.cls = true) (hh : M.2.2.2.2 = h0 :: ht) (hl : l.stackTraces = false) (hlen : (lg_sl args).length ≤ M.2.2.1)
    (body : ∀ X : pr_X, pr_Am g X M d mc ms → pr_launch X = l → pr_mname X = M.1.name → pr_table X = tableOf (h0 :: ht) → pr_G g X M.2.2.1 (pr_MQ g X Φ Ψ mc ms) 0 0 0 (pr_en args M.2.2.1) [] T I L) : pr_M g l d mc ms M args T I L Φ Ψ := by
  obtain ⟨y, cc, maxL, ret, hh0⟩ := M
  dsimp only at hh hlen hy
  subst hh
  refine vx_ofWH (cc := cc) (maxL := maxL) (ret := ret) (hh := h0 :: ht) hy rfl ?_
  intro p e s m args0 below meth c s₁ B hml hP
  obtain ⟨rfl, hR, hK, hSF⟩ := hP
  have hts := atoms_spec (ws := Cond.codeWith y cc maxL ret (h0 :: ht) :: pr_gw) B.pre
  have htab := vx_table (x := y) B (hts _ List.mem_cons_self)
  have hAm : pr_Am g (p, l, e, pr_rm d mc ms, s, m, args.toArray, below, meth, c) (y, cc, maxL, ret, h0 :: ht) d mc ms :=
    ⟨B.exec, B.bytes, hml, findClass_of_methodNamed B.named, fun w hw => hts w (List.mem_cons_of_mem _ hw), hK, hSF, B.notSynchronized, hl, by rw [hR.1]; exact hR.2.1, B.returns, Nat.le_refl _, Nat.le_refl _, Nat.le_refl _, Nat.le_refl _⟩
  have hnm : meth.name = y.name := (name_of_methodNamed B.named B.method).1
  have hb := body (p, l, e, pr_rm d mc ms, s, m, args.toArray, below, meth, c) hAm rfl hnm htab
  have hle := lv_entry args (n := maxL) hlen
  rw [lg_entry_eq]
  exact hb s.heap [] _ hR (pr_lo_en hle) va_S.rf
section CAT
variable {g : pr_C} {X : pr_X} {M : pr_MD} {d mc ms : Nat} {nL : Nat} {Q : State → Prop} {cs sl pc : Nat} {ls st : List Value} {T : pr_T} {I : pr_I} {L : pr_L}
/-- an exception is caught by this row of the table -/
theorem pr_catch (hA : pr_Am g X M d mc ms) {E : String} (pre : List ExceptionTableEntry) (x : ExceptionTableEntry) (suf : List ExceptionTableEntry) (hsplit : pr_table X = pre ++ x :: suf) (hpass : pre = [] ∨ (E = eIAE ∧ ∃ z, pre = [z] ∧ z.catchType ≠ 0 ∧ Cond.classLink M.1.cls z.catchType eIOO ∈ pr_gw)) (hx : covers x pc = true) (h0 : x.catchType ≠ 0)
    (hlink : Cond.classLink M.1.cls x.catchType E ∈ pr_gw) (hcast : Cond.castable E E ∈ pr_nest) (kk : ∀ q, pr_G g X nL Q cs sl x.handlerPc ls [.ref q] T I L) : pr_H g X nL Q cs sl pc ls st E T I L := by
  obtain ⟨p, l, e, R, s, m, args, below, meth, c⟩ := X
  intro H locs lsS q ce hR hl hS hce hcv hcl
  obtain ⟨hx', hbb, hml, hown, hts, hK, hSF, hlk, hnt, hzs, hret, hdf, hdl, hmc, hms⟩ := hA
  refine vx_catch hown pre x suf hsplit (fun z hz => ?_) hx h0 (hts _ hlink) (va_Nw.use (pr_nest_tab _ hcast) (hSF.2.2.2.2.2.2.2.2.1 _ hcast)) hce hcv hcl (kk q H locs lsS hR hl hS)
  rcases hpass with h | ⟨h1, y, h2, h3, h4⟩
  · rw [h] at hz; exact absurd hz List.not_mem_nil
  · rw [h2] at hz
    rw [List.mem_singleton.mp hz, h1]
    exact Or.inr ⟨h3, eIOO, hts _ h4, hSF.2.2.2.2.2.2.2.1⟩
/-- a static method with handlers is called -/
theorem pr_callSH (hA : pr_Am g X M d mc ms) (hnL : nL = M.2.2.1) {index n d' mc' ms' : Nat} {M' : pr_MD} {As stk : List Value} {Φ : Option Value → pr_T → pr_I → pr_L → Prop} {h0 : Nat × Nat × Nat × Nat} {ht : List (Nat × Nat × Nat × Nat)}
    (hM : pr_M g (pr_launch X) d' mc' ms' M' As T I L Φ pr_no) (hc1 : Cond.methodLink M.1.cls index M'.1 ∈ pr_gw) (hc2 : Cond.initialized M'.1.cls ∈ pr_gw) (hc3 : pr_hd M' ∈ pr_gw) (hc4 : M'.1.cls ≠ "java/lang/invoke/MethodHandle" ∧ M'.1.cls ≠ "java/lang/invoke/VarHandle" ∧ (parseMethodDescriptor M'.1.desc).map (fun d => d.parameters.length) = some n) (hc5 : M'.2.2.1 ≤ 18) (hc6 : M'.2.2.2.2 = h0 :: ht) (hc7 : Cond.static M'.1 ∈ pr_gw)
    (hn : As.length = n) (hdd : d' + 1 ≤ d) (hcs : cs + mc' ≤ mc) (hsl : sl + ms' ≤ ms) (hstk : stk = As.reverse ++ st) (hst : (st.map fun v => v.category).sum ≤ 8) (hd : decode M.2.1 pc = .ok (.invokestatic index, 3))
    (kk : ∀ v T' I' L', Φ v T' I' L' → pr_G g X nL Q (cs + mc') (sl + ms') (pc + 3) ls (v.toList ++ st) T' I' L') : pr_G g X nL Q cs sl pc ls stk T I L := by
  subst hnL; subst hstk
  obtain ⟨p, l, e, R, s, m, args, below, meth, c⟩ := X
  intro H locs lsS hR hl hS
  obtain ⟨y', cc', maxL', ret', hh'⟩ := M'
  dsimp only at hc6 hc5 hc4 hc2 hc7
  subst hc6
  obtain ⟨hx, hbb, hml, hown, hts, hK, hSF, hlk, hnt, hzs, hret, hdf, hdl, hmc, hms⟩ := hA
  have hcw := vx_cwSW (R := R) (s := s) (args := args) (own := M.1.cls) (index := index) (y := y') (bytes := cc') (maxL := maxL') (ret := ret') (hh := h0 :: ht) (ws := Cond.codeWith y' cc' maxL' ret' (h0 :: ht) :: pr_gw) (ws' := pr_gw) (rm := pr_rm d' mc' ms') (mc := mc') (ms := ms') (Ts := pr_gw) n hts
    (pr_goodgw (fun w hw => by
      rcases List.mem_append.mp hw with h | h
      · simp only [List.mem_cons, List.not_mem_nil, or_false] at h
        rcases h with rfl | rfl | rfl
        · exact hc1
        · exact hc7
        · exact hc2
      · rcases List.mem_cons.mp h with rfl | h
        · exact hc3
        · exact h)) rfl rfl rfl hc4 ⟨Nat.le_trans hdd hdf, by show 8 + (maxL' + 11) + 37 * d' ≤ R.locals; omega⟩
  refine pr_go (Ψ := pr_no) (pr_vx (vx_runSW (As := As) (rest := st) ⟨hx, hbb, hml, hown, hts⟩ hM.met hcw ⟨pr_blind, fun U hU hW => ⟨rfl, pr_BB.at hR hK hSF hS hU hW⟩⟩ rfl hn hl.1 rfl (by show 2 * 0 + _ ≤ 8; omega) hd ⟨Nat.le_trans hcs hmc, Nat.le_trans hsl hms⟩)) hl hS kk (fun _ _ _ _ h => h.elim)
end CAT
