/-! CALLS ON A BUILDER: inherited methods, private ones, the superclass' own -/
/-- a private method is selected, whatever the object -/
theorem jselP {s : State} {args : Array Value} {C : String} {x y : MethodName} (hs : (Cond.selects C x x).before args s = true) (hp : (Cond.privateMethod y).before #[] s = true) (hi : (Cond.instanceMethod y).before args s = true) (hc : y.cls = x.cls) (hy : y.cls ≠ "java/lang/invoke/MethodHandle" ∧ y.cls ≠ "java/lang/invoke/VarHandle") : (Cond.selects C y y).before args s = true := by
  obtain ⟨c, r, m0, h1, h2, h3, h4, k, h5, h6⟩ := Cond.selects_spec hs
  obtain ⟨mk, methM, hnamed, hmethM, -, -⟩ := Cond.instanceMethod_spec hi
  have hfound : s.methodFound? y.cls y.name y.desc = some mk := State.methodFound?_of_named hnamed hy
  have hcls : mk.cls = m0.cls := Option.some.inj ((findClass_of_methodNamed hnamed).symm.trans (by rw [hc]; exact findClass_of_methodNamed h3))
  have hsel : selectMethod {} s.vm c mk = .method mk := selectMethod_private hmethM (Cond.privateMethod_at hp mk methM hnamed hmethM)
  simp only [Cond.before, Cond.holds, Cond.value, h1, hfound, hnamed, hsel, hcls, h5]
  simp; exact h6
/-- what an inherited call needs of the tables, but for its selection -/
def jcU (own : String) (index : Nat) (x : MethodName) (M : pr_MD) (n : Nat) : Prop := Cond.methodLink own index x ∈ pr_gw ∧ x.cls = RJ5 ∧ Cond.sameMethod RJ5 RJ5 x.name x.desc ∈ pr_gw ∧ (∃ b0 m0 r0, Cond.code x b0 m0 r0 ∈ pr_gw) ∧ Cond.instanceMethod x ∈ pr_gw ∧ Cond.initialized M.1.cls ∈ pr_gw ∧ pr_hd M ∈ pr_gw ∧ Cond.instanceMethod M.1 ∈ pr_gw ∧ (parseMethodDescriptor x.desc).map (fun d => d.parameters.length) = some n ∧ M.2.2.1 ≤ 18 ∧ M.2.2.2.2 = []
section PRU
variable {g : pr_C} {X : pr_X} {M : pr_MD} {d mc ms : Nat} {nL : Nat} {Q : State → Prop} {cs sl pc : Nat} {ls st : List Value} {T : pr_T} {I : pr_I} {L : pr_L}
theorem pr_callU0 (hA : pr_Am g X M d mc ms) (hnL : nL = M.2.2.1) {index b n z0 d' mc' ms' : Nat} {x : MethodName} {M' : pr_MD} {As stk : List Value} {Φ : Option Value → pr_T → pr_I → pr_L → Prop}
    (hM : pr_M g (pr_launch X) d' mc' ms' M' (.ref b :: As) T I L Φ pr_no) (hc : jcU M.1.cls index x M' n) (hsel : (Cond.selects RJ4 x M'.1).before X.2.2.2.2.2.2.1 X.2.2.2.2.1 = true) (hb : T.2.1 b = (8, z0)) (hn : As.length = n) (hdd : d' + 1 ≤ d) (hcs : cs + mc' ≤ mc) (hsl : sl + ms' ≤ ms) (hstk : stk = As.reverse ++ .ref b :: st) (hst : (st.map fun v => v.category).sum ≤ 8) (hd : decode M.2.1 pc = .ok (.invokevirtual index, 3))
    (kk : ∀ v T' I' L', Φ v T' I' L' → pr_G g X nL Q (cs + mc') (sl + ms') (pc + 3) ls (v.toList ++ st) T' I' L') : pr_G g X nL Q cs sl pc ls stk T I L := by
  subst hnL; subst hstk
  obtain ⟨p, l, e, R, s, m, args, below, meth, c⟩ := X
  intro H locs lsS hR hl hS
  obtain ⟨y', cc', maxL', ret', hh'⟩ := M'
  obtain ⟨hc1, hc2, hc3, ⟨b0, m0, r0, hc4⟩, hc5, hc6, hc7, hc8, hc9, hc10, hc11⟩ := hc
  dsimp only at hc11 hc10 hc6 hc8 hsel
  subst hc11
  obtain ⟨hx, hbb, hml, hown, hts, hK, hSF, hlk, hnt, hzs, hret, hdf, hdl, hmc, hms⟩ := hA
  have hat := (hR.2.2 b _ (pr_ent_o (g := g) (I := I) (L := L) (show 8 < 10 by decide) hb)).2
  have hP : va_P (pr_D g) vwCl [(b, .inr (8, pr_obj T I b 8))] H := fun j q hq => by rw [pr_one hq]; exact hat
  have hrv := va_recv hK hP (ci := 8) (q := (RJ4, TJ4, 4)) rfl (q0 := 0) rfl
  have hx5 : (⟨RJ5, x.name, x.desc⟩ : MethodName) = x := by rw [← hc2]
  have hG : GoodIn pr_gw (Cond.code y' cc' maxL' ret' :: pr_gw) := pr_goodgw (fun w hw => by
      rcases List.mem_cons.mp hw with rfl | h
      · exact hc7
      · exact h)
  have hcw : va_CU R s args M.1.cls RJ4 RJ5 index x y' cc' maxL' ret' (Cond.code y' cc' maxL' ret' :: pr_gw) (pr_rm d' mc' ms') mc' ms' n := by
    refine ⟨⟨rfl, rfl, Nat.le_trans hdd hdf, by show 8 + (maxL' + 11) + 37 * d' ≤ R.locals; omega, pay_in hts hG, List.mem_cons_self⟩, hts _ hc7, hts _ hc6, ⟨by decide, by decide⟩, fun sig h => ?_, hts _ hc1, by rw [hc2]; exact hts _ hc3, by rw [hx5]; exact va_Decl.of (hts _ hc5) (hts _ hc4), hsel, hts _ hc8⟩
    have h2 := hc9
    rw [h] at h2
    exact (Option.some.inj h2).symm
  refine pr_go (Ψ := pr_no) (pr_vx (va_runU (As := As) (rest := st) ⟨hx, hbb, hml, hown, hts⟩ hM.met hcw ⟨pr_blind, hrv, fun U hU hW => ⟨rfl, pr_BB.at hR hK hSF hS hU hW⟩⟩ rfl hn hl.1 rfl (by show 2 * 0 + _ ≤ 8; omega) hd ⟨Nat.le_trans hcs hmc, Nat.le_trans hsl hms⟩)) hl hS kk (fun _ _ _ _ h => h.elim)
/-- an inherited method that the tables select -/
theorem pr_callU (hA : pr_Am g X M d mc ms) (hnL : nL = M.2.2.1) {index b n z0 d' mc' ms' : Nat} {x : MethodName} {M' : pr_MD} {As stk : List Value} {Φ : Option Value → pr_T → pr_I → pr_L → Prop}
    (hM : pr_M g (pr_launch X) d' mc' ms' M' (.ref b :: As) T I L Φ pr_no) (hc : jcU M.1.cls index x M' n) (hsel : Cond.selects RJ4 x M'.1 ∈ pr_gw) (hb : T.2.1 b = (8, z0)) (hn : As.length = n) (hdd : d' + 1 ≤ d) (hcs : cs + mc' ≤ mc) (hsl : sl + ms' ≤ ms) (hstk : stk = As.reverse ++ .ref b :: st) (hst : (st.map fun v => v.category).sum ≤ 8) (hd : decode M.2.1 pc = .ok (.invokevirtual index, 3))
    (kk : ∀ v T' I' L', Φ v T' I' L' → pr_G g X nL Q (cs + mc') (sl + ms') (pc + 3) ls (v.toList ++ st) T' I' L') : pr_G g X nL Q cs sl pc ls stk T I L :=
  pr_callU0 hA hnL hM hc (by
    obtain ⟨p, l, e, R, s, m, args, below, meth, c⟩ := X
    exact hA.2.2.2.2.1 _ hsel) hb hn hdd hcs hsl hstk hst hd kk
theorem jgw_lat : Cond.selects RJ4 yJ5_isLatin1_aae02 yJ5_isLatin1_aae02 ∈ pr_gw := List.mem_filter.mpr ⟨by decide +kernel, by decide +kernel⟩
/-- a private method of the builder -/
theorem pr_callP (hA : pr_Am g X M d mc ms) (hnL : nL = M.2.2.1) {index b n z0 d' mc' ms' : Nat} {M' : pr_MD} {As stk : List Value} {Φ : Option Value → pr_T → pr_I → pr_L → Prop}
    (hM : pr_M g (pr_launch X) d' mc' ms' M' (.ref b :: As) T I L Φ pr_no) (hc : jcU M.1.cls index M'.1 M' n) (hprv : M'.1 ∈ pr_prv) (hb : T.2.1 b = (8, z0)) (hn : As.length = n) (hdd : d' + 1 ≤ d) (hcs : cs + mc' ≤ mc) (hsl : sl + ms' ≤ ms) (hstk : stk = As.reverse ++ .ref b :: st) (hst : (st.map fun v => v.category).sum ≤ 8) (hd : decode M.2.1 pc = .ok (.invokevirtual index, 3))
    (kk : ∀ v T' I' L', Φ v T' I' L' → pr_G g X nL Q (cs + mc') (sl + ms') (pc + 3) ls (v.toList ++ st) T' I' L') : pr_G g X nL Q cs sl pc ls stk T I L :=
  pr_callU0 hA hnL hM hc (by
    have hcl := hc.2.1
    have hin := hc.2.2.2.2.1
    obtain ⟨p, l, e, R, s, m, args, below, meth, c⟩ := X
    obtain ⟨hx, hbb, hml, hown, hts, hK, hSF, -⟩ := hA
    exact jselP (hts _ jgw_lat) (hSF.2.2.2.2.2.2.2.2.2.2.2.2.1 _ hprv) (hts _ hin) hcl (by rw [hcl]; exact ⟨by decide, by decide⟩)) hb hn hdd hcs hsl hstk hst hd kk
/-- the superclass' own method, by invokespecial -/
theorem pr_callSU (hA : pr_Am g X M d mc ms) (hnL : nL = M.2.2.1) {index b n z0 d' mc' ms' : Nat} {M' : pr_MD} {As stk : List Value} {Φ : Option Value → pr_T → pr_I → pr_L → Prop}
    (hM : pr_M g (pr_launch X) d' mc' ms' M' (.ref b :: As) T I L Φ pr_no) (hown : M.1.cls = RJ4) (hsup : Cond.superclass RJ4 RJ5 ∈ pr_gw) (hno : M'.1.name ≠ "<init>") (hc : jcU M.1.cls index M'.1 M' n) (hb : T.2.1 b = (8, z0)) (hn : As.length = n) (hdd : d' + 1 ≤ d) (hcs : cs + mc' ≤ mc) (hsl : sl + ms' ≤ ms) (hstk : stk = As.reverse ++ .ref b :: st) (hst : (st.map fun v => v.category).sum ≤ 8) (hd : decode M.2.1 pc = .ok (.invokespecial index, 3))
    (kk : ∀ v T' I' L', Φ v T' I' L' → pr_G g X nL Q (cs + mc') (sl + ms') (pc + 3) ls (v.toList ++ st) T' I' L') : pr_G g X nL Q cs sl pc ls stk T I L := by
  subst hnL; subst hstk
  obtain ⟨p, l, e, R, s, m, args, below, meth, c⟩ := X
  intro H locs lsS hR hl hS
  obtain ⟨y', cc', maxL', ret', hh'⟩ := M'
  obtain ⟨hc1, hc2, hc3, ⟨b0, m0, r0, hc4⟩, hc5, hc6, hc7, hc8, hc9, hc10, hc11⟩ := hc
  dsimp only at hc11 hc10 hc6 hc8 hno hc2
  subst hc11
  obtain ⟨hx, hbb, hml, hown1, hts, hK, hSF, hlk, hnt, hzs, hret, hdf, hdl, hmc, hms⟩ := hA
  have hat := (hR.2.2 b _ (pr_ent_o (g := g) (I := I) (L := L) (show 8 < 10 by decide) hb)).2
  have hP : va_P (pr_D g) vwCl [(b, .inr (8, pr_obj T I b 8))] H := fun j q hq => by rw [pr_one hq]; exact hat
  have hrv := va_recv hK hP (ci := 8) (q := (RJ4, TJ4, 4)) rfl (q0 := 0) rfl
  have hG : GoodIn pr_gw (Cond.code y' cc' maxL' ret' :: pr_gw) := pr_goodgw (fun w hw => by
      rcases List.mem_cons.mp hw with rfl | h
      · exact hc7
      · exact h)
  have hcw : va_CS R s args M.1.cls index y' cc' maxL' ret' (Cond.code y' cc' maxL' ret' :: pr_gw) (pr_rm d' mc' ms') mc' ms' n := by
    refine ⟨⟨rfl, rfl, Nat.le_trans hdd hdf, by show 8 + (maxL' + 11) + 37 * d' ≤ R.locals; omega, pay_in hts hG, List.mem_cons_self⟩, hts _ hc1, by rw [hc2]; exact hts _ hc3, by rw [hown, hc2]; exact hts _ hsup, hts _ hc8, hts _ hc6, hts _ hc7, hno, fun sig h => ?_⟩
    have h2 := hc9
    rw [h] at h2
    exact (Option.some.inj h2).symm
  have hK8 := hK.1 8 (RJ4, TJ4, 4) rfl
  refine pr_go (Ψ := pr_no) (pr_vx (va_runSU (C := RJ4) ⟨hK8.2.1, hK8.2.2⟩ (As := As) (rest := st) ⟨hx, hbb, hml, hown1, hts⟩ hM.met hcw ⟨pr_blind, hrv, fun U hU hW => ⟨rfl, pr_BB.at hR hK hSF hS hU hW⟩⟩ rfl hn hl.1 rfl (by show 2 * 0 + _ ≤ 8; omega) hd ⟨Nat.le_trans hcs hmc, Nat.le_trans hsl hms⟩)) hl hS kk (fun _ _ _ _ h => h.elim)
end PRU
