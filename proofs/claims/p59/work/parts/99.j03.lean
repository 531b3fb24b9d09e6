/-! RULES THAT THE CLASS DID NOT NEED: rests, null, dup_x1, abs, the script -/
section PRK
variable {g : pr_C} {X : pr_X} {M : pr_MD} {d mc ms : Nat} {nL : Nat} {Q : State → Prop} {cs sl pc : Nat} {ls st : List Value} {T : pr_T} {I : pr_I} {L : pr_L}
theorem pr_irem (hA : pr_Am g X M d mc ms) {x y z : Int32} (hd : decode M.2.1 pc = .ok (.irem, 1)) (hne : ¬ y = 0) (hz : x - x / y * y = z) (k : pr_G g X nL Q cs sl (pc + 1) ls (.int z :: st) T I L) : pr_G g X nL Q cs sl pc ls (.int y :: .int x :: st) T I L := by
  subst hz
  obtain ⟨p, l, e, R, s, m, args, below, meth, c⟩ := X
  intro H locs lsS hR hl hS
  exact lv_irem hA.1 hA.2.1 hd hne (k H locs lsS hR hl hS)
theorem pr_dup_x1 (hA : pr_Am g X M d mc ms) {va vb : Value} (hd : decode M.2.1 pc = .ok (.dup_x1, 1)) (hva : va.category = 1) (hvb : vb.category = 1) (k : pr_G g X nL Q cs sl (pc + 1) ls (va :: vb :: va :: st) T I L) : pr_G g X nL Q cs sl pc ls (va :: vb :: st) T I L := by
  obtain ⟨p, l, e, R, s, m, args, below, meth, c⟩ := X
  intro H locs lsS hR hl hS
  exact lv_dup_x1 hA.1 hA.2.1 hd hva hvb (k H locs lsS hR hl hS)
theorem pr_null (hA : pr_Am g X M d mc ms) (hd : decode M.2.1 pc = .ok (.aconst_null, 1)) (k : pr_G g X nL Q cs sl (pc + 1) ls (.null :: st) T I L) : pr_G g X nL Q cs sl pc ls st T I L := by
  obtain ⟨p, l, e, R, s, m, args, below, meth, c⟩ := X
  intro H locs lsS hR hl hS
  exact lv_null hA.1 hA.2.1 hd (k H locs lsS hR hl hS)
theorem pr_mabs (hA : pr_Am g X M d mc ms) (hnL : nL = M.2.2.1) {index : Nat} {x : Int32} (hw : Cond.methodLink M.1.cls index Lib.Math.abs.name ∈ pr_gw ∧ Cond.static Lib.Math.abs.name ∈ pr_gw ∧ Cond.initialized "java/lang/Math" ∈ pr_gw ∧ Cond.code Lib.Math.abs.name Lib.Math.abs.code 1 (some .int) ∈ pr_gw) (hd1 : 1 ≤ d) (hcs : cs ≤ mc) (hsl : sl ≤ ms) (hst : (st.map fun v => v.category).sum ≤ 8) (hd : decode M.2.1 pc = .ok (.invokestatic index, 3)) (kk : pr_G g X nL Q cs sl (pc + 3) ls (.int (if 0 ≤ x then x else 0 - x) :: st) T I L) : pr_G g X nL Q cs sl pc ls (.int x :: st) T I L := by
  subst hnL
  obtain ⟨p, l, e, R, s, m, args, below, meth, c⟩ := X
  intro H locs lsS hR hl hS
  obtain ⟨hx, hbb, hml, hown, hts, hK, hSF, hlk, hnt, hzs, hret, hdf, hdl, hmc, hms⟩ := hA
  exact va_mabs hx hbb (hml.trans hl.1.symm) hown (hts _ hw.1) (hts _ hw.2.1) (hts _ hw.2.2.1) (hts _ hw.2.2.2) (Nat.le_trans hd1 hdf) (by omega) (Nat.le_trans hcs hmc) (Nat.le_trans hsl hms) hd (kk H locs lsS hR hl hS)
/-- the script -/
theorem pr_xald (hA : pr_Am g X M d mc ms) {i : Int32} (hin : vp_in i (pr_scn g)) (hd : decode M.2.1 pc = .ok (.iaload, 1)) (kk : pr_G g X nL Q cs sl (pc + 1) ls (.int (pr_scr g i.toNatClampNeg) :: st) T I L) : pr_G g X nL Q cs sl pc ls (.int i :: .ref (pr_sa g 5) :: st) T I L := by
  obtain ⟨p, l, e, R, s, m, args, below, meth, c⟩ := X
  intro H locs lsS hR hl hS
  obtain ⟨hx, hbb, hml, hown, hts, hK, hSF, hlk, hnt, hzs, hret, hdf, hdl, hmc, hms⟩ := hA
  obtain ⟨hX, hnA⟩ := hSF.2.2.2.2.2.2.2.2.2.2.2.2.2
  have hX' := hX
  obtain ⟨z, hz, -⟩ := hX'
  exact va_sld hx hbb hX (Array.getElem?_eq_some_iff.mp hz).1 hnA hS hin hd (kk H locs lsS hR hl hS)
theorem pr_xlen (hA : pr_Am g X M d mc ms) (hd : decode M.2.1 pc = .ok (.arraylength, 1)) (kk : pr_G g X nL Q cs sl (pc + 1) ls (.int (nI (pr_scn g)) :: st) T I L) : pr_G g X nL Q cs sl pc ls (.ref (pr_sa g 5) :: st) T I L := by
  obtain ⟨p, l, e, R, s, m, args, below, meth, c⟩ := X
  intro H locs lsS hR hl hS
  obtain ⟨hx, hbb, hml, hown, hts, hK, hSF, hlk, hnt, hzs, hret, hdf, hdl, hmc, hms⟩ := hA
  obtain ⟨hX, hnA⟩ := hSF.2.2.2.2.2.2.2.2.2.2.2.2.2
  have hX' := hX
  obtain ⟨z, hz, -⟩ := hX'
  exact va_slen hx hbb hX (Array.getElem?_eq_some_iff.mp hz).1 hnA hS hd (kk H locs lsS hR hl hS)
theorem pr_alenB (hA : pr_Am g X M d mc ms) {a n : Nat} (ha : T.2.1 a = (22, n)) (hd : decode M.2.1 pc = .ok (.arraylength, 1)) (kk : pr_G g X nL Q cs sl (pc + 1) ls (.int (nI n) :: st) T I L) : pr_G g X nL Q cs sl pc ls (.ref a :: st) T I L := by
  obtain ⟨p, l, e, R, s, m, args, below, meth, c⟩ := X
  intro H locs lsS hR hl hS
  obtain ⟨hx, hbb, hml, hown, hts, hK, hSF, hlk, hnt, hzs, hret, hdf, hdl, hmc, hms⟩ := hA
  have hat := (hR.2.2 a _ (pr_ent_i (g := g) (I := I) (L := L) (Or.inr (Or.inl rfl)) ha)).2
  have hP : va_P (pr_D g) vwCl [(a, .inl (pr_ca g 22, n, .inl (I a)))] H := fun j q hq => by rw [pr_one hq]; exact hat
  exact va_alen hx hbb hK hP 0 2 rfl rfl rfl hd (kk H locs lsS hR hl hS)
theorem pr_topE {x z : Int32} (h : x = z) (k : pr_G g X nL Q cs sl pc ls (.int z :: st) T I L) : pr_G g X nL Q cs sl pc ls (.int x :: st) T I L := h ▸ k
theorem pr_topL {x z : Int64} (h : x = z) (k : pr_G g X nL Q cs sl pc ls (.long z :: st) T I L) : pr_G g X nL Q cs sl pc ls (.long x :: st) T I L := h ▸ k
theorem pr_T' {T' : pr_T} (h : T = T') (k : pr_G g X nL Q cs sl pc ls st T' I L) : pr_G g X nL Q cs sl pc ls st T I L := h ▸ k
end PRK
