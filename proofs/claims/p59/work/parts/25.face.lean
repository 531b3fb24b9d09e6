/-! THE FACE -/
section PRW
variable {g : pr_C} {X : pr_X} {M : pr_MD} {d mc ms : Nat} {nL : Nat} {Q : State → Prop} {cs sl pc : Nat} {ls st : List Value} {T : pr_T} {I : pr_I} {L : pr_L}
theorem pr_throwW (hA : pr_Am g X M d mc ms) (htab : pr_table X = []) (hnL : nL = M.2.2.1) {Φ : Option Value → pr_T → pr_I → pr_L → Prop} {Ψ : String → pr_T → pr_I → pr_L → Prop} {ik is ic k : Nat} {E text : String} {names : List String} (hw : pr_thw M.1.cls ik is ic E text names k) (hd3 : names.length + 3 < d) (hst : st = []) (hcs : cs + 1 ≤ mc) (hsl : sl + 6 ≤ ms) (hnm : names.length ≤ 3)
    (d0 : decode M.2.1 pc = .ok (.new ik, 3)) (d3 : decode M.2.1 (pc + 3) = .ok (.dup, 1)) (d4 : decode M.2.1 (pc + 4) = .ok (.ldc_w is, 3)) (d7 : decode M.2.1 (pc + 7) = .ok (.invokespecial ic, 3)) (d10 : decode M.2.1 (pc + 10) = .ok (.athrow, 1))
    (hΨ : ∀ N, T.1 ≤ N → Ψ E (N, T.2) I L) : pr_G g X nL (pr_MQ g X Φ Ψ mc ms) cs sl pc ls st T I L := by
  subst hnL; subst hst
  obtain ⟨p, l, e, R, s, m, args, below, meth, c⟩ := X
  intro H locs lsS hR hl hS
  obtain ⟨hx, hbb, hml, hown, hts, hK, hSF, hlk, hnt, hzs, hret, hdf, hdl, hmc, hms⟩ := hA
  have htab' : c.exceptionTable.toList = [] := htab
  obtain ⟨w1, w2, w3, w4, w5, w6, w7⟩ := hw
  refine vx_throwSW hx hbb hnt (own := M.1.cls) (cls := E) (text := text) (names := names) (ik := ik) (is := is) (ic := ic) (sa := pr_ak g k) (A := pr_A g) hown w1 w2 (hts _ w3) (hts _ w4) (hSF.2.2.1 _ w5)
    (fun w hw => by
      rcases w6 w hw with h | h
      · exact hts _ h
      · exact va_Nw.use (pr_nest_tab w h) (hSF.2.2.2.2.2.2.2.2.1 _ h)) w7 hSF.2.2.2.1 hSF.2.2.2.2.1 hS (hl.1.trans hml.symm) d0 d3 d4 d7 d10 (fun x hx => by rw [htab'] at hx; cases hx) (Nat.lt_of_lt_of_le hd3 hdf) ?_ (Nat.le_trans hcs hmc) (Nat.le_trans hsl hms) hlk (fun t ha hz ho => ?_) hS.2.2 hcs hsl
  · simp only [List.map_nil, List.sum_nil]
    have : 37 * (names.length + 4) ≤ 37 * d := Nat.mul_le_mul_left 37 hd3
    omega
  · have hn : T.1 ≤ t.heap.size := by rw [← hR.1]; exact hz
    refine ⟨⟨(t.heap.size, T.2), I, L, hΨ _ hn, rfl, Nat.le_trans hR.2.1 hn, fun a e9 he9 => ?_⟩, Nat.le_trans hS.1 hz, fun q h1 h2 => ?_⟩
    · have he : pr_ent g T I L a = some e9 := by rw [← he9]; exact pr_ent_congr rfl rfl rfl rfl
      obtain ⟨g1, g2⟩ := hR.2.2 a e9 he
      exact ⟨g1, g2.kept (ho a g2.lt)⟩
    · rw [ho q (Nat.lt_of_lt_of_le h1 hS.1)]
      exact hS.2.1 q h1 h2
end PRW
def nmE : List String := ["java/lang/RuntimeException", "java/lang/Exception"]
set_option maxRecDepth 100000 in
theorem thw_i : pr_thw RX7 271 273 275 "java/lang/IndexOutOfBoundsException" "there is no such number" nmE 7 := ⟨by decide +kernel, by decide +kernel, by decide +kernel, by decide +kernel, by decide +kernel, by decide +kernel, by decide +kernel⟩
set_option maxRecDepth 100000 in
theorem thw_r : pr_thw RX7 278 280 282 "java/lang/IllegalArgumentException" "the value is out of range" nmE 8 := ⟨by decide +kernel, by decide +kernel, by decide +kernel, by decide +kernel, by decide +kernel, by decide +kernel, by decide +kernel⟩
set_option maxRecDepth 100000 in
theorem thw_p : pr_thw RX7 278 283 282 "java/lang/IllegalArgumentException" "both nodes are the same" nmE 9 := ⟨by decide +kernel, by decide +kernel, by decide +kernel, by decide +kernel, by decide +kernel, by decide +kernel, by decide +kernel⟩
/-- thrown, with nothing changed but cells that nobody knows -/
def pr_Th (E : String) (T : pr_T) (I : pr_I) (L : pr_L) : String → pr_T → pr_I → pr_L → Prop := fun E' T' I' L' => E' = E ∧ (∃ N, T.1 ≤ N ∧ T' = (N, T.2)) ∧ I' = I ∧ L' = L
def pr_nv : Option Value → pr_T → pr_I → pr_L → Prop := fun _ _ _ _ => False
