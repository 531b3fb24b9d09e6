/-! A WORLD IS MADE -/
/-- an object of class ci is made and laid into the field k of w -/
def sb (T : pr_T) (ci k w : Nat) (tf : pr_T → Nat → pr_T) : pr_T := pr_upr (tf (pr_new T ci 0) T.1) w k (some T.1)
/-- what lay before still lies there; of w only the fields from k on may be others -/
def PS (w k : Nat) (T T' : pr_T) : Prop := T.1 ≤ T'.1 ∧ (∀ b, b < T.1 → T'.2.1 b = T.2.1 b) ∧ (∀ b, b < T.1 → b ≠ w → T'.2.2 b = T.2.2 b) ∧ ∀ j, j < k → T'.2.2 w j = T.2.2 w j
theorem PS.trans {w k k' : Nat} {T T' T'' : pr_T} (h : PS w k T T') (h' : PS w k' T' T'') (hk : k ≤ k') : PS w k T T'' :=
  ⟨Nat.le_trans h.1 h'.1, fun b hb => (h'.2.1 b (Nat.lt_of_lt_of_le hb h.1)).trans (h.2.1 b hb), fun b hb hw => (h'.2.2.1 b (Nat.lt_of_lt_of_le hb h.1) hw).trans (h.2.2.1 b hb hw), fun j hj => (h'.2.2.2 j (Nat.lt_of_lt_of_le hj hk)).trans (h.2.2.2 j hj)⟩
/-- a constructor: it lays new cells behind, and writes only fields of a -/
def KP (tf : pr_T → Nat → pr_T) : Prop := ∀ (T : pr_T) (a : Nat), T.1 ≤ (tf T a).1 ∧ (∀ b, b < T.1 → (tf T a).2.1 b = T.2.1 b) ∧ ∀ b, b < T.1 → b ≠ a → (tf T a).2.2 b = T.2.2 b
theorem alT_kp {T : pr_T} {t a k n i : Nat} : T.1 ≤ (alT T t a k n i).1 ∧ (∀ b, b < T.1 → (alT T t a k n i).2.1 b = T.2.1 b) ∧ ∀ b, b < T.1 → b ≠ a → (alT T t a k n i).2.2 b = T.2.2 b := by
  refine ⟨Nat.le_add_right _ _, fun b hb => alT_k hb, fun b hb ha => funext fun j => ?_⟩
  exact (if_neg (fun z => ha z.1)).trans (if_neg (by omega))
theorem mm_kp {T : pr_T} {a k n m : Nat} {v : Option Nat} : T.1 ≤ (pr_upr (mm_T T n m) a k v).1 ∧ (∀ b, b < T.1 → (pr_upr (mm_T T n m) a k v).2.1 b = T.2.1 b) ∧ ∀ b, b < T.1 → b ≠ a → (pr_upr (mm_T T n m) a k v).2.2 b = T.2.2 b := by
  refine ⟨by show T.1 ≤ T.1 + 1 + n; omega, fun b hb => mm_k hb, fun b hb ha => funext fun j => ?_⟩
  exact (if_neg (fun z => ha z.1)).trans ((if_neg (by omega)).trans (if_neg (by omega)))
theorem kp_two {T T' T'' : pr_T} {a : Nat} (h : T.1 ≤ T'.1 ∧ (∀ b, b < T.1 → T'.2.1 b = T.2.1 b) ∧ ∀ b, b < T.1 → b ≠ a → T'.2.2 b = T.2.2 b) (h' : T'.1 ≤ T''.1 ∧ (∀ b, b < T'.1 → T''.2.1 b = T'.2.1 b) ∧ ∀ b, b < T'.1 → b ≠ a → T''.2.2 b = T'.2.2 b) : T.1 ≤ T''.1 ∧ (∀ b, b < T.1 → T''.2.1 b = T.2.1 b) ∧ ∀ b, b < T.1 → b ≠ a → T''.2.2 b = T.2.2 b :=
  ⟨Nat.le_trans h.1 h'.1, fun b hb => (h'.2.1 b (Nat.lt_of_lt_of_le hb h.1)).trans (h.2.1 b hb), fun b hb ha => (h'.2.2 b (Nat.lt_of_lt_of_le hb h.1) ha).trans (h.2.2 b hb ha)⟩
theorem kp_X2 : KP tX2_init := fun _ _ => alT_kp
theorem kp_X5 : KP tX5_init := fun _ _ => alT_kp
theorem kp_X3 : KP tX3_init := fun _ _ => kp_two alT_kp alT_kp
theorem kp_X0 : KP tX0_init := fun _ _ => kp_two alT_kp alT_kp
theorem kp_X1 : KP tX1_init := fun _ _ => alT_kp
theorem kp_X4 : KP tX4_init := fun _ _ => kp_two (kp_two alT_kp mm_kp) mm_kp
theorem KP.sb {tf : pr_T → Nat → pr_T} (h : KP tf) {T : pr_T} {ci k w : Nat} (hw : w < T.1) : PS w k T (sb T ci k w tf) ∧ (sb T ci k w tf).2.2 w k = some T.1 ∧ (sb T ci k w tf).2.1 T.1 = (ci, 0) := by
  obtain ⟨h1, h2, h3⟩ := h (pr_new T ci 0) T.1
  have lt : ∀ b, b < T.1 → b < (pr_new T ci 0).1 := fun b hb => Nat.lt_succ_of_lt hb
  refine ⟨⟨Nat.le_trans (Nat.le_succ _) h1, fun b hb => ?_, fun b hb hbw => ?_, fun j hj => ?_⟩, if_pos ⟨rfl, rfl⟩, ?_⟩
  · exact (h2 b (lt b hb)).trans (if_neg (by omega))
  · funext j
    refine (if_neg (fun z => hbw z.1)).trans ((congrFun (h3 b (lt b hb) (by omega)) j).trans ?_)
    exact if_neg (by omega)
  · refine (if_neg (fun z => by omega)).trans ((congrFun (h3 w (lt w hw) (by omega)) j).trans ?_)
    exact if_neg (by omega)
  · exact (h2 T.1 (Nat.lt_succ_self _)).trans (if_pos rfl)
section SUB
variable {g : pr_C} {X : pr_X} {M : pr_MD} {d mc ms : Nat} {nL : Nat} {Q : State → Prop} {cs sl pc : Nat} {ls st : List Value} {T : pr_T} {I : pr_I} {L : pr_L}
theorem pr_sub (hA : pr_Am g X M d mc ms) (hnL : nL = M.2.2.1) {ix iy iz ci cj w k b0 c q d' mc' ms' : Nat} {M' : pr_MD} {tf : pr_T → Nat → pr_T} (hKP : KP tf) (hwT : w < T.1) (haw : T.2.1 w = (cj, 0))
    (hN : pr_Nw M.1.cls ix ci) (hcs1 : cs + 1 ≤ mc) (hsl1 : sl + pr_N ci ≤ ms) (hd1 : decode M.2.1 pc = .ok (.new ix, 3)) (hd2 : decode M.2.1 (pc + 3) = .ok (.dup, 1)) (hd3 : decode M.2.1 (pc + 3 + 1) = .ok (.invokespecial iy, 3)) (hd4 : decode M.2.1 (pc + 3 + 1 + 3) = .ok (.putfield iz, 3)) (hc : T.1 = b0 + c)
    (hM : ∀ J : pr_I, J T.1 = (fun _ => 0) → pr_M g (pr_launch X) d' mc' ms' M' [.ref T.1] (pr_new T ci 0) J L (pr_R none (tf (pr_new T ci 0) T.1) (zI J (T.1 + 1) q) L) pr_no)
    (hc1 : Cond.methodLinkNest M.1.cls iy M'.1 RX7 ∈ pr_nest) (hc2 : Cond.initialized M'.1.cls ∈ pr_gw) (hc3 : pr_hd M' ∈ pr_gw) (hc4 : M'.1.cls ≠ "java/lang/invoke/MethodHandle" ∧ M'.1.cls ≠ "java/lang/invoke/VarHandle" ∧ (parseMethodDescriptor M'.1.desc).map (fun d => d.parameters.length) = some 0) (hc5 : M'.2.2.1 ≤ 18) (hc6 : M'.2.2.2.2 = [])
    (hc7 : Cond.instanceMethod M'.1 ∈ pr_gw) (hi1 : M'.1.name = "<init>") (hi2 : M'.2.2.2.1 = none) (hdd : d' + 1 ≤ d) (hcs2 : cs + 1 + mc' ≤ mc) (hsl2 : sl + pr_N ci + ms' ≤ ms) (hst : ((.ref T.1 :: .ref w :: st).map fun v => v.category).sum ≤ 8)
    (hF : pr_F M.1.cls iz cj k) (hft : pr_ft cj k = 2) (hinit : X.2.2.2.2.2.2.2.2.1.name = "<init>") (hown2 : ∀ q, vwCl[cj]? = some q → q.1 = M.1.cls)
    (kk : pr_G g X nL Q (cs + 1 + mc') (sl + pr_N ci + ms') (pc + 3 + 1 + 3 + 3) ls st (sb T ci k w tf) (zI I b0 (c + 1 + q)) L) : pr_G g X nL Q cs sl pc ls (.ref w :: st) T (zI I b0 c) L := by
  refine pr_newO hA hN hcs1 hsl1 hd1 ?_
  have e : pr_row (zI I b0 c) T.1 (fun _ => 0) = zI I b0 (c + 1) := by rw [hc, zI_s]
  rw [e]
  refine pr_dup hA hd2 rfl ?_
  refine pr_callN hA hnL (hM _ (zI_in (by omega) (by omega))) hc1 hc2 hc3 hc4 hc5 hc6 hc7 hi1 hi2 rfl hdd hcs2 hsl2 rfl hst hd3 (fun v T' I' L' hh => ?_)
  obtain ⟨rfl, rfl, rfl, rfl⟩ := hh
  have e2 : zI (zI I b0 (c + 1)) (T.1 + 1) q = zI I b0 (c + 1 + q) := by rw [hc, Nat.add_assoc, zI_z]
  rw [e2]
  refine pr_putR hA hF hft hinit hown2 (a := w) (n := 0) ?_ hd4 kk
  obtain ⟨h1, h2, h3⟩ := hKP (pr_new T ci 0) T.1
  exact (h2 w (Nat.lt_succ_of_lt hwT)).trans ((if_neg (by omega)).trans haw)
end SUB
