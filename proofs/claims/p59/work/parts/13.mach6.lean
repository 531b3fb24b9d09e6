/-! MORE RULES: regions of any length, copies of whole rows, sums with a known result -/
theorem pr_gI {g : pr_C} {X : pr_X} {nL : Nat} {Q : State → Prop} {cs sl pc : Nat} {ls st : List Value} {T : pr_T} {I I' : pr_I} {L : pr_L} (h : I = I') (k : pr_G g X nL Q cs sl pc ls st T I' L) : pr_G g X nL Q cs sl pc ls st T I L := h ▸ k
theorem pr_upk {I : pr_I} {a k j : Nat} {v : Int32} (h : j ≠ k) : pr_up I a k v a j = I a j := by simp [pr_up, h]
theorem pr_rwv {I : pr_I} {a b j : Nat} {f : Nat → Int32} (h : b ≠ a) : pr_row I a f b j = I b j := by rw [pr_row_ne h]
theorem pr_rwe {I : pr_I} {a j : Nat} {f : Nat → Int32} : pr_row I a f a j = f j := by rw [pr_row_eq]
theorem ws_outv {I : pr_I} {w a k : Nat} {σ : pr_I} (h : a < w ∨ w + 121 ≤ a) : ws_put I w σ a k = I a k := by rw [ws_out h]
theorem ws_upo {I : pr_I} {w a k : Nat} {σ : pr_I} {v : Int32} (h : a < w ∨ w + 121 ≤ a) : pr_up (ws_put I w σ) a k v = ws_put (pr_up I a k v) w σ := by
  funext b j
  unfold pr_up ws_put
  by_cases hb : w ≤ b ∧ b < w + 121
  · rw [if_neg (by omega), if_pos hb, if_pos hb]
  · simp only [if_neg hb]
theorem ws_rowo {I : pr_I} {w a : Nat} {σ : pr_I} {f : Nat → Int32} (h : a < w ∨ w + 121 ≤ a) : pr_row (ws_put I w σ) a f = ws_put (pr_row I a f) w σ := by
  funext b
  unfold pr_row ws_put
  by_cases hb : w ≤ b ∧ b < w + 121
  · rw [if_neg (by omega), if_pos hb, if_pos hb]
  · simp only [if_neg hb]
theorem ws_swap {I : pr_I} {w v : Nat} {σ τ : pr_I} (h : v + 121 ≤ w ∨ w + 121 ≤ v) : ws_put (ws_put I w σ) v τ = ws_put (ws_put I v τ) w σ := by
  funext b
  unfold ws_put
  by_cases hb : w ≤ b ∧ b < w + 121
  · rw [if_neg (by omega), if_pos hb, if_pos hb]
  · simp only [if_neg hb]
/-- a region of n cells from a on -/
def rg_put (I : pr_I) (a n : Nat) (φ : pr_I) : pr_I := fun b => if a ≤ b ∧ b < a + n then φ (b - a) else I b
def rg_get (I : pr_I) (a : Nat) : pr_I := fun o => I (a + o)
theorem rg_row {I : pr_I} {a n o : Nat} {φ : pr_I} (h : o < n) : rg_put I a n φ (a + o) = φ o := by
  unfold rg_put
  rw [if_pos ⟨by omega, by omega⟩, Nat.add_sub_cancel_left]
theorem rg_val {I : pr_I} {a n o k : Nat} {φ : pr_I} (h : o < n) : rg_put I a n φ (a + o) k = φ o k := by rw [rg_row h]
theorem rg_val0 {I : pr_I} {a n k : Nat} {φ : pr_I} (h : 0 < n) : rg_put I a n φ a k = φ 0 k := rg_val (o := 0) h
theorem rg_out {I : pr_I} {a n b : Nat} {φ : pr_I} (h : b < a ∨ a + n ≤ b) : rg_put I a n φ b = I b := by
  unfold rg_put
  rw [if_neg (by omega)]
theorem rg_outv {I : pr_I} {a n b k : Nat} {φ : pr_I} (h : b < a ∨ a + n ≤ b) : rg_put I a n φ b k = I b k := by rw [rg_out h]
theorem rg_up {I : pr_I} {a n o k : Nat} {φ : pr_I} {v : Int32} (h : o < n) : pr_up (rg_put I a n φ) (a + o) k v = rg_put I a n (pr_up φ o k v) := by
  funext b j
  unfold pr_up rg_put
  by_cases hb : a ≤ b ∧ b < a + n
  · simp only [if_pos hb]
    have : (b = a + o) ↔ (b - a = o) := by omega
    simp only [this]
  · simp only [if_neg hb]
    have : ¬ (b = a + o) := by omega
    simp [this]
theorem rg_up0 {I : pr_I} {a n k : Nat} {φ : pr_I} {v : Int32} (h : 0 < n) : pr_up (rg_put I a n φ) a k v = rg_put I a n (pr_up φ 0 k v) := rg_up (o := 0) h
theorem rg_put_row {I : pr_I} {a n o : Nat} {φ : pr_I} {f : Nat → Int32} (h : o < n) : pr_row (rg_put I a n φ) (a + o) f = rg_put I a n (pr_row φ o f) := by
  funext b
  unfold pr_row rg_put
  by_cases hb : a ≤ b ∧ b < a + n
  · simp only [if_pos hb]
    have : (b = a + o) ↔ (b - a = o) := by omega
    simp only [this]
  · simp only [if_neg hb]
    have : ¬ (b = a + o) := by omega
    simp [this]
theorem rg_upo {I : pr_I} {a n b k : Nat} {φ : pr_I} {v : Int32} (h : b < a ∨ a + n ≤ b) : pr_up (rg_put I a n φ) b k v = rg_put (pr_up I b k v) a n φ := by
  funext c j
  unfold pr_up rg_put
  by_cases hb : a ≤ c ∧ c < a + n
  · rw [if_neg (by omega), if_pos hb, if_pos hb]
  · simp only [if_neg hb]
theorem rg_rowo {I : pr_I} {a n b : Nat} {φ : pr_I} {f : Nat → Int32} (h : b < a ∨ a + n ≤ b) : pr_row (rg_put I a n φ) b f = rg_put (pr_row I b f) a n φ := by
  funext c
  unfold pr_row rg_put
  by_cases hb : a ≤ c ∧ c < a + n
  · rw [if_neg (by omega), if_pos hb, if_pos hb]
  · simp only [if_neg hb]
theorem rg_ws {I : pr_I} {w a n : Nat} {σ φ : pr_I} (h : a + n ≤ w ∨ w + 121 ≤ a) : ws_put (rg_put I a n φ) w σ = rg_put (ws_put I w σ) a n φ := by
  funext b
  unfold ws_put rg_put
  by_cases hb : w ≤ b ∧ b < w + 121
  · have hn : ¬ (a ≤ b ∧ b < a + n) := by omega
    simp only [if_pos hb, if_neg hn]
  · simp only [if_neg hb]
theorem rg_rg {I : pr_I} {b m a n : Nat} {σ φ : pr_I} (h : a + n ≤ b ∨ b + m ≤ a) : rg_put (rg_put I a n φ) b m σ = rg_put (rg_put I b m σ) a n φ := by
  funext c
  unfold rg_put
  by_cases hb : b ≤ c ∧ c < b + m
  · have hn : ¬ (a ≤ c ∧ c < a + n) := by omega
    simp only [if_pos hb, if_neg hn]
  · simp only [if_neg hb]
theorem rg_self {I : pr_I} {a n : Nat} : rg_put I a n (rg_get I a) = I := by
  funext b
  unfold rg_put rg_get
  by_cases hb : a ≤ b ∧ b < a + n
  · rw [if_pos hb, Nat.add_sub_cancel' hb.1]
  · rw [if_neg hb]
theorem rg_put_put {I : pr_I} {a n : Nat} {σ τ : pr_I} : rg_put (rg_put I a n σ) a n τ = rg_put I a n τ := by
  funext b
  unfold rg_put
  by_cases hb : a ≤ b ∧ b < a + n
  · simp only [if_pos hb]
  · simp only [if_neg hb]
def cp_row {α : Type} (f h : Nat → α) (n : Nat) : Nat → α := fun j => if j < n then f j else h j
theorem cp_cpy {α : Type} (f h : Nat → α) (n : Nat) : va_cpy f h 0 0 n = cp_row f h n := by
  funext k
  simp [va_cpy, cp_row]
section PRF
variable {g : pr_C} {X : pr_X} {M : pr_MD} {d mc ms : Nat} {nL : Nat} {Q : State → Prop} {cs sl pc : Nat} {ls st : List Value} {T : pr_T} {I : pr_I} {L : pr_L}
theorem pr_iaddE (hA : pr_Am g X M d mc ms) {x y v : Int32} (hv : x + y = v) (hd : decode M.2.1 pc = .ok (.iadd, 1)) (k : pr_G g X nL Q cs sl (pc + 1) ls (.int v :: st) T I L) : pr_G g X nL Q cs sl pc ls (.int y :: .int x :: st) T I L := by
  subst hv; exact pr_iadd hA hd k
theorem pr_isubE (hA : pr_Am g X M d mc ms) {x y v : Int32} (hv : x - y = v) (hd : decode M.2.1 pc = .ok (.isub, 1)) (k : pr_G g X nL Q cs sl (pc + 1) ls (.int v :: st) T I L) : pr_G g X nL Q cs sl pc ls (.int y :: .int x :: st) T I L := by
  subst hv; exact pr_isub hA hd k
theorem pr_cpyE (hA : pr_Am g X M d mc ms) {index a a0 n0 n1 n : Nat} {I' : pr_I} {f h : Nat → Int32} (hw : pr_cpw M.1.cls index) (hd1 : 1 ≤ d) (ha0 : T.2.1 a0 = (20, n0)) (ha : T.2.1 a = (20, n1)) (hn0 : n ≤ n0) (hn1 : n ≤ n1) (hn : n ≤ 5000) (hf : I a0 = f) (hh : I a = h) (hu : pr_row I a (cp_row f h n) = I') (hst : (st.map fun v => v.category).sum + (nativeFrameWords "java/lang/System" "arraycopy" 5 + 11) ≤ 37) (hd : decode M.2.1 pc = .ok (.invokestatic index, 3))
    (kk : pr_G g X M.2.2.1 Q cs sl (pc + 3) ls st T I' L) : pr_G g X M.2.2.1 Q cs sl pc ls (.int (nI n) :: .int (nI 0) :: .ref a :: .int (nI 0) :: .ref a0 :: st) T I L := by
  have e0 : (nI 0).toNatClampNeg = 0 := nI_clamp (by decide)
  have en : (nI n).toNatClampNeg = n := nI_clamp (by omega)
  refine pr_copyI hA rfl hw hd1 ha0 ha (by decide) (by decide) (fun q => Int32.not_lt.mpr (nI_pos' (by omega)) q) (by rw [e0, en]; omega) (by rw [e0, en]; omega) hst hd ?_
  subst hf; subst hh; subst hu
  rw [e0, en, cp_cpy]; exact kk
theorem pr_cpyLE (hA : pr_Am g X M d mc ms) {index a a0 n0 n1 n : Nat} (hw : pr_cpw M.1.cls index) (hd1 : 1 ≤ d) (ha0 : T.2.1 a0 = (21, n0)) (ha : T.2.1 a = (21, n1)) (hn0 : n ≤ n0) (hn1 : n ≤ n1) (hn : n ≤ 5000) (hst : (st.map fun v => v.category).sum + (nativeFrameWords "java/lang/System" "arraycopy" 5 + 11) ≤ 37) (hd : decode M.2.1 pc = .ok (.invokestatic index, 3))
    (kk : pr_G g X M.2.2.1 Q cs sl (pc + 3) ls st T I (pr_rowl L a (cp_row (L a0) (L a) n))) : pr_G g X M.2.2.1 Q cs sl pc ls (.int (nI n) :: .int (nI 0) :: .ref a :: .int (nI 0) :: .ref a0 :: st) T I L := by
  have e0 : (nI 0).toNatClampNeg = 0 := nI_clamp (by decide)
  have en : (nI n).toNatClampNeg = n := nI_clamp (by omega)
  refine pr_copyL hA rfl hw hd1 ha0 ha (by decide) (by decide) (fun q => Int32.not_lt.mpr (nI_pos' (by omega)) q) (by rw [e0, en]; omega) (by rw [e0, en]; omega) hst hd ?_
  rw [e0, en, cp_cpy]; exact kk
theorem pr_cpySE (hA : pr_Am g X M d mc ms) {index a i0 n1 n : Nat} {I' : pr_I} {h : Nat → Int32} (hi : i0 < 3) (hw : pr_cpw M.1.cls index) (hd1 : 1 ≤ d) (ha : T.2.1 a = (20, n1)) (hn0 : n ≤ 5) (hn1 : n ≤ n1) (hh : I a = h) (hu : pr_row I a (cp_row (pr_sv i0) h n) = I') (hst : (st.map fun v => v.category).sum + (nativeFrameWords "java/lang/System" "arraycopy" 5 + 11) ≤ 37) (hd : decode M.2.1 pc = .ok (.invokestatic index, 3))
    (kk : pr_G g X M.2.2.1 Q cs sl (pc + 3) ls st T I' L) : pr_G g X M.2.2.1 Q cs sl pc ls (.int (nI n) :: .int (nI 0) :: .ref a :: .int (nI 0) :: .ref (pr_sa g i0) :: st) T I L := by
  have e0 : (nI 0).toNatClampNeg = 0 := nI_clamp (by decide)
  have en : (nI n).toNatClampNeg = n := nI_clamp (by omega)
  refine pr_copyS hA rfl hi hw hd1 ha (by decide) (by decide) (fun q => Int32.not_lt.mpr (nI_pos' (by omega)) q) (by rw [e0, en]; omega) (by rw [e0, en]; omega) hst hd ?_
  subst hh; subst hu
  rw [e0, en, cp_cpy]; exact kk
theorem pr_laldE (hA : pr_Am g X M d mc ms) {a n k : Nat} {v : Int64} (ha : T.2.1 a = (21, n)) (hk : k < n) (hn : n ≤ 5000) (hr : L a k = v) (hd : decode M.2.1 pc = .ok (.laload, 1)) (kk : pr_G g X nL Q cs sl (pc + 1) ls (.long v :: st) T I L) : pr_G g X nL Q cs sl pc ls (.int (nI k) :: .ref a :: st) T I L := by
  subst hr
  refine pr_lald hA ha (nI_vin hk (by omega)) hd ?_
  rw [nI_clamp (by omega)]; exact kk
theorem pr_lastE (hA : pr_Am g X M d mc ms) {a n k : Nat} {v : Int64} (ha : T.2.1 a = (21, n)) (hk : k < n) (hn : n ≤ 5000) (hd : decode M.2.1 pc = .ok (.lastore, 1)) (kk : pr_G g X nL Q cs sl (pc + 1) ls st T I (pr_upl L a k v)) : pr_G g X nL Q cs sl pc ls (.long v :: .int (nI k) :: .ref a :: st) T I L := by
  refine pr_last hA ha (nI_vin hk (by omega)) hd ?_
  rw [nI_clamp (by omega)]; exact kk
end PRF
theorem vin_eq {a b : Int32} {n : Nat} (h : a = b) (q : vp_in b n) : vp_in a n := h ▸ q
theorem pr_joinL {g : pr_C} {X : pr_X} {nL : Nat} {Q : State → Prop} {cs sl pc : Nat} {ls st : List Value} {T : pr_T} {I : pr_I} {L : pr_L} {stk : List Value} {c : Prop} {J : Nat} (a b : Int64) (hc : Decidable c) (h : (c → pr_G g X nL Q cs sl J ls (.long a :: st) T I L) → (¬ c → pr_G g X nL Q cs sl J ls (.long b :: st) T I L) → pr_G g X nL Q cs sl pc ls stk T I L) (k : pr_G g X nL Q cs sl J ls (.long (if c then a else b) :: st) T I L) : pr_G g X nL Q cs sl pc ls stk T I L :=
  h (fun q => by rw [if_pos q] at k; exact k) (fun q => by rw [if_neg q] at k; exact k)
/-- a span that isn't below 1 isn't 0 -/
theorem span_ne {s : Int32} (h : (1 : Int32) ≤ s) : s.toInt64 ≠ 0 := by
  intro e
  have h1 : (1 : Int32).toInt ≤ s.toInt := Int32.le_iff_toInt_le.mp h
  have h2 : s.toInt64.toInt = s.toInt := Int32.toInt_toInt64 s
  rw [e] at h2
  have h3 : (0 : Int64).toInt = 0 := by decide
  have h4 : (1 : Int32).toInt = 1 := by decide
  omega
/-- one list of locals tells no more than another -/
def pr_wk : List Value → List Value → Prop
  | [], _ => True
  | _ :: _, [] => False
  | v' :: t', v :: t => (v' = .null ∨ v' = v) ∧ pr_wk t' t
theorem pr_wk.at : ∀ {ls' ls : List Value}, pr_wk ls' ls → ∀ (i : Nat) (v : Value), ls'[i]? = some v → v ≠ .null → ls[i]? = some v
  | [], _, _, i, v, h, _ => by simp at h
  | _ :: _, [], h0, _, _, _, _ => h0.elim
  | v' :: t', v0 :: t, h0, 0, v, h, hv => by
    have e : v' = v := by simpa using h
    rcases h0.1 with q | q
    · exact absurd (e.symm.trans q) hv
    · simp [← q, e]
  | v' :: t', v0 :: t, h0, i + 1, v, h, hv => by
    have := pr_wk.at h0.2 i v (by simpa using h) hv
    simpa using this
theorem pr_lessL {g : pr_C} {X : pr_X} {nL : Nat} {Q : State → Prop} {cs sl pc : Nat} {ls ls' st : List Value} {T : pr_T} {I : pr_I} {L : pr_L} (h : pr_wk ls' ls) (k : pr_G g X nL Q cs sl pc ls' st T I L) : pr_G g X nL Q cs sl pc ls st T I L := pr_less h.at k
theorem ws_rg {I : pr_I} {w a n : Nat} {σ φ : pr_I} (h : a + n ≤ w ∨ w + 121 ≤ a) : rg_put (ws_put I w σ) a n φ = ws_put (rg_put I a n φ) w σ := (rg_ws h).symm
/-- a Flow: itself, most, flowing, queue, entry -/
def pr_Fl (T : pr_T) (f : Nat) : Prop := T.2.1 f = (0, 0) ∧ T.2.1 (f + 1) = (20, 24) ∧ T.2.1 (f + 2) = (20, 24) ∧ T.2.1 (f + 3) = (20, 12) ∧ T.2.1 (f + 4) = (20, 12) ∧ ∀ k, k < 4 → T.2.2 f k = some (f + 1 + k)
theorem fk_0 {T : pr_T} {f : Nat} (h : pr_Fl T f) : T.2.1 f = (0, 0) := h.1
theorem fk_1 {T : pr_T} {f : Nat} (h : pr_Fl T f) : T.2.1 (f + 1) = (20, 24) := h.2.1
theorem fk_2 {T : pr_T} {f : Nat} (h : pr_Fl T f) : T.2.1 (f + 2) = (20, 24) := h.2.2.1
theorem fk_3 {T : pr_T} {f : Nat} (h : pr_Fl T f) : T.2.1 (f + 3) = (20, 12) := h.2.2.2.1
theorem fk_4 {T : pr_T} {f : Nat} (h : pr_Fl T f) : T.2.1 (f + 4) = (20, 12) := h.2.2.2.2.1
theorem ff_1 {T : pr_T} {f : Nat} (h : pr_Fl T f) : T.2.2 f 0 = some (f + 1) := h.2.2.2.2.2 0 (by decide)
theorem ff_2 {T : pr_T} {f : Nat} (h : pr_Fl T f) : T.2.2 f 1 = some (f + 2) := h.2.2.2.2.2 1 (by decide)
theorem ff_3 {T : pr_T} {f : Nat} (h : pr_Fl T f) : T.2.2 f 2 = some (f + 3) := h.2.2.2.2.2 2 (by decide)
theorem ff_4 {T : pr_T} {f : Nat} (h : pr_Fl T f) : T.2.2 f 3 = some (f + 4) := h.2.2.2.2.2 3 (by decide)
