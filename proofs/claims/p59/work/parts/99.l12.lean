/-! THE START: the law's own frame -/
def mLaw : pr_MD := (⟨RL, "law", "([I)Z"⟩, code, 4, ret, [])
def T_0 (s : State) : pr_T := (s.heap.size, fun _ => (99, 0), fun _ _ => none)
theorem rep_0 {g : pr_C} {s : State} (hz : pr_z g = s.heap.size) : pr_Rep g (T_0 s) (fun _ _ => 0) (fun _ _ => 0) s.heap := by
  refine ⟨rfl, by rw [hz]; exact Nat.le_refl _, fun a e h => ?_⟩
  have n : pr_ent g (T_0 s) (fun _ _ => 0) (fun _ _ => 0) a = none := by
    unfold pr_ent T_0
    rw [if_neg (show ¬ (99 : Nat) < 10 by decide), if_neg (show ¬ ((99 : Nat) = 20 ∨ (99 : Nat) = 22 ∨ (99 : Nat) = 23) by decide), if_neg (show ¬ (99 : Nat) = 21 by decide), if_neg (show ¬ ((99 : Nat) = 24 ∨ (99 : Nat) = 25) by decide)]
  rw [n] at h; cases h
theorem st_go {p : Program} {l : Launch} {e : Env} {s : State} {m : MethodId} {below : List Frame} {meth : Method} {c : Code} {b : Nat} {Q : State → Prop} (hl : l.stackTraces = false) (h1 : p.tables.exec = Jvm.exec) (h2 : c.code = code) (h3 : meth.sig.returnType = ret) (h4 : c.maxLocals = 4) (h5 : s.vm.findClass RL = some m.cls) (hts : ∀ w ∈ lw_tbl, w.before #[Value.ref b] s = true) (h9 : meth.locks = false) (hq : ∀ w ∈ st_W, w.before #[Value.ref b] s = true) {N : Nat} {xs : Nat → Int32} (hX : va_X b N xs s s.heap) (hb : b < s.heap.size)
    (body : ∀ g : pr_C, pr_z g = s.heap.size → pr_sa g 5 = b → pr_scn g = N → pr_Am g (p, l, e, room_1, s, m, #[Value.ref b], below, meth, c) mLaw 13 600104 7301314 → pr_G g (p, l, e, room_1, s, m, #[Value.ref b], below, meth, c) 4 Q 0 0 0 (pr_en [.ref b] 4) [] (T_0 s) (fun _ _ => 0) (fun _ _ => 0)) : W p l e room_1 s m #[Value.ref b] below meth c s.heap [] 0 0 Q (entryFrame m ([Value.ref b] : List Value).toArray 4) := by
  obtain ⟨g, hz, hsb, hsn, hK, hSF⟩ := st_SF hts hq hX hb
  have hA : pr_Am g (p, l, e, room_1, s, m, #[Value.ref b], below, meth, c) mLaw 13 600104 7301314 :=
    ⟨h1, h2, h4, h5, st_gw hts, hK, hSF, h9, hl, by rw [hz]; exact Nat.le_refl _, h3, by decide, by decide, by decide, by decide⟩
  have hbd := body g hz hsb hsn hA
  have hle := lv_entry ([Value.ref b] : List Value) (n := 4) (Nat.le_of_ble_eq_true rfl)
  rw [lg_entry_eq]
  exact hbd s.heap [] _ (rep_0 hz) (pr_lo_en hle) va_S.rf
