/-! A CONFIGURATION UNDER WAY ON BOTH SIDES -/
/-- one link -/
def LKd (τ : pr_I) (r : Nat → Int32) (fn k : Nat) : Prop := (∀ c, c < 5 → τ (2 + c) k = r (96 + 7 * k + c)) ∧ (τ 7 k = 0 ∧ τ 8 k = 0 ∧ r (96 + 7 * k + 6) = 0) ∧ (bit (τ 1 7) k = true ∧ r (96 + 7 * k + 5) = 1) ∧ vp_in (τ 2 k) fn ∧ vp_in (τ 3 k) fn ∧ τ 2 k ≠ τ 3 k ∧ (0 ≤ (τ 5 k).toInt ∧ (τ 5 k).toInt ≤ 1000) ∧ (1 ≤ (τ 6 k).toInt ∧ (τ 6 k).toInt ≤ 50) ∧ (0 ≤ (τ 4 k).toInt ∧ (τ 4 k).toInt ≤ 1000)
def LD (τ : pr_I) (ν : Nat → Int64) (r : Nat → Int32) (fn fl : Nat) : Prop :=
  ((τ 0 6 = nI fn ∧ r 6 = nI fn ∧ fn ≤ 12) ∧ (τ 1 8 = nI fl ∧ r 7 = nI fl ∧ fl ≤ 24) ∧ (τ 0 7 = 0 ∧ r 0 = 0) ∧ (τ 18 17 = 0 ∧ r 8 = 0) ∧ (τ 9 8 = 0 ∧ r 9 = 0)) ∧
  ((∀ j, j < 5 → τ 119 j = r (1 + j)) ∧ Se τ) ∧ (∀ k, k < fl → LKd τ r fn k) ∧ (∀ j, 96 + 7 * fl ≤ j → j < 264 → r j = 0) ∧ NM ν r fn
/-- both go on -/
def GD (φ σ τ : pr_I) (ν : Nat → Int64) (b : Nat → Int32) (n : Nat) : Prop := ∃ p fn fl, IS φ b n p ∧ φ 0 0 = 0 ∧ σ 7 = b ∧ σ 0 9 = nI p ∧ σ 0 12 = 0 ∧ LD τ ν (σ 3) fn fl
/-- both have failed, alike -/
def BD (φ σ : pr_I) : Prop := ¬ φ 0 0 = 0 ∧ φ 0 0 = σ 0 12 ∧ φ 0 1 = σ 0 11
theorem SK.bd {φ σ : pr_I} {e w : Int32} (s : SK φ e w) (h1 : σ 0 12 = e) (h2 : σ 0 11 = w) : BD φ σ := ⟨by rw [s.1]; exact s.2.2, by rw [s.1, h1], by rw [s.2.1, h2]⟩
section LDS
variable {τ : pr_I} {ν : Nat → Int64} {r : Nat → Int32} {fn fl : Nat}
theorem LD.nn (h : LD τ ν r fn fl) : ndn τ = fn := by unfold ndn; rw [h.1.1.1, nI_clamp (by have := h.1.1.2.2; omega)]
theorem LD.nl (h : LD τ ν r fn fl) : lkn τ = fl := by unfold lkn; rw [h.1.2.1.1, nI_clamp (by have := h.1.2.1.2.2; omega)]
theorem sv_ms : ∀ j, j < 5 → m_lst (j + 1) = pr_sv 1 j ∧ m_mst (j + 1) = pr_sv 2 j := by decide +kernel
theorem sv_rg : (pr_sv 1 0).toInt = 1 ∧ (pr_sv 2 0).toInt = 500 ∧ (pr_sv 1 1).toInt = 1 ∧ (pr_sv 2 1).toInt = 100 ∧ (pr_sv 1 2).toInt = 1 ∧ (pr_sv 2 2).toInt = 9 ∧ (pr_sv 1 3).toInt = 0 ∧ (pr_sv 2 3).toInt = 100 ∧ (pr_sv 1 4).toInt = 0 ∧ (pr_sv 2 4).toInt = 100 := by decide +kernel
/-- a setting -/
theorem LD.set (h : LD τ ν r fn fl) {j : Nat} {v : Int32} (hj : j < 5) (h1 : (pr_sv 1 j).toInt ≤ v.toInt) (h2 : v.toInt ≤ (pr_sv 2 j).toInt) {r' : Nat → Int32} (hr : ∀ i, r' i = if i = j + 1 then v else r i) : LD (pr_up τ 119 j v) ν r' fn fl := by
  obtain ⟨⟨a1, a2, a3, a4, a5⟩, ⟨b1, b2⟩, c, d, e⟩ := h
  have k : ∀ o, o ≠ 119 → pr_up τ 119 j v o = τ o := fun o ho => pr_up_ne ho
  have rk : ∀ i, 5 < i → r' i = r i := fun i hi => by rw [hr, if_neg (by omega)]
  have r0 : r' 0 = r 0 := by rw [hr, if_neg (by omega)]
  refine ⟨?_, ⟨fun i hi => ?_, ?_⟩, fun i hi => ?_, fun i h1 h2 => ?_, ?_⟩
  · rw [k 0 (by decide), k 1 (by decide), k 18 (by decide), k 9 (by decide), rk 6 (by decide), rk 7 (by decide), r0, rk 8 (by decide), rk 9 (by decide)]
    exact ⟨a1, a2, a3, a4, a5⟩
  · rw [hr]
    by_cases q : i = j
    · rw [q, pr_upe, if_pos (by omega)]
    · rw [pr_upk q, if_neg (by omega)]; exact b1 i hi
  · obtain ⟨q0, q1, q2, q3, q4, q5, q6, q7, q8, q9⟩ := sv_rg
    unfold Se at b2 ⊢
    rcases (by omega : j = 0 ∨ j = 1 ∨ j = 2 ∨ j = 3 ∨ j = 4) with rfl | rfl | rfl | rfl | rfl
    · rw [pr_upe, pr_upk (show (1 : Nat) ≠ 0 by decide), pr_upk (show (2 : Nat) ≠ 0 by decide), pr_upk (show (3 : Nat) ≠ 0 by decide), pr_upk (show (4 : Nat) ≠ 0 by decide)]
      exact ⟨⟨by omega, by omega⟩, b2.2⟩
    · rw [pr_upe, pr_upk (show (0 : Nat) ≠ 1 by decide), pr_upk (show (2 : Nat) ≠ 1 by decide), pr_upk (show (3 : Nat) ≠ 1 by decide), pr_upk (show (4 : Nat) ≠ 1 by decide)]
      exact ⟨b2.1, ⟨by omega, by omega⟩, b2.2.2⟩
    · rw [pr_upe, pr_upk (show (0 : Nat) ≠ 2 by decide), pr_upk (show (1 : Nat) ≠ 2 by decide), pr_upk (show (3 : Nat) ≠ 2 by decide), pr_upk (show (4 : Nat) ≠ 2 by decide)]
      exact ⟨b2.1, b2.2.1, ⟨by omega, by omega⟩, b2.2.2.2⟩
    · rw [pr_upe, pr_upk (show (0 : Nat) ≠ 3 by decide), pr_upk (show (1 : Nat) ≠ 3 by decide), pr_upk (show (2 : Nat) ≠ 3 by decide), pr_upk (show (4 : Nat) ≠ 3 by decide)]
      exact ⟨b2.1, b2.2.1, b2.2.2.1, ⟨by omega, by omega⟩, b2.2.2.2.2⟩
    · rw [pr_upe, pr_upk (show (0 : Nat) ≠ 4 by decide), pr_upk (show (1 : Nat) ≠ 4 by decide), pr_upk (show (2 : Nat) ≠ 4 by decide), pr_upk (show (3 : Nat) ≠ 4 by decide)]
      exact ⟨b2.1, b2.2.1, b2.2.2.1, b2.2.2.2.1, by omega, by omega⟩
  · have := c i hi
    unfold LKd at this ⊢
    rw [k 7 (by decide), k 8 (by decide), k 1 (by decide), k 2 (by decide), k 3 (by decide), k 5 (by decide), k 6 (by decide), k 4 (by decide), rk _ (by omega), rk _ (by omega)]
    exact ⟨fun c' hc => by rw [k _ (by omega), rk _ (by omega)]; exact this.1 c' hc, this.2⟩
  · rw [rk i (by omega)]; exact d i h1 h2
  · refine ⟨fun i hi => ?_, e.2⟩
    obtain ⟨c0, x1, x2, x3, x4, x5⟩ := e.1 i hi
    have er : (fun t => r' (12 + 7 * i + 1 + t)) = fun t => r (12 + 7 * i + 1 + t) := funext (fun t => rk _ (by omega))
    exact ⟨c0, x1, x2, by rw [rk _ (by omega)]; exact x3, by rw [er]; exact x4, by rw [er]; exact x5⟩
/-- a node -/
theorem LD.node (h : LD τ ν r fn fl) (hf : fn < 12) {b : Nat → Int32} {q c : Nat} (c1 : 1 ≤ c) (c6 : c ≤ 6) (hb : lt8 (fun i => b (q + i)) c) (new : ∀ k, k < fn → ν k ≠ wd b q c) {r' : Nat → Int32} (hr : ∀ j, r' j = if j = 6 then nI (fn + 1) else if j = 12 + 7 * fn then nI c else if 12 + 7 * fn + 1 ≤ j ∧ j < 12 + 7 * fn + 1 + c then b (q + (j - (12 + 7 * fn + 1))) else r j) : LD (pr_up τ 0 6 (nI (fn + 1))) (lr_up ν fn (wd b q c)) r' (fn + 1) fl := by
  obtain ⟨⟨a1, a2, a3, a4, a5⟩, ⟨b1, b2⟩, cc, d, e⟩ := h
  have k : ∀ o, o ≠ 0 → pr_up τ 0 6 (nI (fn + 1)) o = τ o := fun o ho => pr_up_ne ho
  have rlo : ∀ i, i < 12 → i ≠ 6 → r' i = r i := fun i hi h6 => by rw [hr, if_neg h6, if_neg (by omega), if_neg (by omega)]
  have rhi : ∀ i, 96 ≤ i → r' i = r i := fun i hi => by rw [hr, if_neg (by omega), if_neg (by omega), if_neg (by omega)]
  refine ⟨?_, ⟨fun i hi => ?_, ?_⟩, fun i hi => ?_, fun i h1 h2 => ?_, ⟨fun i hi => ?_, fun i j hij hj => ?_⟩⟩
  · rw [k 1 (by decide), k 18 (by decide), k 9 (by decide), pr_upe, pr_upk (show (7 : Nat) ≠ 6 by decide), rlo 7 (by decide) (by decide), rlo 0 (by decide) (by decide), rlo 8 (by decide) (by decide), rlo 9 (by decide) (by decide), show r' 6 = nI (fn + 1) by rw [hr, if_pos rfl]]
    exact ⟨⟨rfl, rfl, by omega⟩, a2, a3, a4, a5⟩
  · rw [k 119 (by decide), rlo _ (by omega) (by omega)]; exact b1 i hi
  · unfold Se; rw [k 119 (by decide)]; exact b2
  · have := cc i hi
    unfold LKd at this ⊢
    rw [k 7 (by decide), k 8 (by decide), k 1 (by decide), k 2 (by decide), k 3 (by decide), k 5 (by decide), k 6 (by decide), k 4 (by decide), rhi _ (by omega), rhi _ (by omega)]
    exact ⟨fun c' hc => by rw [k _ (by omega), rhi _ (by omega)]; exact this.1 c' hc, this.2.1, this.2.2.1, vp_in_mono this.2.2.2.1 (by omega), vp_in_mono this.2.2.2.2.1 (by omega), this.2.2.2.2.2⟩
  · rw [rhi i (by omega)]; exact d i h1 h2
  · by_cases z : i = fn
    · subst z
      have e1 : r' (12 + 7 * i) = nI c := by rw [hr, if_neg (by omega), if_pos rfl]
      have e2 : ∀ t, t < c → r' (12 + 7 * i + 1 + t) = b (q + t) := fun t ht => by
        rw [hr, if_neg (by omega), if_neg (by omega), if_pos (by omega)]
        congr 1; omega
      refine ⟨c, c1, c6, e1, fun t ht => ?_, ?_⟩
      · show 1 ≤ (r' (12 + 7 * i + 1 + t)).toInt ∧ (r' (12 + 7 * i + 1 + t)).toInt ≤ 255
        rw [e2 t ht]; exact hb t ht
      · unfold lr_up wd
        rw [if_pos rfl, if_pos c6]
        exact (pkf_inj c6 c6 hb (fun t ht => by
          show 1 ≤ (r' (12 + 7 * i + 1 + t)).toInt ∧ (r' (12 + 7 * i + 1 + t)).toInt ≤ 255
          rw [e2 t ht]; exact hb t ht)).mpr ⟨rfl, fun t ht => (e2 t ht).symm⟩
    · obtain ⟨c0, x1, x2, x3, x4, x5⟩ := e.1 i (by omega)
      have er : ∀ t, t < c0 → r' (12 + 7 * i + 1 + t) = r (12 + 7 * i + 1 + t) := fun t ht => by rw [hr, if_neg (by omega), if_neg (by omega), if_neg (by omega)]
      have l8 : lt8 (fun t => r' (12 + 7 * i + 1 + t)) c0 := fun t ht => by
        show 1 ≤ (r' (12 + 7 * i + 1 + t)).toInt ∧ (r' (12 + 7 * i + 1 + t)).toInt ≤ 255
        rw [er t ht]; exact x4 t ht
      refine ⟨c0, x1, x2, by rw [hr, if_neg (by omega), if_neg (by omega), if_neg (by omega)]; exact x3, l8, ?_⟩
      unfold lr_up
      rw [if_neg z, x5]
      exact (pkf_inj x2 x2 x4 l8).mpr ⟨rfl, fun t ht => (er t ht).symm⟩
  · unfold lr_up
    rw [if_neg (show i ≠ fn by omega)]
    by_cases z : j = fn
    · rw [if_pos z]; exact new i (by omega)
    · rw [if_neg z]; exact e.2 i j hij (by omega)
/-- a link -/
theorem LD.link (h : LD τ ν r fn fl) (hf : fl < 24) {x y u p t : Int32} (hx : vp_in x fn) (hy : vp_in y fn) (hne : x ≠ y) (hp : 0 ≤ p.toInt ∧ p.toInt ≤ 1000) (ht : 1 ≤ t.toInt ∧ t.toInt ≤ 50) (hu : 0 ≤ u.toInt ∧ u.toInt ≤ 1000) {r' : Nat → Int32} (hr : ∀ j, r' j = if j = 7 then nI (fl + 1) else if j = 96 + 7 * fl + 5 then 1 else if j = 96 + 7 * fl + 4 then t else if j = 96 + 7 * fl + 3 then p else if j = 96 + 7 * fl + 2 then u else if j = 96 + 7 * fl + 1 then y else if j = 96 + 7 * fl + 0 then x else r j) : LD (lk_add τ fl x y u p t) ν r' fn (fl + 1) := by
  obtain ⟨⟨a1, a2, a3, a4, a5⟩, ⟨b1, b2⟩, cc, d, e⟩ := h
  have k : ∀ o, o = 0 ∨ 8 < o → lk_add τ fl x y u p t o = τ o := fun o ho => by
    unfold lk_add
    rw [pr_up_ne (by omega), pr_up_ne (by omega), pr_up_ne (by omega), pr_up_ne (by omega), pr_up_ne (by omega), pr_up_ne (by omega), pr_up_ne (by omega), pr_up_ne (by omega), pr_up_ne (by omega)]
  have ko : ∀ o i, 2 ≤ o → o ≤ 8 → i ≠ fl → lk_add τ fl x y u p t o i = τ o i := fun o i h1 h2 hi => by
    have st : ∀ {I : pr_I} {a v}, pr_up I a fl v o i = I o i := fun {I a v} => by
      by_cases q : o = a
      · rw [q, pr_upk hi]
      · rw [pr_upv q]
    unfold lk_add
    rw [pr_upv (by omega), pr_upv (by omega), st, st, st, st, st, st, st]
  have n0 : lk_add τ fl x y u p t 2 fl = x := by unfold lk_add; rw [pr_upv (by decide), pr_upv (by decide), pr_upv (by decide), pr_upv (by decide), pr_upv (by decide), pr_upv (by decide), pr_upv (by decide), pr_upv (by decide), pr_upe]
  have n1 : lk_add τ fl x y u p t 3 fl = y := by unfold lk_add; rw [pr_upv (by decide), pr_upv (by decide), pr_upv (by decide), pr_upv (by decide), pr_upv (by decide), pr_upv (by decide), pr_upv (by decide), pr_upe]
  have n2 : lk_add τ fl x y u p t 4 fl = u := by unfold lk_add; rw [pr_upv (by decide), pr_upv (by decide), pr_upv (by decide), pr_upv (by decide), pr_upv (by decide), pr_upv (by decide), pr_upe]
  have n3 : lk_add τ fl x y u p t 5 fl = p := by unfold lk_add; rw [pr_upv (by decide), pr_upv (by decide), pr_upv (by decide), pr_upv (by decide), pr_upv (by decide), pr_upe]
  have n4 : lk_add τ fl x y u p t 6 fl = t := by unfold lk_add; rw [pr_upv (by decide), pr_upv (by decide), pr_upv (by decide), pr_upv (by decide), pr_upe]
  have n5 : lk_add τ fl x y u p t 7 fl = 0 := by unfold lk_add; rw [pr_upv (by decide), pr_upv (by decide), pr_upv (by decide), pr_upe]
  have n6 : lk_add τ fl x y u p t 8 fl = 0 := by unfold lk_add; rw [pr_upv (by decide), pr_upv (by decide), pr_upe]
  have n7 : lk_add τ fl x y u p t 1 7 = (τ 1 7 ||| ((1 : Int32) <<< (nI fl &&& 31))) := by
    unfold lk_add; rw [pr_upk (by decide), pr_upe]
  have n8 : lk_add τ fl x y u p t 1 8 = nI (fl + 1) := by unfold lk_add; rw [pr_upe]
  have rlo : ∀ i, i < 96 → i ≠ 7 → r' i = r i := fun i hi h6 => by rw [hr, if_neg h6, if_neg (by omega), if_neg (by omega), if_neg (by omega), if_neg (by omega), if_neg (by omega), if_neg (by omega)]
  have rk : ∀ i c, i < fl → c < 7 → r' (96 + 7 * i + c) = r (96 + 7 * i + c) := fun i c hi hc => by rw [hr, if_neg (by omega), if_neg (by omega), if_neg (by omega), if_neg (by omega), if_neg (by omega), if_neg (by omega), if_neg (by omega)]
  refine ⟨?_, ⟨fun i hi => ?_, ?_⟩, fun i hi => ?_, fun i h1 h2 => ?_, ?_⟩
  · rw [k 0 (by decide), k 18 (by decide), k 9 (by decide), n8, rlo 6 (by decide) (by decide), rlo 0 (by decide) (by decide), rlo 8 (by decide) (by decide), rlo 9 (by decide) (by decide), show r' 7 = nI (fl + 1) by rw [hr, if_pos rfl]]
    exact ⟨a1, ⟨rfl, rfl, by omega⟩, a3, a4, a5⟩
  · rw [k 119 (by decide), rlo _ (by omega) (by omega)]; exact b1 i hi
  · unfold Se; rw [k 119 (by decide)]; exact b2
  · unfold LKd
    by_cases z : i = fl
    · subst z
      rw [n0, n1, n2, n3, n4, n5, n6, n7, bit_on (by omega) (by omega), if_pos rfl]
      refine ⟨fun c hc => ?_, ⟨rfl, rfl, ?_⟩, ⟨rfl, ?_⟩, hx, hy, hne, hp, ht, hu⟩
      · rcases (by omega : c = 0 ∨ c = 1 ∨ c = 2 ∨ c = 3 ∨ c = 4) with rfl | rfl | rfl | rfl | rfl
        · rw [hr, if_neg (by omega), if_neg (by omega), if_neg (by omega), if_neg (by omega), if_neg (by omega), if_neg (by omega), if_pos rfl]; exact n0
        · rw [hr, if_neg (by omega), if_neg (by omega), if_neg (by omega), if_neg (by omega), if_neg (by omega), if_pos rfl]; exact n1
        · rw [hr, if_neg (by omega), if_neg (by omega), if_neg (by omega), if_neg (by omega), if_pos rfl]; exact n2
        · rw [hr, if_neg (by omega), if_neg (by omega), if_neg (by omega), if_pos rfl]; exact n3
        · rw [hr, if_neg (by omega), if_neg (by omega), if_pos rfl]; exact n4
      · rw [hr, if_neg (by omega), if_neg (by omega), if_neg (by omega), if_neg (by omega), if_neg (by omega), if_neg (by omega), if_neg (by omega)]
        exact d _ (by omega) (by omega)
      · rw [hr, if_neg (by omega), if_pos rfl]
    · have := cc i (by omega)
      unfold LKd at this
      rw [ko 7 i (by decide) (by decide) z, ko 8 i (by decide) (by decide) z, ko 2 i (by decide) (by decide) z, ko 3 i (by decide) (by decide) z, ko 5 i (by decide) (by decide) z, ko 6 i (by decide) (by decide) z, ko 4 i (by decide) (by decide) z, n7, bit_on (by omega) (by omega), if_neg z, rk i 6 (by omega) (by decide), rk i 5 (by omega) (by decide)]
      exact ⟨fun c hc => by rw [ko _ i (by omega) (by omega) z, rk i c (by omega) (by omega)]; exact this.1 c hc, this.2⟩
  · rw [hr, if_neg (by omega), if_neg (by omega), if_neg (by omega), if_neg (by omega), if_neg (by omega), if_neg (by omega), if_neg (by omega)]
    exact d i (by omega) h2
  · refine ⟨fun i hi => ?_, e.2⟩
    obtain ⟨c0, x1, x2, x3, x4, x5⟩ := e.1 i hi
    have f12 := a1.2.2
    have er : ∀ t, t < c0 → r' (12 + 7 * i + 1 + t) = r (12 + 7 * i + 1 + t) := fun t ht => rlo _ (by omega) (by omega)
    have l8 : lt8 (fun t => r' (12 + 7 * i + 1 + t)) c0 := fun t ht => by
      show 1 ≤ (r' (12 + 7 * i + 1 + t)).toInt ∧ (r' (12 + 7 * i + 1 + t)).toInt ≤ 255
      rw [er t ht]; exact x4 t ht
    refine ⟨c0, x1, x2, by rw [rlo _ (by omega) (by omega)]; exact x3, l8, ?_⟩
    rw [x5]
    exact (pkf_inj x2 x2 x4 l8).mpr ⟨rfl, fun t ht => (er t ht).symm⟩
end LDS
