/-! LOAD ON BOTH SIDES: the call -/
theorem LD.cong {τ : pr_I} {ν : Nat → Int64} {r r' : Nat → Int32} {fn fl : Nat} (h : LD τ ν r fn fl) (e : ∀ j, j < 5384 → r' j = r j) : LD τ ν r' fn fl := by
  obtain ⟨⟨a1, a2, a3, a4, a5⟩, ⟨b1, b2⟩, c, d, f⟩ := h
  have l24 := a2.2.2
  refine ⟨⟨⟨a1.1, (e 6 (by decide)).trans a1.2.1, a1.2.2⟩, ⟨a2.1, (e 7 (by decide)).trans a2.2.1, l24⟩, ⟨a3.1, (e 0 (by decide)).trans a3.2⟩, ⟨a4.1, (e 8 (by decide)).trans a4.2⟩, a5.1, (e 9 (by decide)).trans a5.2⟩, ⟨fun j hj => (b1 j hj).trans (e _ (by omega)).symm, b2⟩, fun k hk => ?_, fun j h1 h2 => (e j (by omega)).trans (d j h1 h2), f.cong a1.2.2 (fun i _ hi => e i (by omega))⟩
  obtain ⟨x1, x2, x3, x4⟩ := c k hk
  exact ⟨fun q hq => (x1 q hq).trans (e _ (by omega)).symm, ⟨x2.1, x2.2.1, (e _ (by omega)).trans x2.2.2⟩, ⟨x3.1, (e _ (by omega)).trans x3.2⟩, x4⟩
theorem cp_lt_l {f g : Nat → Int64} {n j : Nat} (h : j < n) : cp_row f g n j = f j := if_pos h
theorem NM.cp {ν ν' : Nat → Int64} {r : Nat → Int32} {nn : Nat} (h : NM ν r nn) (n12 : nn ≤ 12) (e : ∀ k, k < nn → ν' k = ν k) : NM ν' r nn := by
  refine ⟨fun k hk => ?_, fun i j hij hj => ?_⟩
  · rw [e k hk]; exact h.1 k hk
  · rw [e i (by omega), e j hj]; exact h.2 i j hij hj
section LOAD
variable {φ τ ω μ : pr_I} {ν νw : Nat → Int64} {n : Nat}
theorem ri_0 {k : Nat} (hk : k ≠ 3) : (in_ri φ τ ν) 0 k = (ri_R φ τ ν).1 0 k := by unfold in_ri; exact pr_upk hk
theorem eq_load (t : TXT φ μ n) (hm : mI μ) (hI : in_I φ) (hτ : wI τ) (hW : wI ω) (hx : WX ω μ) (hn : NM νw (μ 1) (ndn ω)) :
    fx_load_r φ τ ω ν = mf_load_r μ n ∧ TXT (fx_load φ τ ω ν) (mf_load μ n) 0 ∧ WX (fx_load_w ω φ τ ν) (mf_load μ n) ∧ NM (if (in_ri φ τ ν) 0 0 = 0 then cp_row (in_ri_nu φ τ ν) νw 12 else νw) ((mf_load μ n) 1) (ndn (fx_load_w ω φ τ ν)) := by
  have R := ri_pair (τ := τ) (ν := ν) t hm
  have xr : rk n (m_X0 μ) := hrk hm t.2.1
  have hS : mI (m_ra (m_X0 μ) n) := mI_m_ra xr t.2.2.1 (by rw [show m_pt (m_X0 μ) = 0 from hpt0]; exact Nat.zero_le _)
  have s1 : (m_ra (m_X0 μ) n) 1 = μ 1 := by
    rw [fr_m_ra (by decide)]; unfold m_X0
    rw [pr_up_ne (by decide), pr_up_ne (by decide), pr_row_ne (by decide), pr_up_ne (by decide)]
  have tb : ∀ a b : Nat → Int32, TB a b 0 := fun a b k hk => absurd hk (by omega)
  have e3 : (in_ri φ τ ν) 0 3 = nI 0 := by unfold in_ri; rw [pr_upe]; rfl
  have e0 : (in_ri φ τ ν) 0 0 = (ri_R φ τ ν).1 0 0 := ri_0 (by decide)
  have e1 : (in_ri φ τ ν) 0 1 = (ri_R φ τ ν).1 0 1 := ri_0 (by decide)
  have n12 : ndn ω ≤ 12 := Nat.le_of_lt_succ (vp_in_lt (hW 0 6 13 rfl))
  have H : mf_load_r μ n = (if m_ra_r (m_X0 μ) n = 0 then (((-100) : Int32) - (m_ra (m_X0 μ) n 0 11)) else (cp_row (m_ra (m_X0 μ) n 3) (μ 1) 5384) 7) := rfl
  have K : mf_load μ n = (if m_ra_r (m_X0 μ) n = 0 then pr_up (pr_up (m_ra (m_X0 μ) n) 0 8 (0 : Int32)) 0 13 (m_ra (m_X0 μ) n 0 12) else pr_row (pr_up (pr_up (m_ra (m_X0 μ) n) 0 8 (0 : Int32)) 0 13 (m_ra (m_X0 μ) n 0 12)) 1 (cp_row (m_ra (m_X0 μ) n 3) (μ 1) 5384)) := rfl
  have C : fx_load φ τ ω ν = in_ri φ τ ν := by unfold fx_load; exact ite_self _
  have u8 : ∀ Y : pr_I, ∀ v : Int32, (pr_up (pr_up Y 0 8 (0 : Int32)) 0 13 v) 0 8 = nI 0 ∧ (pr_up (pr_up Y 0 8 (0 : Int32)) 0 13 v) 0 13 = v := fun Y v => ⟨by rw [pr_upk (by decide), pr_upe]; rfl, pr_upe⟩
  rw [H, K, C]
  unfold fx_load_r fx_load_w
  rcases R with ⟨r1, r2, r3, fn, fl, ld⟩ | ⟨r1, r2, r3, r4⟩
  · have q : ¬ m_ra_r (m_X0 μ) n = 0 := by unfold m_ra_r; rw [r1]; decide
    have z : (in_ri φ τ ν) 0 0 = 0 := e0.trans r2
    have z12 : m_ra (m_X0 μ) n 0 12 = 0 := r3
    rw [if_neg q, if_neg q, if_pos z, if_pos z, if_pos z]
    have hτ' : wI (in_ri_w τ φ ν) := wI_in_ri_w hI hτ
    have hm' : mI (pr_row (pr_up (pr_up (m_ra (m_X0 μ) n) 0 8 (0 : Int32)) 0 13 (m_ra (m_X0 μ) n 0 12)) 1 (cp_row (m_ra (m_X0 μ) n 3) (μ 1) 5384)) := (mI.upn (mI.upn hS rfl) rfl).cpA (by decide) (hS.rwA (by decide)) (hm.rwA (by decide))
    have ld' : LD (in_ri_w τ φ ν) (in_ri_nu φ τ ν) ((pr_row (pr_up (pr_up (m_ra (m_X0 μ) n) 0 8 (0 : Int32)) 0 13 (m_ra (m_X0 μ) n 0 12)) 1 (cp_row (m_ra (m_X0 μ) n 3) (μ 1) 5384)) 1) fn fl := by
      rw [pr_row_eq]; exact ld.cong (fun j hj => cp_lt hj)
    have lv := w_cp_lv (σ := ω) hτ'
    have wx := WX.cp (ld'.wx hτ' hm') hW
    refine ⟨?_, ⟨e3, ?_, by decide, tb _ _, ?_⟩, wx, ?_⟩
    · show (wcp ω (in_ri_w τ φ ν)) 1 8 = _
      rw [lv.1.2.2.2.1, ld'.1.2.1.1, cp_lt (by decide)]
      exact ld.1.2.1.2.1.symm
    · rw [pr_row_ne (by decide)]; exact (u8 _ _).1
    · rw [pr_row_ne (by decide), (u8 _ _).2, z, z12]
    · show NM _ _ (ndn (wcp ω (in_ri_w τ φ ν)))
      rw [lv.nn, ld'.nn]
      exact (ld'.2.2.2.2).cp ld'.1.1.2.2 (fun k hk => cp_lt_l (by have := ld'.1.1.2.2; omega))
  · have q : m_ra_r (m_X0 μ) n = 0 := r1
    have z : ¬ (in_ri φ τ ν) 0 0 = 0 := by rw [e0]; exact r2
    rw [if_pos q, if_pos q, if_neg z, if_neg z, if_neg z]
    have hm' : mI (pr_up (pr_up (m_ra (m_X0 μ) n) 0 8 (0 : Int32)) 0 13 (m_ra (m_X0 μ) n 0 12)) := mI.upn (mI.upn hS rfl) rfl
    have x1 : (pr_up (pr_up (m_ra (m_X0 μ) n) 0 8 (0 : Int32)) 0 13 (m_ra (m_X0 μ) n 0 12)) 1 = μ 1 := by rw [pr_up_ne (by decide), pr_up_ne (by decide)]; exact s1
    refine ⟨?_, ⟨e3, (u8 _ _).1, by decide, tb _ _, ?_⟩, hx.cells hm' (fun j _ => by rw [x1]), ?_⟩
    · rw [e1, r4]; rfl
    · rw [(u8 _ _).2, e0, r3]; rfl
    · rw [x1]; exact hn
end LOAD
