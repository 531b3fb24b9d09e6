/-! THE LOADED NETWORK: what is kept holds at the start -/
theorem wI_load_v {φ τ ω : pr_I} {ν : Nat → Int64} (hI : in_I φ) (hV : wI τ) : wI (fx_load_v τ φ ω ν) := by
  unfold fx_load_v
  rcases ite_or (p := (in_ri φ τ ν) 0 0 = 0) (in_ri_w τ φ ν) (in_ri_w τ φ ν) with e | e <;> (rw [e]; exact wI_in_ri_w hI hV)
theorem load_ok (g : pr_C) {ι τ σ : pr_I} {ν : Nat → Int64} (t : TXn ι (llk g 9) (llk g 9).length) (hI : in_I ι) (hx : ∀ x ∈ llk g 9, x < 128) (h0 : ∀ o, o < 119 → σ o = fun _ => 0) (h1 : ∀ j, j < 5 → σ 119 j = pr_sv 0 j) (hτ : wI τ) (hp : ∀ x ∈ llk g 9, 1 ≤ x) (hd : ∀ (tx : List Nat) (P : Nat → Prop), (∀ x ∈ tx, P x) → ∀ j, j < tx.length → P (tx.getD j 0)) : fx_load_r ι τ σ ν = nI 9 ∧ wI (fx_load_v τ ι σ ν) ∧ ∃ μ, Inv 0 (fx_load_w σ ι τ ν) μ := by
  obtain ⟨a1, ⟨a2, a3, a4⟩, a5, a6, a7⟩ := ld_all (ω := σ) (ν := ν) g hI hτ t hx
  refine ⟨a1, wI_load_v hI hτ, ?_⟩
  have hσ : wI σ := wI_fresh h0
  obtain ⟨μ0, hμ0⟩ : ∃ μ0 : pr_I, μ0 = fun o => if o = 1 then bg_row (fun _ => 0) else fun _ => 0 := ⟨_, rfl⟩
  have b1 : μ0 1 = bg_row (fun _ => 0) := by rw [hμ0]; rfl
  have m0 : mI μ0 := mI_start (h := fun _ => 0) b1 (fun o c _ => by rw [hμ0]; exact if_neg c)
  have m1 : mI (pr_row μ0 7 (ι 1)) := fun o j B e => by
    unfold pr_row
    by_cases c : o = 7
    · subst c
      cases e
    · rw [if_neg c]; exact m0 o j B e
  have m2 : mI (pr_up (pr_up (pr_row μ0 7 (ι 1)) 0 8 (nI (llk g 9).length)) 0 13 (ι 0 0)) := (m1.upn rfl).upn rfl
  have r1 : (pr_up (pr_up (pr_row μ0 7 (ι 1)) 0 8 (nI (llk g 9).length)) 0 13 (ι 0 0)) 1 = bg_row (fun _ => 0) := by
    rw [pr_up_ne (by decide), pr_up_ne (by decide), pr_row_ne (by decide), b1]
  have tt : TXT ι (pr_up (pr_up (pr_row μ0 7 (ι 1)) 0 8 (nI (llk g 9).length)) 0 13 (ι 0 0)) (llk g 9).length := by
    refine ⟨t.1, by rw [pr_upk (by decide), pr_upe], t.2.1, fun k hk => ?_, by rw [pr_upe]⟩
    rw [pr_up_ne (by decide), pr_up_ne (by decide), pr_row_eq, t.2.2 k hk]
    have p := hd (llk g 9) (fun x => 1 ≤ x) hp k hk
    have q := hd (llk g 9) (fun x => x < 128) hx k hk
    rw [nI_toInt (by omega)]
    refine ⟨by omega, by omega, ?_⟩
    rw [if_pos (by omega)]
  generalize (pr_up (pr_up (pr_row μ0 7 (ι 1)) 0 8 (nI (llk g 9).length)) 0 13 (ι 0 0)) = μ at *
  have ld : ∀ νw : Nat → Int64, LD σ νw (μ 1) 0 0 := fun νw => by
    rw [r1]
    exact LD.fresh h0 h1
  have wx := (ld (fun _ => 0)).wx hσ m2
  have nm : NM (fun _ => 0) (μ 1) (ndn σ) := by
    rw [(ld (fun _ => 0)).nn]; exact (ld (fun _ => 0)).2.2.2.2
  have X := (eq_load (τ := τ) (ν := ν) tt m2 hI hτ hσ wx nm).2.2.1
  refine ⟨_, X, ⟨fun i hi => ?_, fun r hr => ?_, fun l hl => ?_⟩, a2, a3, a4, by rw [a7]; decide⟩
  · unfold tkn at hi; rw [a5] at hi; exact absurd hi (Nat.not_lt_zero i)
  · unfold rqn at hr; rw [a6] at hr; exact absurd hr (Nat.not_lt_zero r)
  · have e : tkn (fx_load_w σ ι τ ν) = 0 := by unfold tkn; rw [a5]; rfl
    rw [e]
    exact (X.1.1.lk l hl).2.2.2.2.2.1
