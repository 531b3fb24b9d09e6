/-! THE START: the string constants -/
def st_tm (i : Nat) : Term := .string RX1 (([57, 67, 90, 92, 94, 96, 98] : List Nat).getD i 0)
section STR
variable {s : State} {args : Array Value} {A : Nat → Prop}
theorem st_str (hq : ∀ c ∈ st_W, c.before args s = true) (hA : ∀ a : Nat, a < s.heap.size → ¬ A a) : ∃ adK adV : Nat → Nat, vk_S 7 pr_slen pr_sbyt adK adV A s s.heap ∧ ∀ i : Nat, i < 7 → (st_tm i).eval args s none [] s = some (.ref (adK i)) :=
  vk_Sof (N := 7) (tm := st_tm) (len := pr_slen) (byt := pr_sbyt) (by decide)
    (fun i hi => hq _ ((by decide +kernel : ∀ i, i < 7 → Cond.exactly (st_tm i) "java/lang/String" ∈ st_W) i hi))
    (fun i hi => hq _ ((by decide +kernel : ∀ i, i < 7 → Cond.eq (.field (st_tm i) "java/lang/String" "coder" "B") (.int 0) ∈ st_W) i hi))
    (fun i hi => hq _ ((by decide +kernel : ∀ i, i < 7 → Cond.arrayOf (.field (st_tm i) "java/lang/String" "value" "[B") .byte ∈ st_W) i hi))
    (fun i hi => hq _ ((by decide +kernel : ∀ i, i < 7 → Cond.eq (.length (.field (st_tm i) "java/lang/String" "value" "[B")) (.int (Int32.ofNat (pr_slen.getD i 0))) ∈ st_W) i hi))
    (fun i hi j hj => hq _ ((by decide +kernel : ∀ i, i < 7 → ∀ j, j < pr_slen.getD i 0 → Cond.eq (.elem (.field (st_tm i) "java/lang/String" "value" "[B") (.int (Int32.ofNat j))) (.int ((pr_sbyt.getD i []).getD j 0)) ∈ st_W) i hi j hj))
    (fun i j hi hj hij => ((by decide +kernel : ∀ i, i < 7 → ∀ j, j < 7 → i ≠ j → Cond.not (Cond.eq (st_tm i) (st_tm j)) ∈ st_W ∨ Cond.not (Cond.eq (st_tm j) (st_tm i)) ∈ st_W) i hi j hj hij).imp (hq _) (hq _))
    hA
end STR
