/-! THE LAW'S CASES 28 to 41 -/
theorem cs_ticketsInState {g : pr_C} {X : pr_X} {Q : State → Prop} {cs sl : Nat} {T : pr_T} {I : pr_I} {L : pr_L} {b N x : Nat} {xs : Nat → Int32} (hA : pr_Am g X mLaw 13 601024 7293034) (hs : Scr g X b N xs) {i : Int32} (h1 : vp_in (i + 1) N) (h2 : vp_in (i + 2) N) (h3 : vp_in (i + 3) N) (h4 : vp_in (i + 4) N) (hcs : cs + 122 ≤ 601024) (hsl : sl + 5821 ≤ 7293034) (h : LI x T I L) (nx : ∀ T' I' L', LI x T' I' L' → pr_G g X 8 Q (cs + 122) (sl + 5821) 3256 (lwL b x i) [] T' I' L') : pr_G g X 8 Q cs sl 1645 (lwL b x i) [] T I L := by
  obtain ⟨d1, mc1, ms1, Φ, hd1, hmc, hms, hC, K⟩ := S_ticketsInState (g := g) (l := pr_launch X) (p1 := xs (i + 1).toNatClampNeg) (pr_hl hA) h
  refine pr_aload_n (n := 1) hA dM_1645 rfl ?_
  refine lw_arg hA hs 1 dM_1646 dM_1647 dM_1649 (by decide) dM_1650 dM_1651 rfl rfl h1 ?_
  refine pr_aload_n (n := 3) hA dM_1652 rfl ?_
  refine pr_callSH (n := 3) (st := []) (As := [.ref x, .int (xs (i + 1).toNatClampNeg), .ref (x + 267)]) hA rfl hC kM_L_250 kZ_L kW_L_ticketsInState (by decide +kernel) (by decide) rfl kT_L_ticketsInState rfl (by omega) (by omega) (by omega) rfl (Nat.le_of_ble_eq_true rfl) dM_1653 (fun v T1 I1 L1 hv => ?_)
  obtain ⟨k, rfl, d2, Φ2, hd2, hk8, hM2, K2⟩ := K v T1 I1 L1 hv
  refine pr_istore (ls' := [.ref b, .ref x, .ref (x + 251), .ref (x + 267), .int i, .int k, .null, .null]) hA dM_1656 (by decide) rfl ?_
  refine pr_aload_n (n := 2) hA dM_1658 rfl ?_
  refine lw_arg hA hs 1 dM_1659 dM_1660 dM_1662 (by decide) dM_1663 dM_1664 rfl rfl h1 ?_
  refine pr_callV (st := []) (As := [.int (xs (i + 1).toNatClampNeg)]) hA rfl hM2 v_L_252 hk8 (by decide) rfl rfl rfl (by omega) (by omega) (by omega) rfl (Nat.le_of_ble_eq_true rfl) dM_1665 (fun v T2 I2 L2 hv => ?_) (fun _ _ _ _ h => h.elim)
  obtain ⟨⟨_, rfl, bb, rfl, hr⟩, h6, h2⟩ := K2 v T2 I2 L2 hv
  exact lw_tail hA dM_1668 dM_1670 dM_1671 dM_1674 dM_1676 dM_1681 dM_1683 dM_1686 dM_1687 dM_1688 dM_1689 dM_1691 dM_1692 dM_1693 dM_1698 (by decide) (by omega) (by omega) hcs hsl hr h6 h2 nx
theorem cs_ticketsOf {g : pr_C} {X : pr_X} {Q : State → Prop} {cs sl : Nat} {T : pr_T} {I : pr_I} {L : pr_L} {b N x : Nat} {xs : Nat → Int32} (hA : pr_Am g X mLaw 13 601024 7293034) (hs : Scr g X b N xs) {i : Int32} (h1 : vp_in (i + 1) N) (h2 : vp_in (i + 2) N) (h3 : vp_in (i + 3) N) (h4 : vp_in (i + 4) N) (hcs : cs + 122 ≤ 601024) (hsl : sl + 5821 ≤ 7293034) (h : LI x T I L) (nx : ∀ T' I' L', LI x T' I' L' → pr_G g X 8 Q (cs + 122) (sl + 5821) 3256 (lwL b x i) [] T' I' L') : pr_G g X 8 Q cs sl 1701 (lwL b x i) [] T I L := by
  obtain ⟨d1, mc1, ms1, Φ, hd1, hmc, hms, hC, K⟩ := S_ticketsOf (g := g) (l := pr_launch X) (p1 := xs (i + 1).toNatClampNeg) (p2 := xs (i + 2).toNatClampNeg) (pr_hl hA) h
  refine pr_aload_n (n := 1) hA dM_1701 rfl ?_
  refine lw_arg hA hs 1 dM_1702 dM_1703 dM_1705 (by decide) dM_1706 dM_1707 rfl rfl h1 ?_
  refine lw_arg hA hs 2 dM_1708 dM_1709 dM_1711 (by decide) dM_1712 dM_1713 rfl rfl h2 ?_
  refine pr_aload_n (n := 3) hA dM_1714 rfl ?_
  refine pr_callSH (n := 4) (st := []) (As := [.ref x, .int (xs (i + 1).toNatClampNeg), .int (xs (i + 2).toNatClampNeg), .ref (x + 267)]) hA rfl hC kM_L_253 kZ_L kW_L_ticketsOf (by decide +kernel) (by decide) rfl kT_L_ticketsOf rfl (by omega) (by omega) (by omega) rfl (Nat.le_of_ble_eq_true rfl) dM_1715 (fun v T1 I1 L1 hv => ?_)
  obtain ⟨k, rfl, d2, Φ2, hd2, hk8, hM2, K2⟩ := K v T1 I1 L1 hv
  refine pr_istore (ls' := [.ref b, .ref x, .ref (x + 251), .ref (x + 267), .int i, .int k, .null, .null]) hA dM_1718 (by decide) rfl ?_
  refine pr_aload_n (n := 2) hA dM_1720 rfl ?_
  refine lw_arg hA hs 1 dM_1721 dM_1722 dM_1724 (by decide) dM_1725 dM_1726 rfl rfl h1 ?_
  refine lw_arg hA hs 2 dM_1727 dM_1728 dM_1730 (by decide) dM_1731 dM_1732 rfl rfl h2 ?_
  refine pr_callV (st := []) (As := [.int (xs (i + 1).toNatClampNeg), .int (xs (i + 2).toNatClampNeg)]) hA rfl hM2 v_L_255 hk8 (by decide) rfl rfl rfl (by omega) (by omega) (by omega) rfl (Nat.le_of_ble_eq_true rfl) dM_1733 (fun v T2 I2 L2 hv => ?_) (fun _ _ _ _ h => h.elim)
  obtain ⟨⟨_, rfl, bb, rfl, hr⟩, h6, h2⟩ := K2 v T2 I2 L2 hv
  exact lw_tail hA dM_1736 dM_1738 dM_1739 dM_1742 dM_1744 dM_1749 dM_1751 dM_1754 dM_1755 dM_1756 dM_1757 dM_1759 dM_1760 dM_1761 dM_1766 (by decide) (by omega) (by omega) hcs hsl hr h6 h2 nx
theorem cs_revenue {g : pr_C} {X : pr_X} {Q : State → Prop} {cs sl : Nat} {T : pr_T} {I : pr_I} {L : pr_L} {b N x : Nat} {xs : Nat → Int32} (hA : pr_Am g X mLaw 13 601024 7293034) (hs : Scr g X b N xs) {i : Int32} (h1 : vp_in (i + 1) N) (h2 : vp_in (i + 2) N) (h3 : vp_in (i + 3) N) (h4 : vp_in (i + 4) N) (hcs : cs + 122 ≤ 601024) (hsl : sl + 5821 ≤ 7293034) (h : LI x T I L) (nx : ∀ T' I' L', LI x T' I' L' → pr_G g X 8 Q (cs + 122) (sl + 5821) 3256 (lwL b x i) [] T' I' L') : pr_G g X 8 Q cs sl 1769 (lwL b x i) [] T I L := by
  obtain ⟨d1, d2, r, I1, I2, L1, hd1, hd2, ⟨bb, rfl⟩, hC, hM2, h2'⟩ := S_revenue (g := g) (l := pr_launch X) (pr_hl hA) h
  have x7 : T.2.1 x = (7, 0) := by
    obtain ⟨_, _, _, _, _, _, hS, _⟩ := h
    exact hS.1.1
  have x8 : T.2.1 (x + 251) = (8, 0) := by
    obtain ⟨_, _, _, _, _, _, hS, _⟩ := h
    exact mo_k0 hS.2.2.2.2.2.2.1
  refine pr_aload_n (n := 1) hA dM_1769 rfl ?_
  refine pr_callV (st := []) (As := []) hA rfl hC v_L_256 x7 (by decide) rfl rfl rfl (by omega) (by omega) (by omega) rfl (Nat.le_of_ble_eq_true rfl) dM_1770 (fun v T1 I3 L3 hv => ?_) (fun _ _ _ _ h => h.elim)
  obtain ⟨rfl, rfl, rfl, rfl⟩ := hv
  refine pr_aload_n (n := 2) hA dM_1773 rfl ?_
  refine pr_callV (st := [.long bb]) (As := []) hA rfl hM2 v_L_260 x8 (by decide) rfl rfl rfl (by omega) (by omega) (by omega) rfl (Nat.le_of_ble_eq_true rfl) dM_1774 (fun v T1 I3 L3 hv => ?_) (fun _ _ _ _ h => h.elim)
  obtain ⟨rfl, rfl, rfl, rfl⟩ := hv
  refine pr_lcmp hA dM_1777 ?_
  exact pr_if_eq hA 3256 dM_1778 (by decide) (fun _ => pr_more (by omega) (by omega) (nx _ _ _ h2')) (fun c => absurd (lg_same rfl) c)
theorem cs_refunds {g : pr_C} {X : pr_X} {Q : State → Prop} {cs sl : Nat} {T : pr_T} {I : pr_I} {L : pr_L} {b N x : Nat} {xs : Nat → Int32} (hA : pr_Am g X mLaw 13 601024 7293034) (hs : Scr g X b N xs) {i : Int32} (h1 : vp_in (i + 1) N) (h2 : vp_in (i + 2) N) (h3 : vp_in (i + 3) N) (h4 : vp_in (i + 4) N) (hcs : cs + 122 ≤ 601024) (hsl : sl + 5821 ≤ 7293034) (h : LI x T I L) (nx : ∀ T' I' L', LI x T' I' L' → pr_G g X 8 Q (cs + 122) (sl + 5821) 3256 (lwL b x i) [] T' I' L') : pr_G g X 8 Q cs sl 1783 (lwL b x i) [] T I L := by
  obtain ⟨d1, d2, r, I1, I2, L1, hd1, hd2, ⟨bb, rfl⟩, hC, hM2, h2'⟩ := S_refunds (g := g) (l := pr_launch X) (pr_hl hA) h
  have x7 : T.2.1 x = (7, 0) := by
    obtain ⟨_, _, _, _, _, _, hS, _⟩ := h
    exact hS.1.1
  have x8 : T.2.1 (x + 251) = (8, 0) := by
    obtain ⟨_, _, _, _, _, _, hS, _⟩ := h
    exact mo_k0 hS.2.2.2.2.2.2.1
  refine pr_aload_n (n := 1) hA dM_1783 rfl ?_
  refine pr_callV (st := []) (As := []) hA rfl hC v_L_261 x7 (by decide) rfl rfl rfl (by omega) (by omega) (by omega) rfl (Nat.le_of_ble_eq_true rfl) dM_1784 (fun v T1 I3 L3 hv => ?_) (fun _ _ _ _ h => h.elim)
  obtain ⟨rfl, rfl, rfl, rfl⟩ := hv
  refine pr_aload_n (n := 2) hA dM_1787 rfl ?_
  refine pr_callV (st := [.long bb]) (As := []) hA rfl hM2 v_L_264 x8 (by decide) rfl rfl rfl (by omega) (by omega) (by omega) rfl (Nat.le_of_ble_eq_true rfl) dM_1788 (fun v T1 I3 L3 hv => ?_) (fun _ _ _ _ h => h.elim)
  obtain ⟨rfl, rfl, rfl, rfl⟩ := hv
  refine pr_lcmp hA dM_1791 ?_
  exact pr_if_eq hA 3256 dM_1792 (by decide) (fun _ => pr_more (by omega) (by omega) (nx _ _ _ h2')) (fun c => absurd (lg_same rfl) c)
theorem cs_nextExpiry {g : pr_C} {X : pr_X} {Q : State → Prop} {cs sl : Nat} {T : pr_T} {I : pr_I} {L : pr_L} {b N x : Nat} {xs : Nat → Int32} (hA : pr_Am g X mLaw 13 601024 7293034) (hs : Scr g X b N xs) {i : Int32} (h1 : vp_in (i + 1) N) (h2 : vp_in (i + 2) N) (h3 : vp_in (i + 3) N) (h4 : vp_in (i + 4) N) (hcs : cs + 122 ≤ 601024) (hsl : sl + 5821 ≤ 7293034) (h : LI x T I L) (nx : ∀ T' I' L', LI x T' I' L' → pr_G g X 8 Q (cs + 122) (sl + 5821) 3256 (lwL b x i) [] T' I' L') : pr_G g X 8 Q cs sl 1797 (lwL b x i) [] T I L := by
  obtain ⟨d1, d2, r, I1, I2, L1, hd1, hd2, ⟨bb, rfl⟩, hC, hM2, h2'⟩ := S_nextExpiry (g := g) (l := pr_launch X) (pr_hl hA) h
  have x7 : T.2.1 x = (7, 0) := by
    obtain ⟨_, _, _, _, _, _, hS, _⟩ := h
    exact hS.1.1
  have x8 : T.2.1 (x + 251) = (8, 0) := by
    obtain ⟨_, _, _, _, _, _, hS, _⟩ := h
    exact mo_k0 hS.2.2.2.2.2.2.1
  refine pr_aload_n (n := 1) hA dM_1797 rfl ?_
  refine pr_callV (st := []) (As := []) hA rfl hC v_L_265 x7 (by decide) rfl rfl rfl (by omega) (by omega) (by omega) rfl (Nat.le_of_ble_eq_true rfl) dM_1798 (fun v T1 I3 L3 hv => ?_) (fun _ _ _ _ h => h.elim)
  obtain ⟨rfl, rfl, rfl, rfl⟩ := hv
  refine pr_aload_n (n := 2) hA dM_1801 rfl ?_
  refine pr_callV (st := [.int bb]) (As := []) hA rfl hM2 v_L_268 x8 (by decide) rfl rfl rfl (by omega) (by omega) (by omega) rfl (Nat.le_of_ble_eq_true rfl) dM_1802 (fun v T1 I3 L3 hv => ?_) (fun _ _ _ _ h => h.elim)
  obtain ⟨rfl, rfl, rfl, rfl⟩ := hv
  exact pr_icmp_eq hA 3256 dM_1805 (by decide) (fun _ => pr_more (by omega) (by omega) (nx _ _ _ h2')) (fun c => absurd rfl c)
theorem cs_nextEvent {g : pr_C} {X : pr_X} {Q : State → Prop} {cs sl : Nat} {T : pr_T} {I : pr_I} {L : pr_L} {b N x : Nat} {xs : Nat → Int32} (hA : pr_Am g X mLaw 13 601024 7293034) (hs : Scr g X b N xs) {i : Int32} (h1 : vp_in (i + 1) N) (h2 : vp_in (i + 2) N) (h3 : vp_in (i + 3) N) (h4 : vp_in (i + 4) N) (hcs : cs + 122 ≤ 601024) (hsl : sl + 5821 ≤ 7293034) (h : LI x T I L) (nx : ∀ T' I' L', LI x T' I' L' → pr_G g X 8 Q (cs + 122) (sl + 5821) 3256 (lwL b x i) [] T' I' L') : pr_G g X 8 Q cs sl 1810 (lwL b x i) [] T I L := by
  obtain ⟨d1, d2, r, I1, I2, L1, hd1, hd2, ⟨bb, rfl⟩, hC, hM2, h2'⟩ := S_nextEvent (g := g) (l := pr_launch X) (pr_hl hA) h
  have x7 : T.2.1 x = (7, 0) := by
    obtain ⟨_, _, _, _, _, _, hS, _⟩ := h
    exact hS.1.1
  have x8 : T.2.1 (x + 251) = (8, 0) := by
    obtain ⟨_, _, _, _, _, _, hS, _⟩ := h
    exact mo_k0 hS.2.2.2.2.2.2.1
  refine pr_aload_n (n := 1) hA dM_1810 rfl ?_
  refine pr_callV (st := []) (As := []) hA rfl hC v_L_269 x7 (by decide) rfl rfl rfl (by omega) (by omega) (by omega) rfl (Nat.le_of_ble_eq_true rfl) dM_1811 (fun v T1 I3 L3 hv => ?_) (fun _ _ _ _ h => h.elim)
  obtain ⟨rfl, rfl, rfl, rfl⟩ := hv
  refine pr_aload_n (n := 2) hA dM_1814 rfl ?_
  refine pr_callV (st := [.int bb]) (As := []) hA rfl hM2 v_L_272 x8 (by decide) rfl rfl rfl (by omega) (by omega) (by omega) rfl (Nat.le_of_ble_eq_true rfl) dM_1815 (fun v T1 I3 L3 hv => ?_) (fun _ _ _ _ h => h.elim)
  obtain ⟨rfl, rfl, rfl, rfl⟩ := hv
  exact pr_icmp_eq hA 3256 dM_1818 (by decide) (fun _ => pr_more (by omega) (by omega) (nx _ _ _ h2')) (fun c => absurd rfl c)
theorem cs_isSafe {g : pr_C} {X : pr_X} {Q : State → Prop} {cs sl : Nat} {T : pr_T} {I : pr_I} {L : pr_L} {b N x : Nat} {xs : Nat → Int32} (hA : pr_Am g X mLaw 13 601024 7293034) (hs : Scr g X b N xs) {i : Int32} (h1 : vp_in (i + 1) N) (h2 : vp_in (i + 2) N) (h3 : vp_in (i + 3) N) (h4 : vp_in (i + 4) N) (hcs : cs + 122 ≤ 601024) (hsl : sl + 5821 ≤ 7293034) (h : LI x T I L) (nx : ∀ T' I' L', LI x T' I' L' → pr_G g X 8 Q (cs + 122) (sl + 5821) 3256 (lwL b x i) [] T' I' L') : pr_G g X 8 Q cs sl 1823 (lwL b x i) [] T I L := by
  obtain ⟨d1, d2, r, I1, I2, L1, hd1, hd2, ⟨bb, rfl⟩, hC, hM2, h2'⟩ := S_isSafe (g := g) (l := pr_launch X) (pr_hl hA) h
  have x7 : T.2.1 x = (7, 0) := by
    obtain ⟨_, _, _, _, _, _, hS, _⟩ := h
    exact hS.1.1
  have x8 : T.2.1 (x + 251) = (8, 0) := by
    obtain ⟨_, _, _, _, _, _, hS, _⟩ := h
    exact mo_k0 hS.2.2.2.2.2.2.1
  refine pr_aload_n (n := 1) hA dM_1823 rfl ?_
  refine pr_callV (st := []) (As := []) hA rfl hC v_L_273 x7 (by decide) rfl rfl rfl (by omega) (by omega) (by omega) rfl (Nat.le_of_ble_eq_true rfl) dM_1824 (fun v T1 I3 L3 hv => ?_) (fun _ _ _ _ h => h.elim)
  obtain ⟨rfl, rfl, rfl, rfl⟩ := hv
  refine pr_aload_n (n := 2) hA dM_1827 rfl ?_
  refine pr_callV (st := [.int bb]) (As := []) hA rfl hM2 v_L_277 x8 (by decide) rfl rfl rfl (by omega) (by omega) (by omega) rfl (Nat.le_of_ble_eq_true rfl) dM_1828 (fun v T1 I3 L3 hv => ?_) (fun _ _ _ _ h => h.elim)
  obtain ⟨rfl, rfl, rfl, rfl⟩ := hv
  exact pr_icmp_eq hA 3256 dM_1831 (by decide) (fun _ => pr_more (by omega) (by omega) (nx _ _ _ h2')) (fun c => absurd rfl c)
theorem cs_cheapest {g : pr_C} {X : pr_X} {Q : State → Prop} {cs sl : Nat} {T : pr_T} {I : pr_I} {L : pr_L} {b N x : Nat} {xs : Nat → Int32} (hA : pr_Am g X mLaw 13 601024 7293034) (hs : Scr g X b N xs) {i : Int32} (h1 : vp_in (i + 1) N) (h2 : vp_in (i + 2) N) (h3 : vp_in (i + 3) N) (h4 : vp_in (i + 4) N) (hcs : cs + 122 ≤ 601024) (hsl : sl + 5821 ≤ 7293034) (h : LI x T I L) (nx : ∀ T' I' L', LI x T' I' L' → pr_G g X 8 Q (cs + 122) (sl + 5821) 3256 (lwL b x i) [] T' I' L') : pr_G g X 8 Q cs sl 1836 (lwL b x i) [] T I L := by
  obtain ⟨d1, mc1, ms1, Φ, hd1, hmc, hms, hC, K⟩ := S_cheapest (g := g) (l := pr_launch X) (p1 := xs (i + 1).toNatClampNeg) (p2 := xs (i + 2).toNatClampNeg) (p3 := xs (i + 3).toNatClampNeg) (pr_hl hA) h
  refine pr_aload_n (n := 1) hA dM_1836 rfl ?_
  refine lw_arg hA hs 1 dM_1837 dM_1838 dM_1840 (by decide) dM_1841 dM_1842 rfl rfl h1 ?_
  refine lw_arg hA hs 2 dM_1843 dM_1844 dM_1846 (by decide) dM_1847 dM_1848 rfl rfl h2 ?_
  refine lw_arg hA hs 3 dM_1849 dM_1850 dM_1852 (by decide) dM_1853 dM_1854 rfl rfl h3 ?_
  refine pr_aload_n (n := 3) hA dM_1855 rfl ?_
  refine pr_callSH (n := 5) (st := []) (As := [.ref x, .int (xs (i + 1).toNatClampNeg), .int (xs (i + 2).toNatClampNeg), .int (xs (i + 3).toNatClampNeg), .ref (x + 267)]) hA rfl hC kM_L_278 kZ_L kW_L_cheapest (by decide +kernel) (by decide) rfl kT_L_cheapest rfl (by omega) (by omega) (by omega) rfl (Nat.le_of_ble_eq_true rfl) dM_1856 (fun v T1 I1 L1 hv => ?_)
  obtain ⟨k, rfl, d2, Φ2, hd2, hk8, hM2, K2⟩ := K v T1 I1 L1 hv
  refine pr_istore (ls' := [.ref b, .ref x, .ref (x + 251), .ref (x + 267), .int i, .int k, .null, .null]) hA dM_1859 (by decide) rfl ?_
  refine pr_aload_n (n := 2) hA dM_1861 rfl ?_
  refine lw_arg hA hs 1 dM_1862 dM_1863 dM_1865 (by decide) dM_1866 dM_1867 rfl rfl h1 ?_
  refine lw_arg hA hs 2 dM_1868 dM_1869 dM_1871 (by decide) dM_1872 dM_1873 rfl rfl h2 ?_
  refine lw_arg hA hs 3 dM_1874 dM_1875 dM_1877 (by decide) dM_1878 dM_1879 rfl rfl h3 ?_
  refine pr_callV (st := []) (As := [.int (xs (i + 1).toNatClampNeg), .int (xs (i + 2).toNatClampNeg), .int (xs (i + 3).toNatClampNeg)]) hA rfl hM2 v_L_281 hk8 (by decide) rfl rfl rfl (by omega) (by omega) (by omega) rfl (Nat.le_of_ble_eq_true rfl) dM_1880 (fun v T2 I2 L2 hv => ?_) (fun _ _ _ _ h => h.elim)
  obtain ⟨⟨_, rfl, bb, rfl, hr⟩, h6, h2⟩ := K2 v T2 I2 L2 hv
  exact lw_tail hA dM_1883 dM_1885 dM_1886 dM_1889 dM_1891 dM_1896 dM_1898 dM_1901 dM_1902 dM_1903 dM_1904 dM_1906 dM_1907 dM_1908 dM_1913 (by decide) (by omega) (by omega) hcs hsl hr h6 h2 nx
theorem cs_cheapestLink {g : pr_C} {X : pr_X} {Q : State → Prop} {cs sl : Nat} {T : pr_T} {I : pr_I} {L : pr_L} {b N x : Nat} {xs : Nat → Int32} (hA : pr_Am g X mLaw 13 601024 7293034) (hs : Scr g X b N xs) {i : Int32} (h1 : vp_in (i + 1) N) (h2 : vp_in (i + 2) N) (h3 : vp_in (i + 3) N) (h4 : vp_in (i + 4) N) (hcs : cs + 122 ≤ 601024) (hsl : sl + 5821 ≤ 7293034) (h : LI x T I L) (nx : ∀ T' I' L', LI x T' I' L' → pr_G g X 8 Q (cs + 122) (sl + 5821) 3256 (lwL b x i) [] T' I' L') : pr_G g X 8 Q cs sl 1916 (lwL b x i) [] T I L := by
  obtain ⟨d1, mc1, ms1, Φ, hd1, hmc, hms, hC, K⟩ := S_cheapestLink (g := g) (l := pr_launch X) (p1 := xs (i + 1).toNatClampNeg) (p2 := xs (i + 2).toNatClampNeg) (p3 := xs (i + 3).toNatClampNeg) (p4 := xs (i + 4).toNatClampNeg) (pr_hl hA) h
  refine pr_aload_n (n := 1) hA dM_1916 rfl ?_
  refine lw_arg hA hs 1 dM_1917 dM_1918 dM_1920 (by decide) dM_1921 dM_1922 rfl rfl h1 ?_
  refine lw_arg hA hs 2 dM_1923 dM_1924 dM_1926 (by decide) dM_1927 dM_1928 rfl rfl h2 ?_
  refine lw_arg hA hs 3 dM_1929 dM_1930 dM_1932 (by decide) dM_1933 dM_1934 rfl rfl h3 ?_
  refine lw_arg hA hs 4 dM_1935 dM_1936 dM_1938 (by decide) dM_1939 dM_1940 rfl rfl h4 ?_
  refine pr_aload_n (n := 3) hA dM_1941 rfl ?_
  refine pr_callSH (n := 6) (st := []) (As := [.ref x, .int (xs (i + 1).toNatClampNeg), .int (xs (i + 2).toNatClampNeg), .int (xs (i + 3).toNatClampNeg), .int (xs (i + 4).toNatClampNeg), .ref (x + 267)]) hA rfl hC kM_L_282 kZ_L kW_L_cheapestLink (by decide +kernel) (by decide) rfl kT_L_cheapestLink rfl (by omega) (by omega) (by omega) rfl (Nat.le_of_ble_eq_true rfl) dM_1942 (fun v T1 I1 L1 hv => ?_)
  obtain ⟨k, rfl, d2, Φ2, hd2, hk8, hM2, K2⟩ := K v T1 I1 L1 hv
  refine pr_istore (ls' := [.ref b, .ref x, .ref (x + 251), .ref (x + 267), .int i, .int k, .null, .null]) hA dM_1945 (by decide) rfl ?_
  refine pr_aload_n (n := 2) hA dM_1947 rfl ?_
  refine lw_arg hA hs 1 dM_1948 dM_1949 dM_1951 (by decide) dM_1952 dM_1953 rfl rfl h1 ?_
  refine lw_arg hA hs 2 dM_1954 dM_1955 dM_1957 (by decide) dM_1958 dM_1959 rfl rfl h2 ?_
  refine lw_arg hA hs 3 dM_1960 dM_1961 dM_1963 (by decide) dM_1964 dM_1965 rfl rfl h3 ?_
  refine lw_arg hA hs 4 dM_1966 dM_1967 dM_1969 (by decide) dM_1970 dM_1971 rfl rfl h4 ?_
  refine pr_callV (st := []) (As := [.int (xs (i + 1).toNatClampNeg), .int (xs (i + 2).toNatClampNeg), .int (xs (i + 3).toNatClampNeg), .int (xs (i + 4).toNatClampNeg)]) hA rfl hM2 v_L_284 hk8 (by decide) rfl rfl rfl (by omega) (by omega) (by omega) rfl (Nat.le_of_ble_eq_true rfl) dM_1972 (fun v T2 I2 L2 hv => ?_) (fun _ _ _ _ h => h.elim)
  obtain ⟨⟨_, rfl, bb, rfl, hr⟩, h6, h2⟩ := K2 v T2 I2 L2 hv
  exact lw_tail hA dM_1975 dM_1977 dM_1978 dM_1981 dM_1983 dM_1988 dM_1990 dM_1993 dM_1994 dM_1995 dM_1996 dM_1998 dM_1999 dM_2000 dM_2005 (by decide) (by omega) (by omega) hcs hsl hr h6 h2 nx
theorem cs_roundTrip {g : pr_C} {X : pr_X} {Q : State → Prop} {cs sl : Nat} {T : pr_T} {I : pr_I} {L : pr_L} {b N x : Nat} {xs : Nat → Int32} (hA : pr_Am g X mLaw 13 601024 7293034) (hs : Scr g X b N xs) {i : Int32} (h1 : vp_in (i + 1) N) (h2 : vp_in (i + 2) N) (h3 : vp_in (i + 3) N) (h4 : vp_in (i + 4) N) (hcs : cs + 122 ≤ 601024) (hsl : sl + 5821 ≤ 7293034) (h : LI x T I L) (nx : ∀ T' I' L', LI x T' I' L' → pr_G g X 8 Q (cs + 122) (sl + 5821) 3256 (lwL b x i) [] T' I' L') : pr_G g X 8 Q cs sl 2008 (lwL b x i) [] T I L := by
  obtain ⟨d1, mc1, ms1, Φ, hd1, hmc, hms, hC, K⟩ := S_roundTrip (g := g) (l := pr_launch X) (p1 := xs (i + 1).toNatClampNeg) (p2 := xs (i + 2).toNatClampNeg) (p3 := xs (i + 3).toNatClampNeg) (pr_hl hA) h
  refine pr_aload_n (n := 1) hA dM_2008 rfl ?_
  refine lw_arg hA hs 1 dM_2009 dM_2010 dM_2012 (by decide) dM_2013 dM_2014 rfl rfl h1 ?_
  refine lw_arg hA hs 2 dM_2015 dM_2016 dM_2018 (by decide) dM_2019 dM_2020 rfl rfl h2 ?_
  refine lw_arg hA hs 3 dM_2021 dM_2022 dM_2024 (by decide) dM_2025 dM_2026 rfl rfl h3 ?_
  refine pr_aload_n (n := 3) hA dM_2027 rfl ?_
  refine pr_callSH (n := 5) (st := []) (As := [.ref x, .int (xs (i + 1).toNatClampNeg), .int (xs (i + 2).toNatClampNeg), .int (xs (i + 3).toNatClampNeg), .ref (x + 267)]) hA rfl hC kM_L_285 kZ_L kW_L_roundTrip (by decide +kernel) (by decide) rfl kT_L_roundTrip rfl (by omega) (by omega) (by omega) rfl (Nat.le_of_ble_eq_true rfl) dM_2028 (fun v T1 I1 L1 hv => ?_)
  obtain ⟨k, rfl, d2, Φ2, hd2, hk8, hM2, K2⟩ := K v T1 I1 L1 hv
  refine pr_istore (ls' := [.ref b, .ref x, .ref (x + 251), .ref (x + 267), .int i, .int k, .null, .null]) hA dM_2031 (by decide) rfl ?_
  refine pr_aload_n (n := 2) hA dM_2033 rfl ?_
  refine lw_arg hA hs 1 dM_2034 dM_2035 dM_2037 (by decide) dM_2038 dM_2039 rfl rfl h1 ?_
  refine lw_arg hA hs 2 dM_2040 dM_2041 dM_2043 (by decide) dM_2044 dM_2045 rfl rfl h2 ?_
  refine lw_arg hA hs 3 dM_2046 dM_2047 dM_2049 (by decide) dM_2050 dM_2051 rfl rfl h3 ?_
  refine pr_callV (st := []) (As := [.int (xs (i + 1).toNatClampNeg), .int (xs (i + 2).toNatClampNeg), .int (xs (i + 3).toNatClampNeg)]) hA rfl hM2 v_L_287 hk8 (by decide) rfl rfl rfl (by omega) (by omega) (by omega) rfl (Nat.le_of_ble_eq_true rfl) dM_2052 (fun v T2 I2 L2 hv => ?_) (fun _ _ _ _ h => h.elim)
  obtain ⟨⟨_, rfl, bb, rfl, hr⟩, h6, h2⟩ := K2 v T2 I2 L2 hv
  exact lw_tail hA dM_2055 dM_2057 dM_2058 dM_2061 dM_2063 dM_2068 dM_2070 dM_2073 dM_2074 dM_2075 dM_2076 dM_2078 dM_2079 dM_2080 dM_2085 (by decide) (by omega) (by omega) hcs hsl hr h6 h2 nx
theorem cs_neededHold {g : pr_C} {X : pr_X} {Q : State → Prop} {cs sl : Nat} {T : pr_T} {I : pr_I} {L : pr_L} {b N x : Nat} {xs : Nat → Int32} (hA : pr_Am g X mLaw 13 601024 7293034) (hs : Scr g X b N xs) {i : Int32} (h1 : vp_in (i + 1) N) (h2 : vp_in (i + 2) N) (h3 : vp_in (i + 3) N) (h4 : vp_in (i + 4) N) (hcs : cs + 122 ≤ 601024) (hsl : sl + 5821 ≤ 7293034) (h : LI x T I L) (nx : ∀ T' I' L', LI x T' I' L' → pr_G g X 8 Q (cs + 122) (sl + 5821) 3256 (lwL b x i) [] T' I' L') : pr_G g X 8 Q cs sl 2088 (lwL b x i) [] T I L := by
  obtain ⟨d1, mc1, ms1, Φ, hd1, hmc, hms, hC, K⟩ := S_neededHold (g := g) (l := pr_launch X) (p1 := xs (i + 1).toNatClampNeg) (p2 := xs (i + 2).toNatClampNeg) (p3 := xs (i + 3).toNatClampNeg) (pr_hl hA) h
  refine pr_aload_n (n := 1) hA dM_2088 rfl ?_
  refine lw_arg hA hs 1 dM_2089 dM_2090 dM_2092 (by decide) dM_2093 dM_2094 rfl rfl h1 ?_
  refine lw_arg hA hs 2 dM_2095 dM_2096 dM_2098 (by decide) dM_2099 dM_2100 rfl rfl h2 ?_
  refine lw_arg hA hs 3 dM_2101 dM_2102 dM_2104 (by decide) dM_2105 dM_2106 rfl rfl h3 ?_
  refine pr_aload_n (n := 3) hA dM_2107 rfl ?_
  refine pr_callSH (n := 5) (st := []) (As := [.ref x, .int (xs (i + 1).toNatClampNeg), .int (xs (i + 2).toNatClampNeg), .int (xs (i + 3).toNatClampNeg), .ref (x + 267)]) hA rfl hC kM_L_288 kZ_L kW_L_neededHold (by decide +kernel) (by decide) rfl kT_L_neededHold rfl (by omega) (by omega) (by omega) rfl (Nat.le_of_ble_eq_true rfl) dM_2108 (fun v T1 I1 L1 hv => ?_)
  obtain ⟨k, rfl, d2, Φ2, hd2, hk8, hM2, K2⟩ := K v T1 I1 L1 hv
  refine pr_istore (ls' := [.ref b, .ref x, .ref (x + 251), .ref (x + 267), .int i, .int k, .null, .null]) hA dM_2111 (by decide) rfl ?_
  refine pr_aload_n (n := 2) hA dM_2113 rfl ?_
  refine lw_arg hA hs 1 dM_2114 dM_2115 dM_2117 (by decide) dM_2118 dM_2119 rfl rfl h1 ?_
  refine lw_arg hA hs 2 dM_2120 dM_2121 dM_2123 (by decide) dM_2124 dM_2125 rfl rfl h2 ?_
  refine lw_arg hA hs 3 dM_2126 dM_2127 dM_2129 (by decide) dM_2130 dM_2131 rfl rfl h3 ?_
  refine pr_callV (st := []) (As := [.int (xs (i + 1).toNatClampNeg), .int (xs (i + 2).toNatClampNeg), .int (xs (i + 3).toNatClampNeg)]) hA rfl hM2 v_L_290 hk8 (by decide) rfl rfl rfl (by omega) (by omega) (by omega) rfl (Nat.le_of_ble_eq_true rfl) dM_2132 (fun v T2 I2 L2 hv => ?_) (fun _ _ _ _ h => h.elim)
  obtain ⟨⟨_, rfl, bb, rfl, hr⟩, h6, h2⟩ := K2 v T2 I2 L2 hv
  exact lw_tail hA dM_2135 dM_2137 dM_2138 dM_2141 dM_2143 dM_2148 dM_2150 dM_2153 dM_2154 dM_2155 dM_2156 dM_2158 dM_2159 dM_2160 dM_2165 (by decide) (by omega) (by omega) hcs hsl hr h6 h2 nx
theorem cs_widest {g : pr_C} {X : pr_X} {Q : State → Prop} {cs sl : Nat} {T : pr_T} {I : pr_I} {L : pr_L} {b N x : Nat} {xs : Nat → Int32} (hA : pr_Am g X mLaw 13 601024 7293034) (hs : Scr g X b N xs) {i : Int32} (h1 : vp_in (i + 1) N) (h2 : vp_in (i + 2) N) (h3 : vp_in (i + 3) N) (h4 : vp_in (i + 4) N) (hcs : cs + 122 ≤ 601024) (hsl : sl + 5821 ≤ 7293034) (h : LI x T I L) (nx : ∀ T' I' L', LI x T' I' L' → pr_G g X 8 Q (cs + 122) (sl + 5821) 3256 (lwL b x i) [] T' I' L') : pr_G g X 8 Q cs sl 2168 (lwL b x i) [] T I L := by
  obtain ⟨d1, mc1, ms1, Φ, hd1, hmc, hms, hC, K⟩ := S_widest (g := g) (l := pr_launch X) (p1 := xs (i + 1).toNatClampNeg) (p2 := xs (i + 2).toNatClampNeg) (pr_hl hA) h
  refine pr_aload_n (n := 1) hA dM_2168 rfl ?_
  refine lw_arg hA hs 1 dM_2169 dM_2170 dM_2172 (by decide) dM_2173 dM_2174 rfl rfl h1 ?_
  refine lw_arg hA hs 2 dM_2175 dM_2176 dM_2178 (by decide) dM_2179 dM_2180 rfl rfl h2 ?_
  refine pr_aload_n (n := 3) hA dM_2181 rfl ?_
  refine pr_callSH (n := 4) (st := []) (As := [.ref x, .int (xs (i + 1).toNatClampNeg), .int (xs (i + 2).toNatClampNeg), .ref (x + 267)]) hA rfl hC kM_L_291 kZ_L kW_L_widest (by decide +kernel) (by decide) rfl kT_L_widest rfl (by omega) (by omega) (by omega) rfl (Nat.le_of_ble_eq_true rfl) dM_2182 (fun v T1 I1 L1 hv => ?_)
  obtain ⟨k, rfl, d2, Φ2, hd2, hk8, hM2, K2⟩ := K v T1 I1 L1 hv
  refine pr_istore (ls' := [.ref b, .ref x, .ref (x + 251), .ref (x + 267), .int i, .int k, .null, .null]) hA dM_2185 (by decide) rfl ?_
  refine pr_aload_n (n := 2) hA dM_2187 rfl ?_
  refine lw_arg hA hs 1 dM_2188 dM_2189 dM_2191 (by decide) dM_2192 dM_2193 rfl rfl h1 ?_
  refine lw_arg hA hs 2 dM_2194 dM_2195 dM_2197 (by decide) dM_2198 dM_2199 rfl rfl h2 ?_
  refine pr_callV (st := []) (As := [.int (xs (i + 1).toNatClampNeg), .int (xs (i + 2).toNatClampNeg)]) hA rfl hM2 v_L_293 hk8 (by decide) rfl rfl rfl (by omega) (by omega) (by omega) rfl (Nat.le_of_ble_eq_true rfl) dM_2200 (fun v T2 I2 L2 hv => ?_) (fun _ _ _ _ h => h.elim)
  obtain ⟨⟨_, rfl, bb, rfl, hr⟩, h6, h2⟩ := K2 v T2 I2 L2 hv
  exact lw_tail hA dM_2203 dM_2205 dM_2206 dM_2209 dM_2211 dM_2216 dM_2218 dM_2221 dM_2222 dM_2223 dM_2224 dM_2226 dM_2227 dM_2228 dM_2233 (by decide) (by omega) (by omega) hcs hsl hr h6 h2 nx
theorem cs_greatestFlow {g : pr_C} {X : pr_X} {Q : State → Prop} {cs sl : Nat} {T : pr_T} {I : pr_I} {L : pr_L} {b N x : Nat} {xs : Nat → Int32} (hA : pr_Am g X mLaw 13 601024 7293034) (hs : Scr g X b N xs) {i : Int32} (h1 : vp_in (i + 1) N) (h2 : vp_in (i + 2) N) (h3 : vp_in (i + 3) N) (h4 : vp_in (i + 4) N) (hcs : cs + 122 ≤ 601024) (hsl : sl + 5821 ≤ 7293034) (h : LI x T I L) (nx : ∀ T' I' L', LI x T' I' L' → pr_G g X 8 Q (cs + 122) (sl + 5821) 3256 (lwL b x i) [] T' I' L') : pr_G g X 8 Q cs sl 2236 (lwL b x i) [] T I L := by
  obtain ⟨d1, mc1, ms1, Φ, hd1, hmc, hms, hC, K⟩ := S_greatestFlow (g := g) (l := pr_launch X) (p1 := xs (i + 1).toNatClampNeg) (p2 := xs (i + 2).toNatClampNeg) (pr_hl hA) h
  refine pr_aload_n (n := 1) hA dM_2236 rfl ?_
  refine lw_arg hA hs 1 dM_2237 dM_2238 dM_2240 (by decide) dM_2241 dM_2242 rfl rfl h1 ?_
  refine lw_arg hA hs 2 dM_2243 dM_2244 dM_2246 (by decide) dM_2247 dM_2248 rfl rfl h2 ?_
  refine pr_aload_n (n := 3) hA dM_2249 rfl ?_
  refine pr_callSH (n := 4) (st := []) (As := [.ref x, .int (xs (i + 1).toNatClampNeg), .int (xs (i + 2).toNatClampNeg), .ref (x + 267)]) hA rfl hC kM_L_294 kZ_L kW_L_greatestFlow (by decide +kernel) (by decide) rfl kT_L_greatestFlow rfl (by omega) (by omega) (by omega) rfl (Nat.le_of_ble_eq_true rfl) dM_2250 (fun v T1 I1 L1 hv => ?_)
  obtain ⟨k, rfl, d2, Φ2, hd2, hk8, hM2, K2⟩ := K v T1 I1 L1 hv
  refine pr_istore (ls' := [.ref b, .ref x, .ref (x + 251), .ref (x + 267), .int i, .int k, .null, .null]) hA dM_2253 (by decide) rfl ?_
  refine pr_aload_n (n := 2) hA dM_2255 rfl ?_
  refine lw_arg hA hs 1 dM_2256 dM_2257 dM_2259 (by decide) dM_2260 dM_2261 rfl rfl h1 ?_
  refine lw_arg hA hs 2 dM_2262 dM_2263 dM_2265 (by decide) dM_2266 dM_2267 rfl rfl h2 ?_
  refine pr_callV (st := []) (As := [.int (xs (i + 1).toNatClampNeg), .int (xs (i + 2).toNatClampNeg)]) hA rfl hM2 v_L_296 hk8 (by decide) rfl rfl rfl (by omega) (by omega) (by omega) rfl (Nat.le_of_ble_eq_true rfl) dM_2268 (fun v T2 I2 L2 hv => ?_) (fun _ _ _ _ h => h.elim)
  obtain ⟨⟨_, rfl, bb, rfl, hr⟩, h6, h2⟩ := K2 v T2 I2 L2 hv
  exact lw_tail hA dM_2271 dM_2273 dM_2274 dM_2277 dM_2279 dM_2284 dM_2286 dM_2289 dM_2290 dM_2291 dM_2292 dM_2294 dM_2295 dM_2296 dM_2301 (by decide) (by omega) (by omega) hcs hsl hr h6 h2 nx
theorem cs_smallestCut {g : pr_C} {X : pr_X} {Q : State → Prop} {cs sl : Nat} {T : pr_T} {I : pr_I} {L : pr_L} {b N x : Nat} {xs : Nat → Int32} (hA : pr_Am g X mLaw 13 601024 7293034) (hs : Scr g X b N xs) {i : Int32} (h1 : vp_in (i + 1) N) (h2 : vp_in (i + 2) N) (h3 : vp_in (i + 3) N) (h4 : vp_in (i + 4) N) (hcs : cs + 122 ≤ 601024) (hsl : sl + 5821 ≤ 7293034) (h : LI x T I L) (nx : ∀ T' I' L', LI x T' I' L' → pr_G g X 8 Q (cs + 122) (sl + 5821) 3256 (lwL b x i) [] T' I' L') : pr_G g X 8 Q cs sl 2304 (lwL b x i) [] T I L := by
  obtain ⟨d1, mc1, ms1, Φ, hd1, hmc, hms, hC, K⟩ := S_smallestCut (g := g) (l := pr_launch X) (p1 := xs (i + 1).toNatClampNeg) (p2 := xs (i + 2).toNatClampNeg) (pr_hl hA) h
  refine pr_aload_n (n := 1) hA dM_2304 rfl ?_
  refine lw_arg hA hs 1 dM_2305 dM_2306 dM_2308 (by decide) dM_2309 dM_2310 rfl rfl h1 ?_
  refine lw_arg hA hs 2 dM_2311 dM_2312 dM_2314 (by decide) dM_2315 dM_2316 rfl rfl h2 ?_
  refine pr_aload_n (n := 3) hA dM_2317 rfl ?_
  refine pr_callSH (n := 4) (st := []) (As := [.ref x, .int (xs (i + 1).toNatClampNeg), .int (xs (i + 2).toNatClampNeg), .ref (x + 267)]) hA rfl hC kM_L_297 kZ_L kW_L_smallestCut (by decide +kernel) (by decide) rfl kT_L_smallestCut rfl (by omega) (by omega) (by omega) rfl (Nat.le_of_ble_eq_true rfl) dM_2318 (fun v T1 I1 L1 hv => ?_)
  obtain ⟨k, rfl, d2, Φ2, hd2, hk8, hM2, K2⟩ := K v T1 I1 L1 hv
  refine pr_istore (ls' := [.ref b, .ref x, .ref (x + 251), .ref (x + 267), .int i, .int k, .null, .null]) hA dM_2321 (by decide) rfl ?_
  refine pr_aload_n (n := 2) hA dM_2323 rfl ?_
  refine lw_arg hA hs 1 dM_2324 dM_2325 dM_2327 (by decide) dM_2328 dM_2329 rfl rfl h1 ?_
  refine lw_arg hA hs 2 dM_2330 dM_2331 dM_2333 (by decide) dM_2334 dM_2335 rfl rfl h2 ?_
  refine pr_callV (st := []) (As := [.int (xs (i + 1).toNatClampNeg), .int (xs (i + 2).toNatClampNeg)]) hA rfl hM2 v_L_299 hk8 (by decide) rfl rfl rfl (by omega) (by omega) (by omega) rfl (Nat.le_of_ble_eq_true rfl) dM_2336 (fun v T2 I2 L2 hv => ?_) (fun _ _ _ _ h => h.elim)
  obtain ⟨⟨_, rfl, bb, rfl, hr⟩, h6, h2⟩ := K2 v T2 I2 L2 hv
  exact lw_tail hA dM_2339 dM_2341 dM_2342 dM_2345 dM_2347 dM_2352 dM_2354 dM_2357 dM_2358 dM_2359 dM_2360 dM_2362 dM_2363 dM_2364 dM_2369 (by decide) (by omega) (by omega) hcs hsl hr h6 h2 nx
