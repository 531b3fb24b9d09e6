/-! THE LAW'S CASES 14 to 27 -/
theorem cs_cancel {g : pr_C} {X : pr_X} {Q : State → Prop} {cs sl : Nat} {T : pr_T} {I : pr_I} {L : pr_L} {b N x : Nat} {xs : Nat → Int32} (hA : pr_Am g X mLaw 13 601024 7293034) (hs : Scr g X b N xs) {i : Int32} (h1 : vp_in (i + 1) N) (h2 : vp_in (i + 2) N) (h3 : vp_in (i + 3) N) (h4 : vp_in (i + 4) N) (hcs : cs + 122 ≤ 601024) (hsl : sl + 5821 ≤ 7293034) (h : LI x T I L) (nx : ∀ T' I' L', LI x T' I' L' → pr_G g X 8 Q (cs + 122) (sl + 5821) 3256 (lwL b x i) [] T' I' L') : pr_G g X 8 Q cs sl 930 (lwL b x i) [] T I L := by
  obtain ⟨d1, mc1, ms1, Φ, hd1, hmc, hms, hC, K⟩ := S_cancel (g := g) (l := pr_launch X) (p1 := xs (i + 1).toNatClampNeg) (pr_hl hA) h
  refine pr_aload_n (n := 1) hA dM_930 rfl ?_
  refine lw_arg hA hs 1 dM_931 dM_932 dM_934 (by decide) dM_935 dM_936 rfl rfl h1 ?_
  refine pr_aload_n (n := 3) hA dM_937 rfl ?_
  refine pr_callSH (n := 3) (st := []) (As := [.ref x, .int (xs (i + 1).toNatClampNeg), .ref (x + 267)]) hA rfl hC kM_L_205 kZ_L kW_L_cancel (by decide +kernel) (by decide) rfl kT_L_cancel rfl (by omega) (by omega) (by omega) rfl (Nat.le_of_ble_eq_true rfl) dM_938 (fun v T1 I1 L1 hv => ?_)
  obtain ⟨k, rfl, d2, Φ2, hd2, hk8, hM2, K2⟩ := K v T1 I1 L1 hv
  refine pr_istore (ls' := [.ref b, .ref x, .ref (x + 251), .ref (x + 267), .int i, .int k, .null, .null]) hA dM_941 (by decide) rfl ?_
  refine pr_aload_n (n := 2) hA dM_943 rfl ?_
  refine lw_arg hA hs 1 dM_944 dM_945 dM_947 (by decide) dM_948 dM_949 rfl rfl h1 ?_
  refine pr_callV (st := []) (As := [.int (xs (i + 1).toNatClampNeg)]) hA rfl hM2 v_L_207 hk8 (by decide) rfl rfl rfl (by omega) (by omega) (by omega) rfl (Nat.le_of_ble_eq_true rfl) dM_950 (fun v T2 I2 L2 hv => ?_) (fun _ _ _ _ h => h.elim)
  obtain ⟨⟨_, rfl, bb, rfl, hr⟩, h6, h2⟩ := K2 v T2 I2 L2 hv
  exact lw_tail hA dM_953 dM_955 dM_956 dM_959 dM_961 dM_966 dM_968 dM_971 dM_972 dM_973 dM_974 dM_976 dM_977 dM_978 dM_983 (by decide) (by omega) (by omega) hcs hsl hr h6 h2 nx
theorem cs_extend {g : pr_C} {X : pr_X} {Q : State → Prop} {cs sl : Nat} {T : pr_T} {I : pr_I} {L : pr_L} {b N x : Nat} {xs : Nat → Int32} (hA : pr_Am g X mLaw 13 601024 7293034) (hs : Scr g X b N xs) {i : Int32} (h1 : vp_in (i + 1) N) (h2 : vp_in (i + 2) N) (h3 : vp_in (i + 3) N) (h4 : vp_in (i + 4) N) (hcs : cs + 122 ≤ 601024) (hsl : sl + 5821 ≤ 7293034) (h : LI x T I L) (nx : ∀ T' I' L', LI x T' I' L' → pr_G g X 8 Q (cs + 122) (sl + 5821) 3256 (lwL b x i) [] T' I' L') : pr_G g X 8 Q cs sl 986 (lwL b x i) [] T I L := by
  obtain ⟨d1, mc1, ms1, Φ, hd1, hmc, hms, hC, K⟩ := S_extend (g := g) (l := pr_launch X) (p1 := xs (i + 1).toNatClampNeg) (pr_hl hA) h
  refine pr_aload_n (n := 1) hA dM_986 rfl ?_
  refine lw_arg hA hs 1 dM_987 dM_988 dM_990 (by decide) dM_991 dM_992 rfl rfl h1 ?_
  refine pr_aload_n (n := 3) hA dM_993 rfl ?_
  refine pr_callSH (n := 3) (st := []) (As := [.ref x, .int (xs (i + 1).toNatClampNeg), .ref (x + 267)]) hA rfl hC kM_L_208 kZ_L kW_L_extend (by decide +kernel) (by decide) rfl kT_L_extend rfl (by omega) (by omega) (by omega) rfl (Nat.le_of_ble_eq_true rfl) dM_994 (fun v T1 I1 L1 hv => ?_)
  obtain ⟨k, rfl, d2, Φ2, hd2, hk8, hM2, K2⟩ := K v T1 I1 L1 hv
  refine pr_istore (ls' := [.ref b, .ref x, .ref (x + 251), .ref (x + 267), .int i, .int k, .null, .null]) hA dM_997 (by decide) rfl ?_
  refine pr_aload_n (n := 2) hA dM_999 rfl ?_
  refine lw_arg hA hs 1 dM_1000 dM_1001 dM_1003 (by decide) dM_1004 dM_1005 rfl rfl h1 ?_
  refine pr_callV (st := []) (As := [.int (xs (i + 1).toNatClampNeg)]) hA rfl hM2 v_L_210 hk8 (by decide) rfl rfl rfl (by omega) (by omega) (by omega) rfl (Nat.le_of_ble_eq_true rfl) dM_1006 (fun v T2 I2 L2 hv => ?_) (fun _ _ _ _ h => h.elim)
  obtain ⟨⟨_, rfl, bb, rfl, hr⟩, h6, h2⟩ := K2 v T2 I2 L2 hv
  exact lw_tail hA dM_1009 dM_1011 dM_1012 dM_1015 dM_1017 dM_1022 dM_1024 dM_1027 dM_1028 dM_1029 dM_1030 dM_1032 dM_1033 dM_1034 dM_1039 (by decide) (by omega) (by omega) hcs hsl hr h6 h2 nx
theorem cs_advance {g : pr_C} {X : pr_X} {Q : State → Prop} {cs sl : Nat} {T : pr_T} {I : pr_I} {L : pr_L} {b N x : Nat} {xs : Nat → Int32} (hA : pr_Am g X mLaw 13 601024 7293034) (hs : Scr g X b N xs) {i : Int32} (h1 : vp_in (i + 1) N) (h2 : vp_in (i + 2) N) (h3 : vp_in (i + 3) N) (h4 : vp_in (i + 4) N) (hcs : cs + 122 ≤ 601024) (hsl : sl + 5821 ≤ 7293034) (h : LI x T I L) (nx : ∀ T' I' L', LI x T' I' L' → pr_G g X 8 Q (cs + 122) (sl + 5821) 3256 (lwL b x i) [] T' I' L') : pr_G g X 8 Q cs sl 1042 (lwL b x i) [] T I L := by
  obtain ⟨d1, mc1, ms1, Φ, hd1, hmc, hms, hC, K⟩ := S_advance (g := g) (l := pr_launch X) (p1 := xs (i + 1).toNatClampNeg) (pr_hl hA) h
  refine pr_aload_n (n := 1) hA dM_1042 rfl ?_
  refine lw_arg hA hs 1 dM_1043 dM_1044 dM_1046 (by decide) dM_1047 dM_1048 rfl rfl h1 ?_
  refine pr_aload_n (n := 3) hA dM_1049 rfl ?_
  refine pr_callSH (n := 3) (st := []) (As := [.ref x, .int (xs (i + 1).toNatClampNeg), .ref (x + 267)]) hA rfl hC kM_L_211 kZ_L kW_L_advance (by decide +kernel) (by decide) rfl kT_L_advance rfl (by omega) (by omega) (by omega) rfl (Nat.le_of_ble_eq_true rfl) dM_1050 (fun v T1 I1 L1 hv => ?_)
  obtain ⟨k, rfl, d2, Φ2, hd2, hk8, hM2, K2⟩ := K v T1 I1 L1 hv
  refine pr_istore (ls' := [.ref b, .ref x, .ref (x + 251), .ref (x + 267), .int i, .int k, .null, .null]) hA dM_1053 (by decide) rfl ?_
  refine pr_aload_n (n := 2) hA dM_1055 rfl ?_
  refine lw_arg hA hs 1 dM_1056 dM_1057 dM_1059 (by decide) dM_1060 dM_1061 rfl rfl h1 ?_
  refine pr_callV (st := []) (As := [.int (xs (i + 1).toNatClampNeg)]) hA rfl hM2 v_L_213 hk8 (by decide) rfl rfl rfl (by omega) (by omega) (by omega) rfl (Nat.le_of_ble_eq_true rfl) dM_1062 (fun v T2 I2 L2 hv => ?_) (fun _ _ _ _ h => h.elim)
  obtain ⟨⟨_, rfl, bb, rfl, hr⟩, h6, h2⟩ := K2 v T2 I2 L2 hv
  exact lw_tail hA dM_1065 dM_1067 dM_1068 dM_1071 dM_1073 dM_1078 dM_1080 dM_1083 dM_1084 dM_1085 dM_1086 dM_1088 dM_1089 dM_1090 dM_1095 (by decide) (by omega) (by omega) hcs hsl hr h6 h2 nx
theorem cs_time {g : pr_C} {X : pr_X} {Q : State → Prop} {cs sl : Nat} {T : pr_T} {I : pr_I} {L : pr_L} {b N x : Nat} {xs : Nat → Int32} (hA : pr_Am g X mLaw 13 601024 7293034) (hs : Scr g X b N xs) {i : Int32} (h1 : vp_in (i + 1) N) (h2 : vp_in (i + 2) N) (h3 : vp_in (i + 3) N) (h4 : vp_in (i + 4) N) (hcs : cs + 122 ≤ 601024) (hsl : sl + 5821 ≤ 7293034) (h : LI x T I L) (nx : ∀ T' I' L', LI x T' I' L' → pr_G g X 8 Q (cs + 122) (sl + 5821) 3256 (lwL b x i) [] T' I' L') : pr_G g X 8 Q cs sl 1098 (lwL b x i) [] T I L := by
  obtain ⟨d1, d2, r, I1, I2, L1, hd1, hd2, ⟨bb, rfl⟩, hC, hM2, h2'⟩ := S_time (g := g) (l := pr_launch X) (pr_hl hA) h
  have x7 : T.2.1 x = (7, 0) := by
    obtain ⟨_, _, _, _, _, _, hS, _⟩ := h
    exact hS.1.1
  have x8 : T.2.1 (x + 251) = (8, 0) := by
    obtain ⟨_, _, _, _, _, _, hS, _⟩ := h
    exact mo_k0 hS.2.2.2.2.2.2.1
  refine pr_aload_n (n := 1) hA dM_1098 rfl ?_
  refine pr_callV (st := []) (As := []) hA rfl hC v_L_214 x7 (by decide) rfl rfl rfl (by omega) (by omega) (by omega) rfl (Nat.le_of_ble_eq_true rfl) dM_1099 (fun v T1 I3 L3 hv => ?_) (fun _ _ _ _ h => h.elim)
  obtain ⟨rfl, rfl, rfl, rfl⟩ := hv
  refine pr_aload_n (n := 2) hA dM_1102 rfl ?_
  refine pr_callV (st := [.int bb]) (As := []) hA rfl hM2 v_L_217 x8 (by decide) rfl rfl rfl (by omega) (by omega) (by omega) rfl (Nat.le_of_ble_eq_true rfl) dM_1103 (fun v T1 I3 L3 hv => ?_) (fun _ _ _ _ h => h.elim)
  obtain ⟨rfl, rfl, rfl, rfl⟩ := hv
  exact pr_icmp_eq hA 3256 dM_1106 (by decide) (fun _ => pr_more (by omega) (by omega) (nx _ _ _ h2')) (fun c => absurd rfl c)
theorem cs_requestCount {g : pr_C} {X : pr_X} {Q : State → Prop} {cs sl : Nat} {T : pr_T} {I : pr_I} {L : pr_L} {b N x : Nat} {xs : Nat → Int32} (hA : pr_Am g X mLaw 13 601024 7293034) (hs : Scr g X b N xs) {i : Int32} (h1 : vp_in (i + 1) N) (h2 : vp_in (i + 2) N) (h3 : vp_in (i + 3) N) (h4 : vp_in (i + 4) N) (hcs : cs + 122 ≤ 601024) (hsl : sl + 5821 ≤ 7293034) (h : LI x T I L) (nx : ∀ T' I' L', LI x T' I' L' → pr_G g X 8 Q (cs + 122) (sl + 5821) 3256 (lwL b x i) [] T' I' L') : pr_G g X 8 Q cs sl 1111 (lwL b x i) [] T I L := by
  obtain ⟨d1, d2, r, I1, I2, L1, hd1, hd2, ⟨bb, rfl⟩, hC, hM2, h2'⟩ := S_requestCount (g := g) (l := pr_launch X) (pr_hl hA) h
  have x7 : T.2.1 x = (7, 0) := by
    obtain ⟨_, _, _, _, _, _, hS, _⟩ := h
    exact hS.1.1
  have x8 : T.2.1 (x + 251) = (8, 0) := by
    obtain ⟨_, _, _, _, _, _, hS, _⟩ := h
    exact mo_k0 hS.2.2.2.2.2.2.1
  refine pr_aload_n (n := 1) hA dM_1111 rfl ?_
  refine pr_callV (st := []) (As := []) hA rfl hC v_L_218 x7 (by decide) rfl rfl rfl (by omega) (by omega) (by omega) rfl (Nat.le_of_ble_eq_true rfl) dM_1112 (fun v T1 I3 L3 hv => ?_) (fun _ _ _ _ h => h.elim)
  obtain ⟨rfl, rfl, rfl, rfl⟩ := hv
  refine pr_aload_n (n := 2) hA dM_1115 rfl ?_
  refine pr_callV (st := [.int bb]) (As := []) hA rfl hM2 v_L_221 x8 (by decide) rfl rfl rfl (by omega) (by omega) (by omega) rfl (Nat.le_of_ble_eq_true rfl) dM_1116 (fun v T1 I3 L3 hv => ?_) (fun _ _ _ _ h => h.elim)
  obtain ⟨rfl, rfl, rfl, rfl⟩ := hv
  exact pr_icmp_eq hA 3256 dM_1119 (by decide) (fun _ => pr_more (by omega) (by omega) (nx _ _ _ h2')) (fun c => absurd rfl c)
theorem cs_requestValue {g : pr_C} {X : pr_X} {Q : State → Prop} {cs sl : Nat} {T : pr_T} {I : pr_I} {L : pr_L} {b N x : Nat} {xs : Nat → Int32} (hA : pr_Am g X mLaw 13 601024 7293034) (hs : Scr g X b N xs) {i : Int32} (h1 : vp_in (i + 1) N) (h2 : vp_in (i + 2) N) (h3 : vp_in (i + 3) N) (h4 : vp_in (i + 4) N) (hcs : cs + 122 ≤ 601024) (hsl : sl + 5821 ≤ 7293034) (h : LI x T I L) (nx : ∀ T' I' L', LI x T' I' L' → pr_G g X 8 Q (cs + 122) (sl + 5821) 3256 (lwL b x i) [] T' I' L') : pr_G g X 8 Q cs sl 1124 (lwL b x i) [] T I L := by
  obtain ⟨d1, mc1, ms1, Φ, hd1, hmc, hms, hC, K⟩ := S_requestValue (g := g) (l := pr_launch X) (p1 := xs (i + 1).toNatClampNeg) (p2 := xs (i + 2).toNatClampNeg) (pr_hl hA) h
  refine pr_aload_n (n := 1) hA dM_1124 rfl ?_
  refine lw_arg hA hs 1 dM_1125 dM_1126 dM_1128 (by decide) dM_1129 dM_1130 rfl rfl h1 ?_
  refine lw_arg hA hs 2 dM_1131 dM_1132 dM_1134 (by decide) dM_1135 dM_1136 rfl rfl h2 ?_
  refine pr_aload_n (n := 3) hA dM_1137 rfl ?_
  refine pr_callSH (n := 4) (st := []) (As := [.ref x, .int (xs (i + 1).toNatClampNeg), .int (xs (i + 2).toNatClampNeg), .ref (x + 267)]) hA rfl hC kM_L_222 kZ_L kW_L_requestValue (by decide +kernel) (by decide) rfl kT_L_requestValue rfl (by omega) (by omega) (by omega) rfl (Nat.le_of_ble_eq_true rfl) dM_1138 (fun v T1 I1 L1 hv => ?_)
  obtain ⟨k, rfl, d2, Φ2, hd2, hk8, hM2, K2⟩ := K v T1 I1 L1 hv
  refine pr_istore (ls' := [.ref b, .ref x, .ref (x + 251), .ref (x + 267), .int i, .int k, .null, .null]) hA dM_1141 (by decide) rfl ?_
  refine pr_aload_n (n := 2) hA dM_1143 rfl ?_
  refine lw_arg hA hs 1 dM_1144 dM_1145 dM_1147 (by decide) dM_1148 dM_1149 rfl rfl h1 ?_
  refine lw_arg hA hs 2 dM_1150 dM_1151 dM_1153 (by decide) dM_1154 dM_1155 rfl rfl h2 ?_
  refine pr_callV (st := []) (As := [.int (xs (i + 1).toNatClampNeg), .int (xs (i + 2).toNatClampNeg)]) hA rfl hM2 v_L_224 hk8 (by decide) rfl rfl rfl (by omega) (by omega) (by omega) rfl (Nat.le_of_ble_eq_true rfl) dM_1156 (fun v T2 I2 L2 hv => ?_) (fun _ _ _ _ h => h.elim)
  obtain ⟨⟨_, rfl, bb, rfl, hr⟩, h6, h2⟩ := K2 v T2 I2 L2 hv
  exact lw_tail hA dM_1159 dM_1161 dM_1162 dM_1165 dM_1167 dM_1172 dM_1174 dM_1177 dM_1178 dM_1179 dM_1180 dM_1182 dM_1183 dM_1184 dM_1189 (by decide) (by omega) (by omega) hcs hsl hr h6 h2 nx
theorem cs_pathLength {g : pr_C} {X : pr_X} {Q : State → Prop} {cs sl : Nat} {T : pr_T} {I : pr_I} {L : pr_L} {b N x : Nat} {xs : Nat → Int32} (hA : pr_Am g X mLaw 13 601024 7293034) (hs : Scr g X b N xs) {i : Int32} (h1 : vp_in (i + 1) N) (h2 : vp_in (i + 2) N) (h3 : vp_in (i + 3) N) (h4 : vp_in (i + 4) N) (hcs : cs + 122 ≤ 601024) (hsl : sl + 5821 ≤ 7293034) (h : LI x T I L) (nx : ∀ T' I' L', LI x T' I' L' → pr_G g X 8 Q (cs + 122) (sl + 5821) 3256 (lwL b x i) [] T' I' L') : pr_G g X 8 Q cs sl 1192 (lwL b x i) [] T I L := by
  obtain ⟨d1, mc1, ms1, Φ, hd1, hmc, hms, hC, K⟩ := S_pathLength (g := g) (l := pr_launch X) (p1 := xs (i + 1).toNatClampNeg) (pr_hl hA) h
  refine pr_aload_n (n := 1) hA dM_1192 rfl ?_
  refine lw_arg hA hs 1 dM_1193 dM_1194 dM_1196 (by decide) dM_1197 dM_1198 rfl rfl h1 ?_
  refine pr_aload_n (n := 3) hA dM_1199 rfl ?_
  refine pr_callSH (n := 3) (st := []) (As := [.ref x, .int (xs (i + 1).toNatClampNeg), .ref (x + 267)]) hA rfl hC kM_L_225 kZ_L kW_L_pathLength (by decide +kernel) (by decide) rfl kT_L_pathLength rfl (by omega) (by omega) (by omega) rfl (Nat.le_of_ble_eq_true rfl) dM_1200 (fun v T1 I1 L1 hv => ?_)
  obtain ⟨k, rfl, d2, Φ2, hd2, hk8, hM2, K2⟩ := K v T1 I1 L1 hv
  refine pr_istore (ls' := [.ref b, .ref x, .ref (x + 251), .ref (x + 267), .int i, .int k, .null, .null]) hA dM_1203 (by decide) rfl ?_
  refine pr_aload_n (n := 2) hA dM_1205 rfl ?_
  refine lw_arg hA hs 1 dM_1206 dM_1207 dM_1209 (by decide) dM_1210 dM_1211 rfl rfl h1 ?_
  refine pr_callV (st := []) (As := [.int (xs (i + 1).toNatClampNeg)]) hA rfl hM2 v_L_227 hk8 (by decide) rfl rfl rfl (by omega) (by omega) (by omega) rfl (Nat.le_of_ble_eq_true rfl) dM_1212 (fun v T2 I2 L2 hv => ?_) (fun _ _ _ _ h => h.elim)
  obtain ⟨⟨_, rfl, bb, rfl, hr⟩, h6, h2⟩ := K2 v T2 I2 L2 hv
  exact lw_tail hA dM_1215 dM_1217 dM_1218 dM_1221 dM_1223 dM_1228 dM_1230 dM_1233 dM_1234 dM_1235 dM_1236 dM_1238 dM_1239 dM_1240 dM_1245 (by decide) (by omega) (by omega) hcs hsl hr h6 h2 nx
theorem cs_pathLink {g : pr_C} {X : pr_X} {Q : State → Prop} {cs sl : Nat} {T : pr_T} {I : pr_I} {L : pr_L} {b N x : Nat} {xs : Nat → Int32} (hA : pr_Am g X mLaw 13 601024 7293034) (hs : Scr g X b N xs) {i : Int32} (h1 : vp_in (i + 1) N) (h2 : vp_in (i + 2) N) (h3 : vp_in (i + 3) N) (h4 : vp_in (i + 4) N) (hcs : cs + 122 ≤ 601024) (hsl : sl + 5821 ≤ 7293034) (h : LI x T I L) (nx : ∀ T' I' L', LI x T' I' L' → pr_G g X 8 Q (cs + 122) (sl + 5821) 3256 (lwL b x i) [] T' I' L') : pr_G g X 8 Q cs sl 1248 (lwL b x i) [] T I L := by
  obtain ⟨d1, mc1, ms1, Φ, hd1, hmc, hms, hC, K⟩ := S_pathLink (g := g) (l := pr_launch X) (p1 := xs (i + 1).toNatClampNeg) (p2 := xs (i + 2).toNatClampNeg) (pr_hl hA) h
  refine pr_aload_n (n := 1) hA dM_1248 rfl ?_
  refine lw_arg hA hs 1 dM_1249 dM_1250 dM_1252 (by decide) dM_1253 dM_1254 rfl rfl h1 ?_
  refine lw_arg hA hs 2 dM_1255 dM_1256 dM_1258 (by decide) dM_1259 dM_1260 rfl rfl h2 ?_
  refine pr_aload_n (n := 3) hA dM_1261 rfl ?_
  refine pr_callSH (n := 4) (st := []) (As := [.ref x, .int (xs (i + 1).toNatClampNeg), .int (xs (i + 2).toNatClampNeg), .ref (x + 267)]) hA rfl hC kM_L_228 kZ_L kW_L_pathLink (by decide +kernel) (by decide) rfl kT_L_pathLink rfl (by omega) (by omega) (by omega) rfl (Nat.le_of_ble_eq_true rfl) dM_1262 (fun v T1 I1 L1 hv => ?_)
  obtain ⟨k, rfl, d2, Φ2, hd2, hk8, hM2, K2⟩ := K v T1 I1 L1 hv
  refine pr_istore (ls' := [.ref b, .ref x, .ref (x + 251), .ref (x + 267), .int i, .int k, .null, .null]) hA dM_1265 (by decide) rfl ?_
  refine pr_aload_n (n := 2) hA dM_1267 rfl ?_
  refine lw_arg hA hs 1 dM_1268 dM_1269 dM_1271 (by decide) dM_1272 dM_1273 rfl rfl h1 ?_
  refine lw_arg hA hs 2 dM_1274 dM_1275 dM_1277 (by decide) dM_1278 dM_1279 rfl rfl h2 ?_
  refine pr_callV (st := []) (As := [.int (xs (i + 1).toNatClampNeg), .int (xs (i + 2).toNatClampNeg)]) hA rfl hM2 v_L_230 hk8 (by decide) rfl rfl rfl (by omega) (by omega) (by omega) rfl (Nat.le_of_ble_eq_true rfl) dM_1280 (fun v T2 I2 L2 hv => ?_) (fun _ _ _ _ h => h.elim)
  obtain ⟨⟨_, rfl, bb, rfl, hr⟩, h6, h2⟩ := K2 v T2 I2 L2 hv
  exact lw_tail hA dM_1283 dM_1285 dM_1286 dM_1289 dM_1291 dM_1296 dM_1298 dM_1301 dM_1302 dM_1303 dM_1304 dM_1306 dM_1307 dM_1308 dM_1313 (by decide) (by omega) (by omega) hcs hsl hr h6 h2 nx
theorem cs_placeOf {g : pr_C} {X : pr_X} {Q : State → Prop} {cs sl : Nat} {T : pr_T} {I : pr_I} {L : pr_L} {b N x : Nat} {xs : Nat → Int32} (hA : pr_Am g X mLaw 13 601024 7293034) (hs : Scr g X b N xs) {i : Int32} (h1 : vp_in (i + 1) N) (h2 : vp_in (i + 2) N) (h3 : vp_in (i + 3) N) (h4 : vp_in (i + 4) N) (hcs : cs + 122 ≤ 601024) (hsl : sl + 5821 ≤ 7293034) (h : LI x T I L) (nx : ∀ T' I' L', LI x T' I' L' → pr_G g X 8 Q (cs + 122) (sl + 5821) 3256 (lwL b x i) [] T' I' L') : pr_G g X 8 Q cs sl 1316 (lwL b x i) [] T I L := by
  obtain ⟨d1, mc1, ms1, Φ, hd1, hmc, hms, hC, K⟩ := S_placeOf (g := g) (l := pr_launch X) (p1 := xs (i + 1).toNatClampNeg) (pr_hl hA) h
  refine pr_aload_n (n := 1) hA dM_1316 rfl ?_
  refine lw_arg hA hs 1 dM_1317 dM_1318 dM_1320 (by decide) dM_1321 dM_1322 rfl rfl h1 ?_
  refine pr_aload_n (n := 3) hA dM_1323 rfl ?_
  refine pr_callSH (n := 3) (st := []) (As := [.ref x, .int (xs (i + 1).toNatClampNeg), .ref (x + 267)]) hA rfl hC kM_L_231 kZ_L kW_L_placeOf (by decide +kernel) (by decide) rfl kT_L_placeOf rfl (by omega) (by omega) (by omega) rfl (Nat.le_of_ble_eq_true rfl) dM_1324 (fun v T1 I1 L1 hv => ?_)
  obtain ⟨k, rfl, d2, Φ2, hd2, hk8, hM2, K2⟩ := K v T1 I1 L1 hv
  refine pr_istore (ls' := [.ref b, .ref x, .ref (x + 251), .ref (x + 267), .int i, .int k, .null, .null]) hA dM_1327 (by decide) rfl ?_
  refine pr_aload_n (n := 2) hA dM_1329 rfl ?_
  refine lw_arg hA hs 1 dM_1330 dM_1331 dM_1333 (by decide) dM_1334 dM_1335 rfl rfl h1 ?_
  refine pr_callV (st := []) (As := [.int (xs (i + 1).toNatClampNeg)]) hA rfl hM2 v_L_233 hk8 (by decide) rfl rfl rfl (by omega) (by omega) (by omega) rfl (Nat.le_of_ble_eq_true rfl) dM_1336 (fun v T2 I2 L2 hv => ?_) (fun _ _ _ _ h => h.elim)
  obtain ⟨⟨_, rfl, bb, rfl, hr⟩, h6, h2⟩ := K2 v T2 I2 L2 hv
  exact lw_tail hA dM_1339 dM_1341 dM_1342 dM_1345 dM_1347 dM_1352 dM_1354 dM_1357 dM_1358 dM_1359 dM_1360 dM_1362 dM_1363 dM_1364 dM_1369 (by decide) (by omega) (by omega) hcs hsl hr h6 h2 nx
theorem cs_inState {g : pr_C} {X : pr_X} {Q : State → Prop} {cs sl : Nat} {T : pr_T} {I : pr_I} {L : pr_L} {b N x : Nat} {xs : Nat → Int32} (hA : pr_Am g X mLaw 13 601024 7293034) (hs : Scr g X b N xs) {i : Int32} (h1 : vp_in (i + 1) N) (h2 : vp_in (i + 2) N) (h3 : vp_in (i + 3) N) (h4 : vp_in (i + 4) N) (hcs : cs + 122 ≤ 601024) (hsl : sl + 5821 ≤ 7293034) (h : LI x T I L) (nx : ∀ T' I' L', LI x T' I' L' → pr_G g X 8 Q (cs + 122) (sl + 5821) 3256 (lwL b x i) [] T' I' L') : pr_G g X 8 Q cs sl 1372 (lwL b x i) [] T I L := by
  obtain ⟨d1, mc1, ms1, Φ, hd1, hmc, hms, hC, K⟩ := S_inState (g := g) (l := pr_launch X) (p1 := xs (i + 1).toNatClampNeg) (pr_hl hA) h
  refine pr_aload_n (n := 1) hA dM_1372 rfl ?_
  refine lw_arg hA hs 1 dM_1373 dM_1374 dM_1376 (by decide) dM_1377 dM_1378 rfl rfl h1 ?_
  refine pr_aload_n (n := 3) hA dM_1379 rfl ?_
  refine pr_callSH (n := 3) (st := []) (As := [.ref x, .int (xs (i + 1).toNatClampNeg), .ref (x + 267)]) hA rfl hC kM_L_234 kZ_L kW_L_inState (by decide +kernel) (by decide) rfl kT_L_inState rfl (by omega) (by omega) (by omega) rfl (Nat.le_of_ble_eq_true rfl) dM_1380 (fun v T1 I1 L1 hv => ?_)
  obtain ⟨k, rfl, d2, Φ2, hd2, hk8, hM2, K2⟩ := K v T1 I1 L1 hv
  refine pr_istore (ls' := [.ref b, .ref x, .ref (x + 251), .ref (x + 267), .int i, .int k, .null, .null]) hA dM_1383 (by decide) rfl ?_
  refine pr_aload_n (n := 2) hA dM_1385 rfl ?_
  refine lw_arg hA hs 1 dM_1386 dM_1387 dM_1389 (by decide) dM_1390 dM_1391 rfl rfl h1 ?_
  refine pr_callV (st := []) (As := [.int (xs (i + 1).toNatClampNeg)]) hA rfl hM2 v_L_236 hk8 (by decide) rfl rfl rfl (by omega) (by omega) (by omega) rfl (Nat.le_of_ble_eq_true rfl) dM_1392 (fun v T2 I2 L2 hv => ?_) (fun _ _ _ _ h => h.elim)
  obtain ⟨⟨_, rfl, bb, rfl, hr⟩, h6, h2⟩ := K2 v T2 I2 L2 hv
  exact lw_tail hA dM_1395 dM_1397 dM_1398 dM_1401 dM_1403 dM_1408 dM_1410 dM_1413 dM_1414 dM_1415 dM_1416 dM_1418 dM_1419 dM_1420 dM_1425 (by decide) (by omega) (by omega) hcs hsl hr h6 h2 nx
theorem cs_requestInState {g : pr_C} {X : pr_X} {Q : State → Prop} {cs sl : Nat} {T : pr_T} {I : pr_I} {L : pr_L} {b N x : Nat} {xs : Nat → Int32} (hA : pr_Am g X mLaw 13 601024 7293034) (hs : Scr g X b N xs) {i : Int32} (h1 : vp_in (i + 1) N) (h2 : vp_in (i + 2) N) (h3 : vp_in (i + 3) N) (h4 : vp_in (i + 4) N) (hcs : cs + 122 ≤ 601024) (hsl : sl + 5821 ≤ 7293034) (h : LI x T I L) (nx : ∀ T' I' L', LI x T' I' L' → pr_G g X 8 Q (cs + 122) (sl + 5821) 3256 (lwL b x i) [] T' I' L') : pr_G g X 8 Q cs sl 1428 (lwL b x i) [] T I L := by
  obtain ⟨d1, mc1, ms1, Φ, hd1, hmc, hms, hC, K⟩ := S_requestInState (g := g) (l := pr_launch X) (p1 := xs (i + 1).toNatClampNeg) (p2 := xs (i + 2).toNatClampNeg) (pr_hl hA) h
  refine pr_aload_n (n := 1) hA dM_1428 rfl ?_
  refine lw_arg hA hs 1 dM_1429 dM_1430 dM_1432 (by decide) dM_1433 dM_1434 rfl rfl h1 ?_
  refine lw_arg hA hs 2 dM_1435 dM_1436 dM_1438 (by decide) dM_1439 dM_1440 rfl rfl h2 ?_
  refine pr_aload_n (n := 3) hA dM_1441 rfl ?_
  refine pr_callSH (n := 4) (st := []) (As := [.ref x, .int (xs (i + 1).toNatClampNeg), .int (xs (i + 2).toNatClampNeg), .ref (x + 267)]) hA rfl hC kM_L_237 kZ_L kW_L_requestInState (by decide +kernel) (by decide) rfl kT_L_requestInState rfl (by omega) (by omega) (by omega) rfl (Nat.le_of_ble_eq_true rfl) dM_1442 (fun v T1 I1 L1 hv => ?_)
  obtain ⟨k, rfl, d2, Φ2, hd2, hk8, hM2, K2⟩ := K v T1 I1 L1 hv
  refine pr_istore (ls' := [.ref b, .ref x, .ref (x + 251), .ref (x + 267), .int i, .int k, .null, .null]) hA dM_1445 (by decide) rfl ?_
  refine pr_aload_n (n := 2) hA dM_1447 rfl ?_
  refine lw_arg hA hs 1 dM_1448 dM_1449 dM_1451 (by decide) dM_1452 dM_1453 rfl rfl h1 ?_
  refine lw_arg hA hs 2 dM_1454 dM_1455 dM_1457 (by decide) dM_1458 dM_1459 rfl rfl h2 ?_
  refine pr_callV (st := []) (As := [.int (xs (i + 1).toNatClampNeg), .int (xs (i + 2).toNatClampNeg)]) hA rfl hM2 v_L_239 hk8 (by decide) rfl rfl rfl (by omega) (by omega) (by omega) rfl (Nat.le_of_ble_eq_true rfl) dM_1460 (fun v T2 I2 L2 hv => ?_) (fun _ _ _ _ h => h.elim)
  obtain ⟨⟨_, rfl, bb, rfl, hr⟩, h6, h2⟩ := K2 v T2 I2 L2 hv
  exact lw_tail hA dM_1463 dM_1465 dM_1466 dM_1469 dM_1471 dM_1476 dM_1478 dM_1481 dM_1482 dM_1483 dM_1484 dM_1486 dM_1487 dM_1488 dM_1493 (by decide) (by omega) (by omega) hcs hsl hr h6 h2 nx
theorem cs_ticketCount {g : pr_C} {X : pr_X} {Q : State → Prop} {cs sl : Nat} {T : pr_T} {I : pr_I} {L : pr_L} {b N x : Nat} {xs : Nat → Int32} (hA : pr_Am g X mLaw 13 601024 7293034) (hs : Scr g X b N xs) {i : Int32} (h1 : vp_in (i + 1) N) (h2 : vp_in (i + 2) N) (h3 : vp_in (i + 3) N) (h4 : vp_in (i + 4) N) (hcs : cs + 122 ≤ 601024) (hsl : sl + 5821 ≤ 7293034) (h : LI x T I L) (nx : ∀ T' I' L', LI x T' I' L' → pr_G g X 8 Q (cs + 122) (sl + 5821) 3256 (lwL b x i) [] T' I' L') : pr_G g X 8 Q cs sl 1496 (lwL b x i) [] T I L := by
  obtain ⟨d1, d2, r, I1, I2, L1, hd1, hd2, ⟨bb, rfl⟩, hC, hM2, h2'⟩ := S_ticketCount (g := g) (l := pr_launch X) (pr_hl hA) h
  have x7 : T.2.1 x = (7, 0) := by
    obtain ⟨_, _, _, _, _, _, hS, _⟩ := h
    exact hS.1.1
  have x8 : T.2.1 (x + 251) = (8, 0) := by
    obtain ⟨_, _, _, _, _, _, hS, _⟩ := h
    exact mo_k0 hS.2.2.2.2.2.2.1
  refine pr_aload_n (n := 1) hA dM_1496 rfl ?_
  refine pr_callV (st := []) (As := []) hA rfl hC v_L_240 x7 (by decide) rfl rfl rfl (by omega) (by omega) (by omega) rfl (Nat.le_of_ble_eq_true rfl) dM_1497 (fun v T1 I3 L3 hv => ?_) (fun _ _ _ _ h => h.elim)
  obtain ⟨rfl, rfl, rfl, rfl⟩ := hv
  refine pr_aload_n (n := 2) hA dM_1500 rfl ?_
  refine pr_callV (st := [.int bb]) (As := []) hA rfl hM2 v_L_243 x8 (by decide) rfl rfl rfl (by omega) (by omega) (by omega) rfl (Nat.le_of_ble_eq_true rfl) dM_1501 (fun v T1 I3 L3 hv => ?_) (fun _ _ _ _ h => h.elim)
  obtain ⟨rfl, rfl, rfl, rfl⟩ := hv
  exact pr_icmp_eq hA 3256 dM_1504 (by decide) (fun _ => pr_more (by omega) (by omega) (nx _ _ _ h2')) (fun c => absurd rfl c)
theorem cs_ticketValue {g : pr_C} {X : pr_X} {Q : State → Prop} {cs sl : Nat} {T : pr_T} {I : pr_I} {L : pr_L} {b N x : Nat} {xs : Nat → Int32} (hA : pr_Am g X mLaw 13 601024 7293034) (hs : Scr g X b N xs) {i : Int32} (h1 : vp_in (i + 1) N) (h2 : vp_in (i + 2) N) (h3 : vp_in (i + 3) N) (h4 : vp_in (i + 4) N) (hcs : cs + 122 ≤ 601024) (hsl : sl + 5821 ≤ 7293034) (h : LI x T I L) (nx : ∀ T' I' L', LI x T' I' L' → pr_G g X 8 Q (cs + 122) (sl + 5821) 3256 (lwL b x i) [] T' I' L') : pr_G g X 8 Q cs sl 1509 (lwL b x i) [] T I L := by
  obtain ⟨d1, mc1, ms1, Φ, hd1, hmc, hms, hC, K⟩ := S_ticketValue (g := g) (l := pr_launch X) (p1 := xs (i + 1).toNatClampNeg) (p2 := xs (i + 2).toNatClampNeg) (pr_hl hA) h
  refine pr_aload_n (n := 1) hA dM_1509 rfl ?_
  refine lw_arg hA hs 1 dM_1510 dM_1511 dM_1513 (by decide) dM_1514 dM_1515 rfl rfl h1 ?_
  refine lw_arg hA hs 2 dM_1516 dM_1517 dM_1519 (by decide) dM_1520 dM_1521 rfl rfl h2 ?_
  refine pr_aload_n (n := 3) hA dM_1522 rfl ?_
  refine pr_callSH (n := 4) (st := []) (As := [.ref x, .int (xs (i + 1).toNatClampNeg), .int (xs (i + 2).toNatClampNeg), .ref (x + 267)]) hA rfl hC kM_L_244 kZ_L kW_L_ticketValue (by decide +kernel) (by decide) rfl kT_L_ticketValue rfl (by omega) (by omega) (by omega) rfl (Nat.le_of_ble_eq_true rfl) dM_1523 (fun v T1 I1 L1 hv => ?_)
  obtain ⟨k, rfl, d2, Φ2, hd2, hk8, hM2, K2⟩ := K v T1 I1 L1 hv
  refine pr_istore (ls' := [.ref b, .ref x, .ref (x + 251), .ref (x + 267), .int i, .int k, .null, .null]) hA dM_1526 (by decide) rfl ?_
  refine pr_aload_n (n := 2) hA dM_1528 rfl ?_
  refine lw_arg hA hs 1 dM_1529 dM_1530 dM_1532 (by decide) dM_1533 dM_1534 rfl rfl h1 ?_
  refine lw_arg hA hs 2 dM_1535 dM_1536 dM_1538 (by decide) dM_1539 dM_1540 rfl rfl h2 ?_
  refine pr_callV (st := []) (As := [.int (xs (i + 1).toNatClampNeg), .int (xs (i + 2).toNatClampNeg)]) hA rfl hM2 v_L_246 hk8 (by decide) rfl rfl rfl (by omega) (by omega) (by omega) rfl (Nat.le_of_ble_eq_true rfl) dM_1541 (fun v T2 I2 L2 hv => ?_) (fun _ _ _ _ h => h.elim)
  obtain ⟨⟨_, rfl, bb, rfl, hr⟩, h6, h2⟩ := K2 v T2 I2 L2 hv
  exact lw_tail hA dM_1544 dM_1546 dM_1547 dM_1550 dM_1552 dM_1557 dM_1559 dM_1562 dM_1563 dM_1564 dM_1565 dM_1567 dM_1568 dM_1569 dM_1574 (by decide) (by omega) (by omega) hcs hsl hr h6 h2 nx
theorem cs_ticketOn {g : pr_C} {X : pr_X} {Q : State → Prop} {cs sl : Nat} {T : pr_T} {I : pr_I} {L : pr_L} {b N x : Nat} {xs : Nat → Int32} (hA : pr_Am g X mLaw 13 601024 7293034) (hs : Scr g X b N xs) {i : Int32} (h1 : vp_in (i + 1) N) (h2 : vp_in (i + 2) N) (h3 : vp_in (i + 3) N) (h4 : vp_in (i + 4) N) (hcs : cs + 122 ≤ 601024) (hsl : sl + 5821 ≤ 7293034) (h : LI x T I L) (nx : ∀ T' I' L', LI x T' I' L' → pr_G g X 8 Q (cs + 122) (sl + 5821) 3256 (lwL b x i) [] T' I' L') : pr_G g X 8 Q cs sl 1577 (lwL b x i) [] T I L := by
  obtain ⟨d1, mc1, ms1, Φ, hd1, hmc, hms, hC, K⟩ := S_ticketOn (g := g) (l := pr_launch X) (p1 := xs (i + 1).toNatClampNeg) (p2 := xs (i + 2).toNatClampNeg) (pr_hl hA) h
  refine pr_aload_n (n := 1) hA dM_1577 rfl ?_
  refine lw_arg hA hs 1 dM_1578 dM_1579 dM_1581 (by decide) dM_1582 dM_1583 rfl rfl h1 ?_
  refine lw_arg hA hs 2 dM_1584 dM_1585 dM_1587 (by decide) dM_1588 dM_1589 rfl rfl h2 ?_
  refine pr_aload_n (n := 3) hA dM_1590 rfl ?_
  refine pr_callSH (n := 4) (st := []) (As := [.ref x, .int (xs (i + 1).toNatClampNeg), .int (xs (i + 2).toNatClampNeg), .ref (x + 267)]) hA rfl hC kM_L_247 kZ_L kW_L_ticketOn (by decide +kernel) (by decide) rfl kT_L_ticketOn rfl (by omega) (by omega) (by omega) rfl (Nat.le_of_ble_eq_true rfl) dM_1591 (fun v T1 I1 L1 hv => ?_)
  obtain ⟨k, rfl, d2, Φ2, hd2, hk8, hM2, K2⟩ := K v T1 I1 L1 hv
  refine pr_istore (ls' := [.ref b, .ref x, .ref (x + 251), .ref (x + 267), .int i, .int k, .null, .null]) hA dM_1594 (by decide) rfl ?_
  refine pr_aload_n (n := 2) hA dM_1596 rfl ?_
  refine lw_arg hA hs 1 dM_1597 dM_1598 dM_1600 (by decide) dM_1601 dM_1602 rfl rfl h1 ?_
  refine lw_arg hA hs 2 dM_1603 dM_1604 dM_1606 (by decide) dM_1607 dM_1608 rfl rfl h2 ?_
  refine pr_callV (st := []) (As := [.int (xs (i + 1).toNatClampNeg), .int (xs (i + 2).toNatClampNeg)]) hA rfl hM2 v_L_249 hk8 (by decide) rfl rfl rfl (by omega) (by omega) (by omega) rfl (Nat.le_of_ble_eq_true rfl) dM_1609 (fun v T2 I2 L2 hv => ?_) (fun _ _ _ _ h => h.elim)
  obtain ⟨⟨_, rfl, bb, rfl, hr⟩, h6, h2⟩ := K2 v T2 I2 L2 hv
  exact lw_tail hA dM_1612 dM_1614 dM_1615 dM_1618 dM_1620 dM_1625 dM_1627 dM_1630 dM_1631 dM_1632 dM_1633 dM_1635 dM_1636 dM_1637 dM_1642 (by decide) (by omega) (by omega) hcs hsl hr h6 h2 nx
