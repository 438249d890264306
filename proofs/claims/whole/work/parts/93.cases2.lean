/-! The law's cases 20 to 41. -/
section Cases
variable {g : GL} {d : Nat} {xs : Nat → Int32} {L i n nx : Nat} {mc ms : Nat} {Post : RO → RM → Prop} {μ ν : Mem} {l : List Nat} {G : RG}
theorem ta_994 : TailB 994 1719 := ⟨d_law_994, d_law_996, d_law_997, d_law_1000, d_law_1002, d_law_1007, d_law_1009, d_law_1012, d_law_1013, d_law_1014, d_law_1015, d_law_1017, d_law_1020, d_law_1021, d_law_1024, d_law_1025, d_law_1026, d_law_1031, by decide⟩
theorem C_20 (hs : g.2.2.2.2.2 90 = some (true, 0, L, fun q => .inl (.int (xs q)))) (hL : L ≤ 3584) (hi : i + 7 ≤ L) (hn : n < 512) (hS : SG g) (hD : DG g) (hI : wLI μ ν l G nx n) (hk : wKN g (d + 40) i n mc ms Post) : Ev g (d + 40) m_law 971 (wLS i) [] (G, nx) (60 + mc) (7000 + ms) Post := by
  have hI0 := hI
  obtain ⟨hC, hV, ⟨f0, h547⟩, hG, hO, hU, h548, hnx⟩ := hI
  have hb2 := wB_lt hn
  obtain ⟨o, r, ν', e1, e2, e3, e4, e6⟩ := T_isDenial hG (xs (i + 1))
  refine ev_aload_n (k0 := 1) rfl d_law_971 ?_
  refine ev_arg hs hL 1 (by omega) rfl rfl rfl d_law_972 d_law_973 d_law_975 d_law_976 d_law_977 ?_
  refine ev_aload_n (k0 := 3) rfl d_law_978 ?_
  refine Ev.room (mc := 1 + mc) (ms := 6 + ms) (ev_invSH (d := d + 39) (vs := [.inr (0, 0), .inl (.int (xs (i + 1))), .inr (0, 547)]) (st := []) (fun h => by cases h) lh_208 (LW_isDenial (d + 38) hC h547 e3 (Mt.ro hC (w_P_isDenial (d + 35) hC e1))) rfl (Nat.le_of_ble_eq_true rfl) d_law_979 (aft_wr (fun G1 n1 f hW q1 q2 q3 => ?_))) (by omega) (by omega)
  refine cw_istoreN 5 (ν' 13 0 7) rfl (wLS2 i (some (.inl (.int (ν' 13 0 7)))) none) d_law_982 rfl rfl rfl ?_
  refine ev_aload_n (k0 := 2) rfl d_law_984 ?_
  refine ev_arg hs hL 1 (by omega) rfl rfl rfl d_law_985 d_law_986 d_law_988 d_law_989 d_law_990 ?_
  have hV1 : LM vr 535 547 ν G1 G1 := hW.farR hV
  refine Ev.z9 (cv_V (d := d + 39) [.inl (.int (xs (i + 1)))] hV1 v_13 rfl lk_ProphecyShopLaw_210 (w_R_isDenial (d + 36) hV1 e2) rfl rfl d_law_991 (aft_rw (fun G2 hG2 => ?_)))
  obtain ⟨hI2, hC2⟩ := hI0.step hn hW q1 q2 hG2 e4 rfl e6
  exact law_tailB ta_994 hI2 hC2 rfl q3 hk
theorem ta_1057 : TailI 1057 1663 := ⟨d_law_1057, d_law_1059, d_law_1060, d_law_1063, d_law_1065, d_law_1070, d_law_1072, d_law_1075, d_law_1076, d_law_1077, d_law_1078, d_law_1080, d_law_1081, d_law_1082, d_law_1087, by decide⟩
theorem C_21 (hs : g.2.2.2.2.2 90 = some (true, 0, L, fun q => .inl (.int (xs q)))) (hL : L ≤ 3584) (hi : i + 7 ≤ L) (hn : n < 512) (hS : SG g) (hD : DG g) (hI : wLI μ ν l G nx n) (hk : wKN g (d + 40) i n mc ms Post) : Ev g (d + 40) m_law 1034 (wLS i) [] (G, nx) (60 + mc) (7000 + ms) Post := by
  have hI0 := hI
  obtain ⟨hC, hV, ⟨f0, h547⟩, hG, hO, hU, h548, hnx⟩ := hI
  have hb2 := wB_lt hn
  obtain ⟨o, r, ν', e1, e2, e3, e4, e6⟩ := T_firstDay hG (xs (i + 1))
  refine ev_aload_n (k0 := 1) rfl d_law_1034 ?_
  refine ev_arg hs hL 1 (by omega) rfl rfl rfl d_law_1035 d_law_1036 d_law_1038 d_law_1039 d_law_1040 ?_
  refine ev_aload_n (k0 := 3) rfl d_law_1041 ?_
  refine Ev.room (mc := 1 + mc) (ms := 6 + ms) (ev_invSH (d := d + 39) (vs := [.inr (0, 0), .inl (.int (xs (i + 1))), .inr (0, 547)]) (st := []) (fun h => by cases h) lh_211 (LW_firstDay (d + 38) hC h547 e3 (Mt.ro hC (w_P_firstDay (d + 35) hC e1))) rfl (Nat.le_of_ble_eq_true rfl) d_law_1042 (aft_wr (fun G1 n1 f hW q1 q2 q3 => ?_))) (by omega) (by omega)
  refine cw_istoreN 5 (ν' 13 0 7) rfl (wLS2 i (some (.inl (.int (ν' 13 0 7)))) none) d_law_1045 rfl rfl rfl ?_
  refine ev_aload_n (k0 := 2) rfl d_law_1047 ?_
  refine ev_arg hs hL 1 (by omega) rfl rfl rfl d_law_1048 d_law_1049 d_law_1051 d_law_1052 d_law_1053 ?_
  have hV1 : LM vr 535 547 ν G1 G1 := hW.farR hV
  refine Ev.z9 (cv_V (d := d + 39) [.inl (.int (xs (i + 1)))] hV1 v_13 rfl lk_ProphecyShopLaw_213 (w_R_firstDay (d + 36) hV1 e2) rfl rfl d_law_1054 (aft_rw (fun G2 hG2 => ?_)))
  obtain ⟨hI2, hC2⟩ := hI0.step hn hW q1 q2 hG2 e4 rfl e6
  exact law_tailI ta_1057 hI2 hC2 rfl q3 hk
theorem ta_1113 : TailI 1113 1607 := ⟨d_law_1113, d_law_1115, d_law_1116, d_law_1119, d_law_1121, d_law_1126, d_law_1128, d_law_1131, d_law_1132, d_law_1133, d_law_1134, d_law_1136, d_law_1137, d_law_1138, d_law_1143, by decide⟩
theorem C_22 (hs : g.2.2.2.2.2 90 = some (true, 0, L, fun q => .inl (.int (xs q)))) (hL : L ≤ 3584) (hi : i + 7 ≤ L) (hn : n < 512) (hS : SG g) (hD : DG g) (hI : wLI μ ν l G nx n) (hk : wKN g (d + 40) i n mc ms Post) : Ev g (d + 40) m_law 1090 (wLS i) [] (G, nx) (60 + mc) (7000 + ms) Post := by
  have hI0 := hI
  obtain ⟨hC, hV, ⟨f0, h547⟩, hG, hO, hU, h548, hnx⟩ := hI
  have hb2 := wB_lt hn
  obtain ⟨o, r, ν', e1, e2, e3, e4, e6⟩ := T_lastDay hG (xs (i + 1))
  refine ev_aload_n (k0 := 1) rfl d_law_1090 ?_
  refine ev_arg hs hL 1 (by omega) rfl rfl rfl d_law_1091 d_law_1092 d_law_1094 d_law_1095 d_law_1096 ?_
  refine ev_aload_n (k0 := 3) rfl d_law_1097 ?_
  refine Ev.room (mc := 1 + mc) (ms := 6 + ms) (ev_invSH (d := d + 39) (vs := [.inr (0, 0), .inl (.int (xs (i + 1))), .inr (0, 547)]) (st := []) (fun h => by cases h) lh_214 (LW_lastDay (d + 38) hC h547 e3 (Mt.ro hC (w_P_lastDay (d + 35) hC e1))) rfl (Nat.le_of_ble_eq_true rfl) d_law_1098 (aft_wr (fun G1 n1 f hW q1 q2 q3 => ?_))) (by omega) (by omega)
  refine cw_istoreN 5 (ν' 13 0 7) rfl (wLS2 i (some (.inl (.int (ν' 13 0 7)))) none) d_law_1101 rfl rfl rfl ?_
  refine ev_aload_n (k0 := 2) rfl d_law_1103 ?_
  refine ev_arg hs hL 1 (by omega) rfl rfl rfl d_law_1104 d_law_1105 d_law_1107 d_law_1108 d_law_1109 ?_
  have hV1 : LM vr 535 547 ν G1 G1 := hW.farR hV
  refine Ev.z9 (cv_V (d := d + 39) [.inl (.int (xs (i + 1)))] hV1 v_13 rfl lk_ProphecyShopLaw_216 (w_R_lastDay (d + 36) hV1 e2) rfl rfl d_law_1110 (aft_rw (fun G2 hG2 => ?_)))
  obtain ⟨hI2, hC2⟩ := hI0.step hn hW q1 q2 hG2 e4 rfl e6
  exact law_tailI ta_1113 hI2 hC2 rfl q3 hk
theorem ta_1169 : TailI 1169 1551 := ⟨d_law_1169, d_law_1171, d_law_1172, d_law_1175, d_law_1177, d_law_1182, d_law_1184, d_law_1187, d_law_1188, d_law_1189, d_law_1190, d_law_1192, d_law_1193, d_law_1194, d_law_1199, by decide⟩
theorem C_23 (hs : g.2.2.2.2.2 90 = some (true, 0, L, fun q => .inl (.int (xs q)))) (hL : L ≤ 3584) (hi : i + 7 ≤ L) (hn : n < 512) (hS : SG g) (hD : DG g) (hI : wLI μ ν l G nx n) (hk : wKN g (d + 40) i n mc ms Post) : Ev g (d + 40) m_law 1146 (wLS i) [] (G, nx) (60 + mc) (7000 + ms) Post := by
  have hI0 := hI
  obtain ⟨hC, hV, ⟨f0, h547⟩, hG, hO, hU, h548, hnx⟩ := hI
  have hb2 := wB_lt hn
  obtain ⟨o, r, ν', e1, e2, e3, e4, e6⟩ := T_stateOf hG (xs (i + 1))
  refine ev_aload_n (k0 := 1) rfl d_law_1146 ?_
  refine ev_arg hs hL 1 (by omega) rfl rfl rfl d_law_1147 d_law_1148 d_law_1150 d_law_1151 d_law_1152 ?_
  refine ev_aload_n (k0 := 3) rfl d_law_1153 ?_
  refine Ev.room (mc := 1 + mc) (ms := 6 + ms) (ev_invSH (d := d + 39) (vs := [.inr (0, 0), .inl (.int (xs (i + 1))), .inr (0, 547)]) (st := []) (fun h => by cases h) lh_217 (LW_stateOf (d + 38) hC h547 e3 (Mt.ro hC (w_P_stateOf (d + 35) hC e1))) rfl (Nat.le_of_ble_eq_true rfl) d_law_1154 (aft_wr (fun G1 n1 f hW q1 q2 q3 => ?_))) (by omega) (by omega)
  refine cw_istoreN 5 (ν' 13 0 7) rfl (wLS2 i (some (.inl (.int (ν' 13 0 7)))) none) d_law_1157 rfl rfl rfl ?_
  refine ev_aload_n (k0 := 2) rfl d_law_1159 ?_
  refine ev_arg hs hL 1 (by omega) rfl rfl rfl d_law_1160 d_law_1161 d_law_1163 d_law_1164 d_law_1165 ?_
  have hV1 : LM vr 535 547 ν G1 G1 := hW.farR hV
  refine Ev.z9 (cv_V (d := d + 39) [.inl (.int (xs (i + 1)))] hV1 v_13 rfl lk_ProphecyShopLaw_219 (w_R_stateOf (d + 36) hV1 e2) rfl rfl d_law_1166 (aft_rw (fun G2 hG2 => ?_)))
  obtain ⟨hI2, hC2⟩ := hI0.step hn hW q1 q2 hG2 e4 rfl e6
  exact law_tailI ta_1169 hI2 hC2 rfl q3 hk
theorem ta_1225 : TailI 1225 1495 := ⟨d_law_1225, d_law_1227, d_law_1228, d_law_1231, d_law_1233, d_law_1238, d_law_1240, d_law_1243, d_law_1244, d_law_1245, d_law_1246, d_law_1248, d_law_1249, d_law_1250, d_law_1255, by decide⟩
theorem C_24 (hs : g.2.2.2.2.2 90 = some (true, 0, L, fun q => .inl (.int (xs q)))) (hL : L ≤ 3584) (hi : i + 7 ≤ L) (hn : n < 512) (hS : SG g) (hD : DG g) (hI : wLI μ ν l G nx n) (hk : wKN g (d + 40) i n mc ms Post) : Ev g (d + 40) m_law 1202 (wLS i) [] (G, nx) (60 + mc) (7000 + ms) Post := by
  have hI0 := hI
  obtain ⟨hC, hV, ⟨f0, h547⟩, hG, hO, hU, h548, hnx⟩ := hI
  have hb2 := wB_lt hn
  obtain ⟨o, r, ν', e1, e2, e3, e4, e6⟩ := T_decidedOn hG (xs (i + 1))
  refine ev_aload_n (k0 := 1) rfl d_law_1202 ?_
  refine ev_arg hs hL 1 (by omega) rfl rfl rfl d_law_1203 d_law_1204 d_law_1206 d_law_1207 d_law_1208 ?_
  refine ev_aload_n (k0 := 3) rfl d_law_1209 ?_
  refine Ev.room (mc := 2 + mc) (ms := 12 + ms) (ev_invSH (d := d + 39) (vs := [.inr (0, 0), .inl (.int (xs (i + 1))), .inr (0, 547)]) (st := []) (fun h => by cases h) lh_220 (LW_decidedOn (d + 38) hC h547 e3 (Mt.ro hC (w_P_decidedOn (d + 35) hC e1))) rfl (Nat.le_of_ble_eq_true rfl) d_law_1210 (aft_wr (fun G1 n1 f hW q1 q2 q3 => ?_))) (by omega) (by omega)
  refine cw_istoreN 5 (ν' 13 0 7) rfl (wLS2 i (some (.inl (.int (ν' 13 0 7)))) none) d_law_1213 rfl rfl rfl ?_
  refine ev_aload_n (k0 := 2) rfl d_law_1215 ?_
  refine ev_arg hs hL 1 (by omega) rfl rfl rfl d_law_1216 d_law_1217 d_law_1219 d_law_1220 d_law_1221 ?_
  have hV1 : LM vr 535 547 ν G1 G1 := hW.farR hV
  refine Ev.z9 (cv_V (d := d + 39) [.inl (.int (xs (i + 1)))] hV1 v_13 rfl lk_ProphecyShopLaw_222 (w_R_decidedOn (d + 36) hV1 e2) rfl rfl d_law_1222 (aft_rw (fun G2 hG2 => ?_)))
  obtain ⟨hI2, hC2⟩ := hI0.step hn hW q1 q2 hG2 e4 rfl e6
  exact law_tailI ta_1225 hI2 hC2 rfl q3 hk
theorem ta_1281 : TailI 1281 1439 := ⟨d_law_1281, d_law_1283, d_law_1284, d_law_1287, d_law_1289, d_law_1294, d_law_1296, d_law_1299, d_law_1300, d_law_1301, d_law_1302, d_law_1304, d_law_1305, d_law_1306, d_law_1311, by decide⟩
theorem C_25 (hs : g.2.2.2.2.2 90 = some (true, 0, L, fun q => .inl (.int (xs q)))) (hL : L ≤ 3584) (hi : i + 7 ≤ L) (hn : n < 512) (hS : SG g) (hD : DG g) (hI : wLI μ ν l G nx n) (hk : wKN g (d + 40) i n mc ms Post) : Ev g (d + 40) m_law 1258 (wLS i) [] (G, nx) (60 + mc) (7000 + ms) Post := by
  have hI0 := hI
  obtain ⟨hC, hV, ⟨f0, h547⟩, hG, hO, hU, h548, hnx⟩ := hI
  have hb2 := wB_lt hn
  obtain ⟨o, r, ν', e1, e2, e3, e4, e6⟩ := T_refundOf hG (xs (i + 1))
  refine ev_aload_n (k0 := 1) rfl d_law_1258 ?_
  refine ev_arg hs hL 1 (by omega) rfl rfl rfl d_law_1259 d_law_1260 d_law_1262 d_law_1263 d_law_1264 ?_
  refine ev_aload_n (k0 := 3) rfl d_law_1265 ?_
  refine Ev.room (mc := 1 + mc) (ms := 6 + ms) (ev_invSH (d := d + 39) (vs := [.inr (0, 0), .inl (.int (xs (i + 1))), .inr (0, 547)]) (st := []) (fun h => by cases h) lh_223 (LW_refundOf (d + 38) hC h547 e3 (Mt.ro hC (w_P_refundOf (d + 35) hC e1))) rfl (Nat.le_of_ble_eq_true rfl) d_law_1266 (aft_wr (fun G1 n1 f hW q1 q2 q3 => ?_))) (by omega) (by omega)
  refine cw_istoreN 5 (ν' 13 0 7) rfl (wLS2 i (some (.inl (.int (ν' 13 0 7)))) none) d_law_1269 rfl rfl rfl ?_
  refine ev_aload_n (k0 := 2) rfl d_law_1271 ?_
  refine ev_arg hs hL 1 (by omega) rfl rfl rfl d_law_1272 d_law_1273 d_law_1275 d_law_1276 d_law_1277 ?_
  have hV1 : LM vr 535 547 ν G1 G1 := hW.farR hV
  refine Ev.z9 (cv_V (d := d + 39) [.inl (.int (xs (i + 1)))] hV1 v_13 rfl lk_ProphecyShopLaw_225 (w_R_refundOf (d + 37) hV1 e2) rfl rfl d_law_1278 (aft_rw (fun G2 hG2 => ?_)))
  obtain ⟨hI2, hC2⟩ := hI0.step hn hW q1 q2 hG2 e4 rfl e6
  exact law_tailI ta_1281 hI2 hC2 rfl q3 hk
theorem C_26 (hs : g.2.2.2.2.2 90 = some (true, 0, L, fun q => .inl (.int (xs q)))) (hL : L ≤ 3584) (hi : i + 7 ≤ L) (hn : n < 512) (hS : SG g) (hD : DG g) (hI : wLI μ ν l G nx n) (hk : wKN g (d + 40) i n mc ms Post) : Ev g (d + 40) m_law 1314 (wLS i) [] (G, nx) (60 + mc) (7000 + ms) Post := by
  have hI0 := hI
  obtain ⟨hC, hV, ⟨f0, h547⟩, hG, hO, hU, h548, hnx⟩ := hI
  have hb2 := wB_lt hn
  obtain ⟨r, ν', e1, e2, e4, e6⟩ := T_queueLength hG
  refine Ev.room (mc := mc) (ms := ms) ?_ (by omega) (by omega)
  refine ev_aload_n (k0 := 1) rfl d_law_1314 ?_
  refine Ev.z9 (cv_V (d := d + 39) [] hC v_12 rfl lk_ProphecyShopLaw_226 (w_P_queueLength (d + 39) hC e1) rfl rfl d_law_1315 (aft_ro ?_))
  refine ev_aload_n (k0 := 2) rfl d_law_1318 ?_
  refine Ev.z9 (cv_V (d := d + 39) [] hV v_13 rfl lk_ProphecyShopLaw_229 (w_R_queueLength (d + 38) hV e2) rfl rfl d_law_1319 (aft_rw (fun G2 hG2 => ?_)))
  obtain ⟨hI2, -⟩ := hI0.step hn (hC.same h547) (Nat.le_refl _) (Nat.le_add_right _ _) hG2 e4 rfl e6
  exact ev_icmp_eq (tgt := 2750) (by decide) d_law_1322 (fun _ => hk hI2) (fun z => absurd rfl z)
theorem ta_1350 : TailI 1350 1370 := ⟨d_law_1350, d_law_1352, d_law_1353, d_law_1356, d_law_1358, d_law_1363, d_law_1365, d_law_1368, d_law_1369, d_law_1370, d_law_1371, d_law_1373, d_law_1374, d_law_1375, d_law_1380, by decide⟩
theorem C_27 (hs : g.2.2.2.2.2 90 = some (true, 0, L, fun q => .inl (.int (xs q)))) (hL : L ≤ 3584) (hi : i + 7 ≤ L) (hn : n < 512) (hS : SG g) (hD : DG g) (hI : wLI μ ν l G nx n) (hk : wKN g (d + 40) i n mc ms Post) : Ev g (d + 40) m_law 1327 (wLS i) [] (G, nx) (60 + mc) (7000 + ms) Post := by
  have hI0 := hI
  obtain ⟨hC, hV, ⟨f0, h547⟩, hG, hO, hU, h548, hnx⟩ := hI
  have hb2 := wB_lt hn
  obtain ⟨o, r, ν', e1, e2, e3, e4, e6⟩ := T_placeInQueue hG (xs (i + 1))
  refine ev_aload_n (k0 := 1) rfl d_law_1327 ?_
  refine ev_arg hs hL 1 (by omega) rfl rfl rfl d_law_1328 d_law_1329 d_law_1331 d_law_1332 d_law_1333 ?_
  refine ev_aload_n (k0 := 3) rfl d_law_1334 ?_
  refine Ev.room (mc := 1 + mc) (ms := 6 + ms) (ev_invSH (d := d + 39) (vs := [.inr (0, 0), .inl (.int (xs (i + 1))), .inr (0, 547)]) (st := []) (fun h => by cases h) lh_230 (LW_placeInQueue (d + 38) hC h547 e3 (Mt.ro hC (w_P_placeInQueue (d + 37) hC e1))) rfl (Nat.le_of_ble_eq_true rfl) d_law_1335 (aft_wr (fun G1 n1 f hW q1 q2 q3 => ?_))) (by omega) (by omega)
  refine cw_istoreN 5 (ν' 13 0 7) rfl (wLS2 i (some (.inl (.int (ν' 13 0 7)))) none) d_law_1338 rfl rfl rfl ?_
  refine ev_aload_n (k0 := 2) rfl d_law_1340 ?_
  refine ev_arg hs hL 1 (by omega) rfl rfl rfl d_law_1341 d_law_1342 d_law_1344 d_law_1345 d_law_1346 ?_
  have hV1 : LM vr 535 547 ν G1 G1 := hW.farR hV
  refine Ev.z9 (cv_V (d := d + 39) [.inl (.int (xs (i + 1)))] hV1 v_13 rfl lk_ProphecyShopLaw_232 (w_R_placeInQueue (d + 37) hV1 e2) rfl rfl d_law_1347 (aft_rw (fun G2 hG2 => ?_)))
  obtain ⟨hI2, hC2⟩ := hI0.step hn hW q1 q2 hG2 e4 rfl e6
  exact law_tailI ta_1350 hI2 hC2 rfl q3 hk
theorem ta_1406 : TailI 1406 1314 := ⟨d_law_1406, d_law_1408, d_law_1409, d_law_1412, d_law_1414, d_law_1419, d_law_1421, d_law_1424, d_law_1425, d_law_1426, d_law_1427, d_law_1429, d_law_1430, d_law_1431, d_law_1436, by decide⟩
theorem C_28 (hs : g.2.2.2.2.2 90 = some (true, 0, L, fun q => .inl (.int (xs q)))) (hL : L ≤ 3584) (hi : i + 7 ≤ L) (hn : n < 512) (hS : SG g) (hD : DG g) (hI : wLI μ ν l G nx n) (hk : wKN g (d + 40) i n mc ms Post) : Ev g (d + 40) m_law 1383 (wLS i) [] (G, nx) (60 + mc) (7000 + ms) Post := by
  have hI0 := hI
  obtain ⟨hC, hV, ⟨f0, h547⟩, hG, hO, hU, h548, hnx⟩ := hI
  have hb2 := wB_lt hn
  obtain ⟨o, r, ν', e1, e2, e3, e4, e6⟩ := T_answerFor hG (xs (i + 1))
  refine ev_aload_n (k0 := 1) rfl d_law_1383 ?_
  refine ev_arg hs hL 1 (by omega) rfl rfl rfl d_law_1384 d_law_1385 d_law_1387 d_law_1388 d_law_1389 ?_
  refine ev_aload_n (k0 := 3) rfl d_law_1390 ?_
  refine Ev.room (mc := 1 + mc) (ms := 6 + ms) (ev_invSH (d := d + 39) (vs := [.inr (0, 0), .inl (.int (xs (i + 1))), .inr (0, 547)]) (st := []) (fun h => by cases h) lh_233 (LW_answerFor (d + 38) hC h547 e3 (Mt.ro hC (w_P_answerFor (d + 35) hC e1))) rfl (Nat.le_of_ble_eq_true rfl) d_law_1391 (aft_wr (fun G1 n1 f hW q1 q2 q3 => ?_))) (by omega) (by omega)
  refine cw_istoreN 5 (ν' 13 0 7) rfl (wLS2 i (some (.inl (.int (ν' 13 0 7)))) none) d_law_1394 rfl rfl rfl ?_
  refine ev_aload_n (k0 := 2) rfl d_law_1396 ?_
  refine ev_arg hs hL 1 (by omega) rfl rfl rfl d_law_1397 d_law_1398 d_law_1400 d_law_1401 d_law_1402 ?_
  have hV1 : LM vr 535 547 ν G1 G1 := hW.farR hV
  refine Ev.z9 (cv_V (d := d + 39) [.inl (.int (xs (i + 1)))] hV1 v_13 rfl lk_ProphecyShopLaw_235 (w_R_answerFor (d + 36) hV1 e2) rfl rfl d_law_1403 (aft_rw (fun G2 hG2 => ?_)))
  obtain ⟨hI2, hC2⟩ := hI0.step hn hW q1 q2 hG2 e4 rfl e6
  exact law_tailI ta_1406 hI2 hC2 rfl q3 hk
theorem ta_1462 : TailI 1462 1258 := ⟨d_law_1462, d_law_1464, d_law_1465, d_law_1468, d_law_1470, d_law_1475, d_law_1477, d_law_1480, d_law_1481, d_law_1482, d_law_1483, d_law_1485, d_law_1486, d_law_1487, d_law_1492, by decide⟩
theorem C_29 (hs : g.2.2.2.2.2 90 = some (true, 0, L, fun q => .inl (.int (xs q)))) (hL : L ≤ 3584) (hi : i + 7 ≤ L) (hn : n < 512) (hS : SG g) (hD : DG g) (hI : wLI μ ν l G nx n) (hk : wKN g (d + 40) i n mc ms Post) : Ev g (d + 40) m_law 1439 (wLS i) [] (G, nx) (60 + mc) (7000 + ms) Post := by
  have hI0 := hI
  obtain ⟨hC, hV, ⟨f0, h547⟩, hG, hO, hU, h548, hnx⟩ := hI
  have hb2 := wB_lt hn
  obtain ⟨o, r, ν', e1, e2, e3, e4, e6⟩ := T_expectedAnswer hG (xs (i + 1))
  refine ev_aload_n (k0 := 1) rfl d_law_1439 ?_
  refine ev_arg hs hL 1 (by omega) rfl rfl rfl d_law_1440 d_law_1441 d_law_1443 d_law_1444 d_law_1445 ?_
  refine ev_aload_n (k0 := 3) rfl d_law_1446 ?_
  refine Ev.room (mc := 1 + mc) (ms := 6 + ms) (ev_invSH (d := d + 39) (vs := [.inr (0, 0), .inl (.int (xs (i + 1))), .inr (0, 547)]) (st := []) (fun h => by cases h) lh_236 (LW_expectedAnswer (d + 38) hC h547 e3 (Mt.ro hC (w_P_expectedAnswer (d + 35) hC e1))) rfl (Nat.le_of_ble_eq_true rfl) d_law_1447 (aft_wr (fun G1 n1 f hW q1 q2 q3 => ?_))) (by omega) (by omega)
  refine cw_istoreN 5 (ν' 13 0 7) rfl (wLS2 i (some (.inl (.int (ν' 13 0 7)))) none) d_law_1450 rfl rfl rfl ?_
  refine ev_aload_n (k0 := 2) rfl d_law_1452 ?_
  refine ev_arg hs hL 1 (by omega) rfl rfl rfl d_law_1453 d_law_1454 d_law_1456 d_law_1457 d_law_1458 ?_
  have hV1 : LM vr 535 547 ν G1 G1 := hW.farR hV
  refine Ev.z9 (cv_V (d := d + 39) [.inl (.int (xs (i + 1)))] hV1 v_13 rfl lk_ProphecyShopLaw_238 (w_R_expectedAnswer (d + 36) hV1 e2) rfl rfl d_law_1459 (aft_rw (fun G2 hG2 => ?_)))
  obtain ⟨hI2, hC2⟩ := hI0.step hn hW q1 q2 hG2 e4 rfl e6
  exact law_tailI ta_1462 hI2 hC2 rfl q3 hk
theorem C_30 (hs : g.2.2.2.2.2 90 = some (true, 0, L, fun q => .inl (.int (xs q)))) (hL : L ≤ 3584) (hi : i + 7 ≤ L) (hn : n < 512) (hS : SG g) (hD : DG g) (hI : wLI μ ν l G nx n) (hk : wKN g (d + 40) i n mc ms Post) : Ev g (d + 40) m_law 1495 (wLS i) [] (G, nx) (60 + mc) (7000 + ms) Post := by
  have hI0 := hI
  obtain ⟨hC, hV, ⟨f0, h547⟩, hG, hO, hU, h548, hnx⟩ := hI
  have hb2 := wB_lt hn
  obtain ⟨r, ν', e1, e2, e4, e6⟩ := T_idleOwls hG
  refine Ev.room (mc := mc) (ms := ms) ?_ (by omega) (by omega)
  refine ev_aload_n (k0 := 1) rfl d_law_1495 ?_
  refine Ev.z9 (cv_V (d := d + 39) [] hC v_12 rfl lk_ProphecyShopLaw_239 (w_P_idleOwls (d + 38) hC e1) rfl rfl d_law_1496 (aft_ro ?_))
  refine ev_aload_n (k0 := 2) rfl d_law_1499 ?_
  refine Ev.z9 (cv_V (d := d + 39) [] hV v_13 rfl lk_ProphecyShopLaw_242 (w_R_idleOwls (d + 38) hV e2) rfl rfl d_law_1500 (aft_rw (fun G2 hG2 => ?_)))
  obtain ⟨hI2, -⟩ := hI0.step hn (hC.same h547) (Nat.le_refl _) (Nat.le_add_right _ _) hG2 e4 rfl e6
  exact ev_icmp_eq (tgt := 2750) (by decide) d_law_1503 (fun _ => hk hI2) (fun z => absurd rfl z)
theorem ta_1531 : TailI 1531 1189 := ⟨d_law_1531, d_law_1533, d_law_1534, d_law_1537, d_law_1539, d_law_1544, d_law_1546, d_law_1549, d_law_1550, d_law_1551, d_law_1552, d_law_1554, d_law_1555, d_law_1556, d_law_1561, by decide⟩
theorem C_31 (hs : g.2.2.2.2.2 90 = some (true, 0, L, fun q => .inl (.int (xs q)))) (hL : L ≤ 3584) (hi : i + 7 ≤ L) (hn : n < 512) (hS : SG g) (hD : DG g) (hI : wLI μ ν l G nx n) (hk : wKN g (d + 40) i n mc ms Post) : Ev g (d + 40) m_law 1508 (wLS i) [] (G, nx) (60 + mc) (7000 + ms) Post := by
  have hI0 := hI
  obtain ⟨hC, hV, ⟨f0, h547⟩, hG, hO, hU, h548, hnx⟩ := hI
  have hb2 := wB_lt hn
  obtain ⟨o, r, ν', e1, e2, e3, e4, e6⟩ := T_owlDays hG (xs (i + 1))
  refine ev_aload_n (k0 := 1) rfl d_law_1508 ?_
  refine ev_arg hs hL 1 (by omega) rfl rfl rfl d_law_1509 d_law_1510 d_law_1512 d_law_1513 d_law_1514 ?_
  refine ev_aload_n (k0 := 3) rfl d_law_1515 ?_
  refine Ev.room (mc := 1 + mc) (ms := 6 + ms) (ev_invSH (d := d + 39) (vs := [.inr (0, 0), .inl (.int (xs (i + 1))), .inr (0, 547)]) (st := []) (fun h => by cases h) lh_243 (LW_owlDays (d + 38) hC h547 e3 (Mt.ro hC (w_P_owlDays (d + 37) hC e1))) rfl (Nat.le_of_ble_eq_true rfl) d_law_1516 (aft_wr (fun G1 n1 f hW q1 q2 q3 => ?_))) (by omega) (by omega)
  refine cw_istoreN 5 (ν' 13 0 7) rfl (wLS2 i (some (.inl (.int (ν' 13 0 7)))) none) d_law_1519 rfl rfl rfl ?_
  refine ev_aload_n (k0 := 2) rfl d_law_1521 ?_
  refine ev_arg hs hL 1 (by omega) rfl rfl rfl d_law_1522 d_law_1523 d_law_1525 d_law_1526 d_law_1527 ?_
  have hV1 : LM vr 535 547 ν G1 G1 := hW.farR hV
  refine Ev.z9 (cv_V (d := d + 39) [.inl (.int (xs (i + 1)))] hV1 v_13 rfl lk_ProphecyShopLaw_245 (w_R_owlDays (d + 37) hV1 e2) rfl rfl d_law_1528 (aft_rw (fun G2 hG2 => ?_)))
  obtain ⟨hI2, hC2⟩ := hI0.step hn hW q1 q2 hG2 e4 rfl e6
  exact law_tailI ta_1531 hI2 hC2 rfl q3 hk
theorem ta_1587 : TailI 1587 1133 := ⟨d_law_1587, d_law_1589, d_law_1590, d_law_1593, d_law_1595, d_law_1600, d_law_1602, d_law_1605, d_law_1606, d_law_1607, d_law_1608, d_law_1610, d_law_1611, d_law_1612, d_law_1617, by decide⟩
theorem C_32 (hs : g.2.2.2.2.2 90 = some (true, 0, L, fun q => .inl (.int (xs q)))) (hL : L ≤ 3584) (hi : i + 7 ≤ L) (hn : n < 512) (hS : SG g) (hD : DG g) (hI : wLI μ ν l G nx n) (hk : wKN g (d + 40) i n mc ms Post) : Ev g (d + 40) m_law 1564 (wLS i) [] (G, nx) (60 + mc) (7000 + ms) Post := by
  have hI0 := hI
  obtain ⟨hC, hV, ⟨f0, h547⟩, hG, hO, hU, h548, hnx⟩ := hI
  have hb2 := wB_lt hn
  obtain ⟨o, r, ν', e1, e2, e3, e4, e6⟩ := T_owlCoins hG (xs (i + 1))
  refine ev_aload_n (k0 := 1) rfl d_law_1564 ?_
  refine ev_arg hs hL 1 (by omega) rfl rfl rfl d_law_1565 d_law_1566 d_law_1568 d_law_1569 d_law_1570 ?_
  refine ev_aload_n (k0 := 3) rfl d_law_1571 ?_
  refine Ev.room (mc := 1 + mc) (ms := 6 + ms) (ev_invSH (d := d + 39) (vs := [.inr (0, 0), .inl (.int (xs (i + 1))), .inr (0, 547)]) (st := []) (fun h => by cases h) lh_246 (LW_owlCoins (d + 38) hC h547 e3 (Mt.ro hC (w_P_owlCoins (d + 37) hC e1))) rfl (Nat.le_of_ble_eq_true rfl) d_law_1572 (aft_wr (fun G1 n1 f hW q1 q2 q3 => ?_))) (by omega) (by omega)
  refine cw_istoreN 5 (ν' 13 0 7) rfl (wLS2 i (some (.inl (.int (ν' 13 0 7)))) none) d_law_1575 rfl rfl rfl ?_
  refine ev_aload_n (k0 := 2) rfl d_law_1577 ?_
  refine ev_arg hs hL 1 (by omega) rfl rfl rfl d_law_1578 d_law_1579 d_law_1581 d_law_1582 d_law_1583 ?_
  have hV1 : LM vr 535 547 ν G1 G1 := hW.farR hV
  refine Ev.z9 (cv_V (d := d + 39) [.inl (.int (xs (i + 1)))] hV1 v_13 rfl lk_ProphecyShopLaw_248 (w_R_owlCoins (d + 37) hV1 e2) rfl rfl d_law_1584 (aft_rw (fun G2 hG2 => ?_)))
  obtain ⟨hI2, hC2⟩ := hI0.step hn hW q1 q2 hG2 e4 rfl e6
  exact law_tailI ta_1587 hI2 hC2 rfl q3 hk
theorem ta_1643 : TailI 1643 1077 := ⟨d_law_1643, d_law_1645, d_law_1646, d_law_1649, d_law_1651, d_law_1656, d_law_1658, d_law_1661, d_law_1662, d_law_1663, d_law_1664, d_law_1666, d_law_1667, d_law_1668, d_law_1673, by decide⟩
theorem C_33 (hs : g.2.2.2.2.2 90 = some (true, 0, L, fun q => .inl (.int (xs q)))) (hL : L ≤ 3584) (hi : i + 7 ≤ L) (hn : n < 512) (hS : SG g) (hD : DG g) (hI : wLI μ ν l G nx n) (hk : wKN g (d + 40) i n mc ms Post) : Ev g (d + 40) m_law 1620 (wLS i) [] (G, nx) (60 + mc) (7000 + ms) Post := by
  have hI0 := hI
  obtain ⟨hC, hV, ⟨f0, h547⟩, hG, hO, hU, h548, hnx⟩ := hI
  have hb2 := wB_lt hn
  obtain ⟨o, r, ν', e1, e2, e3, e4, e6⟩ := T_countIn hG (xs (i + 1))
  refine ev_aload_n (k0 := 1) rfl d_law_1620 ?_
  refine ev_arg hs hL 1 (by omega) rfl rfl rfl d_law_1621 d_law_1622 d_law_1624 d_law_1625 d_law_1626 ?_
  refine ev_aload_n (k0 := 3) rfl d_law_1627 ?_
  refine Ev.room (mc := 1 + mc) (ms := 6 + ms) (ev_invSH (d := d + 39) (vs := [.inr (0, 0), .inl (.int (xs (i + 1))), .inr (0, 547)]) (st := []) (fun h => by cases h) lh_249 (LW_countIn (d + 38) hC h547 e3 (Mt.ro hC (w_P_countIn (d + 37) hC e1))) rfl (Nat.le_of_ble_eq_true rfl) d_law_1628 (aft_wr (fun G1 n1 f hW q1 q2 q3 => ?_))) (by omega) (by omega)
  refine cw_istoreN 5 (ν' 13 0 7) rfl (wLS2 i (some (.inl (.int (ν' 13 0 7)))) none) d_law_1631 rfl rfl rfl ?_
  refine ev_aload_n (k0 := 2) rfl d_law_1633 ?_
  refine ev_arg hs hL 1 (by omega) rfl rfl rfl d_law_1634 d_law_1635 d_law_1637 d_law_1638 d_law_1639 ?_
  have hV1 : LM vr 535 547 ν G1 G1 := hW.farR hV
  refine Ev.z9 (cv_V (d := d + 39) [.inl (.int (xs (i + 1)))] hV1 v_13 rfl lk_ProphecyShopLaw_251 (w_R_countIn (d + 37) hV1 e2) rfl rfl d_law_1640 (aft_rw (fun G2 hG2 => ?_)))
  obtain ⟨hI2, hC2⟩ := hI0.step hn hW q1 q2 hG2 e4 rfl e6
  exact law_tailI ta_1643 hI2 hC2 rfl q3 hk
theorem C_34 (hs : g.2.2.2.2.2 90 = some (true, 0, L, fun q => .inl (.int (xs q)))) (hL : L ≤ 3584) (hi : i + 7 ≤ L) (hn : n < 512) (hS : SG g) (hD : DG g) (hI : wLI μ ν l G nx n) (hk : wKN g (d + 40) i n mc ms Post) : Ev g (d + 40) m_law 1676 (wLS i) [] (G, nx) (60 + mc) (7000 + ms) Post := by
  have hI0 := hI
  obtain ⟨hC, hV, ⟨f0, h547⟩, hG, hO, hU, h548, hnx⟩ := hI
  have hb2 := wB_lt hn
  obtain ⟨r, ν', e1, e2, e4, e6⟩ := T_handledRequests hG
  refine Ev.room (mc := mc) (ms := ms) ?_ (by omega) (by omega)
  refine ev_aload_n (k0 := 1) rfl d_law_1676 ?_
  refine Ev.z9 (cv_V (d := d + 39) [] hC v_12 rfl lk_ProphecyShopLaw_252 (w_P_handledRequests (d + 39) hC e1) rfl rfl d_law_1677 (aft_ro ?_))
  refine ev_aload_n (k0 := 2) rfl d_law_1680 ?_
  refine Ev.z9 (cv_V (d := d + 39) [] hV v_13 rfl lk_ProphecyShopLaw_255 (w_R_handledRequests (d + 38) hV e2) rfl rfl d_law_1681 (aft_rw (fun G2 hG2 => ?_)))
  obtain ⟨hI2, -⟩ := hI0.step hn (hC.same h547) (Nat.le_refl _) (Nat.le_add_right _ _) hG2 e4 rfl e6
  exact ev_icmp_eq (tgt := 2750) (by decide) d_law_1684 (fun _ => hk hI2) (fun z => absurd rfl z)
theorem C_35 (hs : g.2.2.2.2.2 90 = some (true, 0, L, fun q => .inl (.int (xs q)))) (hL : L ≤ 3584) (hi : i + 7 ≤ L) (hn : n < 512) (hS : SG g) (hD : DG g) (hI : wLI μ ν l G nx n) (hk : wKN g (d + 40) i n mc ms Post) : Ev g (d + 40) m_law 1689 (wLS i) [] (G, nx) (60 + mc) (7000 + ms) Post := by
  have hI0 := hI
  obtain ⟨hC, hV, ⟨f0, h547⟩, hG, hO, hU, h548, hnx⟩ := hI
  have hb2 := wB_lt hn
  obtain ⟨r, ν', e1, e2, e4, e6⟩ := T_refundTotal hG
  refine Ev.room (mc := mc) (ms := ms) ?_ (by omega) (by omega)
  refine ev_aload_n (k0 := 1) rfl d_law_1689 ?_
  refine Ev.z9 (cv_V (d := d + 39) [] hC v_12 rfl lk_ProphecyShopLaw_256 (w_P_refundTotal (d + 39) hC e1) rfl rfl d_law_1690 (aft_ro ?_))
  refine ev_aload_n (k0 := 2) rfl d_law_1693 ?_
  refine Ev.z9 (cv_V (d := d + 39) [] hV v_13 rfl lk_ProphecyShopLaw_259 (w_R_refundTotal (d + 38) hV e2) rfl rfl d_law_1694 (aft_rw (fun G2 hG2 => ?_)))
  obtain ⟨hI2, -⟩ := hI0.step hn (hC.same h547) (Nat.le_refl _) (Nat.le_add_right _ _) hG2 e4 rfl e6
  exact ev_icmp_eq (tgt := 2750) (by decide) d_law_1697 (fun _ => hk hI2) (fun z => absurd rfl z)
theorem C_36 (hs : g.2.2.2.2.2 90 = some (true, 0, L, fun q => .inl (.int (xs q)))) (hL : L ≤ 3584) (hi : i + 7 ≤ L) (hn : n < 512) (hS : SG g) (hD : DG g) (hI : wLI μ ν l G nx n) (hk : wKN g (d + 40) i n mc ms Post) : Ev g (d + 40) m_law 1702 (wLS i) [] (G, nx) (60 + mc) (7000 + ms) Post := by
  have hI0 := hI
  obtain ⟨hC, hV, ⟨f0, h547⟩, hG, hO, hU, h548, hnx⟩ := hI
  have hb2 := wB_lt hn
  obtain ⟨r, ν', e1, e2, e4, e6⟩ := T_truthShare hG
  have hq := f2d_num (TS_num e1)
  refine Ev.room (mc := mc) (ms := ms) ?_ (by omega) (by omega)
  refine ev_aload_n (k0 := 1) rfl d_law_1702 ?_
  refine Ev.z9 (cv_V (d := d + 39) [] hC v_12 rfl lk_ProphecyShopLaw_260 (w_P_truthShare (d + 38) hC e1) rfl rfl d_law_1703 (aft_ro ?_))
  refine ev_f2d (nan_vf hq) d_law_1706 ?_
  refine ev_dstore (i := 5) rfl (Nat.le_of_ble_eq_true rfl) d_law_1707 ?_
  refine ev_aload_n (k0 := 2) rfl d_law_1709 ?_
  refine Ev.z9 (cv_V (d := d + 39) [] hV v_13 rfl lk_ProphecyShopLaw_264 (w_R_truthShare (d + 37) hV e2) rfl rfl d_law_1710 (aft_rw (fun G2 hG2 => ?_)))
  refine ev_f2d (nan_vf hq) d_law_1713 ?_
  refine ev_dstore (i := 7) rfl (Nat.le_of_ble_eq_true rfl) d_law_1714 ?_
  refine ev_dload (i := 5) rfl d_law_1716 ?_
  refine ev_dload (i := 7) rfl d_law_1718 ?_
  refine ev_dcmp d_law_1720 ?_
  rw [cmp_rf hq]
  refine ev_if_eq (tgt := 1742) (by decide) d_law_1721 (fun _ => ?_) (fun z => absurd rfl z)
  refine ev_goto (tgt := 2750) (by decide) d_law_1742 ?_
  obtain ⟨hI2, -⟩ := hI0.step hn (hC.same h547) (Nat.le_refl _) (Nat.le_add_right _ _) hG2 e4 rfl e6
  exact Ev.sub (LSb.s (LSb.s (LSb.s (LSb.s (LSb.s (LSb.n (LSb.n (LSb.n (LSb.n LSb.z))))))))) (hk hI2)
theorem C_37 (hs : g.2.2.2.2.2 90 = some (true, 0, L, fun q => .inl (.int (xs q)))) (hL : L ≤ 3584) (hi : i + 7 ≤ L) (hn : n < 512) (hS : SG g) (hD : DG g) (hI : wLI μ ν l G nx n) (hk : wKN g (d + 40) i n mc ms Post) : Ev g (d + 40) m_law 1745 (wLS i) [] (G, nx) (60 + mc) (7000 + ms) Post := by
  have hI0 := hI
  obtain ⟨hC, hV, ⟨f0, h547⟩, hG, hO, hU, h548, hnx⟩ := hI
  have hb2 := wB_lt hn
  obtain ⟨r, ν', e1, e2, e4, e6⟩ := T_meanPrice hG
  have hq := okD9_nan (MP_num e1)
  refine Ev.room (mc := mc) (ms := ms) ?_ (by omega) (by omega)
  refine ev_aload_n (k0 := 1) rfl d_law_1745 ?_
  refine Ev.z9 (cv_V (d := d + 39) [] hC v_12 rfl lk_ProphecyShopLaw_265 (w_P_meanPrice (d + 38) hC e1) rfl rfl d_law_1746 (aft_ro ?_))
  refine ev_dstore (i := 5) rfl (Nat.le_of_ble_eq_true rfl) d_law_1749 ?_
  refine ev_aload_n (k0 := 2) rfl d_law_1751 ?_
  refine Ev.z9 (cv_V (d := d + 39) [] hV v_13 rfl lk_ProphecyShopLaw_269 (w_R_meanPrice (d + 38) hV e2) rfl rfl d_law_1752 (aft_rw (fun G2 hG2 => ?_)))
  refine ev_dstore (i := 7) rfl (Nat.le_of_ble_eq_true rfl) d_law_1755 ?_
  refine ev_dload (i := 5) rfl d_law_1757 ?_
  refine ev_dload (i := 7) rfl d_law_1759 ?_
  refine ev_dcmp d_law_1761 ?_
  rw [cmp_rf hq]
  refine ev_if_eq (tgt := 1783) (by decide) d_law_1762 (fun _ => ?_) (fun z => absurd rfl z)
  refine ev_goto (tgt := 2750) (by decide) d_law_1783 ?_
  obtain ⟨hI2, -⟩ := hI0.step hn (hC.same h547) (Nat.le_refl _) (Nat.le_add_right _ _) hG2 e4 rfl e6
  exact Ev.sub (LSb.s (LSb.s (LSb.s (LSb.s (LSb.s (LSb.n (LSb.n (LSb.n (LSb.n LSb.z))))))))) (hk hI2)
theorem C_38 (hs : g.2.2.2.2.2 90 = some (true, 0, L, fun q => .inl (.int (xs q)))) (hL : L ≤ 3584) (hi : i + 7 ≤ L) (hn : n < 512) (hS : SG g) (hD : DG g) (hI : wLI μ ν l G nx n) (hk : wKN g (d + 40) i n mc ms Post) : Ev g (d + 40) m_law 1786 (wLS i) [] (G, nx) (60 + mc) (7000 + ms) Post := by
  have hI0 := hI
  obtain ⟨hC, hV, ⟨f0, h547⟩, hG, hO, hU, h548, hnx⟩ := hI
  have hb2 := wB_lt hn
  obtain ⟨r, ν', e1, e2, e4, e6⟩ := T_contradictions hG
  refine Ev.room (mc := mc) (ms := ms) ?_ (by omega) (by omega)
  refine ev_aload_n (k0 := 1) rfl d_law_1786 ?_
  refine Ev.z9 (cv_V (d := d + 39) [] hC v_12 rfl lk_ProphecyShopLaw_270 (w_P_contradictions (d + 36) hC e1) rfl rfl d_law_1787 (aft_ro ?_))
  refine ev_aload_n (k0 := 2) rfl d_law_1790 ?_
  refine Ev.z9 (cv_V (d := d + 39) [] hV v_13 rfl lk_ProphecyShopLaw_273 (w_R_contradictions (d + 37) hV e2) rfl rfl d_law_1791 (aft_rw (fun G2 hG2 => ?_)))
  obtain ⟨hI2, -⟩ := hI0.step hn (hC.same h547) (Nat.le_refl _) (Nat.le_add_right _ _) hG2 e4 rfl e6
  exact ev_icmp_eq (tgt := 2750) (by decide) d_law_1794 (fun _ => hk hI2) (fun z => absurd rfl z)
theorem ta_1822 : TailI 1822 898 := ⟨d_law_1822, d_law_1824, d_law_1825, d_law_1828, d_law_1830, d_law_1835, d_law_1837, d_law_1840, d_law_1841, d_law_1842, d_law_1843, d_law_1845, d_law_1846, d_law_1847, d_law_1852, by decide⟩
theorem C_39 (hs : g.2.2.2.2.2 90 = some (true, 0, L, fun q => .inl (.int (xs q)))) (hL : L ≤ 3584) (hi : i + 7 ≤ L) (hn : n < 512) (hS : SG g) (hD : DG g) (hI : wLI μ ν l G nx n) (hk : wKN g (d + 40) i n mc ms Post) : Ev g (d + 40) m_law 1799 (wLS i) [] (G, nx) (60 + mc) (7000 + ms) Post := by
  have hI0 := hI
  obtain ⟨hC, hV, ⟨f0, h547⟩, hG, hO, hU, h548, hnx⟩ := hI
  have hb2 := wB_lt hn
  obtain ⟨o, r, ν', e1, e2, e3, e4, e6⟩ := T_daysUntilDecided hG (xs (i + 1))
  refine ev_aload_n (k0 := 1) rfl d_law_1799 ?_
  refine ev_arg hs hL 1 (by omega) rfl rfl rfl d_law_1800 d_law_1801 d_law_1803 d_law_1804 d_law_1805 ?_
  refine ev_aload_n (k0 := 3) rfl d_law_1806 ?_
  refine Ev.room (mc := 1 + mc) (ms := 6 + ms) (ev_invSH (d := d + 39) (vs := [.inr (0, 0), .inl (.int (xs (i + 1))), .inr (0, 547)]) (st := []) (fun h => by cases h) lh_274 (LW_daysUntilDecided (d + 38) hC h547 e3 (Mt.ro hC (w_P_daysUntilDecided (d + 35) hC e1))) rfl (Nat.le_of_ble_eq_true rfl) d_law_1807 (aft_wr (fun G1 n1 f hW q1 q2 q3 => ?_))) (by omega) (by omega)
  refine cw_istoreN 5 (ν' 13 0 7) rfl (wLS2 i (some (.inl (.int (ν' 13 0 7)))) none) d_law_1810 rfl rfl rfl ?_
  refine ev_aload_n (k0 := 2) rfl d_law_1812 ?_
  refine ev_arg hs hL 1 (by omega) rfl rfl rfl d_law_1813 d_law_1814 d_law_1816 d_law_1817 d_law_1818 ?_
  have hV1 : LM vr 535 547 ν G1 G1 := hW.farR hV
  refine Ev.z9 (cv_V (d := d + 39) [.inl (.int (xs (i + 1)))] hV1 v_13 rfl lk_ProphecyShopLaw_276 (w_R_daysUntilDecided (d + 36) hV1 e2) rfl rfl d_law_1819 (aft_rw (fun G2 hG2 => ?_)))
  obtain ⟨hI2, hC2⟩ := hI0.step hn hW q1 q2 hG2 e4 rfl e6
  exact law_tailI ta_1822 hI2 hC2 rfl q3 hk
theorem ta_1878 : TailI 1878 842 := ⟨d_law_1878, d_law_1880, d_law_1881, d_law_1884, d_law_1886, d_law_1891, d_law_1893, d_law_1896, d_law_1897, d_law_1898, d_law_1899, d_law_1901, d_law_1902, d_law_1903, d_law_1908, by decide⟩
theorem C_40 (hs : g.2.2.2.2.2 90 = some (true, 0, L, fun q => .inl (.int (xs q)))) (hL : L ≤ 3584) (hi : i + 7 ≤ L) (hn : n < 512) (hS : SG g) (hD : DG g) (hI : wLI μ ν l G nx n) (hk : wKN g (d + 40) i n mc ms Post) : Ev g (d + 40) m_law 1855 (wLS i) [] (G, nx) (60 + mc) (7000 + ms) Post := by
  have hI0 := hI
  obtain ⟨hC, hV, ⟨f0, h547⟩, hG, hO, hU, h548, hnx⟩ := hI
  have hb2 := wB_lt hn
  obtain ⟨o, r, μ', ν', e1, e2, e3, e4, e5, e6⟩ := T_daysUntilRefunded hG (xs (i + 1))
  refine ev_aload_n (k0 := 1) rfl d_law_1855 ?_
  refine ev_arg hs hL 1 (by omega) rfl rfl rfl d_law_1856 d_law_1857 d_law_1859 d_law_1860 d_law_1861 ?_
  refine ev_aload_n (k0 := 3) rfl d_law_1862 ?_
  refine Ev.room (mc := 1 + mc) (ms := 6 + ms) (ev_invSH (d := d + 39) (vs := [.inr (0, 0), .inl (.int (xs (i + 1))), .inr (0, 547)]) (st := []) (fun h => by cases h) lh_277 (LW_daysUntilRefunded (d + 38) hC h547 e3 (w_P_daysUntilRefunded (d + 33) hC e1)) rfl (Nat.le_of_ble_eq_true rfl) d_law_1863 (aft_wr (fun G1 n1 f hW q1 q2 q3 => ?_))) (by omega) (by omega)
  refine cw_istoreN 5 (ν' 13 0 7) rfl (wLS2 i (some (.inl (.int (ν' 13 0 7)))) none) d_law_1866 rfl rfl rfl ?_
  refine ev_aload_n (k0 := 2) rfl d_law_1868 ?_
  refine ev_arg hs hL 1 (by omega) rfl rfl rfl d_law_1869 d_law_1870 d_law_1872 d_law_1873 d_law_1874 ?_
  have hV1 : LM vr 535 547 ν G1 G1 := hW.farR hV
  refine Ev.z9 (cv_V (d := d + 39) [.inl (.int (xs (i + 1)))] hV1 v_13 rfl lk_ProphecyShopLaw_279 (w_R_daysUntilRefunded (d + 34) hV1 e2) rfl rfl d_law_1875 (aft_rw (fun G2 hG2 => ?_)))
  obtain ⟨hI2, hC2⟩ := hI0.step hn hW q1 q2 hG2 e4 e5 e6
  exact law_tailI ta_1878 hI2 hC2 rfl q3 hk
theorem ta_1934 : TailI 1934 786 := ⟨d_law_1934, d_law_1936, d_law_1937, d_law_1940, d_law_1942, d_law_1947, d_law_1949, d_law_1952, d_law_1953, d_law_1954, d_law_1955, d_law_1957, d_law_1958, d_law_1959, d_law_1964, by decide⟩
theorem C_41 (hs : g.2.2.2.2.2 90 = some (true, 0, L, fun q => .inl (.int (xs q)))) (hL : L ≤ 3584) (hi : i + 7 ≤ L) (hn : n < 512) (hS : SG g) (hD : DG g) (hI : wLI μ ν l G nx n) (hk : wKN g (d + 40) i n mc ms Post) : Ev g (d + 40) m_law 1911 (wLS i) [] (G, nx) (60 + mc) (7000 + ms) Post := by
  have hI0 := hI
  obtain ⟨hC, hV, ⟨f0, h547⟩, hG, hO, hU, h548, hnx⟩ := hI
  have hb2 := wB_lt hn
  obtain ⟨o, r, μ', ν', e1, e2, e3, e4, e5, e6⟩ := T_cashAfter hG (xs (i + 1))
  refine ev_aload_n (k0 := 1) rfl d_law_1911 ?_
  refine ev_arg hs hL 1 (by omega) rfl rfl rfl d_law_1912 d_law_1913 d_law_1915 d_law_1916 d_law_1917 ?_
  refine ev_aload_n (k0 := 3) rfl d_law_1918 ?_
  refine Ev.room (mc := 1 + mc) (ms := 6 + ms) (ev_invSH (d := d + 39) (vs := [.inr (0, 0), .inl (.int (xs (i + 1))), .inr (0, 547)]) (st := []) (fun h => by cases h) lh_280 (LW_cashAfter (d + 38) hC h547 e3 (w_P_cashAfter (d + 33) hC e1)) rfl (Nat.le_of_ble_eq_true rfl) d_law_1919 (aft_wr (fun G1 n1 f hW q1 q2 q3 => ?_))) (by omega) (by omega)
  refine cw_istoreN 5 (ν' 13 0 7) rfl (wLS2 i (some (.inl (.int (ν' 13 0 7)))) none) d_law_1922 rfl rfl rfl ?_
  refine ev_aload_n (k0 := 2) rfl d_law_1924 ?_
  refine ev_arg hs hL 1 (by omega) rfl rfl rfl d_law_1925 d_law_1926 d_law_1928 d_law_1929 d_law_1930 ?_
  have hV1 : LM vr 535 547 ν G1 G1 := hW.farR hV
  refine Ev.z9 (cv_V (d := d + 39) [.inl (.int (xs (i + 1)))] hV1 v_13 rfl lk_ProphecyShopLaw_282 (w_R_cashAfter (d + 34) hV1 e2) rfl rfl d_law_1931 (aft_rw (fun G2 hG2 => ?_)))
  obtain ⟨hI2, hC2⟩ := hI0.step hn hW q1 q2 hG2 e4 e5 e6
  exact law_tailI ta_1934 hI2 hC2 rfl q3 hk
end Cases
