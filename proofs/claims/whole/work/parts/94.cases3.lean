/-! The law's cases 42 to 54. -/
section Cases
variable {g : GL} {d : Nat} {xs : Nat → Int32} {L i n nx : Nat} {mc ms : Nat} {Post : RO → RM → Prop} {μ ν : Mem} {l : List Nat} {G : RG}
theorem ta_2052 : TailI 2052 668 := ⟨d_law_2052, d_law_2054, d_law_2055, d_law_2058, d_law_2060, d_law_2065, d_law_2067, d_law_2070, d_law_2071, d_law_2072, d_law_2073, d_law_2075, d_law_2076, d_law_2077, d_law_2082, by decide⟩
theorem C_42 (hs : g.2.2.2.2.2 90 = some (true, 0, L, fun q => .inl (.int (xs q)))) (hL : L ≤ 3584) (hi : i + 7 ≤ L) (hn : n < 512) (hS : SG g) (hD : DG g) (hI : wLI μ ν l G nx n) (hk : wKN g (d + 40) i n mc ms Post) : Ev g (d + 40) m_law 1967 (wLS i) [] (G, nx) (60 + mc) (7000 + ms) Post := by
  have hI0 := hI
  obtain ⟨hC, hV, ⟨f0, h547⟩, hG, hO, hU, h548, hnx⟩ := hI
  have hb2 := wB_lt hn
  obtain ⟨o, r, μ', ν', e1, e2, e3, e4, e5, e6⟩ := T_sellPlain hG (xs (i + 1)) (xs (i + 2)) (xs (i + 3)) (xs (i + 4)) (xs (i + 5)) (xs (i + 6))
  refine ev_aload_n (k0 := 1) rfl d_law_1967 ?_
  refine ev_arg hs hL 1 (by omega) rfl rfl rfl d_law_1968 d_law_1969 d_law_1971 d_law_1972 d_law_1973 ?_
  refine ev_arg hs hL 2 (by omega) rfl rfl rfl d_law_1974 d_law_1975 d_law_1977 d_law_1978 d_law_1979 ?_
  refine ev_arg hs hL 3 (by omega) rfl rfl rfl d_law_1980 d_law_1981 d_law_1983 d_law_1984 d_law_1985 ?_
  refine ev_arg hs hL 4 (by omega) rfl rfl rfl d_law_1986 d_law_1987 d_law_1989 d_law_1990 d_law_1991 ?_
  refine ev_arg hs hL 5 (by omega) rfl rfl rfl d_law_1992 d_law_1993 d_law_1995 d_law_1996 d_law_1997 ?_
  refine ev_arg6 hs hL 6 (by omega) rfl rfl rfl d_law_1998 d_law_1999 d_law_2001 d_law_2003 d_law_2004 ?_
  refine ev_aload_n (k0 := 3) rfl d_law_2005 ?_
  refine Ev.room (mc := 3 + mc) (ms := 18 + ms) (ev_invSH (d := d + 39) (vs := [.inr (0, 0), .inl (.int (xs (i + 1))), .inl (.int (xs (i + 2))), .inl (.int (xs (i + 3))), .inl (.int (xs (i + 4))), .inl (.int (xs (i + 5))), .inl (.int (xs (i + 6))), .inr (0, 547)]) (st := []) (fun h => by cases h) lh_283 (LW_sellPlain (d + 38) hC h547 e3 (w_P_sellPlain (d + 34) hC e1)) rfl (Nat.le_of_ble_eq_true rfl) d_law_2006 (aft_wr (fun G1 n1 f hW q1 q2 q3 => ?_))) (by omega) (by omega)
  refine cw_istoreN 5 (ν' 13 0 7) rfl (wLS2 i (some (.inl (.int (ν' 13 0 7)))) none) d_law_2009 rfl rfl rfl ?_
  refine ev_aload_n (k0 := 2) rfl d_law_2011 ?_
  refine ev_arg hs hL 1 (by omega) rfl rfl rfl d_law_2012 d_law_2013 d_law_2015 d_law_2016 d_law_2017 ?_
  refine ev_arg hs hL 2 (by omega) rfl rfl rfl d_law_2018 d_law_2019 d_law_2021 d_law_2022 d_law_2023 ?_
  refine ev_arg hs hL 3 (by omega) rfl rfl rfl d_law_2024 d_law_2025 d_law_2027 d_law_2028 d_law_2029 ?_
  refine ev_arg hs hL 4 (by omega) rfl rfl rfl d_law_2030 d_law_2031 d_law_2033 d_law_2034 d_law_2035 ?_
  refine ev_arg hs hL 5 (by omega) rfl rfl rfl d_law_2036 d_law_2037 d_law_2039 d_law_2040 d_law_2041 ?_
  refine ev_arg6 hs hL 6 (by omega) rfl rfl rfl d_law_2042 d_law_2043 d_law_2045 d_law_2047 d_law_2048 ?_
  have hV1 : LM vr 535 547 ν G1 G1 := hW.farR hV
  refine Ev.z9 (cv_V (d := d + 39) [.inl (.int (xs (i + 1))), .inl (.int (xs (i + 2))), .inl (.int (xs (i + 3))), .inl (.int (xs (i + 4))), .inl (.int (xs (i + 5))), .inl (.int (xs (i + 6)))] hV1 v_13 rfl lk_ProphecyShopLaw_286 (w_R_sellPlain (d + 36) hV1 e2) rfl rfl d_law_2049 (aft_rw (fun G2 hG2 => ?_)))
  obtain ⟨hI2, hC2⟩ := hI0.step hn hW q1 q2 hG2 e4 e5 e6
  exact law_tailI ta_2052 hI2 hC2 rfl q3 hk
theorem ta_2156 : TailI 2156 564 := ⟨d_law_2156, d_law_2158, d_law_2159, d_law_2162, d_law_2164, d_law_2169, d_law_2171, d_law_2174, d_law_2175, d_law_2176, d_law_2177, d_law_2179, d_law_2180, d_law_2181, d_law_2186, by decide⟩
theorem C_43 (hs : g.2.2.2.2.2 90 = some (true, 0, L, fun q => .inl (.int (xs q)))) (hL : L ≤ 3584) (hi : i + 7 ≤ L) (hn : n < 512) (hS : SG g) (hD : DG g) (hI : wLI μ ν l G nx n) (hk : wKN g (d + 40) i n mc ms Post) : Ev g (d + 40) m_law 2085 (wLS i) [] (G, nx) (60 + mc) (7000 + ms) Post := by
  have hI0 := hI
  obtain ⟨hC, hV, ⟨f0, h547⟩, hG, hO, hU, h548, hnx⟩ := hI
  have hb2 := wB_lt hn
  obtain ⟨o, r, μ', ν', e1, e2, e3, e4, e5, e6⟩ := T_sellVague hG (xs (i + 1)) (xs (i + 2)) (xs (i + 3)) (xs (i + 4)) (xs (i + 5))
  refine ev_aload_n (k0 := 1) rfl d_law_2085 ?_
  refine ev_arg hs hL 1 (by omega) rfl rfl rfl d_law_2086 d_law_2087 d_law_2089 d_law_2090 d_law_2091 ?_
  refine ev_arg hs hL 2 (by omega) rfl rfl rfl d_law_2092 d_law_2093 d_law_2095 d_law_2096 d_law_2097 ?_
  refine ev_arg hs hL 3 (by omega) rfl rfl rfl d_law_2098 d_law_2099 d_law_2101 d_law_2102 d_law_2103 ?_
  refine ev_arg hs hL 4 (by omega) rfl rfl rfl d_law_2104 d_law_2105 d_law_2107 d_law_2108 d_law_2109 ?_
  refine ev_arg hs hL 5 (by omega) rfl rfl rfl d_law_2110 d_law_2111 d_law_2113 d_law_2114 d_law_2115 ?_
  refine ev_aload_n (k0 := 3) rfl d_law_2116 ?_
  refine Ev.room (mc := 3 + mc) (ms := 18 + ms) (ev_invSH (d := d + 39) (vs := [.inr (0, 0), .inl (.int (xs (i + 1))), .inl (.int (xs (i + 2))), .inl (.int (xs (i + 3))), .inl (.int (xs (i + 4))), .inl (.int (xs (i + 5))), .inr (0, 547)]) (st := []) (fun h => by cases h) lh_287 (LW_sellVague (d + 38) hC h547 e3 (w_P_sellVague (d + 34) hC e1)) rfl (Nat.le_of_ble_eq_true rfl) d_law_2117 (aft_wr (fun G1 n1 f hW q1 q2 q3 => ?_))) (by omega) (by omega)
  refine cw_istoreN 5 (ν' 13 0 7) rfl (wLS2 i (some (.inl (.int (ν' 13 0 7)))) none) d_law_2120 rfl rfl rfl ?_
  refine ev_aload_n (k0 := 2) rfl d_law_2122 ?_
  refine ev_arg hs hL 1 (by omega) rfl rfl rfl d_law_2123 d_law_2124 d_law_2126 d_law_2127 d_law_2128 ?_
  refine ev_arg hs hL 2 (by omega) rfl rfl rfl d_law_2129 d_law_2130 d_law_2132 d_law_2133 d_law_2134 ?_
  refine ev_arg hs hL 3 (by omega) rfl rfl rfl d_law_2135 d_law_2136 d_law_2138 d_law_2139 d_law_2140 ?_
  refine ev_arg hs hL 4 (by omega) rfl rfl rfl d_law_2141 d_law_2142 d_law_2144 d_law_2145 d_law_2146 ?_
  refine ev_arg hs hL 5 (by omega) rfl rfl rfl d_law_2147 d_law_2148 d_law_2150 d_law_2151 d_law_2152 ?_
  have hV1 : LM vr 535 547 ν G1 G1 := hW.farR hV
  refine Ev.z9 (cv_V (d := d + 39) [.inl (.int (xs (i + 1))), .inl (.int (xs (i + 2))), .inl (.int (xs (i + 3))), .inl (.int (xs (i + 4))), .inl (.int (xs (i + 5)))] hV1 v_13 rfl lk_ProphecyShopLaw_289 (w_R_sellVague (d + 36) hV1 e2) rfl rfl d_law_2153 (aft_rw (fun G2 hG2 => ?_)))
  obtain ⟨hI2, hC2⟩ := hI0.step hn hW q1 q2 hG2 e4 e5 e6
  exact law_tailI ta_2156 hI2 hC2 rfl q3 hk
theorem ta_2274 : TailI 2274 446 := ⟨d_law_2274, d_law_2276, d_law_2277, d_law_2280, d_law_2282, d_law_2287, d_law_2289, d_law_2292, d_law_2293, d_law_2294, d_law_2295, d_law_2297, d_law_2298, d_law_2299, d_law_2304, by decide⟩
theorem C_44 (hs : g.2.2.2.2.2 90 = some (true, 0, L, fun q => .inl (.int (xs q)))) (hL : L ≤ 3584) (hi : i + 7 ≤ L) (hn : n < 512) (hS : SG g) (hD : DG g) (hI : wLI μ ν l G nx n) (hk : wKN g (d + 40) i n mc ms Post) : Ev g (d + 40) m_law 2189 (wLS i) [] (G, nx) (60 + mc) (7000 + ms) Post := by
  have hI0 := hI
  obtain ⟨hC, hV, ⟨f0, h547⟩, hG, hO, hU, h548, hnx⟩ := hI
  have hb2 := wB_lt hn
  obtain ⟨o, r, μ', ν', e1, e2, e3, e4, e5, e6⟩ := T_sellDenial hG (xs (i + 1)) (xs (i + 2)) (xs (i + 3)) (xs (i + 4)) (xs (i + 5)) (xs (i + 6))
  refine ev_aload_n (k0 := 1) rfl d_law_2189 ?_
  refine ev_arg hs hL 1 (by omega) rfl rfl rfl d_law_2190 d_law_2191 d_law_2193 d_law_2194 d_law_2195 ?_
  refine ev_arg hs hL 2 (by omega) rfl rfl rfl d_law_2196 d_law_2197 d_law_2199 d_law_2200 d_law_2201 ?_
  refine ev_arg hs hL 3 (by omega) rfl rfl rfl d_law_2202 d_law_2203 d_law_2205 d_law_2206 d_law_2207 ?_
  refine ev_arg hs hL 4 (by omega) rfl rfl rfl d_law_2208 d_law_2209 d_law_2211 d_law_2212 d_law_2213 ?_
  refine ev_arg hs hL 5 (by omega) rfl rfl rfl d_law_2214 d_law_2215 d_law_2217 d_law_2218 d_law_2219 ?_
  refine ev_arg6 hs hL 6 (by omega) rfl rfl rfl d_law_2220 d_law_2221 d_law_2223 d_law_2225 d_law_2226 ?_
  refine ev_aload_n (k0 := 3) rfl d_law_2227 ?_
  refine Ev.room (mc := 3 + mc) (ms := 18 + ms) (ev_invSH (d := d + 39) (vs := [.inr (0, 0), .inl (.int (xs (i + 1))), .inl (.int (xs (i + 2))), .inl (.int (xs (i + 3))), .inl (.int (xs (i + 4))), .inl (.int (xs (i + 5))), .inl (.int (xs (i + 6))), .inr (0, 547)]) (st := []) (fun h => by cases h) lh_290 (LW_sellDenial (d + 38) hC h547 e3 (w_P_sellDenial (d + 34) hC e1)) rfl (Nat.le_of_ble_eq_true rfl) d_law_2228 (aft_wr (fun G1 n1 f hW q1 q2 q3 => ?_))) (by omega) (by omega)
  refine cw_istoreN 5 (ν' 13 0 7) rfl (wLS2 i (some (.inl (.int (ν' 13 0 7)))) none) d_law_2231 rfl rfl rfl ?_
  refine ev_aload_n (k0 := 2) rfl d_law_2233 ?_
  refine ev_arg hs hL 1 (by omega) rfl rfl rfl d_law_2234 d_law_2235 d_law_2237 d_law_2238 d_law_2239 ?_
  refine ev_arg hs hL 2 (by omega) rfl rfl rfl d_law_2240 d_law_2241 d_law_2243 d_law_2244 d_law_2245 ?_
  refine ev_arg hs hL 3 (by omega) rfl rfl rfl d_law_2246 d_law_2247 d_law_2249 d_law_2250 d_law_2251 ?_
  refine ev_arg hs hL 4 (by omega) rfl rfl rfl d_law_2252 d_law_2253 d_law_2255 d_law_2256 d_law_2257 ?_
  refine ev_arg hs hL 5 (by omega) rfl rfl rfl d_law_2258 d_law_2259 d_law_2261 d_law_2262 d_law_2263 ?_
  refine ev_arg6 hs hL 6 (by omega) rfl rfl rfl d_law_2264 d_law_2265 d_law_2267 d_law_2269 d_law_2270 ?_
  have hV1 : LM vr 535 547 ν G1 G1 := hW.farR hV
  refine Ev.z9 (cv_V (d := d + 39) [.inl (.int (xs (i + 1))), .inl (.int (xs (i + 2))), .inl (.int (xs (i + 3))), .inl (.int (xs (i + 4))), .inl (.int (xs (i + 5))), .inl (.int (xs (i + 6)))] hV1 v_13 rfl lk_ProphecyShopLaw_292 (w_R_sellDenial (d + 36) hV1 e2) rfl rfl d_law_2271 (aft_rw (fun G2 hG2 => ?_)))
  obtain ⟨hI2, hC2⟩ := hI0.step hn hW q1 q2 hG2 e4 e5 e6
  exact law_tailI ta_2274 hI2 hC2 rfl q3 hk
theorem ta_2342 : TailI 2342 378 := ⟨d_law_2342, d_law_2344, d_law_2345, d_law_2348, d_law_2350, d_law_2355, d_law_2357, d_law_2360, d_law_2361, d_law_2362, d_law_2363, d_law_2365, d_law_2366, d_law_2367, d_law_2372, by decide⟩
theorem C_45 (hs : g.2.2.2.2.2 90 = some (true, 0, L, fun q => .inl (.int (xs q)))) (hL : L ≤ 3584) (hi : i + 7 ≤ L) (hn : n < 512) (hS : SG g) (hD : DG g) (hI : wLI μ ν l G nx n) (hk : wKN g (d + 40) i n mc ms Post) : Ev g (d + 40) m_law 2307 (wLS i) [] (G, nx) (60 + mc) (7000 + ms) Post := by
  have hI0 := hI
  obtain ⟨hC, hV, ⟨f0, h547⟩, hG, hO, hU, h548, hnx⟩ := hI
  have hb2 := wB_lt hn
  obtain ⟨o, r, μ', ν', e1, e2, e3, e4, e5, e6⟩ := T_happen hG (xs (i + 1)) (xs (i + 2))
  refine ev_aload_n (k0 := 1) rfl d_law_2307 ?_
  refine ev_arg hs hL 1 (by omega) rfl rfl rfl d_law_2308 d_law_2309 d_law_2311 d_law_2312 d_law_2313 ?_
  refine ev_arg hs hL 2 (by omega) rfl rfl rfl d_law_2314 d_law_2315 d_law_2317 d_law_2318 d_law_2319 ?_
  refine ev_aload_n (k0 := 3) rfl d_law_2320 ?_
  refine Ev.room (mc := 3 + mc) (ms := 18 + ms) (ev_invSH (d := d + 39) (vs := [.inr (0, 0), .inl (.int (xs (i + 1))), .inl (.int (xs (i + 2))), .inr (0, 547)]) (st := []) (fun h => by cases h) lh_293 (LW_happen (d + 38) hC h547 e3 (w_P_happen (d + 35) hC e1)) rfl (Nat.le_of_ble_eq_true rfl) d_law_2321 (aft_wr (fun G1 n1 f hW q1 q2 q3 => ?_))) (by omega) (by omega)
  refine cw_istoreN 5 (ν' 13 0 7) rfl (wLS2 i (some (.inl (.int (ν' 13 0 7)))) none) d_law_2324 rfl rfl rfl ?_
  refine ev_aload_n (k0 := 2) rfl d_law_2326 ?_
  refine ev_arg hs hL 1 (by omega) rfl rfl rfl d_law_2327 d_law_2328 d_law_2330 d_law_2331 d_law_2332 ?_
  refine ev_arg hs hL 2 (by omega) rfl rfl rfl d_law_2333 d_law_2334 d_law_2336 d_law_2337 d_law_2338 ?_
  have hV1 : LM vr 535 547 ν G1 G1 := hW.farR hV
  refine Ev.z9 (cv_V (d := d + 39) [.inl (.int (xs (i + 1))), .inl (.int (xs (i + 2)))] hV1 v_13 rfl lk_ProphecyShopLaw_295 (w_R_happen (d + 36) hV1 e2) rfl rfl d_law_2339 (aft_rw (fun G2 hG2 => ?_)))
  obtain ⟨hI2, hC2⟩ := hI0.step hn hW q1 q2 hG2 e4 e5 e6
  exact law_tailI ta_2342 hI2 hC2 rfl q3 hk
theorem ta_2398 : TailI 2398 322 := ⟨d_law_2398, d_law_2400, d_law_2401, d_law_2404, d_law_2406, d_law_2411, d_law_2413, d_law_2416, d_law_2417, d_law_2418, d_law_2419, d_law_2421, d_law_2422, d_law_2423, d_law_2428, by decide⟩
theorem C_46 (hs : g.2.2.2.2.2 90 = some (true, 0, L, fun q => .inl (.int (xs q)))) (hL : L ≤ 3584) (hi : i + 7 ≤ L) (hn : n < 512) (hS : SG g) (hD : DG g) (hI : wLI μ ν l G nx n) (hk : wKN g (d + 40) i n mc ms Post) : Ev g (d + 40) m_law 2375 (wLS i) [] (G, nx) (60 + mc) (7000 + ms) Post := by
  have hI0 := hI
  obtain ⟨hC, hV, ⟨f0, h547⟩, hG, hO, hU, h548, hnx⟩ := hI
  have hb2 := wB_lt hn
  obtain ⟨o, r, μ', ν', e1, e2, e3, e4, e5, e6⟩ := T_ask hG (xs (i + 1))
  refine ev_aload_n (k0 := 1) rfl d_law_2375 ?_
  refine ev_arg hs hL 1 (by omega) rfl rfl rfl d_law_2376 d_law_2377 d_law_2379 d_law_2380 d_law_2381 ?_
  refine ev_aload_n (k0 := 3) rfl d_law_2382 ?_
  refine Ev.room (mc := 3 + mc) (ms := 18 + ms) (ev_invSH (d := d + 39) (vs := [.inr (0, 0), .inl (.int (xs (i + 1))), .inr (0, 547)]) (st := []) (fun h => by cases h) lh_296 (LW_ask (d + 38) hC h547 e3 (w_P_ask (d + 35) hC e1)) rfl (Nat.le_of_ble_eq_true rfl) d_law_2383 (aft_wr (fun G1 n1 f hW q1 q2 q3 => ?_))) (by omega) (by omega)
  refine cw_istoreN 5 (ν' 13 0 7) rfl (wLS2 i (some (.inl (.int (ν' 13 0 7)))) none) d_law_2386 rfl rfl rfl ?_
  refine ev_aload_n (k0 := 2) rfl d_law_2388 ?_
  refine ev_arg hs hL 1 (by omega) rfl rfl rfl d_law_2389 d_law_2390 d_law_2392 d_law_2393 d_law_2394 ?_
  have hV1 : LM vr 535 547 ν G1 G1 := hW.farR hV
  refine Ev.z9 (cv_V (d := d + 39) [.inl (.int (xs (i + 1)))] hV1 v_13 rfl lk_ProphecyShopLaw_298 (w_R_ask (d + 36) hV1 e2) rfl rfl d_law_2395 (aft_rw (fun G2 hG2 => ?_)))
  obtain ⟨hI2, hC2⟩ := hI0.step hn hW q1 q2 hG2 e4 e5 e6
  exact law_tailI ta_2398 hI2 hC2 rfl q3 hk
theorem ta_2454 : TailI 2454 266 := ⟨d_law_2454, d_law_2456, d_law_2457, d_law_2460, d_law_2462, d_law_2467, d_law_2469, d_law_2472, d_law_2473, d_law_2474, d_law_2475, d_law_2477, d_law_2478, d_law_2479, d_law_2484, by decide⟩
theorem C_47 (hs : g.2.2.2.2.2 90 = some (true, 0, L, fun q => .inl (.int (xs q)))) (hL : L ≤ 3584) (hi : i + 7 ≤ L) (hn : n < 512) (hS : SG g) (hD : DG g) (hI : wLI μ ν l G nx n) (hk : wKN g (d + 40) i n mc ms Post) : Ev g (d + 40) m_law 2431 (wLS i) [] (G, nx) (60 + mc) (7000 + ms) Post := by
  have hI0 := hI
  obtain ⟨hC, hV, ⟨f0, h547⟩, hG, hO, hU, h548, hnx⟩ := hI
  have hb2 := wB_lt hn
  obtain ⟨o, r, μ', ν', e1, e2, e3, e4, e5, e6⟩ := T_advance hG (xs (i + 1))
  refine ev_aload_n (k0 := 1) rfl d_law_2431 ?_
  refine ev_arg hs hL 1 (by omega) rfl rfl rfl d_law_2432 d_law_2433 d_law_2435 d_law_2436 d_law_2437 ?_
  refine ev_aload_n (k0 := 3) rfl d_law_2438 ?_
  refine Ev.room (mc := 3 + mc) (ms := 18 + ms) (ev_invSH (d := d + 39) (vs := [.inr (0, 0), .inl (.int (xs (i + 1))), .inr (0, 547)]) (st := []) (fun h => by cases h) lh_299 (LW_advance (d + 38) hC h547 e3 (w_P_advance (d + 33) hC e1)) rfl (Nat.le_of_ble_eq_true rfl) d_law_2439 (aft_wr (fun G1 n1 f hW q1 q2 q3 => ?_))) (by omega) (by omega)
  refine cw_istoreN 5 (ν' 13 0 7) rfl (wLS2 i (some (.inl (.int (ν' 13 0 7)))) none) d_law_2442 rfl rfl rfl ?_
  refine ev_aload_n (k0 := 2) rfl d_law_2444 ?_
  refine ev_arg hs hL 1 (by omega) rfl rfl rfl d_law_2445 d_law_2446 d_law_2448 d_law_2449 d_law_2450 ?_
  have hV1 : LM vr 535 547 ν G1 G1 := hW.farR hV
  refine Ev.z9 (cv_V (d := d + 39) [.inl (.int (xs (i + 1)))] hV1 v_13 rfl lk_ProphecyShopLaw_301 (w_R_advance (d + 33) hV1 e2) rfl rfl d_law_2451 (aft_rw (fun G2 hG2 => ?_)))
  obtain ⟨hI2, hC2⟩ := hI0.step hn hW q1 q2 hG2 e4 e5 e6
  exact law_tailI ta_2454 hI2 hC2 rfl q3 hk
theorem ta_2510 : TailI 2510 210 := ⟨d_law_2510, d_law_2512, d_law_2513, d_law_2516, d_law_2518, d_law_2523, d_law_2525, d_law_2528, d_law_2529, d_law_2530, d_law_2531, d_law_2533, d_law_2534, d_law_2535, d_law_2540, by decide⟩
theorem C_48 (hs : g.2.2.2.2.2 90 = some (true, 0, L, fun q => .inl (.int (xs q)))) (hL : L ≤ 3584) (hi : i + 7 ≤ L) (hn : n < 512) (hS : SG g) (hD : DG g) (hI : wLI μ ν l G nx n) (hk : wKN g (d + 40) i n mc ms Post) : Ev g (d + 40) m_law 2487 (wLS i) [] (G, nx) (60 + mc) (7000 + ms) Post := by
  have hI0 := hI
  obtain ⟨hC, hV, ⟨f0, h547⟩, hG, hO, hU, h548, hnx⟩ := hI
  have hb2 := wB_lt hn
  rcases T_wpM hG (xs (i + 1)) with ⟨e1, ν', e2, e7, e4, e6⟩ | ⟨q, s, tx, ν', e1, hp, e2, e7, e4, e5⟩
  · refine ev_aload_n (k0 := 1) rfl d_law_2487 ?_
    refine ev_arg hs hL 1 (by omega) rfl rfl rfl d_law_2488 d_law_2489 d_law_2491 d_law_2492 d_law_2493 ?_
    refine ev_aload_n (k0 := 3) rfl d_law_2494 ?_
    refine Ev.room (mc := 1 + mc) (ms := 6 + ms) (ev_invSH (d := d + 39) (vs := [.inr (0, 0), .inl (.int (xs (i + 1))), .inr (0, 547)]) (st := []) (fun h => by cases h) lh_302 (LW_writeProphecy (d + 38) (r := 0) hC h547 (Or.inr ⟨(xIOB, 1), List.mem_cons_self, rfl, e7⟩) (Mt.ro hC (M_wp0 (d + 35) hC e1))) rfl (Nat.le_of_ble_eq_true rfl) d_law_2495 (aft_wr (fun G1 n1 f hW q1 q2 q3 => ?_))) (by omega) (by omega)
    refine cw_istoreN 5 (ν' 13 0 7) rfl (wLS2 i (some (.inl (.int (ν' 13 0 7)))) none) d_law_2498 rfl rfl rfl ?_
    refine ev_aload_n (k0 := 2) rfl d_law_2500 ?_
    refine ev_arg hs hL 1 (by omega) rfl rfl rfl d_law_2501 d_law_2502 d_law_2504 d_law_2505 d_law_2506 ?_
    have hV1 : LM vr 535 547 ν G1 G1 := hW.farR hV
    refine Ev.z9 (cv_V (d := d + 39) [.inl (.int (xs (i + 1)))] hV1 v_13 rfl lk_ProphecyShopLaw_304 (w_R_writeProphecy (d + 37) hV1 e2) rfl rfl d_law_2507 (aft_rw (fun G2 hG2 => ?_)))
    obtain ⟨hI2, hC2⟩ := hI0.step hn hW q1 q2 hG2 e4 rfl e6
    exact law_tailI ta_2510 hI2 hC2 rfl q3 hk
  · refine ev_aload_n (k0 := 1) rfl d_law_2487 ?_
    refine ev_arg hs hL 1 (by omega) rfl rfl rfl d_law_2488 d_law_2489 d_law_2491 d_law_2492 d_law_2493 ?_
    refine ev_aload_n (k0 := 3) rfl d_law_2494 ?_
    refine Ev.room (mc := 40 + mc) (ms := 4500 + ms) (ev_invSH (d := d + 39) (vs := [.inr (0, 0), .inl (.int (xs (i + 1))), .inr (0, 547)]) (st := []) (fun h => by cases h) lh_302 (LW_wp (d + 38) h547 hC h548 (M_writeProphecy (d + 32) hD hC h548 (by omega) e1 hp)) rfl (Nat.le_of_ble_eq_true rfl) d_law_2495 ⟨fun v M1 hP => ?_, fun E M1 hP => by obtain ⟨z, -⟩ := hP; cases z⟩) (by omega) (by omega)
    obtain ⟨z, f, s2, a1, a2, a3, a4, a5, a6, a7, a8⟩ := hP
    obtain ⟨G1, n1⟩ := M1
    replace a2 : s2 + 2 = n1 := a2
    subst a2
    cases z
    refine cw_istoreN 5 0 rfl (wLS2 i (some (.inl (.int 0))) none) d_law_2498 rfl rfl rfl ?_
    refine ev_aload_n (k0 := 2) rfl d_law_2500 ?_
    refine ev_arg hs hL 1 (by omega) rfl rfl rfl d_law_2501 d_law_2502 d_law_2504 d_law_2505 d_law_2506 ?_
    have hV1 : LM vr 535 547 ν G1 G1 := ⟨fun K j hv => (a6 _ (okR.2 K j hv).1 (by have := (okR.2 K j hv).2; omega) (by have := (okR.2 K j hv).2; omega)).trans (hV.1 K j hv), fun _ _ => rfl⟩
    refine Ev.z9 (cv_V (d := d + 39) [.inl (.int (xs (i + 1)))] hV1 v_13 rfl lk_ProphecyShopLaw_304 (w_R_writeProphecy (d + 37) hV1 e2) rfl rfl d_law_2507 (aft_rw (fun G2 hG2 => ?_)))
    obtain ⟨hI2, hC2⟩ := hI0.write hn a1 (by omega) a4 a5 a7 hG2 e4 e5 (PTX_ok hp)
    exact law_tailI ta_2510 hI2 hC2 e7 (fun _ => a8) hk
theorem C_49 (hs : g.2.2.2.2.2 90 = some (true, 0, L, fun q => .inl (.int (xs q)))) (hL : L ≤ 3584) (hi : i + 7 ≤ L) (hn : n < 512) (hS : SG g) (hD : DG g) (hI : wLI μ ν l G nx n) (hk : wKN g (d + 40) i n mc ms Post) : Ev g (d + 40) m_law 2543 (wLS i) [] (G, nx) (60 + mc) (7000 + ms) Post := by
  have hI0 := hI
  obtain ⟨hC, hV, ⟨f0, h547⟩, hG, hO, hU, h548, hnx⟩ := hI
  have hb2 := wB_lt hn
  obtain ⟨tx, ν', hp, e2, e7, e4, e5⟩ := T_wqM hG
  refine ev_aload_n (k0 := 1) rfl d_law_2543 ?_
  refine cv_V (d := d + 39) [] hC v_12 rfl lk_ProphecyShopLaw_305 (M_writeQueue (d + 33) hD hC h548 (by omega) hp) rfl rfl d_law_2544 ⟨fun v M1 hP => ?_, fun E M1 hP => by obtain ⟨z, -⟩ := hP; cases z⟩
  obtain ⟨z, s2, a1, a2, a3, a4, a5, a6⟩ := hP
  obtain ⟨G1, n1⟩ := M1
  replace a2 : s2 + 2 = n1 := a2
  subst a2
  cases z
  refine ev_aload_n (k0 := 2) rfl d_law_2547 ?_
  have hV1 : LM vr 535 547 ν G1 G1 := ⟨fun K j hv => (a6 _ (okR.2 K j hv).1 (by have := (okR.2 K j hv).2; omega)).trans (hV.1 K j hv), fun _ _ => rfl⟩
  refine Ev.z9 (cv_V (d := d + 39) [] hV1 v_13 rfl lk_ProphecyShopLaw_308 (w_R_writeQueue (d + 37) hV1 e2) rfl rfl d_law_2548 (aft_rw (fun G2 hG2 => ?_)))
  obtain ⟨hI2, -⟩ := hI0.write hn a1 a3 a4 a5 ((a6 547 (by decide) (by omega)).trans h547) hG2 e4 e5 (QTX_ok hp)
  exact ev_icmp_eq (tgt := 2750) (by decide) d_law_2551 (fun _ => hk hI2) (fun z => absurd rfl z)
theorem C_50 (hs : g.2.2.2.2.2 90 = some (true, 0, L, fun q => .inl (.int (xs q)))) (hL : L ≤ 3584) (hi : i + 7 ≤ L) (hn : n < 512) (hS : SG g) (hD : DG g) (hI : wLI μ ν l G nx n) (hk : wKN g (d + 40) i n mc ms Post) : Ev g (d + 40) m_law 2556 (wLS i) [] (G, nx) (60 + mc) (7000 + ms) Post := by
  have hI0 := hI
  obtain ⟨hC, hV, ⟨f0, h547⟩, hG, hO, hU, h548, hnx⟩ := hI
  have hb2 := wB_lt hn
  obtain ⟨r, e2, hr⟩ := T_obM hG hO hU.1 (xs (i + 1))
  have e4 : GR μ (st3 ν 13 0 7 0) := by obtain ⟨s, E, P, C, O, n, w, t, dd, h, π, L, H⟩ := hG; exact (H.th (Or.inl rfl)).gr
  have e6 : outN ν (st3 ν 13 0 7 0) := outN.rf.st (by omega)
  refine Ev.room (mc := mc) (ms := ms) ?_ (by omega) (by omega)
  refine ev_aload_n (k0 := 1) rfl d_law_2556 ?_
  refine ev_arg hs hL 1 (by omega) rfl rfl rfl d_law_2557 d_law_2558 d_law_2560 d_law_2561 d_law_2562 ?_
  refine Ev.z9 (cv_V (d := d + 39) [.inl (.int (xs (i + 1)))] hC v_12 rfl lk_ProphecyShopLaw_309 (M_outputByte (d + 35) hS hC hU hr) rfl rfl d_law_2563 (aft_ro ?_))
  refine ev_aload_n (k0 := 2) rfl d_law_2566 ?_
  refine ev_arg hs hL 1 (by omega) rfl rfl rfl d_law_2567 d_law_2568 d_law_2570 d_law_2571 d_law_2572 ?_
  refine Ev.z9 (cv_V (d := d + 39) [.inl (.int (xs (i + 1)))] hV v_13 rfl lk_ProphecyShopLaw_312 (w_R_outputByte (d + 38) hV e2) rfl rfl d_law_2573 (aft_rw (fun G2 hG2 => ?_)))
  obtain ⟨hI2, -⟩ := hI0.step hn (hC.same h547) (Nat.le_refl _) (Nat.le_add_right _ _) hG2 e4 rfl e6
  exact ev_icmp_eq (tgt := 2750) (by decide) d_law_2576 (fun _ => hk hI2) (fun z => absurd rfl z)
theorem C_51 (hs : g.2.2.2.2.2 90 = some (true, 0, L, fun q => .inl (.int (xs q)))) (hL : L ≤ 3584) (hi : i + 7 ≤ L) (hn : n < 512) (hS : SG g) (hD : DG g) (hI : wLI μ ν l G nx n) (hk : wKN g (d + 40) i n mc ms Post) : Ev g (d + 40) m_law 2581 (wLS i) [] (G, nx) (60 + mc) (7000 + ms) Post := by
  have hI0 := hI
  obtain ⟨hC, hV, ⟨f0, h547⟩, hG, hO, hU, h548, hnx⟩ := hI
  have hb2 := wB_lt hn
  obtain ⟨r, ν', e1, e2, e4, e6⟩ := T_undoCount hG
  refine Ev.room (mc := mc) (ms := ms) ?_ (by omega) (by omega)
  refine ev_aload_n (k0 := 1) rfl d_law_2581 ?_
  refine Ev.z9 (cv_V (d := d + 39) [] hC v_12 rfl lk_ProphecyShopLaw_313 (w_P_undoCount (d + 39) hC e1) rfl rfl d_law_2582 (aft_ro ?_))
  refine ev_aload_n (k0 := 2) rfl d_law_2585 ?_
  refine Ev.z9 (cv_V (d := d + 39) [] hV v_13 rfl lk_ProphecyShopLaw_316 (w_R_undoCount (d + 39) hV e2) rfl rfl d_law_2586 (aft_rw (fun G2 hG2 => ?_)))
  obtain ⟨hI2, -⟩ := hI0.step hn (hC.same h547) (Nat.le_refl _) (Nat.le_add_right _ _) hG2 e4 rfl e6
  exact ev_icmp_eq (tgt := 2750) (by decide) d_law_2589 (fun _ => hk hI2) (fun z => absurd rfl z)
theorem ta_2605 : TailI 2605 115 := ⟨d_law_2605, d_law_2607, d_law_2608, d_law_2611, d_law_2613, d_law_2618, d_law_2620, d_law_2623, d_law_2624, d_law_2625, d_law_2626, d_law_2628, d_law_2629, d_law_2630, d_law_2635, by decide⟩
theorem C_52 (hs : g.2.2.2.2.2 90 = some (true, 0, L, fun q => .inl (.int (xs q)))) (hL : L ≤ 3584) (hi : i + 7 ≤ L) (hn : n < 512) (hS : SG g) (hD : DG g) (hI : wLI μ ν l G nx n) (hk : wKN g (d + 40) i n mc ms Post) : Ev g (d + 40) m_law 2594 (wLS i) [] (G, nx) (60 + mc) (7000 + ms) Post := by
  have hI0 := hI
  obtain ⟨hC, hV, ⟨f0, h547⟩, hG, hO, hU, h548, hnx⟩ := hI
  have hb2 := wB_lt hn
  obtain ⟨o, r, μ', ν', e1, e2, e3, e4, e5, e6⟩ := T_undo hG 
  refine ev_aload_n (k0 := 1) rfl d_law_2594 ?_
  refine ev_aload_n (k0 := 3) rfl d_law_2595 ?_
  refine Ev.room (mc := 1 + mc) (ms := 6 + ms) (ev_invSH (d := d + 39) (vs := [.inr (0, 0), .inr (0, 547)]) (st := []) (fun h => by cases h) lh_317 (LW_undo (d + 38) hC h547 e3 (w_P_undo (d + 35) hC e1)) rfl (Nat.le_of_ble_eq_true rfl) d_law_2596 (aft_wr (fun G1 n1 f hW q1 q2 q3 => ?_))) (by omega) (by omega)
  refine cw_istoreN 5 (ν' 13 0 7) rfl (wLS2 i (some (.inl (.int (ν' 13 0 7)))) none) d_law_2599 rfl rfl rfl ?_
  refine ev_aload_n (k0 := 2) rfl d_law_2601 ?_
  have hV1 : LM vr 535 547 ν G1 G1 := hW.farR hV
  refine Ev.z9 (cv_V (d := d + 39) [] hV1 v_13 rfl lk_ProphecyShopLaw_320 (w_R_undo (d + 38) hV1 e2) rfl rfl d_law_2602 (aft_rw (fun G2 hG2 => ?_)))
  obtain ⟨hI2, hC2⟩ := hI0.step hn hW q1 q2 hG2 e4 e5 e6
  exact law_tailI ta_2605 hI2 hC2 rfl q3 hk
theorem ta_2661 : TailI 2661 59 := ⟨d_law_2661, d_law_2663, d_law_2664, d_law_2667, d_law_2669, d_law_2674, d_law_2676, d_law_2679, d_law_2680, d_law_2681, d_law_2682, d_law_2684, d_law_2685, d_law_2686, d_law_2691, by decide⟩
theorem C_53 (hs : g.2.2.2.2.2 90 = some (true, 0, L, fun q => .inl (.int (xs q)))) (hL : L ≤ 3584) (hi : i + 7 ≤ L) (hn : n < 512) (hS : SG g) (hD : DG g) (hI : wLI μ ν l G nx n) (hk : wKN g (d + 40) i n mc ms Post) : Ev g (d + 40) m_law 2638 (wLS i) [] (G, nx) (60 + mc) (7000 + ms) Post := by
  have hI0 := hI
  obtain ⟨hC, hV, ⟨f0, h547⟩, hG, hO, hU, h548, hnx⟩ := hI
  have hb2 := wB_lt hn
  obtain ⟨o, r, μ', ν', e1, e2, e3, e4, e5, e6⟩ := T_save hG (xs (i + 1))
  refine ev_aload_n (k0 := 1) rfl d_law_2638 ?_
  refine ev_arg hs hL 1 (by omega) rfl rfl rfl d_law_2639 d_law_2640 d_law_2642 d_law_2643 d_law_2644 ?_
  refine ev_aload_n (k0 := 3) rfl d_law_2645 ?_
  refine Ev.room (mc := 1 + mc) (ms := 6 + ms) (ev_invSH (d := d + 39) (vs := [.inr (0, 0), .inl (.int (xs (i + 1))), .inr (0, 547)]) (st := []) (fun h => by cases h) lh_321 (LW_save (d + 38) hC h547 e3 (w_P_save (d + 36) hC e1)) rfl (Nat.le_of_ble_eq_true rfl) d_law_2646 (aft_wr (fun G1 n1 f hW q1 q2 q3 => ?_))) (by omega) (by omega)
  refine cw_istoreN 5 (ν' 13 0 7) rfl (wLS2 i (some (.inl (.int (ν' 13 0 7)))) none) d_law_2649 rfl rfl rfl ?_
  refine ev_aload_n (k0 := 2) rfl d_law_2651 ?_
  refine ev_arg hs hL 1 (by omega) rfl rfl rfl d_law_2652 d_law_2653 d_law_2655 d_law_2656 d_law_2657 ?_
  have hV1 : LM vr 535 547 ν G1 G1 := hW.farR hV
  refine Ev.z9 (cv_V (d := d + 39) [.inl (.int (xs (i + 1)))] hV1 v_13 rfl lk_ProphecyShopLaw_323 (w_R_save (d + 38) hV1 e2) rfl rfl d_law_2658 (aft_rw (fun G2 hG2 => ?_)))
  obtain ⟨hI2, hC2⟩ := hI0.step hn hW q1 q2 hG2 e4 e5 e6
  exact law_tailI ta_2661 hI2 hC2 rfl q3 hk
theorem ta_2717 : TailI 2717 3 := ⟨d_law_2717, d_law_2719, d_law_2720, d_law_2723, d_law_2725, d_law_2730, d_law_2732, d_law_2735, d_law_2736, d_law_2737, d_law_2738, d_law_2740, d_law_2741, d_law_2742, d_law_2747, by decide⟩
theorem C_54 (hs : g.2.2.2.2.2 90 = some (true, 0, L, fun q => .inl (.int (xs q)))) (hL : L ≤ 3584) (hi : i + 7 ≤ L) (hn : n < 512) (hS : SG g) (hD : DG g) (hI : wLI μ ν l G nx n) (hk : wKN g (d + 40) i n mc ms Post) : Ev g (d + 40) m_law 2694 (wLS i) [] (G, nx) (60 + mc) (7000 + ms) Post := by
  have hI0 := hI
  obtain ⟨hC, hV, ⟨f0, h547⟩, hG, hO, hU, h548, hnx⟩ := hI
  have hb2 := wB_lt hn
  obtain ⟨o, r, μ', ν', e1, e2, e3, e4, e5, e6⟩ := T_restore hG (xs (i + 1))
  refine ev_aload_n (k0 := 1) rfl d_law_2694 ?_
  refine ev_arg hs hL 1 (by omega) rfl rfl rfl d_law_2695 d_law_2696 d_law_2698 d_law_2699 d_law_2700 ?_
  refine ev_aload_n (k0 := 3) rfl d_law_2701 ?_
  refine Ev.room (mc := 2 + mc) (ms := 12 + ms) (ev_invSH (d := d + 39) (vs := [.inr (0, 0), .inl (.int (xs (i + 1))), .inr (0, 547)]) (st := []) (fun h => by cases h) lh_324 (LW_restore (d + 38) hC h547 e3 (w_P_restore (d + 36) hC e1)) rfl (Nat.le_of_ble_eq_true rfl) d_law_2702 (aft_wr (fun G1 n1 f hW q1 q2 q3 => ?_))) (by omega) (by omega)
  refine cw_istoreN 5 (ν' 13 0 7) rfl (wLS2 i (some (.inl (.int (ν' 13 0 7)))) none) d_law_2705 rfl rfl rfl ?_
  refine ev_aload_n (k0 := 2) rfl d_law_2707 ?_
  refine ev_arg hs hL 1 (by omega) rfl rfl rfl d_law_2708 d_law_2709 d_law_2711 d_law_2712 d_law_2713 ?_
  have hV1 : LM vr 535 547 ν G1 G1 := hW.farR hV
  refine Ev.z9 (cv_V (d := d + 39) [.inl (.int (xs (i + 1)))] hV1 v_13 rfl lk_ProphecyShopLaw_326 (w_R_restore (d + 38) hV1 e2) rfl rfl d_law_2714 (aft_rw (fun G2 hG2 => ?_)))
  obtain ⟨hI2, hC2⟩ := hI0.step hn hW q1 q2 hG2 e4 e5 e6
  exact law_tailI ta_2717 hI2 hC2 rfl q3 hk
end Cases
