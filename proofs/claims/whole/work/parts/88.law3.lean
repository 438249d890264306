/-! The law's own instructions. -/
theorem d_law_1958 : decode code 1958 = .ok (.lcmp, 1) := by decide +kernel
theorem d_law_1959 : decode code 1959 = .ok (.ifCond .eq 5, 3) := by decide +kernel
theorem d_law_1962 : decode code 1962 = .ok (.iconst 0, 1) := by decide +kernel
theorem d_law_1963 : decode code 1963 = .ok (.ireturn, 1) := by decide +kernel
theorem d_law_1964 : decode code 1964 = .ok (.goto 786, 3) := by decide +kernel
theorem d_law_1967 : decode code 1967 = .ok (.aload_n 1, 1) := by decide +kernel
theorem d_law_1968 : decode code 1968 = .ok (.aload_n 0, 1) := by decide +kernel
theorem d_law_1969 : decode code 1969 = .ok (.iload 4, 2) := by decide +kernel
theorem d_law_1971 : decode code 1971 = .ok (.iconst 1, 1) := by decide +kernel
theorem d_law_1972 : decode code 1972 = .ok (.iadd, 1) := by decide +kernel
theorem d_law_1973 : decode code 1973 = .ok (.iaload, 1) := by decide +kernel
theorem d_law_1974 : decode code 1974 = .ok (.aload_n 0, 1) := by decide +kernel
theorem d_law_1975 : decode code 1975 = .ok (.iload 4, 2) := by decide +kernel
theorem d_law_1977 : decode code 1977 = .ok (.iconst 2, 1) := by decide +kernel
theorem d_law_1978 : decode code 1978 = .ok (.iadd, 1) := by decide +kernel
theorem d_law_1979 : decode code 1979 = .ok (.iaload, 1) := by decide +kernel
theorem d_law_1980 : decode code 1980 = .ok (.aload_n 0, 1) := by decide +kernel
theorem d_law_1981 : decode code 1981 = .ok (.iload 4, 2) := by decide +kernel
theorem d_law_1983 : decode code 1983 = .ok (.iconst 3, 1) := by decide +kernel
theorem d_law_1984 : decode code 1984 = .ok (.iadd, 1) := by decide +kernel
theorem d_law_1985 : decode code 1985 = .ok (.iaload, 1) := by decide +kernel
theorem d_law_1986 : decode code 1986 = .ok (.aload_n 0, 1) := by decide +kernel
theorem d_law_1987 : decode code 1987 = .ok (.iload 4, 2) := by decide +kernel
theorem d_law_1989 : decode code 1989 = .ok (.iconst 4, 1) := by decide +kernel
theorem d_law_1990 : decode code 1990 = .ok (.iadd, 1) := by decide +kernel
theorem d_law_1991 : decode code 1991 = .ok (.iaload, 1) := by decide +kernel
theorem d_law_1992 : decode code 1992 = .ok (.aload_n 0, 1) := by decide +kernel
theorem d_law_1993 : decode code 1993 = .ok (.iload 4, 2) := by decide +kernel
theorem d_law_1995 : decode code 1995 = .ok (.iconst 5, 1) := by decide +kernel
theorem d_law_1996 : decode code 1996 = .ok (.iadd, 1) := by decide +kernel
theorem d_law_1997 : decode code 1997 = .ok (.iaload, 1) := by decide +kernel
theorem d_law_1998 : decode code 1998 = .ok (.aload_n 0, 1) := by decide +kernel
theorem d_law_1999 : decode code 1999 = .ok (.iload 4, 2) := by decide +kernel
theorem d_law_2001 : decode code 2001 = .ok (.bipush 6, 2) := by decide +kernel
theorem d_law_2003 : decode code 2003 = .ok (.iadd, 1) := by decide +kernel
theorem d_law_2004 : decode code 2004 = .ok (.iaload, 1) := by decide +kernel
theorem d_law_2005 : decode code 2005 = .ok (.aload_n 3, 1) := by decide +kernel
theorem d_law_2006 : decode code 2006 = .ok (.invokestatic 283, 3) := by decide +kernel
theorem d_law_2009 : decode code 2009 = .ok (.istore 5, 2) := by decide +kernel
theorem d_law_2011 : decode code 2011 = .ok (.aload_n 2, 1) := by decide +kernel
theorem d_law_2012 : decode code 2012 = .ok (.aload_n 0, 1) := by decide +kernel
theorem d_law_2013 : decode code 2013 = .ok (.iload 4, 2) := by decide +kernel
theorem d_law_2015 : decode code 2015 = .ok (.iconst 1, 1) := by decide +kernel
theorem d_law_2016 : decode code 2016 = .ok (.iadd, 1) := by decide +kernel
theorem d_law_2017 : decode code 2017 = .ok (.iaload, 1) := by decide +kernel
theorem d_law_2018 : decode code 2018 = .ok (.aload_n 0, 1) := by decide +kernel
theorem d_law_2019 : decode code 2019 = .ok (.iload 4, 2) := by decide +kernel
theorem d_law_2021 : decode code 2021 = .ok (.iconst 2, 1) := by decide +kernel
theorem d_law_2022 : decode code 2022 = .ok (.iadd, 1) := by decide +kernel
theorem d_law_2023 : decode code 2023 = .ok (.iaload, 1) := by decide +kernel
theorem d_law_2024 : decode code 2024 = .ok (.aload_n 0, 1) := by decide +kernel
theorem d_law_2025 : decode code 2025 = .ok (.iload 4, 2) := by decide +kernel
theorem d_law_2027 : decode code 2027 = .ok (.iconst 3, 1) := by decide +kernel
theorem d_law_2028 : decode code 2028 = .ok (.iadd, 1) := by decide +kernel
theorem d_law_2029 : decode code 2029 = .ok (.iaload, 1) := by decide +kernel
theorem d_law_2030 : decode code 2030 = .ok (.aload_n 0, 1) := by decide +kernel
theorem d_law_2031 : decode code 2031 = .ok (.iload 4, 2) := by decide +kernel
theorem d_law_2033 : decode code 2033 = .ok (.iconst 4, 1) := by decide +kernel
theorem d_law_2034 : decode code 2034 = .ok (.iadd, 1) := by decide +kernel
theorem d_law_2035 : decode code 2035 = .ok (.iaload, 1) := by decide +kernel
theorem d_law_2036 : decode code 2036 = .ok (.aload_n 0, 1) := by decide +kernel
theorem d_law_2037 : decode code 2037 = .ok (.iload 4, 2) := by decide +kernel
theorem d_law_2039 : decode code 2039 = .ok (.iconst 5, 1) := by decide +kernel
theorem d_law_2040 : decode code 2040 = .ok (.iadd, 1) := by decide +kernel
theorem d_law_2041 : decode code 2041 = .ok (.iaload, 1) := by decide +kernel
theorem d_law_2042 : decode code 2042 = .ok (.aload_n 0, 1) := by decide +kernel
theorem d_law_2043 : decode code 2043 = .ok (.iload 4, 2) := by decide +kernel
theorem d_law_2045 : decode code 2045 = .ok (.bipush 6, 2) := by decide +kernel
theorem d_law_2047 : decode code 2047 = .ok (.iadd, 1) := by decide +kernel
theorem d_law_2048 : decode code 2048 = .ok (.iaload, 1) := by decide +kernel
theorem d_law_2049 : decode code 2049 = .ok (.invokevirtual 286, 3) := by decide +kernel
theorem d_law_2052 : decode code 2052 = .ok (.istore 6, 2) := by decide +kernel
theorem d_law_2054 : decode code 2054 = .ok (.aload_n 2, 1) := by decide +kernel
theorem d_law_2055 : decode code 2055 = .ok (.invokevirtual 133, 3) := by decide +kernel
theorem d_law_2058 : decode code 2058 = .ok (.iload 5, 2) := by decide +kernel
theorem d_law_2060 : decode code 2060 = .ok (.if_icmp .eq 5, 3) := by decide +kernel
theorem d_law_2063 : decode code 2063 = .ok (.iconst 0, 1) := by decide +kernel
theorem d_law_2064 : decode code 2064 = .ok (.ireturn, 1) := by decide +kernel
theorem d_law_2065 : decode code 2065 = .ok (.iload 5, 2) := by decide +kernel
theorem d_law_2067 : decode code 2067 = .ok (.ifCond .ne 15, 3) := by decide +kernel
theorem d_law_2070 : decode code 2070 = .ok (.aload_n 3, 1) := by decide +kernel
theorem d_law_2071 : decode code 2071 = .ok (.iconst 0, 1) := by decide +kernel
theorem d_law_2072 : decode code 2072 = .ok (.laload, 1) := by decide +kernel
theorem d_law_2073 : decode code 2073 = .ok (.iload 6, 2) := by decide +kernel
theorem d_law_2075 : decode code 2075 = .ok (.i2l, 1) := by decide +kernel
theorem d_law_2076 : decode code 2076 = .ok (.lcmp, 1) := by decide +kernel
theorem d_law_2077 : decode code 2077 = .ok (.ifCond .eq 5, 3) := by decide +kernel
theorem d_law_2080 : decode code 2080 = .ok (.iconst 0, 1) := by decide +kernel
theorem d_law_2081 : decode code 2081 = .ok (.ireturn, 1) := by decide +kernel
theorem d_law_2082 : decode code 2082 = .ok (.goto 668, 3) := by decide +kernel
theorem d_law_2085 : decode code 2085 = .ok (.aload_n 1, 1) := by decide +kernel
theorem d_law_2086 : decode code 2086 = .ok (.aload_n 0, 1) := by decide +kernel
theorem d_law_2087 : decode code 2087 = .ok (.iload 4, 2) := by decide +kernel
theorem d_law_2089 : decode code 2089 = .ok (.iconst 1, 1) := by decide +kernel
theorem d_law_2090 : decode code 2090 = .ok (.iadd, 1) := by decide +kernel
theorem d_law_2091 : decode code 2091 = .ok (.iaload, 1) := by decide +kernel
theorem d_law_2092 : decode code 2092 = .ok (.aload_n 0, 1) := by decide +kernel
theorem d_law_2093 : decode code 2093 = .ok (.iload 4, 2) := by decide +kernel
theorem d_law_2095 : decode code 2095 = .ok (.iconst 2, 1) := by decide +kernel
theorem d_law_2096 : decode code 2096 = .ok (.iadd, 1) := by decide +kernel
theorem d_law_2097 : decode code 2097 = .ok (.iaload, 1) := by decide +kernel
theorem d_law_2098 : decode code 2098 = .ok (.aload_n 0, 1) := by decide +kernel
theorem d_law_2099 : decode code 2099 = .ok (.iload 4, 2) := by decide +kernel
theorem d_law_2101 : decode code 2101 = .ok (.iconst 3, 1) := by decide +kernel
theorem d_law_2102 : decode code 2102 = .ok (.iadd, 1) := by decide +kernel
theorem d_law_2103 : decode code 2103 = .ok (.iaload, 1) := by decide +kernel
theorem d_law_2104 : decode code 2104 = .ok (.aload_n 0, 1) := by decide +kernel
theorem d_law_2105 : decode code 2105 = .ok (.iload 4, 2) := by decide +kernel
theorem d_law_2107 : decode code 2107 = .ok (.iconst 4, 1) := by decide +kernel
theorem d_law_2108 : decode code 2108 = .ok (.iadd, 1) := by decide +kernel
theorem d_law_2109 : decode code 2109 = .ok (.iaload, 1) := by decide +kernel
theorem d_law_2110 : decode code 2110 = .ok (.aload_n 0, 1) := by decide +kernel
theorem d_law_2111 : decode code 2111 = .ok (.iload 4, 2) := by decide +kernel
theorem d_law_2113 : decode code 2113 = .ok (.iconst 5, 1) := by decide +kernel
theorem d_law_2114 : decode code 2114 = .ok (.iadd, 1) := by decide +kernel
theorem d_law_2115 : decode code 2115 = .ok (.iaload, 1) := by decide +kernel
theorem d_law_2116 : decode code 2116 = .ok (.aload_n 3, 1) := by decide +kernel
theorem d_law_2117 : decode code 2117 = .ok (.invokestatic 287, 3) := by decide +kernel
theorem d_law_2120 : decode code 2120 = .ok (.istore 5, 2) := by decide +kernel
theorem d_law_2122 : decode code 2122 = .ok (.aload_n 2, 1) := by decide +kernel
theorem d_law_2123 : decode code 2123 = .ok (.aload_n 0, 1) := by decide +kernel
theorem d_law_2124 : decode code 2124 = .ok (.iload 4, 2) := by decide +kernel
theorem d_law_2126 : decode code 2126 = .ok (.iconst 1, 1) := by decide +kernel
theorem d_law_2127 : decode code 2127 = .ok (.iadd, 1) := by decide +kernel
theorem d_law_2128 : decode code 2128 = .ok (.iaload, 1) := by decide +kernel
theorem d_law_2129 : decode code 2129 = .ok (.aload_n 0, 1) := by decide +kernel
theorem d_law_2130 : decode code 2130 = .ok (.iload 4, 2) := by decide +kernel
theorem d_law_2132 : decode code 2132 = .ok (.iconst 2, 1) := by decide +kernel
theorem d_law_2133 : decode code 2133 = .ok (.iadd, 1) := by decide +kernel
theorem d_law_2134 : decode code 2134 = .ok (.iaload, 1) := by decide +kernel
theorem d_law_2135 : decode code 2135 = .ok (.aload_n 0, 1) := by decide +kernel
theorem d_law_2136 : decode code 2136 = .ok (.iload 4, 2) := by decide +kernel
theorem d_law_2138 : decode code 2138 = .ok (.iconst 3, 1) := by decide +kernel
theorem d_law_2139 : decode code 2139 = .ok (.iadd, 1) := by decide +kernel
theorem d_law_2140 : decode code 2140 = .ok (.iaload, 1) := by decide +kernel
theorem d_law_2141 : decode code 2141 = .ok (.aload_n 0, 1) := by decide +kernel
theorem d_law_2142 : decode code 2142 = .ok (.iload 4, 2) := by decide +kernel
theorem d_law_2144 : decode code 2144 = .ok (.iconst 4, 1) := by decide +kernel
theorem d_law_2145 : decode code 2145 = .ok (.iadd, 1) := by decide +kernel
theorem d_law_2146 : decode code 2146 = .ok (.iaload, 1) := by decide +kernel
theorem d_law_2147 : decode code 2147 = .ok (.aload_n 0, 1) := by decide +kernel
theorem d_law_2148 : decode code 2148 = .ok (.iload 4, 2) := by decide +kernel
theorem d_law_2150 : decode code 2150 = .ok (.iconst 5, 1) := by decide +kernel
theorem d_law_2151 : decode code 2151 = .ok (.iadd, 1) := by decide +kernel
theorem d_law_2152 : decode code 2152 = .ok (.iaload, 1) := by decide +kernel
theorem d_law_2153 : decode code 2153 = .ok (.invokevirtual 289, 3) := by decide +kernel
theorem d_law_2156 : decode code 2156 = .ok (.istore 6, 2) := by decide +kernel
theorem d_law_2158 : decode code 2158 = .ok (.aload_n 2, 1) := by decide +kernel
theorem d_law_2159 : decode code 2159 = .ok (.invokevirtual 133, 3) := by decide +kernel
theorem d_law_2162 : decode code 2162 = .ok (.iload 5, 2) := by decide +kernel
theorem d_law_2164 : decode code 2164 = .ok (.if_icmp .eq 5, 3) := by decide +kernel
theorem d_law_2167 : decode code 2167 = .ok (.iconst 0, 1) := by decide +kernel
theorem d_law_2168 : decode code 2168 = .ok (.ireturn, 1) := by decide +kernel
theorem d_law_2169 : decode code 2169 = .ok (.iload 5, 2) := by decide +kernel
theorem d_law_2171 : decode code 2171 = .ok (.ifCond .ne 15, 3) := by decide +kernel
theorem d_law_2174 : decode code 2174 = .ok (.aload_n 3, 1) := by decide +kernel
theorem d_law_2175 : decode code 2175 = .ok (.iconst 0, 1) := by decide +kernel
theorem d_law_2176 : decode code 2176 = .ok (.laload, 1) := by decide +kernel
theorem d_law_2177 : decode code 2177 = .ok (.iload 6, 2) := by decide +kernel
theorem d_law_2179 : decode code 2179 = .ok (.i2l, 1) := by decide +kernel
theorem d_law_2180 : decode code 2180 = .ok (.lcmp, 1) := by decide +kernel
theorem d_law_2181 : decode code 2181 = .ok (.ifCond .eq 5, 3) := by decide +kernel
theorem d_law_2184 : decode code 2184 = .ok (.iconst 0, 1) := by decide +kernel
theorem d_law_2185 : decode code 2185 = .ok (.ireturn, 1) := by decide +kernel
theorem d_law_2186 : decode code 2186 = .ok (.goto 564, 3) := by decide +kernel
theorem d_law_2189 : decode code 2189 = .ok (.aload_n 1, 1) := by decide +kernel
theorem d_law_2190 : decode code 2190 = .ok (.aload_n 0, 1) := by decide +kernel
theorem d_law_2191 : decode code 2191 = .ok (.iload 4, 2) := by decide +kernel
theorem d_law_2193 : decode code 2193 = .ok (.iconst 1, 1) := by decide +kernel
theorem d_law_2194 : decode code 2194 = .ok (.iadd, 1) := by decide +kernel
theorem d_law_2195 : decode code 2195 = .ok (.iaload, 1) := by decide +kernel
theorem d_law_2196 : decode code 2196 = .ok (.aload_n 0, 1) := by decide +kernel
theorem d_law_2197 : decode code 2197 = .ok (.iload 4, 2) := by decide +kernel
theorem d_law_2199 : decode code 2199 = .ok (.iconst 2, 1) := by decide +kernel
theorem d_law_2200 : decode code 2200 = .ok (.iadd, 1) := by decide +kernel
theorem d_law_2201 : decode code 2201 = .ok (.iaload, 1) := by decide +kernel
theorem d_law_2202 : decode code 2202 = .ok (.aload_n 0, 1) := by decide +kernel
theorem d_law_2203 : decode code 2203 = .ok (.iload 4, 2) := by decide +kernel
theorem d_law_2205 : decode code 2205 = .ok (.iconst 3, 1) := by decide +kernel
theorem d_law_2206 : decode code 2206 = .ok (.iadd, 1) := by decide +kernel
theorem d_law_2207 : decode code 2207 = .ok (.iaload, 1) := by decide +kernel
theorem d_law_2208 : decode code 2208 = .ok (.aload_n 0, 1) := by decide +kernel
theorem d_law_2209 : decode code 2209 = .ok (.iload 4, 2) := by decide +kernel
theorem d_law_2211 : decode code 2211 = .ok (.iconst 4, 1) := by decide +kernel
theorem d_law_2212 : decode code 2212 = .ok (.iadd, 1) := by decide +kernel
theorem d_law_2213 : decode code 2213 = .ok (.iaload, 1) := by decide +kernel
theorem d_law_2214 : decode code 2214 = .ok (.aload_n 0, 1) := by decide +kernel
theorem d_law_2215 : decode code 2215 = .ok (.iload 4, 2) := by decide +kernel
theorem d_law_2217 : decode code 2217 = .ok (.iconst 5, 1) := by decide +kernel
theorem d_law_2218 : decode code 2218 = .ok (.iadd, 1) := by decide +kernel
theorem d_law_2219 : decode code 2219 = .ok (.iaload, 1) := by decide +kernel
theorem d_law_2220 : decode code 2220 = .ok (.aload_n 0, 1) := by decide +kernel
theorem d_law_2221 : decode code 2221 = .ok (.iload 4, 2) := by decide +kernel
theorem d_law_2223 : decode code 2223 = .ok (.bipush 6, 2) := by decide +kernel
theorem d_law_2225 : decode code 2225 = .ok (.iadd, 1) := by decide +kernel
theorem d_law_2226 : decode code 2226 = .ok (.iaload, 1) := by decide +kernel
theorem d_law_2227 : decode code 2227 = .ok (.aload_n 3, 1) := by decide +kernel
theorem d_law_2228 : decode code 2228 = .ok (.invokestatic 290, 3) := by decide +kernel
theorem d_law_2231 : decode code 2231 = .ok (.istore 5, 2) := by decide +kernel
theorem d_law_2233 : decode code 2233 = .ok (.aload_n 2, 1) := by decide +kernel
theorem d_law_2234 : decode code 2234 = .ok (.aload_n 0, 1) := by decide +kernel
theorem d_law_2235 : decode code 2235 = .ok (.iload 4, 2) := by decide +kernel
theorem d_law_2237 : decode code 2237 = .ok (.iconst 1, 1) := by decide +kernel
theorem d_law_2238 : decode code 2238 = .ok (.iadd, 1) := by decide +kernel
theorem d_law_2239 : decode code 2239 = .ok (.iaload, 1) := by decide +kernel
theorem d_law_2240 : decode code 2240 = .ok (.aload_n 0, 1) := by decide +kernel
theorem d_law_2241 : decode code 2241 = .ok (.iload 4, 2) := by decide +kernel
theorem d_law_2243 : decode code 2243 = .ok (.iconst 2, 1) := by decide +kernel
theorem d_law_2244 : decode code 2244 = .ok (.iadd, 1) := by decide +kernel
theorem d_law_2245 : decode code 2245 = .ok (.iaload, 1) := by decide +kernel
theorem d_law_2246 : decode code 2246 = .ok (.aload_n 0, 1) := by decide +kernel
theorem d_law_2247 : decode code 2247 = .ok (.iload 4, 2) := by decide +kernel
theorem d_law_2249 : decode code 2249 = .ok (.iconst 3, 1) := by decide +kernel
theorem d_law_2250 : decode code 2250 = .ok (.iadd, 1) := by decide +kernel
theorem d_law_2251 : decode code 2251 = .ok (.iaload, 1) := by decide +kernel
theorem d_law_2252 : decode code 2252 = .ok (.aload_n 0, 1) := by decide +kernel
theorem d_law_2253 : decode code 2253 = .ok (.iload 4, 2) := by decide +kernel
theorem d_law_2255 : decode code 2255 = .ok (.iconst 4, 1) := by decide +kernel
theorem d_law_2256 : decode code 2256 = .ok (.iadd, 1) := by decide +kernel
theorem d_law_2257 : decode code 2257 = .ok (.iaload, 1) := by decide +kernel
theorem d_law_2258 : decode code 2258 = .ok (.aload_n 0, 1) := by decide +kernel
theorem d_law_2259 : decode code 2259 = .ok (.iload 4, 2) := by decide +kernel
theorem d_law_2261 : decode code 2261 = .ok (.iconst 5, 1) := by decide +kernel
theorem d_law_2262 : decode code 2262 = .ok (.iadd, 1) := by decide +kernel
theorem d_law_2263 : decode code 2263 = .ok (.iaload, 1) := by decide +kernel
theorem d_law_2264 : decode code 2264 = .ok (.aload_n 0, 1) := by decide +kernel
theorem d_law_2265 : decode code 2265 = .ok (.iload 4, 2) := by decide +kernel
theorem d_law_2267 : decode code 2267 = .ok (.bipush 6, 2) := by decide +kernel
theorem d_law_2269 : decode code 2269 = .ok (.iadd, 1) := by decide +kernel
theorem d_law_2270 : decode code 2270 = .ok (.iaload, 1) := by decide +kernel
theorem d_law_2271 : decode code 2271 = .ok (.invokevirtual 292, 3) := by decide +kernel
theorem d_law_2274 : decode code 2274 = .ok (.istore 6, 2) := by decide +kernel
theorem d_law_2276 : decode code 2276 = .ok (.aload_n 2, 1) := by decide +kernel
theorem d_law_2277 : decode code 2277 = .ok (.invokevirtual 133, 3) := by decide +kernel
theorem d_law_2280 : decode code 2280 = .ok (.iload 5, 2) := by decide +kernel
theorem d_law_2282 : decode code 2282 = .ok (.if_icmp .eq 5, 3) := by decide +kernel
theorem d_law_2285 : decode code 2285 = .ok (.iconst 0, 1) := by decide +kernel
theorem d_law_2286 : decode code 2286 = .ok (.ireturn, 1) := by decide +kernel
theorem d_law_2287 : decode code 2287 = .ok (.iload 5, 2) := by decide +kernel
theorem d_law_2289 : decode code 2289 = .ok (.ifCond .ne 15, 3) := by decide +kernel
theorem d_law_2292 : decode code 2292 = .ok (.aload_n 3, 1) := by decide +kernel
theorem d_law_2293 : decode code 2293 = .ok (.iconst 0, 1) := by decide +kernel
theorem d_law_2294 : decode code 2294 = .ok (.laload, 1) := by decide +kernel
theorem d_law_2295 : decode code 2295 = .ok (.iload 6, 2) := by decide +kernel
theorem d_law_2297 : decode code 2297 = .ok (.i2l, 1) := by decide +kernel
theorem d_law_2298 : decode code 2298 = .ok (.lcmp, 1) := by decide +kernel
theorem d_law_2299 : decode code 2299 = .ok (.ifCond .eq 5, 3) := by decide +kernel
theorem d_law_2302 : decode code 2302 = .ok (.iconst 0, 1) := by decide +kernel
theorem d_law_2303 : decode code 2303 = .ok (.ireturn, 1) := by decide +kernel
theorem d_law_2304 : decode code 2304 = .ok (.goto 446, 3) := by decide +kernel
theorem d_law_2307 : decode code 2307 = .ok (.aload_n 1, 1) := by decide +kernel
theorem d_law_2308 : decode code 2308 = .ok (.aload_n 0, 1) := by decide +kernel
theorem d_law_2309 : decode code 2309 = .ok (.iload 4, 2) := by decide +kernel
theorem d_law_2311 : decode code 2311 = .ok (.iconst 1, 1) := by decide +kernel
theorem d_law_2312 : decode code 2312 = .ok (.iadd, 1) := by decide +kernel
theorem d_law_2313 : decode code 2313 = .ok (.iaload, 1) := by decide +kernel
theorem d_law_2314 : decode code 2314 = .ok (.aload_n 0, 1) := by decide +kernel
theorem d_law_2315 : decode code 2315 = .ok (.iload 4, 2) := by decide +kernel
theorem d_law_2317 : decode code 2317 = .ok (.iconst 2, 1) := by decide +kernel
theorem d_law_2318 : decode code 2318 = .ok (.iadd, 1) := by decide +kernel
theorem d_law_2319 : decode code 2319 = .ok (.iaload, 1) := by decide +kernel
theorem d_law_2320 : decode code 2320 = .ok (.aload_n 3, 1) := by decide +kernel
theorem d_law_2321 : decode code 2321 = .ok (.invokestatic 293, 3) := by decide +kernel
theorem d_law_2324 : decode code 2324 = .ok (.istore 5, 2) := by decide +kernel
theorem d_law_2326 : decode code 2326 = .ok (.aload_n 2, 1) := by decide +kernel
theorem d_law_2327 : decode code 2327 = .ok (.aload_n 0, 1) := by decide +kernel
theorem d_law_2328 : decode code 2328 = .ok (.iload 4, 2) := by decide +kernel
theorem d_law_2330 : decode code 2330 = .ok (.iconst 1, 1) := by decide +kernel
theorem d_law_2331 : decode code 2331 = .ok (.iadd, 1) := by decide +kernel
theorem d_law_2332 : decode code 2332 = .ok (.iaload, 1) := by decide +kernel
theorem d_law_2333 : decode code 2333 = .ok (.aload_n 0, 1) := by decide +kernel
theorem d_law_2334 : decode code 2334 = .ok (.iload 4, 2) := by decide +kernel
theorem d_law_2336 : decode code 2336 = .ok (.iconst 2, 1) := by decide +kernel
theorem d_law_2337 : decode code 2337 = .ok (.iadd, 1) := by decide +kernel
theorem d_law_2338 : decode code 2338 = .ok (.iaload, 1) := by decide +kernel
theorem d_law_2339 : decode code 2339 = .ok (.invokevirtual 295, 3) := by decide +kernel
theorem d_law_2342 : decode code 2342 = .ok (.istore 6, 2) := by decide +kernel
theorem d_law_2344 : decode code 2344 = .ok (.aload_n 2, 1) := by decide +kernel
theorem d_law_2345 : decode code 2345 = .ok (.invokevirtual 133, 3) := by decide +kernel
theorem d_law_2348 : decode code 2348 = .ok (.iload 5, 2) := by decide +kernel
theorem d_law_2350 : decode code 2350 = .ok (.if_icmp .eq 5, 3) := by decide +kernel
theorem d_law_2353 : decode code 2353 = .ok (.iconst 0, 1) := by decide +kernel
theorem d_law_2354 : decode code 2354 = .ok (.ireturn, 1) := by decide +kernel
theorem d_law_2355 : decode code 2355 = .ok (.iload 5, 2) := by decide +kernel
theorem d_law_2357 : decode code 2357 = .ok (.ifCond .ne 15, 3) := by decide +kernel
theorem d_law_2360 : decode code 2360 = .ok (.aload_n 3, 1) := by decide +kernel
theorem d_law_2361 : decode code 2361 = .ok (.iconst 0, 1) := by decide +kernel
theorem d_law_2362 : decode code 2362 = .ok (.laload, 1) := by decide +kernel
theorem d_law_2363 : decode code 2363 = .ok (.iload 6, 2) := by decide +kernel
theorem d_law_2365 : decode code 2365 = .ok (.i2l, 1) := by decide +kernel
theorem d_law_2366 : decode code 2366 = .ok (.lcmp, 1) := by decide +kernel
theorem d_law_2367 : decode code 2367 = .ok (.ifCond .eq 5, 3) := by decide +kernel
theorem d_law_2370 : decode code 2370 = .ok (.iconst 0, 1) := by decide +kernel
theorem d_law_2371 : decode code 2371 = .ok (.ireturn, 1) := by decide +kernel
theorem d_law_2372 : decode code 2372 = .ok (.goto 378, 3) := by decide +kernel
theorem d_law_2375 : decode code 2375 = .ok (.aload_n 1, 1) := by decide +kernel
theorem d_law_2376 : decode code 2376 = .ok (.aload_n 0, 1) := by decide +kernel
theorem d_law_2377 : decode code 2377 = .ok (.iload 4, 2) := by decide +kernel
theorem d_law_2379 : decode code 2379 = .ok (.iconst 1, 1) := by decide +kernel
theorem d_law_2380 : decode code 2380 = .ok (.iadd, 1) := by decide +kernel
theorem d_law_2381 : decode code 2381 = .ok (.iaload, 1) := by decide +kernel
theorem d_law_2382 : decode code 2382 = .ok (.aload_n 3, 1) := by decide +kernel
theorem d_law_2383 : decode code 2383 = .ok (.invokestatic 296, 3) := by decide +kernel
theorem d_law_2386 : decode code 2386 = .ok (.istore 5, 2) := by decide +kernel
theorem d_law_2388 : decode code 2388 = .ok (.aload_n 2, 1) := by decide +kernel
theorem d_law_2389 : decode code 2389 = .ok (.aload_n 0, 1) := by decide +kernel
theorem d_law_2390 : decode code 2390 = .ok (.iload 4, 2) := by decide +kernel
theorem d_law_2392 : decode code 2392 = .ok (.iconst 1, 1) := by decide +kernel
theorem d_law_2393 : decode code 2393 = .ok (.iadd, 1) := by decide +kernel
theorem d_law_2394 : decode code 2394 = .ok (.iaload, 1) := by decide +kernel
theorem d_law_2395 : decode code 2395 = .ok (.invokevirtual 298, 3) := by decide +kernel
theorem d_law_2398 : decode code 2398 = .ok (.istore 6, 2) := by decide +kernel
theorem d_law_2400 : decode code 2400 = .ok (.aload_n 2, 1) := by decide +kernel
theorem d_law_2401 : decode code 2401 = .ok (.invokevirtual 133, 3) := by decide +kernel
theorem d_law_2404 : decode code 2404 = .ok (.iload 5, 2) := by decide +kernel
theorem d_law_2406 : decode code 2406 = .ok (.if_icmp .eq 5, 3) := by decide +kernel
theorem d_law_2409 : decode code 2409 = .ok (.iconst 0, 1) := by decide +kernel
theorem d_law_2410 : decode code 2410 = .ok (.ireturn, 1) := by decide +kernel
theorem d_law_2411 : decode code 2411 = .ok (.iload 5, 2) := by decide +kernel
theorem d_law_2413 : decode code 2413 = .ok (.ifCond .ne 15, 3) := by decide +kernel
theorem d_law_2416 : decode code 2416 = .ok (.aload_n 3, 1) := by decide +kernel
theorem d_law_2417 : decode code 2417 = .ok (.iconst 0, 1) := by decide +kernel
theorem d_law_2418 : decode code 2418 = .ok (.laload, 1) := by decide +kernel
theorem d_law_2419 : decode code 2419 = .ok (.iload 6, 2) := by decide +kernel
theorem d_law_2421 : decode code 2421 = .ok (.i2l, 1) := by decide +kernel
theorem d_law_2422 : decode code 2422 = .ok (.lcmp, 1) := by decide +kernel
theorem d_law_2423 : decode code 2423 = .ok (.ifCond .eq 5, 3) := by decide +kernel
theorem d_law_2426 : decode code 2426 = .ok (.iconst 0, 1) := by decide +kernel
theorem d_law_2427 : decode code 2427 = .ok (.ireturn, 1) := by decide +kernel
theorem d_law_2428 : decode code 2428 = .ok (.goto 322, 3) := by decide +kernel
theorem d_law_2431 : decode code 2431 = .ok (.aload_n 1, 1) := by decide +kernel
theorem d_law_2432 : decode code 2432 = .ok (.aload_n 0, 1) := by decide +kernel
theorem d_law_2433 : decode code 2433 = .ok (.iload 4, 2) := by decide +kernel
theorem d_law_2435 : decode code 2435 = .ok (.iconst 1, 1) := by decide +kernel
theorem d_law_2436 : decode code 2436 = .ok (.iadd, 1) := by decide +kernel
theorem d_law_2437 : decode code 2437 = .ok (.iaload, 1) := by decide +kernel
theorem d_law_2438 : decode code 2438 = .ok (.aload_n 3, 1) := by decide +kernel
theorem d_law_2439 : decode code 2439 = .ok (.invokestatic 299, 3) := by decide +kernel
theorem d_law_2442 : decode code 2442 = .ok (.istore 5, 2) := by decide +kernel
theorem d_law_2444 : decode code 2444 = .ok (.aload_n 2, 1) := by decide +kernel
theorem d_law_2445 : decode code 2445 = .ok (.aload_n 0, 1) := by decide +kernel
theorem d_law_2446 : decode code 2446 = .ok (.iload 4, 2) := by decide +kernel
theorem d_law_2448 : decode code 2448 = .ok (.iconst 1, 1) := by decide +kernel
theorem d_law_2449 : decode code 2449 = .ok (.iadd, 1) := by decide +kernel
theorem d_law_2450 : decode code 2450 = .ok (.iaload, 1) := by decide +kernel
theorem d_law_2451 : decode code 2451 = .ok (.invokevirtual 301, 3) := by decide +kernel
theorem d_law_2454 : decode code 2454 = .ok (.istore 6, 2) := by decide +kernel
theorem d_law_2456 : decode code 2456 = .ok (.aload_n 2, 1) := by decide +kernel
theorem d_law_2457 : decode code 2457 = .ok (.invokevirtual 133, 3) := by decide +kernel
theorem d_law_2460 : decode code 2460 = .ok (.iload 5, 2) := by decide +kernel
theorem d_law_2462 : decode code 2462 = .ok (.if_icmp .eq 5, 3) := by decide +kernel
theorem d_law_2465 : decode code 2465 = .ok (.iconst 0, 1) := by decide +kernel
theorem d_law_2466 : decode code 2466 = .ok (.ireturn, 1) := by decide +kernel
theorem d_law_2467 : decode code 2467 = .ok (.iload 5, 2) := by decide +kernel
theorem d_law_2469 : decode code 2469 = .ok (.ifCond .ne 15, 3) := by decide +kernel
theorem d_law_2472 : decode code 2472 = .ok (.aload_n 3, 1) := by decide +kernel
theorem d_law_2473 : decode code 2473 = .ok (.iconst 0, 1) := by decide +kernel
theorem d_law_2474 : decode code 2474 = .ok (.laload, 1) := by decide +kernel
theorem d_law_2475 : decode code 2475 = .ok (.iload 6, 2) := by decide +kernel
theorem d_law_2477 : decode code 2477 = .ok (.i2l, 1) := by decide +kernel
theorem d_law_2478 : decode code 2478 = .ok (.lcmp, 1) := by decide +kernel
theorem d_law_2479 : decode code 2479 = .ok (.ifCond .eq 5, 3) := by decide +kernel
theorem d_law_2482 : decode code 2482 = .ok (.iconst 0, 1) := by decide +kernel
theorem d_law_2483 : decode code 2483 = .ok (.ireturn, 1) := by decide +kernel
theorem d_law_2484 : decode code 2484 = .ok (.goto 266, 3) := by decide +kernel
theorem d_law_2487 : decode code 2487 = .ok (.aload_n 1, 1) := by decide +kernel
theorem d_law_2488 : decode code 2488 = .ok (.aload_n 0, 1) := by decide +kernel
theorem d_law_2489 : decode code 2489 = .ok (.iload 4, 2) := by decide +kernel
theorem d_law_2491 : decode code 2491 = .ok (.iconst 1, 1) := by decide +kernel
theorem d_law_2492 : decode code 2492 = .ok (.iadd, 1) := by decide +kernel
theorem d_law_2493 : decode code 2493 = .ok (.iaload, 1) := by decide +kernel
theorem d_law_2494 : decode code 2494 = .ok (.aload_n 3, 1) := by decide +kernel
theorem d_law_2495 : decode code 2495 = .ok (.invokestatic 302, 3) := by decide +kernel
theorem d_law_2498 : decode code 2498 = .ok (.istore 5, 2) := by decide +kernel
theorem d_law_2500 : decode code 2500 = .ok (.aload_n 2, 1) := by decide +kernel
theorem d_law_2501 : decode code 2501 = .ok (.aload_n 0, 1) := by decide +kernel
theorem d_law_2502 : decode code 2502 = .ok (.iload 4, 2) := by decide +kernel
theorem d_law_2504 : decode code 2504 = .ok (.iconst 1, 1) := by decide +kernel
theorem d_law_2505 : decode code 2505 = .ok (.iadd, 1) := by decide +kernel
theorem d_law_2506 : decode code 2506 = .ok (.iaload, 1) := by decide +kernel
theorem d_law_2507 : decode code 2507 = .ok (.invokevirtual 304, 3) := by decide +kernel
theorem d_law_2510 : decode code 2510 = .ok (.istore 6, 2) := by decide +kernel
theorem d_law_2512 : decode code 2512 = .ok (.aload_n 2, 1) := by decide +kernel
theorem d_law_2513 : decode code 2513 = .ok (.invokevirtual 133, 3) := by decide +kernel
theorem d_law_2516 : decode code 2516 = .ok (.iload 5, 2) := by decide +kernel
theorem d_law_2518 : decode code 2518 = .ok (.if_icmp .eq 5, 3) := by decide +kernel
theorem d_law_2521 : decode code 2521 = .ok (.iconst 0, 1) := by decide +kernel
theorem d_law_2522 : decode code 2522 = .ok (.ireturn, 1) := by decide +kernel
theorem d_law_2523 : decode code 2523 = .ok (.iload 5, 2) := by decide +kernel
theorem d_law_2525 : decode code 2525 = .ok (.ifCond .ne 15, 3) := by decide +kernel
theorem d_law_2528 : decode code 2528 = .ok (.aload_n 3, 1) := by decide +kernel
theorem d_law_2529 : decode code 2529 = .ok (.iconst 0, 1) := by decide +kernel
theorem d_law_2530 : decode code 2530 = .ok (.laload, 1) := by decide +kernel
theorem d_law_2531 : decode code 2531 = .ok (.iload 6, 2) := by decide +kernel
theorem d_law_2533 : decode code 2533 = .ok (.i2l, 1) := by decide +kernel
theorem d_law_2534 : decode code 2534 = .ok (.lcmp, 1) := by decide +kernel
theorem d_law_2535 : decode code 2535 = .ok (.ifCond .eq 5, 3) := by decide +kernel
theorem d_law_2538 : decode code 2538 = .ok (.iconst 0, 1) := by decide +kernel
theorem d_law_2539 : decode code 2539 = .ok (.ireturn, 1) := by decide +kernel
theorem d_law_2540 : decode code 2540 = .ok (.goto 210, 3) := by decide +kernel
theorem d_law_2543 : decode code 2543 = .ok (.aload_n 1, 1) := by decide +kernel
theorem d_law_2544 : decode code 2544 = .ok (.invokevirtual 305, 3) := by decide +kernel
theorem d_law_2547 : decode code 2547 = .ok (.aload_n 2, 1) := by decide +kernel
theorem d_law_2548 : decode code 2548 = .ok (.invokevirtual 308, 3) := by decide +kernel
theorem d_law_2551 : decode code 2551 = .ok (.if_icmp .eq 199, 3) := by decide +kernel
theorem d_law_2554 : decode code 2554 = .ok (.iconst 0, 1) := by decide +kernel
theorem d_law_2555 : decode code 2555 = .ok (.ireturn, 1) := by decide +kernel
theorem d_law_2556 : decode code 2556 = .ok (.aload_n 1, 1) := by decide +kernel
theorem d_law_2557 : decode code 2557 = .ok (.aload_n 0, 1) := by decide +kernel
theorem d_law_2558 : decode code 2558 = .ok (.iload 4, 2) := by decide +kernel
theorem d_law_2560 : decode code 2560 = .ok (.iconst 1, 1) := by decide +kernel
theorem d_law_2561 : decode code 2561 = .ok (.iadd, 1) := by decide +kernel
theorem d_law_2562 : decode code 2562 = .ok (.iaload, 1) := by decide +kernel
theorem d_law_2563 : decode code 2563 = .ok (.invokevirtual 309, 3) := by decide +kernel
theorem d_law_2566 : decode code 2566 = .ok (.aload_n 2, 1) := by decide +kernel
theorem d_law_2567 : decode code 2567 = .ok (.aload_n 0, 1) := by decide +kernel
theorem d_law_2568 : decode code 2568 = .ok (.iload 4, 2) := by decide +kernel
theorem d_law_2570 : decode code 2570 = .ok (.iconst 1, 1) := by decide +kernel
theorem d_law_2571 : decode code 2571 = .ok (.iadd, 1) := by decide +kernel
theorem d_law_2572 : decode code 2572 = .ok (.iaload, 1) := by decide +kernel
theorem d_law_2573 : decode code 2573 = .ok (.invokevirtual 312, 3) := by decide +kernel
theorem d_law_2576 : decode code 2576 = .ok (.if_icmp .eq 174, 3) := by decide +kernel
theorem d_law_2579 : decode code 2579 = .ok (.iconst 0, 1) := by decide +kernel
theorem d_law_2580 : decode code 2580 = .ok (.ireturn, 1) := by decide +kernel
theorem d_law_2581 : decode code 2581 = .ok (.aload_n 1, 1) := by decide +kernel
theorem d_law_2582 : decode code 2582 = .ok (.invokevirtual 313, 3) := by decide +kernel
theorem d_law_2585 : decode code 2585 = .ok (.aload_n 2, 1) := by decide +kernel
theorem d_law_2586 : decode code 2586 = .ok (.invokevirtual 316, 3) := by decide +kernel
theorem d_law_2589 : decode code 2589 = .ok (.if_icmp .eq 161, 3) := by decide +kernel
theorem d_law_2592 : decode code 2592 = .ok (.iconst 0, 1) := by decide +kernel
theorem d_law_2593 : decode code 2593 = .ok (.ireturn, 1) := by decide +kernel
theorem d_law_2594 : decode code 2594 = .ok (.aload_n 1, 1) := by decide +kernel
theorem d_law_2595 : decode code 2595 = .ok (.aload_n 3, 1) := by decide +kernel
theorem d_law_2596 : decode code 2596 = .ok (.invokestatic 317, 3) := by decide +kernel
theorem d_law_2599 : decode code 2599 = .ok (.istore 5, 2) := by decide +kernel
theorem d_law_2601 : decode code 2601 = .ok (.aload_n 2, 1) := by decide +kernel
theorem d_law_2602 : decode code 2602 = .ok (.invokevirtual 320, 3) := by decide +kernel
theorem d_law_2605 : decode code 2605 = .ok (.istore 6, 2) := by decide +kernel
theorem d_law_2607 : decode code 2607 = .ok (.aload_n 2, 1) := by decide +kernel
theorem d_law_2608 : decode code 2608 = .ok (.invokevirtual 133, 3) := by decide +kernel
theorem d_law_2611 : decode code 2611 = .ok (.iload 5, 2) := by decide +kernel
theorem d_law_2613 : decode code 2613 = .ok (.if_icmp .eq 5, 3) := by decide +kernel
theorem d_law_2616 : decode code 2616 = .ok (.iconst 0, 1) := by decide +kernel
theorem d_law_2617 : decode code 2617 = .ok (.ireturn, 1) := by decide +kernel
theorem d_law_2618 : decode code 2618 = .ok (.iload 5, 2) := by decide +kernel
theorem d_law_2620 : decode code 2620 = .ok (.ifCond .ne 15, 3) := by decide +kernel
theorem d_law_2623 : decode code 2623 = .ok (.aload_n 3, 1) := by decide +kernel
theorem d_law_2624 : decode code 2624 = .ok (.iconst 0, 1) := by decide +kernel
theorem d_law_2625 : decode code 2625 = .ok (.laload, 1) := by decide +kernel
theorem d_law_2626 : decode code 2626 = .ok (.iload 6, 2) := by decide +kernel
theorem d_law_2628 : decode code 2628 = .ok (.i2l, 1) := by decide +kernel
theorem d_law_2629 : decode code 2629 = .ok (.lcmp, 1) := by decide +kernel
theorem d_law_2630 : decode code 2630 = .ok (.ifCond .eq 5, 3) := by decide +kernel
theorem d_law_2633 : decode code 2633 = .ok (.iconst 0, 1) := by decide +kernel
theorem d_law_2634 : decode code 2634 = .ok (.ireturn, 1) := by decide +kernel
theorem d_law_2635 : decode code 2635 = .ok (.goto 115, 3) := by decide +kernel
theorem d_law_2638 : decode code 2638 = .ok (.aload_n 1, 1) := by decide +kernel
theorem d_law_2639 : decode code 2639 = .ok (.aload_n 0, 1) := by decide +kernel
theorem d_law_2640 : decode code 2640 = .ok (.iload 4, 2) := by decide +kernel
theorem d_law_2642 : decode code 2642 = .ok (.iconst 1, 1) := by decide +kernel
theorem d_law_2643 : decode code 2643 = .ok (.iadd, 1) := by decide +kernel
theorem d_law_2644 : decode code 2644 = .ok (.iaload, 1) := by decide +kernel
theorem d_law_2645 : decode code 2645 = .ok (.aload_n 3, 1) := by decide +kernel
theorem d_law_2646 : decode code 2646 = .ok (.invokestatic 321, 3) := by decide +kernel
theorem d_law_2649 : decode code 2649 = .ok (.istore 5, 2) := by decide +kernel
theorem d_law_2651 : decode code 2651 = .ok (.aload_n 2, 1) := by decide +kernel
theorem d_law_2652 : decode code 2652 = .ok (.aload_n 0, 1) := by decide +kernel
theorem d_law_2653 : decode code 2653 = .ok (.iload 4, 2) := by decide +kernel
theorem d_law_2655 : decode code 2655 = .ok (.iconst 1, 1) := by decide +kernel
theorem d_law_2656 : decode code 2656 = .ok (.iadd, 1) := by decide +kernel
theorem d_law_2657 : decode code 2657 = .ok (.iaload, 1) := by decide +kernel
theorem d_law_2658 : decode code 2658 = .ok (.invokevirtual 323, 3) := by decide +kernel
theorem d_law_2661 : decode code 2661 = .ok (.istore 6, 2) := by decide +kernel
theorem d_law_2663 : decode code 2663 = .ok (.aload_n 2, 1) := by decide +kernel
theorem d_law_2664 : decode code 2664 = .ok (.invokevirtual 133, 3) := by decide +kernel
theorem d_law_2667 : decode code 2667 = .ok (.iload 5, 2) := by decide +kernel
theorem d_law_2669 : decode code 2669 = .ok (.if_icmp .eq 5, 3) := by decide +kernel
theorem d_law_2672 : decode code 2672 = .ok (.iconst 0, 1) := by decide +kernel
theorem d_law_2673 : decode code 2673 = .ok (.ireturn, 1) := by decide +kernel
theorem d_law_2674 : decode code 2674 = .ok (.iload 5, 2) := by decide +kernel
theorem d_law_2676 : decode code 2676 = .ok (.ifCond .ne 15, 3) := by decide +kernel
theorem d_law_2679 : decode code 2679 = .ok (.aload_n 3, 1) := by decide +kernel
theorem d_law_2680 : decode code 2680 = .ok (.iconst 0, 1) := by decide +kernel
theorem d_law_2681 : decode code 2681 = .ok (.laload, 1) := by decide +kernel
theorem d_law_2682 : decode code 2682 = .ok (.iload 6, 2) := by decide +kernel
theorem d_law_2684 : decode code 2684 = .ok (.i2l, 1) := by decide +kernel
theorem d_law_2685 : decode code 2685 = .ok (.lcmp, 1) := by decide +kernel
theorem d_law_2686 : decode code 2686 = .ok (.ifCond .eq 5, 3) := by decide +kernel
theorem d_law_2689 : decode code 2689 = .ok (.iconst 0, 1) := by decide +kernel
theorem d_law_2690 : decode code 2690 = .ok (.ireturn, 1) := by decide +kernel
theorem d_law_2691 : decode code 2691 = .ok (.goto 59, 3) := by decide +kernel
theorem d_law_2694 : decode code 2694 = .ok (.aload_n 1, 1) := by decide +kernel
theorem d_law_2695 : decode code 2695 = .ok (.aload_n 0, 1) := by decide +kernel
theorem d_law_2696 : decode code 2696 = .ok (.iload 4, 2) := by decide +kernel
theorem d_law_2698 : decode code 2698 = .ok (.iconst 1, 1) := by decide +kernel
theorem d_law_2699 : decode code 2699 = .ok (.iadd, 1) := by decide +kernel
theorem d_law_2700 : decode code 2700 = .ok (.iaload, 1) := by decide +kernel
theorem d_law_2701 : decode code 2701 = .ok (.aload_n 3, 1) := by decide +kernel
theorem d_law_2702 : decode code 2702 = .ok (.invokestatic 324, 3) := by decide +kernel
theorem d_law_2705 : decode code 2705 = .ok (.istore 5, 2) := by decide +kernel
theorem d_law_2707 : decode code 2707 = .ok (.aload_n 2, 1) := by decide +kernel
theorem d_law_2708 : decode code 2708 = .ok (.aload_n 0, 1) := by decide +kernel
theorem d_law_2709 : decode code 2709 = .ok (.iload 4, 2) := by decide +kernel
theorem d_law_2711 : decode code 2711 = .ok (.iconst 1, 1) := by decide +kernel
theorem d_law_2712 : decode code 2712 = .ok (.iadd, 1) := by decide +kernel
theorem d_law_2713 : decode code 2713 = .ok (.iaload, 1) := by decide +kernel
theorem d_law_2714 : decode code 2714 = .ok (.invokevirtual 326, 3) := by decide +kernel
theorem d_law_2717 : decode code 2717 = .ok (.istore 6, 2) := by decide +kernel
theorem d_law_2719 : decode code 2719 = .ok (.aload_n 2, 1) := by decide +kernel
theorem d_law_2720 : decode code 2720 = .ok (.invokevirtual 133, 3) := by decide +kernel
theorem d_law_2723 : decode code 2723 = .ok (.iload 5, 2) := by decide +kernel
theorem d_law_2725 : decode code 2725 = .ok (.if_icmp .eq 5, 3) := by decide +kernel
theorem d_law_2728 : decode code 2728 = .ok (.iconst 0, 1) := by decide +kernel
theorem d_law_2729 : decode code 2729 = .ok (.ireturn, 1) := by decide +kernel
theorem d_law_2730 : decode code 2730 = .ok (.iload 5, 2) := by decide +kernel
theorem d_law_2732 : decode code 2732 = .ok (.ifCond .ne 15, 3) := by decide +kernel
theorem d_law_2735 : decode code 2735 = .ok (.aload_n 3, 1) := by decide +kernel
theorem d_law_2736 : decode code 2736 = .ok (.iconst 0, 1) := by decide +kernel
theorem d_law_2737 : decode code 2737 = .ok (.laload, 1) := by decide +kernel
theorem d_law_2738 : decode code 2738 = .ok (.iload 6, 2) := by decide +kernel
theorem d_law_2740 : decode code 2740 = .ok (.i2l, 1) := by decide +kernel
theorem d_law_2741 : decode code 2741 = .ok (.lcmp, 1) := by decide +kernel
theorem d_law_2742 : decode code 2742 = .ok (.ifCond .eq 5, 3) := by decide +kernel
theorem d_law_2745 : decode code 2745 = .ok (.iconst 0, 1) := by decide +kernel
theorem d_law_2746 : decode code 2746 = .ok (.ireturn, 1) := by decide +kernel
theorem d_law_2747 : decode code 2747 = .ok (.goto 3, 3) := by decide +kernel
theorem d_law_2750 : decode code 2750 = .ok (.iinc 4 7, 3) := by decide +kernel
theorem d_law_2753 : decode code 2753 = .ok (.goto (-2730), 3) := by decide +kernel
theorem d_law_2756 : decode code 2756 = .ok (.iconst 1, 1) := by decide +kernel
theorem d_law_2757 : decode code 2757 = .ok (.ireturn, 1) := by decide +kernel
