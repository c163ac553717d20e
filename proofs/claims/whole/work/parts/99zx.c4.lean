/-! cases of the law -/
theorem lw_9201 : Cond.methodLink RL 227 yL_first ∈ gw := gw_t6 35 rfl rfl
theorem lw_9202 : Cond.static yL_first ∈ gw := gw_t6 36 rfl rfl
theorem lw_9203 : Cond.codeWith yL_first cL_first 5 (some .int) [(0, 10, 13, 21), (0, 10, 17, 13)] ∈ gw := gw_t6 37 rfl rfl
theorem hdL_first : yL_first.cls ≠ "java/lang/invoke/MethodHandle" ∧ yL_first.cls ≠ "java/lang/invoke/VarHandle" ∧ (parseMethodDescriptor yL_first.desc).map (fun d => d.parameters.length) = some 4 := by decide +kernel
theorem lw_9204 : Cond.methodLink RL 229 yX12_first ∈ gw := gw_t8 145 rfl rfl
theorem lw_9205 : Cond.instanceMethod yX12_first ∈ gw := gw_t8 146 rfl rfl
theorem lw_9206 : Cond.selects RX12 yX12_first yX12_first ∈ gw := gw_t8 147 rfl rfl
theorem lw_9207 : Cond.code yX12_first cX12_first 5 (some .int) ∈ gw := gw_t8 148 rfl rfl
theorem hdX12_first : yX12_first.cls = RX12 ∧ yX12_first.cls ≠ "java/lang/invoke/MethodHandle" ∧ yX12_first.cls ≠ "java/lang/invoke/VarHandle" ∧ (parseMethodDescriptor yX12_first.desc).map (fun d => d.parameters.length) = some 2 := by decide +kernel
theorem lw_9208 : Cond.methodLink RL 230 yL_lag ∈ gw := gw_t6 45 rfl rfl
theorem lw_9209 : Cond.static yL_lag ∈ gw := gw_t6 46 rfl rfl
theorem lw_9210 : Cond.codeWith yL_lag cL_lag 4 (some .int) [(0, 9, 12, 21)] ∈ gw := gw_t6 47 rfl rfl
theorem hdL_lag : yL_lag.cls ≠ "java/lang/invoke/MethodHandle" ∧ yL_lag.cls ≠ "java/lang/invoke/VarHandle" ∧ (parseMethodDescriptor yL_lag.desc).map (fun d => d.parameters.length) = some 3 := by decide +kernel
theorem lw_9211 : Cond.methodLink RL 232 yX12_lag ∈ gw := gw_t8 165 rfl rfl
theorem lw_9212 : Cond.instanceMethod yX12_lag ∈ gw := gw_t8 166 rfl rfl
theorem lw_9213 : Cond.selects RX12 yX12_lag yX12_lag ∈ gw := gw_t8 167 rfl rfl
theorem lw_9214 : Cond.code yX12_lag cX12_lag 4 (some .int) ∈ gw := gw_t8 168 rfl rfl
theorem hdX12_lag : yX12_lag.cls = RX12 ∧ yX12_lag.cls ≠ "java/lang/invoke/MethodHandle" ∧ yX12_lag.cls ≠ "java/lang/invoke/VarHandle" ∧ (parseMethodDescriptor yX12_lag.desc).map (fun d => d.parameters.length) = some 1 := by decide +kernel
theorem lw_9215 : Cond.methodLink RL 233 yL_takes ∈ gw := gw_t6 57 rfl rfl
theorem lw_9216 : Cond.static yL_takes ∈ gw := gw_t6 58 rfl rfl
theorem lw_9217 : Cond.codeWith yL_takes cL_takes 4 (some .int) [(0, 9, 12, 21)] ∈ gw := gw_t6 59 rfl rfl
theorem hdL_takes : yL_takes.cls ≠ "java/lang/invoke/MethodHandle" ∧ yL_takes.cls ≠ "java/lang/invoke/VarHandle" ∧ (parseMethodDescriptor yL_takes.desc).map (fun d => d.parameters.length) = some 3 := by decide +kernel
theorem lw_9218 : Cond.methodLink RL 235 yX12_takes ∈ gw := gw_t8 141 rfl rfl
theorem lw_9219 : Cond.instanceMethod yX12_takes ∈ gw := gw_t8 142 rfl rfl
theorem lw_9220 : Cond.selects RX12 yX12_takes yX12_takes ∈ gw := gw_t8 143 rfl rfl
theorem lw_9221 : Cond.code yX12_takes cX12_takes 4 (some .int) ∈ gw := gw_t8 144 rfl rfl
theorem hdX12_takes : yX12_takes.cls = RX12 ∧ yX12_takes.cls ≠ "java/lang/invoke/MethodHandle" ∧ yX12_takes.cls ≠ "java/lang/invoke/VarHandle" ∧ (parseMethodDescriptor yX12_takes.desc).map (fun d => d.parameters.length) = some 1 := by decide +kernel
theorem lw_9222 : Cond.methodLink RL 236 yL_knot ∈ gw := gw_t6 64 rfl rfl
theorem lw_9223 : Cond.static yL_knot ∈ gw := gw_t6 65 rfl rfl
theorem lw_9224 : Cond.codeWith yL_knot cL_knot 5 (some .int) [(0, 10, 13, 21), (0, 10, 17, 13)] ∈ gw := gw_t6 66 rfl rfl
theorem hdL_knot : yL_knot.cls ≠ "java/lang/invoke/MethodHandle" ∧ yL_knot.cls ≠ "java/lang/invoke/VarHandle" ∧ (parseMethodDescriptor yL_knot.desc).map (fun d => d.parameters.length) = some 4 := by decide +kernel
theorem lw_9225 : Cond.methodLink RL 238 yX12_knot ∈ gw := gw_t8 169 rfl rfl
theorem lw_9226 : Cond.instanceMethod yX12_knot ∈ gw := gw_t8 170 rfl rfl
theorem lw_9227 : Cond.selects RX12 yX12_knot yX12_knot ∈ gw := gw_t8 171 rfl rfl
theorem lw_9228 : Cond.code yX12_knot cX12_knot 3 (some .int) ∈ gw := gw_t8 172 rfl rfl
theorem hdX12_knot : yX12_knot.cls = RX12 ∧ yX12_knot.cls ≠ "java/lang/invoke/MethodHandle" ∧ yX12_knot.cls ≠ "java/lang/invoke/VarHandle" ∧ (parseMethodDescriptor yX12_knot.desc).map (fun d => d.parameters.length) = some 2 := by decide +kernel
theorem lw_9229 : Cond.methodLink RL 239 yX11_ring ∈ gw := gw_t2 233 rfl rfl
theorem lw_9230 : Cond.instanceMethod yX11_ring ∈ gw := gw_t2 234 rfl rfl
theorem lw_9231 : Cond.selects RX11 yX11_ring yX11_ring ∈ gw := gw_t2 235 rfl rfl
theorem lw_9232 : Cond.code yX11_ring cX11_ring 1 (some .int) ∈ gw := gw_t2 236 rfl rfl
theorem hdX11_ring : yX11_ring.cls = RX11 ∧ yX11_ring.cls ≠ "java/lang/invoke/MethodHandle" ∧ yX11_ring.cls ≠ "java/lang/invoke/VarHandle" ∧ (parseMethodDescriptor yX11_ring.desc).map (fun d => d.parameters.length) = some 0 := by decide +kernel
theorem lw_9233 : Cond.methodLink RL 242 yX12_ring ∈ gw := gw_t8 173 rfl rfl
theorem lw_9234 : Cond.instanceMethod yX12_ring ∈ gw := gw_t8 174 rfl rfl
theorem lw_9235 : Cond.selects RX12 yX12_ring yX12_ring ∈ gw := gw_t8 175 rfl rfl
theorem lw_9236 : Cond.code yX12_ring cX12_ring 5 (some .int) ∈ gw := gw_t8 176 rfl rfl
theorem hdX12_ring : yX12_ring.cls = RX12 ∧ yX12_ring.cls ≠ "java/lang/invoke/MethodHandle" ∧ yX12_ring.cls ≠ "java/lang/invoke/VarHandle" ∧ (parseMethodDescriptor yX12_ring.desc).map (fun d => d.parameters.length) = some 0 := by decide +kernel
theorem lw_9237 : Cond.methodLink RL 243 yL_spared ∈ gw := gw_t6 71 rfl rfl
theorem lw_9238 : Cond.static yL_spared ∈ gw := gw_t6 72 rfl rfl
theorem lw_9239 : Cond.codeWith yL_spared cL_spared 4 (some .int) [(0, 9, 12, 21)] ∈ gw := gw_t6 73 rfl rfl
theorem hdL_spared : yL_spared.cls ≠ "java/lang/invoke/MethodHandle" ∧ yL_spared.cls ≠ "java/lang/invoke/VarHandle" ∧ (parseMethodDescriptor yL_spared.desc).map (fun d => d.parameters.length) = some 3 := by decide +kernel
theorem lw_9240 : Cond.methodLink RL 245 yX12_spared ∈ gw := gw_t8 181 rfl rfl
theorem lw_9241 : Cond.instanceMethod yX12_spared ∈ gw := gw_t8 182 rfl rfl
theorem lw_9242 : Cond.selects RX12 yX12_spared yX12_spared ∈ gw := gw_t8 183 rfl rfl
theorem lw_9243 : Cond.code yX12_spared cX12_spared 2 (some .int) ∈ gw := gw_t8 184 rfl rfl
theorem hdX12_spared : yX12_spared.cls = RX12 ∧ yX12_spared.cls ≠ "java/lang/invoke/MethodHandle" ∧ yX12_spared.cls ≠ "java/lang/invoke/VarHandle" ∧ (parseMethodDescriptor yX12_spared.desc).map (fun d => d.parameters.length) = some 1 := by decide +kernel
theorem lw_9244 : Cond.methodLink RL 246 yL_those ∈ gw := gw_t6 78 rfl rfl
theorem lw_9245 : Cond.static yL_those ∈ gw := gw_t6 79 rfl rfl
theorem lw_9246 : Cond.codeWith yL_those cL_those 5 (some .int) [(0, 10, 13, 21), (0, 10, 17, 23)] ∈ gw := gw_t6 80 rfl rfl
theorem hdL_those : yL_those.cls ≠ "java/lang/invoke/MethodHandle" ∧ yL_those.cls ≠ "java/lang/invoke/VarHandle" ∧ (parseMethodDescriptor yL_those.desc).map (fun d => d.parameters.length) = some 4 := by decide +kernel
theorem lw_9247 : Cond.methodLink RL 248 yX12_those ∈ gw := gw_t8 29 rfl rfl
theorem lw_9248 : Cond.instanceMethod yX12_those ∈ gw := gw_t8 30 rfl rfl
theorem lw_9249 : Cond.selects RX12 yX12_those yX12_those ∈ gw := gw_t8 31 rfl rfl
theorem lw_9250 : Cond.code yX12_those cX12_those 3 (some .int) ∈ gw := gw_t8 32 rfl rfl
theorem hdX12_those : yX12_those.cls = RX12 ∧ yX12_those.cls ≠ "java/lang/invoke/MethodHandle" ∧ yX12_those.cls ≠ "java/lang/invoke/VarHandle" ∧ (parseMethodDescriptor yX12_those.desc).map (fun d => d.parameters.length) = some 2 := by decide +kernel
theorem dl_1931 : decode code 1931 = .ok (.aload_n 1, 1) := by decide +kernel
theorem dl_1932 : decode code 1932 = .ok (.aload_n 0, 1) := by decide +kernel
theorem dl_1933 : decode code 1933 = .ok (.iload 4, 2) := by decide +kernel
theorem dl_1935 : decode code 1935 = .ok (.iconst 1, 1) := by decide +kernel
theorem dl_1936 : decode code 1936 = .ok (.iadd, 1) := by decide +kernel
theorem dl_1937 : decode code 1937 = .ok (.iaload, 1) := by decide +kernel
theorem dl_1938 : decode code 1938 = .ok (.aload_n 0, 1) := by decide +kernel
theorem dl_1939 : decode code 1939 = .ok (.iload 4, 2) := by decide +kernel
theorem dl_1941 : decode code 1941 = .ok (.iconst 2, 1) := by decide +kernel
theorem dl_1942 : decode code 1942 = .ok (.iadd, 1) := by decide +kernel
theorem dl_1943 : decode code 1943 = .ok (.iaload, 1) := by decide +kernel
theorem dl_1944 : decode code 1944 = .ok (.aload_n 3, 1) := by decide +kernel
theorem dl_1945 : decode code 1945 = .ok (.invokestatic 227, 3) := by decide +kernel
theorem dl_1948 : decode code 1948 = .ok (.istore 5, 2) := by decide +kernel
theorem dl_1950 : decode code 1950 = .ok (.aload_n 2, 1) := by decide +kernel
theorem dl_1951 : decode code 1951 = .ok (.aload_n 0, 1) := by decide +kernel
theorem dl_1952 : decode code 1952 = .ok (.iload 4, 2) := by decide +kernel
theorem dl_1954 : decode code 1954 = .ok (.iconst 1, 1) := by decide +kernel
theorem dl_1955 : decode code 1955 = .ok (.iadd, 1) := by decide +kernel
theorem dl_1956 : decode code 1956 = .ok (.iaload, 1) := by decide +kernel
theorem dl_1957 : decode code 1957 = .ok (.aload_n 0, 1) := by decide +kernel
theorem dl_1958 : decode code 1958 = .ok (.iload 4, 2) := by decide +kernel
theorem dl_1960 : decode code 1960 = .ok (.iconst 2, 1) := by decide +kernel
theorem dl_1961 : decode code 1961 = .ok (.iadd, 1) := by decide +kernel
theorem dl_1962 : decode code 1962 = .ok (.iaload, 1) := by decide +kernel
theorem dl_1963 : decode code 1963 = .ok (.invokevirtual 229, 3) := by decide +kernel
theorem dl_1966 : decode code 1966 = .ok (.istore 6, 2) := by decide +kernel
theorem dl_1968 : decode code 1968 = .ok (.aload_n 2, 1) := by decide +kernel
theorem dl_1969 : decode code 1969 = .ok (.invokevirtual 140, 3) := by decide +kernel
theorem dl_1972 : decode code 1972 = .ok (.iload 5, 2) := by decide +kernel
theorem dl_1974 : decode code 1974 = .ok (.if_icmp .eq 5, 3) := by decide +kernel
theorem dl_1979 : decode code 1979 = .ok (.iload 5, 2) := by decide +kernel
theorem dl_1981 : decode code 1981 = .ok (.ifCond .ne 15, 3) := by decide +kernel
theorem dl_1984 : decode code 1984 = .ok (.aload_n 3, 1) := by decide +kernel
theorem dl_1985 : decode code 1985 = .ok (.iconst 0, 1) := by decide +kernel
theorem dl_1986 : decode code 1986 = .ok (.laload, 1) := by decide +kernel
theorem dl_1987 : decode code 1987 = .ok (.iload 6, 2) := by decide +kernel
theorem dl_1989 : decode code 1989 = .ok (.i2l, 1) := by decide +kernel
theorem dl_1990 : decode code 1990 = .ok (.lcmp, 1) := by decide +kernel
theorem dl_1991 : decode code 1991 = .ok (.ifCond .eq 5, 3) := by decide +kernel
theorem dl_1996 : decode code 1996 = .ok (.goto 530, 3) := by decide +kernel
theorem dl_1999 : decode code 1999 = .ok (.aload_n 1, 1) := by decide +kernel
theorem dl_2000 : decode code 2000 = .ok (.aload_n 0, 1) := by decide +kernel
theorem dl_2001 : decode code 2001 = .ok (.iload 4, 2) := by decide +kernel
theorem dl_2003 : decode code 2003 = .ok (.iconst 1, 1) := by decide +kernel
theorem dl_2004 : decode code 2004 = .ok (.iadd, 1) := by decide +kernel
theorem dl_2005 : decode code 2005 = .ok (.iaload, 1) := by decide +kernel
theorem dl_2006 : decode code 2006 = .ok (.aload_n 3, 1) := by decide +kernel
theorem dl_2007 : decode code 2007 = .ok (.invokestatic 230, 3) := by decide +kernel
theorem dl_2010 : decode code 2010 = .ok (.istore 5, 2) := by decide +kernel
theorem dl_2012 : decode code 2012 = .ok (.aload_n 2, 1) := by decide +kernel
theorem dl_2013 : decode code 2013 = .ok (.aload_n 0, 1) := by decide +kernel
theorem dl_2014 : decode code 2014 = .ok (.iload 4, 2) := by decide +kernel
theorem dl_2016 : decode code 2016 = .ok (.iconst 1, 1) := by decide +kernel
theorem dl_2017 : decode code 2017 = .ok (.iadd, 1) := by decide +kernel
theorem dl_2018 : decode code 2018 = .ok (.iaload, 1) := by decide +kernel
theorem dl_2019 : decode code 2019 = .ok (.invokevirtual 232, 3) := by decide +kernel
theorem dl_2022 : decode code 2022 = .ok (.istore 6, 2) := by decide +kernel
theorem dl_2024 : decode code 2024 = .ok (.aload_n 2, 1) := by decide +kernel
theorem dl_2025 : decode code 2025 = .ok (.invokevirtual 140, 3) := by decide +kernel
theorem dl_2028 : decode code 2028 = .ok (.iload 5, 2) := by decide +kernel
theorem dl_2030 : decode code 2030 = .ok (.if_icmp .eq 5, 3) := by decide +kernel
theorem dl_2035 : decode code 2035 = .ok (.iload 5, 2) := by decide +kernel
theorem dl_2037 : decode code 2037 = .ok (.ifCond .ne 15, 3) := by decide +kernel
theorem dl_2040 : decode code 2040 = .ok (.aload_n 3, 1) := by decide +kernel
theorem dl_2041 : decode code 2041 = .ok (.iconst 0, 1) := by decide +kernel
theorem dl_2042 : decode code 2042 = .ok (.laload, 1) := by decide +kernel
theorem dl_2043 : decode code 2043 = .ok (.iload 6, 2) := by decide +kernel
theorem dl_2045 : decode code 2045 = .ok (.i2l, 1) := by decide +kernel
theorem dl_2046 : decode code 2046 = .ok (.lcmp, 1) := by decide +kernel
theorem dl_2047 : decode code 2047 = .ok (.ifCond .eq 5, 3) := by decide +kernel
theorem dl_2052 : decode code 2052 = .ok (.goto 474, 3) := by decide +kernel
theorem dl_2055 : decode code 2055 = .ok (.aload_n 1, 1) := by decide +kernel
theorem dl_2056 : decode code 2056 = .ok (.aload_n 0, 1) := by decide +kernel
theorem dl_2057 : decode code 2057 = .ok (.iload 4, 2) := by decide +kernel
theorem dl_2059 : decode code 2059 = .ok (.iconst 1, 1) := by decide +kernel
theorem dl_2060 : decode code 2060 = .ok (.iadd, 1) := by decide +kernel
theorem dl_2061 : decode code 2061 = .ok (.iaload, 1) := by decide +kernel
theorem dl_2062 : decode code 2062 = .ok (.aload_n 3, 1) := by decide +kernel
theorem dl_2063 : decode code 2063 = .ok (.invokestatic 233, 3) := by decide +kernel
theorem dl_2066 : decode code 2066 = .ok (.istore 5, 2) := by decide +kernel
theorem dl_2068 : decode code 2068 = .ok (.aload_n 2, 1) := by decide +kernel
theorem dl_2069 : decode code 2069 = .ok (.aload_n 0, 1) := by decide +kernel
theorem dl_2070 : decode code 2070 = .ok (.iload 4, 2) := by decide +kernel
theorem dl_2072 : decode code 2072 = .ok (.iconst 1, 1) := by decide +kernel
theorem dl_2073 : decode code 2073 = .ok (.iadd, 1) := by decide +kernel
theorem dl_2074 : decode code 2074 = .ok (.iaload, 1) := by decide +kernel
theorem dl_2075 : decode code 2075 = .ok (.invokevirtual 235, 3) := by decide +kernel
theorem dl_2078 : decode code 2078 = .ok (.istore 6, 2) := by decide +kernel
theorem dl_2080 : decode code 2080 = .ok (.aload_n 2, 1) := by decide +kernel
theorem dl_2081 : decode code 2081 = .ok (.invokevirtual 140, 3) := by decide +kernel
theorem dl_2084 : decode code 2084 = .ok (.iload 5, 2) := by decide +kernel
theorem dl_2086 : decode code 2086 = .ok (.if_icmp .eq 5, 3) := by decide +kernel
theorem dl_2091 : decode code 2091 = .ok (.iload 5, 2) := by decide +kernel
theorem dl_2093 : decode code 2093 = .ok (.ifCond .ne 15, 3) := by decide +kernel
theorem dl_2096 : decode code 2096 = .ok (.aload_n 3, 1) := by decide +kernel
theorem dl_2097 : decode code 2097 = .ok (.iconst 0, 1) := by decide +kernel
theorem dl_2098 : decode code 2098 = .ok (.laload, 1) := by decide +kernel
theorem dl_2099 : decode code 2099 = .ok (.iload 6, 2) := by decide +kernel
theorem dl_2101 : decode code 2101 = .ok (.i2l, 1) := by decide +kernel
theorem dl_2102 : decode code 2102 = .ok (.lcmp, 1) := by decide +kernel
theorem dl_2103 : decode code 2103 = .ok (.ifCond .eq 5, 3) := by decide +kernel
theorem dl_2108 : decode code 2108 = .ok (.goto 418, 3) := by decide +kernel
theorem dl_2111 : decode code 2111 = .ok (.aload_n 1, 1) := by decide +kernel
theorem dl_2112 : decode code 2112 = .ok (.aload_n 0, 1) := by decide +kernel
theorem dl_2113 : decode code 2113 = .ok (.iload 4, 2) := by decide +kernel
theorem dl_2115 : decode code 2115 = .ok (.iconst 1, 1) := by decide +kernel
theorem dl_2116 : decode code 2116 = .ok (.iadd, 1) := by decide +kernel
theorem dl_2117 : decode code 2117 = .ok (.iaload, 1) := by decide +kernel
theorem dl_2118 : decode code 2118 = .ok (.aload_n 0, 1) := by decide +kernel
theorem dl_2119 : decode code 2119 = .ok (.iload 4, 2) := by decide +kernel
theorem dl_2121 : decode code 2121 = .ok (.iconst 2, 1) := by decide +kernel
theorem dl_2122 : decode code 2122 = .ok (.iadd, 1) := by decide +kernel
theorem dl_2123 : decode code 2123 = .ok (.iaload, 1) := by decide +kernel
theorem dl_2124 : decode code 2124 = .ok (.aload_n 3, 1) := by decide +kernel
theorem dl_2125 : decode code 2125 = .ok (.invokestatic 236, 3) := by decide +kernel
theorem dl_2128 : decode code 2128 = .ok (.istore 5, 2) := by decide +kernel
theorem dl_2130 : decode code 2130 = .ok (.aload_n 2, 1) := by decide +kernel
theorem dl_2131 : decode code 2131 = .ok (.aload_n 0, 1) := by decide +kernel
theorem dl_2132 : decode code 2132 = .ok (.iload 4, 2) := by decide +kernel
theorem dl_2134 : decode code 2134 = .ok (.iconst 1, 1) := by decide +kernel
theorem dl_2135 : decode code 2135 = .ok (.iadd, 1) := by decide +kernel
theorem dl_2136 : decode code 2136 = .ok (.iaload, 1) := by decide +kernel
theorem dl_2137 : decode code 2137 = .ok (.aload_n 0, 1) := by decide +kernel
theorem dl_2138 : decode code 2138 = .ok (.iload 4, 2) := by decide +kernel
theorem dl_2140 : decode code 2140 = .ok (.iconst 2, 1) := by decide +kernel
theorem dl_2141 : decode code 2141 = .ok (.iadd, 1) := by decide +kernel
theorem dl_2142 : decode code 2142 = .ok (.iaload, 1) := by decide +kernel
theorem dl_2143 : decode code 2143 = .ok (.invokevirtual 238, 3) := by decide +kernel
theorem dl_2146 : decode code 2146 = .ok (.istore 6, 2) := by decide +kernel
theorem dl_2148 : decode code 2148 = .ok (.aload_n 2, 1) := by decide +kernel
theorem dl_2149 : decode code 2149 = .ok (.invokevirtual 140, 3) := by decide +kernel
theorem dl_2152 : decode code 2152 = .ok (.iload 5, 2) := by decide +kernel
theorem dl_2154 : decode code 2154 = .ok (.if_icmp .eq 5, 3) := by decide +kernel
theorem dl_2159 : decode code 2159 = .ok (.iload 5, 2) := by decide +kernel
theorem dl_2161 : decode code 2161 = .ok (.ifCond .ne 15, 3) := by decide +kernel
theorem dl_2164 : decode code 2164 = .ok (.aload_n 3, 1) := by decide +kernel
theorem dl_2165 : decode code 2165 = .ok (.iconst 0, 1) := by decide +kernel
theorem dl_2166 : decode code 2166 = .ok (.laload, 1) := by decide +kernel
theorem dl_2167 : decode code 2167 = .ok (.iload 6, 2) := by decide +kernel
theorem dl_2169 : decode code 2169 = .ok (.i2l, 1) := by decide +kernel
theorem dl_2170 : decode code 2170 = .ok (.lcmp, 1) := by decide +kernel
theorem dl_2171 : decode code 2171 = .ok (.ifCond .eq 5, 3) := by decide +kernel
theorem dl_2176 : decode code 2176 = .ok (.goto 350, 3) := by decide +kernel
theorem dl_2179 : decode code 2179 = .ok (.aload_n 1, 1) := by decide +kernel
theorem dl_2180 : decode code 2180 = .ok (.invokevirtual 239, 3) := by decide +kernel
theorem dl_2183 : decode code 2183 = .ok (.aload_n 2, 1) := by decide +kernel
theorem dl_2184 : decode code 2184 = .ok (.invokevirtual 242, 3) := by decide +kernel
theorem dl_2187 : decode code 2187 = .ok (.if_icmp .eq 339, 3) := by decide +kernel
theorem dl_2192 : decode code 2192 = .ok (.aload_n 1, 1) := by decide +kernel
theorem dl_2193 : decode code 2193 = .ok (.aload_n 0, 1) := by decide +kernel
theorem dl_2194 : decode code 2194 = .ok (.iload 4, 2) := by decide +kernel
theorem dl_2196 : decode code 2196 = .ok (.iconst 1, 1) := by decide +kernel
theorem dl_2197 : decode code 2197 = .ok (.iadd, 1) := by decide +kernel
theorem dl_2198 : decode code 2198 = .ok (.iaload, 1) := by decide +kernel
theorem dl_2199 : decode code 2199 = .ok (.aload_n 3, 1) := by decide +kernel
theorem dl_2200 : decode code 2200 = .ok (.invokestatic 243, 3) := by decide +kernel
theorem dl_2203 : decode code 2203 = .ok (.istore 5, 2) := by decide +kernel
theorem dl_2205 : decode code 2205 = .ok (.aload_n 2, 1) := by decide +kernel
theorem dl_2206 : decode code 2206 = .ok (.aload_n 0, 1) := by decide +kernel
theorem dl_2207 : decode code 2207 = .ok (.iload 4, 2) := by decide +kernel
theorem dl_2209 : decode code 2209 = .ok (.iconst 1, 1) := by decide +kernel
theorem dl_2210 : decode code 2210 = .ok (.iadd, 1) := by decide +kernel
theorem dl_2211 : decode code 2211 = .ok (.iaload, 1) := by decide +kernel
theorem dl_2212 : decode code 2212 = .ok (.invokevirtual 245, 3) := by decide +kernel
theorem dl_2215 : decode code 2215 = .ok (.istore 6, 2) := by decide +kernel
theorem dl_2217 : decode code 2217 = .ok (.aload_n 2, 1) := by decide +kernel
theorem dl_2218 : decode code 2218 = .ok (.invokevirtual 140, 3) := by decide +kernel
theorem dl_2221 : decode code 2221 = .ok (.iload 5, 2) := by decide +kernel
theorem dl_2223 : decode code 2223 = .ok (.if_icmp .eq 5, 3) := by decide +kernel
theorem dl_2228 : decode code 2228 = .ok (.iload 5, 2) := by decide +kernel
theorem dl_2230 : decode code 2230 = .ok (.ifCond .ne 15, 3) := by decide +kernel
theorem dl_2233 : decode code 2233 = .ok (.aload_n 3, 1) := by decide +kernel
theorem dl_2234 : decode code 2234 = .ok (.iconst 0, 1) := by decide +kernel
theorem dl_2235 : decode code 2235 = .ok (.laload, 1) := by decide +kernel
theorem dl_2236 : decode code 2236 = .ok (.iload 6, 2) := by decide +kernel
theorem dl_2238 : decode code 2238 = .ok (.i2l, 1) := by decide +kernel
theorem dl_2239 : decode code 2239 = .ok (.lcmp, 1) := by decide +kernel
theorem dl_2240 : decode code 2240 = .ok (.ifCond .eq 5, 3) := by decide +kernel
theorem dl_2245 : decode code 2245 = .ok (.goto 281, 3) := by decide +kernel
theorem dl_2248 : decode code 2248 = .ok (.aload_n 1, 1) := by decide +kernel
theorem dl_2249 : decode code 2249 = .ok (.aload_n 0, 1) := by decide +kernel
theorem dl_2250 : decode code 2250 = .ok (.iload 4, 2) := by decide +kernel
theorem dl_2252 : decode code 2252 = .ok (.iconst 1, 1) := by decide +kernel
theorem dl_2253 : decode code 2253 = .ok (.iadd, 1) := by decide +kernel
theorem dl_2254 : decode code 2254 = .ok (.iaload, 1) := by decide +kernel
theorem dl_2255 : decode code 2255 = .ok (.aload_n 0, 1) := by decide +kernel
theorem dl_2256 : decode code 2256 = .ok (.iload 4, 2) := by decide +kernel
theorem dl_2258 : decode code 2258 = .ok (.iconst 2, 1) := by decide +kernel
theorem dl_2259 : decode code 2259 = .ok (.iadd, 1) := by decide +kernel
theorem dl_2260 : decode code 2260 = .ok (.iaload, 1) := by decide +kernel
theorem dl_2261 : decode code 2261 = .ok (.aload_n 3, 1) := by decide +kernel
theorem dl_2262 : decode code 2262 = .ok (.invokestatic 246, 3) := by decide +kernel
theorem dl_2265 : decode code 2265 = .ok (.istore 5, 2) := by decide +kernel
theorem dl_2267 : decode code 2267 = .ok (.aload_n 2, 1) := by decide +kernel
theorem dl_2268 : decode code 2268 = .ok (.aload_n 0, 1) := by decide +kernel
theorem dl_2269 : decode code 2269 = .ok (.iload 4, 2) := by decide +kernel
theorem dl_2271 : decode code 2271 = .ok (.iconst 1, 1) := by decide +kernel
theorem dl_2272 : decode code 2272 = .ok (.iadd, 1) := by decide +kernel
theorem dl_2273 : decode code 2273 = .ok (.iaload, 1) := by decide +kernel
theorem dl_2274 : decode code 2274 = .ok (.aload_n 0, 1) := by decide +kernel
theorem dl_2275 : decode code 2275 = .ok (.iload 4, 2) := by decide +kernel
theorem dl_2277 : decode code 2277 = .ok (.iconst 2, 1) := by decide +kernel
theorem dl_2278 : decode code 2278 = .ok (.iadd, 1) := by decide +kernel
theorem dl_2279 : decode code 2279 = .ok (.iaload, 1) := by decide +kernel
theorem dl_2280 : decode code 2280 = .ok (.invokevirtual 248, 3) := by decide +kernel
theorem dl_2283 : decode code 2283 = .ok (.istore 6, 2) := by decide +kernel
theorem dl_2285 : decode code 2285 = .ok (.aload_n 2, 1) := by decide +kernel
theorem dl_2286 : decode code 2286 = .ok (.invokevirtual 140, 3) := by decide +kernel
theorem dl_2289 : decode code 2289 = .ok (.iload 5, 2) := by decide +kernel
theorem dl_2291 : decode code 2291 = .ok (.if_icmp .eq 5, 3) := by decide +kernel
theorem dl_2296 : decode code 2296 = .ok (.iload 5, 2) := by decide +kernel
theorem dl_2298 : decode code 2298 = .ok (.ifCond .ne 15, 3) := by decide +kernel
theorem dl_2301 : decode code 2301 = .ok (.aload_n 3, 1) := by decide +kernel
theorem dl_2302 : decode code 2302 = .ok (.iconst 0, 1) := by decide +kernel
theorem dl_2303 : decode code 2303 = .ok (.laload, 1) := by decide +kernel
theorem dl_2304 : decode code 2304 = .ok (.iload 6, 2) := by decide +kernel
theorem dl_2306 : decode code 2306 = .ok (.i2l, 1) := by decide +kernel
theorem dl_2307 : decode code 2307 = .ok (.lcmp, 1) := by decide +kernel
theorem dl_2308 : decode code 2308 = .ok (.ifCond .eq 5, 3) := by decide +kernel
theorem dl_2313 : decode code 2313 = .ok (.goto 213, 3) := by decide +kernel
section LX
variable {p : Program} {l : Launch} {e : Env} {s : State} {m : MethodId} {below : List Frame} {meth : Method} {c0 : Code} {D : va_G} {cI cB cL : ClassId} {ka kv : Nat → Nat} {fv : Value} {b L x o i c : Nat} {xs : Nat → Int32} {am : Nat → Nat}
theorem lc_first (LC : lawC l D cI cB cL ka kv fv p s m c0 meth b L xs) (hi : i + 5 < L) (hc : c < 512) (KE : lawAt l D cI cB cL p e s m below meth c0 b x o am i 2526 (c + 1)) : lawAt l D cI cB cL p e s m below meth c0 b x o am i 1931 c := by
  intro lay t μ f H locs ls hxx hI S hl
  subst hxx
  have LC' := LC
  obtain ⟨C, Kx, Np, hX, hbl, hst, hL⟩ := LC
  have hx := C.1
  have hb := C.2.1
  have hbA : ¬ (fun q => s.heap.size ≤ q) b := Nat.not_le.mpr hbl
  obtain ⟨r, μ', hm, mc, ms, g, g1, g2, g3, hop⟩ := op_first (l := l) (D := D) (cI := cI) (cB := cB) (cL := cL) (ka := ka) (kv := kv) (fv := fv) hst hI (by omega) (xs (i + 1)) (xs (i + 2))
  have hM := hop lay
  refine lv_aload_n hx hb dl_1931 rfl (lv_at hl 1 rfl) ?_
  refine g_arg (j := 1) hx hb hX hbl hbA S.2.2 hL (by omega) (lv_at hl 0 rfl) (lv_at hl 4 rfl) rfl dl_1932 dl_1933 dl_1935 dl_1936 dl_1937 ?_
  refine g_arg (j := 2) hx hb hX hbl hbA S.2.2 hL (by omega) (lv_at hl 0 rfl) (lv_at hl 4 rfl) rfl dl_1938 dl_1939 dl_1941 dl_1942 dl_1943 ?_
  refine lv_aload_n hx hb dl_1944 rfl (lv_at hl 3 rfl) ?_
  refine h_callSW (As := [.ref (lay.1 36), .int (xs (i + 1)), .int (xs (i + 2)), .ref o]) (na := 4) C Kx Np S (wl_first l D cI cB cL ka kv fv (lay.1 36) o f (xs (i + 1)) (xs (i + 2)) (lpX_obj cI cB lay t) hM (fun E X' h => by have h := h.1; simpa using h)) lw_9201 lw_9202 lth_6 lw_9203 hdL_first ⟨Nat.le_of_ble_eq_true rfl, Nat.le_of_ble_eq_true rfl⟩ rfl hl.1 ⟨(by show _ ≤ 601024; omega), (by show _ ≤ 7293034; omega)⟩ (Nat.le_of_ble_eq_true rfl) dl_1945 rfl (fun k X' H locs hRW S => ?_)
  obtain ⟨lay', t', g', rfl, h36, ht, hI', hth, hg⟩ := rW_key hRW kcD
  refine W.widen (k := 1000 + 4 * (c + 1) + tot t') (n := 150000 + 24 * (c + 1) + 2 * tot t') (by omega) (by omega) ?_
  have S := g_comm S
  refine lv_istore (lv' := [(5, .int k), (0, .ref b), (1, .ref (lay.1 36)), (2, .ref (am 0)), (3, .ref o), (4, .int (nI i))]) hx hb dl_1948 hl (by decide) rfl (fun ls hl => ?_)
  refine lv_aload_n hx hb dl_1950 rfl (lv_at hl 3 rfl) ?_
  refine g_arg (j := 1) hx hb hX hbl hbA S.2.2 hL (by omega) (lv_at hl 1 rfl) (lv_at hl 5 rfl) rfl dl_1951 dl_1952 dl_1954 dl_1955 dl_1956 ?_
  refine g_arg (j := 2) hx hb hX hbl hbA S.2.2 hL (by omega) (lv_at hl 1 rfl) (lv_at hl 5 rfl) rfl dl_1957 dl_1958 dl_1960 dl_1961 dl_1962 ?_
  refine h_callVi (As := [.int (xs (i + 1)), .int (xs (i + 2))]) (na := 2) C Kx S (wM_obj cI cB am μ) rfl ((ct_X12_first l D cI cB cL am (xs (i + 1)) (xs (i + 2)) μ hm).toH) lw_9204 lw_9205 lw_9206 mw_5 lw_9207 hdX12_first ⟨Nat.le_of_ble_eq_true rfl, Nat.le_of_ble_eq_true rfl⟩ rfl hl.1 ⟨(by show _ ≤ 601024; omega), (by show _ ≤ 7293034; omega)⟩ (Nat.le_of_ble_eq_true rfl) dl_1963 rfl (fun r2 X' H locs hRI S => ?_)
  obtain ⟨rfl, rfl⟩ := hRI
  exact law_tail LC' hc KE h36 hI' hth hg hl S dl_1966 dl_1968 dl_1969 dl_1972 dl_1974 dl_1979 dl_1981 dl_1984 dl_1985 dl_1986 dl_1987 dl_1989 dl_1990 dl_1991 dl_1996 (by decide)
theorem lc_lag (LC : lawC l D cI cB cL ka kv fv p s m c0 meth b L xs) (hi : i + 5 < L) (hc : c < 512) (KE : lawAt l D cI cB cL p e s m below meth c0 b x o am i 2526 (c + 1)) : lawAt l D cI cB cL p e s m below meth c0 b x o am i 1999 c := by
  intro lay t μ f H locs ls hxx hI S hl
  subst hxx
  have LC' := LC
  obtain ⟨C, Kx, Np, hX, hbl, hst, hL⟩ := LC
  have hx := C.1
  have hb := C.2.1
  have hbA : ¬ (fun q => s.heap.size ≤ q) b := Nat.not_le.mpr hbl
  obtain ⟨r, μ', hm, mc, ms, g, g1, g2, g3, hop⟩ := op_lag (l := l) (D := D) (cI := cI) (cB := cB) (cL := cL) (ka := ka) (kv := kv) (fv := fv) hst hI (xs (i + 1))
  have hM := hop lay
  refine lv_aload_n hx hb dl_1999 rfl (lv_at hl 1 rfl) ?_
  refine g_arg (j := 1) hx hb hX hbl hbA S.2.2 hL (by omega) (lv_at hl 0 rfl) (lv_at hl 4 rfl) rfl dl_2000 dl_2001 dl_2003 dl_2004 dl_2005 ?_
  refine lv_aload_n hx hb dl_2006 rfl (lv_at hl 3 rfl) ?_
  refine h_callSW (As := [.ref (lay.1 36), .int (xs (i + 1)), .ref o]) (na := 3) C Kx Np S (wl_lag l D cI cB cL ka kv fv (lay.1 36) o f (xs (i + 1)) (lpX_obj cI cB lay t) hM (fun E X' h => by have h := h.1; simpa using h)) lw_9208 lw_9209 lth_6 lw_9210 hdL_lag ⟨Nat.le_of_ble_eq_true rfl, Nat.le_of_ble_eq_true rfl⟩ rfl hl.1 ⟨(by show _ ≤ 601024; omega), (by show _ ≤ 7293034; omega)⟩ (Nat.le_of_ble_eq_true rfl) dl_2007 rfl (fun k X' H locs hRW S => ?_)
  obtain ⟨lay', t', g', rfl, h36, ht, hI', hth, hg⟩ := rW_key hRW kcA
  refine W.widen (k := 1000 + 4 * (c + 1) + tot t') (n := 150000 + 24 * (c + 1) + 2 * tot t') (by omega) (by omega) ?_
  have S := g_comm S
  refine lv_istore (lv' := [(5, .int k), (0, .ref b), (1, .ref (lay.1 36)), (2, .ref (am 0)), (3, .ref o), (4, .int (nI i))]) hx hb dl_2010 hl (by decide) rfl (fun ls hl => ?_)
  refine lv_aload_n hx hb dl_2012 rfl (lv_at hl 3 rfl) ?_
  refine g_arg (j := 1) hx hb hX hbl hbA S.2.2 hL (by omega) (lv_at hl 1 rfl) (lv_at hl 5 rfl) rfl dl_2013 dl_2014 dl_2016 dl_2017 dl_2018 ?_
  refine h_callVi (As := [.int (xs (i + 1))]) (na := 1) C Kx S (wM_obj cI cB am μ) rfl ((ct_X12_lag l D cI cB cL am (xs (i + 1)) μ hm).toH) lw_9211 lw_9212 lw_9213 mw_5 lw_9214 hdX12_lag ⟨Nat.le_of_ble_eq_true rfl, Nat.le_of_ble_eq_true rfl⟩ rfl hl.1 ⟨(by show _ ≤ 601024; omega), (by show _ ≤ 7293034; omega)⟩ (Nat.le_of_ble_eq_true rfl) dl_2019 rfl (fun r2 X' H locs hRI S => ?_)
  obtain ⟨rfl, rfl⟩ := hRI
  exact law_tail LC' hc KE h36 hI' hth hg hl S dl_2022 dl_2024 dl_2025 dl_2028 dl_2030 dl_2035 dl_2037 dl_2040 dl_2041 dl_2042 dl_2043 dl_2045 dl_2046 dl_2047 dl_2052 (by decide)
theorem lc_takes (LC : lawC l D cI cB cL ka kv fv p s m c0 meth b L xs) (hi : i + 5 < L) (hc : c < 512) (KE : lawAt l D cI cB cL p e s m below meth c0 b x o am i 2526 (c + 1)) : lawAt l D cI cB cL p e s m below meth c0 b x o am i 2055 c := by
  intro lay t μ f H locs ls hxx hI S hl
  subst hxx
  have LC' := LC
  obtain ⟨C, Kx, Np, hX, hbl, hst, hL⟩ := LC
  have hx := C.1
  have hb := C.2.1
  have hbA : ¬ (fun q => s.heap.size ≤ q) b := Nat.not_le.mpr hbl
  obtain ⟨r, μ', hm, mc, ms, g, g1, g2, g3, hop⟩ := op_takes (l := l) (D := D) (cI := cI) (cB := cB) (cL := cL) (ka := ka) (kv := kv) (fv := fv) hst hI (by omega) (xs (i + 1))
  have hM := hop lay
  refine lv_aload_n hx hb dl_2055 rfl (lv_at hl 1 rfl) ?_
  refine g_arg (j := 1) hx hb hX hbl hbA S.2.2 hL (by omega) (lv_at hl 0 rfl) (lv_at hl 4 rfl) rfl dl_2056 dl_2057 dl_2059 dl_2060 dl_2061 ?_
  refine lv_aload_n hx hb dl_2062 rfl (lv_at hl 3 rfl) ?_
  refine h_callSW (As := [.ref (lay.1 36), .int (xs (i + 1)), .ref o]) (na := 3) C Kx Np S (wl_takes l D cI cB cL ka kv fv (lay.1 36) o f (xs (i + 1)) (lpX_obj cI cB lay t) hM (fun E X' h => by have h := h.1; simpa using h)) lw_9215 lw_9216 lth_6 lw_9217 hdL_takes ⟨Nat.le_of_ble_eq_true rfl, Nat.le_of_ble_eq_true rfl⟩ rfl hl.1 ⟨(by show _ ≤ 601024; omega), (by show _ ≤ 7293034; omega)⟩ (Nat.le_of_ble_eq_true rfl) dl_2063 rfl (fun k X' H locs hRW S => ?_)
  obtain ⟨lay', t', g', rfl, h36, ht, hI', hth, hg⟩ := rW_key hRW kcA
  refine W.widen (k := 1000 + 4 * (c + 1) + tot t') (n := 150000 + 24 * (c + 1) + 2 * tot t') (by omega) (by omega) ?_
  have S := g_comm S
  refine lv_istore (lv' := [(5, .int k), (0, .ref b), (1, .ref (lay.1 36)), (2, .ref (am 0)), (3, .ref o), (4, .int (nI i))]) hx hb dl_2066 hl (by decide) rfl (fun ls hl => ?_)
  refine lv_aload_n hx hb dl_2068 rfl (lv_at hl 3 rfl) ?_
  refine g_arg (j := 1) hx hb hX hbl hbA S.2.2 hL (by omega) (lv_at hl 1 rfl) (lv_at hl 5 rfl) rfl dl_2069 dl_2070 dl_2072 dl_2073 dl_2074 ?_
  refine h_callVi (As := [.int (xs (i + 1))]) (na := 1) C Kx S (wM_obj cI cB am μ) rfl ((ct_X12_takes l D cI cB cL am (xs (i + 1)) μ hm).toH) lw_9218 lw_9219 lw_9220 mw_5 lw_9221 hdX12_takes ⟨Nat.le_of_ble_eq_true rfl, Nat.le_of_ble_eq_true rfl⟩ rfl hl.1 ⟨(by show _ ≤ 601024; omega), (by show _ ≤ 7293034; omega)⟩ (Nat.le_of_ble_eq_true rfl) dl_2075 rfl (fun r2 X' H locs hRI S => ?_)
  obtain ⟨rfl, rfl⟩ := hRI
  exact law_tail LC' hc KE h36 hI' hth hg hl S dl_2078 dl_2080 dl_2081 dl_2084 dl_2086 dl_2091 dl_2093 dl_2096 dl_2097 dl_2098 dl_2099 dl_2101 dl_2102 dl_2103 dl_2108 (by decide)
theorem lc_knot (LC : lawC l D cI cB cL ka kv fv p s m c0 meth b L xs) (hi : i + 5 < L) (hc : c < 512) (KE : lawAt l D cI cB cL p e s m below meth c0 b x o am i 2526 (c + 1)) : lawAt l D cI cB cL p e s m below meth c0 b x o am i 2111 c := by
  intro lay t μ f H locs ls hxx hI S hl
  subst hxx
  have LC' := LC
  obtain ⟨C, Kx, Np, hX, hbl, hst, hL⟩ := LC
  have hx := C.1
  have hb := C.2.1
  have hbA : ¬ (fun q => s.heap.size ≤ q) b := Nat.not_le.mpr hbl
  obtain ⟨r, μ', hm, mc, ms, g, g1, g2, g3, hop⟩ := op_knot (l := l) (D := D) (cI := cI) (cB := cB) (cL := cL) (ka := ka) (kv := kv) (fv := fv) hst hI (xs (i + 1)) (xs (i + 2))
  have hM := hop lay
  refine lv_aload_n hx hb dl_2111 rfl (lv_at hl 1 rfl) ?_
  refine g_arg (j := 1) hx hb hX hbl hbA S.2.2 hL (by omega) (lv_at hl 0 rfl) (lv_at hl 4 rfl) rfl dl_2112 dl_2113 dl_2115 dl_2116 dl_2117 ?_
  refine g_arg (j := 2) hx hb hX hbl hbA S.2.2 hL (by omega) (lv_at hl 0 rfl) (lv_at hl 4 rfl) rfl dl_2118 dl_2119 dl_2121 dl_2122 dl_2123 ?_
  refine lv_aload_n hx hb dl_2124 rfl (lv_at hl 3 rfl) ?_
  refine h_callSW (As := [.ref (lay.1 36), .int (xs (i + 1)), .int (xs (i + 2)), .ref o]) (na := 4) C Kx Np S (wl_knot l D cI cB cL ka kv fv (lay.1 36) o f (xs (i + 1)) (xs (i + 2)) (lpX_obj cI cB lay t) hM (fun E X' h => by have h := h.1; simpa using h)) lw_9222 lw_9223 lth_6 lw_9224 hdL_knot ⟨Nat.le_of_ble_eq_true rfl, Nat.le_of_ble_eq_true rfl⟩ rfl hl.1 ⟨(by show _ ≤ 601024; omega), (by show _ ≤ 7293034; omega)⟩ (Nat.le_of_ble_eq_true rfl) dl_2125 rfl (fun k X' H locs hRW S => ?_)
  obtain ⟨lay', t', g', rfl, h36, ht, hI', hth, hg⟩ := rW_key hRW kcD
  refine W.widen (k := 1000 + 4 * (c + 1) + tot t') (n := 150000 + 24 * (c + 1) + 2 * tot t') (by omega) (by omega) ?_
  have S := g_comm S
  refine lv_istore (lv' := [(5, .int k), (0, .ref b), (1, .ref (lay.1 36)), (2, .ref (am 0)), (3, .ref o), (4, .int (nI i))]) hx hb dl_2128 hl (by decide) rfl (fun ls hl => ?_)
  refine lv_aload_n hx hb dl_2130 rfl (lv_at hl 3 rfl) ?_
  refine g_arg (j := 1) hx hb hX hbl hbA S.2.2 hL (by omega) (lv_at hl 1 rfl) (lv_at hl 5 rfl) rfl dl_2131 dl_2132 dl_2134 dl_2135 dl_2136 ?_
  refine g_arg (j := 2) hx hb hX hbl hbA S.2.2 hL (by omega) (lv_at hl 1 rfl) (lv_at hl 5 rfl) rfl dl_2137 dl_2138 dl_2140 dl_2141 dl_2142 ?_
  refine h_callVi (As := [.int (xs (i + 1)), .int (xs (i + 2))]) (na := 2) C Kx S (wM_obj cI cB am μ) rfl ((ct_X12_knot l D cI cB cL am (xs (i + 1)) (xs (i + 2)) μ hm).toH) lw_9225 lw_9226 lw_9227 mw_5 lw_9228 hdX12_knot ⟨Nat.le_of_ble_eq_true rfl, Nat.le_of_ble_eq_true rfl⟩ rfl hl.1 ⟨(by show _ ≤ 601024; omega), (by show _ ≤ 7293034; omega)⟩ (Nat.le_of_ble_eq_true rfl) dl_2143 rfl (fun r2 X' H locs hRI S => ?_)
  obtain ⟨rfl, rfl⟩ := hRI
  exact law_tail LC' hc KE h36 hI' hth hg hl S dl_2146 dl_2148 dl_2149 dl_2152 dl_2154 dl_2159 dl_2161 dl_2164 dl_2165 dl_2166 dl_2167 dl_2169 dl_2170 dl_2171 dl_2176 (by decide)
theorem lc_ring (LC : lawC l D cI cB cL ka kv fv p s m c0 meth b L xs) (hi : i + 5 < L) (hc : c < 512) (KE : lawAt l D cI cB cL p e s m below meth c0 b x o am i 2526 (c + 1)) : lawAt l D cI cB cL p e s m below meth c0 b x o am i 2179 c := by
  intro lay t μ f H locs ls hxx hI S hl
  subst hxx
  have LC' := LC
  obtain ⟨C, Kx, Np, hX, hbl, hst, hL⟩ := LC
  have hx := C.1
  have hb := C.2.1
  have hbA : ¬ (fun q => s.heap.size ≤ q) b := Nat.not_le.mpr hbl
  obtain ⟨r, μ', hm, mc, ms, g, g1, g2, g3, hop⟩ := op_ring (l := l) (D := D) (cI := cI) (cB := cB) (cL := cL) (ka := ka) (kv := kv) (fv := fv) hst hI
  have hM := hop lay
  refine lv_aload_n hx hb dl_2179 rfl (lv_at hl 1 rfl) ?_
  refine g_callVi (As := []) (na := 0) C Kx (g_assoc S) (lpX_obj cI cB lay t) rfl hM lw_9229 lw_9230 lw_9231 mw_321 lw_9232 hdX11_ring ⟨Nat.le_of_ble_eq_true rfl, Nat.le_of_ble_eq_true rfl⟩ rfl hl.1 ⟨(by show _ ≤ 601024; omega), (by show _ ≤ 7293034; omega)⟩ (Nat.le_of_ble_eq_true rfl) dl_2180 rfl (fun E X' ce q9 H locs hRX _ _ _ _ => absurd hRX.1 List.not_mem_nil) (fun r1 X' H locs hRI S => ?_)
  obtain ⟨rfl, hth, lay', t', rfl, h36, ht, hI'⟩ := hRI
  refine W.widen (k := 1000 + 4 * (c + 1) + tot t') (n := 150000 + 24 * (c + 1) + 2 * tot t') (by omega) (by omega) ?_
  have S := g_comm (g_assoc' S)
  refine lv_aload_n hx hb dl_2183 rfl (lv_at hl 2 rfl) ?_
  refine h_callVi (As := []) (na := 0) C Kx S (wM_obj cI cB am μ) rfl ((ct_X12_ring l D cI cB cL am μ hm).toH) lw_9233 lw_9234 lw_9235 mw_5 lw_9236 hdX12_ring ⟨Nat.le_of_ble_eq_true rfl, Nat.le_of_ble_eq_true rfl⟩ rfl hl.1 ⟨(by show _ ≤ 601024; omega), (by show _ ≤ 7293034; omega)⟩ (Nat.le_of_ble_eq_true rfl) dl_2184 rfl (fun r2 X' H locs hRI S => ?_)
  obtain ⟨rfl, rfl⟩ := hRI
  have S := g_comm S
  refine lv_icmp_eq (tgt := 2526) hx hb dl_2187 (by decide) (fun _ => ?_) (fun h => absurd rfl h)
  exact KE lay' t' μ' f H locs ls h36 hI' S hl
theorem lc_spared (LC : lawC l D cI cB cL ka kv fv p s m c0 meth b L xs) (hi : i + 5 < L) (hc : c < 512) (KE : lawAt l D cI cB cL p e s m below meth c0 b x o am i 2526 (c + 1)) : lawAt l D cI cB cL p e s m below meth c0 b x o am i 2192 c := by
  intro lay t μ f H locs ls hxx hI S hl
  subst hxx
  have LC' := LC
  obtain ⟨C, Kx, Np, hX, hbl, hst, hL⟩ := LC
  have hx := C.1
  have hb := C.2.1
  have hbA : ¬ (fun q => s.heap.size ≤ q) b := Nat.not_le.mpr hbl
  obtain ⟨r, μ', hm, mc, ms, g, g1, g2, g3, hop⟩ := op_spared (l := l) (D := D) (cI := cI) (cB := cB) (cL := cL) (ka := ka) (kv := kv) (fv := fv) hst hI (xs (i + 1))
  have hM := hop lay
  refine lv_aload_n hx hb dl_2192 rfl (lv_at hl 1 rfl) ?_
  refine g_arg (j := 1) hx hb hX hbl hbA S.2.2 hL (by omega) (lv_at hl 0 rfl) (lv_at hl 4 rfl) rfl dl_2193 dl_2194 dl_2196 dl_2197 dl_2198 ?_
  refine lv_aload_n hx hb dl_2199 rfl (lv_at hl 3 rfl) ?_
  refine h_callSW (As := [.ref (lay.1 36), .int (xs (i + 1)), .ref o]) (na := 3) C Kx Np S (wl_spared l D cI cB cL ka kv fv (lay.1 36) o f (xs (i + 1)) (lpX_obj cI cB lay t) hM (fun E X' h => by have h := h.1; simpa using h)) lw_9237 lw_9238 lth_6 lw_9239 hdL_spared ⟨Nat.le_of_ble_eq_true rfl, Nat.le_of_ble_eq_true rfl⟩ rfl hl.1 ⟨(by show _ ≤ 601024; omega), (by show _ ≤ 7293034; omega)⟩ (Nat.le_of_ble_eq_true rfl) dl_2200 rfl (fun k X' H locs hRW S => ?_)
  obtain ⟨lay', t', g', rfl, h36, ht, hI', hth, hg⟩ := rW_key hRW kcA
  refine W.widen (k := 1000 + 4 * (c + 1) + tot t') (n := 150000 + 24 * (c + 1) + 2 * tot t') (by omega) (by omega) ?_
  have S := g_comm S
  refine lv_istore (lv' := [(5, .int k), (0, .ref b), (1, .ref (lay.1 36)), (2, .ref (am 0)), (3, .ref o), (4, .int (nI i))]) hx hb dl_2203 hl (by decide) rfl (fun ls hl => ?_)
  refine lv_aload_n hx hb dl_2205 rfl (lv_at hl 3 rfl) ?_
  refine g_arg (j := 1) hx hb hX hbl hbA S.2.2 hL (by omega) (lv_at hl 1 rfl) (lv_at hl 5 rfl) rfl dl_2206 dl_2207 dl_2209 dl_2210 dl_2211 ?_
  refine h_callVi (As := [.int (xs (i + 1))]) (na := 1) C Kx S (wM_obj cI cB am μ) rfl ((ct_X12_spared l D cI cB cL am (xs (i + 1)) μ hm).toH) lw_9240 lw_9241 lw_9242 mw_5 lw_9243 hdX12_spared ⟨Nat.le_of_ble_eq_true rfl, Nat.le_of_ble_eq_true rfl⟩ rfl hl.1 ⟨(by show _ ≤ 601024; omega), (by show _ ≤ 7293034; omega)⟩ (Nat.le_of_ble_eq_true rfl) dl_2212 rfl (fun r2 X' H locs hRI S => ?_)
  obtain ⟨rfl, rfl⟩ := hRI
  exact law_tail LC' hc KE h36 hI' hth hg hl S dl_2215 dl_2217 dl_2218 dl_2221 dl_2223 dl_2228 dl_2230 dl_2233 dl_2234 dl_2235 dl_2236 dl_2238 dl_2239 dl_2240 dl_2245 (by decide)
theorem lc_those (LC : lawC l D cI cB cL ka kv fv p s m c0 meth b L xs) (hi : i + 5 < L) (hc : c < 512) (KE : lawAt l D cI cB cL p e s m below meth c0 b x o am i 2526 (c + 1)) : lawAt l D cI cB cL p e s m below meth c0 b x o am i 2248 c := by
  intro lay t μ f H locs ls hxx hI S hl
  subst hxx
  have LC' := LC
  obtain ⟨C, Kx, Np, hX, hbl, hst, hL⟩ := LC
  have hx := C.1
  have hb := C.2.1
  have hbA : ¬ (fun q => s.heap.size ≤ q) b := Nat.not_le.mpr hbl
  obtain ⟨r, μ', hm, mc, ms, g, g1, g2, g3, hop⟩ := op_those (l := l) (D := D) (cI := cI) (cB := cB) (cL := cL) (ka := ka) (kv := kv) (fv := fv) hst hI (xs (i + 1)) (xs (i + 2))
  have hM := hop lay
  refine lv_aload_n hx hb dl_2248 rfl (lv_at hl 1 rfl) ?_
  refine g_arg (j := 1) hx hb hX hbl hbA S.2.2 hL (by omega) (lv_at hl 0 rfl) (lv_at hl 4 rfl) rfl dl_2249 dl_2250 dl_2252 dl_2253 dl_2254 ?_
  refine g_arg (j := 2) hx hb hX hbl hbA S.2.2 hL (by omega) (lv_at hl 0 rfl) (lv_at hl 4 rfl) rfl dl_2255 dl_2256 dl_2258 dl_2259 dl_2260 ?_
  refine lv_aload_n hx hb dl_2261 rfl (lv_at hl 3 rfl) ?_
  refine h_callSW (As := [.ref (lay.1 36), .int (xs (i + 1)), .int (xs (i + 2)), .ref o]) (na := 4) C Kx Np S (wl_those l D cI cB cL ka kv fv (lay.1 36) o f (xs (i + 1)) (xs (i + 2)) (lpX_obj cI cB lay t) hM (fun E X' h => by have h := h.1; simpa using h)) lw_9244 lw_9245 lth_6 lw_9246 hdL_those ⟨Nat.le_of_ble_eq_true rfl, Nat.le_of_ble_eq_true rfl⟩ rfl hl.1 ⟨(by show _ ≤ 601024; omega), (by show _ ≤ 7293034; omega)⟩ (Nat.le_of_ble_eq_true rfl) dl_2262 rfl (fun k X' H locs hRW S => ?_)
  obtain ⟨lay', t', g', rfl, h36, ht, hI', hth, hg⟩ := rW_key hRW kcB
  refine W.widen (k := 1000 + 4 * (c + 1) + tot t') (n := 150000 + 24 * (c + 1) + 2 * tot t') (by omega) (by omega) ?_
  have S := g_comm S
  refine lv_istore (lv' := [(5, .int k), (0, .ref b), (1, .ref (lay.1 36)), (2, .ref (am 0)), (3, .ref o), (4, .int (nI i))]) hx hb dl_2265 hl (by decide) rfl (fun ls hl => ?_)
  refine lv_aload_n hx hb dl_2267 rfl (lv_at hl 3 rfl) ?_
  refine g_arg (j := 1) hx hb hX hbl hbA S.2.2 hL (by omega) (lv_at hl 1 rfl) (lv_at hl 5 rfl) rfl dl_2268 dl_2269 dl_2271 dl_2272 dl_2273 ?_
  refine g_arg (j := 2) hx hb hX hbl hbA S.2.2 hL (by omega) (lv_at hl 1 rfl) (lv_at hl 5 rfl) rfl dl_2274 dl_2275 dl_2277 dl_2278 dl_2279 ?_
  refine h_callVi (As := [.int (xs (i + 1)), .int (xs (i + 2))]) (na := 2) C Kx S (wM_obj cI cB am μ) rfl ((ct_X12_those l D cI cB cL am (xs (i + 1)) (xs (i + 2)) μ hm).toH) lw_9247 lw_9248 lw_9249 mw_5 lw_9250 hdX12_those ⟨Nat.le_of_ble_eq_true rfl, Nat.le_of_ble_eq_true rfl⟩ rfl hl.1 ⟨(by show _ ≤ 601024; omega), (by show _ ≤ 7293034; omega)⟩ (Nat.le_of_ble_eq_true rfl) dl_2280 rfl (fun r2 X' H locs hRI S => ?_)
  obtain ⟨rfl, rfl⟩ := hRI
  exact law_tail LC' hc KE h36 hI' hth hg hl S dl_2283 dl_2285 dl_2286 dl_2289 dl_2291 dl_2296 dl_2298 dl_2301 dl_2302 dl_2303 dl_2304 dl_2306 dl_2307 dl_2308 dl_2313 (by decide)
end LX
