/-! what holds at the law's entry -/
def nfl : List Cond := flatC (Jvm.Cond.and given_1 narrow_1)
theorem tb_t1 {w : Cond} (i : Nat) (h : tables_1_1[i]? = some w) : w ∈ lw_tbl := List.mem_append_right _ (List.mem_append_left _ (List.mem_of_getElem? h))
theorem tb_t2 {w : Cond} (i : Nat) (h : tables_1_2[i]? = some w) : w ∈ lw_tbl := List.mem_append_right _ (List.mem_append_right _ (List.mem_append_left _ (List.mem_of_getElem? h)))
theorem tb_t3 {w : Cond} (i : Nat) (h : tables_1_3[i]? = some w) : w ∈ lw_tbl := List.mem_append_right _ (List.mem_append_right _ (List.mem_append_right _ (List.mem_append_left _ (List.mem_of_getElem? h))))
theorem tb_t4 {w : Cond} (i : Nat) (h : tables_1_4[i]? = some w) : w ∈ lw_tbl := List.mem_append_right _ (List.mem_append_right _ (List.mem_append_right _ (List.mem_append_right _ (List.mem_append_left _ (List.mem_of_getElem? h)))))
theorem tb_t5 {w : Cond} (i : Nat) (h : tables_1_5[i]? = some w) : w ∈ lw_tbl := List.mem_append_right _ (List.mem_append_right _ (List.mem_append_right _ (List.mem_append_right _ (List.mem_append_right _ (List.mem_append_left _ (List.mem_of_getElem? h))))))
theorem tb_t6 {w : Cond} (i : Nat) (h : tables_1_6[i]? = some w) : w ∈ lw_tbl := List.mem_append_right _ (List.mem_append_right _ (List.mem_append_right _ (List.mem_append_right _ (List.mem_append_right _ (List.mem_append_right _ (List.mem_append_left _ (List.mem_of_getElem? h)))))))
theorem tb_t7 {w : Cond} (i : Nat) (h : tables_1_7[i]? = some w) : w ∈ lw_tbl := List.mem_append_right _ (List.mem_append_right _ (List.mem_append_right _ (List.mem_append_right _ (List.mem_append_right _ (List.mem_append_right _ (List.mem_append_right _ (List.mem_append_left _ (List.mem_of_getElem? h))))))))
theorem tb_t8 {w : Cond} (i : Nat) (h : tables_1_8[i]? = some w) : w ∈ lw_tbl := List.mem_append_right _ (List.mem_append_right _ (List.mem_append_right _ (List.mem_append_right _ (List.mem_append_right _ (List.mem_append_right _ (List.mem_append_right _ (List.mem_append_right _ (List.mem_of_getElem? h))))))))
theorem ne_0 : Cond.exactly (Term.string RX9 44) "java/lang/String" ∈ nfl := List.mem_of_getElem? (i := 91) (by decide +kernel)
theorem ne_1 : Cond.exactly (Term.string RX9 54) "java/lang/String" ∈ nfl := List.mem_of_getElem? (i := 100) (by decide +kernel)
theorem ne_2 : Cond.exactly (Term.string RX9 59) "java/lang/String" ∈ nfl := List.mem_of_getElem? (i := 109) (by decide +kernel)
theorem ne_3 : Cond.exactly (Term.string RX9 65) "java/lang/String" ∈ nfl := List.mem_of_getElem? (i := 118) (by decide +kernel)
theorem ne_4 : Cond.exactly (Term.string RX9 75) "java/lang/String" ∈ nfl := List.mem_of_getElem? (i := 128) (by decide +kernel)
theorem ne_5 : Cond.exactly (Term.string RX9 79) "java/lang/String" ∈ nfl := List.mem_of_getElem? (i := 138) (by decide +kernel)
theorem ne_6 : Cond.exactly (Term.string RX9 124) "java/lang/String" ∈ nfl := List.mem_of_getElem? (i := 144) (by decide +kernel)
theorem ne_7 : Cond.exactly (Term.string RX9 126) "java/lang/String" ∈ nfl := List.mem_of_getElem? (i := 152) (by decide +kernel)
theorem ne_8 : Cond.exactly (Term.string RX11 70) "java/lang/String" ∈ nfl := List.mem_of_getElem? (i := 161) (by decide +kernel)
theorem ne_9 : Cond.exactly (Term.string RX11 80) "java/lang/String" ∈ nfl := List.mem_of_getElem? (i := 182) (by decide +kernel)
theorem ne_10 : Cond.exactly (Term.string RX11 392) "java/lang/String" ∈ nfl := List.mem_of_getElem? (i := 205) (by decide +kernel)
theorem ne_11 : Cond.exactly (Term.string RX11 121) "java/lang/String" ∈ nfl := List.mem_of_getElem? (i := 221) (by decide +kernel)
theorem ne_12 : Cond.exactly (Term.string RX11 394) "java/lang/String" ∈ nfl := List.mem_of_getElem? (i := 247) (by decide +kernel)
theorem ne_13 : Cond.exactly (Term.string RX11 396) "java/lang/String" ∈ nfl := List.mem_of_getElem? (i := 264) (by decide +kernel)
theorem ne_14 : Cond.exactly (Term.string RX11 157) "java/lang/String" ∈ nfl := List.mem_of_getElem? (i := 283) (by decide +kernel)
theorem ne_15 : Cond.exactly (Term.string RX11 400) "java/lang/String" ∈ nfl := List.mem_of_getElem? (i := 312) (by decide +kernel)
theorem ne_16 : Cond.exactly (Term.string RX11 204) "java/lang/String" ∈ nfl := List.mem_of_getElem? (i := 328) (by decide +kernel)
theorem ne_17 : Cond.exactly (Term.string RX11 208) "java/lang/String" ∈ nfl := List.mem_of_getElem? (i := 357) (by decide +kernel)
theorem ne_18 : Cond.exactly (Term.string RX11 217) "java/lang/String" ∈ nfl := List.mem_of_getElem? (i := 375) (by decide +kernel)
theorem ne_19 : Cond.exactly (Term.string RX11 230) "java/lang/String" ∈ nfl := List.mem_of_getElem? (i := 403) (by decide +kernel)
theorem ne_20 : Cond.exactly (Term.string RX11 242) "java/lang/String" ∈ nfl := List.mem_of_getElem? (i := 438) (by decide +kernel)
theorem ne_21 : Cond.exactly (Term.string RX11 244) "java/lang/String" ∈ nfl := List.mem_of_getElem? (i := 466) (by decide +kernel)
theorem ne_22 : Cond.exactly (Term.string RX11 253) "java/lang/String" ∈ nfl := List.mem_of_getElem? (i := 492) (by decide +kernel)
theorem ne_23 : Cond.exactly (Term.string RX11 258) "java/lang/String" ∈ nfl := List.mem_of_getElem? (i := 539) (by decide +kernel)
theorem ne_24 : Cond.exactly (Term.string RX11 398) "java/lang/String" ∈ nfl := List.mem_of_getElem? (i := 559) (by decide +kernel)
theorem ne_25 : Cond.exactly (Term.string RX11 343) "java/lang/String" ∈ nfl := List.mem_of_getElem? (i := 575) (by decide +kernel)
theorem ne_26 : Cond.exactly (Term.string RX11 357) "java/lang/String" ∈ nfl := List.mem_of_getElem? (i := 592) (by decide +kernel)
theorem nc_0 : Cond.eq (.field (Term.string RX9 44) "java/lang/String" "coder" "B") (.int 0) ∈ nfl := List.mem_of_getElem? (i := 92) (by decide +kernel)
theorem na_0 : Cond.arrayOf (.field (Term.string RX9 44) "java/lang/String" "value" "[B") .byte ∈ nfl := List.mem_of_getElem? (i := 93) (by decide +kernel)
theorem nl_0 : Cond.eq (.length (.field (Term.string RX9 44) "java/lang/String" "value" "[B")) (.int 5) ∈ nfl := List.mem_of_getElem? (i := 94) (by decide +kernel)
theorem nx_0_0 : Cond.eq (.elem (.field (Term.string RX9 44) "java/lang/String" "value" "[B") (.int 0)) (.int 110) ∈ nfl := List.mem_of_getElem? (i := 95) (by decide +kernel)
theorem nx_0_1 : Cond.eq (.elem (.field (Term.string RX9 44) "java/lang/String" "value" "[B") (.int 1)) (.int 111) ∈ nfl := List.mem_of_getElem? (i := 96) (by decide +kernel)
theorem nx_0_2 : Cond.eq (.elem (.field (Term.string RX9 44) "java/lang/String" "value" "[B") (.int 2)) (.int 100) ∈ nfl := List.mem_of_getElem? (i := 97) (by decide +kernel)
theorem nx_0_3 : Cond.eq (.elem (.field (Term.string RX9 44) "java/lang/String" "value" "[B") (.int 3)) (.int 101) ∈ nfl := List.mem_of_getElem? (i := 98) (by decide +kernel)
theorem nx_0_4 : Cond.eq (.elem (.field (Term.string RX9 44) "java/lang/String" "value" "[B") (.int 4)) (.int 115) ∈ nfl := List.mem_of_getElem? (i := 99) (by decide +kernel)
theorem nq_0 : Cond.eq (Term.string RX9 44) (Term.string RX12 147) ∈ nfl := List.mem_of_getElem? (i := 629) (by decide +kernel)
theorem nc_1 : Cond.eq (.field (Term.string RX9 54) "java/lang/String" "coder" "B") (.int 0) ∈ nfl := List.mem_of_getElem? (i := 101) (by decide +kernel)
theorem na_1 : Cond.arrayOf (.field (Term.string RX9 54) "java/lang/String" "value" "[B") .byte ∈ nfl := List.mem_of_getElem? (i := 102) (by decide +kernel)
theorem nl_1 : Cond.eq (.length (.field (Term.string RX9 54) "java/lang/String" "value" "[B")) (.int 5) ∈ nfl := List.mem_of_getElem? (i := 103) (by decide +kernel)
theorem nx_1_0 : Cond.eq (.elem (.field (Term.string RX9 54) "java/lang/String" "value" "[B") (.int 0)) (.int 103) ∈ nfl := List.mem_of_getElem? (i := 104) (by decide +kernel)
theorem nx_1_1 : Cond.eq (.elem (.field (Term.string RX9 54) "java/lang/String" "value" "[B") (.int 1)) (.int 114) ∈ nfl := List.mem_of_getElem? (i := 105) (by decide +kernel)
theorem nx_1_2 : Cond.eq (.elem (.field (Term.string RX9 54) "java/lang/String" "value" "[B") (.int 2)) (.int 111) ∈ nfl := List.mem_of_getElem? (i := 106) (by decide +kernel)
theorem nx_1_3 : Cond.eq (.elem (.field (Term.string RX9 54) "java/lang/String" "value" "[B") (.int 3)) (.int 117) ∈ nfl := List.mem_of_getElem? (i := 107) (by decide +kernel)
theorem nx_1_4 : Cond.eq (.elem (.field (Term.string RX9 54) "java/lang/String" "value" "[B") (.int 4)) (.int 112) ∈ nfl := List.mem_of_getElem? (i := 108) (by decide +kernel)
theorem nq_1 : Cond.eq (Term.string RX9 54) (Term.string RX12 151) ∈ nfl := List.mem_of_getElem? (i := 639) (by decide +kernel)
theorem nc_2 : Cond.eq (.field (Term.string RX9 59) "java/lang/String" "coder" "B") (.int 0) ∈ nfl := List.mem_of_getElem? (i := 110) (by decide +kernel)
theorem na_2 : Cond.arrayOf (.field (Term.string RX9 59) "java/lang/String" "value" "[B") .byte ∈ nfl := List.mem_of_getElem? (i := 111) (by decide +kernel)
theorem nl_2 : Cond.eq (.length (.field (Term.string RX9 59) "java/lang/String" "value" "[B")) (.int 5) ∈ nfl := List.mem_of_getElem? (i := 112) (by decide +kernel)
theorem nx_2_0 : Cond.eq (.elem (.field (Term.string RX9 59) "java/lang/String" "value" "[B") (.int 0)) (.int 100) ∈ nfl := List.mem_of_getElem? (i := 113) (by decide +kernel)
theorem nx_2_1 : Cond.eq (.elem (.field (Term.string RX9 59) "java/lang/String" "value" "[B") (.int 1)) (.int 101) ∈ nfl := List.mem_of_getElem? (i := 114) (by decide +kernel)
theorem nx_2_2 : Cond.eq (.elem (.field (Term.string RX9 59) "java/lang/String" "value" "[B") (.int 2)) (.int 108) ∈ nfl := List.mem_of_getElem? (i := 115) (by decide +kernel)
theorem nx_2_3 : Cond.eq (.elem (.field (Term.string RX9 59) "java/lang/String" "value" "[B") (.int 3)) (.int 97) ∈ nfl := List.mem_of_getElem? (i := 116) (by decide +kernel)
theorem nx_2_4 : Cond.eq (.elem (.field (Term.string RX9 59) "java/lang/String" "value" "[B") (.int 4)) (.int 121) ∈ nfl := List.mem_of_getElem? (i := 117) (by decide +kernel)
theorem nq_2 : Cond.eq (Term.string RX9 59) (Term.string RX12 156) ∈ nfl := List.mem_of_getElem? (i := 649) (by decide +kernel)
theorem nc_3 : Cond.eq (.field (Term.string RX9 65) "java/lang/String" "coder" "B") (.int 0) ∈ nfl := List.mem_of_getElem? (i := 119) (by decide +kernel)
theorem na_3 : Cond.arrayOf (.field (Term.string RX9 65) "java/lang/String" "value" "[B") .byte ∈ nfl := List.mem_of_getElem? (i := 120) (by decide +kernel)
theorem nl_3 : Cond.eq (.length (.field (Term.string RX9 65) "java/lang/String" "value" "[B")) (.int 6) ∈ nfl := List.mem_of_getElem? (i := 121) (by decide +kernel)
theorem nx_3_0 : Cond.eq (.elem (.field (Term.string RX9 65) "java/lang/String" "value" "[B") (.int 0)) (.int 106) ∈ nfl := List.mem_of_getElem? (i := 122) (by decide +kernel)
theorem nx_3_1 : Cond.eq (.elem (.field (Term.string RX9 65) "java/lang/String" "value" "[B") (.int 1)) (.int 105) ∈ nfl := List.mem_of_getElem? (i := 123) (by decide +kernel)
theorem nx_3_2 : Cond.eq (.elem (.field (Term.string RX9 65) "java/lang/String" "value" "[B") (.int 2)) (.int 116) ∈ nfl := List.mem_of_getElem? (i := 124) (by decide +kernel)
theorem nx_3_3 : Cond.eq (.elem (.field (Term.string RX9 65) "java/lang/String" "value" "[B") (.int 3)) (.int 116) ∈ nfl := List.mem_of_getElem? (i := 125) (by decide +kernel)
theorem nx_3_4 : Cond.eq (.elem (.field (Term.string RX9 65) "java/lang/String" "value" "[B") (.int 4)) (.int 101) ∈ nfl := List.mem_of_getElem? (i := 126) (by decide +kernel)
theorem nx_3_5 : Cond.eq (.elem (.field (Term.string RX9 65) "java/lang/String" "value" "[B") (.int 5)) (.int 114) ∈ nfl := List.mem_of_getElem? (i := 127) (by decide +kernel)
theorem nq_3 : Cond.eq (Term.string RX9 65) (Term.string RX12 161) ∈ nfl := List.mem_of_getElem? (i := 660) (by decide +kernel)
theorem nc_4 : Cond.eq (.field (Term.string RX9 75) "java/lang/String" "coder" "B") (.int 0) ∈ nfl := List.mem_of_getElem? (i := 129) (by decide +kernel)
theorem na_4 : Cond.arrayOf (.field (Term.string RX9 75) "java/lang/String" "value" "[B") .byte ∈ nfl := List.mem_of_getElem? (i := 130) (by decide +kernel)
theorem nl_4 : Cond.eq (.length (.field (Term.string RX9 75) "java/lang/String" "value" "[B")) (.int 6) ∈ nfl := List.mem_of_getElem? (i := 131) (by decide +kernel)
theorem nx_4_0 : Cond.eq (.elem (.field (Term.string RX9 75) "java/lang/String" "value" "[B") (.int 0)) (.int 110) ∈ nfl := List.mem_of_getElem? (i := 132) (by decide +kernel)
theorem nx_4_1 : Cond.eq (.elem (.field (Term.string RX9 75) "java/lang/String" "value" "[B") (.int 1)) (.int 111) ∈ nfl := List.mem_of_getElem? (i := 133) (by decide +kernel)
theorem nx_4_2 : Cond.eq (.elem (.field (Term.string RX9 75) "java/lang/String" "value" "[B") (.int 2)) (.int 116) ∈ nfl := List.mem_of_getElem? (i := 134) (by decide +kernel)
theorem nx_4_3 : Cond.eq (.elem (.field (Term.string RX9 75) "java/lang/String" "value" "[B") (.int 3)) (.int 105) ∈ nfl := List.mem_of_getElem? (i := 135) (by decide +kernel)
theorem nx_4_4 : Cond.eq (.elem (.field (Term.string RX9 75) "java/lang/String" "value" "[B") (.int 4)) (.int 99) ∈ nfl := List.mem_of_getElem? (i := 136) (by decide +kernel)
theorem nx_4_5 : Cond.eq (.elem (.field (Term.string RX9 75) "java/lang/String" "value" "[B") (.int 5)) (.int 101) ∈ nfl := List.mem_of_getElem? (i := 137) (by decide +kernel)
theorem nq_4 : Cond.eq (Term.string RX9 75) (Term.string RX12 163) ∈ nfl := List.mem_of_getElem? (i := 671) (by decide +kernel)
theorem nc_5 : Cond.eq (.field (Term.string RX9 79) "java/lang/String" "coder" "B") (.int 0) ∈ nfl := List.mem_of_getElem? (i := 139) (by decide +kernel)
theorem na_5 : Cond.arrayOf (.field (Term.string RX9 79) "java/lang/String" "value" "[B") .byte ∈ nfl := List.mem_of_getElem? (i := 140) (by decide +kernel)
theorem nl_5 : Cond.eq (.length (.field (Term.string RX9 79) "java/lang/String" "value" "[B")) (.int 2) ∈ nfl := List.mem_of_getElem? (i := 141) (by decide +kernel)
theorem nx_5_0 : Cond.eq (.elem (.field (Term.string RX9 79) "java/lang/String" "value" "[B") (.int 0)) (.int 97) ∈ nfl := List.mem_of_getElem? (i := 142) (by decide +kernel)
theorem nx_5_1 : Cond.eq (.elem (.field (Term.string RX9 79) "java/lang/String" "value" "[B") (.int 1)) (.int 116) ∈ nfl := List.mem_of_getElem? (i := 143) (by decide +kernel)
theorem nq_5 : Cond.eq (Term.string RX9 79) (Term.string RX12 165) ∈ nfl := List.mem_of_getElem? (i := 678) (by decide +kernel)
theorem nc_6 : Cond.eq (.field (Term.string RX9 124) "java/lang/String" "coder" "B") (.int 0) ∈ nfl := List.mem_of_getElem? (i := 145) (by decide +kernel)
theorem na_6 : Cond.arrayOf (.field (Term.string RX9 124) "java/lang/String" "value" "[B") .byte ∈ nfl := List.mem_of_getElem? (i := 146) (by decide +kernel)
theorem nl_6 : Cond.eq (.length (.field (Term.string RX9 124) "java/lang/String" "value" "[B")) (.int 4) ∈ nfl := List.mem_of_getElem? (i := 147) (by decide +kernel)
theorem nx_6_0 : Cond.eq (.elem (.field (Term.string RX9 124) "java/lang/String" "value" "[B") (.int 0)) (.int 115) ∈ nfl := List.mem_of_getElem? (i := 148) (by decide +kernel)
theorem nx_6_1 : Cond.eq (.elem (.field (Term.string RX9 124) "java/lang/String" "value" "[B") (.int 1)) (.int 101) ∈ nfl := List.mem_of_getElem? (i := 149) (by decide +kernel)
theorem nx_6_2 : Cond.eq (.elem (.field (Term.string RX9 124) "java/lang/String" "value" "[B") (.int 2)) (.int 110) ∈ nfl := List.mem_of_getElem? (i := 150) (by decide +kernel)
theorem nx_6_3 : Cond.eq (.elem (.field (Term.string RX9 124) "java/lang/String" "value" "[B") (.int 3)) (.int 100) ∈ nfl := List.mem_of_getElem? (i := 151) (by decide +kernel)
theorem nq_6 : Cond.eq (Term.string RX9 124) (Term.string RX12 139) ∈ nfl := List.mem_of_getElem? (i := 687) (by decide +kernel)
theorem nc_7 : Cond.eq (.field (Term.string RX9 126) "java/lang/String" "coder" "B") (.int 0) ∈ nfl := List.mem_of_getElem? (i := 153) (by decide +kernel)
theorem na_7 : Cond.arrayOf (.field (Term.string RX9 126) "java/lang/String" "value" "[B") .byte ∈ nfl := List.mem_of_getElem? (i := 154) (by decide +kernel)
theorem nl_7 : Cond.eq (.length (.field (Term.string RX9 126) "java/lang/String" "value" "[B")) (.int 5) ∈ nfl := List.mem_of_getElem? (i := 155) (by decide +kernel)
theorem nx_7_0 : Cond.eq (.elem (.field (Term.string RX9 126) "java/lang/String" "value" "[B") (.int 0)) (.int 99) ∈ nfl := List.mem_of_getElem? (i := 156) (by decide +kernel)
theorem nx_7_1 : Cond.eq (.elem (.field (Term.string RX9 126) "java/lang/String" "value" "[B") (.int 1)) (.int 114) ∈ nfl := List.mem_of_getElem? (i := 157) (by decide +kernel)
theorem nx_7_2 : Cond.eq (.elem (.field (Term.string RX9 126) "java/lang/String" "value" "[B") (.int 2)) (.int 97) ∈ nfl := List.mem_of_getElem? (i := 158) (by decide +kernel)
theorem nx_7_3 : Cond.eq (.elem (.field (Term.string RX9 126) "java/lang/String" "value" "[B") (.int 3)) (.int 115) ∈ nfl := List.mem_of_getElem? (i := 159) (by decide +kernel)
theorem nx_7_4 : Cond.eq (.elem (.field (Term.string RX9 126) "java/lang/String" "value" "[B") (.int 4)) (.int 104) ∈ nfl := List.mem_of_getElem? (i := 160) (by decide +kernel)
theorem nq_7 : Cond.eq (Term.string RX9 126) (Term.string RX12 145) ∈ nfl := List.mem_of_getElem? (i := 697) (by decide +kernel)
theorem nn_0_1 : Cond.not (.castable "java/lang/IndexOutOfBoundsException" "java/util/NoSuchElementException") ∈ nfl := List.mem_of_getElem? (i := 73) (by decide +kernel)
theorem nn_0_2 : Cond.not (.castable "java/lang/IndexOutOfBoundsException" "java/lang/IllegalStateException") ∈ nfl := List.mem_of_getElem? (i := 89) (by decide +kernel)
theorem nn_0_3 : Cond.not (.castable "java/lang/IndexOutOfBoundsException" "java/lang/IllegalArgumentException") ∈ nfl := List.mem_of_getElem? (i := 24) (by decide +kernel)
theorem nn_0_4 : Cond.not (.castable "java/lang/IndexOutOfBoundsException" "java/lang/UnsupportedOperationException") ∈ nfl := List.mem_of_getElem? (i := 40) (by decide +kernel)
theorem nn_1_0 : Cond.not (.castable "java/util/NoSuchElementException" "java/lang/IndexOutOfBoundsException") ∈ nfl := List.mem_of_getElem? (i := 57) (by decide +kernel)
theorem nn_1_2 : Cond.not (.castable "java/util/NoSuchElementException" "java/lang/IllegalStateException") ∈ nfl := List.mem_of_getElem? (i := 90) (by decide +kernel)
theorem nn_1_3 : Cond.not (.castable "java/util/NoSuchElementException" "java/lang/IllegalArgumentException") ∈ nfl := List.mem_of_getElem? (i := 25) (by decide +kernel)
theorem nn_1_4 : Cond.not (.castable "java/util/NoSuchElementException" "java/lang/UnsupportedOperationException") ∈ nfl := List.mem_of_getElem? (i := 41) (by decide +kernel)
theorem nn_2_0 : Cond.not (.castable "java/lang/IllegalStateException" "java/lang/IndexOutOfBoundsException") ∈ nfl := List.mem_of_getElem? (i := 58) (by decide +kernel)
theorem nn_2_1 : Cond.not (.castable "java/lang/IllegalStateException" "java/util/NoSuchElementException") ∈ nfl := List.mem_of_getElem? (i := 74) (by decide +kernel)
theorem nn_2_3 : Cond.not (.castable "java/lang/IllegalStateException" "java/lang/IllegalArgumentException") ∈ nfl := List.mem_of_getElem? (i := 26) (by decide +kernel)
theorem nn_2_4 : Cond.not (.castable "java/lang/IllegalStateException" "java/lang/UnsupportedOperationException") ∈ nfl := List.mem_of_getElem? (i := 42) (by decide +kernel)
theorem nn_3_0 : Cond.not (.castable "java/lang/IllegalArgumentException" "java/lang/IndexOutOfBoundsException") ∈ nfl := List.mem_of_getElem? (i := 55) (by decide +kernel)
theorem nn_3_1 : Cond.not (.castable "java/lang/IllegalArgumentException" "java/util/NoSuchElementException") ∈ nfl := List.mem_of_getElem? (i := 71) (by decide +kernel)
theorem nn_3_2 : Cond.not (.castable "java/lang/IllegalArgumentException" "java/lang/IllegalStateException") ∈ nfl := List.mem_of_getElem? (i := 87) (by decide +kernel)
theorem nn_3_4 : Cond.not (.castable "java/lang/IllegalArgumentException" "java/lang/UnsupportedOperationException") ∈ nfl := List.mem_of_getElem? (i := 39) (by decide +kernel)
theorem nn_4_0 : Cond.not (.castable "java/lang/UnsupportedOperationException" "java/lang/IndexOutOfBoundsException") ∈ nfl := List.mem_of_getElem? (i := 56) (by decide +kernel)
theorem nn_4_1 : Cond.not (.castable "java/lang/UnsupportedOperationException" "java/util/NoSuchElementException") ∈ nfl := List.mem_of_getElem? (i := 72) (by decide +kernel)
theorem nn_4_2 : Cond.not (.castable "java/lang/UnsupportedOperationException" "java/lang/IllegalStateException") ∈ nfl := List.mem_of_getElem? (i := 88) (by decide +kernel)
theorem nn_4_3 : Cond.not (.castable "java/lang/UnsupportedOperationException" "java/lang/IllegalArgumentException") ∈ nfl := List.mem_of_getElem? (i := 23) (by decide +kernel)
theorem ns_c : Cond.eq (.static "java/lang/String" "COMPACT_STRINGS" "Z") (.int 1) ∈ nfl := List.mem_of_getElem? (i := 4) (by decide +kernel)
theorem ns_f : Cond.isRef (.static "jdk/internal/util/Preconditions" "SIOOBE_FORMATTER" "Ljava/util/function/BiFunction;") ∈ nfl := List.mem_of_getElem? (i := 5) (by decide +kernel)
theorem ns_u : Cond.isRef (.static Bundle.tN "UNASSIGNED_STACK" Bundle.steD) ∈ nfl := List.mem_of_getElem? (i := 9) (by decide +kernel)
theorem ns_s : Cond.isRef (.static Bundle.tN "SUPPRESSED_SENTINEL" Bundle.listD) ∈ nfl := List.mem_of_getElem? (i := 10) (by decide +kernel)
theorem ks_0 : Cond.stringRef RX9 44 "nodes" ∈ lw_tbl := tb_t3 92 rfl
theorem ks_1 : Cond.stringRef RX9 54 "group" ∈ lw_tbl := tb_t3 157 rfl
theorem ks_2 : Cond.stringRef RX9 59 "delay" ∈ lw_tbl := tb_t3 163 rfl
theorem ks_3 : Cond.stringRef RX9 65 "jitter" ∈ lw_tbl := tb_t3 171 rfl
theorem ks_4 : Cond.stringRef RX9 75 "notice" ∈ lw_tbl := tb_t3 172 rfl
theorem ks_5 : Cond.stringRef RX9 79 "at" ∈ lw_tbl := tb_t3 173 rfl
theorem ks_6 : Cond.stringRef RX9 124 "send" ∈ lw_tbl := tb_t3 178 rfl
theorem ks_7 : Cond.stringRef RX9 126 "crash" ∈ lw_tbl := tb_t3 179 rfl
theorem ks_8 : Cond.stringRef RX11 70 "the text is wrong" ∈ lw_tbl := tb_t3 227 rfl
theorem ks_9 : Cond.stringRef RX11 80 "there are all texts" ∈ lw_tbl := tb_t4 22 rfl
theorem ks_10 : Cond.stringRef RX11 392 "no such NODE" ∈ lw_tbl := tb_t4 51 rfl
theorem ks_11 : Cond.stringRef RX11 121 "no such what of a NODE" ∈ lw_tbl := tb_t4 83 rfl
theorem ks_12 : Cond.stringRef RX11 394 "no such GROUP" ∈ lw_tbl := tb_t4 101 rfl
theorem ks_13 : Cond.stringRef RX11 396 "no such MESSAGE" ∈ lw_tbl := tb_t4 113 rfl
theorem ks_14 : Cond.stringRef RX11 157 "no such what of a MESSAGE" ∈ lw_tbl := tb_t4 122 rfl
theorem ks_15 : Cond.stringRef RX11 400 "no such what" ∈ lw_tbl := tb_t4 133 rfl
theorem ks_16 : Cond.stringRef RX11 204 "no such what of a CHANNEL" ∈ lw_tbl := tb_t4 156 rfl
theorem ks_17 : Cond.stringRef RX11 208 "no such PACKET" ∈ lw_tbl := tb_t4 164 rfl
theorem ks_18 : Cond.stringRef RX11 217 "no such what of a PACKET" ∈ lw_tbl := tb_t4 169 rfl
theorem ks_19 : Cond.stringRef RX11 230 "the NODE does not GATHER for it" ∈ lw_tbl := tb_t4 188 rfl
theorem ks_20 : Cond.stringRef RX11 242 "no such what of a GATHER" ∈ lw_tbl := tb_t4 195 rfl
theorem ks_21 : Cond.stringRef RX11 244 "so many TICKS are none" ∈ lw_tbl := tb_t4 203 rfl
theorem ks_22 : Cond.stringRef RX11 253 "the NODE is DOWN, or there are all MESSAGES" ∈ lw_tbl := tb_t5 137 rfl
theorem ks_23 : Cond.stringRef RX11 258 "the NODE is DOWN" ∈ lw_tbl := tb_t5 146 rfl
theorem ks_24 : Cond.stringRef RX11 398 "both are one" ∈ lw_tbl := tb_t5 210 rfl
theorem ks_25 : Cond.stringRef RX11 343 "no such EVENT" ∈ lw_tbl := tb_t6 92 rfl
theorem ks_26 : Cond.stringRef RX11 357 "no such what of an EVENT" ∈ lw_tbl := tb_t6 94 rfl
theorem ks_27 : Cond.stringRef RX12 147 "nodes" ∈ lw_tbl := tb_t6 218 rfl
theorem ks_28 : Cond.stringRef RX12 151 "group" ∈ lw_tbl := tb_t7 0 rfl
theorem ks_29 : Cond.stringRef RX12 156 "delay" ∈ lw_tbl := tb_t7 12 rfl
theorem ks_30 : Cond.stringRef RX12 161 "jitter" ∈ lw_tbl := tb_t7 21 rfl
theorem ks_31 : Cond.stringRef RX12 163 "notice" ∈ lw_tbl := tb_t7 22 rfl
theorem ks_32 : Cond.stringRef RX12 165 "at" ∈ lw_tbl := tb_t7 23 rfl
theorem ks_33 : Cond.stringRef RX12 139 "send" ∈ lw_tbl := tb_t7 29 rfl
theorem ks_34 : Cond.stringRef RX12 145 "crash" ∈ lw_tbl := tb_t7 30 rfl
theorem ly_c : Cond.laysStatic "java/lang/String" "COMPACT_STRINGS" "Z" ∈ lw_tbl := tb_t3 106 rfl
theorem in_c : Cond.initialized "java/lang/String" ∈ lw_tbl := tb_t1 16 rfl
theorem ly_f : Cond.laysStatic "jdk/internal/util/Preconditions" "SIOOBE_FORMATTER" "Ljava/util/function/BiFunction;" ∈ lw_tbl := tb_t3 122 rfl
theorem in_f : Cond.initialized "jdk/internal/util/Preconditions" ∈ lw_tbl := tb_t1 18 rfl
theorem ly_u : Cond.laysStatic Bundle.tN "UNASSIGNED_STACK" Bundle.steD ∈ lw_tbl := tb_t3 211 rfl
theorem in_u : Cond.initialized Bundle.tN ∈ lw_tbl := tb_t1 20 rfl
theorem ly_s : Cond.laysStatic Bundle.tN "SUPPRESSED_SENTINEL" Bundle.listD ∈ lw_tbl := tb_t3 213 rfl
theorem in_s : Cond.initialized Bundle.tN ∈ lw_tbl := tb_t1 20 rfl
theorem nk_0 : Cond.methodLinkNest RX8 42 yX11_spotOf RX11 ∈ lw_tbl := tb_t2 188 rfl
theorem nk_1 : Cond.methodLinkNest RX8 46 yX11_isIn RX11 ∈ lw_tbl := tb_t2 191 rfl
theorem nk_2 : Cond.methodLinkNest RX0 25 yX11_spotOf RX11 ∈ lw_tbl := tb_t2 220 rfl
theorem nk_3 : Cond.methodLinkNest RX0 73 yX11_isIn RX11 ∈ lw_tbl := tb_t2 229 rfl
theorem nk_4 : Cond.methodLinkNest RX7 101 yX11_copyRow RX11 ∈ lw_tbl := tb_t3 15 rfl
theorem nk_5 : Cond.methodLinkNest RX1 46 yX11_copyRow RX11 ∈ lw_tbl := tb_t3 28 rfl
theorem nk_6 : Cond.methodLinkNest RX6 31 yX11_copyRow RX11 ∈ lw_tbl := tb_t3 34 rfl
theorem nk_7 : Cond.methodLinkNest RX4 30 yX11_copyRow RX11 ∈ lw_tbl := tb_t3 39 rfl
theorem nk_8 : Cond.methodLinkNest RX3 27 yX11_copyRow RX11 ∈ lw_tbl := tb_t3 44 rfl
theorem nk_9 : Cond.methodLinkNest RX2 25 yX11_copyRow RX11 ∈ lw_tbl := tb_t3 49 rfl
theorem nk_10 : Cond.methodLinkNest RX5 22 yX11_copyRow RX11 ∈ lw_tbl := tb_t3 54 rfl
theorem nk_11 : Cond.methodLinkNest RX9 89 yX11_isIn RX11 ∈ lw_tbl := tb_t3 162 rfl
theorem nk_12 : Cond.methodLinkNest RX9 109 yX11_channelOf RX11 ∈ lw_tbl := tb_t3 168 rfl
theorem nk_13 : Cond.methodLinkNest RX7 151 yX11_spotOf RX11 ∈ lw_tbl := tb_t4 63 rfl
theorem nk_14 : Cond.methodLinkNest RX7 284 yX11_isIn RX11 ∈ lw_tbl := tb_t5 9 rfl
theorem nk_15 : Cond.methodLinkNest RX7 212 yX11_channelOf RX11 ∈ lw_tbl := tb_t5 15 rfl
theorem nk_16 : Cond.methodLinkNest RX7 259 yX11_stampOf RX11 ∈ lw_tbl := tb_t5 63 rfl
theorem nk_17 : Cond.methodLinkNest RX7 243 yX11_numberOf RX11 ∈ lw_tbl := tb_t5 66 rfl
theorem nk_18 : Cond.methodLinkNest RX4 34 yX11_spotOf RX11 ∈ lw_tbl := tb_t5 111 rfl
theorem nk_19 : Cond.methodLinkNest RX1 71 yX11_channelOf RX11 ∈ lw_tbl := tb_t5 175 rfl
theorem nk_20 : Cond.methodLinkNest RX6 35 yX11_isIn RX11 ∈ lw_tbl := tb_t6 56 rfl
theorem ks_all : ∀ q ∈ ksites, Cond.stringRef q.1 q.2.1 q.2.2.1 ∈ lw_tbl := List.forall_mem_cons.mpr ⟨ks_0, List.forall_mem_cons.mpr ⟨ks_1, List.forall_mem_cons.mpr ⟨ks_2, List.forall_mem_cons.mpr ⟨ks_3, List.forall_mem_cons.mpr ⟨ks_4, List.forall_mem_cons.mpr ⟨ks_5, List.forall_mem_cons.mpr ⟨ks_6, List.forall_mem_cons.mpr ⟨ks_7, List.forall_mem_cons.mpr ⟨ks_8, List.forall_mem_cons.mpr ⟨ks_9, List.forall_mem_cons.mpr ⟨ks_10, List.forall_mem_cons.mpr ⟨ks_11, List.forall_mem_cons.mpr ⟨ks_12, List.forall_mem_cons.mpr ⟨ks_13, List.forall_mem_cons.mpr ⟨ks_14, List.forall_mem_cons.mpr ⟨ks_15, List.forall_mem_cons.mpr ⟨ks_16, List.forall_mem_cons.mpr ⟨ks_17, List.forall_mem_cons.mpr ⟨ks_18, List.forall_mem_cons.mpr ⟨ks_19, List.forall_mem_cons.mpr ⟨ks_20, List.forall_mem_cons.mpr ⟨ks_21, List.forall_mem_cons.mpr ⟨ks_22, List.forall_mem_cons.mpr ⟨ks_23, List.forall_mem_cons.mpr ⟨ks_24, List.forall_mem_cons.mpr ⟨ks_25, List.forall_mem_cons.mpr ⟨ks_26, List.forall_mem_cons.mpr ⟨ks_27, List.forall_mem_cons.mpr ⟨ks_28, List.forall_mem_cons.mpr ⟨ks_29, List.forall_mem_cons.mpr ⟨ks_30, List.forall_mem_cons.mpr ⟨ks_31, List.forall_mem_cons.mpr ⟨ks_32, List.forall_mem_cons.mpr ⟨ks_33, List.forall_mem_cons.mpr ⟨ks_34, fun _ h => absurd h List.not_mem_nil⟩⟩⟩⟩⟩⟩⟩⟩⟩⟩⟩⟩⟩⟩⟩⟩⟩⟩⟩⟩⟩⟩⟩⟩⟩⟩⟩⟩⟩⟩⟩⟩⟩⟩⟩
theorem nk_all : ∀ q ∈ nwq, Cond.methodLinkNest q.1 q.2.1 q.2.2 RX11 ∈ lw_tbl := List.forall_mem_cons.mpr ⟨nk_0, List.forall_mem_cons.mpr ⟨nk_1, List.forall_mem_cons.mpr ⟨nk_2, List.forall_mem_cons.mpr ⟨nk_3, List.forall_mem_cons.mpr ⟨nk_4, List.forall_mem_cons.mpr ⟨nk_5, List.forall_mem_cons.mpr ⟨nk_6, List.forall_mem_cons.mpr ⟨nk_7, List.forall_mem_cons.mpr ⟨nk_8, List.forall_mem_cons.mpr ⟨nk_9, List.forall_mem_cons.mpr ⟨nk_10, List.forall_mem_cons.mpr ⟨nk_11, List.forall_mem_cons.mpr ⟨nk_12, List.forall_mem_cons.mpr ⟨nk_13, List.forall_mem_cons.mpr ⟨nk_14, List.forall_mem_cons.mpr ⟨nk_15, List.forall_mem_cons.mpr ⟨nk_16, List.forall_mem_cons.mpr ⟨nk_17, List.forall_mem_cons.mpr ⟨nk_18, List.forall_mem_cons.mpr ⟨nk_19, List.forall_mem_cons.mpr ⟨nk_20, fun _ h => absurd h List.not_mem_nil⟩⟩⟩⟩⟩⟩⟩⟩⟩⟩⟩⟩⟩⟩⟩⟩⟩⟩⟩⟩⟩
theorem ii_RX1 : Cond.instantiable RX1 9 ∈ gw := gw_t1 98 rfl rfl
theorem ii_RX2 : Cond.instantiable RX2 4 ∈ gw := gw_t2 2 rfl rfl
theorem ii_RX3 : Cond.instantiable RX3 3 ∈ gw := gw_t1 220 rfl rfl
theorem ii_RX4 : Cond.instantiable RX4 6 ∈ gw := gw_t1 179 rfl rfl
theorem ii_RX5 : Cond.instantiable RX5 3 ∈ gw := gw_t2 30 rfl rfl
theorem ii_RX6 : Cond.instantiable RX6 6 ∈ gw := gw_t1 142 rfl rfl
theorem ii_RX7 : Cond.instantiable RX7 19 ∈ gw := gw_t1 89 rfl rfl
theorem ii_RX8 : Cond.instantiable RX8 2 ∈ gw := gw_t1 75 rfl rfl
theorem ii_RX9 : Cond.instantiable RX9 4 ∈ gw := gw_t1 56 rfl rfl
theorem ii_RX10 : Cond.instantiable RX10 2 ∈ gw := gw_t1 39 rfl rfl
theorem ii_RX11 : Cond.instantiable RX11 8 ∈ gw := gw_t1 31 rfl rfl
theorem ii_RX12 : Cond.instantiable RX12 18 ∈ gw := gw_t6 111 rfl rfl
theorem ia_l : Cond.arrayClass .long ∈ gw := gw_t8 185 rfl rfl
section EN
variable {args : Array Value} {s : State} {A : Nat → Prop}
theorem en_str {own : String} {k : Nat} {w : List Int32} (hw : w.length < 2 ^ 31) (hex : (Cond.exactly (Term.string own k) "java/lang/String").before args s = true) (hco : (Cond.eq (.field (Term.string own k) "java/lang/String" "coder" "B") (.int 0)).before args s = true) (har : (Cond.arrayOf (.field (Term.string own k) "java/lang/String" "value" "[B") .byte).before args s = true) (hle : (Cond.eq (.length (.field (Term.string own k) "java/lang/String" "value" "[B")) (.int (Int32.ofNat w.length))).before args s = true) (hel : ∀ j : Nat, j < w.length → (Cond.eq (.elem (.field (Term.string own k) "java/lang/String" "value" "[B") (.int (Int32.ofNat j))) (.int (w.getD j 0))).before args s = true) (hA : ∀ a : Nat, a < s.heap.size → ¬ A a) :
    ∃ a v : Nat, (Term.string own k).eval args s none [] s = some (.ref a) ∧ va_O "java/lang/String" a A s s.heap ∧ va_OF "java/lang/String" "coder" "B" (.int 0) a A s s.heap ∧ va_OF "java/lang/String" "value" "[B" (.ref v) a A s s.heap ∧ va_T .byte v w.length (fun j => .int (w.getD j 0)) A s s.heap := by
  obtain ⟨adK, adV, hS, he⟩ := vk_Sof (N := 1) (tm := fun _ => Term.string own k) (len := [w.length]) (byt := [w]) (A := A) (fun i hi => by rw [show i = 0 by omega]; exact hw) (fun _ _ => hex) (fun _ _ => hco) (fun _ _ => har) (fun i hi => by rw [show i = 0 by omega]; exact hle) (fun i hi j hj => by rw [show i = 0 by omega] at hj ⊢; exact hel j hj) (fun i j hi hj hn => absurd (show i = j by omega) hn) hA
  obtain ⟨h1, h2, h3, h4⟩ := hS.1 0 (by omega)
  exact ⟨adK 0, adV 0, he 0 (by omega), h1, h2, h3, h4⟩
theorem en_ref {own : String} {k : Nat} (hex : (Cond.exactly (Term.string own k) "java/lang/String").before args s = true) : ∃ a : Nat, (Term.string own k).eval args s none [] s = some (.ref a) := by
  obtain ⟨a, c, cA, kA, q1, -⟩ := Cond.exactly_spec (args := args) (first := s) (o := none) (s := s) (idx := []) (t := Term.string own k) (cls := "java/lang/String") hex
  exact ⟨a, q1⟩
theorem en_arr {ty : FieldType} (h : (Cond.arrayClass ty).before args s = true) (hr : ∀ C, ty ≠ .object C) : ∃ cA, ArrOfT s cA ty ∧ va_RA s cA ty := by
  obtain ⟨cA, kA, comp, h1, h2, h3⟩ := Cond.arrayClass_spec h
  refine ⟨cA, fun n z => ⟨fun k h => (by cases h), kA, h2, comp, h3⟩, ?_⟩
  cases ty <;> first | exact h1 | exact absurd rfl (hr _)
end EN
