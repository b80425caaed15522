theorem cm_w (i : Nat) {w : Cond} (h : lw_tbl[i]? = some w) (hg : goodWord w = true) : w ∈ cm_tb := cm_tbm (List.mem_of_getElem? h) hg
theorem wcX6_init : Cond.code yX6_init cX6_init 2 none ∈ cm_tb := cm_w 91 (by decide +kernel) rfl
theorem wdX6_init : cm_desc yX6_init 0 := ⟨by decide +kernel, by decide +kernel, by decide +kernel⟩
theorem wiX6_init : Cond.instanceMethod yX6_init ∈ cm_tb := cm_w 90 (by decide +kernel) rfl
theorem q8_9 {d d' : Nat} {mc ms : Nat} {S : cm_CT} (hM : cm_Met d' yX6_init cX6_init 2 none mc ms S) (hd : d' < d) : cm_Cal d 8 (.invokespecial 9) (1, 7, mc, ms, S) := cm_calI (ci := 6) hM hd (by decide) (by decide) rfl rfl wcX6_init (cm_w 89 (by decide +kernel) rfl) wiX6_init wdX6_init
theorem q6_3 {d : Nat} : cm_Cal d 6 (.invokespecial 3) (1, 0, 0, 0, cm_Sobj) := cm_calO (cm_w 92 (by decide +kernel) rfl)
theorem wcX0_init : Cond.code yX0_init cX0_init 2 none ∈ cm_tb := cm_w 101 (by decide +kernel) rfl
theorem wdX0_init : cm_desc yX0_init 0 := ⟨by decide +kernel, by decide +kernel, by decide +kernel⟩
theorem wiX0_init : Cond.instanceMethod yX0_init ∈ cm_tb := cm_w 100 (by decide +kernel) rfl
theorem q6_20 {d d' : Nat} {mc ms : Nat} {S : cm_CT} (hM : cm_Met d' yX0_init cX0_init 2 none mc ms S) (hd : d' < d) : cm_Cal d 6 (.invokespecial 20) (1, 1, mc, ms, S) := cm_calI (ci := 0) hM hd (by decide) (by decide) rfl rfl wcX0_init (cm_w 99 (by decide +kernel) rfl) wiX0_init wdX0_init
theorem q0_3 {d : Nat} : cm_Cal d 0 (.invokespecial 3) (1, 0, 0, 0, cm_Sobj) := cm_calO (cm_w 102 (by decide +kernel) rfl)
theorem wcX5_init : Cond.code yX5_init cX5_init 2 none ∈ cm_tb := cm_w 108 (by decide +kernel) rfl
theorem wdX5_init : cm_desc yX5_init 0 := ⟨by decide +kernel, by decide +kernel, by decide +kernel⟩
theorem wiX5_init : Cond.instanceMethod yX5_init ∈ cm_tb := cm_w 107 (by decide +kernel) rfl
theorem q0_35 {d d' : Nat} {mc ms : Nat} {S : cm_CT} (hM : cm_Met d' yX5_init cX5_init 2 none mc ms S) (hd : d' < d) : cm_Cal d 0 (.invokespecial 35) (1, 6, mc, ms, S) := cm_calI (ci := 5) hM hd (by decide) (by decide) rfl rfl wcX5_init (cm_w 106 (by decide +kernel) rfl) wiX5_init wdX5_init
theorem q5_3 {d : Nat} : cm_Cal d 5 (.invokespecial 3) (1, 0, 0, 0, cm_Sobj) := cm_calO (cm_w 109 (by decide +kernel) rfl)
theorem wcX4_init : Cond.code yX4_init cX4_init 2 none ∈ cm_tb := cm_w 114 (by decide +kernel) rfl
theorem wdX4_init : cm_desc yX4_init 1 := ⟨by decide +kernel, by decide +kernel, by decide +kernel⟩
theorem wiX4_init : Cond.instanceMethod yX4_init ∈ cm_tb := cm_w 113 (by decide +kernel) rfl
theorem q5_21 {d d' : Nat} {mc ms : Nat} {S : cm_CT} (hM : cm_Met d' yX4_init cX4_init 2 none mc ms S) (hd : d' < d) : cm_Cal d 5 (.invokespecial 21) (2, 5, mc, ms, S) := cm_calI (ci := 4) hM hd (by decide) (by decide) rfl rfl wcX4_init (cm_w 112 (by decide +kernel) rfl) wiX4_init wdX4_init
theorem q4_3 {d : Nat} : cm_Cal d 4 (.invokespecial 3) (1, 0, 0, 0, cm_Sobj) := cm_calO (cm_w 115 (by decide +kernel) rfl)
theorem wcJ9_max_7cf53 : Cond.code yJ9_max_7cf53 cJ9_max_7cf53 2 (some .int) ∈ cm_tb := cm_w 118 (by decide +kernel) rfl
theorem wdJ9_max_7cf53 : cm_desc yJ9_max_7cf53 2 := ⟨by decide +kernel, by decide +kernel, by decide +kernel⟩
theorem wsJ9_max_7cf53 : Cond.static yJ9_max_7cf53 ∈ cm_tb := cm_w 117 (by decide +kernel) rfl
theorem q4_15 {d d' : Nat} {mc ms : Nat} {S : cm_CT} (hM : cm_Met d' yJ9_max_7cf53 cJ9_max_7cf53 2 (some .int) mc ms S) (hd : d' < d) : cm_Cal d 4 (.invokestatic 15) (2, 0, mc, ms, S) := cm_calS hM hd (by decide) wcJ9_max_7cf53 (cm_w 116 (by decide +kernel) rfl) wsJ9_max_7cf53 (cm_w 79 (by decide +kernel) rfl) wdJ9_max_7cf53
theorem wcX3_init : Cond.code yX3_init cX3_init 2 none ∈ cm_tb := cm_w 177 (by decide +kernel) rfl
theorem wdX3_init : cm_desc yX3_init 0 := ⟨by decide +kernel, by decide +kernel, by decide +kernel⟩
theorem wiX3_init : Cond.instanceMethod yX3_init ∈ cm_tb := cm_w 176 (by decide +kernel) rfl
theorem q6_31 {d d' : Nat} {mc ms : Nat} {S : cm_CT} (hM : cm_Met d' yX3_init cX3_init 2 none mc ms S) (hd : d' < d) : cm_Cal d 6 (.invokespecial 31) (1, 4, mc, ms, S) := cm_calI (ci := 3) hM hd (by decide) (by decide) rfl rfl wcX3_init (cm_w 175 (by decide +kernel) rfl) wiX3_init wdX3_init
theorem q3_3 {d : Nat} : cm_Cal d 3 (.invokespecial 3) (1, 0, 0, 0, cm_Sobj) := cm_calO (cm_w 178 (by decide +kernel) rfl)
theorem wcX2_init : Cond.code yX2_init cX2_init 1 none ∈ cm_tb := cm_w 183 (by decide +kernel) rfl
theorem wdX2_init : cm_desc yX2_init 0 := ⟨by decide +kernel, by decide +kernel, by decide +kernel⟩
theorem wiX2_init : Cond.instanceMethod yX2_init ∈ cm_tb := cm_w 182 (by decide +kernel) rfl
theorem q3_11 {d d' : Nat} {mc ms : Nat} {S : cm_CT} (hM : cm_Met d' yX2_init cX2_init 1 none mc ms S) (hd : d' < d) : cm_Cal d 3 (.invokespecial 11) (1, 3, mc, ms, S) := cm_calI (ci := 2) hM hd (by decide) (by decide) rfl rfl wcX2_init (cm_w 181 (by decide +kernel) rfl) wiX2_init wdX2_init
theorem q2_3 {d : Nat} : cm_Cal d 2 (.invokespecial 3) (1, 0, 0, 0, cm_Sobj) := cm_calO (cm_w 184 (by decide +kernel) rfl)
theorem wcX1_init : Cond.code yX1_init cX1_init 1 none ∈ cm_tb := cm_w 194 (by decide +kernel) rfl
theorem wdX1_init : cm_desc yX1_init 0 := ⟨by decide +kernel, by decide +kernel, by decide +kernel⟩
theorem wiX1_init : Cond.instanceMethod yX1_init ∈ cm_tb := cm_w 193 (by decide +kernel) rfl
theorem q3_30 {d d' : Nat} {mc ms : Nat} {S : cm_CT} (hM : cm_Met d' yX1_init cX1_init 1 none mc ms S) (hd : d' < d) : cm_Cal d 3 (.invokespecial 30) (1, 2, mc, ms, S) := cm_calI (ci := 1) hM hd (by decide) (by decide) rfl rfl wcX1_init (cm_w 192 (by decide +kernel) rfl) wiX1_init wdX1_init
theorem q1_3 {d : Nat} : cm_Cal d 1 (.invokespecial 3) (1, 0, 0, 0, cm_Sobj) := cm_calO (cm_w 195 (by decide +kernel) rfl)
theorem q3_50 {d d' : Nat} {mc ms : Nat} {S : cm_CT} (hM : cm_Met d' yX4_init cX4_init 2 none mc ms S) (hd : d' < d) : cm_Cal d 3 (.invokespecial 50) (2, 5, mc, ms, S) := cm_calI (ci := 4) hM hd (by decide) (by decide) rfl rfl wcX4_init (cm_w 212 (by decide +kernel) rfl) wiX4_init wdX4_init
theorem q3_60 {d d' : Nat} {mc ms : Nat} {S : cm_CT} (hM : cm_Met d' yX5_init cX5_init 2 none mc ms S) (hd : d' < d) : cm_Cal d 3 (.invokespecial 60) (1, 6, mc, ms, S) := cm_calI (ci := 5) hM hd (by decide) (by decide) rfl rfl wcX5_init (cm_w 213 (by decide +kernel) rfl) wiX5_init wdX5_init
theorem q6_38 {d d' : Nat} {mc ms : Nat} {S : cm_CT} (hM : cm_Met d' yX5_init cX5_init 2 none mc ms S) (hd : d' < d) : cm_Cal d 6 (.invokespecial 38) (1, 6, mc, ms, S) := cm_calI (ci := 5) hM hd (by decide) (by decide) rfl rfl wcX5_init (cm_w 249 (by decide +kernel) rfl) wiX5_init wdX5_init
theorem q6_48 {d d' : Nat} {mc ms : Nat} {S : cm_CT} (hM : cm_Met d' yX1_init cX1_init 1 none mc ms S) (hd : d' < d) : cm_Cal d 6 (.invokespecial 48) (1, 2, mc, ms, S) := cm_calI (ci := 1) hM hd (by decide) (by decide) rfl rfl wcX1_init (cm_w 251 (by decide +kernel) rfl) wiX1_init wdX1_init
theorem q6_74 {d d' : Nat} {mc ms : Nat} {S : cm_CT} (hM : cm_Met d' yX4_init cX4_init 2 none mc ms S) (hd : d' < d) : cm_Cal d 6 (.invokespecial 74) (2, 5, mc, ms, S) := cm_calI (ci := 4) hM hd (by decide) (by decide) rfl rfl wcX4_init (cm_w 252 (by decide +kernel) rfl) wiX4_init wdX4_init
theorem wcX6_row : Cond.code yX6_row cX6_row 3 (some .int) ∈ cm_tb := cm_w 299 (by decide +kernel) rfl
theorem wdX6_row : cm_desc yX6_row 2 := ⟨by decide +kernel, by decide +kernel, by decide +kernel⟩
theorem wiX6_row : Cond.instanceMethod yX6_row ∈ cm_tb := cm_w 297 (by decide +kernel) rfl
theorem wvX6_row : Cond.selects (cm_R 6) yX6_row yX6_row ∈ cm_tb := cm_w 298 (by decide +kernel) rfl
theorem q8_13 {d d' : Nat} {mc ms : Nat} {S : cm_CT} (hM : cm_Met d' yX6_row cX6_row 3 (some .int) mc ms S) (hd : d' < d) : cm_Cal d 8 (.invokevirtual 13) (3, 7, mc, ms, S) := cm_calV (ci := 6) hM hd (by decide) (by decide) rfl wcX6_row (cm_w 296 (by decide +kernel) rfl) wiX6_row wvX6_row wdX6_row
theorem wcX6_isRow : Cond.code yX6_isRow cX6_isRow 1 (some .boolean) ∈ cm_tb := cm_w 302 (by decide +kernel) rfl
theorem wdX6_isRow : cm_desc yX6_isRow 1 := ⟨by decide +kernel, by decide +kernel, by decide +kernel⟩
theorem wsX6_isRow : Cond.static yX6_isRow ∈ cm_tb := cm_w 301 (by decide +kernel) rfl
theorem q6_77 {d d' : Nat} {mc ms : Nat} {S : cm_CT} (hM : cm_Met d' yX6_isRow cX6_isRow 1 (some .boolean) mc ms S) (hd : d' < d) : cm_Cal d 6 (.invokestatic 77) (1, 0, mc, ms, S) := cm_calS hM hd (by decide) wcX6_isRow (cm_w 300 (by decide +kernel) rfl) wsX6_isRow (cm_w 75 (by decide +kernel) rfl) wdX6_isRow
theorem wcX6_renewed : Cond.code yX6_renewed cX6_renewed 4 (some .int) ∈ cm_tb := cm_w 306 (by decide +kernel) rfl
theorem wdX6_renewed : cm_desc yX6_renewed 3 := ⟨by decide +kernel, by decide +kernel, by decide +kernel⟩
theorem wiX6_renewed : Cond.instanceMethod yX6_renewed ∈ cm_tb := cm_w 305 (by decide +kernel) rfl
theorem wvX6_renewed : Cond.selects (cm_R 6) yX6_renewed yX6_renewed ∈ cm_tb := cm_w 0 (by decide +kernel) rfl
theorem q6_81 {d d' : Nat} {mc ms : Nat} {S : cm_CT} (hM : cm_Met d' yX6_renewed cX6_renewed 4 (some .int) mc ms S) (hd : d' < d) : cm_Cal d 6 (.invokevirtual 81) (4, 7, mc, ms, S) := cm_calV (ci := 6) hM hd (by decide) (by decide) rfl wcX6_renewed (cm_w 303 (by decide +kernel) rfl) wiX6_renewed wvX6_renewed wdX6_renewed
theorem wcX6_found : Cond.code yX6_found cX6_found 2 (some .int) ∈ cm_tb := cm_w 310 (by decide +kernel) rfl
theorem wdX6_found : cm_desc yX6_found 1 := ⟨by decide +kernel, by decide +kernel, by decide +kernel⟩
theorem wiX6_found : Cond.instanceMethod yX6_found ∈ cm_tb := cm_w 309 (by decide +kernel) rfl
theorem wvX6_found : Cond.selects (cm_R 6) yX6_found yX6_found ∈ cm_tb := cm_w 1 (by decide +kernel) rfl
theorem q6_89 {d d' : Nat} {mc ms : Nat} {S : cm_CT} (hM : cm_Met d' yX6_found cX6_found 2 (some .int) mc ms S) (hd : d' < d) : cm_Cal d 6 (.invokevirtual 89) (2, 7, mc, ms, S) := cm_calV (ci := 6) hM hd (by decide) (by decide) rfl wcX6_found (cm_w 307 (by decide +kernel) rfl) wiX6_found wvX6_found wdX6_found
theorem wcX4_renew : Cond.code yX4_renew cX4_renew 4 none ∈ cm_tb := cm_w 314 (by decide +kernel) rfl
theorem wdX4_renew : cm_desc yX4_renew 2 := ⟨by decide +kernel, by decide +kernel, by decide +kernel⟩
theorem wiX4_renew : Cond.instanceMethod yX4_renew ∈ cm_tb := cm_w 312 (by decide +kernel) rfl
theorem wvX4_renew : Cond.selects (cm_R 4) yX4_renew yX4_renew ∈ cm_tb := cm_w 313 (by decide +kernel) rfl
theorem q6_284 {d d' : Nat} {mc ms : Nat} {S : cm_CT} (hM : cm_Met d' yX4_renew cX4_renew 4 none mc ms S) (hd : d' < d) : cm_Cal d 6 (.invokevirtual 284) (3, 5, mc, ms, S) := cm_calV (ci := 4) hM hd (by decide) (by decide) rfl wcX4_renew (cm_w 311 (by decide +kernel) rfl) wiX4_renew wvX4_renew wdX4_renew
theorem wcJ9_min_7cf53 : Cond.code yJ9_min_7cf53 cJ9_min_7cf53 2 (some .int) ∈ cm_tb := cm_w 317 (by decide +kernel) rfl
theorem wdJ9_min_7cf53 : cm_desc yJ9_min_7cf53 2 := ⟨by decide +kernel, by decide +kernel, by decide +kernel⟩
theorem wsJ9_min_7cf53 : Cond.static yJ9_min_7cf53 ∈ cm_tb := cm_w 316 (by decide +kernel) rfl
theorem q4_29 {d d' : Nat} {mc ms : Nat} {S : cm_CT} (hM : cm_Met d' yJ9_min_7cf53 cJ9_min_7cf53 2 (some .int) mc ms S) (hd : d' < d) : cm_Cal d 4 (.invokestatic 29) (2, 0, mc, ms, S) := cm_calS hM hd (by decide) wcJ9_min_7cf53 (cm_w 315 (by decide +kernel) rfl) wsJ9_min_7cf53 (cm_w 79 (by decide +kernel) rfl) wdJ9_min_7cf53
theorem wcX6_lay : Cond.code yX6_lay cX6_lay 6 (some .int) ∈ cm_tb := cm_w 321 (by decide +kernel) rfl
theorem wdX6_lay : cm_desc yX6_lay 3 := ⟨by decide +kernel, by decide +kernel, by decide +kernel⟩
theorem wiX6_lay : Cond.instanceMethod yX6_lay ∈ cm_tb := cm_w 319 (by decide +kernel) rfl
theorem wvX6_lay : Cond.selects (cm_R 6) yX6_lay yX6_lay ∈ cm_tb := cm_w 320 (by decide +kernel) rfl
theorem q8_18 {d d' : Nat} {mc ms : Nat} {S : cm_CT} (hM : cm_Met d' yX6_lay cX6_lay 6 (some .int) mc ms S) (hd : d' < d) : cm_Cal d 8 (.invokevirtual 18) (4, 7, mc, ms, S) := cm_calV (ci := 6) hM hd (by decide) (by decide) rfl wcX6_lay (cm_w 318 (by decide +kernel) rfl) wiX6_lay wvX6_lay wdX6_lay
theorem wcX6_findingAt : Cond.code yX6_findingAt cX6_findingAt 2 (some .int) ∈ cm_tb := cm_w 324 (by decide +kernel) rfl
theorem wdX6_findingAt : cm_desc yX6_findingAt 2 := ⟨by decide +kernel, by decide +kernel, by decide +kernel⟩
theorem wsX6_findingAt : Cond.static yX6_findingAt ∈ cm_tb := cm_w 323 (by decide +kernel) rfl
theorem q6_85 {d d' : Nat} {mc ms : Nat} {S : cm_CT} (hM : cm_Met d' yX6_findingAt cX6_findingAt 2 (some .int) mc ms S) (hd : d' < d) : cm_Cal d 6 (.invokestatic 85) (2, 0, mc, ms, S) := cm_calS hM hd (by decide) wcX6_findingAt (cm_w 322 (by decide +kernel) rfl) wsX6_findingAt (cm_w 75 (by decide +kernel) rfl) wdX6_findingAt
theorem wcX4_isThere : Cond.code yX4_isThere cX4_isThere 1 (some .boolean) ∈ cm_tb := cm_w 328 (by decide +kernel) rfl
theorem wdX4_isThere : cm_desc yX4_isThere 0 := ⟨by decide +kernel, by decide +kernel, by decide +kernel⟩
theorem wiX4_isThere : Cond.instanceMethod yX4_isThere ∈ cm_tb := cm_w 326 (by decide +kernel) rfl
theorem wvX4_isThere : Cond.selects (cm_R 4) yX4_isThere yX4_isThere ∈ cm_tb := cm_w 327 (by decide +kernel) rfl
theorem q6_103 {d d' : Nat} {mc ms : Nat} {S : cm_CT} (hM : cm_Met d' yX4_isThere cX4_isThere 1 (some .boolean) mc ms S) (hd : d' < d) : cm_Cal d 6 (.invokevirtual 103) (1, 5, mc, ms, S) := cm_calV (ci := 4) hM hd (by decide) (by decide) rfl wcX4_isThere (cm_w 325 (by decide +kernel) rfl) wiX4_isThere wvX4_isThere wdX4_isThere
theorem wcX4_has : Cond.code yX4_has cX4_has 2 (some .boolean) ∈ cm_tb := cm_w 332 (by decide +kernel) rfl
theorem wdX4_has : cm_desc yX4_has 1 := ⟨by decide +kernel, by decide +kernel, by decide +kernel⟩
theorem wiX4_has : Cond.instanceMethod yX4_has ∈ cm_tb := cm_w 330 (by decide +kernel) rfl
theorem wvX4_has : Cond.selects (cm_R 4) yX4_has yX4_has ∈ cm_tb := cm_w 331 (by decide +kernel) rfl
theorem q6_283 {d d' : Nat} {mc ms : Nat} {S : cm_CT} (hM : cm_Met d' yX4_has cX4_has 2 (some .boolean) mc ms S) (hd : d' < d) : cm_Cal d 6 (.invokevirtual 283) (2, 5, mc, ms, S) := cm_calV (ci := 4) hM hd (by decide) (by decide) rfl wcX4_has (cm_w 329 (by decide +kernel) rfl) wiX4_has wvX4_has wdX4_has
theorem wcX4_get : Cond.code yX4_get cX4_get 2 (some .int) ∈ cm_tb := cm_w 336 (by decide +kernel) rfl
theorem wdX4_get : cm_desc yX4_get 1 := ⟨by decide +kernel, by decide +kernel, by decide +kernel⟩
theorem wiX4_get : Cond.instanceMethod yX4_get ∈ cm_tb := cm_w 334 (by decide +kernel) rfl
theorem wvX4_get : Cond.selects (cm_R 4) yX4_get yX4_get ∈ cm_tb := cm_w 335 (by decide +kernel) rfl
theorem q6_93 {d d' : Nat} {mc ms : Nat} {S : cm_CT} (hM : cm_Met d' yX4_get cX4_get 2 (some .int) mc ms S) (hd : d' < d) : cm_Cal d 6 (.invokevirtual 93) (2, 5, mc, ms, S) := cm_calV (ci := 4) hM hd (by decide) (by decide) rfl wcX4_get (cm_w 333 (by decide +kernel) rfl) wiX4_get wvX4_get wdX4_get
theorem q4_25 {d d' : Nat} {mc ms : Nat} {S : cm_CT} (hM : cm_Met d' yX4_has cX4_has 2 (some .boolean) mc ms S) (hd : d' < d) : cm_Cal d 4 (.invokevirtual 25) (2, 5, mc, ms, S) := cm_calV (ci := 4) hM hd (by decide) (by decide) rfl wcX4_has (cm_w 337 (by decide +kernel) rfl) wiX4_has wvX4_has wdX4_has
theorem wcX4_set : Cond.code yX4_set cX4_set 3 none ∈ cm_tb := cm_w 341 (by decide +kernel) rfl
theorem wdX4_set : cm_desc yX4_set 2 := ⟨by decide +kernel, by decide +kernel, by decide +kernel⟩
theorem wiX4_set : Cond.instanceMethod yX4_set ∈ cm_tb := cm_w 339 (by decide +kernel) rfl
theorem wvX4_set : Cond.selects (cm_R 4) yX4_set yX4_set ∈ cm_tb := cm_w 340 (by decide +kernel) rfl
theorem q6_96 {d d' : Nat} {mc ms : Nat} {S : cm_CT} (hM : cm_Met d' yX4_set cX4_set 3 none mc ms S) (hd : d' < d) : cm_Cal d 6 (.invokevirtual 96) (3, 5, mc, ms, S) := cm_calV (ci := 4) hM hd (by decide) (by decide) rfl wcX4_set (cm_w 338 (by decide +kernel) rfl) wiX4_set wvX4_set wdX4_set
theorem wcX6_tell : Cond.code yX6_tell cX6_tell 2 (some .int) ∈ cm_tb := cm_w 345 (by decide +kernel) rfl
theorem wdX6_tell : cm_desc yX6_tell 1 := ⟨by decide +kernel, by decide +kernel, by decide +kernel⟩
theorem wiX6_tell : Cond.instanceMethod yX6_tell ∈ cm_tb := cm_w 344 (by decide +kernel) rfl
theorem wvX6_tell : Cond.selects (cm_R 6) yX6_tell yX6_tell ∈ cm_tb := cm_w 2 (by decide +kernel) rfl
theorem q6_100 {d d' : Nat} {mc ms : Nat} {S : cm_CT} (hM : cm_Met d' yX6_tell cX6_tell 2 (some .int) mc ms S) (hd : d' < d) : cm_Cal d 6 (.invokevirtual 100) (2, 7, mc, ms, S) := cm_calV (ci := 6) hM hd (by decide) (by decide) rfl wcX6_tell (cm_w 342 (by decide +kernel) rfl) wiX6_tell wvX6_tell wdX6_tell
theorem wcX6_at : Cond.code yX6_at cX6_at 4 (some .int) ∈ cm_tb := cm_w 349 (by decide +kernel) rfl
theorem wdX6_at : cm_desc yX6_at 2 := ⟨by decide +kernel, by decide +kernel, by decide +kernel⟩
theorem wiX6_at : Cond.instanceMethod yX6_at ∈ cm_tb := cm_w 347 (by decide +kernel) rfl
theorem wvX6_at : Cond.selects (cm_R 6) yX6_at yX6_at ∈ cm_tb := cm_w 348 (by decide +kernel) rfl
theorem q8_23 {d d' : Nat} {mc ms : Nat} {S : cm_CT} (hM : cm_Met d' yX6_at cX6_at 4 (some .int) mc ms S) (hd : d' < d) : cm_Cal d 8 (.invokevirtual 23) (3, 7, mc, ms, S) := cm_calV (ci := 6) hM hd (by decide) (by decide) rfl wcX6_at (cm_w 346 (by decide +kernel) rfl) wiX6_at wvX6_at wdX6_at
theorem wcX6_tear : Cond.code yX6_tear cX6_tear 2 (some .int) ∈ cm_tb := cm_w 353 (by decide +kernel) rfl
theorem wdX6_tear : cm_desc yX6_tear 1 := ⟨by decide +kernel, by decide +kernel, by decide +kernel⟩
theorem wiX6_tear : Cond.instanceMethod yX6_tear ∈ cm_tb := cm_w 351 (by decide +kernel) rfl
theorem wvX6_tear : Cond.selects (cm_R 6) yX6_tear yX6_tear ∈ cm_tb := cm_w 352 (by decide +kernel) rfl
theorem q8_27 {d d' : Nat} {mc ms : Nat} {S : cm_CT} (hM : cm_Met d' yX6_tear cX6_tear 2 (some .int) mc ms S) (hd : d' < d) : cm_Cal d 8 (.invokevirtual 27) (2, 7, mc, ms, S) := cm_calV (ci := 6) hM hd (by decide) (by decide) rfl wcX6_tear (cm_w 350 (by decide +kernel) rfl) wiX6_tear wvX6_tear wdX6_tear
theorem wcX6_copy : Cond.code yX6_copy cX6_copy 6 (some .int) ∈ cm_tb := cm_w 357 (by decide +kernel) rfl
theorem wdX6_copy : cm_desc yX6_copy 5 := ⟨by decide +kernel, by decide +kernel, by decide +kernel⟩
theorem wiX6_copy : Cond.instanceMethod yX6_copy ∈ cm_tb := cm_w 355 (by decide +kernel) rfl
theorem wvX6_copy : Cond.selects (cm_R 6) yX6_copy yX6_copy ∈ cm_tb := cm_w 356 (by decide +kernel) rfl
theorem q8_32 {d d' : Nat} {mc ms : Nat} {S : cm_CT} (hM : cm_Met d' yX6_copy cX6_copy 6 (some .int) mc ms S) (hd : d' < d) : cm_Cal d 8 (.invokevirtual 32) (6, 7, mc, ms, S) := cm_calV (ci := 6) hM hd (by decide) (by decide) rfl wcX6_copy (cm_w 354 (by decide +kernel) rfl) wiX6_copy wvX6_copy wdX6_copy
theorem wcX4_hasRun : Cond.code yX4_hasRun cX4_hasRun 3 (some .boolean) ∈ cm_tb := cm_w 361 (by decide +kernel) rfl
theorem wdX4_hasRun : cm_desc yX4_hasRun 2 := ⟨by decide +kernel, by decide +kernel, by decide +kernel⟩
theorem wiX4_hasRun : Cond.instanceMethod yX4_hasRun ∈ cm_tb := cm_w 359 (by decide +kernel) rfl
theorem wvX4_hasRun : Cond.selects (cm_R 4) yX4_hasRun yX4_hasRun ∈ cm_tb := cm_w 360 (by decide +kernel) rfl
theorem q6_110 {d d' : Nat} {mc ms : Nat} {S : cm_CT} (hM : cm_Met d' yX4_hasRun cX4_hasRun 3 (some .boolean) mc ms S) (hd : d' < d) : cm_Cal d 6 (.invokevirtual 110) (3, 5, mc, ms, S) := cm_calV (ci := 4) hM hd (by decide) (by decide) rfl wcX4_hasRun (cm_w 358 (by decide +kernel) rfl) wiX4_hasRun wvX4_hasRun wdX4_hasRun
theorem q6_117 {d : Nat} : cm_Cal d 6 (.invokestatic 117) (5, 0, 0, 0, cm_Scpy) := cm_calC (cm_w 362 (by decide +kernel) rfl)
theorem wcX6_mean : Cond.code yX6_mean cX6_mean 6 (some .int) ∈ cm_tb := cm_w 368 (by decide +kernel) rfl
theorem wdX6_mean : cm_desc yX6_mean 1 := ⟨by decide +kernel, by decide +kernel, by decide +kernel⟩
theorem wiX6_mean : Cond.instanceMethod yX6_mean ∈ cm_tb := cm_w 366 (by decide +kernel) rfl
theorem wvX6_mean : Cond.selects (cm_R 6) yX6_mean yX6_mean ∈ cm_tb := cm_w 367 (by decide +kernel) rfl
theorem q8_37 {d d' : Nat} {mc ms : Nat} {S : cm_CT} (hM : cm_Met d' yX6_mean cX6_mean 6 (some .int) mc ms S) (hd : d' < d) : cm_Cal d 8 (.invokevirtual 37) (2, 7, mc, ms, S) := cm_calV (ci := 6) hM hd (by decide) (by decide) rfl wcX6_mean (cm_w 365 (by decide +kernel) rfl) wiX6_mean wvX6_mean wdX6_mean
theorem wcX6_text : Cond.code yX6_text cX6_text 3 (some .int) ∈ cm_tb := cm_w 372 (by decide +kernel) rfl
theorem wdX6_text : cm_desc yX6_text 2 := ⟨by decide +kernel, by decide +kernel, by decide +kernel⟩
theorem wiX6_text : Cond.instanceMethod yX6_text ∈ cm_tb := cm_w 370 (by decide +kernel) rfl
theorem wvX6_text : Cond.selects (cm_R 6) yX6_text yX6_text ∈ cm_tb := cm_w 371 (by decide +kernel) rfl
theorem q8_41 {d d' : Nat} {mc ms : Nat} {S : cm_CT} (hM : cm_Met d' yX6_text cX6_text 3 (some .int) mc ms S) (hd : d' < d) : cm_Cal d 8 (.invokevirtual 41) (3, 7, mc, ms, S) := cm_calV (ci := 6) hM hd (by decide) (by decide) rfl wcX6_text (cm_w 369 (by decide +kernel) rfl) wiX6_text wvX6_text wdX6_text
theorem wcX6_isText : Cond.code yX6_isText cX6_isText 1 (some .boolean) ∈ cm_tb := cm_w 375 (by decide +kernel) rfl
theorem wdX6_isText : cm_desc yX6_isText 1 := ⟨by decide +kernel, by decide +kernel, by decide +kernel⟩
theorem wsX6_isText : Cond.static yX6_isText ∈ cm_tb := cm_w 374 (by decide +kernel) rfl
theorem q6_123 {d d' : Nat} {mc ms : Nat} {S : cm_CT} (hM : cm_Met d' yX6_isText cX6_isText 1 (some .boolean) mc ms S) (hd : d' < d) : cm_Cal d 6 (.invokestatic 123) (1, 0, mc, ms, S) := cm_calS hM hd (by decide) wcX6_isText (cm_w 373 (by decide +kernel) rfl) wsX6_isText (cm_w 75 (by decide +kernel) rfl) wdX6_isText
theorem wcX6_put : Cond.code yX6_put cX6_put 6 (some .int) ∈ cm_tb := cm_w 379 (by decide +kernel) rfl
theorem wdX6_put : cm_desc yX6_put 3 := ⟨by decide +kernel, by decide +kernel, by decide +kernel⟩
theorem wiX6_put : Cond.instanceMethod yX6_put ∈ cm_tb := cm_w 377 (by decide +kernel) rfl
theorem wvX6_put : Cond.selects (cm_R 6) yX6_put yX6_put ∈ cm_tb := cm_w 378 (by decide +kernel) rfl
theorem q8_45 {d d' : Nat} {mc ms : Nat} {S : cm_CT} (hM : cm_Met d' yX6_put cX6_put 6 (some .int) mc ms S) (hd : d' < d) : cm_Cal d 8 (.invokevirtual 45) (4, 7, mc, ms, S) := cm_calV (ci := 6) hM hd (by decide) (by decide) rfl wcX6_put (cm_w 376 (by decide +kernel) rfl) wiX6_put wvX6_put wdX6_put
theorem wcX6_fault : Cond.code yX6_fault cX6_fault 2 (some .int) ∈ cm_tb := cm_w 383 (by decide +kernel) rfl
theorem wdX6_fault : cm_desc yX6_fault 1 := ⟨by decide +kernel, by decide +kernel, by decide +kernel⟩
theorem wiX6_fault : Cond.instanceMethod yX6_fault ∈ cm_tb := cm_w 381 (by decide +kernel) rfl
theorem wvX6_fault : Cond.selects (cm_R 6) yX6_fault yX6_fault ∈ cm_tb := cm_w 382 (by decide +kernel) rfl
theorem q8_49 {d d' : Nat} {mc ms : Nat} {S : cm_CT} (hM : cm_Met d' yX6_fault cX6_fault 2 (some .int) mc ms S) (hd : d' < d) : cm_Cal d 8 (.invokevirtual 49) (2, 7, mc, ms, S) := cm_calV (ci := 6) hM hd (by decide) (by decide) rfl wcX6_fault (cm_w 380 (by decide +kernel) rfl) wiX6_fault wvX6_fault wdX6_fault
theorem wcX6_readTree : Cond.code yX6_readTree cX6_readTree 5 (some .int) ∈ cm_tb := cm_w 386 (by decide +kernel) rfl
theorem wdX6_readTree : cm_desc yX6_readTree 2 := ⟨by decide +kernel, by decide +kernel, by decide +kernel⟩
theorem wsX6_readTree : Cond.static yX6_readTree ∈ cm_tb := cm_w 385 (by decide +kernel) rfl
theorem q6_126 {d d' : Nat} {mc ms : Nat} {S : cm_CT} (hM : cm_Met d' yX6_readTree cX6_readTree 5 (some .int) mc ms S) (hd : d' < d) : cm_Cal d 6 (.invokestatic 126) (2, 0, mc, ms, S) := cm_calS hM hd (by decide) wcX6_readTree (cm_w 384 (by decide +kernel) rfl) wsX6_readTree (cm_w 75 (by decide +kernel) rfl) wdX6_readTree
theorem wcX5_clear : Cond.code yX5_clear cX5_clear 2 none ∈ cm_tb := cm_w 390 (by decide +kernel) rfl
theorem wdX5_clear : cm_desc yX5_clear 0 := ⟨by decide +kernel, by decide +kernel, by decide +kernel⟩
theorem wiX5_clear : Cond.instanceMethod yX5_clear ∈ cm_tb := cm_w 388 (by decide +kernel) rfl
theorem wvX5_clear : Cond.selects (cm_R 5) yX5_clear yX5_clear ∈ cm_tb := cm_w 389 (by decide +kernel) rfl
theorem q6_287 {d d' : Nat} {mc ms : Nat} {S : cm_CT} (hM : cm_Met d' yX5_clear cX5_clear 2 none mc ms S) (hd : d' < d) : cm_Cal d 6 (.invokevirtual 287) (1, 6, mc, ms, S) := cm_calV (ci := 5) hM hd (by decide) (by decide) rfl wcX5_clear (cm_w 387 (by decide +kernel) rfl) wiX5_clear wvX5_clear wdX5_clear
theorem wcX4_append : Cond.code yX4_append cX4_append 2 none ∈ cm_tb := cm_w 394 (by decide +kernel) rfl
theorem wdX4_append : cm_desc yX4_append 1 := ⟨by decide +kernel, by decide +kernel, by decide +kernel⟩
theorem wiX4_append : Cond.instanceMethod yX4_append ∈ cm_tb := cm_w 392 (by decide +kernel) rfl
theorem wvX4_append : Cond.selects (cm_R 4) yX4_append yX4_append ∈ cm_tb := cm_w 393 (by decide +kernel) rfl
theorem q6_290 {d d' : Nat} {mc ms : Nat} {S : cm_CT} (hM : cm_Met d' yX4_append cX4_append 2 none mc ms S) (hd : d' < d) : cm_Cal d 6 (.invokevirtual 290) (2, 5, mc, ms, S) := cm_calV (ci := 4) hM hd (by decide) (by decide) rfl wcX4_append (cm_w 391 (by decide +kernel) rfl) wiX4_append wvX4_append wdX4_append
theorem wcX6_book : Cond.code yX6_book cX6_book 3 (some .int) ∈ cm_tb := cm_w 398 (by decide +kernel) rfl
theorem wdX6_book : cm_desc yX6_book 1 := ⟨by decide +kernel, by decide +kernel, by decide +kernel⟩
theorem wiX6_book : Cond.instanceMethod yX6_book ∈ cm_tb := cm_w 396 (by decide +kernel) rfl
theorem wvX6_book : Cond.selects (cm_R 6) yX6_book yX6_book ∈ cm_tb := cm_w 397 (by decide +kernel) rfl
theorem q8_53 {d d' : Nat} {mc ms : Nat} {S : cm_CT} (hM : cm_Met d' yX6_book cX6_book 3 (some .int) mc ms S) (hd : d' < d) : cm_Cal d 8 (.invokevirtual 53) (2, 7, mc, ms, S) := cm_calV (ci := 6) hM hd (by decide) (by decide) rfl wcX6_book (cm_w 395 (by decide +kernel) rfl) wiX6_book wvX6_book wdX6_book
theorem wcX0_add : Cond.code yX0_add cX0_add 5 (some .int) ∈ cm_tb := cm_w 402 (by decide +kernel) rfl
theorem wdX0_add : cm_desc yX0_add 3 := ⟨by decide +kernel, by decide +kernel, by decide +kernel⟩
theorem wiX0_add : Cond.instanceMethod yX0_add ∈ cm_tb := cm_w 400 (by decide +kernel) rfl
theorem wvX0_add : Cond.selects (cm_R 0) yX0_add yX0_add ∈ cm_tb := cm_w 401 (by decide +kernel) rfl
theorem q6_131 {d d' : Nat} {mc ms : Nat} {S : cm_CT} (hM : cm_Met d' yX0_add cX0_add 5 (some .int) mc ms S) (hd : d' < d) : cm_Cal d 6 (.invokevirtual 131) (4, 1, mc, ms, S) := cm_calV (ci := 0) hM hd (by decide) (by decide) rfl wcX0_add (cm_w 399 (by decide +kernel) rfl) wiX0_add wvX0_add wdX0_add
theorem wcX0_isFull : Cond.code yX0_isFull cX0_isFull 1 (some .boolean) ∈ cm_tb := cm_w 406 (by decide +kernel) rfl
theorem wdX0_isFull : cm_desc yX0_isFull 0 := ⟨by decide +kernel, by decide +kernel, by decide +kernel⟩
theorem wiX0_isFull : Cond.instanceMethod yX0_isFull ∈ cm_tb := cm_w 404 (by decide +kernel) rfl
theorem wvX0_isFull : Cond.selects (cm_R 0) yX0_isFull yX0_isFull ∈ cm_tb := cm_w 405 (by decide +kernel) rfl
theorem q0_36 {d d' : Nat} {mc ms : Nat} {S : cm_CT} (hM : cm_Met d' yX0_isFull cX0_isFull 1 (some .boolean) mc ms S) (hd : d' < d) : cm_Cal d 0 (.invokevirtual 36) (1, 1, mc, ms, S) := cm_calV (ci := 0) hM hd (by decide) (by decide) rfl wcX0_isFull (cm_w 403 (by decide +kernel) rfl) wiX0_isFull wvX0_isFull wdX0_isFull
theorem wcX5_become : Cond.code yX5_become cX5_become 3 none ∈ cm_tb := cm_w 410 (by decide +kernel) rfl
theorem wdX5_become : cm_desc yX5_become 1 := ⟨by decide +kernel, by decide +kernel, by decide +kernel⟩
theorem wiX5_become : Cond.instanceMethod yX5_become ∈ cm_tb := cm_w 408 (by decide +kernel) rfl
theorem wvX5_become : Cond.selects (cm_R 5) yX5_become yX5_become ∈ cm_tb := cm_w 409 (by decide +kernel) rfl
theorem q0_40 {d d' : Nat} {mc ms : Nat} {S : cm_CT} (hM : cm_Met d' yX5_become cX5_become 3 none mc ms S) (hd : d' < d) : cm_Cal d 0 (.invokevirtual 40) (2, 6, mc, ms, S) := cm_calV (ci := 5) hM hd (by decide) (by decide) rfl wcX5_become (cm_w 407 (by decide +kernel) rfl) wiX5_become wvX5_become wdX5_become
theorem wcX4_become : Cond.code yX4_become cX4_become 2 none ∈ cm_tb := cm_w 414 (by decide +kernel) rfl
theorem wdX4_become : cm_desc yX4_become 1 := ⟨by decide +kernel, by decide +kernel, by decide +kernel⟩
theorem wiX4_become : Cond.instanceMethod yX4_become ∈ cm_tb := cm_w 412 (by decide +kernel) rfl
theorem wvX4_become : Cond.selects (cm_R 4) yX4_become yX4_become ∈ cm_tb := cm_w 413 (by decide +kernel) rfl
theorem q5_27 {d d' : Nat} {mc ms : Nat} {S : cm_CT} (hM : cm_Met d' yX4_become cX4_become 2 none mc ms S) (hd : d' < d) : cm_Cal d 5 (.invokevirtual 27) (2, 5, mc, ms, S) := cm_calV (ci := 4) hM hd (by decide) (by decide) rfl wcX4_become (cm_w 411 (by decide +kernel) rfl) wiX4_become wvX4_become wdX4_become
theorem q4_32 {d : Nat} : cm_Cal d 4 (.invokestatic 32) (5, 0, 0, 0, cm_Scpy) := cm_calC (cm_w 415 (by decide +kernel) rfl)
theorem wcX0_ancestorsOf : Cond.code yX0_ancestorsOf cX0_ancestorsOf 2 (some .int) ∈ cm_tb := cm_w 419 (by decide +kernel) rfl
theorem wdX0_ancestorsOf : cm_desc yX0_ancestorsOf 1 := ⟨by decide +kernel, by decide +kernel, by decide +kernel⟩
theorem wiX0_ancestorsOf : Cond.instanceMethod yX0_ancestorsOf ∈ cm_tb := cm_w 418 (by decide +kernel) rfl
theorem wvX0_ancestorsOf : Cond.selects (cm_R 0) yX0_ancestorsOf yX0_ancestorsOf ∈ cm_tb := cm_w 3 (by decide +kernel) rfl
theorem q0_44 {d d' : Nat} {mc ms : Nat} {S : cm_CT} (hM : cm_Met d' yX0_ancestorsOf cX0_ancestorsOf 2 (some .int) mc ms S) (hd : d' < d) : cm_Cal d 0 (.invokevirtual 44) (2, 1, mc, ms, S) := cm_calV (ci := 0) hM hd (by decide) (by decide) rfl wcX0_ancestorsOf (cm_w 416 (by decide +kernel) rfl) wiX0_ancestorsOf wvX0_ancestorsOf wdX0_ancestorsOf
theorem wcX0_has : Cond.code yX0_has cX0_has 2 (some .boolean) ∈ cm_tb := cm_w 423 (by decide +kernel) rfl
theorem wdX0_has : cm_desc yX0_has 1 := ⟨by decide +kernel, by decide +kernel, by decide +kernel⟩
theorem wiX0_has : Cond.instanceMethod yX0_has ∈ cm_tb := cm_w 421 (by decide +kernel) rfl
theorem wvX0_has : Cond.selects (cm_R 0) yX0_has yX0_has ∈ cm_tb := cm_w 422 (by decide +kernel) rfl
theorem q0_48 {d d' : Nat} {mc ms : Nat} {S : cm_CT} (hM : cm_Met d' yX0_has cX0_has 2 (some .boolean) mc ms S) (hd : d' < d) : cm_Cal d 0 (.invokevirtual 48) (2, 1, mc, ms, S) := cm_calV (ci := 0) hM hd (by decide) (by decide) rfl wcX0_has (cm_w 420 (by decide +kernel) rfl) wiX0_has wvX0_has wdX0_has
theorem wcX5_present : Cond.code yX5_present cX5_present 3 (some .int) ∈ cm_tb := cm_w 427 (by decide +kernel) rfl
theorem wdX5_present : cm_desc yX5_present 0 := ⟨by decide +kernel, by decide +kernel, by decide +kernel⟩
theorem wiX5_present : Cond.instanceMethod yX5_present ∈ cm_tb := cm_w 425 (by decide +kernel) rfl
theorem wvX5_present : Cond.selects (cm_R 5) yX5_present yX5_present ∈ cm_tb := cm_w 426 (by decide +kernel) rfl
theorem q6_135 {d d' : Nat} {mc ms : Nat} {S : cm_CT} (hM : cm_Met d' yX5_present cX5_present 3 (some .int) mc ms S) (hd : d' < d) : cm_Cal d 6 (.invokevirtual 135) (1, 6, mc, ms, S) := cm_calV (ci := 5) hM hd (by decide) (by decide) rfl wcX5_present (cm_w 424 (by decide +kernel) rfl) wiX5_present wvX5_present wdX5_present
theorem q5_35 {d d' : Nat} {mc ms : Nat} {S : cm_CT} (hM : cm_Met d' yX4_isThere cX4_isThere 1 (some .boolean) mc ms S) (hd : d' < d) : cm_Cal d 5 (.invokevirtual 35) (1, 5, mc, ms, S) := cm_calV (ci := 4) hM hd (by decide) (by decide) rfl wcX4_isThere (cm_w 428 (by decide +kernel) rfl) wiX4_isThere wvX4_isThere wdX4_isThere
theorem wcJ6_bitCount_0f7a4 : Cond.code yJ6_bitCount_0f7a4 cJ6_bitCount_0f7a4 1 (some .int) ∈ cm_tb := cm_w 431 (by decide +kernel) rfl
theorem wdJ6_bitCount_0f7a4 : cm_desc yJ6_bitCount_0f7a4 1 := ⟨by decide +kernel, by decide +kernel, by decide +kernel⟩
theorem wsJ6_bitCount_0f7a4 : Cond.static yJ6_bitCount_0f7a4 ∈ cm_tb := cm_w 430 (by decide +kernel) rfl
theorem q6_139 {d d' : Nat} {mc ms : Nat} {S : cm_CT} (hM : cm_Met d' yJ6_bitCount_0f7a4 cJ6_bitCount_0f7a4 1 (some .int) mc ms S) (hd : d' < d) : cm_Cal d 6 (.invokestatic 139) (1, 0, mc, ms, S) := cm_calS hM hd (by decide) wcJ6_bitCount_0f7a4 (cm_w 429 (by decide +kernel) rfl) wsJ6_bitCount_0f7a4 (cm_w 85 (by decide +kernel) rfl) wdJ6_bitCount_0f7a4
theorem wcX6_version : Cond.code yX6_version cX6_version 3 (some .int) ∈ cm_tb := cm_w 438 (by decide +kernel) rfl
theorem wdX6_version : cm_desc yX6_version 2 := ⟨by decide +kernel, by decide +kernel, by decide +kernel⟩
theorem wiX6_version : Cond.instanceMethod yX6_version ∈ cm_tb := cm_w 436 (by decide +kernel) rfl
theorem wvX6_version : Cond.selects (cm_R 6) yX6_version yX6_version ∈ cm_tb := cm_w 437 (by decide +kernel) rfl
theorem q8_57 {d d' : Nat} {mc ms : Nat} {S : cm_CT} (hM : cm_Met d' yX6_version cX6_version 3 (some .int) mc ms S) (hd : d' < d) : cm_Cal d 8 (.invokevirtual 57) (3, 7, mc, ms, S) := cm_calV (ci := 6) hM hd (by decide) (by decide) rfl wcX6_version (cm_w 435 (by decide +kernel) rfl) wiX6_version wvX6_version wdX6_version
theorem q6_144 {d d' : Nat} {mc ms : Nat} {S : cm_CT} (hM : cm_Met d' yX0_has cX0_has 2 (some .boolean) mc ms S) (hd : d' < d) : cm_Cal d 6 (.invokevirtual 144) (2, 1, mc, ms, S) := cm_calV (ci := 0) hM hd (by decide) (by decide) rfl wcX0_has (cm_w 439 (by decide +kernel) rfl) wiX0_has wvX0_has wdX0_has
theorem wcX6_traitOf : Cond.code yX6_traitOf cX6_traitOf 4 (some .int) ∈ cm_tb := cm_w 443 (by decide +kernel) rfl
theorem wdX6_traitOf : cm_desc yX6_traitOf 2 := ⟨by decide +kernel, by decide +kernel, by decide +kernel⟩
theorem wiX6_traitOf : Cond.instanceMethod yX6_traitOf ∈ cm_tb := cm_w 442 (by decide +kernel) rfl
theorem wvX6_traitOf : Cond.selects (cm_R 6) yX6_traitOf yX6_traitOf ∈ cm_tb := cm_w 4 (by decide +kernel) rfl
theorem q6_147 {d d' : Nat} {mc ms : Nat} {S : cm_CT} (hM : cm_Met d' yX6_traitOf cX6_traitOf 4 (some .int) mc ms S) (hd : d' < d) : cm_Cal d 6 (.invokevirtual 147) (3, 7, mc, ms, S) := cm_calV (ci := 6) hM hd (by decide) (by decide) rfl wcX6_traitOf (cm_w 440 (by decide +kernel) rfl) wiX6_traitOf wvX6_traitOf wdX6_traitOf
theorem wcX0_kindOf : Cond.code yX0_kindOf cX0_kindOf 2 (some .int) ∈ cm_tb := cm_w 447 (by decide +kernel) rfl
theorem wdX0_kindOf : cm_desc yX0_kindOf 1 := ⟨by decide +kernel, by decide +kernel, by decide +kernel⟩
theorem wiX0_kindOf : Cond.instanceMethod yX0_kindOf ∈ cm_tb := cm_w 445 (by decide +kernel) rfl
theorem wvX0_kindOf : Cond.selects (cm_R 0) yX0_kindOf yX0_kindOf ∈ cm_tb := cm_w 446 (by decide +kernel) rfl
theorem q6_151 {d d' : Nat} {mc ms : Nat} {S : cm_CT} (hM : cm_Met d' yX0_kindOf cX0_kindOf 2 (some .int) mc ms S) (hd : d' < d) : cm_Cal d 6 (.invokevirtual 151) (2, 1, mc, ms, S) := cm_calV (ci := 0) hM hd (by decide) (by decide) rfl wcX0_kindOf (cm_w 444 (by decide +kernel) rfl) wiX0_kindOf wvX0_kindOf wdX0_kindOf
theorem wcX0_nearestOf : Cond.code yX0_nearestOf cX0_nearestOf 6 (some .int) ∈ cm_tb := cm_w 451 (by decide +kernel) rfl
theorem wdX0_nearestOf : cm_desc yX0_nearestOf 2 := ⟨by decide +kernel, by decide +kernel, by decide +kernel⟩
theorem wiX0_nearestOf : Cond.instanceMethod yX0_nearestOf ∈ cm_tb := cm_w 449 (by decide +kernel) rfl
theorem wvX0_nearestOf : Cond.selects (cm_R 0) yX0_nearestOf yX0_nearestOf ∈ cm_tb := cm_w 450 (by decide +kernel) rfl
theorem q0_59 {d d' : Nat} {mc ms : Nat} {S : cm_CT} (hM : cm_Met d' yX0_nearestOf cX0_nearestOf 6 (some .int) mc ms S) (hd : d' < d) : cm_Cal d 0 (.invokevirtual 59) (3, 1, mc, ms, S) := cm_calV (ci := 0) hM hd (by decide) (by decide) rfl wcX0_nearestOf (cm_w 448 (by decide +kernel) rfl) wiX0_nearestOf wvX0_nearestOf wdX0_nearestOf
theorem q0_63 {d d' : Nat} {mc ms : Nat} {S : cm_CT} (hM : cm_Met d' yJ6_bitCount_0f7a4 cJ6_bitCount_0f7a4 1 (some .int) mc ms S) (hd : d' < d) : cm_Cal d 0 (.invokestatic 63) (1, 0, mc, ms, S) := cm_calS hM hd (by decide) wcJ6_bitCount_0f7a4 (cm_w 452 (by decide +kernel) rfl) wsJ6_bitCount_0f7a4 (cm_w 85 (by decide +kernel) rfl) wdJ6_bitCount_0f7a4
theorem wcX5_total : Cond.code yX5_total cX5_total 4 (some .int) ∈ cm_tb := cm_w 456 (by decide +kernel) rfl
theorem wdX5_total : cm_desc yX5_total 1 := ⟨by decide +kernel, by decide +kernel, by decide +kernel⟩
theorem wiX5_total : Cond.instanceMethod yX5_total ∈ cm_tb := cm_w 454 (by decide +kernel) rfl
theorem wvX5_total : Cond.selects (cm_R 5) yX5_total yX5_total ∈ cm_tb := cm_w 455 (by decide +kernel) rfl
theorem q6_199 {d d' : Nat} {mc ms : Nat} {S : cm_CT} (hM : cm_Met d' yX5_total cX5_total 4 (some .int) mc ms S) (hd : d' < d) : cm_Cal d 6 (.invokevirtual 199) (2, 6, mc, ms, S) := cm_calV (ci := 5) hM hd (by decide) (by decide) rfl wcX5_total (cm_w 453 (by decide +kernel) rfl) wiX5_total wvX5_total wdX5_total
theorem wcX5_measure : Cond.code yX5_measure cX5_measure 8 (some .int) ∈ cm_tb := cm_w 459 (by decide +kernel) rfl
theorem wdX5_measure : cm_desc yX5_measure 2 := ⟨by decide +kernel, by decide +kernel, by decide +kernel⟩
theorem wsX5_measure : Cond.static yX5_measure ∈ cm_tb := cm_w 458 (by decide +kernel) rfl
theorem q5_39 {d d' : Nat} {mc ms : Nat} {S : cm_CT} (hM : cm_Met d' yX5_measure cX5_measure 8 (some .int) mc ms S) (hd : d' < d) : cm_Cal d 5 (.invokestatic 39) (2, 0, mc, ms, S) := cm_calS hM hd (by decide) wcX5_measure (cm_w 457 (by decide +kernel) rfl) wsX5_measure (cm_w 77 (by decide +kernel) rfl) wdX5_measure
theorem q5_49 {d d' : Nat} {mc ms : Nat} {S : cm_CT} (hM : cm_Met d' yX4_get cX4_get 2 (some .int) mc ms S) (hd : d' < d) : cm_Cal d 5 (.invokevirtual 49) (2, 5, mc, ms, S) := cm_calV (ci := 4) hM hd (by decide) (by decide) rfl wcX4_get (cm_w 460 (by decide +kernel) rfl) wiX4_get wvX4_get wdX4_get
theorem q5_43 {d d' : Nat} {mc ms : Nat} {S : cm_CT} (hM : cm_Met d' yJ9_max_7cf53 cJ9_max_7cf53 2 (some .int) mc ms S) (hd : d' < d) : cm_Cal d 5 (.invokestatic 43) (2, 0, mc, ms, S) := cm_calS hM hd (by decide) wcJ9_max_7cf53 (cm_w 461 (by decide +kernel) rfl) wsJ9_max_7cf53 (cm_w 79 (by decide +kernel) rfl) wdJ9_max_7cf53
theorem wcX5_deepest : Cond.code yX5_deepest cX5_deepest 3 (some .int) ∈ cm_tb := cm_w 465 (by decide +kernel) rfl
theorem wdX5_deepest : cm_desc yX5_deepest 0 := ⟨by decide +kernel, by decide +kernel, by decide +kernel⟩
theorem wiX5_deepest : Cond.instanceMethod yX5_deepest ∈ cm_tb := cm_w 463 (by decide +kernel) rfl
theorem wvX5_deepest : Cond.selects (cm_R 5) yX5_deepest yX5_deepest ∈ cm_tb := cm_w 464 (by decide +kernel) rfl
theorem q6_293 {d d' : Nat} {mc ms : Nat} {S : cm_CT} (hM : cm_Met d' yX5_deepest cX5_deepest 3 (some .int) mc ms S) (hd : d' < d) : cm_Cal d 6 (.invokevirtual 293) (1, 6, mc, ms, S) := cm_calV (ci := 5) hM hd (by decide) (by decide) rfl wcX5_deepest (cm_w 462 (by decide +kernel) rfl) wiX5_deepest wvX5_deepest wdX5_deepest
theorem wcX6_mark : Cond.code yX6_mark cX6_mark 5 (some .int) ∈ cm_tb := cm_w 469 (by decide +kernel) rfl
theorem wdX6_mark : cm_desc yX6_mark 2 := ⟨by decide +kernel, by decide +kernel, by decide +kernel⟩
theorem wiX6_mark : Cond.instanceMethod yX6_mark ∈ cm_tb := cm_w 467 (by decide +kernel) rfl
theorem wvX6_mark : Cond.selects (cm_R 6) yX6_mark yX6_mark ∈ cm_tb := cm_w 468 (by decide +kernel) rfl
theorem q8_61 {d d' : Nat} {mc ms : Nat} {S : cm_CT} (hM : cm_Met d' yX6_mark cX6_mark 5 (some .int) mc ms S) (hd : d' < d) : cm_Cal d 8 (.invokevirtual 61) (3, 7, mc, ms, S) := cm_calV (ci := 6) hM hd (by decide) (by decide) rfl wcX6_mark (cm_w 466 (by decide +kernel) rfl) wiX6_mark wvX6_mark wdX6_mark
theorem wcX6_howFarApart : Cond.code yX6_howFarApart cX6_howFarApart 5 (some .int) ∈ cm_tb := cm_w 473 (by decide +kernel) rfl
theorem wdX6_howFarApart : cm_desc yX6_howFarApart 2 := ⟨by decide +kernel, by decide +kernel, by decide +kernel⟩
theorem wiX6_howFarApart : Cond.instanceMethod yX6_howFarApart ∈ cm_tb := cm_w 472 (by decide +kernel) rfl
theorem wvX6_howFarApart : Cond.selects (cm_R 6) yX6_howFarApart yX6_howFarApart ∈ cm_tb := cm_w 5 (by decide +kernel) rfl
theorem q6_161 {d d' : Nat} {mc ms : Nat} {S : cm_CT} (hM : cm_Met d' yX6_howFarApart cX6_howFarApart 5 (some .int) mc ms S) (hd : d' < d) : cm_Cal d 6 (.invokevirtual 161) (3, 7, mc, ms, S) := cm_calV (ci := 6) hM hd (by decide) (by decide) rfl wcX6_howFarApart (cm_w 470 (by decide +kernel) rfl) wiX6_howFarApart wvX6_howFarApart wdX6_howFarApart
theorem wcX1_takeFile : Cond.code yX1_takeFile cX1_takeFile 2 none ∈ cm_tb := cm_w 477 (by decide +kernel) rfl
theorem wdX1_takeFile : cm_desc yX1_takeFile 1 := ⟨by decide +kernel, by decide +kernel, by decide +kernel⟩
theorem wiX1_takeFile : Cond.instanceMethod yX1_takeFile ∈ cm_tb := cm_w 475 (by decide +kernel) rfl
theorem wvX1_takeFile : Cond.selects (cm_R 1) yX1_takeFile yX1_takeFile ∈ cm_tb := cm_w 476 (by decide +kernel) rfl
theorem q6_255 {d d' : Nat} {mc ms : Nat} {S : cm_CT} (hM : cm_Met d' yX1_takeFile cX1_takeFile 2 none mc ms S) (hd : d' < d) : cm_Cal d 6 (.invokevirtual 255) (2, 2, mc, ms, S) := cm_calV (ci := 1) hM hd (by decide) (by decide) rfl wcX1_takeFile (cm_w 474 (by decide +kernel) rfl) wiX1_takeFile wvX1_takeFile wdX1_takeFile
theorem wcX1_add : Cond.code yX1_add cX1_add 6 none ∈ cm_tb := cm_w 481 (by decide +kernel) rfl
theorem wdX1_add : cm_desc yX1_add 1 := ⟨by decide +kernel, by decide +kernel, by decide +kernel⟩
theorem wiX1_add : Cond.instanceMethod yX1_add ∈ cm_tb := cm_w 480 (by decide +kernel) rfl
theorem wvX1_add : Cond.selects (cm_R 1) yX1_add yX1_add ∈ cm_tb := cm_w 6 (by decide +kernel) rfl
theorem q1_22 {d d' : Nat} {mc ms : Nat} {S : cm_CT} (hM : cm_Met d' yX1_add cX1_add 6 none mc ms S) (hd : d' < d) : cm_Cal d 1 (.invokevirtual 22) (2, 2, mc, ms, S) := cm_calV (ci := 1) hM hd (by decide) (by decide) rfl wcX1_add (cm_w 478 (by decide +kernel) rfl) wiX1_add wvX1_add wdX1_add
theorem wcX2_mostMatched : Cond.code yX2_mostMatched cX2_mostMatched 8 (some .int) ∈ cm_tb := cm_w 485 (by decide +kernel) rfl
theorem wdX2_mostMatched : cm_desc yX2_mostMatched 2 := ⟨by decide +kernel, by decide +kernel, by decide +kernel⟩
theorem wiX2_mostMatched : Cond.instanceMethod yX2_mostMatched ∈ cm_tb := cm_w 483 (by decide +kernel) rfl
theorem wvX2_mostMatched : Cond.selects (cm_R 2) yX2_mostMatched yX2_mostMatched ∈ cm_tb := cm_w 484 (by decide +kernel) rfl
theorem q6_337 {d d' : Nat} {mc ms : Nat} {S : cm_CT} (hM : cm_Met d' yX2_mostMatched cX2_mostMatched 8 (some .int) mc ms S) (hd : d' < d) : cm_Cal d 6 (.invokevirtual 337) (3, 3, mc, ms, S) := cm_calV (ci := 2) hM hd (by decide) (by decide) rfl wcX2_mostMatched (cm_w 482 (by decide +kernel) rfl) wiX2_mostMatched wvX2_mostMatched wdX2_mostMatched
theorem q2_21 {d d' : Nat} {mc ms : Nat} {S : cm_CT} (hM : cm_Met d' yJ9_min_7cf53 cJ9_min_7cf53 2 (some .int) mc ms S) (hd : d' < d) : cm_Cal d 2 (.invokestatic 21) (2, 0, mc, ms, S) := cm_calS hM hd (by decide) wcJ9_min_7cf53 (cm_w 486 (by decide +kernel) rfl) wsJ9_min_7cf53 (cm_w 79 (by decide +kernel) rfl) wdJ9_min_7cf53
theorem wcX1_isRunLike : Cond.code yX1_isRunLike cX1_isRunLike 10 (some .boolean) ∈ cm_tb := cm_w 490 (by decide +kernel) rfl
theorem wdX1_isRunLike : cm_desc yX1_isRunLike 5 := ⟨by decide +kernel, by decide +kernel, by decide +kernel⟩
theorem wiX1_isRunLike : Cond.instanceMethod yX1_isRunLike ∈ cm_tb := cm_w 488 (by decide +kernel) rfl
theorem wvX1_isRunLike : Cond.selects (cm_R 1) yX1_isRunLike yX1_isRunLike ∈ cm_tb := cm_w 489 (by decide +kernel) rfl
theorem q2_27 {d d' : Nat} {mc ms : Nat} {S : cm_CT} (hM : cm_Met d' yX1_isRunLike cX1_isRunLike 10 (some .boolean) mc ms S) (hd : d' < d) : cm_Cal d 2 (.invokevirtual 27) (6, 2, mc, ms, S) := cm_calV (ci := 1) hM hd (by decide) (by decide) rfl wcX1_isRunLike (cm_w 487 (by decide +kernel) rfl) wiX1_isRunLike wvX1_isRunLike wdX1_isRunLike
theorem q2_31 {d d' : Nat} {mc ms : Nat} {S : cm_CT} (hM : cm_Met d' yJ9_max_7cf53 cJ9_max_7cf53 2 (some .int) mc ms S) (hd : d' < d) : cm_Cal d 2 (.invokestatic 31) (2, 0, mc, ms, S) := cm_calS hM hd (by decide) wcJ9_max_7cf53 (cm_w 491 (by decide +kernel) rfl) wsJ9_max_7cf53 (cm_w 79 (by decide +kernel) rfl) wdJ9_max_7cf53
theorem q6_167 {d d' : Nat} {mc ms : Nat} {S : cm_CT} (hM : cm_Met d' yX0_nearestOf cX0_nearestOf 6 (some .int) mc ms S) (hd : d' < d) : cm_Cal d 6 (.invokevirtual 167) (3, 1, mc, ms, S) := cm_calV (ci := 0) hM hd (by decide) (by decide) rfl wcX0_nearestOf (cm_w 492 (by decide +kernel) rfl) wiX0_nearestOf wvX0_nearestOf wdX0_nearestOf
theorem wcX6_file : Cond.code yX6_file cX6_file 4 (some .int) ∈ cm_tb := cm_w 496 (by decide +kernel) rfl
theorem wdX6_file : cm_desc yX6_file 3 := ⟨by decide +kernel, by decide +kernel, by decide +kernel⟩
theorem wiX6_file : Cond.instanceMethod yX6_file ∈ cm_tb := cm_w 494 (by decide +kernel) rfl
theorem wvX6_file : Cond.selects (cm_R 6) yX6_file yX6_file ∈ cm_tb := cm_w 495 (by decide +kernel) rfl
theorem q8_65 {d d' : Nat} {mc ms : Nat} {S : cm_CT} (hM : cm_Met d' yX6_file cX6_file 4 (some .int) mc ms S) (hd : d' < d) : cm_Cal d 8 (.invokevirtual 65) (4, 7, mc, ms, S) := cm_calV (ci := 6) hM hd (by decide) (by decide) rfl wcX6_file (cm_w 493 (by decide +kernel) rfl) wiX6_file wvX6_file wdX6_file
theorem wcX6_hasFile : Cond.code yX6_hasFile cX6_hasFile 3 (some .boolean) ∈ cm_tb := cm_w 500 (by decide +kernel) rfl
theorem wdX6_hasFile : cm_desc yX6_hasFile 2 := ⟨by decide +kernel, by decide +kernel, by decide +kernel⟩
theorem wiX6_hasFile : Cond.instanceMethod yX6_hasFile ∈ cm_tb := cm_w 499 (by decide +kernel) rfl
theorem wvX6_hasFile : Cond.selects (cm_R 6) yX6_hasFile yX6_hasFile ∈ cm_tb := cm_w 7 (by decide +kernel) rfl
theorem q6_170 {d d' : Nat} {mc ms : Nat} {S : cm_CT} (hM : cm_Met d' yX6_hasFile cX6_hasFile 3 (some .boolean) mc ms S) (hd : d' < d) : cm_Cal d 6 (.invokevirtual 170) (3, 7, mc, ms, S) := cm_calV (ci := 6) hM hd (by decide) (by decide) rfl wcX6_hasFile (cm_w 497 (by decide +kernel) rfl) wiX6_hasFile wvX6_hasFile wdX6_hasFile
theorem wcX6_writtenOut : Cond.code yX6_writtenOut cX6_writtenOut 3 (some .int) ∈ cm_tb := cm_w 504 (by decide +kernel) rfl
theorem wdX6_writtenOut : cm_desc yX6_writtenOut 2 := ⟨by decide +kernel, by decide +kernel, by decide +kernel⟩
theorem wiX6_writtenOut : Cond.instanceMethod yX6_writtenOut ∈ cm_tb := cm_w 503 (by decide +kernel) rfl
theorem wvX6_writtenOut : Cond.selects (cm_R 6) yX6_writtenOut yX6_writtenOut ∈ cm_tb := cm_w 8 (by decide +kernel) rfl
theorem q6_176 {d d' : Nat} {mc ms : Nat} {S : cm_CT} (hM : cm_Met d' yX6_writtenOut cX6_writtenOut 3 (some .int) mc ms S) (hd : d' < d) : cm_Cal d 6 (.invokevirtual 176) (3, 7, mc, ms, S) := cm_calV (ci := 6) hM hd (by decide) (by decide) rfl wcX6_writtenOut (cm_w 501 (by decide +kernel) rfl) wiX6_writtenOut wvX6_writtenOut wdX6_writtenOut
theorem q6_212 {d d' : Nat} {mc ms : Nat} {S : cm_CT} (hM : cm_Met d' yX4_become cX4_become 2 none mc ms S) (hd : d' < d) : cm_Cal d 6 (.invokevirtual 212) (2, 5, mc, ms, S) := cm_calV (ci := 4) hM hd (by decide) (by decide) rfl wcX4_become (cm_w 505 (by decide +kernel) rfl) wiX4_become wvX4_become wdX4_become
theorem wcX6_lines : Cond.code yX6_lines cX6_lines 4 (some .int) ∈ cm_tb := cm_w 509 (by decide +kernel) rfl
theorem wdX6_lines : cm_desc yX6_lines 2 := ⟨by decide +kernel, by decide +kernel, by decide +kernel⟩
theorem wiX6_lines : Cond.instanceMethod yX6_lines ∈ cm_tb := cm_w 507 (by decide +kernel) rfl
theorem wvX6_lines : Cond.selects (cm_R 6) yX6_lines yX6_lines ∈ cm_tb := cm_w 508 (by decide +kernel) rfl
theorem q8_69 {d d' : Nat} {mc ms : Nat} {S : cm_CT} (hM : cm_Met d' yX6_lines cX6_lines 4 (some .int) mc ms S) (hd : d' < d) : cm_Cal d 8 (.invokevirtual 69) (3, 7, mc, ms, S) := cm_calV (ci := 6) hM hd (by decide) (by decide) rfl wcX6_lines (cm_w 506 (by decide +kernel) rfl) wiX6_lines wvX6_lines wdX6_lines
theorem q6_179 {d d' : Nat} {mc ms : Nat} {S : cm_CT} (hM : cm_Met d' yX5_measure cX5_measure 8 (some .int) mc ms S) (hd : d' < d) : cm_Cal d 6 (.invokestatic 179) (2, 0, mc, ms, S) := cm_calS hM hd (by decide) wcX5_measure (cm_w 510 (by decide +kernel) rfl) wsX5_measure (cm_w 77 (by decide +kernel) rfl) wdX5_measure
theorem wcX6_ancestors : Cond.code yX6_ancestors cX6_ancestors 2 (some .int) ∈ cm_tb := cm_w 514 (by decide +kernel) rfl
theorem wdX6_ancestors : cm_desc yX6_ancestors 1 := ⟨by decide +kernel, by decide +kernel, by decide +kernel⟩
theorem wiX6_ancestors : Cond.instanceMethod yX6_ancestors ∈ cm_tb := cm_w 512 (by decide +kernel) rfl
theorem wvX6_ancestors : Cond.selects (cm_R 6) yX6_ancestors yX6_ancestors ∈ cm_tb := cm_w 513 (by decide +kernel) rfl
theorem q8_73 {d d' : Nat} {mc ms : Nat} {S : cm_CT} (hM : cm_Met d' yX6_ancestors cX6_ancestors 2 (some .int) mc ms S) (hd : d' < d) : cm_Cal d 8 (.invokevirtual 73) (2, 7, mc, ms, S) := cm_calV (ci := 6) hM hd (by decide) (by decide) rfl wcX6_ancestors (cm_w 511 (by decide +kernel) rfl) wiX6_ancestors wvX6_ancestors wdX6_ancestors
theorem wcX6_nearest : Cond.code yX6_nearest cX6_nearest 3 (some .int) ∈ cm_tb := cm_w 518 (by decide +kernel) rfl
theorem wdX6_nearest : cm_desc yX6_nearest 2 := ⟨by decide +kernel, by decide +kernel, by decide +kernel⟩
theorem wiX6_nearest : Cond.instanceMethod yX6_nearest ∈ cm_tb := cm_w 516 (by decide +kernel) rfl
theorem wvX6_nearest : Cond.selects (cm_R 6) yX6_nearest yX6_nearest ∈ cm_tb := cm_w 517 (by decide +kernel) rfl
theorem q8_77 {d d' : Nat} {mc ms : Nat} {S : cm_CT} (hM : cm_Met d' yX6_nearest cX6_nearest 3 (some .int) mc ms S) (hd : d' < d) : cm_Cal d 8 (.invokevirtual 77) (3, 7, mc, ms, S) := cm_calV (ci := 6) hM hd (by decide) (by decide) rfl wcX6_nearest (cm_w 515 (by decide +kernel) rfl) wiX6_nearest wvX6_nearest wdX6_nearest
theorem wcX6_isPair : Cond.code yX6_isPair cX6_isPair 3 (some .boolean) ∈ cm_tb := cm_w 522 (by decide +kernel) rfl
theorem wdX6_isPair : cm_desc yX6_isPair 2 := ⟨by decide +kernel, by decide +kernel, by decide +kernel⟩
theorem wiX6_isPair : Cond.instanceMethod yX6_isPair ∈ cm_tb := cm_w 521 (by decide +kernel) rfl
theorem wvX6_isPair : Cond.selects (cm_R 6) yX6_isPair yX6_isPair ∈ cm_tb := cm_w 9 (by decide +kernel) rfl
theorem q6_185 {d d' : Nat} {mc ms : Nat} {S : cm_CT} (hM : cm_Met d' yX6_isPair cX6_isPair 3 (some .boolean) mc ms S) (hd : d' < d) : cm_Cal d 6 (.invokevirtual 185) (3, 7, mc, ms, S) := cm_calV (ci := 6) hM hd (by decide) (by decide) rfl wcX6_isPair (cm_w 519 (by decide +kernel) rfl) wiX6_isPair wvX6_isPair wdX6_isPair
theorem wcX6_common : Cond.code yX6_common cX6_common 6 (some .int) ∈ cm_tb := cm_w 526 (by decide +kernel) rfl
theorem wdX6_common : cm_desc yX6_common 4 := ⟨by decide +kernel, by decide +kernel, by decide +kernel⟩
theorem wiX6_common : Cond.instanceMethod yX6_common ∈ cm_tb := cm_w 524 (by decide +kernel) rfl
theorem wvX6_common : Cond.selects (cm_R 6) yX6_common yX6_common ∈ cm_tb := cm_w 525 (by decide +kernel) rfl
theorem q8_81 {d d' : Nat} {mc ms : Nat} {S : cm_CT} (hM : cm_Met d' yX6_common cX6_common 6 (some .int) mc ms S) (hd : d' < d) : cm_Cal d 8 (.invokevirtual 81) (5, 7, mc, ms, S) := cm_calV (ci := 6) hM hd (by decide) (by decide) rfl wcX6_common (cm_w 523 (by decide +kernel) rfl) wiX6_common wvX6_common wdX6_common
theorem wcX6_commonOf : Cond.code yX6_commonOf cX6_commonOf 10 (some (.object "CrissMerger$Tree")) ∈ cm_tb := cm_w 529 (by decide +kernel) rfl
theorem wdX6_commonOf : cm_desc yX6_commonOf 5 := ⟨by decide +kernel, by decide +kernel, by decide +kernel⟩
theorem wsX6_commonOf : Cond.static yX6_commonOf ∈ cm_tb := cm_w 528 (by decide +kernel) rfl
theorem q6_188 {d d' : Nat} {mc ms : Nat} {S : cm_CT} (hM : cm_Met d' yX6_commonOf cX6_commonOf 10 (some (.object "CrissMerger$Tree")) mc ms S) (hd : d' < d) : cm_Cal d 6 (.invokestatic 188) (5, 0, mc, ms, S) := cm_calS hM hd (by decide) wcX6_commonOf (cm_w 527 (by decide +kernel) rfl) wsX6_commonOf (cm_w 75 (by decide +kernel) rfl) wdX6_commonOf
theorem wcX3_mergeTrees : Cond.code yX3_mergeTrees cX3_mergeTrees 8 (some .boolean) ∈ cm_tb := cm_w 533 (by decide +kernel) rfl
theorem wdX3_mergeTrees : cm_desc yX3_mergeTrees 4 := ⟨by decide +kernel, by decide +kernel, by decide +kernel⟩
theorem wiX3_mergeTrees : Cond.instanceMethod yX3_mergeTrees ∈ cm_tb := cm_w 531 (by decide +kernel) rfl
theorem wvX3_mergeTrees : Cond.selects (cm_R 3) yX3_mergeTrees yX3_mergeTrees ∈ cm_tb := cm_w 532 (by decide +kernel) rfl
theorem q6_317 {d d' : Nat} {mc ms : Nat} {S : cm_CT} (hM : cm_Met d' yX3_mergeTrees cX3_mergeTrees 8 (some .boolean) mc ms S) (hd : d' < d) : cm_Cal d 6 (.invokevirtual 317) (5, 4, mc, ms, S) := cm_calV (ci := 3) hM hd (by decide) (by decide) rfl wcX3_mergeTrees (cm_w 530 (by decide +kernel) rfl) wiX3_mergeTrees wvX3_mergeTrees wdX3_mergeTrees
theorem wcX3_undisputed : Cond.code yX3_undisputed cX3_undisputed 3 (some (.object "CrissMerger$Strip")) ∈ cm_tb := cm_w 536 (by decide +kernel) rfl
theorem wdX3_undisputed : cm_desc yX3_undisputed 3 := ⟨by decide +kernel, by decide +kernel, by decide +kernel⟩
theorem wsX3_undisputed : Cond.static yX3_undisputed ∈ cm_tb := cm_w 535 (by decide +kernel) rfl
theorem q3_65 {d d' : Nat} {mc ms : Nat} {S : cm_CT} (hM : cm_Met d' yX3_undisputed cX3_undisputed 3 (some (.object "CrissMerger$Strip")) mc ms S) (hd : d' < d) : cm_Cal d 3 (.invokestatic 65) (3, 0, mc, ms, S) := cm_calS hM hd (by decide) wcX3_undisputed (cm_w 534 (by decide +kernel) rfl) wsX3_undisputed (cm_w 80 (by decide +kernel) rfl) wdX3_undisputed
theorem wcX4_isLike : Cond.code yX4_isLike cX4_isLike 3 (some .boolean) ∈ cm_tb := cm_w 540 (by decide +kernel) rfl
theorem wdX4_isLike : cm_desc yX4_isLike 1 := ⟨by decide +kernel, by decide +kernel, by decide +kernel⟩
theorem wiX4_isLike : Cond.instanceMethod yX4_isLike ∈ cm_tb := cm_w 538 (by decide +kernel) rfl
theorem wvX4_isLike : Cond.selects (cm_R 4) yX4_isLike yX4_isLike ∈ cm_tb := cm_w 539 (by decide +kernel) rfl
theorem q3_85 {d d' : Nat} {mc ms : Nat} {S : cm_CT} (hM : cm_Met d' yX4_isLike cX4_isLike 3 (some .boolean) mc ms S) (hd : d' < d) : cm_Cal d 3 (.invokevirtual 85) (2, 5, mc, ms, S) := cm_calV (ci := 4) hM hd (by decide) (by decide) rfl wcX4_isLike (cm_w 537 (by decide +kernel) rfl) wiX4_isLike wvX4_isLike wdX4_isLike
theorem q3_69 {d d' : Nat} {mc ms : Nat} {S : cm_CT} (hM : cm_Met d' yX4_isThere cX4_isThere 1 (some .boolean) mc ms S) (hd : d' < d) : cm_Cal d 3 (.invokevirtual 69) (1, 5, mc, ms, S) := cm_calV (ci := 4) hM hd (by decide) (by decide) rfl wcX4_isThere (cm_w 541 (by decide +kernel) rfl) wiX4_isThere wvX4_isThere wdX4_isThere
theorem wcX3_mergeLines : Cond.code yX3_mergeLines cX3_mergeLines 8 (some .boolean) ∈ cm_tb := cm_w 545 (by decide +kernel) rfl
theorem wdX3_mergeLines : cm_desc yX3_mergeLines 3 := ⟨by decide +kernel, by decide +kernel, by decide +kernel⟩
theorem wiX3_mergeLines : Cond.instanceMethod yX3_mergeLines ∈ cm_tb := cm_w 544 (by decide +kernel) rfl
theorem wvX3_mergeLines : Cond.selects (cm_R 3) yX3_mergeLines yX3_mergeLines ∈ cm_tb := cm_w 10 (by decide +kernel) rfl
theorem q3_73 {d d' : Nat} {mc ms : Nat} {S : cm_CT} (hM : cm_Met d' yX3_mergeLines cX3_mergeLines 8 (some .boolean) mc ms S) (hd : d' < d) : cm_Cal d 3 (.invokevirtual 73) (4, 4, mc, ms, S) := cm_calV (ci := 3) hM hd (by decide) (by decide) rfl wcX3_mergeLines (cm_w 542 (by decide +kernel) rfl) wiX3_mergeLines wvX3_mergeLines wdX3_mergeLines
theorem q3_89 {d d' : Nat} {mc ms : Nat} {S : cm_CT} (hM : cm_Met d' yX1_takeFile cX1_takeFile 2 none mc ms S) (hd : d' < d) : cm_Cal d 3 (.invokevirtual 89) (2, 2, mc, ms, S) := cm_calV (ci := 1) hM hd (by decide) (by decide) rfl wcX1_takeFile (cm_w 546 (by decide +kernel) rfl) wiX1_takeFile wvX1_takeFile wdX1_takeFile
theorem q3_92 {d d' : Nat} {mc ms : Nat} {S : cm_CT} (hM : cm_Met d' yX2_mostMatched cX2_mostMatched 8 (some .int) mc ms S) (hd : d' < d) : cm_Cal d 3 (.invokevirtual 92) (3, 3, mc, ms, S) := cm_calV (ci := 2) hM hd (by decide) (by decide) rfl wcX2_mostMatched (cm_w 547 (by decide +kernel) rfl) wiX2_mostMatched wvX2_mostMatched wdX2_mostMatched
theorem wcX2_pair : Cond.code yX2_pair cX2_pair 9 none ∈ cm_tb := cm_w 551 (by decide +kernel) rfl
theorem wdX2_pair : cm_desc yX2_pair 3 := ⟨by decide +kernel, by decide +kernel, by decide +kernel⟩
theorem wiX2_pair : Cond.instanceMethod yX2_pair ∈ cm_tb := cm_w 549 (by decide +kernel) rfl
theorem wvX2_pair : Cond.selects (cm_R 2) yX2_pair yX2_pair ∈ cm_tb := cm_w 550 (by decide +kernel) rfl
theorem q3_96 {d d' : Nat} {mc ms : Nat} {S : cm_CT} (hM : cm_Met d' yX2_pair cX2_pair 9 none mc ms S) (hd : d' < d) : cm_Cal d 3 (.invokevirtual 96) (4, 3, mc, ms, S) := cm_calV (ci := 2) hM hd (by decide) (by decide) rfl wcX2_pair (cm_w 548 (by decide +kernel) rfl) wiX2_pair wvX2_pair wdX2_pair
theorem wcJ7_fill_53178 : Cond.code yJ7_fill_53178 cJ7_fill_53178 4 none ∈ cm_tb := cm_w 554 (by decide +kernel) rfl
theorem wdJ7_fill_53178 : cm_desc yJ7_fill_53178 2 := ⟨by decide +kernel, by decide +kernel, by decide +kernel⟩
theorem wsJ7_fill_53178 : Cond.static yJ7_fill_53178 ∈ cm_tb := cm_w 553 (by decide +kernel) rfl
theorem q2_34 {d d' : Nat} {mc ms : Nat} {S : cm_CT} (hM : cm_Met d' yJ7_fill_53178 cJ7_fill_53178 4 none mc ms S) (hd : d' < d) : cm_Cal d 2 (.invokestatic 34) (2, 0, mc, ms, S) := cm_calS hM hd (by decide) wcJ7_fill_53178 (cm_w 552 (by decide +kernel) rfl) wsJ7_fill_53178 (cm_w 86 (by decide +kernel) rfl) wdJ7_fill_53178
theorem q3_100 {d d' : Nat} {mc ms : Nat} {S : cm_CT} (hM : cm_Met d' yX4_renew cX4_renew 4 none mc ms S) (hd : d' < d) : cm_Cal d 3 (.invokevirtual 100) (3, 5, mc, ms, S) := cm_calV (ci := 4) hM hd (by decide) (by decide) rfl wcX4_renew (cm_w 555 (by decide +kernel) rfl) wiX4_renew wvX4_renew wdX4_renew
theorem wcX3_addGap : Cond.code yX3_addGap cX3_addGap 7 none ∈ cm_tb := cm_w 559 (by decide +kernel) rfl
theorem wdX3_addGap : cm_desc yX3_addGap 6 := ⟨by decide +kernel, by decide +kernel, by decide +kernel⟩
theorem wiX3_addGap : Cond.instanceMethod yX3_addGap ∈ cm_tb := cm_w 558 (by decide +kernel) rfl
theorem wvX3_addGap : Cond.selects (cm_R 3) yX3_addGap yX3_addGap ∈ cm_tb := cm_w 11 (by decide +kernel) rfl
theorem q3_107 {d d' : Nat} {mc ms : Nat} {S : cm_CT} (hM : cm_Met d' yX3_addGap cX3_addGap 7 none mc ms S) (hd : d' < d) : cm_Cal d 3 (.invokevirtual 107) (7, 4, mc, ms, S) := cm_calV (ci := 3) hM hd (by decide) (by decide) rfl wcX3_addGap (cm_w 556 (by decide +kernel) rfl) wiX3_addGap wvX3_addGap wdX3_addGap
theorem q3_115 {d d' : Nat} {mc ms : Nat} {S : cm_CT} (hM : cm_Met d' yX1_isRunLike cX1_isRunLike 10 (some .boolean) mc ms S) (hd : d' < d) : cm_Cal d 3 (.invokevirtual 115) (6, 2, mc, ms, S) := cm_calV (ci := 1) hM hd (by decide) (by decide) rfl wcX1_isRunLike (cm_w 560 (by decide +kernel) rfl) wiX1_isRunLike wvX1_isRunLike wdX1_isRunLike
theorem wcX3_addRun : Cond.code yX3_addRun cX3_addRun 7 none ∈ cm_tb := cm_w 564 (by decide +kernel) rfl
theorem wdX3_addRun : cm_desc yX3_addRun 3 := ⟨by decide +kernel, by decide +kernel, by decide +kernel⟩
theorem wiX3_addRun : Cond.instanceMethod yX3_addRun ∈ cm_tb := cm_w 563 (by decide +kernel) rfl
theorem wvX3_addRun : Cond.selects (cm_R 3) yX3_addRun yX3_addRun ∈ cm_tb := cm_w 12 (by decide +kernel) rfl
theorem q3_111 {d d' : Nat} {mc ms : Nat} {S : cm_CT} (hM : cm_Met d' yX3_addRun cX3_addRun 7 none mc ms S) (hd : d' < d) : cm_Cal d 3 (.invokevirtual 111) (4, 4, mc, ms, S) := cm_calV (ci := 3) hM hd (by decide) (by decide) rfl wcX3_addRun (cm_w 561 (by decide +kernel) rfl) wiX3_addRun wvX3_addRun wdX3_addRun
theorem wcX3_addNumber : Cond.code yX3_addNumber cX3_addNumber 2 none ∈ cm_tb := cm_w 568 (by decide +kernel) rfl
theorem wdX3_addNumber : cm_desc yX3_addNumber 1 := ⟨by decide +kernel, by decide +kernel, by decide +kernel⟩
theorem wiX3_addNumber : Cond.instanceMethod yX3_addNumber ∈ cm_tb := cm_w 567 (by decide +kernel) rfl
theorem wvX3_addNumber : Cond.selects (cm_R 3) yX3_addNumber yX3_addNumber ∈ cm_tb := cm_w 13 (by decide +kernel) rfl
theorem q3_119 {d d' : Nat} {mc ms : Nat} {S : cm_CT} (hM : cm_Met d' yX3_addNumber cX3_addNumber 2 none mc ms S) (hd : d' < d) : cm_Cal d 3 (.invokevirtual 119) (2, 4, mc, ms, S) := cm_calV (ci := 3) hM hd (by decide) (by decide) rfl wcX3_addNumber (cm_w 565 (by decide +kernel) rfl) wiX3_addNumber wvX3_addNumber wdX3_addNumber
theorem q3_81 {d d' : Nat} {mc ms : Nat} {S : cm_CT} (hM : cm_Met d' yX4_become cX4_become 2 none mc ms S) (hd : d' < d) : cm_Cal d 3 (.invokevirtual 81) (2, 5, mc, ms, S) := cm_calV (ci := 4) hM hd (by decide) (by decide) rfl wcX4_become (cm_w 569 (by decide +kernel) rfl) wiX4_become wvX4_become wdX4_become
theorem wcX6_would : Cond.code yX6_would cX6_would 4 (some .int) ∈ cm_tb := cm_w 573 (by decide +kernel) rfl
theorem wdX6_would : cm_desc yX6_would 2 := ⟨by decide +kernel, by decide +kernel, by decide +kernel⟩
theorem wiX6_would : Cond.instanceMethod yX6_would ∈ cm_tb := cm_w 571 (by decide +kernel) rfl
theorem wvX6_would : Cond.selects (cm_R 6) yX6_would yX6_would ∈ cm_tb := cm_w 572 (by decide +kernel) rfl
theorem q8_86 {d d' : Nat} {mc ms : Nat} {S : cm_CT} (hM : cm_Met d' yX6_would cX6_would 4 (some .int) mc ms S) (hd : d' < d) : cm_Cal d 8 (.invokevirtual 86) (3, 7, mc, ms, S) := cm_calV (ci := 6) hM hd (by decide) (by decide) rfl wcX6_would (cm_w 570 (by decide +kernel) rfl) wiX6_would wvX6_would wdX6_would
theorem wcX6_mergeAside : Cond.code yX6_mergeAside cX6_mergeAside 7 (some .int) ∈ cm_tb := cm_w 577 (by decide +kernel) rfl
theorem wdX6_mergeAside : cm_desc yX6_mergeAside 4 := ⟨by decide +kernel, by decide +kernel, by decide +kernel⟩
theorem wiX6_mergeAside : Cond.instanceMethod yX6_mergeAside ∈ cm_tb := cm_w 576 (by decide +kernel) rfl
theorem wvX6_mergeAside : Cond.selects (cm_R 6) yX6_mergeAside yX6_mergeAside ∈ cm_tb := cm_w 14 (by decide +kernel) rfl
theorem q6_192 {d d' : Nat} {mc ms : Nat} {S : cm_CT} (hM : cm_Met d' yX6_mergeAside cX6_mergeAside 7 (some .int) mc ms S) (hd : d' < d) : cm_Cal d 6 (.invokevirtual 192) (5, 7, mc, ms, S) := cm_calV (ci := 6) hM hd (by decide) (by decide) rfl wcX6_mergeAside (cm_w 574 (by decide +kernel) rfl) wiX6_mergeAside wvX6_mergeAside wdX6_mergeAside
theorem wcX0_isAncestor : Cond.code yX0_isAncestor cX0_isAncestor 3 (some .boolean) ∈ cm_tb := cm_w 581 (by decide +kernel) rfl
theorem wdX0_isAncestor : cm_desc yX0_isAncestor 2 := ⟨by decide +kernel, by decide +kernel, by decide +kernel⟩
theorem wiX0_isAncestor : Cond.instanceMethod yX0_isAncestor ∈ cm_tb := cm_w 579 (by decide +kernel) rfl
theorem wvX0_isAncestor : Cond.selects (cm_R 0) yX0_isAncestor yX0_isAncestor ∈ cm_tb := cm_w 580 (by decide +kernel) rfl
theorem q6_252 {d d' : Nat} {mc ms : Nat} {S : cm_CT} (hM : cm_Met d' yX0_isAncestor cX0_isAncestor 3 (some .boolean) mc ms S) (hd : d' < d) : cm_Cal d 6 (.invokevirtual 252) (3, 1, mc, ms, S) := cm_calV (ci := 0) hM hd (by decide) (by decide) rfl wcX0_isAncestor (cm_w 578 (by decide +kernel) rfl) wiX0_isAncestor wvX0_isAncestor wdX0_isAncestor
theorem wcX6_mirrored : Cond.code yX6_mirrored cX6_mirrored 4 (some .int) ∈ cm_tb := cm_w 585 (by decide +kernel) rfl
theorem wdX6_mirrored : cm_desc yX6_mirrored 2 := ⟨by decide +kernel, by decide +kernel, by decide +kernel⟩
theorem wiX6_mirrored : Cond.instanceMethod yX6_mirrored ∈ cm_tb := cm_w 583 (by decide +kernel) rfl
theorem wvX6_mirrored : Cond.selects (cm_R 6) yX6_mirrored yX6_mirrored ∈ cm_tb := cm_w 584 (by decide +kernel) rfl
theorem q8_90 {d d' : Nat} {mc ms : Nat} {S : cm_CT} (hM : cm_Met d' yX6_mirrored cX6_mirrored 4 (some .int) mc ms S) (hd : d' < d) : cm_Cal d 8 (.invokevirtual 90) (3, 7, mc, ms, S) := cm_calV (ci := 6) hM hd (by decide) (by decide) rfl wcX6_mirrored (cm_w 582 (by decide +kernel) rfl) wiX6_mirrored wvX6_mirrored wdX6_mirrored
theorem wcX5_isLike : Cond.code yX5_isLike cX5_isLike 3 (some .boolean) ∈ cm_tb := cm_w 589 (by decide +kernel) rfl
theorem wdX5_isLike : cm_desc yX5_isLike 1 := ⟨by decide +kernel, by decide +kernel, by decide +kernel⟩
theorem wiX5_isLike : Cond.instanceMethod yX5_isLike ∈ cm_tb := cm_w 587 (by decide +kernel) rfl
theorem wvX5_isLike : Cond.selects (cm_R 5) yX5_isLike yX5_isLike ∈ cm_tb := cm_w 588 (by decide +kernel) rfl
theorem q6_202 {d d' : Nat} {mc ms : Nat} {S : cm_CT} (hM : cm_Met d' yX5_isLike cX5_isLike 3 (some .boolean) mc ms S) (hd : d' < d) : cm_Cal d 6 (.invokevirtual 202) (2, 6, mc, ms, S) := cm_calV (ci := 5) hM hd (by decide) (by decide) rfl wcX5_isLike (cm_w 586 (by decide +kernel) rfl) wiX5_isLike wvX5_isLike wdX5_isLike
theorem q5_31 {d d' : Nat} {mc ms : Nat} {S : cm_CT} (hM : cm_Met d' yX4_isLike cX4_isLike 3 (some .boolean) mc ms S) (hd : d' < d) : cm_Cal d 5 (.invokevirtual 31) (2, 5, mc, ms, S) := cm_calV (ci := 4) hM hd (by decide) (by decide) rfl wcX4_isLike (cm_w 590 (by decide +kernel) rfl) wiX4_isLike wvX4_isLike wdX4_isLike
theorem wcX6_change : Cond.code yX6_change cX6_change 6 (some .int) ∈ cm_tb := cm_w 594 (by decide +kernel) rfl
theorem wdX6_change : cm_desc yX6_change 3 := ⟨by decide +kernel, by decide +kernel, by decide +kernel⟩
theorem wiX6_change : Cond.instanceMethod yX6_change ∈ cm_tb := cm_w 592 (by decide +kernel) rfl
theorem wvX6_change : Cond.selects (cm_R 6) yX6_change yX6_change ∈ cm_tb := cm_w 593 (by decide +kernel) rfl
theorem q8_94 {d d' : Nat} {mc ms : Nat} {S : cm_CT} (hM : cm_Met d' yX6_change cX6_change 6 (some .int) mc ms S) (hd : d' < d) : cm_Cal d 8 (.invokevirtual 94) (4, 7, mc, ms, S) := cm_calV (ci := 6) hM hd (by decide) (by decide) rfl wcX6_change (cm_w 591 (by decide +kernel) rfl) wiX6_change wvX6_change wdX6_change
theorem q6_206 {d d' : Nat} {mc ms : Nat} {S : cm_CT} (hM : cm_Met d' yX0_isFull cX0_isFull 1 (some .boolean) mc ms S) (hd : d' < d) : cm_Cal d 6 (.invokevirtual 206) (1, 1, mc, ms, S) := cm_calV (ci := 0) hM hd (by decide) (by decide) rfl wcX0_isFull (cm_w 595 (by decide +kernel) rfl) wiX0_isFull wvX0_isFull wdX0_isFull
theorem wcX0_addChild : Cond.code yX0_addChild cX0_addChild 4 (some .int) ∈ cm_tb := cm_w 599 (by decide +kernel) rfl
theorem wdX0_addChild : cm_desc yX0_addChild 2 := ⟨by decide +kernel, by decide +kernel, by decide +kernel⟩
theorem wiX0_addChild : Cond.instanceMethod yX0_addChild ∈ cm_tb := cm_w 597 (by decide +kernel) rfl
theorem wvX0_addChild : Cond.selects (cm_R 0) yX0_addChild yX0_addChild ∈ cm_tb := cm_w 598 (by decide +kernel) rfl
theorem q6_209 {d d' : Nat} {mc ms : Nat} {S : cm_CT} (hM : cm_Met d' yX0_addChild cX0_addChild 4 (some .int) mc ms S) (hd : d' < d) : cm_Cal d 6 (.invokevirtual 209) (3, 1, mc, ms, S) := cm_calV (ci := 0) hM hd (by decide) (by decide) rfl wcX0_addChild (cm_w 596 (by decide +kernel) rfl) wiX0_addChild wvX0_addChild wdX0_addChild
theorem q0_52 {d d' : Nat} {mc ms : Nat} {S : cm_CT} (hM : cm_Met d' yX0_add cX0_add 5 (some .int) mc ms S) (hd : d' < d) : cm_Cal d 0 (.invokevirtual 52) (4, 1, mc, ms, S) := cm_calV (ci := 0) hM hd (by decide) (by decide) rfl wcX0_add (cm_w 600 (by decide +kernel) rfl) wiX0_add wvX0_add wdX0_add
theorem wcX6_drop : Cond.code yX6_drop cX6_drop 4 (some .int) ∈ cm_tb := cm_w 604 (by decide +kernel) rfl
theorem wdX6_drop : cm_desc yX6_drop 2 := ⟨by decide +kernel, by decide +kernel, by decide +kernel⟩
theorem wiX6_drop : Cond.instanceMethod yX6_drop ∈ cm_tb := cm_w 602 (by decide +kernel) rfl
theorem wvX6_drop : Cond.selects (cm_R 6) yX6_drop yX6_drop ∈ cm_tb := cm_w 603 (by decide +kernel) rfl
theorem q8_98 {d d' : Nat} {mc ms : Nat} {S : cm_CT} (hM : cm_Met d' yX6_drop cX6_drop 4 (some .int) mc ms S) (hd : d' < d) : cm_Cal d 8 (.invokevirtual 98) (3, 7, mc, ms, S) := cm_calV (ci := 6) hM hd (by decide) (by decide) rfl wcX6_drop (cm_w 601 (by decide +kernel) rfl) wiX6_drop wvX6_drop wdX6_drop
theorem wcX6_settle : Cond.code yX6_settle cX6_settle 6 (some .int) ∈ cm_tb := cm_w 608 (by decide +kernel) rfl
theorem wdX6_settle : cm_desc yX6_settle 3 := ⟨by decide +kernel, by decide +kernel, by decide +kernel⟩
theorem wiX6_settle : Cond.instanceMethod yX6_settle ∈ cm_tb := cm_w 606 (by decide +kernel) rfl
theorem wvX6_settle : Cond.selects (cm_R 6) yX6_settle yX6_settle ∈ cm_tb := cm_w 607 (by decide +kernel) rfl
theorem q8_102 {d d' : Nat} {mc ms : Nat} {S : cm_CT} (hM : cm_Met d' yX6_settle cX6_settle 6 (some .int) mc ms S) (hd : d' < d) : cm_Cal d 8 (.invokevirtual 102) (4, 7, mc, ms, S) := cm_calV (ci := 6) hM hd (by decide) (by decide) rfl wcX6_settle (cm_w 605 (by decide +kernel) rfl) wiX6_settle wvX6_settle wdX6_settle
theorem wcX5_isTorn : Cond.code yX5_isTorn cX5_isTorn 2 (some .boolean) ∈ cm_tb := cm_w 612 (by decide +kernel) rfl
theorem wdX5_isTorn : cm_desc yX5_isTorn 1 := ⟨by decide +kernel, by decide +kernel, by decide +kernel⟩
theorem wiX5_isTorn : Cond.instanceMethod yX5_isTorn ∈ cm_tb := cm_w 610 (by decide +kernel) rfl
theorem wvX5_isTorn : Cond.selects (cm_R 5) yX5_isTorn yX5_isTorn ∈ cm_tb := cm_w 611 (by decide +kernel) rfl
theorem q6_216 {d d' : Nat} {mc ms : Nat} {S : cm_CT} (hM : cm_Met d' yX5_isTorn cX5_isTorn 2 (some .boolean) mc ms S) (hd : d' < d) : cm_Cal d 6 (.invokevirtual 216) (2, 6, mc, ms, S) := cm_calV (ci := 5) hM hd (by decide) (by decide) rfl wcX5_isTorn (cm_w 609 (by decide +kernel) rfl) wiX5_isTorn wvX5_isTorn wdX5_isTorn
theorem wcX5_settleFile : Cond.code yX5_settleFile cX5_settleFile 7 none ∈ cm_tb := cm_w 615 (by decide +kernel) rfl
theorem wdX5_settleFile : cm_desc yX5_settleFile 3 := ⟨by decide +kernel, by decide +kernel, by decide +kernel⟩
theorem wsX5_settleFile : Cond.static yX5_settleFile ∈ cm_tb := cm_w 614 (by decide +kernel) rfl
theorem q6_219 {d d' : Nat} {mc ms : Nat} {S : cm_CT} (hM : cm_Met d' yX5_settleFile cX5_settleFile 7 none mc ms S) (hd : d' < d) : cm_Cal d 6 (.invokestatic 219) (3, 0, mc, ms, S) := cm_calS hM hd (by decide) wcX5_settleFile (cm_w 613 (by decide +kernel) rfl) wsX5_settleFile (cm_w 77 (by decide +kernel) rfl) wdX5_settleFile
theorem q5_53 {d d' : Nat} {mc ms : Nat} {S : cm_CT} (hM : cm_Met d' yX4_renew cX4_renew 4 none mc ms S) (hd : d' < d) : cm_Cal d 5 (.invokevirtual 53) (3, 5, mc, ms, S) := cm_calV (ci := 4) hM hd (by decide) (by decide) rfl wcX4_renew (cm_w 616 (by decide +kernel) rfl) wiX4_renew wvX4_renew wdX4_renew
theorem q5_57 {d d' : Nat} {mc ms : Nat} {S : cm_CT} (hM : cm_Met d' yX4_append cX4_append 2 none mc ms S) (hd : d' < d) : cm_Cal d 5 (.invokevirtual 57) (2, 5, mc, ms, S) := cm_calV (ci := 4) hM hd (by decide) (by decide) rfl wcX4_append (cm_w 617 (by decide +kernel) rfl) wiX4_append wvX4_append wdX4_append
theorem wcX6_merge : Cond.code yX6_merge cX6_merge 4 (some .int) ∈ cm_tb := cm_w 621 (by decide +kernel) rfl
theorem wdX6_merge : cm_desc yX6_merge 2 := ⟨by decide +kernel, by decide +kernel, by decide +kernel⟩
theorem wiX6_merge : Cond.instanceMethod yX6_merge ∈ cm_tb := cm_w 619 (by decide +kernel) rfl
theorem wvX6_merge : Cond.selects (cm_R 6) yX6_merge yX6_merge ∈ cm_tb := cm_w 620 (by decide +kernel) rfl
theorem q8_106 {d d' : Nat} {mc ms : Nat} {S : cm_CT} (hM : cm_Met d' yX6_merge cX6_merge 4 (some .int) mc ms S) (hd : d' < d) : cm_Cal d 8 (.invokevirtual 106) (3, 7, mc, ms, S) := cm_calV (ci := 6) hM hd (by decide) (by decide) rfl wcX6_merge (cm_w 618 (by decide +kernel) rfl) wiX6_merge wvX6_merge wdX6_merge
theorem wcX6_undo : Cond.code yX6_undo cX6_undo 3 (some .int) ∈ cm_tb := cm_w 625 (by decide +kernel) rfl
theorem wdX6_undo : cm_desc yX6_undo 1 := ⟨by decide +kernel, by decide +kernel, by decide +kernel⟩
theorem wiX6_undo : Cond.instanceMethod yX6_undo ∈ cm_tb := cm_w 623 (by decide +kernel) rfl
theorem wvX6_undo : Cond.selects (cm_R 6) yX6_undo yX6_undo ∈ cm_tb := cm_w 624 (by decide +kernel) rfl
theorem q8_110 {d d' : Nat} {mc ms : Nat} {S : cm_CT} (hM : cm_Met d' yX6_undo cX6_undo 3 (some .int) mc ms S) (hd : d' < d) : cm_Cal d 8 (.invokevirtual 110) (2, 7, mc, ms, S) := cm_calV (ci := 6) hM hd (by decide) (by decide) rfl wcX6_undo (cm_w 622 (by decide +kernel) rfl) wiX6_undo wvX6_undo wdX6_undo
theorem wcX6_keep : Cond.code yX6_keep cX6_keep 2 (some .int) ∈ cm_tb := cm_w 629 (by decide +kernel) rfl
theorem wdX6_keep : cm_desc yX6_keep 1 := ⟨by decide +kernel, by decide +kernel, by decide +kernel⟩
theorem wiX6_keep : Cond.instanceMethod yX6_keep ∈ cm_tb := cm_w 627 (by decide +kernel) rfl
theorem wvX6_keep : Cond.selects (cm_R 6) yX6_keep yX6_keep ∈ cm_tb := cm_w 628 (by decide +kernel) rfl
theorem q8_114 {d d' : Nat} {mc ms : Nat} {S : cm_CT} (hM : cm_Met d' yX6_keep cX6_keep 2 (some .int) mc ms S) (hd : d' < d) : cm_Cal d 8 (.invokevirtual 114) (2, 7, mc, ms, S) := cm_calV (ci := 6) hM hd (by decide) (by decide) rfl wcX6_keep (cm_w 626 (by decide +kernel) rfl) wiX6_keep wvX6_keep wdX6_keep
theorem wcX6_isKept : Cond.code yX6_isKept cX6_isKept 1 (some .boolean) ∈ cm_tb := cm_w 632 (by decide +kernel) rfl
theorem wdX6_isKept : cm_desc yX6_isKept 1 := ⟨by decide +kernel, by decide +kernel, by decide +kernel⟩
theorem wsX6_isKept : Cond.static yX6_isKept ∈ cm_tb := cm_w 631 (by decide +kernel) rfl
theorem q6_223 {d d' : Nat} {mc ms : Nat} {S : cm_CT} (hM : cm_Met d' yX6_isKept cX6_isKept 1 (some .boolean) mc ms S) (hd : d' < d) : cm_Cal d 6 (.invokestatic 223) (1, 0, mc, ms, S) := cm_calS hM hd (by decide) wcX6_isKept (cm_w 630 (by decide +kernel) rfl) wsX6_isKept (cm_w 75 (by decide +kernel) rfl) wdX6_isKept
theorem wcX0_become : Cond.code yX0_become cX0_become 3 none ∈ cm_tb := cm_w 636 (by decide +kernel) rfl
theorem wdX0_become : cm_desc yX0_become 1 := ⟨by decide +kernel, by decide +kernel, by decide +kernel⟩
theorem wiX0_become : Cond.instanceMethod yX0_become ∈ cm_tb := cm_w 634 (by decide +kernel) rfl
theorem wvX0_become : Cond.selects (cm_R 0) yX0_become yX0_become ∈ cm_tb := cm_w 635 (by decide +kernel) rfl
theorem q6_226 {d d' : Nat} {mc ms : Nat} {S : cm_CT} (hM : cm_Met d' yX0_become cX0_become 3 none mc ms S) (hd : d' < d) : cm_Cal d 6 (.invokevirtual 226) (2, 1, mc, ms, S) := cm_calV (ci := 0) hM hd (by decide) (by decide) rfl wcX0_become (cm_w 633 (by decide +kernel) rfl) wiX0_become wvX0_become wdX0_become
theorem wcX6_on : Cond.code yX6_on cX6_on 3 (some .int) ∈ cm_tb := cm_w 640 (by decide +kernel) rfl
theorem wdX6_on : cm_desc yX6_on 1 := ⟨by decide +kernel, by decide +kernel, by decide +kernel⟩
theorem wiX6_on : Cond.instanceMethod yX6_on ∈ cm_tb := cm_w 638 (by decide +kernel) rfl
theorem wvX6_on : Cond.selects (cm_R 6) yX6_on yX6_on ∈ cm_tb := cm_w 639 (by decide +kernel) rfl
theorem q8_118 {d d' : Nat} {mc ms : Nat} {S : cm_CT} (hM : cm_Met d' yX6_on cX6_on 3 (some .int) mc ms S) (hd : d' < d) : cm_Cal d 8 (.invokevirtual 118) (2, 7, mc, ms, S) := cm_calV (ci := 6) hM hd (by decide) (by decide) rfl wcX6_on (cm_w 637 (by decide +kernel) rfl) wiX6_on wvX6_on wdX6_on
theorem wcX6_lots : Cond.code yX6_lots cX6_lots 6 (some .int) ∈ cm_tb := cm_w 644 (by decide +kernel) rfl
theorem wdX6_lots : cm_desc yX6_lots 2 := ⟨by decide +kernel, by decide +kernel, by decide +kernel⟩
theorem wiX6_lots : Cond.instanceMethod yX6_lots ∈ cm_tb := cm_w 642 (by decide +kernel) rfl
theorem wvX6_lots : Cond.selects (cm_R 6) yX6_lots yX6_lots ∈ cm_tb := cm_w 643 (by decide +kernel) rfl
theorem q8_122 {d d' : Nat} {mc ms : Nat} {S : cm_CT} (hM : cm_Met d' yX6_lots cX6_lots 6 (some .int) mc ms S) (hd : d' < d) : cm_Cal d 8 (.invokevirtual 122) (3, 7, mc, ms, S) := cm_calV (ci := 6) hM hd (by decide) (by decide) rfl wcX6_lots (cm_w 641 (by decide +kernel) rfl) wiX6_lots wvX6_lots wdX6_lots
theorem wcX6_doByLot : Cond.code yX6_doByLot cX6_doByLot 7 none ∈ cm_tb := cm_w 650 (by decide +kernel) rfl
theorem wdX6_doByLot : cm_desc yX6_doByLot 1 := ⟨by decide +kernel, by decide +kernel, by decide +kernel⟩
theorem wiX6_doByLot : Cond.instanceMethod yX6_doByLot ∈ cm_tb := cm_w 649 (by decide +kernel) rfl
theorem wvX6_doByLot : Cond.selects (cm_R 6) yX6_doByLot yX6_doByLot ∈ cm_tb := cm_w 15 (by decide +kernel) rfl
theorem q6_233 {d d' : Nat} {mc ms : Nat} {S : cm_CT} (hM : cm_Met d' yX6_doByLot cX6_doByLot 7 none mc ms S) (hd : d' < d) : cm_Cal d 6 (.invokevirtual 233) (2, 7, mc, ms, S) := cm_calV (ci := 6) hM hd (by decide) (by decide) rfl wcX6_doByLot (cm_w 647 (by decide +kernel) rfl) wiX6_doByLot wvX6_doByLot wdX6_doByLot
theorem q6_324 {d d' : Nat} {mc ms : Nat} {S : cm_CT} (hM : cm_Met d' yJ9_max_7cf53 cJ9_max_7cf53 2 (some .int) mc ms S) (hd : d' < d) : cm_Cal d 6 (.invokestatic 324) (2, 0, mc, ms, S) := cm_calS hM hd (by decide) wcJ9_max_7cf53 (cm_w 651 (by decide +kernel) rfl) wsJ9_max_7cf53 (cm_w 79 (by decide +kernel) rfl) wdJ9_max_7cf53
theorem wcX4_becomeWith : Cond.code yX4_becomeWith cX4_becomeWith 6 none ∈ cm_tb := cm_w 655 (by decide +kernel) rfl
theorem wdX4_becomeWith : cm_desc yX4_becomeWith 3 := ⟨by decide +kernel, by decide +kernel, by decide +kernel⟩
theorem wiX4_becomeWith : Cond.instanceMethod yX4_becomeWith ∈ cm_tb := cm_w 653 (by decide +kernel) rfl
theorem wvX4_becomeWith : Cond.selects (cm_R 4) yX4_becomeWith yX4_becomeWith ∈ cm_tb := cm_w 654 (by decide +kernel) rfl
theorem q6_329 {d d' : Nat} {mc ms : Nat} {S : cm_CT} (hM : cm_Met d' yX4_becomeWith cX4_becomeWith 6 none mc ms S) (hd : d' < d) : cm_Cal d 6 (.invokevirtual 329) (4, 5, mc, ms, S) := cm_calV (ci := 4) hM hd (by decide) (by decide) rfl wcX4_becomeWith (cm_w 652 (by decide +kernel) rfl) wiX4_becomeWith wvX4_becomeWith wdX4_becomeWith
theorem q4_38 {d d' : Nat} {mc ms : Nat} {S : cm_CT} (hM : cm_Met d' yX4_renew cX4_renew 4 none mc ms S) (hd : d' < d) : cm_Cal d 4 (.invokevirtual 38) (3, 5, mc, ms, S) := cm_calV (ci := 4) hM hd (by decide) (by decide) rfl wcX4_renew (cm_w 656 (by decide +kernel) rfl) wiX4_renew wvX4_renew wdX4_renew
theorem q4_42 {d d' : Nat} {mc ms : Nat} {S : cm_CT} (hM : cm_Met d' yX4_append cX4_append 2 none mc ms S) (hd : d' < d) : cm_Cal d 4 (.invokevirtual 42) (2, 5, mc, ms, S) := cm_calV (ci := 4) hM hd (by decide) (by decide) rfl wcX4_append (cm_w 657 (by decide +kernel) rfl) wiX4_append wvX4_append wdX4_append
theorem q4_46 {d d' : Nat} {mc ms : Nat} {S : cm_CT} (hM : cm_Met d' yX4_get cX4_get 2 (some .int) mc ms S) (hd : d' < d) : cm_Cal d 4 (.invokevirtual 46) (2, 5, mc, ms, S) := cm_calV (ci := 4) hM hd (by decide) (by decide) rfl wcX4_get (cm_w 658 (by decide +kernel) rfl) wiX4_get wvX4_get wdX4_get
theorem wcX6_unlike : Cond.code yX6_unlike cX6_unlike 4 (some .int) ∈ cm_tb := cm_w 662 (by decide +kernel) rfl
theorem wdX6_unlike : cm_desc yX6_unlike 1 := ⟨by decide +kernel, by decide +kernel, by decide +kernel⟩
theorem wiX6_unlike : Cond.instanceMethod yX6_unlike ∈ cm_tb := cm_w 660 (by decide +kernel) rfl
theorem wvX6_unlike : Cond.selects (cm_R 6) yX6_unlike yX6_unlike ∈ cm_tb := cm_w 661 (by decide +kernel) rfl
theorem q8_126 {d d' : Nat} {mc ms : Nat} {S : cm_CT} (hM : cm_Met d' yX6_unlike cX6_unlike 4 (some .int) mc ms S) (hd : d' < d) : cm_Cal d 8 (.invokevirtual 126) (2, 7, mc, ms, S) := cm_calV (ci := 6) hM hd (by decide) (by decide) rfl wcX6_unlike (cm_w 659 (by decide +kernel) rfl) wiX6_unlike wvX6_unlike wdX6_unlike
theorem wcX1_takeTree : Cond.code yX1_takeTree cX1_takeTree 3 none ∈ cm_tb := cm_w 666 (by decide +kernel) rfl
theorem wdX1_takeTree : cm_desc yX1_takeTree 1 := ⟨by decide +kernel, by decide +kernel, by decide +kernel⟩
theorem wiX1_takeTree : Cond.instanceMethod yX1_takeTree ∈ cm_tb := cm_w 664 (by decide +kernel) rfl
theorem wvX1_takeTree : Cond.selects (cm_R 1) yX1_takeTree yX1_takeTree ∈ cm_tb := cm_w 665 (by decide +kernel) rfl
theorem q6_236 {d d' : Nat} {mc ms : Nat} {S : cm_CT} (hM : cm_Met d' yX1_takeTree cX1_takeTree 3 none mc ms S) (hd : d' < d) : cm_Cal d 6 (.invokevirtual 236) (2, 2, mc, ms, S) := cm_calV (ci := 1) hM hd (by decide) (by decide) rfl wcX1_takeTree (cm_w 663 (by decide +kernel) rfl) wiX1_takeTree wvX1_takeTree wdX1_takeTree
theorem wcX1_isFirst : Cond.code yX1_isFirst cX1_isFirst 3 (some .boolean) ∈ cm_tb := cm_w 670 (by decide +kernel) rfl
theorem wdX1_isFirst : cm_desc yX1_isFirst 1 := ⟨by decide +kernel, by decide +kernel, by decide +kernel⟩
theorem wiX1_isFirst : Cond.instanceMethod yX1_isFirst ∈ cm_tb := cm_w 668 (by decide +kernel) rfl
theorem wvX1_isFirst : Cond.selects (cm_R 1) yX1_isFirst yX1_isFirst ∈ cm_tb := cm_w 669 (by decide +kernel) rfl
theorem q6_241 {d d' : Nat} {mc ms : Nat} {S : cm_CT} (hM : cm_Met d' yX1_isFirst cX1_isFirst 3 (some .boolean) mc ms S) (hd : d' < d) : cm_Cal d 6 (.invokevirtual 241) (2, 2, mc, ms, S) := cm_calV (ci := 1) hM hd (by decide) (by decide) rfl wcX1_isFirst (cm_w 667 (by decide +kernel) rfl) wiX1_isFirst wvX1_isFirst wdX1_isFirst
theorem q1_38 {d d' : Nat} {mc ms : Nat} {S : cm_CT} (hM : cm_Met d' yX1_isRunLike cX1_isRunLike 10 (some .boolean) mc ms S) (hd : d' < d) : cm_Cal d 1 (.invokevirtual 38) (6, 2, mc, ms, S) := cm_calV (ci := 1) hM hd (by decide) (by decide) rfl wcX1_isRunLike (cm_w 671 (by decide +kernel) rfl) wiX1_isRunLike wvX1_isRunLike wdX1_isRunLike
theorem wcX6_shared : Cond.code yX6_shared cX6_shared 5 (some .int) ∈ cm_tb := cm_w 675 (by decide +kernel) rfl
theorem wdX6_shared : cm_desc yX6_shared 2 := ⟨by decide +kernel, by decide +kernel, by decide +kernel⟩
theorem wiX6_shared : Cond.instanceMethod yX6_shared ∈ cm_tb := cm_w 673 (by decide +kernel) rfl
theorem wvX6_shared : Cond.selects (cm_R 6) yX6_shared yX6_shared ∈ cm_tb := cm_w 674 (by decide +kernel) rfl
theorem q8_130 {d d' : Nat} {mc ms : Nat} {S : cm_CT} (hM : cm_Met d' yX6_shared cX6_shared 5 (some .int) mc ms S) (hd : d' < d) : cm_Cal d 8 (.invokevirtual 130) (3, 7, mc, ms, S) := cm_calV (ci := 6) hM hd (by decide) (by decide) rfl wcX6_shared (cm_w 672 (by decide +kernel) rfl) wiX6_shared wvX6_shared wdX6_shared
theorem wcX1_howOften : Cond.code yX1_howOften cX1_howOften 5 (some .int) ∈ cm_tb := cm_w 679 (by decide +kernel) rfl
theorem wdX1_howOften : cm_desc yX1_howOften 2 := ⟨by decide +kernel, by decide +kernel, by decide +kernel⟩
theorem wiX1_howOften : Cond.instanceMethod yX1_howOften ∈ cm_tb := cm_w 677 (by decide +kernel) rfl
theorem wvX1_howOften : Cond.selects (cm_R 1) yX1_howOften yX1_howOften ∈ cm_tb := cm_w 678 (by decide +kernel) rfl
theorem q6_244 {d d' : Nat} {mc ms : Nat} {S : cm_CT} (hM : cm_Met d' yX1_howOften cX1_howOften 5 (some .int) mc ms S) (hd : d' < d) : cm_Cal d 6 (.invokevirtual 244) (3, 2, mc, ms, S) := cm_calV (ci := 1) hM hd (by decide) (by decide) rfl wcX1_howOften (cm_w 676 (by decide +kernel) rfl) wiX1_howOften wvX1_howOften wdX1_howOften
theorem wcX6_often : Cond.code yX6_often cX6_often 4 (some .int) ∈ cm_tb := cm_w 683 (by decide +kernel) rfl
theorem wdX6_often : cm_desc yX6_often 3 := ⟨by decide +kernel, by decide +kernel, by decide +kernel⟩
theorem wiX6_often : Cond.instanceMethod yX6_often ∈ cm_tb := cm_w 681 (by decide +kernel) rfl
theorem wvX6_often : Cond.selects (cm_R 6) yX6_often yX6_often ∈ cm_tb := cm_w 682 (by decide +kernel) rfl
theorem q8_134 {d d' : Nat} {mc ms : Nat} {S : cm_CT} (hM : cm_Met d' yX6_often cX6_often 4 (some .int) mc ms S) (hd : d' < d) : cm_Cal d 8 (.invokevirtual 134) (4, 7, mc, ms, S) := cm_calV (ci := 6) hM hd (by decide) (by decide) rfl wcX6_often (cm_w 680 (by decide +kernel) rfl) wiX6_often wvX6_often wdX6_often
theorem wcX6_takeLine : Cond.code yX6_takeLine cX6_takeLine 4 (some .boolean) ∈ cm_tb := cm_w 687 (by decide +kernel) rfl
theorem wdX6_takeLine : cm_desc yX6_takeLine 3 := ⟨by decide +kernel, by decide +kernel, by decide +kernel⟩
theorem wiX6_takeLine : Cond.instanceMethod yX6_takeLine ∈ cm_tb := cm_w 686 (by decide +kernel) rfl
theorem wvX6_takeLine : Cond.selects (cm_R 6) yX6_takeLine yX6_takeLine ∈ cm_tb := cm_w 16 (by decide +kernel) rfl
theorem q6_248 {d d' : Nat} {mc ms : Nat} {S : cm_CT} (hM : cm_Met d' yX6_takeLine cX6_takeLine 4 (some .boolean) mc ms S) (hd : d' < d) : cm_Cal d 6 (.invokevirtual 248) (4, 7, mc, ms, S) := cm_calV (ci := 6) hM hd (by decide) (by decide) rfl wcX6_takeLine (cm_w 684 (by decide +kernel) rfl) wiX6_takeLine wvX6_takeLine wdX6_takeLine
theorem wcX6_from : Cond.code yX6_from cX6_from 5 (some .int) ∈ cm_tb := cm_w 691 (by decide +kernel) rfl
theorem wdX6_from : cm_desc yX6_from 3 := ⟨by decide +kernel, by decide +kernel, by decide +kernel⟩
theorem wiX6_from : Cond.instanceMethod yX6_from ∈ cm_tb := cm_w 689 (by decide +kernel) rfl
theorem wvX6_from : Cond.selects (cm_R 6) yX6_from yX6_from ∈ cm_tb := cm_w 690 (by decide +kernel) rfl
theorem q8_138 {d d' : Nat} {mc ms : Nat} {S : cm_CT} (hM : cm_Met d' yX6_from cX6_from 5 (some .int) mc ms S) (hd : d' < d) : cm_Cal d 8 (.invokevirtual 138) (4, 7, mc, ms, S) := cm_calV (ci := 6) hM hd (by decide) (by decide) rfl wcX6_from (cm_w 688 (by decide +kernel) rfl) wiX6_from wvX6_from wdX6_from
theorem wcX6_apart : Cond.code yX6_apart cX6_apart 3 (some .int) ∈ cm_tb := cm_w 695 (by decide +kernel) rfl
theorem wdX6_apart : cm_desc yX6_apart 2 := ⟨by decide +kernel, by decide +kernel, by decide +kernel⟩
theorem wiX6_apart : Cond.instanceMethod yX6_apart ∈ cm_tb := cm_w 693 (by decide +kernel) rfl
theorem wvX6_apart : Cond.selects (cm_R 6) yX6_apart yX6_apart ∈ cm_tb := cm_w 694 (by decide +kernel) rfl
theorem q8_142 {d d' : Nat} {mc ms : Nat} {S : cm_CT} (hM : cm_Met d' yX6_apart cX6_apart 3 (some .int) mc ms S) (hd : d' < d) : cm_Cal d 8 (.invokevirtual 142) (3, 7, mc, ms, S) := cm_calV (ci := 6) hM hd (by decide) (by decide) rfl wcX6_apart (cm_w 692 (by decide +kernel) rfl) wiX6_apart wvX6_apart wdX6_apart
theorem wcX6_ways : Cond.code yX6_ways cX6_ways 2 (some .int) ∈ cm_tb := cm_w 699 (by decide +kernel) rfl
theorem wdX6_ways : cm_desc yX6_ways 1 := ⟨by decide +kernel, by decide +kernel, by decide +kernel⟩
theorem wiX6_ways : Cond.instanceMethod yX6_ways ∈ cm_tb := cm_w 697 (by decide +kernel) rfl
theorem wvX6_ways : Cond.selects (cm_R 6) yX6_ways yX6_ways ∈ cm_tb := cm_w 698 (by decide +kernel) rfl
theorem q8_146 {d d' : Nat} {mc ms : Nat} {S : cm_CT} (hM : cm_Met d' yX6_ways cX6_ways 2 (some .int) mc ms S) (hd : d' < d) : cm_Cal d 8 (.invokevirtual 146) (2, 7, mc, ms, S) := cm_calV (ci := 6) hM hd (by decide) (by decide) rfl wcX6_ways (cm_w 696 (by decide +kernel) rfl) wiX6_ways wvX6_ways wdX6_ways
theorem wcX0_waysBack : Cond.code yX0_waysBack cX0_waysBack 3 (some .int) ∈ cm_tb := cm_w 703 (by decide +kernel) rfl
theorem wdX0_waysBack : cm_desc yX0_waysBack 1 := ⟨by decide +kernel, by decide +kernel, by decide +kernel⟩
theorem wiX0_waysBack : Cond.instanceMethod yX0_waysBack ∈ cm_tb := cm_w 701 (by decide +kernel) rfl
theorem wvX0_waysBack : Cond.selects (cm_R 0) yX0_waysBack yX0_waysBack ∈ cm_tb := cm_w 702 (by decide +kernel) rfl
theorem q6_258 {d d' : Nat} {mc ms : Nat} {S : cm_CT} (hM : cm_Met d' yX0_waysBack cX0_waysBack 3 (some .int) mc ms S) (hd : d' < d) : cm_Cal d 6 (.invokevirtual 258) (2, 1, mc, ms, S) := cm_calV (ci := 0) hM hd (by decide) (by decide) rfl wcX0_waysBack (cm_w 700 (by decide +kernel) rfl) wiX0_waysBack wvX0_waysBack wdX0_waysBack
theorem wcX0_tallyOf : Cond.code yX0_tallyOf cX0_tallyOf 2 (some .long) ∈ cm_tb := cm_w 707 (by decide +kernel) rfl
theorem wdX0_tallyOf : cm_desc yX0_tallyOf 1 := ⟨by decide +kernel, by decide +kernel, by decide +kernel⟩
theorem wiX0_tallyOf : Cond.instanceMethod yX0_tallyOf ∈ cm_tb := cm_w 706 (by decide +kernel) rfl
theorem wvX0_tallyOf : Cond.selects (cm_R 0) yX0_tallyOf yX0_tallyOf ∈ cm_tb := cm_w 17 (by decide +kernel) rfl
theorem q0_74 {d d' : Nat} {mc ms : Nat} {S : cm_CT} (hM : cm_Met d' yX0_tallyOf cX0_tallyOf 2 (some .long) mc ms S) (hd : d' < d) : cm_Cal d 0 (.invokevirtual 74) (2, 1, mc, ms, S) := cm_calV (ci := 0) hM hd (by decide) (by decide) rfl wcX0_tallyOf (cm_w 704 (by decide +kernel) rfl) wiX0_tallyOf wvX0_tallyOf wdX0_tallyOf
theorem wcX6_odds : Cond.code yX6_odds cX6_odds 4 (some .int) ∈ cm_tb := cm_w 711 (by decide +kernel) rfl
theorem wdX6_odds : cm_desc yX6_odds 2 := ⟨by decide +kernel, by decide +kernel, by decide +kernel⟩
theorem wiX6_odds : Cond.instanceMethod yX6_odds ∈ cm_tb := cm_w 709 (by decide +kernel) rfl
theorem wvX6_odds : Cond.selects (cm_R 6) yX6_odds yX6_odds ∈ cm_tb := cm_w 710 (by decide +kernel) rfl
theorem q8_150 {d d' : Nat} {mc ms : Nat} {S : cm_CT} (hM : cm_Met d' yX6_odds cX6_odds 4 (some .int) mc ms S) (hd : d' < d) : cm_Cal d 8 (.invokevirtual 150) (3, 7, mc, ms, S) := cm_calV (ci := 6) hM hd (by decide) (by decide) rfl wcX6_odds (cm_w 708 (by decide +kernel) rfl) wiX6_odds wvX6_odds wdX6_odds
theorem wcX0_partsBy : Cond.code yX0_partsBy cX0_partsBy 6 (some .long) ∈ cm_tb := cm_w 715 (by decide +kernel) rfl
theorem wdX0_partsBy : cm_desc yX0_partsBy 2 := ⟨by decide +kernel, by decide +kernel, by decide +kernel⟩
theorem wiX0_partsBy : Cond.instanceMethod yX0_partsBy ∈ cm_tb := cm_w 713 (by decide +kernel) rfl
theorem wvX0_partsBy : Cond.selects (cm_R 0) yX0_partsBy yX0_partsBy ∈ cm_tb := cm_w 714 (by decide +kernel) rfl
theorem q6_261 {d d' : Nat} {mc ms : Nat} {S : cm_CT} (hM : cm_Met d' yX0_partsBy cX0_partsBy 6 (some .long) mc ms S) (hd : d' < d) : cm_Cal d 6 (.invokevirtual 261) (3, 1, mc, ms, S) := cm_calV (ci := 0) hM hd (by decide) (by decide) rfl wcX0_partsBy (cm_w 712 (by decide +kernel) rfl) wiX0_partsBy wvX0_partsBy wdX0_partsBy
theorem wcJ7_fill_d0a16 : Cond.code yJ7_fill_d0a16 cJ7_fill_d0a16 5 none ∈ cm_tb := cm_w 718 (by decide +kernel) rfl
theorem wdJ7_fill_d0a16 : cm_desc yJ7_fill_d0a16 2 := ⟨by decide +kernel, by decide +kernel, by decide +kernel⟩
theorem wsJ7_fill_d0a16 : Cond.static yJ7_fill_d0a16 ∈ cm_tb := cm_w 717 (by decide +kernel) rfl
theorem q0_78 {d d' : Nat} {mc ms : Nat} {S : cm_CT} (hM : cm_Met d' yJ7_fill_d0a16 cJ7_fill_d0a16 5 none mc ms S) (hd : d' < d) : cm_Cal d 0 (.invokestatic 78) (2, 0, mc, ms, S) := cm_calS hM hd (by decide) wcJ7_fill_d0a16 (cm_w 716 (by decide +kernel) rfl) wsJ7_fill_d0a16 (cm_w 86 (by decide +kernel) rfl) wdJ7_fill_d0a16
theorem wcX0_addParts : Cond.code yX0_addParts cX0_addParts 4 none ∈ cm_tb := cm_w 724 (by decide +kernel) rfl
theorem wdX0_addParts : cm_desc yX0_addParts 2 := ⟨by decide +kernel, by decide +kernel, by decide +kernel⟩
theorem wiX0_addParts : Cond.instanceMethod yX0_addParts ∈ cm_tb := cm_w 723 (by decide +kernel) rfl
theorem wvX0_addParts : Cond.selects (cm_R 0) yX0_addParts yX0_addParts ∈ cm_tb := cm_w 18 (by decide +kernel) rfl
theorem q0_88 {d d' : Nat} {mc ms : Nat} {S : cm_CT} (hM : cm_Met d' yX0_addParts cX0_addParts 4 none mc ms S) (hd : d' < d) : cm_Cal d 0 (.invokevirtual 88) (3, 1, mc, ms, S) := cm_calV (ci := 0) hM hd (by decide) (by decide) rfl wcX0_addParts (cm_w 721 (by decide +kernel) rfl) wiX0_addParts wvX0_addParts wdX0_addParts
theorem wcX6_asked : Cond.code yX6_asked cX6_asked 1 (some .int) ∈ cm_tb := cm_w 730 (by decide +kernel) rfl
theorem wdX6_asked : cm_desc yX6_asked 0 := ⟨by decide +kernel, by decide +kernel, by decide +kernel⟩
theorem wiX6_asked : Cond.instanceMethod yX6_asked ∈ cm_tb := cm_w 728 (by decide +kernel) rfl
theorem wvX6_asked : Cond.selects (cm_R 6) yX6_asked yX6_asked ∈ cm_tb := cm_w 729 (by decide +kernel) rfl
theorem q8_154 {d d' : Nat} {mc ms : Nat} {S : cm_CT} (hM : cm_Met d' yX6_asked cX6_asked 1 (some .int) mc ms S) (hd : d' < d) : cm_Cal d 8 (.invokevirtual 154) (1, 7, mc, ms, S) := cm_calV (ci := 6) hM hd (by decide) (by decide) rfl wcX6_asked (cm_w 727 (by decide +kernel) rfl) wiX6_asked wvX6_asked wdX6_asked
theorem wcX6_upper : Cond.code yX6_upper cX6_upper 1 (some .long) ∈ cm_tb := cm_w 734 (by decide +kernel) rfl
theorem wdX6_upper : cm_desc yX6_upper 0 := ⟨by decide +kernel, by decide +kernel, by decide +kernel⟩
theorem wiX6_upper : Cond.instanceMethod yX6_upper ∈ cm_tb := cm_w 732 (by decide +kernel) rfl
theorem wvX6_upper : Cond.selects (cm_R 6) yX6_upper yX6_upper ∈ cm_tb := cm_w 733 (by decide +kernel) rfl
theorem q8_159 {d d' : Nat} {mc ms : Nat} {S : cm_CT} (hM : cm_Met d' yX6_upper cX6_upper 1 (some .long) mc ms S) (hd : d' < d) : cm_Cal d 8 (.invokevirtual 159) (1, 7, mc, ms, S) := cm_calV (ci := 6) hM hd (by decide) (by decide) rfl wcX6_upper (cm_w 731 (by decide +kernel) rfl) wiX6_upper wvX6_upper wdX6_upper
theorem wcX6_lower : Cond.code yX6_lower cX6_lower 1 (some .long) ∈ cm_tb := cm_w 738 (by decide +kernel) rfl
theorem wdX6_lower : cm_desc yX6_lower 0 := ⟨by decide +kernel, by decide +kernel, by decide +kernel⟩
theorem wiX6_lower : Cond.instanceMethod yX6_lower ∈ cm_tb := cm_w 736 (by decide +kernel) rfl
theorem wvX6_lower : Cond.selects (cm_R 6) yX6_lower yX6_lower ∈ cm_tb := cm_w 737 (by decide +kernel) rfl
theorem q8_164 {d d' : Nat} {mc ms : Nat} {S : cm_CT} (hM : cm_Met d' yX6_lower cX6_lower 1 (some .long) mc ms S) (hd : d' < d) : cm_Cal d 8 (.invokevirtual 164) (1, 7, mc, ms, S) := cm_calV (ci := 6) hM hd (by decide) (by decide) rfl wcX6_lower (cm_w 735 (by decide +kernel) rfl) wiX6_lower wvX6_lower wdX6_lower
theorem wcX6_count : Cond.code yX6_count cX6_count 2 (some .int) ∈ cm_tb := cm_w 742 (by decide +kernel) rfl
theorem wdX6_count : cm_desc yX6_count 1 := ⟨by decide +kernel, by decide +kernel, by decide +kernel⟩
theorem wiX6_count : Cond.instanceMethod yX6_count ∈ cm_tb := cm_w 740 (by decide +kernel) rfl
theorem wvX6_count : Cond.selects (cm_R 6) yX6_count yX6_count ∈ cm_tb := cm_w 741 (by decide +kernel) rfl
theorem q8_168 {d d' : Nat} {mc ms : Nat} {S : cm_CT} (hM : cm_Met d' yX6_count cX6_count 2 (some .int) mc ms S) (hd : d' < d) : cm_Cal d 8 (.invokevirtual 168) (2, 7, mc, ms, S) := cm_calV (ci := 6) hM hd (by decide) (by decide) rfl wcX6_count (cm_w 739 (by decide +kernel) rfl) wiX6_count wvX6_count wdX6_count
theorem wcX6_counted : Cond.code yX6_counted cX6_counted 2 (some .int) ∈ cm_tb := cm_w 746 (by decide +kernel) rfl
theorem wdX6_counted : cm_desc yX6_counted 1 := ⟨by decide +kernel, by decide +kernel, by decide +kernel⟩
theorem wiX6_counted : Cond.instanceMethod yX6_counted ∈ cm_tb := cm_w 745 (by decide +kernel) rfl
theorem wvX6_counted : Cond.selects (cm_R 6) yX6_counted yX6_counted ∈ cm_tb := cm_w 19 (by decide +kernel) rfl
theorem q6_269 {d d' : Nat} {mc ms : Nat} {S : cm_CT} (hM : cm_Met d' yX6_counted cX6_counted 2 (some .int) mc ms S) (hd : d' < d) : cm_Cal d 6 (.invokevirtual 269) (2, 7, mc, ms, S) := cm_calV (ci := 6) hM hd (by decide) (by decide) rfl wcX6_counted (cm_w 743 (by decide +kernel) rfl) wiX6_counted wvX6_counted wdX6_counted
theorem wcX0_countKinds : Cond.code yX0_countKinds cX0_countKinds 6 (some .int) ∈ cm_tb := cm_w 750 (by decide +kernel) rfl
theorem wdX0_countKinds : cm_desc yX0_countKinds 2 := ⟨by decide +kernel, by decide +kernel, by decide +kernel⟩
theorem wiX0_countKinds : Cond.instanceMethod yX0_countKinds ∈ cm_tb := cm_w 748 (by decide +kernel) rfl
theorem wvX0_countKinds : Cond.selects (cm_R 0) yX0_countKinds yX0_countKinds ∈ cm_tb := cm_w 749 (by decide +kernel) rfl
theorem q6_296 {d d' : Nat} {mc ms : Nat} {S : cm_CT} (hM : cm_Met d' yX0_countKinds cX0_countKinds 6 (some .int) mc ms S) (hd : d' < d) : cm_Cal d 6 (.invokevirtual 296) (3, 1, mc, ms, S) := cm_calV (ci := 0) hM hd (by decide) (by decide) rfl wcX0_countKinds (cm_w 747 (by decide +kernel) rfl) wiX0_countKinds wvX0_countKinds wdX0_countKinds
theorem q0_68 {d d' : Nat} {mc ms : Nat} {S : cm_CT} (hM : cm_Met d' yX0_kindOf cX0_kindOf 2 (some .int) mc ms S) (hd : d' < d) : cm_Cal d 0 (.invokevirtual 68) (2, 1, mc, ms, S) := cm_calV (ci := 0) hM hd (by decide) (by decide) rfl wcX0_kindOf (cm_w 751 (by decide +kernel) rfl) wiX0_kindOf wvX0_kindOf wdX0_kindOf
theorem wcX0_tips : Cond.code yX0_tips cX0_tips 3 (some .int) ∈ cm_tb := cm_w 755 (by decide +kernel) rfl
theorem wdX0_tips : cm_desc yX0_tips 0 := ⟨by decide +kernel, by decide +kernel, by decide +kernel⟩
theorem wiX0_tips : Cond.instanceMethod yX0_tips ∈ cm_tb := cm_w 753 (by decide +kernel) rfl
theorem wvX0_tips : Cond.selects (cm_R 0) yX0_tips yX0_tips ∈ cm_tb := cm_w 754 (by decide +kernel) rfl
theorem q6_299 {d d' : Nat} {mc ms : Nat} {S : cm_CT} (hM : cm_Met d' yX0_tips cX0_tips 3 (some .int) mc ms S) (hd : d' < d) : cm_Cal d 6 (.invokevirtual 299) (1, 1, mc, ms, S) := cm_calV (ci := 0) hM hd (by decide) (by decide) rfl wcX0_tips (cm_w 752 (by decide +kernel) rfl) wiX0_tips wvX0_tips wdX0_tips
theorem wcX0_total : Cond.code yX0_total cX0_total 4 (some .int) ∈ cm_tb := cm_w 759 (by decide +kernel) rfl
theorem wdX0_total : cm_desc yX0_total 1 := ⟨by decide +kernel, by decide +kernel, by decide +kernel⟩
theorem wiX0_total : Cond.instanceMethod yX0_total ∈ cm_tb := cm_w 757 (by decide +kernel) rfl
theorem wvX0_total : Cond.selects (cm_R 0) yX0_total yX0_total ∈ cm_tb := cm_w 758 (by decide +kernel) rfl
theorem q6_302 {d d' : Nat} {mc ms : Nat} {S : cm_CT} (hM : cm_Met d' yX0_total cX0_total 4 (some .int) mc ms S) (hd : d' < d) : cm_Cal d 6 (.invokevirtual 302) (2, 1, mc, ms, S) := cm_calV (ci := 0) hM hd (by decide) (by decide) rfl wcX0_total (cm_w 756 (by decide +kernel) rfl) wiX0_total wvX0_total wdX0_total
theorem q0_71 {d d' : Nat} {mc ms : Nat} {S : cm_CT} (hM : cm_Met d' yX5_total cX5_total 4 (some .int) mc ms S) (hd : d' < d) : cm_Cal d 0 (.invokevirtual 71) (2, 6, mc, ms, S) := cm_calV (ci := 5) hM hd (by decide) (by decide) rfl wcX5_total (cm_w 760 (by decide +kernel) rfl) wiX5_total wvX5_total wdX5_total
theorem wcX0_countTorn : Cond.code yX0_countTorn cX0_countTorn 3 (some .int) ∈ cm_tb := cm_w 764 (by decide +kernel) rfl
theorem wdX0_countTorn : cm_desc yX0_countTorn 0 := ⟨by decide +kernel, by decide +kernel, by decide +kernel⟩
theorem wiX0_countTorn : Cond.instanceMethod yX0_countTorn ∈ cm_tb := cm_w 762 (by decide +kernel) rfl
theorem wvX0_countTorn : Cond.selects (cm_R 0) yX0_countTorn yX0_countTorn ∈ cm_tb := cm_w 763 (by decide +kernel) rfl
theorem q6_303 {d d' : Nat} {mc ms : Nat} {S : cm_CT} (hM : cm_Met d' yX0_countTorn cX0_countTorn 3 (some .int) mc ms S) (hd : d' < d) : cm_Cal d 6 (.invokevirtual 303) (1, 1, mc, ms, S) := cm_calV (ci := 0) hM hd (by decide) (by decide) rfl wcX0_countTorn (cm_w 761 (by decide +kernel) rfl) wiX0_countTorn wvX0_countTorn wdX0_countTorn
theorem wcX6_countThere : Cond.code yX6_countThere cX6_countThere 3 (some .int) ∈ cm_tb := cm_w 767 (by decide +kernel) rfl
theorem wdX6_countThere : cm_desc yX6_countThere 1 := ⟨by decide +kernel, by decide +kernel, by decide +kernel⟩
theorem wsX6_countThere : Cond.static yX6_countThere ∈ cm_tb := cm_w 766 (by decide +kernel) rfl
theorem q6_306 {d d' : Nat} {mc ms : Nat} {S : cm_CT} (hM : cm_Met d' yX6_countThere cX6_countThere 3 (some .int) mc ms S) (hd : d' < d) : cm_Cal d 6 (.invokestatic 306) (1, 0, mc, ms, S) := cm_calS hM hd (by decide) wcX6_countThere (cm_w 765 (by decide +kernel) rfl) wsX6_countThere (cm_w 75 (by decide +kernel) rfl) wdX6_countThere
theorem wcX6_countKept : Cond.code yX6_countKept cX6_countKept 3 (some .int) ∈ cm_tb := cm_w 771 (by decide +kernel) rfl
theorem wdX6_countKept : cm_desc yX6_countKept 0 := ⟨by decide +kernel, by decide +kernel, by decide +kernel⟩
theorem wiX6_countKept : Cond.instanceMethod yX6_countKept ∈ cm_tb := cm_w 770 (by decide +kernel) rfl
theorem wvX6_countKept : Cond.selects (cm_R 6) yX6_countKept yX6_countKept ∈ cm_tb := cm_w 20 (by decide +kernel) rfl
theorem q6_310 {d d' : Nat} {mc ms : Nat} {S : cm_CT} (hM : cm_Met d' yX6_countKept cX6_countKept 3 (some .int) mc ms S) (hd : d' < d) : cm_Cal d 6 (.invokevirtual 310) (1, 7, mc, ms, S) := cm_calV (ci := 6) hM hd (by decide) (by decide) rfl wcX6_countKept (cm_w 768 (by decide +kernel) rfl) wiX6_countKept wvX6_countKept wdX6_countKept
theorem wcX6_keptSize : Cond.code yX6_keptSize cX6_keptSize 2 (some .int) ∈ cm_tb := cm_w 775 (by decide +kernel) rfl
theorem wdX6_keptSize : cm_desc yX6_keptSize 1 := ⟨by decide +kernel, by decide +kernel, by decide +kernel⟩
theorem wiX6_keptSize : Cond.instanceMethod yX6_keptSize ∈ cm_tb := cm_w 774 (by decide +kernel) rfl
theorem wvX6_keptSize : Cond.selects (cm_R 6) yX6_keptSize yX6_keptSize ∈ cm_tb := cm_w 21 (by decide +kernel) rfl
theorem q6_280 {d d' : Nat} {mc ms : Nat} {S : cm_CT} (hM : cm_Met d' yX6_keptSize cX6_keptSize 2 (some .int) mc ms S) (hd : d' < d) : cm_Cal d 6 (.invokevirtual 280) (2, 7, mc, ms, S) := cm_calV (ci := 6) hM hd (by decide) (by decide) rfl wcX6_keptSize (cm_w 772 (by decide +kernel) rfl) wiX6_keptSize wvX6_keptSize wdX6_keptSize
theorem wcX6_finding : Cond.code yX6_finding cX6_finding 1 (some .int) ∈ cm_tb := cm_w 779 (by decide +kernel) rfl
theorem wdX6_finding : cm_desc yX6_finding 0 := ⟨by decide +kernel, by decide +kernel, by decide +kernel⟩
theorem wiX6_finding : Cond.instanceMethod yX6_finding ∈ cm_tb := cm_w 777 (by decide +kernel) rfl
theorem wvX6_finding : Cond.selects (cm_R 6) yX6_finding yX6_finding ∈ cm_tb := cm_w 778 (by decide +kernel) rfl
theorem q8_172 {d d' : Nat} {mc ms : Nat} {S : cm_CT} (hM : cm_Met d' yX6_finding cX6_finding 1 (some .int) mc ms S) (hd : d' < d) : cm_Cal d 8 (.invokevirtual 172) (1, 7, mc, ms, S) := cm_calV (ci := 6) hM hd (by decide) (by decide) rfl wcX6_finding (cm_w 776 (by decide +kernel) rfl) wiX6_finding wvX6_finding wdX6_finding
theorem wcX6_findings : Cond.code yX6_findings cX6_findings 2 (some .int) ∈ cm_tb := cm_w 783 (by decide +kernel) rfl
theorem wdX6_findings : cm_desc yX6_findings 1 := ⟨by decide +kernel, by decide +kernel, by decide +kernel⟩
theorem wiX6_findings : Cond.instanceMethod yX6_findings ∈ cm_tb := cm_w 781 (by decide +kernel) rfl
theorem wvX6_findings : Cond.selects (cm_R 6) yX6_findings yX6_findings ∈ cm_tb := cm_w 782 (by decide +kernel) rfl
theorem q8_176 {d d' : Nat} {mc ms : Nat} {S : cm_CT} (hM : cm_Met d' yX6_findings cX6_findings 2 (some .int) mc ms S) (hd : d' < d) : cm_Cal d 8 (.invokevirtual 176) (2, 7, mc, ms, S) := cm_calV (ci := 6) hM hd (by decide) (by decide) rfl wcX6_findings (cm_w 780 (by decide +kernel) rfl) wiX6_findings wvX6_findings wdX6_findings
theorem wcX6_digest : Cond.code yX6_digest cX6_digest 5 (some .long) ∈ cm_tb := cm_w 787 (by decide +kernel) rfl
theorem wdX6_digest : cm_desc yX6_digest 0 := ⟨by decide +kernel, by decide +kernel, by decide +kernel⟩
theorem wiX6_digest : Cond.instanceMethod yX6_digest ∈ cm_tb := cm_w 785 (by decide +kernel) rfl
theorem wvX6_digest : Cond.selects (cm_R 6) yX6_digest yX6_digest ∈ cm_tb := cm_w 786 (by decide +kernel) rfl
theorem q8_180 {d d' : Nat} {mc ms : Nat} {S : cm_CT} (hM : cm_Met d' yX6_digest cX6_digest 5 (some .long) mc ms S) (hd : d' < d) : cm_Cal d 8 (.invokevirtual 180) (1, 7, mc, ms, S) := cm_calV (ci := 6) hM hd (by decide) (by decide) rfl wcX6_digest (cm_w 784 (by decide +kernel) rfl) wiX6_digest wvX6_digest wdX6_digest
theorem wcX6_digestOf : Cond.code yX6_digestOf cX6_digestOf 8 (some .long) ∈ cm_tb := cm_w 792 (by decide +kernel) rfl
theorem wdX6_digestOf : cm_desc yX6_digestOf 2 := ⟨by decide +kernel, by decide +kernel, by decide +kernel⟩
theorem wsX6_digestOf : Cond.static yX6_digestOf ∈ cm_tb := cm_w 791 (by decide +kernel) rfl
theorem q6_276 {d d' : Nat} {mc ms : Nat} {S : cm_CT} (hM : cm_Met d' yX6_digestOf cX6_digestOf 8 (some .long) mc ms S) (hd : d' < d) : cm_Cal d 6 (.invokestatic 276) (2, 0, mc, ms, S) := cm_calS hM hd (by decide) wcX6_digestOf (cm_w 790 (by decide +kernel) rfl) wsX6_digestOf (cm_w 75 (by decide +kernel) rfl) wdX6_digestOf
theorem wcX7_init : Cond.code yX7_init cX7_init 2 none ∈ cm_tb := cm_w 797 (by decide +kernel) rfl
theorem wdX7_init : cm_desc yX7_init 0 := ⟨by decide +kernel, by decide +kernel, by decide +kernel⟩
theorem wiX7_init : Cond.instanceMethod yX7_init ∈ cm_tb := cm_w 796 (by decide +kernel) rfl
theorem q8_12 {d d' : Nat} {mc ms : Nat} {S : cm_CT} (hM : cm_Met d' yX7_init cX7_init 2 none mc ms S) (hd : d' < d) : cm_Cal d 8 (.invokespecial 12) (1, 8, mc, ms, S) := cm_calI (ci := 7) hM hd (by decide) (by decide) rfl rfl wcX7_init (cm_w 795 (by decide +kernel) rfl) wiX7_init wdX7_init
theorem q7_1 {d : Nat} : cm_Cal d 7 (.invokespecial 1) (1, 0, 0, 0, cm_Sobj) := cm_calO (cm_w 798 (by decide +kernel) rfl)
theorem wcX7_row : Cond.code yX7_row cX7_row 4 (some .int) ∈ cm_tb := cm_w 890 (by decide +kernel) rfl
theorem wdX7_row : cm_desc yX7_row 2 := ⟨by decide +kernel, by decide +kernel, by decide +kernel⟩
theorem wiX7_row : Cond.instanceMethod yX7_row ∈ cm_tb := cm_w 888 (by decide +kernel) rfl
theorem wvX7_row : Cond.selects (cm_R 7) yX7_row yX7_row ∈ cm_tb := cm_w 889 (by decide +kernel) rfl
theorem q8_17 {d d' : Nat} {mc ms : Nat} {S : cm_CT} (hM : cm_Met d' yX7_row cX7_row 4 (some .int) mc ms S) (hd : d' < d) : cm_Cal d 8 (.invokevirtual 17) (3, 8, mc, ms, S) := cm_calV (ci := 7) hM hd (by decide) (by decide) rfl wcX7_row (cm_w 887 (by decide +kernel) rfl) wiX7_row wvX7_row wdX7_row
theorem wcX7_isRow : Cond.code yX7_isRow cX7_isRow 1 (some .boolean) ∈ cm_tb := cm_w 893 (by decide +kernel) rfl
theorem wdX7_isRow : cm_desc yX7_isRow 1 := ⟨by decide +kernel, by decide +kernel, by decide +kernel⟩
theorem wsX7_isRow : Cond.static yX7_isRow ∈ cm_tb := cm_w 892 (by decide +kernel) rfl
theorem q7_83 {d d' : Nat} {mc ms : Nat} {S : cm_CT} (hM : cm_Met d' yX7_isRow cX7_isRow 1 (some .boolean) mc ms S) (hd : d' < d) : cm_Cal d 7 (.invokestatic 83) (1, 0, mc, ms, S) := cm_calS hM hd (by decide) wcX7_isRow (cm_w 891 (by decide +kernel) rfl) wsX7_isRow (cm_w 83 (by decide +kernel) rfl) wdX7_isRow
theorem wcX7_in : Cond.code yX7_in cX7_in 3 (some .boolean) ∈ cm_tb := cm_w 896 (by decide +kernel) rfl
theorem wdX7_in : cm_desc yX7_in 3 := ⟨by decide +kernel, by decide +kernel, by decide +kernel⟩
theorem wsX7_in : Cond.static yX7_in ∈ cm_tb := cm_w 895 (by decide +kernel) rfl
theorem q7_79 {d d' : Nat} {mc ms : Nat} {S : cm_CT} (hM : cm_Met d' yX7_in cX7_in 3 (some .boolean) mc ms S) (hd : d' < d) : cm_Cal d 7 (.invokestatic 79) (3, 0, mc, ms, S) := cm_calS hM hd (by decide) wcX7_in (cm_w 894 (by decide +kernel) rfl) wsX7_in (cm_w 83 (by decide +kernel) rfl) wdX7_in
theorem wcX7_finds : Cond.code yX7_finds cX7_finds 2 (some .int) ∈ cm_tb := cm_w 900 (by decide +kernel) rfl
theorem wdX7_finds : cm_desc yX7_finds 1 := ⟨by decide +kernel, by decide +kernel, by decide +kernel⟩
theorem wiX7_finds : Cond.instanceMethod yX7_finds ∈ cm_tb := cm_w 899 (by decide +kernel) rfl
theorem wvX7_finds : Cond.selects (cm_R 7) yX7_finds yX7_finds ∈ cm_tb := cm_w 22 (by decide +kernel) rfl
theorem q7_87 {d d' : Nat} {mc ms : Nat} {S : cm_CT} (hM : cm_Met d' yX7_finds cX7_finds 2 (some .int) mc ms S) (hd : d' < d) : cm_Cal d 7 (.invokevirtual 87) (2, 8, mc, ms, S) := cm_calV (ci := 7) hM hd (by decide) (by decide) rfl wcX7_finds (cm_w 897 (by decide +kernel) rfl) wiX7_finds wvX7_finds wdX7_finds
theorem wcX7_lay : Cond.code yX7_lay cX7_lay 5 (some .int) ∈ cm_tb := cm_w 904 (by decide +kernel) rfl
theorem wdX7_lay : cm_desc yX7_lay 3 := ⟨by decide +kernel, by decide +kernel, by decide +kernel⟩
theorem wiX7_lay : Cond.instanceMethod yX7_lay ∈ cm_tb := cm_w 902 (by decide +kernel) rfl
theorem wvX7_lay : Cond.selects (cm_R 7) yX7_lay yX7_lay ∈ cm_tb := cm_w 903 (by decide +kernel) rfl
theorem q8_22 {d d' : Nat} {mc ms : Nat} {S : cm_CT} (hM : cm_Met d' yX7_lay cX7_lay 5 (some .int) mc ms S) (hd : d' < d) : cm_Cal d 8 (.invokevirtual 22) (4, 8, mc, ms, S) := cm_calV (ci := 7) hM hd (by decide) (by decide) rfl wcX7_lay (cm_w 901 (by decide +kernel) rfl) wiX7_lay wvX7_lay wdX7_lay
theorem wcX7_lacks : Cond.code yX7_lacks cX7_lacks 3 (some .int) ∈ cm_tb := cm_w 908 (by decide +kernel) rfl
theorem wdX7_lacks : cm_desc yX7_lacks 2 := ⟨by decide +kernel, by decide +kernel, by decide +kernel⟩
theorem wiX7_lacks : Cond.instanceMethod yX7_lacks ∈ cm_tb := cm_w 907 (by decide +kernel) rfl
theorem wvX7_lacks : Cond.selects (cm_R 7) yX7_lacks yX7_lacks ∈ cm_tb := cm_w 23 (by decide +kernel) rfl
theorem q7_91 {d d' : Nat} {mc ms : Nat} {S : cm_CT} (hM : cm_Met d' yX7_lacks cX7_lacks 3 (some .int) mc ms S) (hd : d' < d) : cm_Cal d 7 (.invokevirtual 91) (3, 8, mc, ms, S) := cm_calV (ci := 7) hM hd (by decide) (by decide) rfl wcX7_lacks (cm_w 905 (by decide +kernel) rfl) wiX7_lacks wvX7_lacks wdX7_lacks
theorem wcX7_at : Cond.code yX7_at cX7_at 4 (some .int) ∈ cm_tb := cm_w 912 (by decide +kernel) rfl
theorem wdX7_at : cm_desc yX7_at 2 := ⟨by decide +kernel, by decide +kernel, by decide +kernel⟩
theorem wiX7_at : Cond.instanceMethod yX7_at ∈ cm_tb := cm_w 910 (by decide +kernel) rfl
theorem wvX7_at : Cond.selects (cm_R 7) yX7_at yX7_at ∈ cm_tb := cm_w 911 (by decide +kernel) rfl
theorem q8_26 {d d' : Nat} {mc ms : Nat} {S : cm_CT} (hM : cm_Met d' yX7_at cX7_at 4 (some .int) mc ms S) (hd : d' < d) : cm_Cal d 8 (.invokevirtual 26) (3, 8, mc, ms, S) := cm_calV (ci := 7) hM hd (by decide) (by decide) rfl wcX7_at (cm_w 909 (by decide +kernel) rfl) wiX7_at wvX7_at wdX7_at
theorem wcX7_tells : Cond.code yX7_tells cX7_tells 2 (some .int) ∈ cm_tb := cm_w 916 (by decide +kernel) rfl
theorem wdX7_tells : cm_desc yX7_tells 1 := ⟨by decide +kernel, by decide +kernel, by decide +kernel⟩
theorem wiX7_tells : Cond.instanceMethod yX7_tells ∈ cm_tb := cm_w 915 (by decide +kernel) rfl
theorem wvX7_tells : Cond.selects (cm_R 7) yX7_tells yX7_tells ∈ cm_tb := cm_w 24 (by decide +kernel) rfl
theorem q7_95 {d d' : Nat} {mc ms : Nat} {S : cm_CT} (hM : cm_Met d' yX7_tells cX7_tells 2 (some .int) mc ms S) (hd : d' < d) : cm_Cal d 7 (.invokevirtual 95) (2, 8, mc, ms, S) := cm_calV (ci := 7) hM hd (by decide) (by decide) rfl wcX7_tells (cm_w 913 (by decide +kernel) rfl) wiX7_tells wvX7_tells wdX7_tells
theorem wcX7_tear : Cond.code yX7_tear cX7_tear 2 (some .int) ∈ cm_tb := cm_w 920 (by decide +kernel) rfl
theorem wdX7_tear : cm_desc yX7_tear 1 := ⟨by decide +kernel, by decide +kernel, by decide +kernel⟩
theorem wiX7_tear : Cond.instanceMethod yX7_tear ∈ cm_tb := cm_w 918 (by decide +kernel) rfl
theorem wvX7_tear : Cond.selects (cm_R 7) yX7_tear yX7_tear ∈ cm_tb := cm_w 919 (by decide +kernel) rfl
theorem q8_31 {d d' : Nat} {mc ms : Nat} {S : cm_CT} (hM : cm_Met d' yX7_tear cX7_tear 2 (some .int) mc ms S) (hd : d' < d) : cm_Cal d 8 (.invokevirtual 31) (2, 8, mc, ms, S) := cm_calV (ci := 7) hM hd (by decide) (by decide) rfl wcX7_tear (cm_w 917 (by decide +kernel) rfl) wiX7_tear wvX7_tear wdX7_tear
theorem wcX7_copy : Cond.code yX7_copy cX7_copy 7 (some .int) ∈ cm_tb := cm_w 924 (by decide +kernel) rfl
theorem wdX7_copy : cm_desc yX7_copy 5 := ⟨by decide +kernel, by decide +kernel, by decide +kernel⟩
theorem wiX7_copy : Cond.instanceMethod yX7_copy ∈ cm_tb := cm_w 922 (by decide +kernel) rfl
theorem wvX7_copy : Cond.selects (cm_R 7) yX7_copy yX7_copy ∈ cm_tb := cm_w 923 (by decide +kernel) rfl
theorem q8_36 {d d' : Nat} {mc ms : Nat} {S : cm_CT} (hM : cm_Met d' yX7_copy cX7_copy 7 (some .int) mc ms S) (hd : d' < d) : cm_Cal d 8 (.invokevirtual 36) (6, 8, mc, ms, S) := cm_calV (ci := 7) hM hd (by decide) (by decide) rfl wcX7_copy (cm_w 921 (by decide +kernel) rfl) wiX7_copy wvX7_copy wdX7_copy
theorem wcX7_isPart : Cond.code yX7_isPart cX7_isPart 4 (some .boolean) ∈ cm_tb := cm_w 928 (by decide +kernel) rfl
theorem wdX7_isPart : cm_desc yX7_isPart 3 := ⟨by decide +kernel, by decide +kernel, by decide +kernel⟩
theorem wiX7_isPart : Cond.instanceMethod yX7_isPart ∈ cm_tb := cm_w 927 (by decide +kernel) rfl
theorem wvX7_isPart : Cond.selects (cm_R 7) yX7_isPart yX7_isPart ∈ cm_tb := cm_w 25 (by decide +kernel) rfl
theorem q7_98 {d d' : Nat} {mc ms : Nat} {S : cm_CT} (hM : cm_Met d' yX7_isPart cX7_isPart 4 (some .boolean) mc ms S) (hd : d' < d) : cm_Cal d 7 (.invokevirtual 98) (4, 8, mc, ms, S) := cm_calV (ci := 7) hM hd (by decide) (by decide) rfl wcX7_isPart (cm_w 925 (by decide +kernel) rfl) wiX7_isPart wvX7_isPart wdX7_isPart
theorem wcX7_mean : Cond.code yX7_mean cX7_mean 5 (some .int) ∈ cm_tb := cm_w 932 (by decide +kernel) rfl
theorem wdX7_mean : cm_desc yX7_mean 1 := ⟨by decide +kernel, by decide +kernel, by decide +kernel⟩
theorem wiX7_mean : Cond.instanceMethod yX7_mean ∈ cm_tb := cm_w 930 (by decide +kernel) rfl
theorem wvX7_mean : Cond.selects (cm_R 7) yX7_mean yX7_mean ∈ cm_tb := cm_w 931 (by decide +kernel) rfl
theorem q8_40 {d d' : Nat} {mc ms : Nat} {S : cm_CT} (hM : cm_Met d' yX7_mean cX7_mean 5 (some .int) mc ms S) (hd : d' < d) : cm_Cal d 8 (.invokevirtual 40) (2, 8, mc, ms, S) := cm_calV (ci := 7) hM hd (by decide) (by decide) rfl wcX7_mean (cm_w 929 (by decide +kernel) rfl) wiX7_mean wvX7_mean wdX7_mean
theorem wcX7_text : Cond.code yX7_text cX7_text 4 (some .int) ∈ cm_tb := cm_w 936 (by decide +kernel) rfl
theorem wdX7_text : cm_desc yX7_text 2 := ⟨by decide +kernel, by decide +kernel, by decide +kernel⟩
theorem wiX7_text : Cond.instanceMethod yX7_text ∈ cm_tb := cm_w 934 (by decide +kernel) rfl
theorem wvX7_text : Cond.selects (cm_R 7) yX7_text yX7_text ∈ cm_tb := cm_w 935 (by decide +kernel) rfl
theorem q8_44 {d d' : Nat} {mc ms : Nat} {S : cm_CT} (hM : cm_Met d' yX7_text cX7_text 4 (some .int) mc ms S) (hd : d' < d) : cm_Cal d 8 (.invokevirtual 44) (3, 8, mc, ms, S) := cm_calV (ci := 7) hM hd (by decide) (by decide) rfl wcX7_text (cm_w 933 (by decide +kernel) rfl) wiX7_text wvX7_text wdX7_text
theorem wcX7_isText : Cond.code yX7_isText cX7_isText 1 (some .boolean) ∈ cm_tb := cm_w 939 (by decide +kernel) rfl
theorem wdX7_isText : cm_desc yX7_isText 1 := ⟨by decide +kernel, by decide +kernel, by decide +kernel⟩
theorem wsX7_isText : Cond.static yX7_isText ∈ cm_tb := cm_w 938 (by decide +kernel) rfl
theorem q7_101 {d d' : Nat} {mc ms : Nat} {S : cm_CT} (hM : cm_Met d' yX7_isText cX7_isText 1 (some .boolean) mc ms S) (hd : d' < d) : cm_Cal d 7 (.invokestatic 101) (1, 0, mc, ms, S) := cm_calS hM hd (by decide) wcX7_isText (cm_w 937 (by decide +kernel) rfl) wsX7_isText (cm_w 83 (by decide +kernel) rfl) wdX7_isText
theorem wcX7_put : Cond.code yX7_put cX7_put 5 (some .int) ∈ cm_tb := cm_w 943 (by decide +kernel) rfl
theorem wdX7_put : cm_desc yX7_put 3 := ⟨by decide +kernel, by decide +kernel, by decide +kernel⟩
theorem wiX7_put : Cond.instanceMethod yX7_put ∈ cm_tb := cm_w 941 (by decide +kernel) rfl
theorem wvX7_put : Cond.selects (cm_R 7) yX7_put yX7_put ∈ cm_tb := cm_w 942 (by decide +kernel) rfl
theorem q8_48 {d d' : Nat} {mc ms : Nat} {S : cm_CT} (hM : cm_Met d' yX7_put cX7_put 5 (some .int) mc ms S) (hd : d' < d) : cm_Cal d 8 (.invokevirtual 48) (4, 8, mc, ms, S) := cm_calV (ci := 7) hM hd (by decide) (by decide) rfl wcX7_put (cm_w 940 (by decide +kernel) rfl) wiX7_put wvX7_put wdX7_put
theorem wcX7_fault : Cond.code yX7_fault cX7_fault 2 (some .int) ∈ cm_tb := cm_w 947 (by decide +kernel) rfl
theorem wdX7_fault : cm_desc yX7_fault 1 := ⟨by decide +kernel, by decide +kernel, by decide +kernel⟩
theorem wiX7_fault : Cond.instanceMethod yX7_fault ∈ cm_tb := cm_w 945 (by decide +kernel) rfl
theorem wvX7_fault : Cond.selects (cm_R 7) yX7_fault yX7_fault ∈ cm_tb := cm_w 946 (by decide +kernel) rfl
theorem q8_52 {d d' : Nat} {mc ms : Nat} {S : cm_CT} (hM : cm_Met d' yX7_fault cX7_fault 2 (some .int) mc ms S) (hd : d' < d) : cm_Cal d 8 (.invokevirtual 52) (2, 8, mc, ms, S) := cm_calV (ci := 7) hM hd (by decide) (by decide) rfl wcX7_fault (cm_w 944 (by decide +kernel) rfl) wiX7_fault wvX7_fault wdX7_fault
theorem wcX7_reads : Cond.code yX7_reads cX7_reads 5 (some .int) ∈ cm_tb := cm_w 951 (by decide +kernel) rfl
theorem wdX7_reads : cm_desc yX7_reads 1 := ⟨by decide +kernel, by decide +kernel, by decide +kernel⟩
theorem wiX7_reads : Cond.instanceMethod yX7_reads ∈ cm_tb := cm_w 950 (by decide +kernel) rfl
theorem wvX7_reads : Cond.selects (cm_R 7) yX7_reads yX7_reads ∈ cm_tb := cm_w 26 (by decide +kernel) rfl
theorem q7_198 {d d' : Nat} {mc ms : Nat} {S : cm_CT} (hM : cm_Met d' yX7_reads cX7_reads 5 (some .int) mc ms S) (hd : d' < d) : cm_Cal d 7 (.invokevirtual 198) (2, 8, mc, ms, S) := cm_calV (ci := 7) hM hd (by decide) (by decide) rfl wcX7_reads (cm_w 948 (by decide +kernel) rfl) wiX7_reads wvX7_reads wdX7_reads
theorem wcX7_sign : Cond.code yX7_sign cX7_sign 2 (some .int) ∈ cm_tb := cm_w 955 (by decide +kernel) rfl
theorem wdX7_sign : cm_desc yX7_sign 1 := ⟨by decide +kernel, by decide +kernel, by decide +kernel⟩
theorem wiX7_sign : Cond.instanceMethod yX7_sign ∈ cm_tb := cm_w 954 (by decide +kernel) rfl
theorem wvX7_sign : Cond.selects (cm_R 7) yX7_sign yX7_sign ∈ cm_tb := cm_w 27 (by decide +kernel) rfl
theorem q7_195 {d d' : Nat} {mc ms : Nat} {S : cm_CT} (hM : cm_Met d' yX7_sign cX7_sign 2 (some .int) mc ms S) (hd : d' < d) : cm_Cal d 7 (.invokevirtual 195) (2, 8, mc, ms, S) := cm_calV (ci := 7) hM hd (by decide) (by decide) rfl wcX7_sign (cm_w 952 (by decide +kernel) rfl) wiX7_sign wvX7_sign wdX7_sign
theorem wcX7_book : Cond.code yX7_book cX7_book 3 (some .int) ∈ cm_tb := cm_w 959 (by decide +kernel) rfl
theorem wdX7_book : cm_desc yX7_book 1 := ⟨by decide +kernel, by decide +kernel, by decide +kernel⟩
theorem wiX7_book : Cond.instanceMethod yX7_book ∈ cm_tb := cm_w 957 (by decide +kernel) rfl
theorem wvX7_book : Cond.selects (cm_R 7) yX7_book yX7_book ∈ cm_tb := cm_w 958 (by decide +kernel) rfl
theorem q8_56 {d d' : Nat} {mc ms : Nat} {S : cm_CT} (hM : cm_Met d' yX7_book cX7_book 3 (some .int) mc ms S) (hd : d' < d) : cm_Cal d 8 (.invokevirtual 56) (2, 8, mc, ms, S) := cm_calV (ci := 7) hM hd (by decide) (by decide) rfl wcX7_book (cm_w 956 (by decide +kernel) rfl) wiX7_book wvX7_book wdX7_book
theorem wcX7_comes : Cond.code yX7_comes cX7_comes 8 none ∈ cm_tb := cm_w 963 (by decide +kernel) rfl
theorem wdX7_comes : cm_desc yX7_comes 5 := ⟨by decide +kernel, by decide +kernel, by decide +kernel⟩
theorem wiX7_comes : Cond.instanceMethod yX7_comes ∈ cm_tb := cm_w 962 (by decide +kernel) rfl
theorem wvX7_comes : Cond.selects (cm_R 7) yX7_comes yX7_comes ∈ cm_tb := cm_w 28 (by decide +kernel) rfl
theorem q7_201 {d d' : Nat} {mc ms : Nat} {S : cm_CT} (hM : cm_Met d' yX7_comes cX7_comes 8 none mc ms S) (hd : d' < d) : cm_Cal d 7 (.invokevirtual 201) (6, 8, mc, ms, S) := cm_calV (ci := 7) hM hd (by decide) (by decide) rfl wcX7_comes (cm_w 960 (by decide +kernel) rfl) wiX7_comes wvX7_comes wdX7_comes
theorem wcX7_forgets : Cond.code yX7_forgets cX7_forgets 4 none ∈ cm_tb := cm_w 967 (by decide +kernel) rfl
theorem wdX7_forgets : cm_desc yX7_forgets 1 := ⟨by decide +kernel, by decide +kernel, by decide +kernel⟩
theorem wiX7_forgets : Cond.instanceMethod yX7_forgets ∈ cm_tb := cm_w 966 (by decide +kernel) rfl
theorem wvX7_forgets : Cond.selects (cm_R 7) yX7_forgets yX7_forgets ∈ cm_tb := cm_w 29 (by decide +kernel) rfl
theorem q7_205 {d d' : Nat} {mc ms : Nat} {S : cm_CT} (hM : cm_Met d' yX7_forgets cX7_forgets 4 none mc ms S) (hd : d' < d) : cm_Cal d 7 (.invokevirtual 205) (2, 8, mc, ms, S) := cm_calV (ci := 7) hM hd (by decide) (by decide) rfl wcX7_forgets (cm_w 964 (by decide +kernel) rfl) wiX7_forgets wvX7_forgets wdX7_forgets
theorem wcX7_pairOf : Cond.code yX7_pairOf cX7_pairOf 4 (some .int) ∈ cm_tb := cm_w 970 (by decide +kernel) rfl
theorem wdX7_pairOf : cm_desc yX7_pairOf 2 := ⟨by decide +kernel, by decide +kernel, by decide +kernel⟩
theorem wsX7_pairOf : Cond.static yX7_pairOf ∈ cm_tb := cm_w 969 (by decide +kernel) rfl
theorem q7_167 {d d' : Nat} {mc ms : Nat} {S : cm_CT} (hM : cm_Met d' yX7_pairOf cX7_pairOf 4 (some .int) mc ms S) (hd : d' < d) : cm_Cal d 7 (.invokestatic 167) (2, 0, mc, ms, S) := cm_calS hM hd (by decide) wcX7_pairOf (cm_w 968 (by decide +kernel) rfl) wsX7_pairOf (cm_w 83 (by decide +kernel) rfl) wdX7_pairOf
theorem wcX7_there : Cond.code yX7_there cX7_there 4 (some .int) ∈ cm_tb := cm_w 974 (by decide +kernel) rfl
theorem wdX7_there : cm_desc yX7_there 1 := ⟨by decide +kernel, by decide +kernel, by decide +kernel⟩
theorem wiX7_there : Cond.instanceMethod yX7_there ∈ cm_tb := cm_w 973 (by decide +kernel) rfl
theorem wvX7_there : Cond.selects (cm_R 7) yX7_there yX7_there ∈ cm_tb := cm_w 30 (by decide +kernel) rfl
theorem q7_208 {d d' : Nat} {mc ms : Nat} {S : cm_CT} (hM : cm_Met d' yX7_there cX7_there 4 (some .int) mc ms S) (hd : d' < d) : cm_Cal d 7 (.invokevirtual 208) (2, 8, mc, ms, S) := cm_calV (ci := 7) hM hd (by decide) (by decide) rfl wcX7_there (cm_w 971 (by decide +kernel) rfl) wiX7_there wvX7_there wdX7_there
theorem wcX7_fileAt : Cond.code yX7_fileAt cX7_fileAt 3 (some .int) ∈ cm_tb := cm_w 978 (by decide +kernel) rfl
theorem wdX7_fileAt : cm_desc yX7_fileAt 2 := ⟨by decide +kernel, by decide +kernel, by decide +kernel⟩
theorem wiX7_fileAt : Cond.instanceMethod yX7_fileAt ∈ cm_tb := cm_w 977 (by decide +kernel) rfl
theorem wvX7_fileAt : Cond.selects (cm_R 7) yX7_fileAt yX7_fileAt ∈ cm_tb := cm_w 31 (by decide +kernel) rfl
theorem q7_164 {d d' : Nat} {mc ms : Nat} {S : cm_CT} (hM : cm_Met d' yX7_fileAt cX7_fileAt 3 (some .int) mc ms S) (hd : d' < d) : cm_Cal d 7 (.invokevirtual 164) (3, 8, mc, ms, S) := cm_calV (ci := 7) hM hd (by decide) (by decide) rfl wcX7_fileAt (cm_w 975 (by decide +kernel) rfl) wiX7_fileAt wvX7_fileAt wdX7_fileAt
theorem wcX7_bits : Cond.code yX7_bits cX7_bits 3 (some .int) ∈ cm_tb := cm_w 981 (by decide +kernel) rfl
theorem wdX7_bits : cm_desc yX7_bits 1 := ⟨by decide +kernel, by decide +kernel, by decide +kernel⟩
theorem wsX7_bits : Cond.static yX7_bits ∈ cm_tb := cm_w 980 (by decide +kernel) rfl
theorem q7_211 {d d' : Nat} {mc ms : Nat} {S : cm_CT} (hM : cm_Met d' yX7_bits cX7_bits 3 (some .int) mc ms S) (hd : d' < d) : cm_Cal d 7 (.invokestatic 211) (1, 0, mc, ms, S) := cm_calS hM hd (by decide) wcX7_bits (cm_w 979 (by decide +kernel) rfl) wsX7_bits (cm_w 83 (by decide +kernel) rfl) wdX7_bits
theorem wcX7_version : Cond.code yX7_version cX7_version 3 (some .int) ∈ cm_tb := cm_w 985 (by decide +kernel) rfl
theorem wdX7_version : cm_desc yX7_version 2 := ⟨by decide +kernel, by decide +kernel, by decide +kernel⟩
theorem wiX7_version : Cond.instanceMethod yX7_version ∈ cm_tb := cm_w 983 (by decide +kernel) rfl
theorem wvX7_version : Cond.selects (cm_R 7) yX7_version yX7_version ∈ cm_tb := cm_w 984 (by decide +kernel) rfl
theorem q8_60 {d d' : Nat} {mc ms : Nat} {S : cm_CT} (hM : cm_Met d' yX7_version cX7_version 3 (some .int) mc ms S) (hd : d' < d) : cm_Cal d 8 (.invokevirtual 60) (3, 8, mc, ms, S) := cm_calV (ci := 7) hM hd (by decide) (by decide) rfl wcX7_version (cm_w 982 (by decide +kernel) rfl) wiX7_version wvX7_version wdX7_version
theorem wcX7_isVersion : Cond.code yX7_isVersion cX7_isVersion 2 (some .boolean) ∈ cm_tb := cm_w 989 (by decide +kernel) rfl
theorem wdX7_isVersion : cm_desc yX7_isVersion 1 := ⟨by decide +kernel, by decide +kernel, by decide +kernel⟩
theorem wiX7_isVersion : Cond.instanceMethod yX7_isVersion ∈ cm_tb := cm_w 988 (by decide +kernel) rfl
theorem wvX7_isVersion : Cond.selects (cm_R 7) yX7_isVersion yX7_isVersion ∈ cm_tb := cm_w 32 (by decide +kernel) rfl
theorem q7_223 {d d' : Nat} {mc ms : Nat} {S : cm_CT} (hM : cm_Met d' yX7_isVersion cX7_isVersion 2 (some .boolean) mc ms S) (hd : d' < d) : cm_Cal d 7 (.invokevirtual 223) (2, 8, mc, ms, S) := cm_calV (ci := 7) hM hd (by decide) (by decide) rfl wcX7_isVersion (cm_w 986 (by decide +kernel) rfl) wiX7_isVersion wvX7_isVersion wdX7_isVersion
theorem wcX7_versionTells : Cond.code yX7_versionTells cX7_versionTells 3 (some .int) ∈ cm_tb := cm_w 993 (by decide +kernel) rfl
theorem wdX7_versionTells : cm_desc yX7_versionTells 2 := ⟨by decide +kernel, by decide +kernel, by decide +kernel⟩
theorem wiX7_versionTells : Cond.instanceMethod yX7_versionTells ∈ cm_tb := cm_w 992 (by decide +kernel) rfl
theorem wvX7_versionTells : Cond.selects (cm_R 7) yX7_versionTells yX7_versionTells ∈ cm_tb := cm_w 33 (by decide +kernel) rfl
theorem q7_226 {d d' : Nat} {mc ms : Nat} {S : cm_CT} (hM : cm_Met d' yX7_versionTells cX7_versionTells 3 (some .int) mc ms S) (hd : d' < d) : cm_Cal d 7 (.invokevirtual 226) (3, 8, mc, ms, S) := cm_calV (ci := 7) hM hd (by decide) (by decide) rfl wcX7_versionTells (cm_w 990 (by decide +kernel) rfl) wiX7_versionTells wvX7_versionTells wdX7_versionTells
theorem wcX7_conflictsAll : Cond.code yX7_conflictsAll cX7_conflictsAll 2 (some .int) ∈ cm_tb := cm_w 997 (by decide +kernel) rfl
theorem wdX7_conflictsAll : cm_desc yX7_conflictsAll 1 := ⟨by decide +kernel, by decide +kernel, by decide +kernel⟩
theorem wiX7_conflictsAll : Cond.instanceMethod yX7_conflictsAll ∈ cm_tb := cm_w 996 (by decide +kernel) rfl
theorem wvX7_conflictsAll : Cond.selects (cm_R 7) yX7_conflictsAll yX7_conflictsAll ∈ cm_tb := cm_w 34 (by decide +kernel) rfl
theorem q7_217 {d d' : Nat} {mc ms : Nat} {S : cm_CT} (hM : cm_Met d' yX7_conflictsAll cX7_conflictsAll 2 (some .int) mc ms S) (hd : d' < d) : cm_Cal d 7 (.invokevirtual 217) (2, 8, mc, ms, S) := cm_calV (ci := 7) hM hd (by decide) (by decide) rfl wcX7_conflictsAll (cm_w 994 (by decide +kernel) rfl) wiX7_conflictsAll wvX7_conflictsAll wdX7_conflictsAll
theorem wcX7_conflictsOf : Cond.code yX7_conflictsOf cX7_conflictsOf 4 (some .int) ∈ cm_tb := cm_w 1001 (by decide +kernel) rfl
theorem wdX7_conflictsOf : cm_desc yX7_conflictsOf 1 := ⟨by decide +kernel, by decide +kernel, by decide +kernel⟩
theorem wiX7_conflictsOf : Cond.instanceMethod yX7_conflictsOf ∈ cm_tb := cm_w 1000 (by decide +kernel) rfl
theorem wvX7_conflictsOf : Cond.selects (cm_R 7) yX7_conflictsOf yX7_conflictsOf ∈ cm_tb := cm_w 35 (by decide +kernel) rfl
theorem q7_214 {d d' : Nat} {mc ms : Nat} {S : cm_CT} (hM : cm_Met d' yX7_conflictsOf cX7_conflictsOf 4 (some .int) mc ms S) (hd : d' < d) : cm_Cal d 7 (.invokevirtual 214) (2, 8, mc, ms, S) := cm_calV (ci := 7) hM hd (by decide) (by decide) rfl wcX7_conflictsOf (cm_w 998 (by decide +kernel) rfl) wiX7_conflictsOf wvX7_conflictsOf wdX7_conflictsOf
theorem wcX7_parts : Cond.code yX7_parts cX7_parts 7 none ∈ cm_tb := cm_w 1005 (by decide +kernel) rfl
theorem wdX7_parts : cm_desc yX7_parts 2 := ⟨by decide +kernel, by decide +kernel, by decide +kernel⟩
theorem wiX7_parts : Cond.instanceMethod yX7_parts ∈ cm_tb := cm_w 1004 (by decide +kernel) rfl
theorem wvX7_parts : Cond.selects (cm_R 7) yX7_parts yX7_parts ∈ cm_tb := cm_w 36 (by decide +kernel) rfl
theorem q7_133 {d d' : Nat} {mc ms : Nat} {S : cm_CT} (hM : cm_Met d' yX7_parts cX7_parts 7 none mc ms S) (hd : d' < d) : cm_Cal d 7 (.invokevirtual 133) (3, 8, mc, ms, S) := cm_calV (ci := 7) hM hd (by decide) (by decide) rfl wcX7_parts (cm_w 1002 (by decide +kernel) rfl) wiX7_parts wvX7_parts wdX7_parts
theorem wcX7_start : Cond.code yX7_start cX7_start 3 (some .int) ∈ cm_tb := cm_w 1009 (by decide +kernel) rfl
theorem wdX7_start : cm_desc yX7_start 2 := ⟨by decide +kernel, by decide +kernel, by decide +kernel⟩
theorem wiX7_start : Cond.instanceMethod yX7_start ∈ cm_tb := cm_w 1008 (by decide +kernel) rfl
theorem wvX7_start : Cond.selects (cm_R 7) yX7_start yX7_start ∈ cm_tb := cm_w 37 (by decide +kernel) rfl
theorem q7_104 {d d' : Nat} {mc ms : Nat} {S : cm_CT} (hM : cm_Met d' yX7_start cX7_start 3 (some .int) mc ms S) (hd : d' < d) : cm_Cal d 7 (.invokevirtual 104) (3, 8, mc, ms, S) := cm_calV (ci := 7) hM hd (by decide) (by decide) rfl wcX7_start (cm_w 1006 (by decide +kernel) rfl) wiX7_start wvX7_start wdX7_start
theorem wcX7_deepest : Cond.code yX7_deepest cX7_deepest 7 (some .int) ∈ cm_tb := cm_w 1013 (by decide +kernel) rfl
theorem wdX7_deepest : cm_desc yX7_deepest 1 := ⟨by decide +kernel, by decide +kernel, by decide +kernel⟩
theorem wiX7_deepest : Cond.instanceMethod yX7_deepest ∈ cm_tb := cm_w 1012 (by decide +kernel) rfl
theorem wvX7_deepest : Cond.selects (cm_R 7) yX7_deepest yX7_deepest ∈ cm_tb := cm_w 38 (by decide +kernel) rfl
theorem q7_220 {d d' : Nat} {mc ms : Nat} {S : cm_CT} (hM : cm_Met d' yX7_deepest cX7_deepest 7 (some .int) mc ms S) (hd : d' < d) : cm_Cal d 7 (.invokevirtual 220) (2, 8, mc, ms, S) := cm_calV (ci := 7) hM hd (by decide) (by decide) rfl wcX7_deepest (cm_w 1010 (by decide +kernel) rfl) wiX7_deepest wvX7_deepest wdX7_deepest
theorem wcX7_mark : Cond.code yX7_mark cX7_mark 4 (some .int) ∈ cm_tb := cm_w 1017 (by decide +kernel) rfl
theorem wdX7_mark : cm_desc yX7_mark 2 := ⟨by decide +kernel, by decide +kernel, by decide +kernel⟩
theorem wiX7_mark : Cond.instanceMethod yX7_mark ∈ cm_tb := cm_w 1015 (by decide +kernel) rfl
theorem wvX7_mark : Cond.selects (cm_R 7) yX7_mark yX7_mark ∈ cm_tb := cm_w 1016 (by decide +kernel) rfl
theorem q8_64 {d d' : Nat} {mc ms : Nat} {S : cm_CT} (hM : cm_Met d' yX7_mark cX7_mark 4 (some .int) mc ms S) (hd : d' < d) : cm_Cal d 8 (.invokevirtual 64) (3, 8, mc, ms, S) := cm_calV (ci := 7) hM hd (by decide) (by decide) rfl wcX7_mark (cm_w 1014 (by decide +kernel) rfl) wiX7_mark wvX7_mark wdX7_mark
theorem wcX7_marks : Cond.code yX7_marks cX7_marks 4 (some .int) ∈ cm_tb := cm_w 1021 (by decide +kernel) rfl
theorem wdX7_marks : cm_desc yX7_marks 2 := ⟨by decide +kernel, by decide +kernel, by decide +kernel⟩
theorem wiX7_marks : Cond.instanceMethod yX7_marks ∈ cm_tb := cm_w 1020 (by decide +kernel) rfl
theorem wvX7_marks : Cond.selects (cm_R 7) yX7_marks yX7_marks ∈ cm_tb := cm_w 39 (by decide +kernel) rfl
theorem q7_232 {d d' : Nat} {mc ms : Nat} {S : cm_CT} (hM : cm_Met d' yX7_marks cX7_marks 4 (some .int) mc ms S) (hd : d' < d) : cm_Cal d 7 (.invokevirtual 232) (3, 8, mc, ms, S) := cm_calV (ci := 7) hM hd (by decide) (by decide) rfl wcX7_marks (cm_w 1018 (by decide +kernel) rfl) wiX7_marks wvX7_marks wdX7_marks
theorem wcX7_farOf : Cond.code yX7_farOf cX7_farOf 5 (some .int) ∈ cm_tb := cm_w 1025 (by decide +kernel) rfl
theorem wdX7_farOf : cm_desc yX7_farOf 2 := ⟨by decide +kernel, by decide +kernel, by decide +kernel⟩
theorem wiX7_farOf : Cond.instanceMethod yX7_farOf ∈ cm_tb := cm_w 1024 (by decide +kernel) rfl
theorem wvX7_farOf : Cond.selects (cm_R 7) yX7_farOf yX7_farOf ∈ cm_tb := cm_w 40 (by decide +kernel) rfl
theorem q7_229 {d d' : Nat} {mc ms : Nat} {S : cm_CT} (hM : cm_Met d' yX7_farOf cX7_farOf 5 (some .int) mc ms S) (hd : d' < d) : cm_Cal d 7 (.invokevirtual 229) (3, 8, mc, ms, S) := cm_calV (ci := 7) hM hd (by decide) (by decide) rfl wcX7_farOf (cm_w 1022 (by decide +kernel) rfl) wiX7_farOf wvX7_farOf wdX7_farOf
theorem wcX7_matches : Cond.code yX7_matches cX7_matches 7 none ∈ cm_tb := cm_w 1029 (by decide +kernel) rfl
theorem wdX7_matches : cm_desc yX7_matches 2 := ⟨by decide +kernel, by decide +kernel, by decide +kernel⟩
theorem wiX7_matches : Cond.instanceMethod yX7_matches ∈ cm_tb := cm_w 1028 (by decide +kernel) rfl
theorem wvX7_matches : Cond.selects (cm_R 7) yX7_matches yX7_matches ∈ cm_tb := cm_w 41 (by decide +kernel) rfl
theorem q7_115 {d d' : Nat} {mc ms : Nat} {S : cm_CT} (hM : cm_Met d' yX7_matches cX7_matches 7 none mc ms S) (hd : d' < d) : cm_Cal d 7 (.invokevirtual 115) (3, 8, mc, ms, S) := cm_calV (ci := 7) hM hd (by decide) (by decide) rfl wcX7_matches (cm_w 1026 (by decide +kernel) rfl) wiX7_matches wvX7_matches wdX7_matches
theorem wcX7_isAlike : Cond.code yX7_isAlike cX7_isAlike 5 (some .boolean) ∈ cm_tb := cm_w 1033 (by decide +kernel) rfl
theorem wdX7_isAlike : cm_desc yX7_isAlike 4 := ⟨by decide +kernel, by decide +kernel, by decide +kernel⟩
theorem wiX7_isAlike : Cond.instanceMethod yX7_isAlike ∈ cm_tb := cm_w 1032 (by decide +kernel) rfl
theorem wvX7_isAlike : Cond.selects (cm_R 7) yX7_isAlike yX7_isAlike ∈ cm_tb := cm_w 42 (by decide +kernel) rfl
theorem q7_111 {d d' : Nat} {mc ms : Nat} {S : cm_CT} (hM : cm_Met d' yX7_isAlike cX7_isAlike 5 (some .boolean) mc ms S) (hd : d' < d) : cm_Cal d 7 (.invokevirtual 111) (5, 8, mc, ms, S) := cm_calV (ci := 7) hM hd (by decide) (by decide) rfl wcX7_isAlike (cm_w 1030 (by decide +kernel) rfl) wiX7_isAlike wvX7_isAlike wdX7_isAlike
theorem wcX7_areAlike : Cond.code yX7_areAlike cX7_areAlike 12 (some .boolean) ∈ cm_tb := cm_w 1037 (by decide +kernel) rfl
theorem wdX7_areAlike : cm_desc yX7_areAlike 6 := ⟨by decide +kernel, by decide +kernel, by decide +kernel⟩
theorem wiX7_areAlike : Cond.instanceMethod yX7_areAlike ∈ cm_tb := cm_w 1036 (by decide +kernel) rfl
theorem wvX7_areAlike : Cond.selects (cm_R 7) yX7_areAlike yX7_areAlike ∈ cm_tb := cm_w 43 (by decide +kernel) rfl
theorem q7_107 {d d' : Nat} {mc ms : Nat} {S : cm_CT} (hM : cm_Met d' yX7_areAlike cX7_areAlike 12 (some .boolean) mc ms S) (hd : d' < d) : cm_Cal d 7 (.invokevirtual 107) (7, 8, mc, ms, S) := cm_calV (ci := 7) hM hd (by decide) (by decide) rfl wcX7_areAlike (cm_w 1034 (by decide +kernel) rfl) wiX7_areAlike wvX7_areAlike wdX7_areAlike
theorem wcX7_nearestOf : Cond.code yX7_nearestOf cX7_nearestOf 6 (some .int) ∈ cm_tb := cm_w 1041 (by decide +kernel) rfl
theorem wdX7_nearestOf : cm_desc yX7_nearestOf 2 := ⟨by decide +kernel, by decide +kernel, by decide +kernel⟩
theorem wiX7_nearestOf : Cond.instanceMethod yX7_nearestOf ∈ cm_tb := cm_w 1040 (by decide +kernel) rfl
theorem wvX7_nearestOf : Cond.selects (cm_R 7) yX7_nearestOf yX7_nearestOf ∈ cm_tb := cm_w 44 (by decide +kernel) rfl
theorem q7_170 {d d' : Nat} {mc ms : Nat} {S : cm_CT} (hM : cm_Met d' yX7_nearestOf cX7_nearestOf 6 (some .int) mc ms S) (hd : d' < d) : cm_Cal d 7 (.invokevirtual 170) (3, 8, mc, ms, S) := cm_calV (ci := 7) hM hd (by decide) (by decide) rfl wcX7_nearestOf (cm_w 1038 (by decide +kernel) rfl) wiX7_nearestOf wvX7_nearestOf wdX7_nearestOf
theorem wcX7_laysAncestors : Cond.code yX7_laysAncestors cX7_laysAncestors 4 none ∈ cm_tb := cm_w 1045 (by decide +kernel) rfl
theorem wdX7_laysAncestors : cm_desc yX7_laysAncestors 0 := ⟨by decide +kernel, by decide +kernel, by decide +kernel⟩
theorem wiX7_laysAncestors : Cond.instanceMethod yX7_laysAncestors ∈ cm_tb := cm_w 1044 (by decide +kernel) rfl
theorem wvX7_laysAncestors : Cond.selects (cm_R 7) yX7_laysAncestors yX7_laysAncestors ∈ cm_tb := cm_w 45 (by decide +kernel) rfl
theorem q7_158 {d d' : Nat} {mc ms : Nat} {S : cm_CT} (hM : cm_Met d' yX7_laysAncestors cX7_laysAncestors 4 none mc ms S) (hd : d' < d) : cm_Cal d 7 (.invokevirtual 158) (1, 8, mc, ms, S) := cm_calV (ci := 7) hM hd (by decide) (by decide) rfl wcX7_laysAncestors (cm_w 1042 (by decide +kernel) rfl) wiX7_laysAncestors wvX7_laysAncestors wdX7_laysAncestors
theorem wcX7_has : Cond.code yX7_has cX7_has 2 (some .boolean) ∈ cm_tb := cm_w 1048 (by decide +kernel) rfl
theorem wdX7_has : cm_desc yX7_has 2 := ⟨by decide +kernel, by decide +kernel, by decide +kernel⟩
theorem wsX7_has : Cond.static yX7_has ∈ cm_tb := cm_w 1047 (by decide +kernel) rfl
theorem q7_161 {d d' : Nat} {mc ms : Nat} {S : cm_CT} (hM : cm_Met d' yX7_has cX7_has 2 (some .boolean) mc ms S) (hd : d' < d) : cm_Cal d 7 (.invokestatic 161) (2, 0, mc, ms, S) := cm_calS hM hd (by decide) wcX7_has (cm_w 1046 (by decide +kernel) rfl) wsX7_has (cm_w 83 (by decide +kernel) rfl) wdX7_has
theorem wcX7_file : Cond.code yX7_file cX7_file 4 (some .int) ∈ cm_tb := cm_w 1052 (by decide +kernel) rfl
theorem wdX7_file : cm_desc yX7_file 3 := ⟨by decide +kernel, by decide +kernel, by decide +kernel⟩
theorem wiX7_file : Cond.instanceMethod yX7_file ∈ cm_tb := cm_w 1050 (by decide +kernel) rfl
theorem wvX7_file : Cond.selects (cm_R 7) yX7_file yX7_file ∈ cm_tb := cm_w 1051 (by decide +kernel) rfl
theorem q8_68 {d d' : Nat} {mc ms : Nat} {S : cm_CT} (hM : cm_Met d' yX7_file cX7_file 4 (some .int) mc ms S) (hd : d' < d) : cm_Cal d 8 (.invokevirtual 68) (4, 8, mc, ms, S) := cm_calV (ci := 7) hM hd (by decide) (by decide) rfl wcX7_file (cm_w 1049 (by decide +kernel) rfl) wiX7_file wvX7_file wdX7_file
theorem wcX7_isFile : Cond.code yX7_isFile cX7_isFile 3 (some .boolean) ∈ cm_tb := cm_w 1056 (by decide +kernel) rfl
theorem wdX7_isFile : cm_desc yX7_isFile 2 := ⟨by decide +kernel, by decide +kernel, by decide +kernel⟩
theorem wiX7_isFile : Cond.instanceMethod yX7_isFile ∈ cm_tb := cm_w 1055 (by decide +kernel) rfl
theorem wvX7_isFile : Cond.selects (cm_R 7) yX7_isFile yX7_isFile ∈ cm_tb := cm_w 46 (by decide +kernel) rfl
theorem q7_235 {d d' : Nat} {mc ms : Nat} {S : cm_CT} (hM : cm_Met d' yX7_isFile cX7_isFile 3 (some .boolean) mc ms S) (hd : d' < d) : cm_Cal d 7 (.invokevirtual 235) (3, 8, mc, ms, S) := cm_calV (ci := 7) hM hd (by decide) (by decide) rfl wcX7_isFile (cm_w 1053 (by decide +kernel) rfl) wiX7_isFile wvX7_isFile wdX7_isFile
theorem wcX7_toRow : Cond.code yX7_toRow cX7_toRow 4 (some .int) ∈ cm_tb := cm_w 1060 (by decide +kernel) rfl
theorem wdX7_toRow : cm_desc yX7_toRow 2 := ⟨by decide +kernel, by decide +kernel, by decide +kernel⟩
theorem wiX7_toRow : Cond.instanceMethod yX7_toRow ∈ cm_tb := cm_w 1059 (by decide +kernel) rfl
theorem wvX7_toRow : Cond.selects (cm_R 7) yX7_toRow yX7_toRow ∈ cm_tb := cm_w 47 (by decide +kernel) rfl
theorem q7_238 {d d' : Nat} {mc ms : Nat} {S : cm_CT} (hM : cm_Met d' yX7_toRow cX7_toRow 4 (some .int) mc ms S) (hd : d' < d) : cm_Cal d 7 (.invokevirtual 238) (3, 8, mc, ms, S) := cm_calV (ci := 7) hM hd (by decide) (by decide) rfl wcX7_toRow (cm_w 1057 (by decide +kernel) rfl) wiX7_toRow wvX7_toRow wdX7_toRow
theorem wcX7_lines : Cond.code yX7_lines cX7_lines 3 (some .int) ∈ cm_tb := cm_w 1064 (by decide +kernel) rfl
theorem wdX7_lines : cm_desc yX7_lines 2 := ⟨by decide +kernel, by decide +kernel, by decide +kernel⟩
theorem wiX7_lines : Cond.instanceMethod yX7_lines ∈ cm_tb := cm_w 1062 (by decide +kernel) rfl
theorem wvX7_lines : Cond.selects (cm_R 7) yX7_lines yX7_lines ∈ cm_tb := cm_w 1063 (by decide +kernel) rfl
theorem q8_72 {d d' : Nat} {mc ms : Nat} {S : cm_CT} (hM : cm_Met d' yX7_lines cX7_lines 3 (some .int) mc ms S) (hd : d' < d) : cm_Cal d 8 (.invokevirtual 72) (3, 8, mc, ms, S) := cm_calV (ci := 7) hM hd (by decide) (by decide) rfl wcX7_lines (cm_w 1061 (by decide +kernel) rfl) wiX7_lines wvX7_lines wdX7_lines
theorem wcX7_linesOf : Cond.code yX7_linesOf cX7_linesOf 2 (some .int) ∈ cm_tb := cm_w 1068 (by decide +kernel) rfl
theorem wdX7_linesOf : cm_desc yX7_linesOf 1 := ⟨by decide +kernel, by decide +kernel, by decide +kernel⟩
theorem wiX7_linesOf : Cond.instanceMethod yX7_linesOf ∈ cm_tb := cm_w 1067 (by decide +kernel) rfl
theorem wvX7_linesOf : Cond.selects (cm_R 7) yX7_linesOf yX7_linesOf ∈ cm_tb := cm_w 48 (by decide +kernel) rfl
theorem q7_241 {d d' : Nat} {mc ms : Nat} {S : cm_CT} (hM : cm_Met d' yX7_linesOf cX7_linesOf 2 (some .int) mc ms S) (hd : d' < d) : cm_Cal d 7 (.invokevirtual 241) (2, 8, mc, ms, S) := cm_calV (ci := 7) hM hd (by decide) (by decide) rfl wcX7_linesOf (cm_w 1065 (by decide +kernel) rfl) wiX7_linesOf wvX7_linesOf wdX7_linesOf
theorem wcX7_ancestors : Cond.code yX7_ancestors cX7_ancestors 2 (some .int) ∈ cm_tb := cm_w 1072 (by decide +kernel) rfl
theorem wdX7_ancestors : cm_desc yX7_ancestors 1 := ⟨by decide +kernel, by decide +kernel, by decide +kernel⟩
theorem wiX7_ancestors : Cond.instanceMethod yX7_ancestors ∈ cm_tb := cm_w 1070 (by decide +kernel) rfl
theorem wvX7_ancestors : Cond.selects (cm_R 7) yX7_ancestors yX7_ancestors ∈ cm_tb := cm_w 1071 (by decide +kernel) rfl
theorem q8_76 {d d' : Nat} {mc ms : Nat} {S : cm_CT} (hM : cm_Met d' yX7_ancestors cX7_ancestors 2 (some .int) mc ms S) (hd : d' < d) : cm_Cal d 8 (.invokevirtual 76) (2, 8, mc, ms, S) := cm_calV (ci := 7) hM hd (by decide) (by decide) rfl wcX7_ancestors (cm_w 1069 (by decide +kernel) rfl) wiX7_ancestors wvX7_ancestors wdX7_ancestors
theorem wcX7_nearest : Cond.code yX7_nearest cX7_nearest 3 (some .int) ∈ cm_tb := cm_w 1076 (by decide +kernel) rfl
theorem wdX7_nearest : cm_desc yX7_nearest 2 := ⟨by decide +kernel, by decide +kernel, by decide +kernel⟩
theorem wiX7_nearest : Cond.instanceMethod yX7_nearest ∈ cm_tb := cm_w 1074 (by decide +kernel) rfl
theorem wvX7_nearest : Cond.selects (cm_R 7) yX7_nearest yX7_nearest ∈ cm_tb := cm_w 1075 (by decide +kernel) rfl
theorem q8_80 {d d' : Nat} {mc ms : Nat} {S : cm_CT} (hM : cm_Met d' yX7_nearest cX7_nearest 3 (some .int) mc ms S) (hd : d' < d) : cm_Cal d 8 (.invokevirtual 80) (3, 8, mc, ms, S) := cm_calV (ci := 7) hM hd (by decide) (by decide) rfl wcX7_nearest (cm_w 1073 (by decide +kernel) rfl) wiX7_nearest wvX7_nearest wdX7_nearest
theorem wcX7_areTwo : Cond.code yX7_areTwo cX7_areTwo 3 (some .boolean) ∈ cm_tb := cm_w 1080 (by decide +kernel) rfl
theorem wdX7_areTwo : cm_desc yX7_areTwo 2 := ⟨by decide +kernel, by decide +kernel, by decide +kernel⟩
theorem wiX7_areTwo : Cond.instanceMethod yX7_areTwo ∈ cm_tb := cm_w 1079 (by decide +kernel) rfl
theorem wvX7_areTwo : Cond.selects (cm_R 7) yX7_areTwo yX7_areTwo ∈ cm_tb := cm_w 49 (by decide +kernel) rfl
theorem q7_244 {d d' : Nat} {mc ms : Nat} {S : cm_CT} (hM : cm_Met d' yX7_areTwo cX7_areTwo 3 (some .boolean) mc ms S) (hd : d' < d) : cm_Cal d 7 (.invokevirtual 244) (3, 8, mc, ms, S) := cm_calV (ci := 7) hM hd (by decide) (by decide) rfl wcX7_areTwo (cm_w 1077 (by decide +kernel) rfl) wiX7_areTwo wvX7_areTwo wdX7_areTwo
theorem wcX7_common : Cond.code yX7_common cX7_common 6 (some .int) ∈ cm_tb := cm_w 1084 (by decide +kernel) rfl
theorem wdX7_common : cm_desc yX7_common 4 := ⟨by decide +kernel, by decide +kernel, by decide +kernel⟩
theorem wiX7_common : Cond.instanceMethod yX7_common ∈ cm_tb := cm_w 1082 (by decide +kernel) rfl
theorem wvX7_common : Cond.selects (cm_R 7) yX7_common yX7_common ∈ cm_tb := cm_w 1083 (by decide +kernel) rfl
theorem q8_85 {d d' : Nat} {mc ms : Nat} {S : cm_CT} (hM : cm_Met d' yX7_common cX7_common 6 (some .int) mc ms S) (hd : d' < d) : cm_Cal d 8 (.invokevirtual 85) (5, 8, mc, ms, S) := cm_calV (ci := 7) hM hd (by decide) (by decide) rfl wcX7_common (cm_w 1081 (by decide +kernel) rfl) wiX7_common wvX7_common wdX7_common
theorem wcX7_commonOf : Cond.code yX7_commonOf cX7_commonOf 7 (some .int) ∈ cm_tb := cm_w 1088 (by decide +kernel) rfl
theorem wdX7_commonOf : cm_desc yX7_commonOf 2 := ⟨by decide +kernel, by decide +kernel, by decide +kernel⟩
theorem wiX7_commonOf : Cond.instanceMethod yX7_commonOf ∈ cm_tb := cm_w 1087 (by decide +kernel) rfl
theorem wvX7_commonOf : Cond.selects (cm_R 7) yX7_commonOf yX7_commonOf ∈ cm_tb := cm_w 50 (by decide +kernel) rfl
theorem q7_186 {d d' : Nat} {mc ms : Nat} {S : cm_CT} (hM : cm_Met d' yX7_commonOf cX7_commonOf 7 (some .int) mc ms S) (hd : d' < d) : cm_Cal d 7 (.invokevirtual 186) (3, 8, mc, ms, S) := cm_calV (ci := 7) hM hd (by decide) (by decide) rfl wcX7_commonOf (cm_w 1085 (by decide +kernel) rfl) wiX7_commonOf wvX7_commonOf wdX7_commonOf
theorem wcX7_laysPair : Cond.code yX7_laysPair cX7_laysPair 7 none ∈ cm_tb := cm_w 1092 (by decide +kernel) rfl
theorem wdX7_laysPair : cm_desc yX7_laysPair 2 := ⟨by decide +kernel, by decide +kernel, by decide +kernel⟩
theorem wiX7_laysPair : Cond.instanceMethod yX7_laysPair ∈ cm_tb := cm_w 1091 (by decide +kernel) rfl
theorem wvX7_laysPair : Cond.selects (cm_R 7) yX7_laysPair yX7_laysPair ∈ cm_tb := cm_w 51 (by decide +kernel) rfl
theorem q7_183 {d d' : Nat} {mc ms : Nat} {S : cm_CT} (hM : cm_Met d' yX7_laysPair cX7_laysPair 7 none mc ms S) (hd : d' < d) : cm_Cal d 7 (.invokevirtual 183) (3, 8, mc, ms, S) := cm_calV (ci := 7) hM hd (by decide) (by decide) rfl wcX7_laysPair (cm_w 1089 (by decide +kernel) rfl) wiX7_laysPair wvX7_laysPair wdX7_laysPair
theorem wcX7_joins : Cond.code yX7_joins cX7_joins 6 none ∈ cm_tb := cm_w 1096 (by decide +kernel) rfl
theorem wdX7_joins : cm_desc yX7_joins 3 := ⟨by decide +kernel, by decide +kernel, by decide +kernel⟩
theorem wiX7_joins : Cond.instanceMethod yX7_joins ∈ cm_tb := cm_w 1095 (by decide +kernel) rfl
theorem wvX7_joins : Cond.selects (cm_R 7) yX7_joins yX7_joins ∈ cm_tb := cm_w 52 (by decide +kernel) rfl
theorem q7_173 {d d' : Nat} {mc ms : Nat} {S : cm_CT} (hM : cm_Met d' yX7_joins cX7_joins 6 none mc ms S) (hd : d' < d) : cm_Cal d 7 (.invokevirtual 173) (4, 8, mc, ms, S) := cm_calV (ci := 7) hM hd (by decide) (by decide) rfl wcX7_joins (cm_w 1093 (by decide +kernel) rfl) wiX7_joins wvX7_joins wdX7_joins
theorem wcX7_baseAt : Cond.code yX7_baseAt cX7_baseAt 3 (some .int) ∈ cm_tb := cm_w 1100 (by decide +kernel) rfl
theorem wdX7_baseAt : cm_desc yX7_baseAt 2 := ⟨by decide +kernel, by decide +kernel, by decide +kernel⟩
theorem wiX7_baseAt : Cond.instanceMethod yX7_baseAt ∈ cm_tb := cm_w 1099 (by decide +kernel) rfl
theorem wvX7_baseAt : Cond.selects (cm_R 7) yX7_baseAt yX7_baseAt ∈ cm_tb := cm_w 53 (by decide +kernel) rfl
theorem q7_176 {d d' : Nat} {mc ms : Nat} {S : cm_CT} (hM : cm_Met d' yX7_baseAt cX7_baseAt 3 (some .int) mc ms S) (hd : d' < d) : cm_Cal d 7 (.invokevirtual 176) (3, 8, mc, ms, S) := cm_calV (ci := 7) hM hd (by decide) (by decide) rfl wcX7_baseAt (cm_w 1097 (by decide +kernel) rfl) wiX7_baseAt wvX7_baseAt wdX7_baseAt
theorem wcX7_mergesFile : Cond.code yX7_mergesFile cX7_mergesFile 7 (some .boolean) ∈ cm_tb := cm_w 1104 (by decide +kernel) rfl
theorem wdX7_mergesFile : cm_desc yX7_mergesFile 5 := ⟨by decide +kernel, by decide +kernel, by decide +kernel⟩
theorem wiX7_mergesFile : Cond.instanceMethod yX7_mergesFile ∈ cm_tb := cm_w 1103 (by decide +kernel) rfl
theorem wvX7_mergesFile : Cond.selects (cm_R 7) yX7_mergesFile yX7_mergesFile ∈ cm_tb := cm_w 54 (by decide +kernel) rfl
theorem q7_179 {d d' : Nat} {mc ms : Nat} {S : cm_CT} (hM : cm_Met d' yX7_mergesFile cX7_mergesFile 7 (some .boolean) mc ms S) (hd : d' < d) : cm_Cal d 7 (.invokevirtual 179) (6, 8, mc, ms, S) := cm_calV (ci := 7) hM hd (by decide) (by decide) rfl wcX7_mergesFile (cm_w 1101 (by decide +kernel) rfl) wiX7_mergesFile wvX7_mergesFile wdX7_mergesFile
theorem wcX7_areFilesAlike : Cond.code yX7_areFilesAlike cX7_areFilesAlike 5 (some .boolean) ∈ cm_tb := cm_w 1108 (by decide +kernel) rfl
theorem wdX7_areFilesAlike : cm_desc yX7_areFilesAlike 2 := ⟨by decide +kernel, by decide +kernel, by decide +kernel⟩
theorem wiX7_areFilesAlike : Cond.instanceMethod yX7_areFilesAlike ∈ cm_tb := cm_w 1107 (by decide +kernel) rfl
theorem wvX7_areFilesAlike : Cond.selects (cm_R 7) yX7_areFilesAlike yX7_areFilesAlike ∈ cm_tb := cm_w 55 (by decide +kernel) rfl
theorem q7_144 {d d' : Nat} {mc ms : Nat} {S : cm_CT} (hM : cm_Met d' yX7_areFilesAlike cX7_areFilesAlike 5 (some .boolean) mc ms S) (hd : d' < d) : cm_Cal d 7 (.invokevirtual 144) (3, 8, mc, ms, S) := cm_calV (ci := 7) hM hd (by decide) (by decide) rfl wcX7_areFilesAlike (cm_w 1105 (by decide +kernel) rfl) wiX7_areFilesAlike wvX7_areFilesAlike wdX7_areFilesAlike
theorem wcX7_takes : Cond.code yX7_takes cX7_takes 3 none ∈ cm_tb := cm_w 1112 (by decide +kernel) rfl
theorem wdX7_takes : cm_desc yX7_takes 1 := ⟨by decide +kernel, by decide +kernel, by decide +kernel⟩
theorem wiX7_takes : Cond.instanceMethod yX7_takes ∈ cm_tb := cm_w 1111 (by decide +kernel) rfl
theorem wvX7_takes : Cond.selects (cm_R 7) yX7_takes yX7_takes ∈ cm_tb := cm_w 56 (by decide +kernel) rfl
theorem q7_148 {d d' : Nat} {mc ms : Nat} {S : cm_CT} (hM : cm_Met d' yX7_takes cX7_takes 3 none mc ms S) (hd : d' < d) : cm_Cal d 7 (.invokevirtual 148) (2, 8, mc, ms, S) := cm_calV (ci := 7) hM hd (by decide) (by decide) rfl wcX7_takes (cm_w 1109 (by decide +kernel) rfl) wiX7_takes wvX7_takes wdX7_takes
theorem wcX7_mergesLines : Cond.code yX7_mergesLines cX7_mergesLines 9 none ∈ cm_tb := cm_w 1116 (by decide +kernel) rfl
theorem wdX7_mergesLines : cm_desc yX7_mergesLines 4 := ⟨by decide +kernel, by decide +kernel, by decide +kernel⟩
theorem wiX7_mergesLines : Cond.instanceMethod yX7_mergesLines ∈ cm_tb := cm_w 1115 (by decide +kernel) rfl
theorem wvX7_mergesLines : Cond.selects (cm_R 7) yX7_mergesLines yX7_mergesLines ∈ cm_tb := cm_w 57 (by decide +kernel) rfl
theorem q7_151 {d d' : Nat} {mc ms : Nat} {S : cm_CT} (hM : cm_Met d' yX7_mergesLines cX7_mergesLines 9 none mc ms S) (hd : d' < d) : cm_Cal d 7 (.invokevirtual 151) (5, 8, mc, ms, S) := cm_calV (ci := 7) hM hd (by decide) (by decide) rfl wcX7_mergesLines (cm_w 1113 (by decide +kernel) rfl) wiX7_mergesLines wvX7_mergesLines wdX7_mergesLines
theorem wcX7_matched : Cond.code yX7_matched cX7_matched 6 none ∈ cm_tb := cm_w 1120 (by decide +kernel) rfl
theorem wdX7_matched : cm_desc yX7_matched 3 := ⟨by decide +kernel, by decide +kernel, by decide +kernel⟩
theorem wiX7_matched : Cond.instanceMethod yX7_matched ∈ cm_tb := cm_w 1119 (by decide +kernel) rfl
theorem wvX7_matched : Cond.selects (cm_R 7) yX7_matched yX7_matched ∈ cm_tb := cm_w 58 (by decide +kernel) rfl
theorem q7_136 {d d' : Nat} {mc ms : Nat} {S : cm_CT} (hM : cm_Met d' yX7_matched cX7_matched 6 none mc ms S) (hd : d' < d) : cm_Cal d 7 (.invokevirtual 136) (4, 8, mc, ms, S) := cm_calV (ci := 7) hM hd (by decide) (by decide) rfl wcX7_matched (cm_w 1117 (by decide +kernel) rfl) wiX7_matched wvX7_matched wdX7_matched
theorem wcX7_writesChunk : Cond.code yX7_writesChunk cX7_writesChunk 8 none ∈ cm_tb := cm_w 1124 (by decide +kernel) rfl
theorem wdX7_writesChunk : cm_desc yX7_writesChunk 7 := ⟨by decide +kernel, by decide +kernel, by decide +kernel⟩
theorem wiX7_writesChunk : Cond.instanceMethod yX7_writesChunk ∈ cm_tb := cm_w 1123 (by decide +kernel) rfl
theorem wvX7_writesChunk : Cond.selects (cm_R 7) yX7_writesChunk yX7_writesChunk ∈ cm_tb := cm_w 59 (by decide +kernel) rfl
theorem q7_140 {d d' : Nat} {mc ms : Nat} {S : cm_CT} (hM : cm_Met d' yX7_writesChunk cX7_writesChunk 8 none mc ms S) (hd : d' < d) : cm_Cal d 7 (.invokevirtual 140) (8, 8, mc, ms, S) := cm_calV (ci := 7) hM hd (by decide) (by decide) rfl wcX7_writesChunk (cm_w 1121 (by decide +kernel) rfl) wiX7_writesChunk wvX7_writesChunk wdX7_writesChunk
theorem wcX7_writesLines : Cond.code yX7_writesLines cX7_writesLines 5 none ∈ cm_tb := cm_w 1128 (by decide +kernel) rfl
theorem wdX7_writesLines : cm_desc yX7_writesLines 3 := ⟨by decide +kernel, by decide +kernel, by decide +kernel⟩
theorem wiX7_writesLines : Cond.instanceMethod yX7_writesLines ∈ cm_tb := cm_w 1127 (by decide +kernel) rfl
theorem wvX7_writesLines : Cond.selects (cm_R 7) yX7_writesLines yX7_writesLines ∈ cm_tb := cm_w 60 (by decide +kernel) rfl
theorem q7_129 {d d' : Nat} {mc ms : Nat} {S : cm_CT} (hM : cm_Met d' yX7_writesLines cX7_writesLines 5 none mc ms S) (hd : d' < d) : cm_Cal d 7 (.invokevirtual 129) (4, 8, mc, ms, S) := cm_calV (ci := 7) hM hd (by decide) (by decide) rfl wcX7_writesLines (cm_w 1125 (by decide +kernel) rfl) wiX7_writesLines wvX7_writesLines wdX7_writesLines
theorem wcX7_writes : Cond.code yX7_writes cX7_writes 2 none ∈ cm_tb := cm_w 1132 (by decide +kernel) rfl
theorem wdX7_writes : cm_desc yX7_writes 1 := ⟨by decide +kernel, by decide +kernel, by decide +kernel⟩
theorem wiX7_writes : Cond.instanceMethod yX7_writes ∈ cm_tb := cm_w 1131 (by decide +kernel) rfl
theorem wvX7_writes : Cond.selects (cm_R 7) yX7_writes yX7_writes ∈ cm_tb := cm_w 61 (by decide +kernel) rfl
theorem q7_125 {d d' : Nat} {mc ms : Nat} {S : cm_CT} (hM : cm_Met d' yX7_writes cX7_writes 2 none mc ms S) (hd : d' < d) : cm_Cal d 7 (.invokevirtual 125) (2, 8, mc, ms, S) := cm_calV (ci := 7) hM hd (by decide) (by decide) rfl wcX7_writes (cm_w 1129 (by decide +kernel) rfl) wiX7_writes wvX7_writes wdX7_writes
theorem wcX7_would : Cond.code yX7_would cX7_would 3 (some .int) ∈ cm_tb := cm_w 1136 (by decide +kernel) rfl
theorem wdX7_would : cm_desc yX7_would 2 := ⟨by decide +kernel, by decide +kernel, by decide +kernel⟩
theorem wiX7_would : Cond.instanceMethod yX7_would ∈ cm_tb := cm_w 1134 (by decide +kernel) rfl
theorem wvX7_would : Cond.selects (cm_R 7) yX7_would yX7_would ∈ cm_tb := cm_w 1135 (by decide +kernel) rfl
theorem q8_89 {d d' : Nat} {mc ms : Nat} {S : cm_CT} (hM : cm_Met d' yX7_would cX7_would 3 (some .int) mc ms S) (hd : d' < d) : cm_Cal d 8 (.invokevirtual 89) (3, 8, mc, ms, S) := cm_calV (ci := 7) hM hd (by decide) (by decide) rfl wcX7_would (cm_w 1133 (by decide +kernel) rfl) wiX7_would wvX7_would wdX7_would
theorem wcX7_isAbove : Cond.code yX7_isAbove cX7_isAbove 3 (some .boolean) ∈ cm_tb := cm_w 1140 (by decide +kernel) rfl
theorem wdX7_isAbove : cm_desc yX7_isAbove 2 := ⟨by decide +kernel, by decide +kernel, by decide +kernel⟩
theorem wiX7_isAbove : Cond.instanceMethod yX7_isAbove ∈ cm_tb := cm_w 1139 (by decide +kernel) rfl
theorem wvX7_isAbove : Cond.selects (cm_R 7) yX7_isAbove yX7_isAbove ∈ cm_tb := cm_w 62 (by decide +kernel) rfl
theorem q7_247 {d d' : Nat} {mc ms : Nat} {S : cm_CT} (hM : cm_Met d' yX7_isAbove cX7_isAbove 3 (some .boolean) mc ms S) (hd : d' < d) : cm_Cal d 7 (.invokevirtual 247) (3, 8, mc, ms, S) := cm_calV (ci := 7) hM hd (by decide) (by decide) rfl wcX7_isAbove (cm_w 1137 (by decide +kernel) rfl) wiX7_isAbove wvX7_isAbove wdX7_isAbove
theorem wcX7_merges : Cond.code yX7_merges cX7_merges 10 (some .boolean) ∈ cm_tb := cm_w 1144 (by decide +kernel) rfl
theorem wdX7_merges : cm_desc yX7_merges 4 := ⟨by decide +kernel, by decide +kernel, by decide +kernel⟩
theorem wiX7_merges : Cond.instanceMethod yX7_merges ∈ cm_tb := cm_w 1143 (by decide +kernel) rfl
theorem wvX7_merges : Cond.selects (cm_R 7) yX7_merges yX7_merges ∈ cm_tb := cm_w 63 (by decide +kernel) rfl
theorem q7_250 {d d' : Nat} {mc ms : Nat} {S : cm_CT} (hM : cm_Met d' yX7_merges cX7_merges 10 (some .boolean) mc ms S) (hd : d' < d) : cm_Cal d 7 (.invokevirtual 250) (5, 8, mc, ms, S) := cm_calV (ci := 7) hM hd (by decide) (by decide) rfl wcX7_merges (cm_w 1141 (by decide +kernel) rfl) wiX7_merges wvX7_merges wdX7_merges
theorem wcX7_mirrored : Cond.code yX7_mirrored cX7_mirrored 7 (some .int) ∈ cm_tb := cm_w 1148 (by decide +kernel) rfl
theorem wdX7_mirrored : cm_desc yX7_mirrored 2 := ⟨by decide +kernel, by decide +kernel, by decide +kernel⟩
theorem wiX7_mirrored : Cond.instanceMethod yX7_mirrored ∈ cm_tb := cm_w 1146 (by decide +kernel) rfl
theorem wvX7_mirrored : Cond.selects (cm_R 7) yX7_mirrored yX7_mirrored ∈ cm_tb := cm_w 1147 (by decide +kernel) rfl
theorem q8_93 {d d' : Nat} {mc ms : Nat} {S : cm_CT} (hM : cm_Met d' yX7_mirrored cX7_mirrored 7 (some .int) mc ms S) (hd : d' < d) : cm_Cal d 8 (.invokevirtual 93) (3, 8, mc, ms, S) := cm_calV (ci := 7) hM hd (by decide) (by decide) rfl wcX7_mirrored (cm_w 1145 (by decide +kernel) rfl) wiX7_mirrored wvX7_mirrored wdX7_mirrored
theorem wcX7_change : Cond.code yX7_change cX7_change 5 (some .int) ∈ cm_tb := cm_w 1152 (by decide +kernel) rfl
theorem wdX7_change : cm_desc yX7_change 3 := ⟨by decide +kernel, by decide +kernel, by decide +kernel⟩
theorem wiX7_change : Cond.instanceMethod yX7_change ∈ cm_tb := cm_w 1150 (by decide +kernel) rfl
theorem wvX7_change : Cond.selects (cm_R 7) yX7_change yX7_change ∈ cm_tb := cm_w 1151 (by decide +kernel) rfl
theorem q8_97 {d d' : Nat} {mc ms : Nat} {S : cm_CT} (hM : cm_Met d' yX7_change cX7_change 5 (some .int) mc ms S) (hd : d' < d) : cm_Cal d 8 (.invokevirtual 97) (4, 8, mc, ms, S) := cm_calV (ci := 7) hM hd (by decide) (by decide) rfl wcX7_change (cm_w 1149 (by decide +kernel) rfl) wiX7_change wvX7_change wdX7_change
theorem wcX7_changes : Cond.code yX7_changes cX7_changes 5 (some .int) ∈ cm_tb := cm_w 1156 (by decide +kernel) rfl
theorem wdX7_changes : cm_desc yX7_changes 2 := ⟨by decide +kernel, by decide +kernel, by decide +kernel⟩
theorem wiX7_changes : Cond.instanceMethod yX7_changes ∈ cm_tb := cm_w 1155 (by decide +kernel) rfl
theorem wvX7_changes : Cond.selects (cm_R 7) yX7_changes yX7_changes ∈ cm_tb := cm_w 64 (by decide +kernel) rfl
theorem q7_254 {d d' : Nat} {mc ms : Nat} {S : cm_CT} (hM : cm_Met d' yX7_changes cX7_changes 5 (some .int) mc ms S) (hd : d' < d) : cm_Cal d 7 (.invokevirtual 254) (3, 8, mc, ms, S) := cm_calV (ci := 7) hM hd (by decide) (by decide) rfl wcX7_changes (cm_w 1153 (by decide +kernel) rfl) wiX7_changes wvX7_changes wdX7_changes
theorem wcX7_drop : Cond.code yX7_drop cX7_drop 3 (some .int) ∈ cm_tb := cm_w 1160 (by decide +kernel) rfl
theorem wdX7_drop : cm_desc yX7_drop 2 := ⟨by decide +kernel, by decide +kernel, by decide +kernel⟩
theorem wiX7_drop : Cond.instanceMethod yX7_drop ∈ cm_tb := cm_w 1158 (by decide +kernel) rfl
theorem wvX7_drop : Cond.selects (cm_R 7) yX7_drop yX7_drop ∈ cm_tb := cm_w 1159 (by decide +kernel) rfl
theorem q8_101 {d d' : Nat} {mc ms : Nat} {S : cm_CT} (hM : cm_Met d' yX7_drop cX7_drop 3 (some .int) mc ms S) (hd : d' < d) : cm_Cal d 8 (.invokevirtual 101) (3, 8, mc, ms, S) := cm_calV (ci := 7) hM hd (by decide) (by decide) rfl wcX7_drop (cm_w 1157 (by decide +kernel) rfl) wiX7_drop wvX7_drop wdX7_drop
theorem wcX7_settle : Cond.code yX7_settle cX7_settle 4 (some .int) ∈ cm_tb := cm_w 1164 (by decide +kernel) rfl
theorem wdX7_settle : cm_desc yX7_settle 3 := ⟨by decide +kernel, by decide +kernel, by decide +kernel⟩
theorem wiX7_settle : Cond.instanceMethod yX7_settle ∈ cm_tb := cm_w 1162 (by decide +kernel) rfl
theorem wvX7_settle : Cond.selects (cm_R 7) yX7_settle yX7_settle ∈ cm_tb := cm_w 1163 (by decide +kernel) rfl
theorem q8_105 {d d' : Nat} {mc ms : Nat} {S : cm_CT} (hM : cm_Met d' yX7_settle cX7_settle 4 (some .int) mc ms S) (hd : d' < d) : cm_Cal d 8 (.invokevirtual 105) (4, 8, mc, ms, S) := cm_calV (ci := 7) hM hd (by decide) (by decide) rfl wcX7_settle (cm_w 1161 (by decide +kernel) rfl) wiX7_settle wvX7_settle wdX7_settle
theorem wcX7_settles : Cond.code yX7_settles cX7_settles 9 none ∈ cm_tb := cm_w 1168 (by decide +kernel) rfl
theorem wdX7_settles : cm_desc yX7_settles 3 := ⟨by decide +kernel, by decide +kernel, by decide +kernel⟩
theorem wiX7_settles : Cond.instanceMethod yX7_settles ∈ cm_tb := cm_w 1167 (by decide +kernel) rfl
theorem wvX7_settles : Cond.selects (cm_R 7) yX7_settles yX7_settles ∈ cm_tb := cm_w 65 (by decide +kernel) rfl
theorem q7_257 {d d' : Nat} {mc ms : Nat} {S : cm_CT} (hM : cm_Met d' yX7_settles cX7_settles 9 none mc ms S) (hd : d' < d) : cm_Cal d 7 (.invokevirtual 257) (4, 8, mc, ms, S) := cm_calV (ci := 7) hM hd (by decide) (by decide) rfl wcX7_settles (cm_w 1165 (by decide +kernel) rfl) wiX7_settles wvX7_settles wdX7_settles
theorem wcX7_merge : Cond.code yX7_merge cX7_merge 3 (some .int) ∈ cm_tb := cm_w 1172 (by decide +kernel) rfl
theorem wdX7_merge : cm_desc yX7_merge 2 := ⟨by decide +kernel, by decide +kernel, by decide +kernel⟩
theorem wiX7_merge : Cond.instanceMethod yX7_merge ∈ cm_tb := cm_w 1170 (by decide +kernel) rfl
theorem wvX7_merge : Cond.selects (cm_R 7) yX7_merge yX7_merge ∈ cm_tb := cm_w 1171 (by decide +kernel) rfl
theorem q8_109 {d d' : Nat} {mc ms : Nat} {S : cm_CT} (hM : cm_Met d' yX7_merge cX7_merge 3 (some .int) mc ms S) (hd : d' < d) : cm_Cal d 8 (.invokevirtual 109) (3, 8, mc, ms, S) := cm_calV (ci := 7) hM hd (by decide) (by decide) rfl wcX7_merge (cm_w 1169 (by decide +kernel) rfl) wiX7_merge wvX7_merge wdX7_merge
theorem wcX7_mergesNow : Cond.code yX7_mergesNow cX7_mergesNow 4 none ∈ cm_tb := cm_w 1176 (by decide +kernel) rfl
theorem wdX7_mergesNow : cm_desc yX7_mergesNow 2 := ⟨by decide +kernel, by decide +kernel, by decide +kernel⟩
theorem wiX7_mergesNow : Cond.instanceMethod yX7_mergesNow ∈ cm_tb := cm_w 1175 (by decide +kernel) rfl
theorem wvX7_mergesNow : Cond.selects (cm_R 7) yX7_mergesNow yX7_mergesNow ∈ cm_tb := cm_w 66 (by decide +kernel) rfl
theorem q7_260 {d d' : Nat} {mc ms : Nat} {S : cm_CT} (hM : cm_Met d' yX7_mergesNow cX7_mergesNow 4 none mc ms S) (hd : d' < d) : cm_Cal d 7 (.invokevirtual 260) (3, 8, mc, ms, S) := cm_calV (ci := 7) hM hd (by decide) (by decide) rfl wcX7_mergesNow (cm_w 1173 (by decide +kernel) rfl) wiX7_mergesNow wvX7_mergesNow wdX7_mergesNow
theorem wcX7_undo : Cond.code yX7_undo cX7_undo 3 (some .int) ∈ cm_tb := cm_w 1180 (by decide +kernel) rfl
theorem wdX7_undo : cm_desc yX7_undo 1 := ⟨by decide +kernel, by decide +kernel, by decide +kernel⟩
theorem wiX7_undo : Cond.instanceMethod yX7_undo ∈ cm_tb := cm_w 1178 (by decide +kernel) rfl
theorem wvX7_undo : Cond.selects (cm_R 7) yX7_undo yX7_undo ∈ cm_tb := cm_w 1179 (by decide +kernel) rfl
theorem q8_113 {d d' : Nat} {mc ms : Nat} {S : cm_CT} (hM : cm_Met d' yX7_undo cX7_undo 3 (some .int) mc ms S) (hd : d' < d) : cm_Cal d 8 (.invokevirtual 113) (2, 8, mc, ms, S) := cm_calV (ci := 7) hM hd (by decide) (by decide) rfl wcX7_undo (cm_w 1177 (by decide +kernel) rfl) wiX7_undo wvX7_undo wdX7_undo
theorem wcX7_keep : Cond.code yX7_keep cX7_keep 3 (some .int) ∈ cm_tb := cm_w 1184 (by decide +kernel) rfl
theorem wdX7_keep : cm_desc yX7_keep 1 := ⟨by decide +kernel, by decide +kernel, by decide +kernel⟩
theorem wiX7_keep : Cond.instanceMethod yX7_keep ∈ cm_tb := cm_w 1182 (by decide +kernel) rfl
theorem wvX7_keep : Cond.selects (cm_R 7) yX7_keep yX7_keep ∈ cm_tb := cm_w 1183 (by decide +kernel) rfl
theorem q8_117 {d d' : Nat} {mc ms : Nat} {S : cm_CT} (hM : cm_Met d' yX7_keep cX7_keep 3 (some .int) mc ms S) (hd : d' < d) : cm_Cal d 8 (.invokevirtual 117) (2, 8, mc, ms, S) := cm_calV (ci := 7) hM hd (by decide) (by decide) rfl wcX7_keep (cm_w 1181 (by decide +kernel) rfl) wiX7_keep wvX7_keep wdX7_keep
theorem wcX7_on : Cond.code yX7_on cX7_on 3 (some .int) ∈ cm_tb := cm_w 1188 (by decide +kernel) rfl
theorem wdX7_on : cm_desc yX7_on 1 := ⟨by decide +kernel, by decide +kernel, by decide +kernel⟩
theorem wiX7_on : Cond.instanceMethod yX7_on ∈ cm_tb := cm_w 1186 (by decide +kernel) rfl
theorem wvX7_on : Cond.selects (cm_R 7) yX7_on yX7_on ∈ cm_tb := cm_w 1187 (by decide +kernel) rfl
theorem q8_121 {d d' : Nat} {mc ms : Nat} {S : cm_CT} (hM : cm_Met d' yX7_on cX7_on 3 (some .int) mc ms S) (hd : d' < d) : cm_Cal d 8 (.invokevirtual 121) (2, 8, mc, ms, S) := cm_calV (ci := 7) hM hd (by decide) (by decide) rfl wcX7_on (cm_w 1185 (by decide +kernel) rfl) wiX7_on wvX7_on wdX7_on
theorem wcX7_lots : Cond.code yX7_lots cX7_lots 6 (some .int) ∈ cm_tb := cm_w 1192 (by decide +kernel) rfl
theorem wdX7_lots : cm_desc yX7_lots 2 := ⟨by decide +kernel, by decide +kernel, by decide +kernel⟩
theorem wiX7_lots : Cond.instanceMethod yX7_lots ∈ cm_tb := cm_w 1190 (by decide +kernel) rfl
theorem wvX7_lots : Cond.selects (cm_R 7) yX7_lots yX7_lots ∈ cm_tb := cm_w 1191 (by decide +kernel) rfl
theorem q8_125 {d d' : Nat} {mc ms : Nat} {S : cm_CT} (hM : cm_Met d' yX7_lots cX7_lots 6 (some .int) mc ms S) (hd : d' < d) : cm_Cal d 8 (.invokevirtual 125) (3, 8, mc, ms, S) := cm_calV (ci := 7) hM hd (by decide) (by decide) rfl wcX7_lots (cm_w 1189 (by decide +kernel) rfl) wiX7_lots wvX7_lots wdX7_lots
theorem wcX7_lotGoes : Cond.code yX7_lotGoes cX7_lotGoes 9 none ∈ cm_tb := cm_w 1199 (by decide +kernel) rfl
theorem wdX7_lotGoes : cm_desc yX7_lotGoes 1 := ⟨by decide +kernel, by decide +kernel, by decide +kernel⟩
theorem wiX7_lotGoes : Cond.instanceMethod yX7_lotGoes ∈ cm_tb := cm_w 1198 (by decide +kernel) rfl
theorem wvX7_lotGoes : Cond.selects (cm_R 7) yX7_lotGoes yX7_lotGoes ∈ cm_tb := cm_w 67 (by decide +kernel) rfl
theorem q7_282 {d d' : Nat} {mc ms : Nat} {S : cm_CT} (hM : cm_Met d' yX7_lotGoes cX7_lotGoes 9 none mc ms S) (hd : d' < d) : cm_Cal d 7 (.invokevirtual 282) (2, 8, mc, ms, S) := cm_calV (ci := 7) hM hd (by decide) (by decide) rfl wcX7_lotGoes (cm_w 1196 (by decide +kernel) rfl) wiX7_lotGoes wvX7_lotGoes wdX7_lotGoes
theorem wcX7_unlike : Cond.code yX7_unlike cX7_unlike 5 (some .int) ∈ cm_tb := cm_w 1210 (by decide +kernel) rfl
theorem wdX7_unlike : cm_desc yX7_unlike 1 := ⟨by decide +kernel, by decide +kernel, by decide +kernel⟩
theorem wiX7_unlike : Cond.instanceMethod yX7_unlike ∈ cm_tb := cm_w 1208 (by decide +kernel) rfl
theorem wvX7_unlike : Cond.selects (cm_R 7) yX7_unlike yX7_unlike ∈ cm_tb := cm_w 1209 (by decide +kernel) rfl
theorem q8_129 {d d' : Nat} {mc ms : Nat} {S : cm_CT} (hM : cm_Met d' yX7_unlike cX7_unlike 5 (some .int) mc ms S) (hd : d' < d) : cm_Cal d 8 (.invokevirtual 129) (2, 8, mc, ms, S) := cm_calV (ci := 7) hM hd (by decide) (by decide) rfl wcX7_unlike (cm_w 1207 (by decide +kernel) rfl) wiX7_unlike wvX7_unlike wdX7_unlike
theorem wcX7_partsAll : Cond.code yX7_partsAll cX7_partsAll 4 none ∈ cm_tb := cm_w 1214 (by decide +kernel) rfl
theorem wdX7_partsAll : cm_desc yX7_partsAll 2 := ⟨by decide +kernel, by decide +kernel, by decide +kernel⟩
theorem wiX7_partsAll : Cond.instanceMethod yX7_partsAll ∈ cm_tb := cm_w 1213 (by decide +kernel) rfl
theorem wvX7_partsAll : Cond.selects (cm_R 7) yX7_partsAll yX7_partsAll ∈ cm_tb := cm_w 68 (by decide +kernel) rfl
theorem q7_286 {d d' : Nat} {mc ms : Nat} {S : cm_CT} (hM : cm_Met d' yX7_partsAll cX7_partsAll 4 none mc ms S) (hd : d' < d) : cm_Cal d 7 (.invokevirtual 286) (3, 8, mc, ms, S) := cm_calV (ci := 7) hM hd (by decide) (by decide) rfl wcX7_partsAll (cm_w 1211 (by decide +kernel) rfl) wiX7_partsAll wvX7_partsAll wdX7_partsAll
theorem wcX7_stands : Cond.code yX7_stands cX7_stands 9 (some .boolean) ∈ cm_tb := cm_w 1218 (by decide +kernel) rfl
theorem wdX7_stands : cm_desc yX7_stands 4 := ⟨by decide +kernel, by decide +kernel, by decide +kernel⟩
theorem wiX7_stands : Cond.instanceMethod yX7_stands ∈ cm_tb := cm_w 1217 (by decide +kernel) rfl
theorem wvX7_stands : Cond.selects (cm_R 7) yX7_stands yX7_stands ∈ cm_tb := cm_w 69 (by decide +kernel) rfl
theorem q7_289 {d d' : Nat} {mc ms : Nat} {S : cm_CT} (hM : cm_Met d' yX7_stands cX7_stands 9 (some .boolean) mc ms S) (hd : d' < d) : cm_Cal d 7 (.invokevirtual 289) (5, 8, mc, ms, S) := cm_calV (ci := 7) hM hd (by decide) (by decide) rfl wcX7_stands (cm_w 1215 (by decide +kernel) rfl) wiX7_stands wvX7_stands wdX7_stands
theorem wcX7_shared : Cond.code yX7_shared cX7_shared 6 (some .int) ∈ cm_tb := cm_w 1222 (by decide +kernel) rfl
theorem wdX7_shared : cm_desc yX7_shared 2 := ⟨by decide +kernel, by decide +kernel, by decide +kernel⟩
theorem wiX7_shared : Cond.instanceMethod yX7_shared ∈ cm_tb := cm_w 1220 (by decide +kernel) rfl
theorem wvX7_shared : Cond.selects (cm_R 7) yX7_shared yX7_shared ∈ cm_tb := cm_w 1221 (by decide +kernel) rfl
theorem q8_133 {d d' : Nat} {mc ms : Nat} {S : cm_CT} (hM : cm_Met d' yX7_shared cX7_shared 6 (some .int) mc ms S) (hd : d' < d) : cm_Cal d 8 (.invokevirtual 133) (3, 8, mc, ms, S) := cm_calV (ci := 7) hM hd (by decide) (by decide) rfl wcX7_shared (cm_w 1219 (by decide +kernel) rfl) wiX7_shared wvX7_shared wdX7_shared
theorem wcX7_often : Cond.code yX7_often cX7_often 7 (some .int) ∈ cm_tb := cm_w 1226 (by decide +kernel) rfl
theorem wdX7_often : cm_desc yX7_often 3 := ⟨by decide +kernel, by decide +kernel, by decide +kernel⟩
theorem wiX7_often : Cond.instanceMethod yX7_often ∈ cm_tb := cm_w 1224 (by decide +kernel) rfl
theorem wvX7_often : Cond.selects (cm_R 7) yX7_often yX7_often ∈ cm_tb := cm_w 1225 (by decide +kernel) rfl
theorem q8_137 {d d' : Nat} {mc ms : Nat} {S : cm_CT} (hM : cm_Met d' yX7_often cX7_often 7 (some .int) mc ms S) (hd : d' < d) : cm_Cal d 8 (.invokevirtual 137) (4, 8, mc, ms, S) := cm_calV (ci := 7) hM hd (by decide) (by decide) rfl wcX7_often (cm_w 1223 (by decide +kernel) rfl) wiX7_often wvX7_often wdX7_often
theorem wcX7_isLine : Cond.code yX7_isLine cX7_isLine 4 (some .boolean) ∈ cm_tb := cm_w 1230 (by decide +kernel) rfl
theorem wdX7_isLine : cm_desc yX7_isLine 3 := ⟨by decide +kernel, by decide +kernel, by decide +kernel⟩
theorem wiX7_isLine : Cond.instanceMethod yX7_isLine ∈ cm_tb := cm_w 1229 (by decide +kernel) rfl
theorem wvX7_isLine : Cond.selects (cm_R 7) yX7_isLine yX7_isLine ∈ cm_tb := cm_w 70 (by decide +kernel) rfl
theorem q7_292 {d d' : Nat} {mc ms : Nat} {S : cm_CT} (hM : cm_Met d' yX7_isLine cX7_isLine 4 (some .boolean) mc ms S) (hd : d' < d) : cm_Cal d 7 (.invokevirtual 292) (4, 8, mc, ms, S) := cm_calV (ci := 7) hM hd (by decide) (by decide) rfl wcX7_isLine (cm_w 1227 (by decide +kernel) rfl) wiX7_isLine wvX7_isLine wdX7_isLine
theorem wcX7_from : Cond.code yX7_from cX7_from 5 (some .int) ∈ cm_tb := cm_w 1234 (by decide +kernel) rfl
theorem wdX7_from : cm_desc yX7_from 3 := ⟨by decide +kernel, by decide +kernel, by decide +kernel⟩
theorem wiX7_from : Cond.instanceMethod yX7_from ∈ cm_tb := cm_w 1232 (by decide +kernel) rfl
theorem wvX7_from : Cond.selects (cm_R 7) yX7_from yX7_from ∈ cm_tb := cm_w 1233 (by decide +kernel) rfl
theorem q8_141 {d d' : Nat} {mc ms : Nat} {S : cm_CT} (hM : cm_Met d' yX7_from cX7_from 5 (some .int) mc ms S) (hd : d' < d) : cm_Cal d 8 (.invokevirtual 141) (4, 8, mc, ms, S) := cm_calV (ci := 7) hM hd (by decide) (by decide) rfl wcX7_from (cm_w 1231 (by decide +kernel) rfl) wiX7_from wvX7_from wdX7_from
theorem wcX7_apart : Cond.code yX7_apart cX7_apart 3 (some .int) ∈ cm_tb := cm_w 1238 (by decide +kernel) rfl
theorem wdX7_apart : cm_desc yX7_apart 2 := ⟨by decide +kernel, by decide +kernel, by decide +kernel⟩
theorem wiX7_apart : Cond.instanceMethod yX7_apart ∈ cm_tb := cm_w 1236 (by decide +kernel) rfl
theorem wvX7_apart : Cond.selects (cm_R 7) yX7_apart yX7_apart ∈ cm_tb := cm_w 1237 (by decide +kernel) rfl
theorem q8_145 {d d' : Nat} {mc ms : Nat} {S : cm_CT} (hM : cm_Met d' yX7_apart cX7_apart 3 (some .int) mc ms S) (hd : d' < d) : cm_Cal d 8 (.invokevirtual 145) (3, 8, mc, ms, S) := cm_calV (ci := 7) hM hd (by decide) (by decide) rfl wcX7_apart (cm_w 1235 (by decide +kernel) rfl) wiX7_apart wvX7_apart wdX7_apart
theorem wcX7_ways : Cond.code yX7_ways cX7_ways 4 (some .int) ∈ cm_tb := cm_w 1242 (by decide +kernel) rfl
theorem wdX7_ways : cm_desc yX7_ways 1 := ⟨by decide +kernel, by decide +kernel, by decide +kernel⟩
theorem wiX7_ways : Cond.instanceMethod yX7_ways ∈ cm_tb := cm_w 1240 (by decide +kernel) rfl
theorem wvX7_ways : Cond.selects (cm_R 7) yX7_ways yX7_ways ∈ cm_tb := cm_w 1241 (by decide +kernel) rfl
theorem q8_149 {d d' : Nat} {mc ms : Nat} {S : cm_CT} (hM : cm_Met d' yX7_ways cX7_ways 4 (some .int) mc ms S) (hd : d' < d) : cm_Cal d 8 (.invokevirtual 149) (2, 8, mc, ms, S) := cm_calV (ci := 7) hM hd (by decide) (by decide) rfl wcX7_ways (cm_w 1239 (by decide +kernel) rfl) wiX7_ways wvX7_ways wdX7_ways
theorem wcX7_odds : Cond.code yX7_odds cX7_odds 6 (some .int) ∈ cm_tb := cm_w 1246 (by decide +kernel) rfl
theorem wdX7_odds : cm_desc yX7_odds 2 := ⟨by decide +kernel, by decide +kernel, by decide +kernel⟩
theorem wiX7_odds : Cond.instanceMethod yX7_odds ∈ cm_tb := cm_w 1244 (by decide +kernel) rfl
theorem wvX7_odds : Cond.selects (cm_R 7) yX7_odds yX7_odds ∈ cm_tb := cm_w 1245 (by decide +kernel) rfl
theorem q8_153 {d d' : Nat} {mc ms : Nat} {S : cm_CT} (hM : cm_Met d' yX7_odds cX7_odds 6 (some .int) mc ms S) (hd : d' < d) : cm_Cal d 8 (.invokevirtual 153) (3, 8, mc, ms, S) := cm_calV (ci := 7) hM hd (by decide) (by decide) rfl wcX7_odds (cm_w 1243 (by decide +kernel) rfl) wiX7_odds wvX7_odds wdX7_odds
theorem wcX7_asked : Cond.code yX7_asked cX7_asked 1 (some .int) ∈ cm_tb := cm_w 1252 (by decide +kernel) rfl
theorem wdX7_asked : cm_desc yX7_asked 0 := ⟨by decide +kernel, by decide +kernel, by decide +kernel⟩
theorem wiX7_asked : Cond.instanceMethod yX7_asked ∈ cm_tb := cm_w 1250 (by decide +kernel) rfl
theorem wvX7_asked : Cond.selects (cm_R 7) yX7_asked yX7_asked ∈ cm_tb := cm_w 1251 (by decide +kernel) rfl
theorem q8_158 {d d' : Nat} {mc ms : Nat} {S : cm_CT} (hM : cm_Met d' yX7_asked cX7_asked 1 (some .int) mc ms S) (hd : d' < d) : cm_Cal d 8 (.invokevirtual 158) (1, 8, mc, ms, S) := cm_calV (ci := 7) hM hd (by decide) (by decide) rfl wcX7_asked (cm_w 1249 (by decide +kernel) rfl) wiX7_asked wvX7_asked wdX7_asked
theorem wcX7_upper : Cond.code yX7_upper cX7_upper 1 (some .long) ∈ cm_tb := cm_w 1256 (by decide +kernel) rfl
theorem wdX7_upper : cm_desc yX7_upper 0 := ⟨by decide +kernel, by decide +kernel, by decide +kernel⟩
theorem wiX7_upper : Cond.instanceMethod yX7_upper ∈ cm_tb := cm_w 1254 (by decide +kernel) rfl
theorem wvX7_upper : Cond.selects (cm_R 7) yX7_upper yX7_upper ∈ cm_tb := cm_w 1255 (by decide +kernel) rfl
theorem q8_163 {d d' : Nat} {mc ms : Nat} {S : cm_CT} (hM : cm_Met d' yX7_upper cX7_upper 1 (some .long) mc ms S) (hd : d' < d) : cm_Cal d 8 (.invokevirtual 163) (1, 8, mc, ms, S) := cm_calV (ci := 7) hM hd (by decide) (by decide) rfl wcX7_upper (cm_w 1253 (by decide +kernel) rfl) wiX7_upper wvX7_upper wdX7_upper
theorem wcX7_lower : Cond.code yX7_lower cX7_lower 1 (some .long) ∈ cm_tb := cm_w 1260 (by decide +kernel) rfl
theorem wdX7_lower : cm_desc yX7_lower 0 := ⟨by decide +kernel, by decide +kernel, by decide +kernel⟩
theorem wiX7_lower : Cond.instanceMethod yX7_lower ∈ cm_tb := cm_w 1258 (by decide +kernel) rfl
theorem wvX7_lower : Cond.selects (cm_R 7) yX7_lower yX7_lower ∈ cm_tb := cm_w 1259 (by decide +kernel) rfl
theorem q8_167 {d d' : Nat} {mc ms : Nat} {S : cm_CT} (hM : cm_Met d' yX7_lower cX7_lower 1 (some .long) mc ms S) (hd : d' < d) : cm_Cal d 8 (.invokevirtual 167) (1, 8, mc, ms, S) := cm_calV (ci := 7) hM hd (by decide) (by decide) rfl wcX7_lower (cm_w 1257 (by decide +kernel) rfl) wiX7_lower wvX7_lower wdX7_lower
theorem wcX7_count : Cond.code yX7_count cX7_count 2 (some .int) ∈ cm_tb := cm_w 1264 (by decide +kernel) rfl
theorem wdX7_count : cm_desc yX7_count 1 := ⟨by decide +kernel, by decide +kernel, by decide +kernel⟩
theorem wiX7_count : Cond.instanceMethod yX7_count ∈ cm_tb := cm_w 1262 (by decide +kernel) rfl
theorem wvX7_count : Cond.selects (cm_R 7) yX7_count yX7_count ∈ cm_tb := cm_w 1263 (by decide +kernel) rfl
theorem q8_171 {d d' : Nat} {mc ms : Nat} {S : cm_CT} (hM : cm_Met d' yX7_count cX7_count 2 (some .int) mc ms S) (hd : d' < d) : cm_Cal d 8 (.invokevirtual 171) (2, 8, mc, ms, S) := cm_calV (ci := 7) hM hd (by decide) (by decide) rfl wcX7_count (cm_w 1261 (by decide +kernel) rfl) wiX7_count wvX7_count wdX7_count
theorem wcX7_ofSizes : Cond.code yX7_ofSizes cX7_ofSizes 4 (some .int) ∈ cm_tb := cm_w 1267 (by decide +kernel) rfl
theorem wdX7_ofSizes : cm_desc yX7_ofSizes 2 := ⟨by decide +kernel, by decide +kernel, by decide +kernel⟩
theorem wsX7_ofSizes : Cond.static yX7_ofSizes ∈ cm_tb := cm_w 1266 (by decide +kernel) rfl
theorem q7_302 {d d' : Nat} {mc ms : Nat} {S : cm_CT} (hM : cm_Met d' yX7_ofSizes cX7_ofSizes 4 (some .int) mc ms S) (hd : d' < d) : cm_Cal d 7 (.invokestatic 302) (2, 0, mc, ms, S) := cm_calS hM hd (by decide) wcX7_ofSizes (cm_w 1265 (by decide +kernel) rfl) wsX7_ofSizes (cm_w 83 (by decide +kernel) rfl) wdX7_ofSizes
theorem wcX7_ofVersions : Cond.code yX7_ofVersions cX7_ofVersions 9 (some .int) ∈ cm_tb := cm_w 1271 (by decide +kernel) rfl
theorem wdX7_ofVersions : cm_desc yX7_ofVersions 1 := ⟨by decide +kernel, by decide +kernel, by decide +kernel⟩
theorem wiX7_ofVersions : Cond.instanceMethod yX7_ofVersions ∈ cm_tb := cm_w 1270 (by decide +kernel) rfl
theorem wvX7_ofVersions : Cond.selects (cm_R 7) yX7_ofVersions yX7_ofVersions ∈ cm_tb := cm_w 71 (by decide +kernel) rfl
theorem q7_306 {d d' : Nat} {mc ms : Nat} {S : cm_CT} (hM : cm_Met d' yX7_ofVersions cX7_ofVersions 9 (some .int) mc ms S) (hd : d' < d) : cm_Cal d 7 (.invokevirtual 306) (2, 8, mc, ms, S) := cm_calV (ci := 7) hM hd (by decide) (by decide) rfl wcX7_ofVersions (cm_w 1268 (by decide +kernel) rfl) wiX7_ofVersions wvX7_ofVersions wdX7_ofVersions
theorem wcX7_finding : Cond.code yX7_finding cX7_finding 1 (some .int) ∈ cm_tb := cm_w 1275 (by decide +kernel) rfl
theorem wdX7_finding : cm_desc yX7_finding 0 := ⟨by decide +kernel, by decide +kernel, by decide +kernel⟩
theorem wiX7_finding : Cond.instanceMethod yX7_finding ∈ cm_tb := cm_w 1273 (by decide +kernel) rfl
theorem wvX7_finding : Cond.selects (cm_R 7) yX7_finding yX7_finding ∈ cm_tb := cm_w 1274 (by decide +kernel) rfl
theorem q8_175 {d d' : Nat} {mc ms : Nat} {S : cm_CT} (hM : cm_Met d' yX7_finding cX7_finding 1 (some .int) mc ms S) (hd : d' < d) : cm_Cal d 8 (.invokevirtual 175) (1, 8, mc, ms, S) := cm_calV (ci := 7) hM hd (by decide) (by decide) rfl wcX7_finding (cm_w 1272 (by decide +kernel) rfl) wiX7_finding wvX7_finding wdX7_finding
theorem wcX7_findings : Cond.code yX7_findings cX7_findings 2 (some .int) ∈ cm_tb := cm_w 1279 (by decide +kernel) rfl
theorem wdX7_findings : cm_desc yX7_findings 1 := ⟨by decide +kernel, by decide +kernel, by decide +kernel⟩
theorem wiX7_findings : Cond.instanceMethod yX7_findings ∈ cm_tb := cm_w 1277 (by decide +kernel) rfl
theorem wvX7_findings : Cond.selects (cm_R 7) yX7_findings yX7_findings ∈ cm_tb := cm_w 1278 (by decide +kernel) rfl
theorem q8_179 {d d' : Nat} {mc ms : Nat} {S : cm_CT} (hM : cm_Met d' yX7_findings cX7_findings 2 (some .int) mc ms S) (hd : d' < d) : cm_Cal d 8 (.invokevirtual 179) (2, 8, mc, ms, S) := cm_calV (ci := 7) hM hd (by decide) (by decide) rfl wcX7_findings (cm_w 1276 (by decide +kernel) rfl) wiX7_findings wvX7_findings wdX7_findings
theorem wcX7_digest : Cond.code yX7_digest cX7_digest 3 (some .long) ∈ cm_tb := cm_w 1283 (by decide +kernel) rfl
theorem wdX7_digest : cm_desc yX7_digest 0 := ⟨by decide +kernel, by decide +kernel, by decide +kernel⟩
theorem wiX7_digest : Cond.instanceMethod yX7_digest ∈ cm_tb := cm_w 1281 (by decide +kernel) rfl
theorem wvX7_digest : Cond.selects (cm_R 7) yX7_digest yX7_digest ∈ cm_tb := cm_w 1282 (by decide +kernel) rfl
theorem q8_183 {d d' : Nat} {mc ms : Nat} {S : cm_CT} (hM : cm_Met d' yX7_digest cX7_digest 3 (some .long) mc ms S) (hd : d' < d) : cm_Cal d 8 (.invokevirtual 183) (1, 8, mc, ms, S) := cm_calV (ci := 7) hM hd (by decide) (by decide) rfl wcX7_digest (cm_w 1280 (by decide +kernel) rfl) wiX7_digest wvX7_digest wdX7_digest
theorem q7_319 {d d' : Nat} {mc ms : Nat} {S : cm_CT} (hM : cm_Met d' yX7_count cX7_count 2 (some .int) mc ms S) (hd : d' < d) : cm_Cal d 7 (.invokevirtual 319) (2, 8, mc, ms, S) := cm_calV (ci := 7) hM hd (by decide) (by decide) rfl wcX7_count (cm_w 1285 (by decide +kernel) rfl) wiX7_count wvX7_count wdX7_count
theorem wcX7_mixes : Cond.code yX7_mixes cX7_mixes 2 none ∈ cm_tb := cm_w 1289 (by decide +kernel) rfl
theorem wdX7_mixes : cm_desc yX7_mixes 1 := ⟨by decide +kernel, by decide +kernel, by decide +kernel⟩
theorem wiX7_mixes : Cond.instanceMethod yX7_mixes ∈ cm_tb := cm_w 1288 (by decide +kernel) rfl
theorem wvX7_mixes : Cond.selects (cm_R 7) yX7_mixes yX7_mixes ∈ cm_tb := cm_w 72 (by decide +kernel) rfl
theorem q7_314 {d d' : Nat} {mc ms : Nat} {S : cm_CT} (hM : cm_Met d' yX7_mixes cX7_mixes 2 none mc ms S) (hd : d' < d) : cm_Cal d 7 (.invokevirtual 314) (2, 8, mc, ms, S) := cm_calV (ci := 7) hM hd (by decide) (by decide) rfl wcX7_mixes (cm_w 1286 (by decide +kernel) rfl) wiX7_mixes wvX7_mixes wdX7_mixes
theorem wcX7_mixesRow : Cond.code yX7_mixesRow cX7_mixesRow 5 none ∈ cm_tb := cm_w 1294 (by decide +kernel) rfl
theorem wdX7_mixesRow : cm_desc yX7_mixesRow 3 := ⟨by decide +kernel, by decide +kernel, by decide +kernel⟩
theorem wiX7_mixesRow : Cond.instanceMethod yX7_mixesRow ∈ cm_tb := cm_w 1293 (by decide +kernel) rfl
theorem wvX7_mixesRow : Cond.selects (cm_R 7) yX7_mixesRow yX7_mixesRow ∈ cm_tb := cm_w 73 (by decide +kernel) rfl
theorem q7_322 {d d' : Nat} {mc ms : Nat} {S : cm_CT} (hM : cm_Met d' yX7_mixesRow cX7_mixesRow 5 none mc ms S) (hd : d' < d) : cm_Cal d 7 (.invokevirtual 322) (4, 8, mc, ms, S) := cm_calV (ci := 7) hM hd (by decide) (by decide) rfl wcX7_mixesRow (cm_w 1291 (by decide +kernel) rfl) wiX7_mixesRow wvX7_mixesRow wdX7_mixesRow
