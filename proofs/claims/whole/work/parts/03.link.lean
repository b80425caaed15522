def cm_tb : List Cond := lw_tbl.filter goodWord
theorem cm_tbm {w : Cond} (h : w ∈ lw_tbl) (hg : goodWord w = true) : w ∈ cm_tb := List.mem_filter.mpr ⟨h, hg⟩
theorem cm_tbs {w : Cond} (h : w ∈ cm_tb) : w ∈ lw_tbl := (List.mem_filter.mp h).1
def cm_flT : List (Nat × Nat × Nat × Nat × Bool × Nat) := [(4021, 3, 4, 0, true, 119), (1035, 3, 4, 0, true, 120), (3126, 3, 4, 0, true, 121), (6114, 3, 4, 0, true, 122), (4009, 0, 4, 1, false, 123), (5024, 0, 4, 1, false, 124), (1032, 0, 4, 1, false, 125), (6107, 0, 4, 1, false, 126), (3125, 0, 4, 1, false, 127), (5011, 3, 5, 0, true, 135), (3061, 3, 5, 0, true, 136), (1026, 3, 5, 0, true, 137), (6173, 3, 5, 0, true, 138), (5017, 0, 5, 1, false, 139), (3077, 0, 5, 1, false, 140), (56, 0, 5, 1, false, 141), (6196, 0, 5, 1, false, 142), (9, 0, 0, 0, false, 148), (6130, 0, 0, 0, false, 149), (17, 3, 0, 1, true, 150), (6154, 3, 0, 1, true, 151), (21, 3, 0, 2, true, 152), (6158, 3, 0, 2, true, 153), (25, 3, 0, 3, true, 154), (6164, 3, 0, 3, true, 155), (28, 3, 0, 4, true, 156), (6182, 3, 0, 4, true, 157), (31, 3, 0, 5, true, 158), (2011, 3, 2, 0, true, 185), (1009, 3, 1, 0, true, 196), (3129, 3, 1, 0, true, 197), (1015, 3, 1, 1, true, 198), (3122, 3, 1, 1, true, 199), (1018, 0, 1, 2, false, 200), (2015, 0, 1, 2, false, 201), (3104, 0, 1, 2, false, 202), (6240, 0, 1, 2, false, 203), (3012, 3, 3, 0, true, 214), (6333, 3, 3, 0, true, 215), (3020, 3, 3, 1, true, 216), (6321, 3, 3, 1, true, 217), (3024, 1, 3, 2, false, 218), (6313, 1, 3, 2, false, 219), (3031, 3, 3, 3, true, 220), (3035, 3, 3, 4, true, 221), (3038, 3, 3, 5, true, 222), (3041, 3, 3, 6, true, 223), (3045, 3, 3, 7, true, 224), (3053, 3, 3, 8, true, 225), (3057, 1, 3, 9, false, 226), (6011, 3, 6, 0, true, 253), (6015, 3, 6, 1, true, 254), (6021, 3, 6, 2, true, 255), (6025, 3, 6, 3, true, 256), (6032, 3, 6, 4, true, 257), (6039, 3, 6, 5, true, 258), (6043, 3, 6, 6, true, 259), (6049, 3, 6, 7, true, 260), (6053, 3, 6, 8, true, 261), (6056, 0, 6, 9, false, 262), (6060, 2, 6, 10, false, 263), (6064, 2, 6, 11, false, 264), (6067, 0, 6, 12, false, 265), (6070, 3, 6, 13, true, 266), (7007, 3, 7, 0, true, 799), (7155, 0, 7, 1, false, 800), (7013, 3, 7, 2, true, 801), (7016, 3, 7, 3, true, 802), (7072, 0, 7, 4, false, 803), (7076, 0, 7, 5, false, 804), (7019, 3, 7, 6, true, 805), (7299, 2, 7, 7, false, 806), (7022, 2, 7, 8, false, 807), (7026, 3, 7, 9, true, 808), (7029, 3, 7, 10, true, 809), (7032, 3, 7, 11, true, 810), (7035, 3, 7, 12, true, 811), (7038, 3, 7, 13, true, 812), (7041, 3, 7, 14, true, 813), (7044, 3, 7, 15, true, 814), (7047, 3, 7, 16, true, 815), (7050, 3, 7, 17, true, 816), (7053, 3, 7, 18, true, 817), (7056, 3, 7, 19, true, 818), (7122, 0, 7, 20, false, 819), (7119, 0, 7, 21, false, 820), (7059, 3, 7, 22, true, 821), (7189, 0, 7, 23, false, 822), (7192, 0, 7, 24, false, 823), (7062, 3, 7, 25, true, 824), (7065, 3, 7, 26, true, 825), (7068, 3, 7, 27, true, 826), (7311, 2, 7, 28, false, 827)]
def cm_klT : List (Nat × Nat × Nat) := [(8007, 6, 87), (6009, 4, 95), (6018, 0, 97), (15, 5, 103), (5009, 4, 110), (6029, 3, 173), (3009, 2, 179), (3018, 5, 189), (3028, 1, 190), (3048, 4, 211), (6036, 5, 248), (6046, 1, 250), (8010, 7, 793)]
def cm_lcT : List (Nat × Int × Nat) := [(6229, 2147483647, 645), (6231, 48271, 646), (84, 65536, 719), (86, 2, 720), (6265, 65536, 725), (6267, 2, 726), (6272, 17, 788), (6274, 31, 789), (7278, 48271, 1194), (7280, 2147483647, 1195), (7263, 64, 1200), (7265, 4, 1201), (7267, 3, 1202), (7269, 16384, 1203), (7271, 1024, 1204), (7273, 10, 1205), (7275, 4096, 1206), (7295, 65536, 1247), (7297, 2, 1248), (7317, 17, 1284), (7309, 31, 1290)]
def cm_icT : List (Nat × Int × Nat) := [(9265, 1431655765, 432), (9266, 858993459, 433), (9267, 252645135, 434), (7277, 2147483646, 1193)]
def cm_fl (o i : Nat) : Option (Nat × Nat × Nat × Bool) := (cm_flT.lookup (o * 1000 + i)).map (fun q => (q.1, q.2.1, q.2.2.1, q.2.2.2.1))
def cm_kl (o i : Nat) : Option Nat := (cm_klT.lookup (o * 1000 + i)).map (fun q => q.1)
def cm_ll (o i : Nat) : Option Int := (cm_lcT.lookup (o * 1000 + i)).map (fun q => q.1)
def cm_il2 (o i : Nat) : Option Int := (cm_icT.lookup (o * 1000 + i)).map (fun q => q.1)
theorem fl_4_21 : cm_fl 4 21 = some (3, 4, 0, true) := by decide +kernel
theorem fl_1_35 : cm_fl 1 35 = some (3, 4, 0, true) := by decide +kernel
theorem fl_3_126 : cm_fl 3 126 = some (3, 4, 0, true) := by decide +kernel
theorem fl_6_114 : cm_fl 6 114 = some (3, 4, 0, true) := by decide +kernel
theorem fl_4_9 : cm_fl 4 9 = some (0, 4, 1, false) := by decide +kernel
theorem fl_5_24 : cm_fl 5 24 = some (0, 4, 1, false) := by decide +kernel
theorem fl_1_32 : cm_fl 1 32 = some (0, 4, 1, false) := by decide +kernel
theorem fl_6_107 : cm_fl 6 107 = some (0, 4, 1, false) := by decide +kernel
theorem fl_3_125 : cm_fl 3 125 = some (0, 4, 1, false) := by decide +kernel
theorem fl_5_11 : cm_fl 5 11 = some (3, 5, 0, true) := by decide +kernel
theorem fl_3_61 : cm_fl 3 61 = some (3, 5, 0, true) := by decide +kernel
theorem fl_1_26 : cm_fl 1 26 = some (3, 5, 0, true) := by decide +kernel
theorem fl_6_173 : cm_fl 6 173 = some (3, 5, 0, true) := by decide +kernel
theorem fl_5_17 : cm_fl 5 17 = some (0, 5, 1, false) := by decide +kernel
theorem fl_3_77 : cm_fl 3 77 = some (0, 5, 1, false) := by decide +kernel
theorem fl_0_56 : cm_fl 0 56 = some (0, 5, 1, false) := by decide +kernel
theorem fl_6_196 : cm_fl 6 196 = some (0, 5, 1, false) := by decide +kernel
theorem fl_0_9 : cm_fl 0 9 = some (0, 0, 0, false) := by decide +kernel
theorem fl_6_130 : cm_fl 6 130 = some (0, 0, 0, false) := by decide +kernel
theorem fl_0_17 : cm_fl 0 17 = some (3, 0, 1, true) := by decide +kernel
theorem fl_6_154 : cm_fl 6 154 = some (3, 0, 1, true) := by decide +kernel
theorem fl_0_21 : cm_fl 0 21 = some (3, 0, 2, true) := by decide +kernel
theorem fl_6_158 : cm_fl 6 158 = some (3, 0, 2, true) := by decide +kernel
theorem fl_0_25 : cm_fl 0 25 = some (3, 0, 3, true) := by decide +kernel
theorem fl_6_164 : cm_fl 6 164 = some (3, 0, 3, true) := by decide +kernel
theorem fl_0_28 : cm_fl 0 28 = some (3, 0, 4, true) := by decide +kernel
theorem fl_6_182 : cm_fl 6 182 = some (3, 0, 4, true) := by decide +kernel
theorem fl_0_31 : cm_fl 0 31 = some (3, 0, 5, true) := by decide +kernel
theorem fl_2_11 : cm_fl 2 11 = some (3, 2, 0, true) := by decide +kernel
theorem fl_1_9 : cm_fl 1 9 = some (3, 1, 0, true) := by decide +kernel
theorem fl_3_129 : cm_fl 3 129 = some (3, 1, 0, true) := by decide +kernel
theorem fl_1_15 : cm_fl 1 15 = some (3, 1, 1, true) := by decide +kernel
theorem fl_3_122 : cm_fl 3 122 = some (3, 1, 1, true) := by decide +kernel
theorem fl_1_18 : cm_fl 1 18 = some (0, 1, 2, false) := by decide +kernel
theorem fl_2_15 : cm_fl 2 15 = some (0, 1, 2, false) := by decide +kernel
theorem fl_3_104 : cm_fl 3 104 = some (0, 1, 2, false) := by decide +kernel
theorem fl_6_240 : cm_fl 6 240 = some (0, 1, 2, false) := by decide +kernel
theorem fl_3_12 : cm_fl 3 12 = some (3, 3, 0, true) := by decide +kernel
theorem fl_6_333 : cm_fl 6 333 = some (3, 3, 0, true) := by decide +kernel
theorem fl_3_20 : cm_fl 3 20 = some (3, 3, 1, true) := by decide +kernel
theorem fl_6_321 : cm_fl 6 321 = some (3, 3, 1, true) := by decide +kernel
theorem fl_3_24 : cm_fl 3 24 = some (1, 3, 2, false) := by decide +kernel
theorem fl_6_313 : cm_fl 6 313 = some (1, 3, 2, false) := by decide +kernel
theorem fl_3_31 : cm_fl 3 31 = some (3, 3, 3, true) := by decide +kernel
theorem fl_3_35 : cm_fl 3 35 = some (3, 3, 4, true) := by decide +kernel
theorem fl_3_38 : cm_fl 3 38 = some (3, 3, 5, true) := by decide +kernel
theorem fl_3_41 : cm_fl 3 41 = some (3, 3, 6, true) := by decide +kernel
theorem fl_3_45 : cm_fl 3 45 = some (3, 3, 7, true) := by decide +kernel
theorem fl_3_53 : cm_fl 3 53 = some (3, 3, 8, true) := by decide +kernel
theorem fl_3_57 : cm_fl 3 57 = some (1, 3, 9, false) := by decide +kernel
theorem fl_6_11 : cm_fl 6 11 = some (3, 6, 0, true) := by decide +kernel
theorem fl_6_15 : cm_fl 6 15 = some (3, 6, 1, true) := by decide +kernel
theorem fl_6_21 : cm_fl 6 21 = some (3, 6, 2, true) := by decide +kernel
theorem fl_6_25 : cm_fl 6 25 = some (3, 6, 3, true) := by decide +kernel
theorem fl_6_32 : cm_fl 6 32 = some (3, 6, 4, true) := by decide +kernel
theorem fl_6_39 : cm_fl 6 39 = some (3, 6, 5, true) := by decide +kernel
theorem fl_6_43 : cm_fl 6 43 = some (3, 6, 6, true) := by decide +kernel
theorem fl_6_49 : cm_fl 6 49 = some (3, 6, 7, true) := by decide +kernel
theorem fl_6_53 : cm_fl 6 53 = some (3, 6, 8, true) := by decide +kernel
theorem fl_6_56 : cm_fl 6 56 = some (0, 6, 9, false) := by decide +kernel
theorem fl_6_60 : cm_fl 6 60 = some (2, 6, 10, false) := by decide +kernel
theorem fl_6_64 : cm_fl 6 64 = some (2, 6, 11, false) := by decide +kernel
theorem fl_6_67 : cm_fl 6 67 = some (0, 6, 12, false) := by decide +kernel
theorem fl_6_70 : cm_fl 6 70 = some (3, 6, 13, true) := by decide +kernel
theorem fl_7_7 : cm_fl 7 7 = some (3, 7, 0, true) := by decide +kernel
theorem fl_7_155 : cm_fl 7 155 = some (0, 7, 1, false) := by decide +kernel
theorem fl_7_13 : cm_fl 7 13 = some (3, 7, 2, true) := by decide +kernel
theorem fl_7_16 : cm_fl 7 16 = some (3, 7, 3, true) := by decide +kernel
theorem fl_7_72 : cm_fl 7 72 = some (0, 7, 4, false) := by decide +kernel
theorem fl_7_76 : cm_fl 7 76 = some (0, 7, 5, false) := by decide +kernel
theorem fl_7_19 : cm_fl 7 19 = some (3, 7, 6, true) := by decide +kernel
theorem fl_7_299 : cm_fl 7 299 = some (2, 7, 7, false) := by decide +kernel
theorem fl_7_22 : cm_fl 7 22 = some (2, 7, 8, false) := by decide +kernel
theorem fl_7_26 : cm_fl 7 26 = some (3, 7, 9, true) := by decide +kernel
theorem fl_7_29 : cm_fl 7 29 = some (3, 7, 10, true) := by decide +kernel
theorem fl_7_32 : cm_fl 7 32 = some (3, 7, 11, true) := by decide +kernel
theorem fl_7_35 : cm_fl 7 35 = some (3, 7, 12, true) := by decide +kernel
theorem fl_7_38 : cm_fl 7 38 = some (3, 7, 13, true) := by decide +kernel
theorem fl_7_41 : cm_fl 7 41 = some (3, 7, 14, true) := by decide +kernel
theorem fl_7_44 : cm_fl 7 44 = some (3, 7, 15, true) := by decide +kernel
theorem fl_7_47 : cm_fl 7 47 = some (3, 7, 16, true) := by decide +kernel
theorem fl_7_50 : cm_fl 7 50 = some (3, 7, 17, true) := by decide +kernel
theorem fl_7_53 : cm_fl 7 53 = some (3, 7, 18, true) := by decide +kernel
theorem fl_7_56 : cm_fl 7 56 = some (3, 7, 19, true) := by decide +kernel
theorem fl_7_122 : cm_fl 7 122 = some (0, 7, 20, false) := by decide +kernel
theorem fl_7_119 : cm_fl 7 119 = some (0, 7, 21, false) := by decide +kernel
theorem fl_7_59 : cm_fl 7 59 = some (3, 7, 22, true) := by decide +kernel
theorem fl_7_189 : cm_fl 7 189 = some (0, 7, 23, false) := by decide +kernel
theorem fl_7_192 : cm_fl 7 192 = some (0, 7, 24, false) := by decide +kernel
theorem fl_7_62 : cm_fl 7 62 = some (3, 7, 25, true) := by decide +kernel
theorem fl_7_65 : cm_fl 7 65 = some (3, 7, 26, true) := by decide +kernel
theorem fl_7_68 : cm_fl 7 68 = some (3, 7, 27, true) := by decide +kernel
theorem fl_7_311 : cm_fl 7 311 = some (2, 7, 28, false) := by decide +kernel
theorem kl_8_7 : cm_kl 8 7 = some 6 := by decide +kernel
theorem kl_6_9 : cm_kl 6 9 = some 4 := by decide +kernel
theorem kl_6_18 : cm_kl 6 18 = some 0 := by decide +kernel
theorem kl_0_15 : cm_kl 0 15 = some 5 := by decide +kernel
theorem kl_5_9 : cm_kl 5 9 = some 4 := by decide +kernel
theorem kl_6_29 : cm_kl 6 29 = some 3 := by decide +kernel
theorem kl_3_9 : cm_kl 3 9 = some 2 := by decide +kernel
theorem kl_3_18 : cm_kl 3 18 = some 5 := by decide +kernel
theorem kl_3_28 : cm_kl 3 28 = some 1 := by decide +kernel
theorem kl_3_48 : cm_kl 3 48 = some 4 := by decide +kernel
theorem kl_6_36 : cm_kl 6 36 = some 5 := by decide +kernel
theorem kl_6_46 : cm_kl 6 46 = some 1 := by decide +kernel
theorem kl_8_10 : cm_kl 8 10 = some 7 := by decide +kernel
theorem ll_6_229 : cm_ll 6 229 = some (2147483647) := by decide +kernel
theorem ll_6_231 : cm_ll 6 231 = some (48271) := by decide +kernel
theorem ll_0_84 : cm_ll 0 84 = some (65536) := by decide +kernel
theorem ll_0_86 : cm_ll 0 86 = some (2) := by decide +kernel
theorem ll_6_265 : cm_ll 6 265 = some (65536) := by decide +kernel
theorem ll_6_267 : cm_ll 6 267 = some (2) := by decide +kernel
theorem ll_6_272 : cm_ll 6 272 = some (17) := by decide +kernel
theorem ll_6_274 : cm_ll 6 274 = some (31) := by decide +kernel
theorem ll_7_278 : cm_ll 7 278 = some (48271) := by decide +kernel
theorem ll_7_280 : cm_ll 7 280 = some (2147483647) := by decide +kernel
theorem ll_7_263 : cm_ll 7 263 = some (64) := by decide +kernel
theorem ll_7_265 : cm_ll 7 265 = some (4) := by decide +kernel
theorem ll_7_267 : cm_ll 7 267 = some (3) := by decide +kernel
theorem ll_7_269 : cm_ll 7 269 = some (16384) := by decide +kernel
theorem ll_7_271 : cm_ll 7 271 = some (1024) := by decide +kernel
theorem ll_7_273 : cm_ll 7 273 = some (10) := by decide +kernel
theorem ll_7_275 : cm_ll 7 275 = some (4096) := by decide +kernel
theorem ll_7_295 : cm_ll 7 295 = some (65536) := by decide +kernel
theorem ll_7_297 : cm_ll 7 297 = some (2) := by decide +kernel
theorem ll_7_317 : cm_ll 7 317 = some (17) := by decide +kernel
theorem ll_7_309 : cm_ll 7 309 = some (31) := by decide +kernel
theorem il_9_265 : cm_il2 9 265 = some (1431655765) := by decide +kernel
theorem il_9_266 : cm_il2 9 266 = some (858993459) := by decide +kernel
theorem il_9_267 : cm_il2 9 267 = some (252645135) := by decide +kernel
theorem il_7_277 : cm_il2 7 277 = some (2147483646) := by decide +kernel
def cm_flc (e : Nat × Nat × Nat × Nat × Bool × Nat) : Prop := lw_tbl[e.2.2.2.2.2]? = some (.fieldLink (cm_R (e.1 / 1000)) (e.1 % 1000) (cm_R e.2.2.1) (cm_TT e.2.2.1 e.2.2.2.1).2.1 (cm_TT e.2.2.1 e.2.2.2.1).2.2.1) ∧ e.2.2.1 < 8 ∧ e.2.2.2.1 < cm_nf e.2.2.1 ∧ e.2.1 = cm_tg (cm_ty e.2.2.1 e.2.2.2.1) ∧ e.2.2.2.2.1 = (cm_TT e.2.2.1 e.2.2.2.1).2.2.2 ∧ (cm_TT e.2.2.1 e.2.2.2.1).1 = cm_R e.2.2.1
def cm_flb (e : Nat × Nat × Nat × Nat × Bool × Nat) : Bool := decide (lw_tbl[e.2.2.2.2.2]? = some (.fieldLink (cm_R (e.1 / 1000)) (e.1 % 1000) (cm_R e.2.2.1) (cm_TT e.2.2.1 e.2.2.2.1).2.1 (cm_TT e.2.2.1 e.2.2.2.1).2.2.1)) && decide (e.2.2.1 < 8) && decide (e.2.2.2.1 < cm_nf e.2.2.1) && decide (e.2.1 = cm_tg (cm_ty e.2.2.1 e.2.2.2.1)) && decide (e.2.2.2.2.1 = (cm_TT e.2.2.1 e.2.2.2.1).2.2.2) && decide ((cm_TT e.2.2.1 e.2.2.2.1).1 = cm_R e.2.2.1)
theorem cm_flT_ok : cm_flT.all cm_flb = true := by decide +kernel
def cm_klb (e : Nat × Nat × Nat) : Bool := decide (lw_tbl[e.2.2]? = some (.classLink (cm_R (e.1 / 1000)) (e.1 % 1000) (cm_R e.2.1))) && decide (e.2.1 < 8)
theorem cm_klT_ok : cm_klT.all cm_klb = true := by decide +kernel
def cm_lcb (e : Nat × Int × Nat) : Bool := decide (lw_tbl[e.2.2]? = some (.constantLong (cm_R (e.1 / 1000)) (e.1 % 1000) (w6 e.2.1)))
theorem cm_lcT_ok : cm_lcT.all cm_lcb = true := by decide +kernel
def cm_icb (e : Nat × Int × Nat) : Bool := decide (lw_tbl[e.2.2]? = some (.constant (cm_R (e.1 / 1000)) (e.1 % 1000) (w3 e.2.1)))
theorem cm_icT_ok : cm_icT.all cm_icb = true := by decide +kernel
theorem cm_lkm {α : Type} {l : List (Nat × α)} {k : Nat} {v : α} (h : l.lookup k = some v) : (k, v) ∈ l := by
  induction l with
  | nil => simp at h
  | cons q l ih =>
    obtain ⟨a, b⟩ := q
    rw [List.lookup_cons] at h
    by_cases hk : k = a
    · subst hk
      simp at h
      subst h
      exact List.mem_cons_self
    · have e : (k == a) = false := by simp [hk]
      rw [e] at h
      exact List.mem_cons_of_mem _ (ih h)
theorem cm_key {o i : Nat} (h : i < 1000) : (o * 1000 + i) / 1000 = o ∧ (o * 1000 + i) % 1000 = i := by omega

theorem cm_fl_ok {o i tg ci k : Nat} {fin : Bool} (hi : i < 1000) (h : cm_fl o i = some (tg, ci, k, fin)) : Cond.fieldLink (cm_R o) i (cm_R ci) (cm_TT ci k).2.1 (cm_TT ci k).2.2.1 ∈ cm_tb ∧ ci < 8 ∧ k < cm_nf ci ∧ tg = cm_tg (cm_ty ci k) ∧ fin = (cm_TT ci k).2.2.2 ∧ (cm_TT ci k).1 = cm_R ci := by
  unfold cm_fl at h
  obtain ⟨q, h1, h2⟩ := Option.map_eq_some_iff.mp h
  obtain ⟨a, b, c, d, w⟩ := q
  cases h2
  have h3 := List.all_eq_true.mp cm_flT_ok _ (cm_lkm h1)
  obtain ⟨k1, k2⟩ := cm_key (o := o) hi
  simp only [cm_flb, Bool.and_eq_true, decide_eq_true_eq, k1, k2] at h3
  obtain ⟨⟨⟨⟨⟨g1, g2⟩, g3⟩, g4⟩, g5⟩, g6⟩ := h3
  exact ⟨cm_tbm (List.mem_of_getElem? g1) rfl, g2, g3, g4, g5, g6⟩
theorem cm_kl_ok {o i ci : Nat} (hi : i < 1000) (h : cm_kl o i = some ci) : Cond.classLink (cm_R o) i (cm_R ci) ∈ cm_tb ∧ ci < 8 := by
  unfold cm_kl at h
  obtain ⟨q, h1, h2⟩ := Option.map_eq_some_iff.mp h
  obtain ⟨a, b⟩ := q
  cases h2
  have h3 := List.all_eq_true.mp cm_klT_ok _ (cm_lkm h1)
  obtain ⟨k1, k2⟩ := cm_key (o := o) hi
  simp only [cm_klb, Bool.and_eq_true, decide_eq_true_eq, k1, k2] at h3
  exact ⟨cm_tbm (List.mem_of_getElem? h3.1) rfl, h3.2⟩
theorem cm_ll_ok {o i : Nat} {v : Int} (hi : i < 1000) (h : cm_ll o i = some v) : Cond.constantLong (cm_R o) i (w6 v) ∈ cm_tb := by
  unfold cm_ll at h
  obtain ⟨q, h1, h2⟩ := Option.map_eq_some_iff.mp h
  obtain ⟨a, b⟩ := q
  cases h2
  have h3 := List.all_eq_true.mp cm_lcT_ok _ (cm_lkm h1)
  obtain ⟨k1, k2⟩ := cm_key (o := o) hi
  simp only [cm_lcb, decide_eq_true_eq, k1, k2] at h3
  exact cm_tbm (List.mem_of_getElem? h3) rfl
theorem cm_il_ok {o i : Nat} {v : Int} (hi : i < 1000) (h : cm_il2 o i = some v) : Cond.constant (cm_R o) i (w3 v) ∈ cm_tb := by
  unfold cm_il2 at h
  obtain ⟨q, h1, h2⟩ := Option.map_eq_some_iff.mp h
  obtain ⟨a, b⟩ := q
  cases h2
  have h3 := List.all_eq_true.mp cm_icT_ok _ (cm_lkm h1)
  obtain ⟨k1, k2⟩ := cm_key (o := o) hi
  simp only [cm_icb, decide_eq_true_eq, k1, k2] at h3
  exact cm_tbm (List.mem_of_getElem? h3) rfl
def cm_lk2 : Fin 2 → Int64
  | 0 => w6 0
  | 1 => w6 1
def cm_gv (J : cm_J) (i : Nat) : Option cm_E := J.2.2.2.1.lookup i
def cm_gs (J : cm_J) (i : Nat) : Option cm_E := J.2.2.2.2.1.lookup i
def cm_gp (J : cm_J) (i : Nat) : Option cm_E := J.2.2.2.2.2.lookup i
def cm_gfl (J : cm_J) (o : Option (Nat × Nat × Nat × Bool)) (T : cm_T) (M : cm_M) (st : List Value) (κ : List Value → Prop) : Prop := match o with
  | some (tg, ci, k, _) => cm_gf tg ci k T M st κ
  | none => False
def cm_pfl (J : cm_J) (o : Option (Nat × Nat × Nat × Bool)) (T : cm_T) (M : cm_M) (st : List Value) (κ : List Value → cm_M → Prop) : Prop := match o with
  | some (tg, ci, k, false) => cm_pf tg ci k T M st κ
  | some (tg, ci, k, true) => (J.2.1 = true ∧ J.1 = ci) ∧ cm_pf tg ci k T M st κ
  | none => False
def cm_nw (o : Option Nat) (st : List Value) (B : Nat × Nat) (T : cm_T) (M : cm_M) (κ : List Value → Nat × Nat → cm_T → cm_M → Prop) : Prop := match o with
  | some ci => 1 ≤ B.1 ∧ cm_nf ci ≤ B.2 ∧ κ (.ref T.2.2 :: st) (B.1 - 1, B.2 - cm_nf ci) (cm_tn T (ci + 1) 0) (cm_zm M T.2.2)
  | none => False
def cm_an (o : Option Nat) (st : List Value) (B : Nat × Nat) (T : cm_T) (M : cm_M) (κ : List Value → Nat × Nat → cm_T → cm_M → Prop) : Prop := match o with
  | some ci => (ci = 0 ∨ ci = 4 ∨ ci = 5) ∧ cm_na (22 + ci) st B T M κ
  | none => False
def cm_stp (J : cm_J) (i : Instr) (ln pc : Nat) (lv : cm_LV) (st : List Value) (B : Nat × Nat) (T : cm_T) (M : cm_M) (κ : Nat → cm_LV → List Value → Nat × Nat → cm_T → cm_M → Prop) (ρ : Option Value → cm_T → cm_M → Prop) : Prop := match i with
  | .iconst v => κ (pc + ln) lv (.int (w3 v) :: st) B T M
  | .lconst n => κ (pc + ln) lv (.long (cm_lk2 n) :: st) B T M
  | .aconst_null => κ (pc + ln) lv (.null :: st) B T M
  | .ldc_w x => (match cm_il2 J.1 x with
    | some v => x < 1000 ∧ κ (pc + ln) lv (.int (w3 v) :: st) B T M
    | none => False)
  | .ldc2_w x => (match cm_ll J.1 x with
    | some v => x < 1000 ∧ κ (pc + ln) lv (.long (w6 v) :: st) B T M
    | none => False)
  | .iload k => cm_lo (cm_get lv k) st (fun st => κ (pc + ln) lv st B T M)
  | .aload k => cm_loa (cm_get lv k) st (fun st => κ (pc + ln) lv st B T M)
  | .lload k => cm_lol (cm_get lv k) st (fun st => κ (pc + ln) lv st B T M)
  | .istore k => cm_is lv k st (fun lv st => κ (pc + ln) lv st B T M)
  | .astore k => cm_rs lv k st (fun lv st => κ (pc + ln) lv st B T M)
  | .lstore k => cm_ls lv k st (fun lv st => κ (pc + ln) lv st B T M)
  | .iinc k n => cm_in lv k n (fun lv => κ (pc + ln) lv st B T M)
  | .iadd => cm_i2 (fun x y => x + y) st (fun st => κ (pc + ln) lv st B T M)
  | .isub => cm_i2 (fun x y => x - y) st (fun st => κ (pc + ln) lv st B T M)
  | .imul => cm_i2 (fun x y => x * y) st (fun st => κ (pc + ln) lv st B T M)
  | .iand => cm_i2 (fun x y => x &&& y) st (fun st => κ (pc + ln) lv st B T M)
  | .ior => cm_i2 (fun x y => x ||| y) st (fun st => κ (pc + ln) lv st B T M)
  | .ixor => cm_i2 (fun x y => x ^^^ y) st (fun st => κ (pc + ln) lv st B T M)
  | .ishl => cm_i2 (fun x y => x <<< (y &&& 31)) st (fun st => κ (pc + ln) lv st B T M)
  | .ishr => cm_i2 (fun x y => x >>> (y &&& 31)) st (fun st => κ (pc + ln) lv st B T M)
  | .idiv => cm_id (fun x y => x / y) st (fun st => κ (pc + ln) lv st B T M)
  | .irem => cm_id (fun x y => x - x / y * y) st (fun st => κ (pc + ln) lv st B T M)
  | .ladd => cm_l2 (fun x y => x + y) st (fun st => κ (pc + ln) lv st B T M)
  | .lmul => cm_l2 (fun x y => x * y) st (fun st => κ (pc + ln) lv st B T M)
  | .ldiv => cm_ld (fun x y => x / y) st (fun st => κ (pc + ln) lv st B T M)
  | .lrem => cm_ld (fun x y => x - x / y * y) st (fun st => κ (pc + ln) lv st B T M)
  | .i2l => cm_il (fun x => x.toInt64) st (fun st => κ (pc + ln) lv st B T M)
  | .l2i => cm_li (fun x => x.toInt32) st (fun st => κ (pc + ln) lv st B T M)
  | .i2b => cm_ii (fun x => x.toInt8.toInt32) st (fun st => κ (pc + ln) lv st B T M)
  | .lcmp => cm_lc st (fun st => κ (pc + ln) lv st B T M)
  | .dup => cm_d1 st (fun st => κ (pc + ln) lv st B T M)
  | .dup2 => cm_d2 st (fun st => κ (pc + ln) lv st B T M)
  | .pop => cm_po st (fun st => κ (pc + ln) lv st B T M)
  | .goto o => κ o.toNat lv st B T M
  | .ifCond c o => cm_i1 c st (fun st => κ o.toNat lv st B T M) (fun st => κ (pc + ln) lv st B T M)
  | .if_icmp c o => cm_ic c st (fun st => κ o.toNat lv st B T M) (fun st => κ (pc + ln) lv st B T M)
  | .ifnull o => cm_nu st (fun st => κ o.toNat lv st B T M) (fun st => κ (pc + ln) lv st B T M)
  | .ifnonnull o => cm_nu st (fun st => κ (pc + ln) lv st B T M) (fun st => κ o.toNat lv st B T M)
  | .tableswitch d lo hi os => cm_sw st (fun x st => cm_if (x < lo ∨ hi < x) (κ d.toNat lv st B T M) (cm_tsw os.toList lo x (fun t => κ t lv st B T M)))
  | .lookupswitch d ps => cm_sw st (fun x st => cm_lsw ps.toList d x (fun t => κ t lv st B T M))
  | .arraylength => cm_al T st (fun st => κ (pc + ln) lv st B T M)
  | .iaload => cm_ia T M st (fun st => κ (pc + ln) lv st B T M)
  | .laload => cm_la T M st (fun st => κ (pc + ln) lv st B T M)
  | .aaload => cm_aa T M st (fun st => κ (pc + ln) lv st B T M)
  | .iastore => cm_ib T M st (fun st M => κ (pc + ln) lv st B T M)
  | .lastore => cm_lb T M st (fun st M => κ (pc + ln) lv st B T M)
  | .aastore => cm_ab T M st (fun st M => κ (pc + ln) lv st B T M)
  | .getfield x => x < 1000 ∧ cm_gfl J (cm_fl J.1 x) T M st (fun st => κ (pc + ln) lv st B T M)
  | .putfield x => x < 1000 ∧ cm_pfl J (cm_fl J.1 x) T M st (fun st M => κ (pc + ln) lv st B T M)
  | .new x => x < 1000 ∧ cm_nw (cm_kl J.1 x) st B T M (fun st B T M => κ (pc + ln) lv st B T M)
  | .newarray .int => cm_na 20 st B T M (fun st B T M => κ (pc + ln) lv st B T M)
  | .newarray .long => cm_na 21 st B T M (fun st B T M => κ (pc + ln) lv st B T M)
  | .anewarray x => x < 1000 ∧ cm_an (cm_kl J.1 x) st B T M (fun st B T M => κ (pc + ln) lv st B T M)
  | .invokevirtual x => cm_ca (cm_gv J x) st B T M (fun st B T M => κ (pc + ln) lv st B T M)
  | .invokestatic x => cm_ca (cm_gs J x) st B T M (fun st B T M => κ (pc + ln) lv st B T M)
  | .invokespecial x => cm_ca (cm_gp J x) st B T M (fun st B T M => κ (pc + ln) lv st B T M)
  | .ireturn => (J.2.2.1 = 1 ∨ J.2.2.1 = 2) ∧ cm_re J.2.2.1 st (fun v => ρ v T M)
  | .lreturn => J.2.2.1 = 3 ∧ cm_re J.2.2.1 st (fun v => ρ v T M)
  | .areturn => J.2.2.1 = 4 ∧ cm_re J.2.2.1 st (fun v => ρ v T M)
  | .return_ => J.2.2.1 = 0 ∧ cm_re J.2.2.1 st (fun v => ρ v T M)
  | .iushr => cm_i2 (fun x y => (x.toUInt32 >>> (y.toUInt32 &&& Int32.toUInt32 31)).toInt32) st (fun st => κ (pc + ln) lv st B T M)
  | _ => False
def cm_wp (J : cm_J) (C : Nat → Option (Instr × Nat)) (ρ : Option Value → cm_T → cm_M → Prop) (κ : Nat → cm_LV → List Value → Nat × Nat → cm_T → cm_M → Prop) : Nat → Nat → cm_LV → List Value → Nat × Nat → cm_T → cm_M → Prop
  | 0, pc, lv, st, B, T, M => κ pc lv st B T M
  | n + 1, pc, lv, st, B, T, M => match C pc with
    | none => κ pc lv st B T M
    | some (i, ln) => cm_stp J i ln pc lv st B T M (cm_wp J C ρ κ n) ρ

