def JL : cm_J := (8, false, 2, [(13, 3, 7, 0, 0, SX6_row), (17, 3, 8, 0, 0, SX7_row), (18, 4, 7, 0, 0, SX6_lay), (22, 4, 8, 0, 0, SX7_lay), (23, 3, 7, 0, 0, SX6_at), (26, 3, 8, 0, 0, SX7_at), (27, 2, 7, 0, 0, SX6_tear), (31, 2, 8, 0, 0, SX7_tear), (32, 6, 7, 0, 0, SX6_copy), (36, 6, 8, 0, 0, SX7_copy), (37, 2, 7, 0, 0, SX6_mean), (40, 2, 8, 0, 0, SX7_mean), (41, 3, 7, 0, 0, SX6_text), (44, 3, 8, 0, 0, SX7_text), (45, 4, 7, 0, 0, SX6_put), (48, 4, 8, 0, 0, SX7_put), (49, 2, 7, 0, 0, SX6_fault), (52, 2, 8, 0, 0, SX7_fault), (53, 2, 7, 0, 0, SX6_book), (56, 2, 8, 0, 0, SX7_book), (57, 3, 7, 0, 0, SX6_version), (60, 3, 8, 0, 0, SX7_version), (61, 3, 7, 0, 0, SX6_mark), (64, 3, 8, 0, 0, SX7_mark), (65, 4, 7, 0, 0, SX6_file), (68, 4, 8, 0, 0, SX7_file), (69, 3, 7, 0, 0, SX6_lines), (72, 3, 8, 0, 0, SX7_lines), (73, 2, 7, 0, 0, SX6_ancestors), (76, 2, 8, 0, 0, SX7_ancestors), (77, 3, 7, 0, 0, SX6_nearest), (80, 3, 8, 0, 0, SX7_nearest), (81, 5, 7, 0, 0, SX6_common), (85, 5, 8, 0, 0, SX7_common), (86, 3, 7, 0, 0, SX6_would), (89, 3, 8, 0, 0, SX7_would), (90, 3, 7, 0, 0, SX6_mirrored), (93, 3, 8, 0, 0, SX7_mirrored), (94, 4, 7, 0, 0, SX6_change), (97, 4, 8, 0, 0, SX7_change), (98, 3, 7, 0, 0, SX6_drop), (101, 3, 8, 0, 0, SX7_drop), (102, 4, 7, 0, 0, SX6_settle), (105, 4, 8, 0, 0, SX7_settle), (106, 3, 7, 0, 0, SX6_merge), (109, 3, 8, 0, 0, SX7_merge), (110, 2, 7, 0, 0, SX6_undo), (113, 2, 8, 0, 0, SX7_undo), (114, 2, 7, 134, 3142, SX6_keep), (117, 2, 8, 0, 0, SX7_keep), (118, 2, 7, 0, 0, SX6_on), (121, 2, 8, 0, 0, SX7_on), (122, 3, 7, 0, 0, SX6_lots), (125, 3, 8, 0, 0, SX7_lots), (126, 2, 7, 0, 0, SX6_unlike), (129, 2, 8, 0, 0, SX7_unlike), (130, 3, 7, 0, 0, SX6_shared), (133, 3, 8, 0, 0, SX7_shared), (134, 4, 7, 0, 0, SX6_often), (137, 4, 8, 0, 0, SX7_often), (138, 4, 7, 0, 0, SX6_from), (141, 4, 8, 0, 0, SX7_from), (142, 3, 7, 0, 0, SX6_apart), (145, 3, 8, 0, 0, SX7_apart), (146, 2, 7, 0, 0, SX6_ways), (149, 2, 8, 0, 0, SX7_ways), (150, 3, 7, 0, 0, SX6_odds), (153, 3, 8, 0, 0, SX7_odds), (154, 1, 7, 0, 0, SX6_asked), (158, 1, 8, 0, 0, SX7_asked), (159, 1, 7, 0, 0, SX6_upper), (163, 1, 8, 0, 0, SX7_upper), (164, 1, 7, 0, 0, SX6_lower), (167, 1, 8, 0, 0, SX7_lower), (168, 2, 7, 0, 0, SX6_count), (171, 2, 8, 0, 0, SX7_count), (172, 1, 7, 0, 0, SX6_finding), (175, 1, 8, 0, 0, SX7_finding), (176, 2, 7, 0, 0, SX6_findings), (179, 2, 8, 0, 0, SX7_findings), (180, 1, 7, 0, 0, SX6_digest), (183, 1, 8, 0, 0, SX7_digest)], [], [(9, 1, 7, 325, 10289, SX6_init), (12, 1, 8, 19, 25972, SX7_init)])
theorem jL0 : JL.1 = 8 ∧ JL.2.1 = false ∧ JL.2.2.1 = 2 := ⟨rfl, rfl, rfl⟩
theorem jL_13 : cm_gv JL 13 = some (3, 7, 0, 0, SX6_row) := rfl
theorem jL_17 : cm_gv JL 17 = some (3, 8, 0, 0, SX7_row) := rfl
theorem jL_18 : cm_gv JL 18 = some (4, 7, 0, 0, SX6_lay) := rfl
theorem jL_22 : cm_gv JL 22 = some (4, 8, 0, 0, SX7_lay) := rfl
theorem jL_23 : cm_gv JL 23 = some (3, 7, 0, 0, SX6_at) := rfl
theorem jL_26 : cm_gv JL 26 = some (3, 8, 0, 0, SX7_at) := rfl
theorem jL_27 : cm_gv JL 27 = some (2, 7, 0, 0, SX6_tear) := rfl
theorem jL_31 : cm_gv JL 31 = some (2, 8, 0, 0, SX7_tear) := rfl
theorem jL_32 : cm_gv JL 32 = some (6, 7, 0, 0, SX6_copy) := rfl
theorem jL_36 : cm_gv JL 36 = some (6, 8, 0, 0, SX7_copy) := rfl
theorem jL_37 : cm_gv JL 37 = some (2, 7, 0, 0, SX6_mean) := rfl
theorem jL_40 : cm_gv JL 40 = some (2, 8, 0, 0, SX7_mean) := rfl
theorem jL_41 : cm_gv JL 41 = some (3, 7, 0, 0, SX6_text) := rfl
theorem jL_44 : cm_gv JL 44 = some (3, 8, 0, 0, SX7_text) := rfl
theorem jL_45 : cm_gv JL 45 = some (4, 7, 0, 0, SX6_put) := rfl
theorem jL_48 : cm_gv JL 48 = some (4, 8, 0, 0, SX7_put) := rfl
theorem jL_49 : cm_gv JL 49 = some (2, 7, 0, 0, SX6_fault) := rfl
theorem jL_52 : cm_gv JL 52 = some (2, 8, 0, 0, SX7_fault) := rfl
theorem jL_53 : cm_gv JL 53 = some (2, 7, 0, 0, SX6_book) := rfl
theorem jL_56 : cm_gv JL 56 = some (2, 8, 0, 0, SX7_book) := rfl
theorem jL_57 : cm_gv JL 57 = some (3, 7, 0, 0, SX6_version) := rfl
theorem jL_60 : cm_gv JL 60 = some (3, 8, 0, 0, SX7_version) := rfl
theorem jL_61 : cm_gv JL 61 = some (3, 7, 0, 0, SX6_mark) := rfl
theorem jL_64 : cm_gv JL 64 = some (3, 8, 0, 0, SX7_mark) := rfl
theorem jL_65 : cm_gv JL 65 = some (4, 7, 0, 0, SX6_file) := rfl
theorem jL_68 : cm_gv JL 68 = some (4, 8, 0, 0, SX7_file) := rfl
theorem jL_69 : cm_gv JL 69 = some (3, 7, 0, 0, SX6_lines) := rfl
theorem jL_72 : cm_gv JL 72 = some (3, 8, 0, 0, SX7_lines) := rfl
theorem jL_73 : cm_gv JL 73 = some (2, 7, 0, 0, SX6_ancestors) := rfl
theorem jL_76 : cm_gv JL 76 = some (2, 8, 0, 0, SX7_ancestors) := rfl
theorem jL_77 : cm_gv JL 77 = some (3, 7, 0, 0, SX6_nearest) := rfl
theorem jL_80 : cm_gv JL 80 = some (3, 8, 0, 0, SX7_nearest) := rfl
theorem jL_81 : cm_gv JL 81 = some (5, 7, 0, 0, SX6_common) := rfl
theorem jL_85 : cm_gv JL 85 = some (5, 8, 0, 0, SX7_common) := rfl
theorem jL_86 : cm_gv JL 86 = some (3, 7, 0, 0, SX6_would) := rfl
theorem jL_89 : cm_gv JL 89 = some (3, 8, 0, 0, SX7_would) := rfl
theorem jL_90 : cm_gv JL 90 = some (3, 7, 0, 0, SX6_mirrored) := rfl
theorem jL_93 : cm_gv JL 93 = some (3, 8, 0, 0, SX7_mirrored) := rfl
theorem jL_94 : cm_gv JL 94 = some (4, 7, 0, 0, SX6_change) := rfl
theorem jL_97 : cm_gv JL 97 = some (4, 8, 0, 0, SX7_change) := rfl
theorem jL_98 : cm_gv JL 98 = some (3, 7, 0, 0, SX6_drop) := rfl
theorem jL_101 : cm_gv JL 101 = some (3, 8, 0, 0, SX7_drop) := rfl
theorem jL_102 : cm_gv JL 102 = some (4, 7, 0, 0, SX6_settle) := rfl
theorem jL_105 : cm_gv JL 105 = some (4, 8, 0, 0, SX7_settle) := rfl
theorem jL_106 : cm_gv JL 106 = some (3, 7, 0, 0, SX6_merge) := rfl
theorem jL_109 : cm_gv JL 109 = some (3, 8, 0, 0, SX7_merge) := rfl
theorem jL_110 : cm_gv JL 110 = some (2, 7, 0, 0, SX6_undo) := rfl
theorem jL_113 : cm_gv JL 113 = some (2, 8, 0, 0, SX7_undo) := rfl
theorem jL_114 : cm_gv JL 114 = some (2, 7, 134, 3142, SX6_keep) := rfl
theorem jL_117 : cm_gv JL 117 = some (2, 8, 0, 0, SX7_keep) := rfl
theorem jL_118 : cm_gv JL 118 = some (2, 7, 0, 0, SX6_on) := rfl
theorem jL_121 : cm_gv JL 121 = some (2, 8, 0, 0, SX7_on) := rfl
theorem jL_122 : cm_gv JL 122 = some (3, 7, 0, 0, SX6_lots) := rfl
theorem jL_125 : cm_gv JL 125 = some (3, 8, 0, 0, SX7_lots) := rfl
theorem jL_126 : cm_gv JL 126 = some (2, 7, 0, 0, SX6_unlike) := rfl
theorem jL_129 : cm_gv JL 129 = some (2, 8, 0, 0, SX7_unlike) := rfl
theorem jL_130 : cm_gv JL 130 = some (3, 7, 0, 0, SX6_shared) := rfl
theorem jL_133 : cm_gv JL 133 = some (3, 8, 0, 0, SX7_shared) := rfl
theorem jL_134 : cm_gv JL 134 = some (4, 7, 0, 0, SX6_often) := rfl
theorem jL_137 : cm_gv JL 137 = some (4, 8, 0, 0, SX7_often) := rfl
theorem jL_138 : cm_gv JL 138 = some (4, 7, 0, 0, SX6_from) := rfl
theorem jL_141 : cm_gv JL 141 = some (4, 8, 0, 0, SX7_from) := rfl
theorem jL_142 : cm_gv JL 142 = some (3, 7, 0, 0, SX6_apart) := rfl
theorem jL_145 : cm_gv JL 145 = some (3, 8, 0, 0, SX7_apart) := rfl
theorem jL_146 : cm_gv JL 146 = some (2, 7, 0, 0, SX6_ways) := rfl
theorem jL_149 : cm_gv JL 149 = some (2, 8, 0, 0, SX7_ways) := rfl
theorem jL_150 : cm_gv JL 150 = some (3, 7, 0, 0, SX6_odds) := rfl
theorem jL_153 : cm_gv JL 153 = some (3, 8, 0, 0, SX7_odds) := rfl
theorem jL_154 : cm_gv JL 154 = some (1, 7, 0, 0, SX6_asked) := rfl
theorem jL_158 : cm_gv JL 158 = some (1, 8, 0, 0, SX7_asked) := rfl
theorem jL_159 : cm_gv JL 159 = some (1, 7, 0, 0, SX6_upper) := rfl
theorem jL_163 : cm_gv JL 163 = some (1, 8, 0, 0, SX7_upper) := rfl
theorem jL_164 : cm_gv JL 164 = some (1, 7, 0, 0, SX6_lower) := rfl
theorem jL_167 : cm_gv JL 167 = some (1, 8, 0, 0, SX7_lower) := rfl
theorem jL_168 : cm_gv JL 168 = some (2, 7, 0, 0, SX6_count) := rfl
theorem jL_171 : cm_gv JL 171 = some (2, 8, 0, 0, SX7_count) := rfl
theorem jL_172 : cm_gv JL 172 = some (1, 7, 0, 0, SX6_finding) := rfl
theorem jL_175 : cm_gv JL 175 = some (1, 8, 0, 0, SX7_finding) := rfl
theorem jL_176 : cm_gv JL 176 = some (2, 7, 0, 0, SX6_findings) := rfl
theorem jL_179 : cm_gv JL 179 = some (2, 8, 0, 0, SX7_findings) := rfl
theorem jL_180 : cm_gv JL 180 = some (1, 7, 0, 0, SX6_digest) := rfl
theorem jL_183 : cm_gv JL 183 = some (1, 8, 0, 0, SX7_digest) := rfl
theorem jL_9 : cm_gp JL 9 = some (1, 7, 325, 10289, SX6_init) := rfl
theorem jL_12 : cm_gp JL 12 = some (1, 8, 19, 25972, SX7_init) := rfl
set_option maxRecDepth 100000 in
set_option maxHeartbeats 4000000 in
theorem eL (d : Nat) (hd : 40 ≤ d) : cm_Cok d JL := ⟨(List.forall_mem_cons.mpr ⟨q8_13 (mX6_row (d - 1) (by omega)) (by omega), (List.forall_mem_cons.mpr ⟨q8_17 (mX7_row (d - 1) (by omega)) (by omega), (List.forall_mem_cons.mpr ⟨q8_18 (mX6_lay (d - 1) (by omega)) (by omega), (List.forall_mem_cons.mpr ⟨q8_22 (mX7_lay (d - 1) (by omega)) (by omega), (List.forall_mem_cons.mpr ⟨q8_23 (mX6_at (d - 1) (by omega)) (by omega), (List.forall_mem_cons.mpr ⟨q8_26 (mX7_at (d - 1) (by omega)) (by omega), (List.forall_mem_cons.mpr ⟨q8_27 (mX6_tear (d - 1) (by omega)) (by omega), (List.forall_mem_cons.mpr ⟨q8_31 (mX7_tear (d - 1) (by omega)) (by omega), (List.forall_mem_cons.mpr ⟨q8_32 (mX6_copy (d - 1) (by omega)) (by omega), (List.forall_mem_cons.mpr ⟨q8_36 (mX7_copy (d - 1) (by omega)) (by omega), (List.forall_mem_cons.mpr ⟨q8_37 (mX6_mean (d - 1) (by omega)) (by omega), (List.forall_mem_cons.mpr ⟨q8_40 (mX7_mean (d - 1) (by omega)) (by omega), (List.forall_mem_cons.mpr ⟨q8_41 (mX6_text (d - 1) (by omega)) (by omega), (List.forall_mem_cons.mpr ⟨q8_44 (mX7_text (d - 1) (by omega)) (by omega), (List.forall_mem_cons.mpr ⟨q8_45 (mX6_put (d - 1) (by omega)) (by omega), (List.forall_mem_cons.mpr ⟨q8_48 (mX7_put (d - 1) (by omega)) (by omega), (List.forall_mem_cons.mpr ⟨q8_49 (mX6_fault (d - 1) (by omega)) (by omega), (List.forall_mem_cons.mpr ⟨q8_52 (mX7_fault (d - 1) (by omega)) (by omega), (List.forall_mem_cons.mpr ⟨q8_53 (mX6_book (d - 1) (by omega)) (by omega), (List.forall_mem_cons.mpr ⟨q8_56 (mX7_book (d - 1) (by omega)) (by omega), (List.forall_mem_cons.mpr ⟨q8_57 (mX6_version (d - 1) (by omega)) (by omega), (List.forall_mem_cons.mpr ⟨q8_60 (mX7_version (d - 1) (by omega)) (by omega), (List.forall_mem_cons.mpr ⟨q8_61 (mX6_mark (d - 1) (by omega)) (by omega), (List.forall_mem_cons.mpr ⟨q8_64 (mX7_mark (d - 1) (by omega)) (by omega), (List.forall_mem_cons.mpr ⟨q8_65 (mX6_file (d - 1) (by omega)) (by omega), (List.forall_mem_cons.mpr ⟨q8_68 (mX7_file (d - 1) (by omega)) (by omega), (List.forall_mem_cons.mpr ⟨q8_69 (mX6_lines (d - 1) (by omega)) (by omega), (List.forall_mem_cons.mpr ⟨q8_72 (mX7_lines (d - 1) (by omega)) (by omega), (List.forall_mem_cons.mpr ⟨q8_73 (mX6_ancestors (d - 1) (by omega)) (by omega), (List.forall_mem_cons.mpr ⟨q8_76 (mX7_ancestors (d - 1) (by omega)) (by omega), (List.forall_mem_cons.mpr ⟨q8_77 (mX6_nearest (d - 1) (by omega)) (by omega), (List.forall_mem_cons.mpr ⟨q8_80 (mX7_nearest (d - 1) (by omega)) (by omega), (List.forall_mem_cons.mpr ⟨q8_81 (mX6_common (d - 1) (by omega)) (by omega), (List.forall_mem_cons.mpr ⟨q8_85 (mX7_common (d - 1) (by omega)) (by omega), (List.forall_mem_cons.mpr ⟨q8_86 (mX6_would (d - 1) (by omega)) (by omega), (List.forall_mem_cons.mpr ⟨q8_89 (mX7_would (d - 1) (by omega)) (by omega), (List.forall_mem_cons.mpr ⟨q8_90 (mX6_mirrored (d - 1) (by omega)) (by omega), (List.forall_mem_cons.mpr ⟨q8_93 (mX7_mirrored (d - 1) (by omega)) (by omega), (List.forall_mem_cons.mpr ⟨q8_94 (mX6_change (d - 1) (by omega)) (by omega), (List.forall_mem_cons.mpr ⟨q8_97 (mX7_change (d - 1) (by omega)) (by omega), (List.forall_mem_cons.mpr ⟨q8_98 (mX6_drop (d - 1) (by omega)) (by omega), (List.forall_mem_cons.mpr ⟨q8_101 (mX7_drop (d - 1) (by omega)) (by omega), (List.forall_mem_cons.mpr ⟨q8_102 (mX6_settle (d - 1) (by omega)) (by omega), (List.forall_mem_cons.mpr ⟨q8_105 (mX7_settle (d - 1) (by omega)) (by omega), (List.forall_mem_cons.mpr ⟨q8_106 (mX6_merge (d - 1) (by omega)) (by omega), (List.forall_mem_cons.mpr ⟨q8_109 (mX7_merge (d - 1) (by omega)) (by omega), (List.forall_mem_cons.mpr ⟨q8_110 (mX6_undo (d - 1) (by omega)) (by omega), (List.forall_mem_cons.mpr ⟨q8_113 (mX7_undo (d - 1) (by omega)) (by omega), (List.forall_mem_cons.mpr ⟨q8_114 (mX6_keep (d - 1) (by omega)) (by omega), (List.forall_mem_cons.mpr ⟨q8_117 (mX7_keep (d - 1) (by omega)) (by omega), (List.forall_mem_cons.mpr ⟨q8_118 (mX6_on (d - 1) (by omega)) (by omega), (List.forall_mem_cons.mpr ⟨q8_121 (mX7_on (d - 1) (by omega)) (by omega), (List.forall_mem_cons.mpr ⟨q8_122 (mX6_lots (d - 1) (by omega)) (by omega), (List.forall_mem_cons.mpr ⟨q8_125 (mX7_lots (d - 1) (by omega)) (by omega), (List.forall_mem_cons.mpr ⟨q8_126 (mX6_unlike (d - 1) (by omega)) (by omega), (List.forall_mem_cons.mpr ⟨q8_129 (mX7_unlike (d - 1) (by omega)) (by omega), (List.forall_mem_cons.mpr ⟨q8_130 (mX6_shared (d - 1) (by omega)) (by omega), (List.forall_mem_cons.mpr ⟨q8_133 (mX7_shared (d - 1) (by omega)) (by omega), (List.forall_mem_cons.mpr ⟨q8_134 (mX6_often (d - 1) (by omega)) (by omega), (List.forall_mem_cons.mpr ⟨q8_137 (mX7_often (d - 1) (by omega)) (by omega), (List.forall_mem_cons.mpr ⟨q8_138 (mX6_from (d - 1) (by omega)) (by omega), (List.forall_mem_cons.mpr ⟨q8_141 (mX7_from (d - 1) (by omega)) (by omega), (List.forall_mem_cons.mpr ⟨q8_142 (mX6_apart (d - 1) (by omega)) (by omega), (List.forall_mem_cons.mpr ⟨q8_145 (mX7_apart (d - 1) (by omega)) (by omega), (List.forall_mem_cons.mpr ⟨q8_146 (mX6_ways (d - 1) (by omega)) (by omega), (List.forall_mem_cons.mpr ⟨q8_149 (mX7_ways (d - 1) (by omega)) (by omega), (List.forall_mem_cons.mpr ⟨q8_150 (mX6_odds (d - 1) (by omega)) (by omega), (List.forall_mem_cons.mpr ⟨q8_153 (mX7_odds (d - 1) (by omega)) (by omega), (List.forall_mem_cons.mpr ⟨q8_154 (mX6_asked (d - 1) (by omega)) (by omega), (List.forall_mem_cons.mpr ⟨q8_158 (mX7_asked (d - 1) (by omega)) (by omega), (List.forall_mem_cons.mpr ⟨q8_159 (mX6_upper (d - 1) (by omega)) (by omega), (List.forall_mem_cons.mpr ⟨q8_163 (mX7_upper (d - 1) (by omega)) (by omega), (List.forall_mem_cons.mpr ⟨q8_164 (mX6_lower (d - 1) (by omega)) (by omega), (List.forall_mem_cons.mpr ⟨q8_167 (mX7_lower (d - 1) (by omega)) (by omega), (List.forall_mem_cons.mpr ⟨q8_168 (mX6_count (d - 1) (by omega)) (by omega), (List.forall_mem_cons.mpr ⟨q8_171 (mX7_count (d - 1) (by omega)) (by omega), (List.forall_mem_cons.mpr ⟨q8_172 (mX6_finding (d - 1) (by omega)) (by omega), (List.forall_mem_cons.mpr ⟨q8_175 (mX7_finding (d - 1) (by omega)) (by omega), (List.forall_mem_cons.mpr ⟨q8_176 (mX6_findings (d - 1) (by omega)) (by omega), (List.forall_mem_cons.mpr ⟨q8_179 (mX7_findings (d - 1) (by omega)) (by omega), (List.forall_mem_cons.mpr ⟨q8_180 (mX6_digest (d - 1) (by omega)) (by omega), (List.forall_mem_cons.mpr ⟨q8_183 (mX7_digest (d - 1) (by omega)) (by omega), (fun q h => by cases h)⟩)⟩)⟩)⟩)⟩)⟩)⟩)⟩)⟩)⟩)⟩)⟩)⟩)⟩)⟩)⟩)⟩)⟩)⟩)⟩)⟩)⟩)⟩)⟩)⟩)⟩)⟩)⟩)⟩)⟩)⟩)⟩)⟩)⟩)⟩)⟩)⟩)⟩)⟩)⟩)⟩)⟩)⟩)⟩)⟩)⟩)⟩)⟩)⟩)⟩)⟩)⟩)⟩)⟩)⟩)⟩)⟩)⟩)⟩)⟩)⟩)⟩)⟩)⟩)⟩)⟩)⟩)⟩)⟩)⟩)⟩)⟩)⟩)⟩)⟩)⟩)⟩)⟩)⟩)⟩)⟩)⟩), (fun q h => by cases h), (List.forall_mem_cons.mpr ⟨q8_9 (mX6_init (d - 1) (by omega)) (by omega), (List.forall_mem_cons.mpr ⟨q8_12 (mX7_init (d - 1) (by omega)) (by omega), (fun q h => by cases h)⟩)⟩)⟩
/-- the script, the class and the reference beside each other, in the same state -/
def LI (T : cm_T) (M : cm_M) (b x m L N : Nat) : Prop := T.1 b = 40 ∧ T.2.1 b = N ∧ b < x ∧ x + 326 ≤ m ∧ m + 20 ≤ L ∧ CMG T M x L ∧ MD T M m ∧ cst M x = mst M m
theorem LI.two {T : cm_T} {M M1 M2 : cm_M} {b x m L N : Nat} (hI : LI T M b x m L N) (G : CMG T M1 x L) (F2 : FrM M1 M2 m) (D2 : MD T M2 m) (e : cst M1 x = mst M2 m) : LI T M2 b x m L N := by
  obtain ⟨i1, i2, i3, i4, i5, hC, hD, he⟩ := hI
  obtain ⟨c1, c2⟩ := F2.cm i4 i5 G
  exact ⟨i1, i2, i3, i4, i5, c1, D2, c2.trans e⟩
theorem lg_same (x : Int64) : (lg_cmp x x = 0) = True := by
  refine eq_true ?_
  have h1 := (lg_cmp_le x x).mpr (Int64.le_refl x)
  have h2 := (lg_cmp_ge x x).mpr (Int64.le_refl x)
  exact Int32.le_antisymm h1 h2
theorem fcnt_st (s : St) (k : Int) : (fCnt s k).2 = s := by
  unfold fCnt
  split <;> rfl
