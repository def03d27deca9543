/-! ===== the law's cases, its loop ===== -/
section Law2
variable {Z : Zt} {p : Program} {e : Env} {s : State} {m : MethodId} {below : List Frame} {meth : Method} {c : Code} {b L : Nat} {xs : Nat → Int32} {S : Sh} {μ : Mi} {ρ : Mr} {i : Nat}
theorem LwI_S (h : LwI S μ ρ) : S.2 1 = (11, 11) ∧ S.2 2737 = (12, 27) := by
  obtain ⟨u, z, h⟩ := h
  exact ⟨h.1.1.1, h.2.2.2.2.1.1.1⟩
theorem lc_begin (C : LwC Z p s m meth c b L xs) (hi : i + 5 < L) (h : LwI S μ ρ) (k : ∀ μ' ρ', LwI S μ' ρ' → LwG Z p e s m b below meth c 1513 i [] S μ' ρ') : LwG Z p e s m b below meth c 228 i [] S μ ρ :=
  l_case C (n := 1) (idx1 := 13) (idx2 := 17) (off := 1267) (j1 := jX11_begin) (j2 := jX12_begin) (by decide) hi (by decide +kernel) ⟨rfl, by decide +kernel, rfl, w_3_28, w_3_29, w_3_30, w_1_1, w_3_31⟩ ⟨rfl, by decide +kernel, rfl, w_6_170, w_6_171, w_6_172, w_1_13, w_6_173⟩ (LwI_S h).1 (LwI_S h).2 (cs_begin h) k
theorem lc_careful (C : LwC Z p s m meth c b L xs) (hi : i + 5 < L) (h : LwI S μ ρ) (k : ∀ μ' ρ', LwI S μ' ρ' → LwG Z p e s m b below meth c 1513 i [] S μ' ρ') : LwG Z p e s m b below meth c 251 i [] S μ ρ :=
  l_case C (n := 1) (idx1 := 18) (idx2 := 21) (off := 1244) (j1 := jX11_careful) (j2 := jX12_careful) (by decide) hi (by decide +kernel) ⟨rfl, by decide +kernel, rfl, w_3_86, w_3_87, w_3_88, w_1_1, w_3_89⟩ ⟨rfl, by decide +kernel, rfl, w_6_192, w_6_193, w_6_194, w_1_13, w_6_195⟩ (LwI_S h).1 (LwI_S h).2 (cs_careful h) k
theorem lc_timeout (C : LwC Z p s m meth c b L xs) (hi : i + 5 < L) (h : LwI S μ ρ) (k : ∀ μ' ρ', LwI S μ' ρ' → LwG Z p e s m b below meth c 1513 i [] S μ' ρ') : LwG Z p e s m b below meth c 274 i [] S μ ρ :=
  l_case C (n := 1) (idx1 := 22) (idx2 := 25) (off := 1221) (j1 := jX11_timeout) (j2 := jX12_timeout) (by decide) hi (by decide +kernel) ⟨rfl, by decide +kernel, rfl, w_3_94, w_3_95, w_3_96, w_1_1, w_3_97⟩ ⟨rfl, by decide +kernel, rfl, w_6_200, w_6_201, w_6_202, w_1_13, w_6_203⟩ (LwI_S h).1 (LwI_S h).2 (cs_timeout h) k
theorem lc_beat (C : LwC Z p s m meth c b L xs) (hi : i + 5 < L) (h : LwI S μ ρ) (k : ∀ μ' ρ', LwI S μ' ρ' → LwG Z p e s m b below meth c 1513 i [] S μ' ρ') : LwG Z p e s m b below meth c 297 i [] S μ ρ :=
  l_case C (n := 1) (idx1 := 26) (idx2 := 29) (off := 1198) (j1 := jX11_beat) (j2 := jX12_beat) (by decide) hi (by decide +kernel) ⟨rfl, by decide +kernel, rfl, w_3_190, w_3_191, w_3_192, w_1_1, w_3_193⟩ ⟨rfl, by decide +kernel, rfl, w_7_73, w_7_74, w_7_75, w_1_13, w_7_76⟩ (LwI_S h).1 (LwI_S h).2 (cs_beat h) k
theorem lc_propose (C : LwC Z p s m meth c b L xs) (hi : i + 5 < L) (h : LwI S μ ρ) (k : ∀ μ' ρ', LwI S μ' ρ' → LwG Z p e s m b below meth c 1513 i [] S μ' ρ') : LwG Z p e s m b below meth c 320 i [] S μ ρ :=
  l_case C (n := 4) (idx1 := 30) (idx2 := 34) (off := 1145) (j1 := jX11_propose) (j2 := jX12_propose) (by decide) hi (by decide +kernel) ⟨rfl, by decide +kernel, rfl, w_3_202, w_3_203, w_3_204, w_1_1, w_3_205⟩ ⟨rfl, by decide +kernel, rfl, w_7_81, w_7_82, w_7_83, w_1_13, w_7_84⟩ (LwI_S h).1 (LwI_S h).2 (cs_propose h) k
theorem lc_read (C : LwC Z p s m meth c b L xs) (hi : i + 5 < L) (h : LwI S μ ρ) (k : ∀ μ' ρ', LwI S μ' ρ' → LwG Z p e s m b below meth c 1513 i [] S μ' ρ') : LwG Z p e s m b below meth c 373 i [] S μ ρ :=
  l_case C (n := 2) (idx1 := 35) (idx2 := 39) (off := 1112) (j1 := jX11_read) (j2 := jX12_read) (by decide) hi (by decide +kernel) ⟨rfl, by decide +kernel, rfl, w_3_217, w_3_218, w_3_219, w_1_1, w_3_220⟩ ⟨rfl, by decide +kernel, rfl, w_7_100, w_7_101, w_7_102, w_1_13, w_7_103⟩ (LwI_S h).1 (LwI_S h).2 (cs_read h) k
theorem lc_hand (C : LwC Z p s m meth c b L xs) (hi : i + 5 < L) (h : LwI S μ ρ) (k : ∀ μ' ρ', LwI S μ' ρ' → LwG Z p e s m b below meth c 1513 i [] S μ' ρ') : LwG Z p e s m b below meth c 406 i [] S μ ρ :=
  l_case C (n := 2) (idx1 := 40) (idx2 := 43) (off := 1079) (j1 := jX11_hand) (j2 := jX12_hand) (by decide) hi (by decide +kernel) ⟨rfl, by decide +kernel, rfl, w_3_229, w_3_230, w_3_231, w_1_1, w_3_232⟩ ⟨rfl, by decide +kernel, rfl, w_7_112, w_7_113, w_7_114, w_1_13, w_7_115⟩ (LwI_S h).1 (LwI_S h).2 (cs_hand h) k
theorem lc_change (C : LwC Z p s m meth c b L xs) (hi : i + 5 < L) (h : LwI S μ ρ) (k : ∀ μ' ρ', LwI S μ' ρ' → LwG Z p e s m b below meth c 1513 i [] S μ' ρ') : LwG Z p e s m b below meth c 439 i [] S μ ρ :=
  l_case C (n := 2) (idx1 := 44) (idx2 := 47) (off := 1046) (j1 := jX11_change) (j2 := jX12_change) (by decide) hi (by decide +kernel) ⟨rfl, by decide +kernel, rfl, w_3_237, w_3_238, w_3_239, w_1_1, w_4_0⟩ ⟨rfl, by decide +kernel, rfl, w_7_120, w_7_121, w_7_122, w_1_13, w_7_123⟩ (LwI_S h).1 (LwI_S h).2 (cs_change h) k
theorem lc_compact (C : LwC Z p s m meth c b L xs) (hi : i + 5 < L) (h : LwI S μ ρ) (k : ∀ μ' ρ', LwI S μ' ρ' → LwG Z p e s m b below meth c 1513 i [] S μ' ρ') : LwG Z p e s m b below meth c 472 i [] S μ ρ :=
  l_case C (n := 1) (idx1 := 48) (idx2 := 51) (off := 1023) (j1 := jX11_compact) (j2 := jX12_compact) (by decide) hi (by decide +kernel) ⟨rfl, by decide +kernel, rfl, w_4_5, w_4_6, w_4_7, w_1_1, w_4_8⟩ ⟨rfl, by decide +kernel, rfl, w_7_128, w_7_129, w_7_130, w_1_13, w_7_131⟩ (LwI_S h).1 (LwI_S h).2 (cs_compact h) k
theorem lc_stop (C : LwC Z p s m meth c b L xs) (hi : i + 5 < L) (h : LwI S μ ρ) (k : ∀ μ' ρ', LwI S μ' ρ' → LwG Z p e s m b below meth c 1513 i [] S μ' ρ') : LwG Z p e s m b below meth c 495 i [] S μ ρ :=
  l_case C (n := 1) (idx1 := 52) (idx2 := 55) (off := 1000) (j1 := jX11_stop) (j2 := jX12_stop) (by decide) hi (by decide +kernel) ⟨rfl, by decide +kernel, rfl, w_4_18, w_4_19, w_4_20, w_1_1, w_4_21⟩ ⟨rfl, by decide +kernel, rfl, w_7_136, w_7_137, w_7_138, w_1_13, w_7_139⟩ (LwI_S h).1 (LwI_S h).2 (cs_stop h) k
theorem lc_start (C : LwC Z p s m meth c b L xs) (hi : i + 5 < L) (h : LwI S μ ρ) (k : ∀ μ' ρ', LwI S μ' ρ' → LwG Z p e s m b below meth c 1513 i [] S μ' ρ') : LwG Z p e s m b below meth c 518 i [] S μ ρ :=
  l_case C (n := 1) (idx1 := 56) (idx2 := 59) (off := 977) (j1 := jX11_start) (j2 := jX12_start) (by decide) hi (by decide +kernel) ⟨rfl, by decide +kernel, rfl, w_4_31, w_4_32, w_4_33, w_1_1, w_4_34⟩ ⟨rfl, by decide +kernel, rfl, w_7_144, w_7_145, w_7_146, w_1_13, w_7_147⟩ (LwI_S h).1 (LwI_S h).2 (cs_start h) k
theorem lc_link (C : LwC Z p s m meth c b L xs) (hi : i + 5 < L) (h : LwI S μ ρ) (k : ∀ μ' ρ', LwI S μ' ρ' → LwG Z p e s m b below meth c 1513 i [] S μ' ρ') : LwG Z p e s m b below meth c 541 i [] S μ ρ :=
  l_case C (n := 3) (idx1 := 60) (idx2 := 64) (off := 934) (j1 := jX11_link) (j2 := jX12_link) (by decide) hi (by decide +kernel) ⟨rfl, by decide +kernel, rfl, w_4_39, w_4_40, w_4_41, w_1_1, w_4_42⟩ ⟨rfl, by decide +kernel, rfl, w_7_152, w_7_153, w_7_154, w_1_13, w_7_155⟩ (LwI_S h).1 (LwI_S h).2 (cs_link h) k
theorem lc_come (C : LwC Z p s m meth c b L xs) (hi : i + 5 < L) (h : LwI S μ ρ) (k : ∀ μ' ρ', LwI S μ' ρ' → LwG Z p e s m b below meth c 1513 i [] S μ' ρ') : LwG Z p e s m b below meth c 584 i [] S μ ρ :=
  l_case C (n := 1) (idx1 := 65) (idx2 := 68) (off := 911) (j1 := jX11_come) (j2 := jX12_come) (by decide) hi (by decide +kernel) ⟨rfl, by decide +kernel, rfl, w_4_55, w_4_56, w_4_57, w_1_1, w_4_58⟩ ⟨rfl, by decide +kernel, rfl, w_7_160, w_7_161, w_7_162, w_1_13, w_7_163⟩ (LwI_S h).1 (LwI_S h).2 (cs_come h) k
theorem lc_lose (C : LwC Z p s m meth c b L xs) (hi : i + 5 < L) (h : LwI S μ ρ) (k : ∀ μ' ρ', LwI S μ' ρ' → LwG Z p e s m b below meth c 1513 i [] S μ' ρ') : LwG Z p e s m b below meth c 607 i [] S μ ρ :=
  l_case C (n := 1) (idx1 := 69) (idx2 := 72) (off := 888) (j1 := jX11_lose) (j2 := jX12_lose) (by decide) hi (by decide +kernel) ⟨rfl, by decide +kernel, rfl, w_4_138, w_4_139, w_4_140, w_1_1, w_4_141⟩ ⟨rfl, by decide +kernel, rfl, w_7_236, w_7_237, w_7_238, w_1_13, w_7_239⟩ (LwI_S h).1 (LwI_S h).2 (cs_lose h) k
theorem lc_twice (C : LwC Z p s m meth c b L xs) (hi : i + 5 < L) (h : LwI S μ ρ) (k : ∀ μ' ρ', LwI S μ' ρ' → LwG Z p e s m b below meth c 1513 i [] S μ' ρ') : LwG Z p e s m b below meth c 630 i [] S μ ρ :=
  l_case C (n := 1) (idx1 := 73) (idx2 := 76) (off := 865) (j1 := jX11_twice) (j2 := jX12_twice) (by decide) hi (by decide +kernel) ⟨rfl, by decide +kernel, rfl, w_4_146, w_4_147, w_4_148, w_1_1, w_4_149⟩ ⟨rfl, by decide +kernel, rfl, w_8_4, w_8_5, w_8_6, w_1_13, w_8_7⟩ (LwI_S h).1 (LwI_S h).2 (cs_twice h) k
theorem lc_settle (C : LwC Z p s m meth c b L xs) (hi : i + 5 < L) (h : LwI S μ ρ) (k : ∀ μ' ρ', LwI S μ' ρ' → LwG Z p e s m b below meth c 1513 i [] S μ' ρ') : LwG Z p e s m b below meth c 653 i [] S μ ρ :=
  l_case C (n := 1) (idx1 := 77) (idx2 := 80) (off := 842) (j1 := jX11_settle) (j2 := jX12_settle) (by decide) hi (by decide +kernel) ⟨rfl, by decide +kernel, rfl, w_4_155, w_4_156, w_4_157, w_1_1, w_4_158⟩ ⟨rfl, by decide +kernel, rfl, w_8_12, w_8_13, w_8_14, w_1_13, w_8_15⟩ (LwI_S h).1 (LwI_S h).2 (cs_settle h) k
theorem lc_feed (C : LwC Z p s m meth c b L xs) (hi : i + 5 < L) (h : LwI S μ ρ) (k : ∀ μ' ρ', LwI S μ' ρ' → LwG Z p e s m b below meth c 1513 i [] S μ' ρ') : LwG Z p e s m b below meth c 676 i [] S μ ρ :=
  l_case C (n := 5) (idx1 := 81) (idx2 := 85) (off := 779) (j1 := jX11_feed) (j2 := jX12_feed) (by decide) hi (by decide +kernel) ⟨rfl, by decide +kernel, rfl, w_4_163, w_4_164, w_4_165, w_1_1, w_4_166⟩ ⟨rfl, by decide +kernel, rfl, w_8_25, w_8_26, w_8_27, w_1_13, w_8_28⟩ (LwI_S h).1 (LwI_S h).2 (cs_feed h) k
theorem lc_script (C : LwC Z p s m meth c b L xs) (hi : i + 5 < L) (h : LwI S μ ρ) (k : ∀ μ' ρ', LwI S μ' ρ' → LwG Z p e s m b below meth c 1513 i [] S μ' ρ') : LwG Z p e s m b below meth c 739 i [] S μ ρ :=
  l_case C (n := 1) (idx1 := 86) (idx2 := 89) (off := 756) (j1 := jX11_script) (j2 := jX12_script) (by decide) hi (by decide +kernel) ⟨rfl, by decide +kernel, rfl, w_4_171, w_4_172, w_4_173, w_1_1, w_4_174⟩ ⟨rfl, by decide +kernel, rfl, w_8_29, w_8_30, w_8_31, w_1_13, w_8_32⟩ (LwI_S h).1 (LwI_S h).2 (cs_script C.2.2.2.2.2.2.2.2.2.2.2.2.2.2 h) k
theorem lc_fault (C : LwC Z p s m meth c b L xs) (hi : i + 5 < L) (h : LwI S μ ρ) (k : ∀ μ' ρ', LwI S μ' ρ' → LwG Z p e s m b below meth c 1513 i [] S μ' ρ') : LwG Z p e s m b below meth c 762 i [] S μ ρ :=
  l_case C (n := 1) (idx1 := 90) (idx2 := 93) (off := 733) (j1 := jX11_fault) (j2 := jX12_fault) (by decide) hi (by decide +kernel) ⟨rfl, by decide +kernel, rfl, w_5_79, w_5_80, w_5_81, w_1_1, w_5_82⟩ ⟨rfl, by decide +kernel, rfl, w_8_85, w_8_86, w_8_87, w_1_13, w_8_88⟩ (LwI_S h).1 (LwI_S h).2 (cs_fault h) k
theorem lc_halted (C : LwC Z p s m meth c b L xs) (hi : i + 5 < L) (h : LwI S μ ρ) (k : ∀ μ' ρ', LwI S μ' ρ' → LwG Z p e s m b below meth c 1513 i [] S μ' ρ') : LwG Z p e s m b below meth c 785 i [] S μ ρ :=
  l_case C (n := 1) (idx1 := 94) (idx2 := 97) (off := 710) (j1 := jX11_halted) (j2 := jX12_halted) (by decide) hi (by decide +kernel) ⟨rfl, by decide +kernel, rfl, w_5_83, w_5_84, w_5_85, w_1_1, w_5_86⟩ ⟨rfl, by decide +kernel, rfl, w_8_89, w_8_90, w_8_91, w_1_13, w_8_92⟩ (LwI_S h).1 (LwI_S h).2 (cs_halted h) k
theorem lc_store (C : LwC Z p s m meth c b L xs) (hi : i + 5 < L) (h : LwI S μ ρ) (k : ∀ μ' ρ', LwI S μ' ρ' → LwG Z p e s m b below meth c 1513 i [] S μ' ρ') : LwG Z p e s m b below meth c 808 i [] S μ ρ :=
  l_case C (n := 2) (idx1 := 98) (idx2 := 101) (off := 677) (j1 := jX11_store) (j2 := jX12_store) (by decide) hi (by decide +kernel) ⟨rfl, by decide +kernel, rfl, w_5_87, w_5_88, w_5_89, w_1_1, w_5_90⟩ ⟨rfl, by decide +kernel, rfl, w_8_93, w_8_94, w_8_95, w_1_13, w_8_96⟩ (LwI_S h).1 (LwI_S h).2 (cs_store h) k
theorem lc_cell (C : LwC Z p s m meth c b L xs) (hi : i + 5 < L) (h : LwI S μ ρ) (k : ∀ μ' ρ', LwI S μ' ρ' → LwG Z p e s m b below meth c 1513 i [] S μ' ρ') : LwG Z p e s m b below meth c 841 i [] S μ ρ :=
  l_case C (n := 2) (idx1 := 102) (idx2 := 105) (off := 644) (j1 := jX11_cell) (j2 := jX12_cell) (by decide) hi (by decide +kernel) ⟨rfl, by decide +kernel, rfl, w_5_96, w_5_97, w_5_98, w_1_1, w_5_99⟩ ⟨rfl, by decide +kernel, rfl, w_8_102, w_8_103, w_8_104, w_1_13, w_8_105⟩ (LwI_S h).1 (LwI_S h).2 (cs_cell h) k
theorem lc_entry (C : LwC Z p s m meth c b L xs) (hi : i + 5 < L) (h : LwI S μ ρ) (k : ∀ μ' ρ', LwI S μ' ρ' → LwG Z p e s m b below meth c 1513 i [] S μ' ρ') : LwG Z p e s m b below meth c 874 i [] S μ ρ :=
  l_case C (n := 3) (idx1 := 106) (idx2 := 109) (off := 601) (j1 := jX11_entry) (j2 := jX12_entry) (by decide) hi (by decide +kernel) ⟨rfl, by decide +kernel, rfl, w_5_103, w_5_104, w_5_105, w_1_1, w_5_106⟩ ⟨rfl, by decide +kernel, rfl, w_8_107, w_8_108, w_8_109, w_1_13, w_8_110⟩ (LwI_S h).1 (LwI_S h).2 (cs_entry h) k
theorem lc_follows (C : LwC Z p s m meth c b L xs) (hi : i + 5 < L) (h : LwI S μ ρ) (k : ∀ μ' ρ', LwI S μ' ρ' → LwG Z p e s m b below meth c 1513 i [] S μ' ρ') : LwG Z p e s m b below meth c 917 i [] S μ ρ :=
  l_case C (n := 3) (idx1 := 110) (idx2 := 113) (off := 558) (j1 := jX11_follows) (j2 := jX12_follows) (by decide) hi (by decide +kernel) ⟨rfl, by decide +kernel, rfl, w_5_118, w_5_119, w_5_120, w_1_1, w_5_121⟩ ⟨rfl, by decide +kernel, rfl, w_8_115, w_8_116, w_8_117, w_1_13, w_8_118⟩ (LwI_S h).1 (LwI_S h).2 (cs_follows h) k
theorem lc_message (C : LwC Z p s m meth c b L xs) (hi : i + 5 < L) (h : LwI S μ ρ) (k : ∀ μ' ρ', LwI S μ' ρ' → LwG Z p e s m b below meth c 1513 i [] S μ' ρ') : LwG Z p e s m b below meth c 960 i [] S μ ρ :=
  l_case C (n := 2) (idx1 := 114) (idx2 := 117) (off := 525) (j1 := jX11_message) (j2 := jX12_message) (by decide) hi (by decide +kernel) ⟨rfl, by decide +kernel, rfl, w_5_122, w_5_123, w_5_124, w_1_1, w_5_125⟩ ⟨rfl, by decide +kernel, rfl, w_8_119, w_8_120, w_8_121, w_1_13, w_8_122⟩ (LwI_S h).1 (LwI_S h).2 (cs_message h) k
theorem lc_first (C : LwC Z p s m meth c b L xs) (hi : i + 5 < L) (h : LwI S μ ρ) (k : ∀ μ' ρ', LwI S μ' ρ' → LwG Z p e s m b below meth c 1513 i [] S μ' ρ') : LwG Z p e s m b below meth c 993 i [] S μ ρ :=
  l_case C (n := 3) (idx1 := 118) (idx2 := 121) (off := 482) (j1 := jX11_first) (j2 := jX12_first) (by decide) hi (by decide +kernel) ⟨rfl, by decide +kernel, rfl, w_5_130, w_5_131, w_5_132, w_1_1, w_5_133⟩ ⟨rfl, by decide +kernel, rfl, w_8_127, w_8_128, w_8_129, w_1_13, w_8_130⟩ (LwI_S h).1 (LwI_S h).2 (cs_first h) k
theorem lc_linked (C : LwC Z p s m meth c b L xs) (hi : i + 5 < L) (h : LwI S μ ρ) (k : ∀ μ' ρ', LwI S μ' ρ' → LwG Z p e s m b below meth c 1513 i [] S μ' ρ') : LwG Z p e s m b below meth c 1036 i [] S μ ρ :=
  l_case C (n := 2) (idx1 := 122) (idx2 := 125) (off := 449) (j1 := jX11_linked) (j2 := jX12_linked) (by decide) hi (by decide +kernel) ⟨rfl, by decide +kernel, rfl, w_5_138, w_5_139, w_5_140, w_1_1, w_5_141⟩ ⟨rfl, by decide +kernel, rfl, w_8_132, w_8_133, w_8_134, w_1_13, w_8_135⟩ (LwI_S h).1 (LwI_S h).2 (cs_linked h) k
theorem lc_alike (C : LwC Z p s m meth c b L xs) (hi : i + 5 < L) (h : LwI S μ ρ) (k : ∀ μ' ρ', LwI S μ' ρ' → LwG Z p e s m b below meth c 1513 i [] S μ' ρ') : LwG Z p e s m b below meth c 1069 i [] S μ ρ :=
  l_case C (n := 2) (idx1 := 126) (idx2 := 129) (off := 416) (j1 := jX11_alike) (j2 := jX12_alike) (by decide) hi (by decide +kernel) ⟨rfl, by decide +kernel, rfl, w_5_143, w_5_144, w_5_145, w_1_1, w_5_146⟩ ⟨rfl, by decide +kernel, rfl, w_8_136, w_8_137, w_8_138, w_1_13, w_8_139⟩ (LwI_S h).1 (LwI_S h).2 (cs_alike h) k
theorem lc_grants (C : LwC Z p s m meth c b L xs) (hi : i + 5 < L) (h : LwI S μ ρ) (k : ∀ μ' ρ', LwI S μ' ρ' → LwG Z p e s m b below meth c 1513 i [] S μ' ρ') : LwG Z p e s m b below meth c 1102 i [] S μ ρ :=
  l_case C (n := 1) (idx1 := 130) (idx2 := 133) (off := 393) (j1 := jX11_grants) (j2 := jX12_grants) (by decide) hi (by decide +kernel) ⟨rfl, by decide +kernel, rfl, w_5_152, w_5_153, w_5_154, w_1_1, w_5_155⟩ ⟨rfl, by decide +kernel, rfl, w_8_140, w_8_141, w_8_142, w_1_13, w_8_143⟩ (LwI_S h).1 (LwI_S h).2 (cs_grants h) k
theorem lc_electable (C : LwC Z p s m meth c b L xs) (hi : i + 5 < L) (h : LwI S μ ρ) (k : ∀ μ' ρ', LwI S μ' ρ' → LwG Z p e s m b below meth c 1513 i [] S μ' ρ') : LwG Z p e s m b below meth c 1125 i [] S μ ρ :=
  l_case C (n := 1) (idx1 := 134) (idx2 := 137) (off := 370) (j1 := jX11_electable) (j2 := jX12_electable) (by decide) hi (by decide +kernel) ⟨rfl, by decide +kernel, rfl, w_5_160, w_5_161, w_5_162, w_1_1, w_5_163⟩ ⟨rfl, by decide +kernel, rfl, w_8_148, w_8_149, w_8_150, w_1_13, w_8_151⟩ (LwI_S h).1 (LwI_S h).2 (cs_electable h) k
theorem lc_holders (C : LwC Z p s m meth c b L xs) (hi : i + 5 < L) (h : LwI S μ ρ) (k : ∀ μ' ρ', LwI S μ' ρ' → LwG Z p e s m b below meth c 1513 i [] S μ' ρ') : LwG Z p e s m b below meth c 1148 i [] S μ ρ :=
  l_case C (n := 2) (idx1 := 138) (idx2 := 141) (off := 337) (j1 := jX11_holders) (j2 := jX12_holders) (by decide) hi (by decide +kernel) ⟨rfl, by decide +kernel, rfl, w_5_178, w_5_179, w_5_180, w_1_1, w_5_181⟩ ⟨rfl, by decide +kernel, rfl, w_8_160, w_8_161, w_8_162, w_1_13, w_8_163⟩ (LwI_S h).1 (LwI_S h).2 (cs_holders h) k
theorem lc_safe (C : LwC Z p s m meth c b L xs) (hi : i + 5 < L) (h : LwI S μ ρ) (k : ∀ μ' ρ', LwI S μ' ρ' → LwG Z p e s m b below meth c 1513 i [] S μ' ρ') : LwG Z p e s m b below meth c 1181 i [] S μ ρ :=
  l_case C (n := 2) (idx1 := 142) (idx2 := 145) (off := 304) (j1 := jX11_safe) (j2 := jX12_safe) (by decide) hi (by decide +kernel) ⟨rfl, by decide +kernel, rfl, w_5_187, w_5_188, w_5_189, w_1_1, w_5_190⟩ ⟨rfl, by decide +kernel, rfl, w_8_168, w_8_169, w_8_170, w_1_13, w_8_171⟩ (LwI_S h).1 (LwI_S h).2 (cs_safe h) k
theorem lc_agreed (C : LwC Z p s m meth c b L xs) (hi : i + 5 < L) (h : LwI S μ ρ) (k : ∀ μ' ρ', LwI S μ' ρ' → LwG Z p e s m b below meth c 1513 i [] S μ' ρ') : LwG Z p e s m b below meth c 1214 i [] S μ ρ :=
  l_case C (n := 2) (idx1 := 146) (idx2 := 149) (off := 271) (j1 := jX11_agreed) (j2 := jX12_agreed) (by decide) hi (by decide +kernel) ⟨rfl, by decide +kernel, rfl, w_5_192, w_5_193, w_5_194, w_1_1, w_5_195⟩ ⟨rfl, by decide +kernel, rfl, w_8_172, w_8_173, w_8_174, w_1_13, w_8_175⟩ (LwI_S h).1 (LwI_S h).2 (cs_agreed h) k
theorem lc_leaders (C : LwC Z p s m meth c b L xs) (hi : i + 5 < L) (h : LwI S μ ρ) (k : ∀ μ' ρ', LwI S μ' ρ' → LwG Z p e s m b below meth c 1513 i [] S μ' ρ') : LwG Z p e s m b below meth c 1247 i [] S μ ρ :=
  l_case C (n := 1) (idx1 := 150) (idx2 := 153) (off := 248) (j1 := jX11_leaders) (j2 := jX12_leaders) (by decide) hi (by decide +kernel) ⟨rfl, by decide +kernel, rfl, w_5_196, w_5_197, w_5_198, w_1_1, w_5_199⟩ ⟨rfl, by decide +kernel, rfl, w_8_177, w_8_178, w_8_179, w_1_13, w_8_180⟩ (LwI_S h).1 (LwI_S h).2 (cs_leaders h) k
theorem lc_leader (C : LwC Z p s m meth c b L xs) (hi : i + 5 < L) (h : LwI S μ ρ) (k : ∀ μ' ρ', LwI S μ' ρ' → LwG Z p e s m b below meth c 1513 i [] S μ' ρ') : LwG Z p e s m b below meth c 1270 i [] S μ ρ :=
  l_case C (n := 0) (idx1 := 154) (idx2 := 158) (off := 235) (j1 := jX11_leader) (j2 := jX12_leader) (by decide) hi (by decide +kernel) ⟨rfl, by decide +kernel, rfl, w_5_200, w_5_201, w_5_202, w_1_1, w_5_203⟩ ⟨rfl, by decide +kernel, rfl, w_8_181, w_8_182, w_8_183, w_1_13, w_8_184⟩ (LwI_S h).1 (LwI_S h).2 (cs_leader h) k
theorem lc_wins (C : LwC Z p s m meth c b L xs) (hi : i + 5 < L) (h : LwI S μ ρ) (k : ∀ μ' ρ', LwI S μ' ρ' → LwG Z p e s m b below meth c 1513 i [] S μ' ρ') : LwG Z p e s m b below meth c 1283 i [] S μ ρ :=
  l_case C (n := 1) (idx1 := 159) (idx2 := 162) (off := 212) (j1 := jX11_wins) (j2 := jX12_wins) (by decide) hi (by decide +kernel) ⟨rfl, by decide +kernel, rfl, w_5_207, w_5_208, w_5_209, w_1_1, w_5_210⟩ ⟨rfl, by decide +kernel, rfl, w_8_189, w_8_190, w_8_191, w_1_13, w_8_192⟩ (LwI_S h).1 (LwI_S h).2 (cs_wins h) k
theorem lc_then (C : LwC Z p s m meth c b L xs) (hi : i + 5 < L) (h : LwI S μ ρ) (k : ∀ μ' ρ', LwI S μ' ρ' → LwG Z p e s m b below meth c 1513 i [] S μ' ρ') : LwG Z p e s m b below meth c 1306 i [] S μ ρ :=
  l_case C (n := 2) (idx1 := 163) (idx2 := 166) (off := 179) (j1 := jX11_then) (j2 := jX12_then) (by decide) hi (by decide +kernel) ⟨rfl, by decide +kernel, rfl, w_5_222, w_5_223, w_5_224, w_1_1, w_5_225⟩ ⟨rfl, by decide +kernel, rfl, w_8_205, w_8_206, w_8_207, w_1_13, w_8_208⟩ (LwI_S h).1 (LwI_S h).2 (cs_then h) k
theorem lc_storm (C : LwC Z p s m meth c b L xs) (hi : i + 5 < L) (h : LwI S μ ρ) (k : ∀ μ' ρ', LwI S μ' ρ' → LwG Z p e s m b below meth c 1513 i [] S μ' ρ') : LwG Z p e s m b below meth c 1339 i [] S μ ρ :=
  l_case C (n := 1) (idx1 := 167) (idx2 := 170) (off := 156) (j1 := jX11_storm) (j2 := jX12_storm) (by decide) hi (by decide +kernel) ⟨rfl, by decide +kernel, rfl, w_5_231, w_5_232, w_5_233, w_1_1, w_5_234⟩ ⟨rfl, by decide +kernel, rfl, w_8_209, w_8_210, w_8_211, w_1_13, w_8_212⟩ (LwI_S h).1 (LwI_S h).2 (cs_storm h) k
theorem lc_rounds (C : LwC Z p s m meth c b L xs) (hi : i + 5 < L) (h : LwI S μ ρ) (k : ∀ μ' ρ', LwI S μ' ρ' → LwG Z p e s m b below meth c 1513 i [] S μ' ρ') : LwG Z p e s m b below meth c 1362 i [] S μ ρ :=
  l_case C (n := 0) (idx1 := 171) (idx2 := 174) (off := 143) (j1 := jX11_rounds) (j2 := jX12_rounds) (by decide) hi (by decide +kernel) ⟨rfl, by decide +kernel, rfl, w_5_239, w_6_0, w_6_1, w_1_1, w_6_2⟩ ⟨rfl, by decide +kernel, rfl, w_8_213, w_8_214, w_8_215, w_1_13, w_8_216⟩ (LwI_S h).1 (LwI_S h).2 (cs_rounds h) k
theorem lc_could (C : LwC Z p s m meth c b L xs) (hi : i + 5 < L) (h : LwI S μ ρ) (k : ∀ μ' ρ', LwI S μ' ρ' → LwG Z p e s m b below meth c 1513 i [] S μ' ρ') : LwG Z p e s m b below meth c 1375 i [] S μ ρ :=
  l_case C (n := 2) (idx1 := 175) (idx2 := 178) (off := 110) (j1 := jX11_could) (j2 := jX12_could) (by decide) hi (by decide +kernel) ⟨rfl, by decide +kernel, rfl, w_6_15, w_6_16, w_6_17, w_1_1, w_6_18⟩ ⟨rfl, by decide +kernel, rfl, w_8_225, w_8_226, w_8_227, w_1_13, w_8_228⟩ (LwI_S h).1 (LwI_S h).2 (cs_could h) k
theorem lc_fragile (C : LwC Z p s m meth c b L xs) (hi : i + 5 < L) (h : LwI S μ ρ) (k : ∀ μ' ρ', LwI S μ' ρ' → LwG Z p e s m b below meth c 1513 i [] S μ' ρ') : LwG Z p e s m b below meth c 1408 i [] S μ ρ :=
  l_case C (n := 0) (idx1 := 179) (idx2 := 182) (off := 97) (j1 := jX11_fragile) (j2 := jX12_fragile) (by decide) hi (by decide +kernel) ⟨rfl, by decide +kernel, rfl, w_6_30, w_6_31, w_6_32, w_1_1, w_6_33⟩ ⟨rfl, by decide +kernel, rfl, w_8_233, w_8_234, w_8_235, w_1_13, w_8_236⟩ (LwI_S h).1 (LwI_S h).2 (cs_fragile h) k
theorem lc_undo (C : LwC Z p s m meth c b L xs) (hi : i + 5 < L) (h : LwI S μ ρ) (k : ∀ μ' ρ', LwI S μ' ρ' → LwG Z p e s m b below meth c 1513 i [] S μ' ρ') : LwG Z p e s m b below meth c 1421 i [] S μ ρ :=
  l_case C (n := 1) (idx1 := 183) (idx2 := 186) (off := 74) (j1 := jX11_undo) (j2 := jX12_undo) (by decide) hi (by decide +kernel) ⟨rfl, by decide +kernel, rfl, w_6_43, w_6_44, w_6_45, w_1_1, w_6_46⟩ ⟨rfl, by decide +kernel, rfl, w_9_1, w_9_2, w_9_3, w_1_13, w_9_4⟩ (LwI_S h).1 (LwI_S h).2 (cs_undo h) k
theorem lc_image (C : LwC Z p s m meth c b L xs) (hi : i + 5 < L) (h : LwI S μ ρ) (k : ∀ μ' ρ', LwI S μ' ρ' → LwG Z p e s m b below meth c 1513 i [] S μ' ρ') : LwG Z p e s m b below meth c 1444 i [] S μ ρ :=
  l_case C (n := 1) (idx1 := 187) (idx2 := 190) (off := 51) (j1 := jX11_image) (j2 := jX12_image) (by decide) hi (by decide +kernel) ⟨rfl, by decide +kernel, rfl, w_6_47, w_6_48, w_6_49, w_1_1, w_6_50⟩ ⟨rfl, by decide +kernel, rfl, w_9_5, w_9_6, w_9_7, w_1_13, w_9_8⟩ (LwI_S h).1 (LwI_S h).2 (cs_image h) k
theorem lc_restore (C : LwC Z p s m meth c b L xs) (hi : i + 5 < L) (h : LwI S μ ρ) (k : ∀ μ' ρ', LwI S μ' ρ' → LwG Z p e s m b below meth c 1513 i [] S μ' ρ') : LwG Z p e s m b below meth c 1467 i [] S μ ρ :=
  l_case C (n := 1) (idx1 := 191) (idx2 := 194) (off := 28) (j1 := jX11_restore) (j2 := jX12_restore) (by decide) hi (by decide +kernel) ⟨rfl, by decide +kernel, rfl, w_6_51, w_6_52, w_6_53, w_1_1, w_6_54⟩ ⟨rfl, by decide +kernel, rfl, w_9_9, w_9_10, w_9_11, w_1_13, w_9_12⟩ (LwI_S h).1 (LwI_S h).2 (cs_restore h) k
theorem lc_count (C : LwC Z p s m meth c b L xs) (hi : i + 5 < L) (h : LwI S μ ρ) (k : ∀ μ' ρ', LwI S μ' ρ' → LwG Z p e s m b below meth c 1513 i [] S μ' ρ') : LwG Z p e s m b below meth c 1490 i [] S μ ρ :=
  l_case C (n := 1) (idx1 := 195) (idx2 := 198) (off := 5) (j1 := jX11_count) (j2 := jX12_count) (by decide) hi (by decide +kernel) ⟨rfl, by decide +kernel, rfl, w_6_55, w_6_56, w_6_57, w_1_1, w_6_58⟩ ⟨rfl, by decide +kernel, rfl, w_9_13, w_9_14, w_9_15, w_1_13, w_9_16⟩ (LwI_S h).1 (LwI_S h).2 (cs_count h) k
def swO : Array Int := #[195, 218, 241, 264, 287, 340, 373, 406, 439, 462, 485, 508, 551, 574, 597, 620, 643, 706, 729, 752, 775, 808, 841, 884, 927, 960, 1003, 1036, 1069, 1092, 1115, 1148, 1181, 1214, 1237, 1250, 1273, 1306, 1329, 1342, 1375, 1388, 1411, 1434, 1457]
theorem l_sw (C : LwC Z p s m meth c b L xs) (hi : i + 5 < L) (h : LwI S μ ρ) (k : ∀ μ' ρ', LwI S μ' ρ' → LwG Z p e s m b below meth c 1513 i [] S μ' ρ') : ∀ n : Nat, n < 45 → ∃ (off : Int) (tgt : Nat), swO[n]? = some off ∧ (33 : Int) + off = (tgt : Int) ∧ LwG Z p e s m b below meth c tgt i [] S μ ρ := by
  intro n hn
  match n, hn with
  | 0, _ => exact ⟨195, 228, rfl, by decide, lc_begin C hi h k⟩
  | 1, _ => exact ⟨218, 251, rfl, by decide, lc_careful C hi h k⟩
  | 2, _ => exact ⟨241, 274, rfl, by decide, lc_timeout C hi h k⟩
  | 3, _ => exact ⟨264, 297, rfl, by decide, lc_beat C hi h k⟩
  | 4, _ => exact ⟨287, 320, rfl, by decide, lc_propose C hi h k⟩
  | 5, _ => exact ⟨340, 373, rfl, by decide, lc_read C hi h k⟩
  | 6, _ => exact ⟨373, 406, rfl, by decide, lc_hand C hi h k⟩
  | 7, _ => exact ⟨406, 439, rfl, by decide, lc_change C hi h k⟩
  | 8, _ => exact ⟨439, 472, rfl, by decide, lc_compact C hi h k⟩
  | 9, _ => exact ⟨462, 495, rfl, by decide, lc_stop C hi h k⟩
  | 10, _ => exact ⟨485, 518, rfl, by decide, lc_start C hi h k⟩
  | 11, _ => exact ⟨508, 541, rfl, by decide, lc_link C hi h k⟩
  | 12, _ => exact ⟨551, 584, rfl, by decide, lc_come C hi h k⟩
  | 13, _ => exact ⟨574, 607, rfl, by decide, lc_lose C hi h k⟩
  | 14, _ => exact ⟨597, 630, rfl, by decide, lc_twice C hi h k⟩
  | 15, _ => exact ⟨620, 653, rfl, by decide, lc_settle C hi h k⟩
  | 16, _ => exact ⟨643, 676, rfl, by decide, lc_feed C hi h k⟩
  | 17, _ => exact ⟨706, 739, rfl, by decide, lc_script C hi h k⟩
  | 18, _ => exact ⟨729, 762, rfl, by decide, lc_fault C hi h k⟩
  | 19, _ => exact ⟨752, 785, rfl, by decide, lc_halted C hi h k⟩
  | 20, _ => exact ⟨775, 808, rfl, by decide, lc_store C hi h k⟩
  | 21, _ => exact ⟨808, 841, rfl, by decide, lc_cell C hi h k⟩
  | 22, _ => exact ⟨841, 874, rfl, by decide, lc_entry C hi h k⟩
  | 23, _ => exact ⟨884, 917, rfl, by decide, lc_follows C hi h k⟩
  | 24, _ => exact ⟨927, 960, rfl, by decide, lc_message C hi h k⟩
  | 25, _ => exact ⟨960, 993, rfl, by decide, lc_first C hi h k⟩
  | 26, _ => exact ⟨1003, 1036, rfl, by decide, lc_linked C hi h k⟩
  | 27, _ => exact ⟨1036, 1069, rfl, by decide, lc_alike C hi h k⟩
  | 28, _ => exact ⟨1069, 1102, rfl, by decide, lc_grants C hi h k⟩
  | 29, _ => exact ⟨1092, 1125, rfl, by decide, lc_electable C hi h k⟩
  | 30, _ => exact ⟨1115, 1148, rfl, by decide, lc_holders C hi h k⟩
  | 31, _ => exact ⟨1148, 1181, rfl, by decide, lc_safe C hi h k⟩
  | 32, _ => exact ⟨1181, 1214, rfl, by decide, lc_agreed C hi h k⟩
  | 33, _ => exact ⟨1214, 1247, rfl, by decide, lc_leaders C hi h k⟩
  | 34, _ => exact ⟨1237, 1270, rfl, by decide, lc_leader C hi h k⟩
  | 35, _ => exact ⟨1250, 1283, rfl, by decide, lc_wins C hi h k⟩
  | 36, _ => exact ⟨1273, 1306, rfl, by decide, lc_then C hi h k⟩
  | 37, _ => exact ⟨1306, 1339, rfl, by decide, lc_storm C hi h k⟩
  | 38, _ => exact ⟨1329, 1362, rfl, by decide, lc_rounds C hi h k⟩
  | 39, _ => exact ⟨1342, 1375, rfl, by decide, lc_could C hi h k⟩
  | 40, _ => exact ⟨1375, 1408, rfl, by decide, lc_fragile C hi h k⟩
  | 41, _ => exact ⟨1388, 1421, rfl, by decide, lc_undo C hi h k⟩
  | 42, _ => exact ⟨1411, 1444, rfl, by decide, lc_image C hi h k⟩
  | 43, _ => exact ⟨1434, 1467, rfl, by decide, lc_restore C hi h k⟩
  | 44, _ => exact ⟨1457, 1490, rfl, by decide, lc_count C hi h k⟩
  | n + 45, hn => exact absurd hn (by omega)
theorem len6 {L i : Nat} (hL : L ≤ 3072) (hi : i ≤ 4000) (h : L < i + 6) : nI L - 6 < nI i := by
  by_cases c : 6 ≤ L
  · rw [show (6 : Int32) = nI 6 from rfl, pk_sub c, nI_ltI (by omega) (by omega)]
    omega
  · have t : ∀ k : Fin 6, (nI k.val - 6).toInt < 0 := by decide
    have t2 := t ⟨L, by omega⟩
    dsimp only at t2
    rw [Int32.lt_iff_toInt_lt, nI_toInt (by omega)]
    omega
theorem l_exit (C : LwC Z p s m meth c b L xs) : LwG Z p e s m b below meth c 1519 i [] S μ ρ := by
  intro H locs ls hH hB hl hL
  obtain ⟨hx, hb, hml, hown, hts, hK, hE, hEO, hX, hbl, hsz, hL3, hr, hlo, -⟩ := C
  refine lv_iconst (v := 1) hx hb (show decode code 1519 = .ok (.iconst 1, 1) by decide +kernel) (by decide) ?_
  refine va_forget (fun q hq => by rw [hsz]; exact hl q hq) ?_
  refine W.widen (k := 600000) (n := 7302250) (Nat.le_of_ble_eq_true rfl) (Nat.le_of_ble_eq_true rfl) ?_
  exact lw_ret hx hb hr hlo (show decode code 1520 = .ok (.ireturn, 1) by decide +kernel)
theorem l_back (C : LwC Z p s m meth c b L xs) (k : LwG Z p e s m b below meth c 18 (i + 6) [] S μ ρ) : LwG Z p e s m b below meth c 1513 i [] S μ ρ := by
  intro H locs ls hH hB hl hL
  refine lv_iinc (v := nI (i + 6)) (lv' := [(3, .int (nI (i + 6))), (0, .ref b), (1, .ref (Z.2.2.1 + 1)), (2, .ref (Z.2.2.1 + 2737))]) C.1 C.2.1 (show decode code 1513 = .ok (.iinc 3 6, 3) by decide +kernel) hL (k := 3) rfl ?_ (by decide) rfl (fun ls2 hl2 => ?_)
  · rw [show Int32.ofInt 6 = nI 6 by decide, nI_add]
  · refine lv_goto (tgt := 18) C.1 C.2.1 (show decode code 1516 = .ok (.goto (-1498), 3) by decide +kernel) (by decide) ?_
    exact k H locs ls2 hH hB hl (lv_sub hl2 [1, 2, 3, 0] rfl)
set_option maxHeartbeats 1000000 in
theorem law_loop (C : LwC Z p s m meth c b L xs) : ∀ (n i : Nat) (μ : Mi) (ρ : Mr), i ≤ 3078 → L < i + 6 * n + 6 → LwI S μ ρ → LwG Z p e s m b below meth c 18 i [] S μ ρ := by
  intro n
  induction n with
  | zero =>
    intro i μ ρ hi hn h H locs ls hH hB hl hL
    have hS := LwS C hH hB hl
    have hbA := LwB C
    have hL3 := C.2.2.2.2.2.2.2.2.2.2.2.1
    refine lv_iload_n C.1 C.2.1 (show decode code 18 = .ok (.iload_n 3, 1) by decide +kernel) rfl (lv_at hL 3 rfl) ?_
    refine lv_aload_n C.1 C.2.1 (show decode code 19 = .ok (.aload_n 0, 1) by decide +kernel) rfl (lv_at hL 0 rfl) ?_
    refine va_slen C.1 C.2.1 C.2.2.2.2.2.2.2.2.1 C.2.2.2.2.2.2.2.2.2.1 hbA hS (show decode code 20 = .ok (.arraylength, 1) by decide +kernel) ?_
    refine lv_bipush (v := 6) C.1 C.2.1 (show decode code 21 = .ok (.bipush 6, 2) by decide +kernel) (by decide) ?_
    refine lv_isub C.1 C.2.1 (show decode code 23 = .ok (.isub, 1) by decide +kernel) ?_
    refine lv_icmp_gt (tgt := 1519) C.1 C.2.1 (show decode code 24 = .ok (.if_icmp .gt 1495, 3) by decide +kernel) (by decide) (fun _ => l_exit C H locs ls hH hB hl hL) (fun cgt => absurd (len6 (i := i) hL3 (by omega) (by omega)) cgt)
  | succ n ih =>
    intro i μ ρ hi hn h H locs ls hH hB hl hL
    have hS := LwS C hH hB hl
    have hbA := LwB C
    have hL3 := C.2.2.2.2.2.2.2.2.2.2.2.1
    refine lv_iload_n C.1 C.2.1 (show decode code 18 = .ok (.iload_n 3, 1) by decide +kernel) rfl (lv_at hL 3 rfl) ?_
    refine lv_aload_n C.1 C.2.1 (show decode code 19 = .ok (.aload_n 0, 1) by decide +kernel) rfl (lv_at hL 0 rfl) ?_
    refine va_slen C.1 C.2.1 C.2.2.2.2.2.2.2.2.1 C.2.2.2.2.2.2.2.2.2.1 hbA hS (show decode code 20 = .ok (.arraylength, 1) by decide +kernel) ?_
    refine lv_bipush (v := 6) C.1 C.2.1 (show decode code 21 = .ok (.bipush 6, 2) by decide +kernel) (by decide) ?_
    refine lv_isub C.1 C.2.1 (show decode code 23 = .ok (.isub, 1) by decide +kernel) ?_
    refine lv_icmp_gt (tgt := 1519) C.1 C.2.1 (show decode code 24 = .ok (.if_icmp .gt 1495, 3) by decide +kernel) (by decide) (fun _ => l_exit C H locs ls hH hB hl hL) (fun cgt => ?_)
    have h6 : i + 6 ≤ L := by
      rcases Nat.lt_or_ge L (i + 6) with q | q
      · exact absurd (len6 (i := i) hL3 (by omega) q) cgt
      · exact q
    refine lv_aload_n C.1 C.2.1 (show decode code 27 = .ok (.aload_n 0, 1) by decide +kernel) rfl (lv_at hL 0 rfl) ?_
    refine lv_iload_n C.1 C.2.1 (show decode code 28 = .ok (.iload_n 3, 1) by decide +kernel) rfl (lv_at hL 3 rfl) ?_
    refine va_sld C.1 C.2.1 C.2.2.2.2.2.2.2.2.1 C.2.2.2.2.2.2.2.2.2.1 hbA hS (nI_in (show i < L by omega) (by omega)) (show decode code 29 = .ok (.iaload, 1) by decide +kernel) ?_
    refine lv_bipush (v := 63) C.1 C.2.1 (show decode code 30 = .ok (.bipush 63, 2) by decide +kernel) (by decide) ?_
    refine lv_iand C.1 C.2.1 (show decode code 32 = .ok (.iand, 1) by decide +kernel) ?_
    have kk : ∀ μ' ρ', LwI S μ' ρ' → LwG Z p e s m b below meth c 1513 i [] S μ' ρ' := fun μ' ρ' h' => l_back C (ih (i + 6) μ' ρ' (by omega) (by omega) h')
    have dsw : decode code 33 = .ok (.tableswitch 1480 0 44 swO, 195) := by decide +kernel
    generalize (xs (nI i).toNatClampNeg &&& 63) = x
    by_cases cx : x.toInt < 0 ∨ 44 < x.toInt
    · exact lv_tableOut (tgt := 1513) C.1 C.2.1 dsw cx (by decide) (kk μ ρ h H locs ls hH hB hl hL)
    · obtain ⟨q, rfl, q0, -, q1⟩ := rg_ex (x := x) (lo := 0) (hi := 44) ⟨by omega, by omega⟩
      obtain ⟨off, tgt, o1, o2, o3⟩ := l_sw (e := e) (below := below) C (show i + 5 < L by omega) h kk q (by omega)
      refine lv_tableIn (off := off) (tgt := tgt) C.1 C.2.1 dsw (fun z => cx (Or.inl z)) (fun z => cx (Or.inr z)) ?_ o2 (o3 H locs ls hH hB hl hL)
      rw [nI_toInt q0, show ((q : Int) - 0).toNat = q by omega]
      exact o1
end Law2
