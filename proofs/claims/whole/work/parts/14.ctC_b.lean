set_option maxRecDepth 100000 in
set_option maxHeartbeats 4000000 in
theorem ct_Processor_wordLoadOrSum {l : Launch} {D : va_G} {a : Nat → Nat} {ca : Nat → ClassId} {σ σ' : cb_S} {v1 : Int32} {r : Int32} (hf : c_Processor_wordLoadOrSum σ v1 = some (r, σ')) : cb_C l yX9_wordLoadOrSum cX9_wordLoadOrSum 3 (some .int) { frames := 3, cells := 0, slots := 0, locals := 63 } D (EC ca) (adC a) [.ref (a 3), .int v1] (WC a ca σ) (some (.int r)) (WC a ca σ') := by
  refine cb_mk [(0, .ref (a 3)), (1, .int v1)] (by decide) (Nat.le_of_ble_eq_true rfl) rfl (fun X h he => ?_) goodC
  have h : cb_ok X cX9_wordLoadOrSum RX9 (EC ca) 3 63 3 := h
  unfold c_Processor_wordLoadOrSum at hf
  refine cb_iload_n 1 1 h dX9_wordLoadOrSum_0 rfl rfl rfl ?_
  refine cb_bipush 3 h dX9_wordLoadOrSum_1 rfl kb_8 ?_
  refine cb_iand 4 h dX9_wordLoadOrSum_3 rfl ?_
  refine cb_if_ne 21 7 h dX9_wordLoadOrSum_4 rfl rfl (fun q1 => ?_) (fun q1 => ?_)
  · have hf := cb_if q1 hf
    refine cb_aload_n 22 0 h dX9_wordLoadOrSum_21 rfl rfl rfl ?_
    refine gf_X9_54 25 h dX9_wordLoadOrSum_22 rfl ?_
    refine cb_iconst 26 h dX9_wordLoadOrSum_25 rfl kc_2 ?_
    obtain ⟨c2, ec2, hf⟩ := cb_bo_o hf
    refine cl_X9_175 29 h dX9_wordLoadOrSum_26 rfl bank_11 (ct_Bank_pair bank_11 ec2) ⟨rfl, rfl, Nat.le_of_ble_eq_true rfl, Nat.le_of_ble_eq_true rfl⟩ rfl (Nat.le_of_ble_eq_true rfl) ?_
    refine cb_aload_n 30 0 h dX9_wordLoadOrSum_29 rfl rfl rfl ?_
    refine cb_iload_n 31 1 h dX9_wordLoadOrSum_30 rfl rfl rfl ?_
    refine cb_iconst 32 h dX9_wordLoadOrSum_31 rfl kc_4 ?_
    refine cb_ishr 33 h dX9_wordLoadOrSum_32 rfl ?_
    obtain ⟨c3, ec3, hf⟩ := cb_bo_o hf
    refine cl_X9_135 36 h dX9_wordLoadOrSum_33 rfl (ct_Processor_wide ec3) ⟨rfl, rfl, Nat.le_of_ble_eq_true rfl, Nat.le_of_ble_eq_true rfl⟩ rfl (Nat.le_of_ble_eq_true rfl) ?_
    refine cb_iconst 37 h dX9_wordLoadOrSum_36 rfl kc_0 ?_
    obtain ⟨c4, ec4, hf⟩ := cb_bo_o hf
    refine cl_X9_178 40 h dX9_wordLoadOrSum_37 rfl (ct_Flags_addWords ec4) ⟨rfl, rfl, Nat.le_of_ble_eq_true rfl, Nat.le_of_ble_eq_true rfl⟩ rfl (Nat.le_of_ble_eq_true rfl) ?_
    refine cb_istore_n (lv' := [(2, .int c4), (0, .ref (a 3)), (1, .int v1)]) 41 h dX9_wordLoadOrSum_40 rfl rfl rfl (Nat.le_of_ble_eq_true rfl) rfl ?_
    refine cb_aload_n 42 1 h dX9_wordLoadOrSum_41 rfl rfl rfl ?_
    refine gf_X9_54 45 h dX9_wordLoadOrSum_42 rfl ?_
    refine cb_iconst 46 h dX9_wordLoadOrSum_45 rfl kc_2 ?_
    refine cb_iload_n 47 0 h dX9_wordLoadOrSum_46 rfl rfl rfl ?_
    refine cb_bipush 49 h dX9_wordLoadOrSum_47 rfl kb_8 ?_
    refine cb_ishr 50 h dX9_wordLoadOrSum_49 rfl ?_
    obtain ⟨σc5, ec5, hf⟩ := cb_bo_o hf
    refine cl_X9_181 53 h dX9_wordLoadOrSum_50 rfl bank_11 (ct_Bank_putPair bank_11 ec5) ⟨rfl, rfl, Nat.le_of_ble_eq_true rfl, Nat.le_of_ble_eq_true rfl⟩ rfl (Nat.le_of_ble_eq_true rfl) ?_
    refine cb_aload_n 54 1 h dX9_wordLoadOrSum_53 rfl rfl rfl ?_
    refine cb_bipush 56 h dX9_wordLoadOrSum_54 rfl kb_19 ?_
    refine cb_iload_n 57 0 h dX9_wordLoadOrSum_56 rfl rfl rfl ?_
    obtain ⟨σc6, ec6, hf⟩ := cb_bo_o hf
    refine cl_X9_184 60 h dX9_wordLoadOrSum_57 rfl (ct_Processor_changeFlags ec6) ⟨rfl, rfl, Nat.le_of_ble_eq_true rfl, Nat.le_of_ble_eq_true rfl⟩ rfl (Nat.le_of_ble_eq_true rfl) ?_
    refine cb_bipush 62 h dX9_wordLoadOrSum_60 rfl kb_11 ?_
    exact cb_retI (Wf := WC a ca) h dX9_wordLoadOrSum_62 he hf
  · have hf := cb_it q1 hf
    refine cb_aload_n 8 0 h dX9_wordLoadOrSum_7 rfl rfl rfl ?_
    refine cb_iload_n 9 1 h dX9_wordLoadOrSum_8 rfl rfl rfl ?_
    refine cb_iconst 10 h dX9_wordLoadOrSum_9 rfl kc_4 ?_
    refine cb_ishr 11 h dX9_wordLoadOrSum_10 rfl ?_
    refine cb_aload_n 12 0 h dX9_wordLoadOrSum_11 rfl rfl rfl ?_
    obtain ⟨c7, σc7, ec7, hf⟩ := cb_b2_o hf
    refine cl_X9_172 15 h dX9_wordLoadOrSum_12 rfl (ct_Processor_nextWord ec7) ⟨rfl, rfl, Nat.le_of_ble_eq_true rfl, Nat.le_of_ble_eq_true rfl⟩ rfl (Nat.le_of_ble_eq_true rfl) ?_
    obtain ⟨σc8, ec8, hf⟩ := cb_bo_o hf
    refine cl_X9_138 18 h dX9_wordLoadOrSum_15 rfl (ct_Processor_putWide ec8) ⟨rfl, rfl, Nat.le_of_ble_eq_true rfl, Nat.le_of_ble_eq_true rfl⟩ rfl (Nat.le_of_ble_eq_true rfl) ?_
    refine cb_bipush 20 h dX9_wordLoadOrSum_18 rfl kb_10 ?_
    exact cb_retI (Wf := WC a ca) h dX9_wordLoadOrSum_20 he hf
set_option maxRecDepth 100000 in
set_option maxHeartbeats 4000000 in
theorem ct_Memory_putWord {l : Launch} {D : va_G} {a : Nat → Nat} {ca : Nat → ClassId} {σ σ' : cb_S} {v1 v2 : Int32} (hf : c_Memory_putWord σ v1 v2 = some σ') : cb_C l yX7_putWord cX7_putWord 3 none { frames := 1, cells := 0, slots := 0, locals := 22 } D (EC ca) (adC a) [.ref (a 1), .int v1, .int v2] (WC a ca σ) none (WC a ca σ') := by
  refine cb_mk [(0, .ref (a 1)), (1, .int v1), (2, .int v2)] (by decide) (Nat.le_of_ble_eq_true rfl) rfl (fun X h he => ?_) goodC
  have h : cb_ok X cX7_putWord RX7 (EC ca) 1 22 3 := h
  unfold c_Memory_putWord at hf
  refine cb_aload_n 1 0 h dX7_putWord_0 rfl rfl rfl ?_
  refine cb_iload_n 2 1 h dX7_putWord_1 rfl rfl rfl ?_
  refine cb_iload_n 3 2 h dX7_putWord_2 rfl rfl rfl ?_
  obtain ⟨σc1, ec1, hf⟩ := cb_bo_o hf
  refine cl_X7_17 6 h dX7_putWord_3 rfl (ct_Memory_putByte ec1) ⟨rfl, rfl, Nat.le_of_ble_eq_true rfl, Nat.le_of_ble_eq_true rfl⟩ rfl (Nat.le_of_ble_eq_true rfl) ?_
  refine cb_aload_n 7 0 h dX7_putWord_6 rfl rfl rfl ?_
  refine cb_iload_n 8 1 h dX7_putWord_7 rfl rfl rfl ?_
  refine cb_iconst 9 h dX7_putWord_8 rfl kc_1 ?_
  refine cb_iadd 10 h dX7_putWord_9 rfl ?_
  refine cb_iload_n 11 2 h dX7_putWord_10 rfl rfl rfl ?_
  refine cb_bipush 13 h dX7_putWord_11 rfl kb_8 ?_
  refine cb_ishr 14 h dX7_putWord_13 rfl ?_
  obtain ⟨σc2, ec2, hf⟩ := cb_bo_o hf
  refine cl_X7_17 17 h dX7_putWord_14 rfl (ct_Memory_putByte ec2) ⟨rfl, rfl, Nat.le_of_ble_eq_true rfl, Nat.le_of_ble_eq_true rfl⟩ rfl (Nat.le_of_ble_eq_true rfl) ?_
  exact cb_retV (Wf := WC a ca) h dX7_putWord_17 he hf
set_option maxRecDepth 100000 in
set_option maxHeartbeats 4000000 in
theorem ct_Memory_wordAt {l : Launch} {D : va_G} {a : Nat → Nat} {ca : Nat → ClassId} {σ : cb_S} {v1 : Int32} {r : Int32} (hf : c_Memory_wordAt σ v1 = some r) : cb_C l yX7_wordAt cX7_wordAt 2 (some .int) { frames := 1, cells := 0, slots := 0, locals := 21 } D (EC ca) (adC a) [.ref (a 1), .int v1] (WC a ca σ) (some (.int r)) (WC a ca σ) := by
  refine cb_mk [(0, .ref (a 1)), (1, .int v1)] (by decide) (Nat.le_of_ble_eq_true rfl) rfl (fun X h he => ?_) goodC
  have h : cb_ok X cX7_wordAt RX7 (EC ca) 1 21 2 := h
  unfold c_Memory_wordAt at hf
  refine cb_aload_n 1 0 h dX7_wordAt_0 rfl rfl rfl ?_
  refine cb_iload_n 2 1 h dX7_wordAt_1 rfl rfl rfl ?_
  obtain ⟨c1, ec1, hf⟩ := cb_bo_o hf
  refine cl_X7_13 5 h dX7_wordAt_2 rfl (ct_Memory_byteAt ec1) ⟨rfl, rfl, Nat.le_of_ble_eq_true rfl, Nat.le_of_ble_eq_true rfl⟩ rfl (Nat.le_of_ble_eq_true rfl) ?_
  refine cb_aload_n 6 0 h dX7_wordAt_5 rfl rfl rfl ?_
  refine cb_iload_n 7 1 h dX7_wordAt_6 rfl rfl rfl ?_
  refine cb_iconst 8 h dX7_wordAt_7 rfl kc_1 ?_
  refine cb_iadd 9 h dX7_wordAt_8 rfl ?_
  obtain ⟨c2, ec2, hf⟩ := cb_bo_o hf
  refine cl_X7_13 12 h dX7_wordAt_9 rfl (ct_Memory_byteAt ec2) ⟨rfl, rfl, Nat.le_of_ble_eq_true rfl, Nat.le_of_ble_eq_true rfl⟩ rfl (Nat.le_of_ble_eq_true rfl) ?_
  refine cb_bipush 14 h dX7_wordAt_12 rfl kb_8 ?_
  refine cb_ishl 15 h dX7_wordAt_14 rfl ?_
  refine cb_ior 16 h dX7_wordAt_15 rfl ?_
  exact cb_retJ h dX7_wordAt_16 he hf
set_option maxRecDepth 100000 in
set_option maxHeartbeats 4000000 in
theorem ct_Processor_transfer {l : Launch} {D : va_G} {a : Nat → Nat} {ca : Nat → ClassId} {σ σ' : cb_S} {v1 : Int32} {r : Int32} (hf : c_Processor_transfer σ v1 = some (r, σ')) : cb_C l yX9_transfer cX9_transfer 2 (some .int) { frames := 3, cells := 0, slots := 0, locals := 63 } D (EC ca) (adC a) [.ref (a 3), .int v1] (WC a ca σ) (some (.int r)) (WC a ca σ') := by
  refine cb_mk [(0, .ref (a 3)), (1, .int v1)] (by decide) (Nat.le_of_ble_eq_true rfl) rfl (fun X h he => ?_) goodC
  have h : cb_ok X cX9_transfer RX9 (EC ca) 3 63 2 := h
  unfold c_Processor_transfer at hf
  refine cb_iload_n 1 1 h dX9_transfer_0 rfl rfl rfl ?_
  by_cases q1 : v1 = 0 ∨ v1 = 2
  · have hf := cb_it q1 hf
    refine cb_cut (cb_V X (WC a ca σ) 44 [(0, .ref (a 3)), (1, .int v1)] []) (fun jj => ?_) ?_
    · rcases q1 with q1 | q1
      · exact cb_tabI 44 h dX9_transfer_1 q1 (by decide) (by decide) rfl rfl jj
      · exact cb_tabI 44 h dX9_transfer_1 q1 (by decide) (by decide) rfl rfl jj
    refine cb_aload_n 45 0 h dX9_transfer_44 rfl rfl rfl ?_
    refine gf_X9_42 48 h dX9_transfer_45 rfl ?_
    refine cb_aload_n 49 0 h dX9_transfer_48 rfl rfl rfl ?_
    refine gf_X9_54 52 h dX9_transfer_49 rfl ?_
    refine cb_iload_n 53 1 h dX9_transfer_52 rfl rfl rfl ?_
    refine cb_iconst 54 h dX9_transfer_53 rfl kc_1 ?_
    refine cb_ishr 55 h dX9_transfer_54 rfl ?_
    obtain ⟨c2, ec2, hf⟩ := cb_bo_o hf
    refine cl_X9_175 58 h dX9_transfer_55 rfl bank_11 (ct_Bank_pair bank_11 ec2) ⟨rfl, rfl, Nat.le_of_ble_eq_true rfl, Nat.le_of_ble_eq_true rfl⟩ rfl (Nat.le_of_ble_eq_true rfl) ?_
    refine cb_aload_n 59 0 h dX9_transfer_58 rfl rfl rfl ?_
    refine gf_X9_61 62 h dX9_transfer_59 rfl ?_
    refine cb_bipush 64 h dX9_transfer_62 rfl kb_7 ?_
    refine laC_12 65 h dX9_transfer_64 rfl vi_7_8 tk_7 ?_
    obtain ⟨σc3, ec3, hf⟩ := cb_bo_o hf
    refine cl_X9_187 68 h dX9_transfer_65 rfl (ct_Memory_putByte ec3) ⟨rfl, rfl, Nat.le_of_ble_eq_true rfl, Nat.le_of_ble_eq_true rfl⟩ rfl (Nat.le_of_ble_eq_true rfl) ?_
    refine cb_bipush 70 h dX9_transfer_68 rfl kb_7 ?_
    exact cb_retI (Wf := WC a ca) h dX9_transfer_70 he hf
  have hf := cb_if q1 hf
  by_cases q4 : v1 = 1 ∨ v1 = 3
  · have hf := cb_it q4 hf
    refine cb_cut (cb_V X (WC a ca σ) 71 [(0, .ref (a 3)), (1, .int v1)] []) (fun jj => ?_) ?_
    · rcases q4 with q4 | q4
      · exact cb_tabI 71 h dX9_transfer_1 q4 (by decide) (by decide) rfl rfl jj
      · exact cb_tabI 71 h dX9_transfer_1 q4 (by decide) (by decide) rfl rfl jj
    refine cb_aload_n 72 0 h dX9_transfer_71 rfl rfl rfl ?_
    refine gf_X9_61 75 h dX9_transfer_72 rfl ?_
    refine cb_bipush 77 h dX9_transfer_75 rfl kb_7 ?_
    refine cb_aload_n 78 0 h dX9_transfer_77 rfl rfl rfl ?_
    refine gf_X9_42 81 h dX9_transfer_78 rfl ?_
    refine cb_aload_n 82 0 h dX9_transfer_81 rfl rfl rfl ?_
    refine gf_X9_54 85 h dX9_transfer_82 rfl ?_
    refine cb_iload_n 86 1 h dX9_transfer_85 rfl rfl rfl ?_
    refine cb_iconst 87 h dX9_transfer_86 rfl kc_1 ?_
    refine cb_ishr 88 h dX9_transfer_87 rfl ?_
    obtain ⟨c5, ec5, hf⟩ := cb_bo_o hf
    refine cl_X9_175 91 h dX9_transfer_88 rfl bank_11 (ct_Bank_pair bank_11 ec5) ⟨rfl, rfl, Nat.le_of_ble_eq_true rfl, Nat.le_of_ble_eq_true rfl⟩ rfl (Nat.le_of_ble_eq_true rfl) ?_
    obtain ⟨c6, ec6, hf⟩ := cb_bo_o hf
    refine cl_X9_190 94 h dX9_transfer_91 rfl (ct_Memory_byteAt ec6) ⟨rfl, rfl, Nat.le_of_ble_eq_true rfl, Nat.le_of_ble_eq_true rfl⟩ rfl (Nat.le_of_ble_eq_true rfl) ?_
    obtain ⟨σ7, e8, hf⟩ := cb_let_o hf
    refine saC_12 95 h dX9_transfer_94 rfl vi_7_8 tk_7 e8 ?_
    refine cb_bipush 97 h dX9_transfer_95 rfl kb_7 ?_
    exact cb_retI (Wf := WC a ca) h dX9_transfer_97 he hf
  have hf := cb_if q4 hf
  by_cases q9 : v1 = 4
  · have hf := cb_it q9 hf
    refine cb_tabI 98 h dX9_transfer_1 q9 (by decide) (by decide) rfl rfl ?_
    refine cb_aload_n 99 0 h dX9_transfer_98 rfl rfl rfl ?_
    refine gf_X9_42 102 h dX9_transfer_99 rfl ?_
    refine cb_aload_n 103 0 h dX9_transfer_102 rfl rfl rfl ?_
    obtain ⟨c10, σc10, ec10, hf⟩ := cb_b2_o hf
    refine cl_X9_172 106 h dX9_transfer_103 rfl (ct_Processor_nextWord ec10) ⟨rfl, rfl, Nat.le_of_ble_eq_true rfl, Nat.le_of_ble_eq_true rfl⟩ rfl (Nat.le_of_ble_eq_true rfl) ?_
    refine cb_aload_n 107 0 h dX9_transfer_106 rfl rfl rfl ?_
    refine gf_X9_54 110 h dX9_transfer_107 rfl ?_
    refine cb_iconst 111 h dX9_transfer_110 rfl kc_2 ?_
    obtain ⟨c11, ec11, hf⟩ := cb_bo_o hf
    refine cl_X9_175 114 h dX9_transfer_111 rfl bank_11 (ct_Bank_pair bank_11 ec11) ⟨rfl, rfl, Nat.le_of_ble_eq_true rfl, Nat.le_of_ble_eq_true rfl⟩ rfl (Nat.le_of_ble_eq_true rfl) ?_
    obtain ⟨σc12, ec12, hf⟩ := cb_bo_o hf
    refine cl_X9_193 117 h dX9_transfer_114 rfl (ct_Memory_putWord ec12) ⟨rfl, rfl, Nat.le_of_ble_eq_true rfl, Nat.le_of_ble_eq_true rfl⟩ rfl (Nat.le_of_ble_eq_true rfl) ?_
    refine cb_bipush 119 h dX9_transfer_117 rfl kb_16 ?_
    exact cb_retI (Wf := WC a ca) h dX9_transfer_119 he hf
  have hf := cb_if q9 hf
  by_cases q13 : v1 = 5
  · have hf := cb_it q13 hf
    refine cb_tabI 120 h dX9_transfer_1 q13 (by decide) (by decide) rfl rfl ?_
    refine cb_aload_n 121 0 h dX9_transfer_120 rfl rfl rfl ?_
    refine gf_X9_54 124 h dX9_transfer_121 rfl ?_
    refine cb_iconst 125 h dX9_transfer_124 rfl kc_2 ?_
    refine cb_aload_n 126 0 h dX9_transfer_125 rfl rfl rfl ?_
    refine gf_X9_42 129 h dX9_transfer_126 rfl ?_
    refine cb_aload_n 130 0 h dX9_transfer_129 rfl rfl rfl ?_
    obtain ⟨c14, σc14, ec14, hf⟩ := cb_b2_o hf
    refine cl_X9_172 133 h dX9_transfer_130 rfl (ct_Processor_nextWord ec14) ⟨rfl, rfl, Nat.le_of_ble_eq_true rfl, Nat.le_of_ble_eq_true rfl⟩ rfl (Nat.le_of_ble_eq_true rfl) ?_
    obtain ⟨c15, ec15, hf⟩ := cb_bo_o hf
    refine cl_X9_118 136 h dX9_transfer_133 rfl (ct_Memory_wordAt ec15) ⟨rfl, rfl, Nat.le_of_ble_eq_true rfl, Nat.le_of_ble_eq_true rfl⟩ rfl (Nat.le_of_ble_eq_true rfl) ?_
    obtain ⟨σc16, ec16, hf⟩ := cb_bo_o hf
    refine cl_X9_181 139 h dX9_transfer_136 rfl bank_11 (ct_Bank_putPair bank_11 ec16) ⟨rfl, rfl, Nat.le_of_ble_eq_true rfl, Nat.le_of_ble_eq_true rfl⟩ rfl (Nat.le_of_ble_eq_true rfl) ?_
    refine cb_bipush 141 h dX9_transfer_139 rfl kb_16 ?_
    exact cb_retI (Wf := WC a ca) h dX9_transfer_141 he hf
  have hf := cb_if q13 hf
  by_cases q17 : v1 = 6
  · have hf := cb_it q17 hf
    refine cb_tabI 142 h dX9_transfer_1 q17 (by decide) (by decide) rfl rfl ?_
    refine cb_aload_n 143 0 h dX9_transfer_142 rfl rfl rfl ?_
    refine gf_X9_42 146 h dX9_transfer_143 rfl ?_
    refine cb_aload_n 147 0 h dX9_transfer_146 rfl rfl rfl ?_
    obtain ⟨c18, σc18, ec18, hf⟩ := cb_b2_o hf
    refine cl_X9_172 150 h dX9_transfer_147 rfl (ct_Processor_nextWord ec18) ⟨rfl, rfl, Nat.le_of_ble_eq_true rfl, Nat.le_of_ble_eq_true rfl⟩ rfl (Nat.le_of_ble_eq_true rfl) ?_
    refine cb_aload_n 151 0 h dX9_transfer_150 rfl rfl rfl ?_
    refine gf_X9_61 154 h dX9_transfer_151 rfl ?_
    refine cb_bipush 156 h dX9_transfer_154 rfl kb_7 ?_
    refine laC_12 157 h dX9_transfer_156 rfl vi_7_8 tk_7 ?_
    obtain ⟨σc19, ec19, hf⟩ := cb_bo_o hf
    refine cl_X9_187 160 h dX9_transfer_157 rfl (ct_Memory_putByte ec19) ⟨rfl, rfl, Nat.le_of_ble_eq_true rfl, Nat.le_of_ble_eq_true rfl⟩ rfl (Nat.le_of_ble_eq_true rfl) ?_
    refine cb_bipush 162 h dX9_transfer_160 rfl kb_13 ?_
    exact cb_retI (Wf := WC a ca) h dX9_transfer_162 he hf
  have hf := cb_if q17 hf
  refine cb_tabO 163 h dX9_transfer_1 (by have t0 := lv_neT (a := 0) (cb_no2_0 q1) (by decide); have t1 := lv_neT (a := 1) (cb_no2_0 q4) (by decide); have t2 := lv_neT (a := 2) (cb_no2_1 q1) (by decide); have t3 := lv_neT (a := 3) (cb_no2_1 q4) (by decide); have t4 := lv_neT (a := 4) q9 (by decide); have t5 := lv_neT (a := 5) q13 (by decide); have t6 := lv_neT (a := 6) q17 (by decide); omega) rfl ?_
  refine cb_aload_n 164 0 h dX9_transfer_163 rfl rfl rfl ?_
  refine gf_X9_61 167 h dX9_transfer_164 rfl ?_
  refine cb_bipush 169 h dX9_transfer_167 rfl kb_7 ?_
  refine cb_aload_n 170 0 h dX9_transfer_169 rfl rfl rfl ?_
  refine gf_X9_42 173 h dX9_transfer_170 rfl ?_
  refine cb_aload_n 174 0 h dX9_transfer_173 rfl rfl rfl ?_
  obtain ⟨c20, σc20, ec20, hf⟩ := cb_b2_o hf
  refine cl_X9_172 177 h dX9_transfer_174 rfl (ct_Processor_nextWord ec20) ⟨rfl, rfl, Nat.le_of_ble_eq_true rfl, Nat.le_of_ble_eq_true rfl⟩ rfl (Nat.le_of_ble_eq_true rfl) ?_
  obtain ⟨c21, ec21, hf⟩ := cb_bo_o hf
  refine cl_X9_190 180 h dX9_transfer_177 rfl (ct_Memory_byteAt ec21) ⟨rfl, rfl, Nat.le_of_ble_eq_true rfl, Nat.le_of_ble_eq_true rfl⟩ rfl (Nat.le_of_ble_eq_true rfl) ?_
  obtain ⟨σ22, e23, hf⟩ := cb_let_o hf
  refine saC_12 181 h dX9_transfer_180 rfl vi_7_8 tk_7 e23 ?_
  refine cb_bipush 183 h dX9_transfer_181 rfl kb_13 ?_
  exact cb_retI (Wf := WC a ca) h dX9_transfer_183 he hf
set_option maxRecDepth 100000 in
set_option maxHeartbeats 4000000 in
theorem ct_Processor_read {l : Launch} {D : va_G} {a : Nat → Nat} {ca : Nat → ClassId} {σ : cb_S} {v1 : Int32} {r : Int32} (hf : c_Processor_read σ v1 = some r) : cb_C l yX9_read cX9_read 2 (some .int) { frames := 1, cells := 0, slots := 0, locals := 22 } D (EC ca) (adC a) [.ref (a 3), .int v1] (WC a ca σ) (some (.int r)) (WC a ca σ) := by
  refine cb_mk [(0, .ref (a 3)), (1, .int v1)] (by decide) (Nat.le_of_ble_eq_true rfl) rfl (fun X h he => ?_) goodC
  have h : cb_ok X cX9_read RX9 (EC ca) 1 22 2 := h
  unfold c_Processor_read at hf
  refine cb_iload_n 1 1 h dX9_read_0 rfl rfl rfl ?_
  refine cb_bipush 3 h dX9_read_1 rfl kb_6 ?_
  refine cb_icmp_ne 22 6 h dX9_read_3 rfl rfl (fun q1 => ?_) (fun q1 => ?_)
  · have hf := cb_if q1 hf
    refine cb_aload_n 23 0 h dX9_read_22 rfl rfl rfl ?_
    refine gf_X9_61 26 h dX9_read_23 rfl ?_
    refine cb_iload_n 27 1 h dX9_read_26 rfl rfl rfl ?_
    refine cb_bipush 29 h dX9_read_27 rfl kb_7 ?_
    refine cb_iand 30 h dX9_read_29 rfl ?_
    refine laC_12 31 h dX9_read_30 rfl (vm_7 _) rfl ?_
    exact cb_retJ h dX9_read_31 he hf
  · have hf := cb_it q1 hf
    refine cb_aload_n 7 0 h dX9_read_6 rfl rfl rfl ?_
    refine gf_X9_42 10 h dX9_read_7 rfl ?_
    refine cb_aload_n 11 0 h dX9_read_10 rfl rfl rfl ?_
    refine gf_X9_54 14 h dX9_read_11 rfl ?_
    refine cb_iconst 15 h dX9_read_14 rfl kc_2 ?_
    obtain ⟨c2, ec2, hf⟩ := cb_bo_o hf
    refine cl_X9_175 18 h dX9_read_15 rfl bank_11 (ct_Bank_pair bank_11 ec2) ⟨rfl, rfl, Nat.le_of_ble_eq_true rfl, Nat.le_of_ble_eq_true rfl⟩ rfl (Nat.le_of_ble_eq_true rfl) ?_
    obtain ⟨c3, ec3, hf⟩ := cb_bo_o hf
    refine cl_X9_190 21 h dX9_read_18 rfl (ct_Memory_byteAt ec3) ⟨rfl, rfl, Nat.le_of_ble_eq_true rfl, Nat.le_of_ble_eq_true rfl⟩ rfl (Nat.le_of_ble_eq_true rfl) ?_
    exact cb_retJ h dX9_read_21 he hf
set_option maxRecDepth 100000 in
set_option maxHeartbeats 4000000 in
theorem ct_Flags_signAndZero {l : Launch} {D : va_G} {ca : Nat → ClassId} {w : va_W} {v0 : Int32} {r : Int32} {as : List Nat} (hf : c_Flags_signAndZero v0 = some r) : cb_C l yX6_signAndZero cX6_signAndZero 1 (some .int) { frames := 0, cells := 0, slots := 0, locals := 0 } D (EC ca) (as) [.int v0] (w) (some (.int r)) (w) := by
  refine cb_mk [(0, .int v0)] (by decide) (Nat.le_of_ble_eq_true rfl) rfl (fun X h he => ?_) goodC
  have h : cb_ok X cX6_signAndZero RX6 (EC ca) 0 0 1 := h
  unfold c_Flags_signAndZero at hf
  refine cb_iload_n 1 0 h dX6_signAndZero_0 rfl rfl rfl ?_
  refine cb_sipush 4 h dX6_signAndZero_1 rfl ks_128 ?_
  refine cb_iand 5 h dX6_signAndZero_4 rfl ?_
  refine cb_iload_n 6 0 h dX6_signAndZero_5 rfl rfl rfl ?_
  refine cb_cut (cb_V X (w) 15 [(0, .int v0)] [.int (if v0 = 0 then (64 : Int32) else (0 : Int32)), .int (v0 &&& (128 : Int32))]) (fun jj => ?_) ?_
  · refine cb_if_ne 14 9 h dX6_signAndZero_6 rfl rfl (fun q1 => ?_) (fun q1 => ?_)
    · refine cb_iconst 15 h dX6_signAndZero_14 rfl kc_0 ?_
      exact (cb_tf q1 jj)
    · refine cb_bipush 11 h dX6_signAndZero_9 rfl kb_64 ?_
      refine cb_goto 15 h dX6_signAndZero_11 rfl ?_
      exact (cb_tt q1 jj)
  refine cb_ior 16 h dX6_signAndZero_15 rfl ?_
  exact cb_retJ h dX6_signAndZero_16 he hf
set_option maxRecDepth 100000 in
set_option maxHeartbeats 4000000 in
theorem ct_Flags_add {l : Launch} {D : va_G} {ca : Nat → ClassId} {w : va_W} {v0 v1 v2 : Int32} {r : Int32} {as : List Nat} (hf : c_Flags_add v0 v1 v2 = some r) : cb_C l yX6_add cX6_add 7 (some .int) { frames := 1, cells := 0, slots := 0, locals := 20 } D (EC ca) (as) [.int v0, .int v1, .int v2] (w) (some (.int r)) (w) := by
  refine cb_mk [(0, .int v0), (1, .int v1), (2, .int v2)] (by decide) (Nat.le_of_ble_eq_true rfl) rfl (fun X h he => ?_) goodC
  have h : cb_ok X cX6_add RX6 (EC ca) 1 20 7 := h
  unfold c_Flags_add at hf
  refine cb_iload_n 1 0 h dX6_add_0 rfl rfl rfl ?_
  refine cb_iload_n 2 1 h dX6_add_1 rfl rfl rfl ?_
  refine cb_iadd 3 h dX6_add_2 rfl ?_
  refine cb_iload_n 4 2 h dX6_add_3 rfl rfl rfl ?_
  refine cb_iadd 5 h dX6_add_4 rfl ?_
  obtain ⟨t1, e2, hf⟩ := cb_let_o hf
  refine cb_istore_n (lv' := [(3, .int t1), (0, .int v0), (1, .int v1), (2, .int v2)]) 6 h dX6_add_5 rfl rfl e2 (Nat.le_of_ble_eq_true rfl) rfl ?_
  refine cb_iload_n 7 0 h dX6_add_6 rfl rfl rfl ?_
  refine cb_sipush 10 h dX6_add_7 rfl ks_255 ?_
  refine cb_iand 11 h dX6_add_10 rfl ?_
  obtain ⟨t3, e4, hf⟩ := cb_let_o hf
  refine cb_istore (lv' := [(4, .int t3), (3, .int t1), (0, .int v0), (1, .int v1), (2, .int v2)]) 13 h dX6_add_11 rfl e4 (Nat.le_of_ble_eq_true rfl) rfl ?_
  refine cb_iload_n 14 2 h dX6_add_13 rfl rfl rfl ?_
  refine cb_iload_n 15 3 h dX6_add_14 rfl rfl rfl ?_
  refine cb_ixor 16 h dX6_add_15 rfl ?_
  refine cb_iload_n 17 1 h dX6_add_16 rfl rfl rfl ?_
  refine cb_ixor 18 h dX6_add_17 rfl ?_
  refine cb_bipush 20 h dX6_add_18 rfl kb_16 ?_
  refine cb_iand 21 h dX6_add_20 rfl ?_
  obtain ⟨t5, e6, hf⟩ := cb_let_o hf
  refine cb_istore (lv' := [(5, .int t5), (4, .int t3), (3, .int t1), (0, .int v0), (1, .int v1), (2, .int v2)]) 23 h dX6_add_21 rfl e6 (Nat.le_of_ble_eq_true rfl) rfl ?_
  refine cb_iload_n 24 3 h dX6_add_23 rfl rfl rfl ?_
  refine cb_iload_n 25 2 h dX6_add_24 rfl rfl rfl ?_
  refine cb_ixor 26 h dX6_add_25 rfl ?_
  refine cb_iload_n 27 4 h dX6_add_26 rfl rfl rfl ?_
  refine cb_iload_n 28 2 h dX6_add_27 rfl rfl rfl ?_
  refine cb_ixor 29 h dX6_add_28 rfl ?_
  refine cb_iand 30 h dX6_add_29 rfl ?_
  refine cb_sipush 33 h dX6_add_30 rfl ks_128 ?_
  refine cb_iand 34 h dX6_add_33 rfl ?_
  refine cb_iconst 35 h dX6_add_34 rfl kc_5 ?_
  refine cb_ishr 36 h dX6_add_35 rfl ?_
  obtain ⟨t7, e8, hf⟩ := cb_let_o hf
  refine cb_istore (lv' := [(6, .int t7), (5, .int t5), (4, .int t3), (3, .int t1), (0, .int v0), (1, .int v1), (2, .int v2)]) 38 h dX6_add_36 rfl e8 (Nat.le_of_ble_eq_true rfl) rfl ?_
  refine cb_iload 40 2 h dX6_add_38 rfl rfl ?_
  refine cb_bipush 42 h dX6_add_40 rfl kb_8 ?_
  refine cb_ishl 43 h dX6_add_42 rfl ?_
  refine cb_iload 45 2 h dX6_add_43 rfl rfl ?_
  obtain ⟨c9, ec9, hf⟩ := cb_bo_o hf
  refine cl_X6_9 48 h dX6_add_45 rfl (ct_Flags_signAndZero ec9) ⟨rfl, rfl, Nat.le_of_ble_eq_true rfl, Nat.le_of_ble_eq_true rfl⟩ rfl (Nat.le_of_ble_eq_true rfl) ?_
  refine cb_ior 49 h dX6_add_48 rfl ?_
  refine cb_iload 51 1 h dX6_add_49 rfl rfl ?_
  refine cb_ior 52 h dX6_add_51 rfl ?_
  refine cb_iload 54 0 h dX6_add_52 rfl rfl ?_
  refine cb_ior 55 h dX6_add_54 rfl ?_
  refine cb_iload_n 56 3 h dX6_add_55 rfl rfl rfl ?_
  refine cb_bipush 58 h dX6_add_56 rfl kb_8 ?_
  refine cb_ishr 59 h dX6_add_58 rfl ?_
  refine cb_ior 60 h dX6_add_59 rfl ?_
  exact cb_retJ h dX6_add_60 he hf
set_option maxRecDepth 100000 in
set_option maxHeartbeats 4000000 in
theorem ct_Processor_write {l : Launch} {D : va_G} {a : Nat → Nat} {ca : Nat → ClassId} {σ σ' : cb_S} {v1 v2 : Int32} (hf : c_Processor_write σ v1 v2 = some σ') : cb_C l yX9_write cX9_write 3 none { frames := 1, cells := 0, slots := 0, locals := 22 } D (EC ca) (adC a) [.ref (a 3), .int v1, .int v2] (WC a ca σ) none (WC a ca σ') := by
  refine cb_mk [(0, .ref (a 3)), (1, .int v1), (2, .int v2)] (by decide) (Nat.le_of_ble_eq_true rfl) rfl (fun X h he => ?_) goodC
  have h : cb_ok X cX9_write RX9 (EC ca) 1 22 3 := h
  unfold c_Processor_write at hf
  refine cb_iload_n 1 1 h dX9_write_0 rfl rfl rfl ?_
  refine cb_bipush 3 h dX9_write_1 rfl kb_6 ?_
  refine cb_icmp_ne 25 6 h dX9_write_3 rfl rfl (fun q1 => ?_) (fun q1 => ?_)
  · have hf := cb_if q1 hf
    refine cb_aload_n 26 0 h dX9_write_25 rfl rfl rfl ?_
    refine gf_X9_61 29 h dX9_write_26 rfl ?_
    refine cb_iload_n 30 1 h dX9_write_29 rfl rfl rfl ?_
    refine cb_bipush 32 h dX9_write_30 rfl kb_7 ?_
    refine cb_iand 33 h dX9_write_32 rfl ?_
    refine cb_iload_n 34 2 h dX9_write_33 rfl rfl rfl ?_
    obtain ⟨σ2, e3, hf⟩ := cb_let_o hf
    refine saC_12 35 h dX9_write_34 rfl (vm_7 _) rfl e3 ?_
    exact cb_retV (Wf := WC a ca) h dX9_write_35 he hf
  · have hf := cb_it q1 hf
    refine cb_aload_n 7 0 h dX9_write_6 rfl rfl rfl ?_
    refine gf_X9_42 10 h dX9_write_7 rfl ?_
    refine cb_aload_n 11 0 h dX9_write_10 rfl rfl rfl ?_
    refine gf_X9_54 14 h dX9_write_11 rfl ?_
    refine cb_iconst 15 h dX9_write_14 rfl kc_2 ?_
    obtain ⟨c4, ec4, hf⟩ := cb_bo_o hf
    refine cl_X9_175 18 h dX9_write_15 rfl bank_11 (ct_Bank_pair bank_11 ec4) ⟨rfl, rfl, Nat.le_of_ble_eq_true rfl, Nat.le_of_ble_eq_true rfl⟩ rfl (Nat.le_of_ble_eq_true rfl) ?_
    refine cb_iload_n 19 2 h dX9_write_18 rfl rfl rfl ?_
    obtain ⟨σc5, ec5, hf⟩ := cb_bo_o hf
    refine cl_X9_187 22 h dX9_write_19 rfl (ct_Memory_putByte ec5) ⟨rfl, rfl, Nat.le_of_ble_eq_true rfl, Nat.le_of_ble_eq_true rfl⟩ rfl (Nat.le_of_ble_eq_true rfl) ?_
    refine cb_goto 35 h dX9_write_22 rfl ?_
    exact cb_retV (Wf := WC a ca) h dX9_write_35 he hf
set_option maxRecDepth 100000 in
set_option maxHeartbeats 4000000 in
theorem ct_Processor_step {l : Launch} {D : va_G} {a : Nat → Nat} {ca : Nat → ClassId} {σ σ' : cb_S} {v1 v2 : Int32} {r : Int32} (hf : c_Processor_step σ v1 v2 = some (r, σ')) : cb_C l yX9_step cX9_step 3 (some .int) { frames := 2, cells := 0, slots := 0, locals := 44 } D (EC ca) (adC a) [.ref (a 3), .int v1, .int v2] (WC a ca σ) (some (.int r)) (WC a ca σ') := by
  refine cb_mk [(0, .ref (a 3)), (1, .int v1), (2, .int v2)] (by decide) (Nat.le_of_ble_eq_true rfl) rfl (fun X h he => ?_) goodC
  have h : cb_ok X cX9_step RX9 (EC ca) 2 44 3 := h
  unfold c_Processor_step at hf
  refine cb_aload_n 1 0 h dX9_step_0 rfl rfl rfl ?_
  refine cb_iload_n 2 1 h dX9_step_1 rfl rfl rfl ?_
  refine cb_iload_n 3 2 h dX9_step_2 rfl rfl rfl ?_
  refine cb_bipush 5 h dX9_step_3 rfl kb_8 ?_
  refine cb_ishr 6 h dX9_step_5 rfl ?_
  obtain ⟨σc1, ec1, hf⟩ := cb_bo_o hf
  refine cl_X9_154 9 h dX9_step_6 rfl (ct_Processor_write ec1) ⟨rfl, rfl, Nat.le_of_ble_eq_true rfl, Nat.le_of_ble_eq_true rfl⟩ rfl (Nat.le_of_ble_eq_true rfl) ?_
  refine cb_aload_n 10 0 h dX9_step_9 rfl rfl rfl ?_
  refine cb_sipush 13 h dX9_step_10 rfl ks_214 ?_
  refine cb_iload_n 14 2 h dX9_step_13 rfl rfl rfl ?_
  obtain ⟨σc2, ec2, hf⟩ := cb_bo_o hf
  refine cl_X9_184 17 h dX9_step_14 rfl (ct_Processor_changeFlags ec2) ⟨rfl, rfl, Nat.le_of_ble_eq_true rfl, Nat.le_of_ble_eq_true rfl⟩ rfl (Nat.le_of_ble_eq_true rfl) ?_
  refine cb_iload_n 18 1 h dX9_step_17 rfl rfl rfl ?_
  refine cb_bipush 20 h dX9_step_18 rfl kb_6 ?_
  refine cb_cut (cb_V X (WC a ca σc2) 29 [(0, .ref (a 3)), (1, .int v1), (2, .int v2)] [.int (if v1 = (6 : Int32) then (11 : Int32) else (4 : Int32))]) (fun jj => ?_) ?_
  · refine cb_icmp_ne 28 23 h dX9_step_20 rfl rfl (fun q3 => ?_) (fun q3 => ?_)
    · refine cb_iconst 29 h dX9_step_28 rfl kc_4 ?_
      exact (cb_tf q3 jj)
    · refine cb_bipush 25 h dX9_step_23 rfl kb_11 ?_
      refine cb_goto 29 h dX9_step_25 rfl ?_
      exact (cb_tt q3 jj)
  exact cb_retI (Wf := WC a ca) h dX9_step_29 he hf
set_option maxRecDepth 100000 in
set_option maxHeartbeats 4000000 in
theorem ct_Flags_subtract {l : Launch} {D : va_G} {ca : Nat → ClassId} {w : va_W} {v0 v1 v2 : Int32} {r : Int32} {as : List Nat} (hf : c_Flags_subtract v0 v1 v2 = some r) : cb_C l yX6_subtract cX6_subtract 7 (some .int) { frames := 1, cells := 0, slots := 0, locals := 20 } D (EC ca) (as) [.int v0, .int v1, .int v2] (w) (some (.int r)) (w) := by
  refine cb_mk [(0, .int v0), (1, .int v1), (2, .int v2)] (by decide) (Nat.le_of_ble_eq_true rfl) rfl (fun X h he => ?_) goodC
  have h : cb_ok X cX6_subtract RX6 (EC ca) 1 20 7 := h
  unfold c_Flags_subtract at hf
  refine cb_iload_n 1 0 h dX6_subtract_0 rfl rfl rfl ?_
  refine cb_iload_n 2 1 h dX6_subtract_1 rfl rfl rfl ?_
  refine cb_isub 3 h dX6_subtract_2 rfl ?_
  refine cb_iload_n 4 2 h dX6_subtract_3 rfl rfl rfl ?_
  refine cb_isub 5 h dX6_subtract_4 rfl ?_
  obtain ⟨t1, e2, hf⟩ := cb_let_o hf
  refine cb_istore_n (lv' := [(3, .int t1), (0, .int v0), (1, .int v1), (2, .int v2)]) 6 h dX6_subtract_5 rfl rfl e2 (Nat.le_of_ble_eq_true rfl) rfl ?_
  refine cb_iload_n 7 0 h dX6_subtract_6 rfl rfl rfl ?_
  refine cb_sipush 10 h dX6_subtract_7 rfl ks_255 ?_
  refine cb_iand 11 h dX6_subtract_10 rfl ?_
  obtain ⟨t3, e4, hf⟩ := cb_let_o hf
  refine cb_istore (lv' := [(4, .int t3), (3, .int t1), (0, .int v0), (1, .int v1), (2, .int v2)]) 13 h dX6_subtract_11 rfl e4 (Nat.le_of_ble_eq_true rfl) rfl ?_
  refine cb_iload_n 14 2 h dX6_subtract_13 rfl rfl rfl ?_
  refine cb_iload_n 15 3 h dX6_subtract_14 rfl rfl rfl ?_
  refine cb_ixor 16 h dX6_subtract_15 rfl ?_
  refine cb_iload_n 17 1 h dX6_subtract_16 rfl rfl rfl ?_
  refine cb_ixor 18 h dX6_subtract_17 rfl ?_
  refine cb_bipush 20 h dX6_subtract_18 rfl kb_16 ?_
  refine cb_iand 21 h dX6_subtract_20 rfl ?_
  obtain ⟨t5, e6, hf⟩ := cb_let_o hf
  refine cb_istore (lv' := [(5, .int t5), (4, .int t3), (3, .int t1), (0, .int v0), (1, .int v1), (2, .int v2)]) 23 h dX6_subtract_21 rfl e6 (Nat.le_of_ble_eq_true rfl) rfl ?_
  refine cb_iload_n 24 3 h dX6_subtract_23 rfl rfl rfl ?_
  refine cb_iload_n 25 4 h dX6_subtract_24 rfl rfl rfl ?_
  refine cb_ixor 26 h dX6_subtract_25 rfl ?_
  refine cb_iload_n 27 3 h dX6_subtract_26 rfl rfl rfl ?_
  refine cb_iload_n 28 2 h dX6_subtract_27 rfl rfl rfl ?_
  refine cb_ixor 29 h dX6_subtract_28 rfl ?_
  refine cb_iand 30 h dX6_subtract_29 rfl ?_
  refine cb_sipush 33 h dX6_subtract_30 rfl ks_128 ?_
  refine cb_iand 34 h dX6_subtract_33 rfl ?_
  refine cb_iconst 35 h dX6_subtract_34 rfl kc_5 ?_
  refine cb_ishr 36 h dX6_subtract_35 rfl ?_
  obtain ⟨t7, e8, hf⟩ := cb_let_o hf
  refine cb_istore (lv' := [(6, .int t7), (5, .int t5), (4, .int t3), (3, .int t1), (0, .int v0), (1, .int v1), (2, .int v2)]) 38 h dX6_subtract_36 rfl e8 (Nat.le_of_ble_eq_true rfl) rfl ?_
  refine cb_iload 40 2 h dX6_subtract_38 rfl rfl ?_
  refine cb_bipush 42 h dX6_subtract_40 rfl kb_8 ?_
  refine cb_ishl 43 h dX6_subtract_42 rfl ?_
  refine cb_iload 45 2 h dX6_subtract_43 rfl rfl ?_
  obtain ⟨c9, ec9, hf⟩ := cb_bo_o hf
  refine cl_X6_9 48 h dX6_subtract_45 rfl (ct_Flags_signAndZero ec9) ⟨rfl, rfl, Nat.le_of_ble_eq_true rfl, Nat.le_of_ble_eq_true rfl⟩ rfl (Nat.le_of_ble_eq_true rfl) ?_
  refine cb_ior 49 h dX6_subtract_48 rfl ?_
  refine cb_iload 51 1 h dX6_subtract_49 rfl rfl ?_
  refine cb_ior 52 h dX6_subtract_51 rfl ?_
  refine cb_iload 54 0 h dX6_subtract_52 rfl rfl ?_
  refine cb_ior 55 h dX6_subtract_54 rfl ?_
  refine cb_iconst 56 h dX6_subtract_55 rfl kc_2 ?_
  refine cb_ior 57 h dX6_subtract_56 rfl ?_
  refine cb_iload_n 58 3 h dX6_subtract_57 rfl rfl rfl ?_
  refine cb_bipush 60 h dX6_subtract_58 rfl kb_8 ?_
  refine cb_ishr 61 h dX6_subtract_60 rfl ?_
  refine cb_iconst 62 h dX6_subtract_61 rfl kc_1 ?_
  refine cb_iand 63 h dX6_subtract_62 rfl ?_
  refine cb_ior 64 h dX6_subtract_63 rfl ?_
  exact cb_retJ h dX6_subtract_64 he hf
set_option maxRecDepth 100000 in
set_option maxHeartbeats 4000000 in
theorem ct_Integer_bitCount {l : Launch} {D : va_G} {ca : Nat → ClassId} {w : va_W} {v0 : Int32} {r : Int32} {as : List Nat} (hf : c_Integer_bitCount v0 = some r) : cb_C l yX13_bitCount cX13_bitCount 1 (some .int) { frames := 0, cells := 0, slots := 0, locals := 0 } D (EC ca) (as) [.int v0] (w) (some (.int r)) (w) := by
  refine cb_mk [(0, .int v0)] (by decide) (Nat.le_of_ble_eq_true rfl) rfl (fun X h he => ?_) goodC
  have h : cb_ok X cX13_bitCount RX13 (EC ca) 0 0 1 := h
  unfold c_Integer_bitCount at hf
  refine cb_iload_n 1 0 h dX13_bitCount_0 rfl rfl rfl ?_
  refine cb_iload_n 2 0 h dX13_bitCount_1 rfl rfl rfl ?_
  refine cb_iconst 3 h dX13_bitCount_2 rfl kc_1 ?_
  refine cb_iushr 4 h dX13_bitCount_3 rfl ?_
  refine cb_ldcw 7 h dX13_bitCount_4 rfl (cb_t2 191 rfl rfl) ?_
  refine cb_iand 8 h dX13_bitCount_7 rfl ?_
  refine cb_isub 9 h dX13_bitCount_8 rfl ?_
  obtain ⟨t1, e2, hf⟩ := cb_let_o hf
  refine cb_istore_n (lv' := [(0, .int t1)]) 10 h dX13_bitCount_9 rfl rfl e2 (Nat.le_of_ble_eq_true rfl) rfl ?_
  refine cb_iload_n 11 0 h dX13_bitCount_10 rfl rfl rfl ?_
  refine cb_ldcw 14 h dX13_bitCount_11 rfl (cb_t2 192 rfl rfl) ?_
  refine cb_iand 15 h dX13_bitCount_14 rfl ?_
  refine cb_iload_n 16 0 h dX13_bitCount_15 rfl rfl rfl ?_
  refine cb_iconst 17 h dX13_bitCount_16 rfl kc_2 ?_
  refine cb_iushr 18 h dX13_bitCount_17 rfl ?_
  refine cb_ldcw 21 h dX13_bitCount_18 rfl (cb_t2 192 rfl rfl) ?_
  refine cb_iand 22 h dX13_bitCount_21 rfl ?_
  refine cb_iadd 23 h dX13_bitCount_22 rfl ?_
  obtain ⟨t3, e4, hf⟩ := cb_let_o hf
  refine cb_istore_n (lv' := [(0, .int t3)]) 24 h dX13_bitCount_23 rfl rfl e4 (Nat.le_of_ble_eq_true rfl) rfl ?_
  refine cb_iload_n 25 0 h dX13_bitCount_24 rfl rfl rfl ?_
  refine cb_iload_n 26 0 h dX13_bitCount_25 rfl rfl rfl ?_
  refine cb_iconst 27 h dX13_bitCount_26 rfl kc_4 ?_
  refine cb_iushr 28 h dX13_bitCount_27 rfl ?_
  refine cb_iadd 29 h dX13_bitCount_28 rfl ?_
  refine cb_ldcw 32 h dX13_bitCount_29 rfl (cb_t2 193 rfl rfl) ?_
  refine cb_iand 33 h dX13_bitCount_32 rfl ?_
  obtain ⟨t5, e6, hf⟩ := cb_let_o hf
  refine cb_istore_n (lv' := [(0, .int t5)]) 34 h dX13_bitCount_33 rfl rfl e6 (Nat.le_of_ble_eq_true rfl) rfl ?_
  refine cb_iload_n 35 0 h dX13_bitCount_34 rfl rfl rfl ?_
  refine cb_iload_n 36 0 h dX13_bitCount_35 rfl rfl rfl ?_
  refine cb_bipush 38 h dX13_bitCount_36 rfl kb_8 ?_
  refine cb_iushr 39 h dX13_bitCount_38 rfl ?_
  refine cb_iadd 40 h dX13_bitCount_39 rfl ?_
  obtain ⟨t7, e8, hf⟩ := cb_let_o hf
  refine cb_istore_n (lv' := [(0, .int t7)]) 41 h dX13_bitCount_40 rfl rfl e8 (Nat.le_of_ble_eq_true rfl) rfl ?_
  refine cb_iload_n 42 0 h dX13_bitCount_41 rfl rfl rfl ?_
  refine cb_iload_n 43 0 h dX13_bitCount_42 rfl rfl rfl ?_
  refine cb_bipush 45 h dX13_bitCount_43 rfl kb_16 ?_
  refine cb_iushr 46 h dX13_bitCount_45 rfl ?_
  refine cb_iadd 47 h dX13_bitCount_46 rfl ?_
  obtain ⟨t9, e10, hf⟩ := cb_let_o hf
  refine cb_istore_n (lv' := [(0, .int t9)]) 48 h dX13_bitCount_47 rfl rfl e10 (Nat.le_of_ble_eq_true rfl) rfl ?_
  refine cb_iload_n 49 0 h dX13_bitCount_48 rfl rfl rfl ?_
  refine cb_bipush 51 h dX13_bitCount_49 rfl kb_63 ?_
  refine cb_iand 52 h dX13_bitCount_51 rfl ?_
  exact cb_retJ h dX13_bitCount_52 he hf
set_option maxRecDepth 100000 in
set_option maxHeartbeats 4000000 in
theorem ct_Flags_withParity {l : Launch} {D : va_G} {ca : Nat → ClassId} {w : va_W} {v0 : Int32} {r : Int32} {as : List Nat} (hf : c_Flags_withParity v0 = some r) : cb_C l yX6_withParity cX6_withParity 2 (some .int) { frames := 1, cells := 0, slots := 0, locals := 20 } D (EC ca) (as) [.int v0] (w) (some (.int r)) (w) := by
  refine cb_mk [(0, .int v0)] (by decide) (Nat.le_of_ble_eq_true rfl) rfl (fun X h he => ?_) goodC
  have h : cb_ok X cX6_withParity RX6 (EC ca) 1 20 2 := h
  unfold c_Flags_withParity at hf
  refine cb_iload_n 1 0 h dX6_withParity_0 rfl rfl rfl ?_
  obtain ⟨c1, ec1, hf⟩ := cb_bo_o hf
  refine cl_X6_28 4 h dX6_withParity_1 rfl (ct_Integer_bitCount ec1) ⟨rfl, rfl, Nat.le_of_ble_eq_true rfl, Nat.le_of_ble_eq_true rfl⟩ rfl (Nat.le_of_ble_eq_true rfl) ?_
  refine cb_iconst 5 h dX6_withParity_4 rfl kc_1 ?_
  refine cb_iand 6 h dX6_withParity_5 rfl ?_
  refine cb_cut (cb_V X (w) 14 [(0, .int v0)] [.int (if (c1 &&& (1 : Int32)) = 0 then (4 : Int32) else (0 : Int32))]) (fun jj => ?_) ?_
  · refine cb_if_ne 13 9 h dX6_withParity_6 rfl rfl (fun q2 => ?_) (fun q2 => ?_)
    · refine cb_iconst 14 h dX6_withParity_13 rfl kc_0 ?_
      exact (cb_tf q2 jj)
    · refine cb_iconst 10 h dX6_withParity_9 rfl kc_4 ?_
      refine cb_goto 14 h dX6_withParity_10 rfl ?_
      exact (cb_tt q2 jj)
  obtain ⟨t3, e4, hf⟩ := cb_let_o hf
  refine cb_istore_n (lv' := [(1, .int t3), (0, .int v0)]) 15 h dX6_withParity_14 rfl rfl e4 (Nat.le_of_ble_eq_true rfl) rfl ?_
  refine cb_iload_n 16 1 h dX6_withParity_15 rfl rfl rfl ?_
  refine cb_bipush 18 h dX6_withParity_16 rfl kb_8 ?_
  refine cb_ishl 19 h dX6_withParity_18 rfl ?_
  refine cb_iload_n 20 1 h dX6_withParity_19 rfl rfl rfl ?_
  obtain ⟨c5, ec5, hf⟩ := cb_bo_o hf
  refine cl_X6_9 23 h dX6_withParity_20 rfl (ct_Flags_signAndZero ec5) ⟨rfl, rfl, Nat.le_of_ble_eq_true rfl, Nat.le_of_ble_eq_true rfl⟩ rfl (Nat.le_of_ble_eq_true rfl) ?_
  refine cb_ior 24 h dX6_withParity_23 rfl ?_
  refine cb_iload_n 25 0 h dX6_withParity_24 rfl rfl rfl ?_
  refine cb_ior 26 h dX6_withParity_25 rfl ?_
  exact cb_retJ h dX6_withParity_26 he hf
set_option maxRecDepth 100000 in
set_option maxHeartbeats 4000000 in
theorem ct_Flags_shift {l : Launch} {D : va_G} {ca : Nat → ClassId} {w : va_W} {v0 v1 v2 : Int32} {r : Int32} {as : List Nat} (hf : c_Flags_shift v0 v1 v2 = some r) : cb_C l yX6_shift cX6_shift 7 (some .int) { frames := 2, cells := 0, slots := 0, locals := 41 } D (EC ca) (as) [.int v0, .int v1, .int v2] (w) (some (.int r)) (w) := by
  refine cb_mk [(0, .int v0), (1, .int v1), (2, .int v2)] (by decide) (Nat.le_of_ble_eq_true rfl) rfl (fun X h he => ?_) goodC
  have h : cb_ok X cX6_shift RX6 (EC ca) 2 41 7 := h
  unfold c_Flags_shift at hf
  have j93 : ∀ (x3 : Int32) (x4 : Int32) (x5 : Int32), c_Flags_shift_L93 v0 v1 v2 x3 x4 x5 = some r → cb_V X (w) 93 [(1, .int v1), (3, .int x3), (4, .int x4), (5, .int x5)] [] := by
    intro x3 x4 x5 hf
    unfold c_Flags_shift_L93 at hf
    refine cb_iload_n 94 1 h dX6_shift_93 rfl rfl rfl ?_
    refine cb_cut (cb_V X (w) 119 [(1, .int v1), (3, .int x3), (4, .int x4), (5, .int x5)] [.int (if x3 = 0 then ((v1 >>> ((1 : Int32) &&& 31)) ||| (x5 <<< ((7 : Int32) &&& 31))) else (((v1 <<< ((1 : Int32) &&& 31)) &&& (255 : Int32)) ||| x5))]) (fun jj => ?_) ?_
    · refine cb_if_eq 110 97 h dX6_shift_94 rfl rfl (fun q1 => ?_) (fun q1 => ?_)
      · refine cb_iload_n 111 0 h dX6_shift_110 rfl rfl rfl ?_
        refine cb_iconst 112 h dX6_shift_111 rfl kc_1 ?_
        refine cb_ishr 113 h dX6_shift_112 rfl ?_
        refine cb_iload 115 3 h dX6_shift_113 rfl rfl ?_
        refine cb_bipush 117 h dX6_shift_115 rfl kb_7 ?_
        refine cb_ishl 118 h dX6_shift_117 rfl ?_
        refine cb_ior 119 h dX6_shift_118 rfl ?_
        exact (cb_tt q1 jj)
      · refine cb_iload_n 98 0 h dX6_shift_97 rfl rfl rfl ?_
        refine cb_iconst 99 h dX6_shift_98 rfl kc_1 ?_
        refine cb_ishl 100 h dX6_shift_99 rfl ?_
        refine cb_sipush 103 h dX6_shift_100 rfl ks_255 ?_
        refine cb_iand 104 h dX6_shift_103 rfl ?_
        refine cb_iload 106 3 h dX6_shift_104 rfl rfl ?_
        refine cb_ior 107 h dX6_shift_106 rfl ?_
        refine cb_goto 119 h dX6_shift_107 rfl ?_
        exact (cb_tf q1 jj)
    obtain ⟨t2, e3, hf⟩ := cb_let_o hf
    refine cb_istore (lv' := [(6, .int t2), (1, .int v1), (3, .int x3), (4, .int x4), (5, .int x5)]) 121 h dX6_shift_119 rfl e3 (Nat.le_of_ble_eq_true rfl) rfl ?_
    refine cb_iload 123 0 h dX6_shift_121 rfl rfl ?_
    obtain ⟨c4, ec4, hf⟩ := cb_bo_o hf
    refine cl_X6_25 126 h dX6_shift_123 rfl (ct_Flags_withParity ec4) ⟨rfl, rfl, Nat.le_of_ble_eq_true rfl, Nat.le_of_ble_eq_true rfl⟩ rfl (Nat.le_of_ble_eq_true rfl) ?_
    refine cb_iload 128 3 h dX6_shift_126 rfl rfl ?_
    refine cb_ior 129 h dX6_shift_128 rfl ?_
    exact cb_retJ h dX6_shift_129 he hf
  refine cb_iload_n 1 0 h dX6_shift_0 rfl rfl rfl ?_
  refine cb_iconst 2 h dX6_shift_1 rfl kc_1 ?_
  refine cb_iand 3 h dX6_shift_2 rfl ?_
  refine cb_cut (cb_V X (w) 11 [(0, .int v0), (1, .int v1), (2, .int v2)] [.int (if (v0 &&& (1 : Int32)) = 0 then (1 : Int32) else (0 : Int32))]) (fun jj => ?_) ?_
  · refine cb_if_ne 10 6 h dX6_shift_3 rfl rfl (fun q5 => ?_) (fun q5 => ?_)
    · refine cb_iconst 11 h dX6_shift_10 rfl kc_0 ?_
      exact (cb_tf q5 jj)
    · refine cb_iconst 7 h dX6_shift_6 rfl kc_1 ?_
      refine cb_goto 11 h dX6_shift_7 rfl ?_
      exact (cb_tt q5 jj)
  obtain ⟨t6, e7, hf⟩ := cb_let_o hf
  refine cb_istore_n (lv' := [(3, .int t6), (0, .int v0), (1, .int v1), (2, .int v2)]) 12 h dX6_shift_11 rfl rfl e7 (Nat.le_of_ble_eq_true rfl) rfl ?_
  refine cb_iload_n 13 0 h dX6_shift_12 rfl rfl rfl ?_
  refine cb_cut (cb_V X (w) 26 [(3, .int t6), (0, .int v0), (1, .int v1), (2, .int v2)] [.int (if t6 = 0 then (v1 &&& (1 : Int32)) else (v1 >>> ((7 : Int32) &&& 31)))]) (fun jj => ?_) ?_
  · refine cb_if_eq 23 16 h dX6_shift_13 rfl rfl (fun q8 => ?_) (fun q8 => ?_)
    · refine cb_iload_n 24 2 h dX6_shift_23 rfl rfl rfl ?_
      refine cb_iconst 25 h dX6_shift_24 rfl kc_1 ?_
      refine cb_iand 26 h dX6_shift_25 rfl ?_
      exact (cb_tt q8 jj)
    · refine cb_iload_n 17 2 h dX6_shift_16 rfl rfl rfl ?_
      refine cb_bipush 19 h dX6_shift_17 rfl kb_7 ?_
      refine cb_ishr 20 h dX6_shift_19 rfl ?_
      refine cb_goto 26 h dX6_shift_20 rfl ?_
      exact (cb_tf q8 jj)
  obtain ⟨t9, e10, hf⟩ := cb_let_o hf
  refine cb_istore (lv' := [(4, .int t9), (3, .int t6), (0, .int v0), (1, .int v1), (2, .int v2)]) 28 h dX6_shift_26 rfl e10 (Nat.le_of_ble_eq_true rfl) rfl ?_
  refine cb_iload_n 29 2 h dX6_shift_28 rfl rfl rfl ?_
  by_cases q11 : v0 = 0 ∨ v0 = 1
  · have hf := cb_it q11 hf
    refine cb_cut (cb_V X (w) 68 [(4, .int t9), (3, .int t6), (0, .int v0), (1, .int v1), (2, .int v2)] []) (fun jj => ?_) ?_
    · rcases q11 with q11 | q11
      · exact cb_tabI 68 h dX6_shift_29 q11 (by decide) (by decide) rfl rfl jj
      · exact cb_tabI 68 h dX6_shift_29 q11 (by decide) (by decide) rfl rfl jj
    refine cb_iload 70 0 h dX6_shift_68 rfl rfl ?_
    refine cb_istore (lv' := [(5, .int t9), (4, .int t9), (3, .int t6), (0, .int v0), (1, .int v1), (2, .int v2)]) 72 h dX6_shift_70 rfl rfl (Nat.le_of_ble_eq_true rfl) rfl ?_
    refine cb_goto 93 h dX6_shift_72 rfl ?_
    exact cb_lv [4, 2, 1, 0] rfl (j93 _ _ _ hf)
  have hf := cb_if q11 hf
  by_cases q12 : v0 = 2 ∨ v0 = 3
  · have hf := cb_it q12 hf
    refine cb_cut (cb_V X (w) 75 [(4, .int t9), (3, .int t6), (0, .int v0), (1, .int v1), (2, .int v2)] []) (fun jj => ?_) ?_
    · rcases q12 with q12 | q12
      · exact cb_tabI 75 h dX6_shift_29 q12 (by decide) (by decide) rfl rfl jj
      · exact cb_tabI 75 h dX6_shift_29 q12 (by decide) (by decide) rfl rfl jj
    refine cb_iload_n 76 4 h dX6_shift_75 rfl rfl rfl ?_
    refine cb_istore (lv' := [(5, .int v2), (4, .int t9), (3, .int t6), (0, .int v0), (1, .int v1), (2, .int v2)]) 78 h dX6_shift_76 rfl rfl (Nat.le_of_ble_eq_true rfl) rfl ?_
    refine cb_goto 93 h dX6_shift_78 rfl ?_
    exact cb_lv [4, 2, 1, 0] rfl (j93 _ _ _ hf)
  have hf := cb_if q12 hf
  by_cases q13 : v0 = 4
  · have hf := cb_it q13 hf
    refine cb_tabI 90 h dX6_shift_29 q13 (by decide) (by decide) rfl rfl ?_
    refine cb_iconst 91 h dX6_shift_90 rfl kc_0 ?_
    refine cb_istore (lv' := [(5, .int (0 : Int32)), (4, .int t9), (3, .int t6), (0, .int v0), (1, .int v1), (2, .int v2)]) 93 h dX6_shift_91 rfl rfl (Nat.le_of_ble_eq_true rfl) rfl ?_
    exact cb_lv [4, 2, 1, 0] rfl (j93 _ _ _ hf)
  have hf := cb_if q13 hf
  by_cases q14 : v0 = 5
  · have hf := cb_it q14 hf
    refine cb_tabI 81 h dX6_shift_29 q14 (by decide) (by decide) rfl rfl ?_
    refine cb_iload_n 82 3 h dX6_shift_81 rfl rfl rfl ?_
    refine cb_bipush 84 h dX6_shift_82 rfl kb_7 ?_
    refine cb_ishr 85 h dX6_shift_84 rfl ?_
    obtain ⟨t15, e16, hf⟩ := cb_let_o hf
    refine cb_istore (lv' := [(5, .int t15), (4, .int t9), (3, .int t6), (0, .int v0), (1, .int v1), (2, .int v2)]) 87 h dX6_shift_85 rfl e16 (Nat.le_of_ble_eq_true rfl) rfl ?_
    refine cb_goto 93 h dX6_shift_87 rfl ?_
    exact cb_lv [4, 2, 1, 0] rfl (j93 _ _ _ hf)
  have hf := cb_if q14 hf
  refine cb_tabO 90 h dX6_shift_29 (by have t0 := lv_neT (a := 0) (cb_no2_0 q11) (by decide); have t1 := lv_neT (a := 1) (cb_no2_1 q11) (by decide); have t2 := lv_neT (a := 2) (cb_no2_0 q12) (by decide); have t3 := lv_neT (a := 3) (cb_no2_1 q12) (by decide); have t4 := lv_neT (a := 4) q13 (by decide); have t5 := lv_neT (a := 5) q14 (by decide); omega) rfl ?_
  refine cb_iconst 91 h dX6_shift_90 rfl kc_0 ?_
  refine cb_istore (lv' := [(5, .int (0 : Int32)), (4, .int t9), (3, .int t6), (0, .int v0), (1, .int v1), (2, .int v2)]) 93 h dX6_shift_91 rfl rfl (Nat.le_of_ble_eq_true rfl) rfl ?_
  exact cb_lv [4, 2, 1, 0] rfl (j93 _ _ _ hf)
set_option maxRecDepth 100000 in
set_option maxHeartbeats 4000000 in
theorem ct_Processor_onA {l : Launch} {D : va_G} {a : Nat → Nat} {ca : Nat → ClassId} {σ σ' : cb_S} {v1 : Int32} {r : Int32} (hf : c_Processor_onA σ v1 = some (r, σ')) : cb_C l yX9_onA cX9_onA 4 (some .int) { frames := 3, cells := 0, slots := 0, locals := 67 } D (EC ca) (adC a) [.ref (a 3), .int v1] (WC a ca σ) (some (.int r)) (WC a ca σ') := by
  refine cb_mk [(0, .ref (a 3)), (1, .int v1)] (by decide) (Nat.le_of_ble_eq_true rfl) rfl (fun X h he => ?_) goodC
  have h : cb_ok X cX9_onA RX9 (EC ca) 3 67 4 := h
  unfold c_Processor_onA at hf
  refine cb_aload_n 1 0 h dX9_onA_0 rfl rfl rfl ?_
  refine gf_X9_61 4 h dX9_onA_1 rfl ?_
  refine cb_bipush 6 h dX9_onA_4 rfl kb_6 ?_
  refine laC_12 7 h dX9_onA_6 rfl vi_6_8 tk_6 ?_
  refine cb_iconst 8 h dX9_onA_7 rfl kc_1 ?_
  refine cb_iand 9 h dX9_onA_8 rfl ?_
  obtain ⟨t1, e2, hf⟩ := cb_let_o hf
  refine cb_istore_n (lv' := [(2, .int t1), (0, .ref (a 3)), (1, .int v1)]) 10 h dX9_onA_9 rfl rfl e2 (Nat.le_of_ble_eq_true rfl) rfl ?_
  refine cb_iload_n 11 2 h dX9_onA_10 rfl rfl rfl ?_
  by_cases q3 : v1 = 0 ∨ v1 = 1 ∨ v1 = 2 ∨ v1 = 3
  · have hf := cb_it q3 hf
    refine cb_cut (cb_V X (WC a ca σ) 56 [(2, .int t1), (0, .ref (a 3)), (1, .int v1)] []) (fun jj => ?_) ?_
    · rcases q3 with q3 | q3 | q3 | q3
      · exact cb_tabI 56 h dX9_onA_11 q3 (by decide) (by decide) rfl rfl jj
      · exact cb_tabI 56 h dX9_onA_11 q3 (by decide) (by decide) rfl rfl jj
      · exact cb_tabI 56 h dX9_onA_11 q3 (by decide) (by decide) rfl rfl jj
      · exact cb_tabI 56 h dX9_onA_11 q3 (by decide) (by decide) rfl rfl jj
    refine cb_iload_n 57 2 h dX9_onA_56 rfl rfl rfl ?_
    refine cb_aload_n 58 1 h dX9_onA_57 rfl rfl rfl ?_
    refine gf_X9_61 61 h dX9_onA_58 rfl ?_
    refine cb_bipush 63 h dX9_onA_61 rfl kb_7 ?_
    refine laC_12 64 h dX9_onA_63 rfl vi_7_8 tk_7 ?_
    refine cb_iload_n 65 0 h dX9_onA_64 rfl rfl rfl ?_
    obtain ⟨c4, ec4, hf⟩ := cb_bo_o hf
    refine cl_X9_196 68 h dX9_onA_65 rfl (ct_Flags_shift ec4) ⟨rfl, rfl, Nat.le_of_ble_eq_true rfl, Nat.le_of_ble_eq_true rfl⟩ rfl (Nat.le_of_ble_eq_true rfl) ?_
    refine cb_istore_n (lv' := [(3, .int c4), (2, .int t1), (0, .ref (a 3)), (1, .int v1)]) 69 h dX9_onA_68 rfl rfl rfl (Nat.le_of_ble_eq_true rfl) rfl ?_
    refine cb_aload_n 70 2 h dX9_onA_69 rfl rfl rfl ?_
    refine gf_X9_61 73 h dX9_onA_70 rfl ?_
    refine cb_bipush 75 h dX9_onA_73 rfl kb_7 ?_
    refine cb_iload_n 76 0 h dX9_onA_75 rfl rfl rfl ?_
    refine cb_bipush 78 h dX9_onA_76 rfl kb_8 ?_
    refine cb_ishr 79 h dX9_onA_78 rfl ?_
    obtain ⟨σ5, e6, hf⟩ := cb_let_o hf
    refine saC_12 80 h dX9_onA_79 rfl vi_7_8 tk_7 e6 ?_
    refine cb_aload_n 81 2 h dX9_onA_80 rfl rfl rfl ?_
    refine cb_bipush 83 h dX9_onA_81 rfl kb_19 ?_
    refine cb_iload_n 84 0 h dX9_onA_83 rfl rfl rfl ?_
    obtain ⟨σc7, ec7, hf⟩ := cb_bo_o hf
    refine cl_X9_184 87 h dX9_onA_84 rfl (ct_Processor_changeFlags ec7) ⟨rfl, rfl, Nat.le_of_ble_eq_true rfl, Nat.le_of_ble_eq_true rfl⟩ rfl (Nat.le_of_ble_eq_true rfl) ?_
    refine cb_iconst 88 h dX9_onA_87 rfl kc_4 ?_
    exact cb_retI (Wf := WC a ca) h dX9_onA_88 he hf
  have hf := cb_if q3 hf
  by_cases q8 : v1 = 4
  · have hf := cb_it q8 hf
    refine cb_tabI 139 h dX9_onA_11 q8 (by decide) (by decide) rfl rfl ?_
    refine cb_iconst 140 h dX9_onA_139 rfl kc_0 ?_
    exact cb_retI (Wf := WC a ca) h dX9_onA_140 he hf
  have hf := cb_if q8 hf
  by_cases q9 : v1 = 5
  · have hf := cb_it q9 hf
    refine cb_tabI 89 h dX9_onA_11 q9 (by decide) (by decide) rfl rfl ?_
    refine cb_aload_n 90 1 h dX9_onA_89 rfl rfl rfl ?_
    refine gf_X9_61 93 h dX9_onA_90 rfl ?_
    refine cb_bipush 95 h dX9_onA_93 rfl kb_7 ?_
    refine cb_dup2 96 h dX9_onA_95 rfl rfl rfl ?_
    refine laC_12 97 h dX9_onA_96 rfl vi_7_8 tk_7 ?_
    refine cb_sipush 100 h dX9_onA_97 rfl ks_255 ?_
    refine cb_ixor 101 h dX9_onA_100 rfl ?_
    obtain ⟨σ10, e11, hf⟩ := cb_let_o hf
    refine saC_12 102 h dX9_onA_101 rfl vi_7_8 tk_7 e11 ?_
    refine cb_aload_n 103 1 h dX9_onA_102 rfl rfl rfl ?_
    refine cb_bipush 105 h dX9_onA_103 rfl kb_18 ?_
    refine cb_bipush 107 h dX9_onA_105 rfl kb_18 ?_
    obtain ⟨σc12, ec12, hf⟩ := cb_bo_o hf
    refine cl_X9_184 110 h dX9_onA_107 rfl (ct_Processor_changeFlags ec12) ⟨rfl, rfl, Nat.le_of_ble_eq_true rfl, Nat.le_of_ble_eq_true rfl⟩ rfl (Nat.le_of_ble_eq_true rfl) ?_
    refine cb_iconst 111 h dX9_onA_110 rfl kc_4 ?_
    exact cb_retI (Wf := WC a ca) h dX9_onA_111 he hf
  have hf := cb_if q9 hf
  by_cases q13 : v1 = 6
  · have hf := cb_it q13 hf
    refine cb_tabI 112 h dX9_onA_11 q13 (by decide) (by decide) rfl rfl ?_
    refine cb_aload_n 113 1 h dX9_onA_112 rfl rfl rfl ?_
    refine cb_bipush 115 h dX9_onA_113 rfl kb_19 ?_
    refine cb_iconst 116 h dX9_onA_115 rfl kc_1 ?_
    obtain ⟨σc14, ec14, hf⟩ := cb_bo_o hf
    refine cl_X9_184 119 h dX9_onA_116 rfl (ct_Processor_changeFlags ec14) ⟨rfl, rfl, Nat.le_of_ble_eq_true rfl, Nat.le_of_ble_eq_true rfl⟩ rfl (Nat.le_of_ble_eq_true rfl) ?_
    refine cb_iconst 120 h dX9_onA_119 rfl kc_4 ?_
    exact cb_retI (Wf := WC a ca) h dX9_onA_120 he hf
  have hf := cb_if q13 hf
  by_cases q15 : v1 = 7
  · have hf := cb_it q15 hf
    refine cb_tabI 121 h dX9_onA_11 q15 (by decide) (by decide) rfl rfl ?_
    refine cb_aload_n 122 1 h dX9_onA_121 rfl rfl rfl ?_
    refine cb_bipush 124 h dX9_onA_122 rfl kb_19 ?_
    refine cb_iload_n 125 0 h dX9_onA_124 rfl rfl rfl ?_
    refine cb_cut (cb_V X (WC a ca σ) 134 [(2, .int t1), (0, .ref (a 3)), (1, .int v1)] [.int (if t1 = 0 then (1 : Int32) else (16 : Int32)), .int (19 : Int32), .ref (a 3)]) (fun jj => ?_) ?_
    · refine cb_if_ne 132 128 h dX9_onA_125 rfl rfl (fun q16 => ?_) (fun q16 => ?_)
      · refine cb_bipush 134 h dX9_onA_132 rfl kb_16 ?_
        exact (cb_tf q16 jj)
      · refine cb_iconst 129 h dX9_onA_128 rfl kc_1 ?_
        refine cb_goto 134 h dX9_onA_129 rfl ?_
        exact (cb_tt q16 jj)
    obtain ⟨σc17, ec17, hf⟩ := cb_bo_o hf
    refine cl_X9_184 137 h dX9_onA_134 rfl (ct_Processor_changeFlags ec17) ⟨rfl, rfl, Nat.le_of_ble_eq_true rfl, Nat.le_of_ble_eq_true rfl⟩ rfl (Nat.le_of_ble_eq_true rfl) ?_
    refine cb_iconst 138 h dX9_onA_137 rfl kc_4 ?_
    exact cb_retI (Wf := WC a ca) h dX9_onA_138 he hf
  have hf := cb_if q15 hf
  refine cb_tabO 139 h dX9_onA_11 (by have t0 := lv_neT (a := 0) (cb_no4_0 q3) (by decide); have t1 := lv_neT (a := 1) (cb_no4_1 q3) (by decide); have t2 := lv_neT (a := 2) (cb_no4_2 q3) (by decide); have t3 := lv_neT (a := 3) (cb_no4_3 q3) (by decide); have t4 := lv_neT (a := 4) q8 (by decide); have t5 := lv_neT (a := 5) q9 (by decide); have t6 := lv_neT (a := 6) q13 (by decide); have t7 := lv_neT (a := 7) q15 (by decide); omega) rfl ?_
  refine cb_iconst 140 h dX9_onA_139 rfl kc_0 ?_
  exact cb_retI (Wf := WC a ca) h dX9_onA_140 he hf
set_option maxRecDepth 100000 in
set_option maxHeartbeats 4000000 in
theorem ct_Processor_lowQuarter {l : Launch} {D : va_G} {a : Nat → Nat} {ca : Nat → ClassId} {σ σ' : cb_S} {v1 : Int32} {r : Int32} (hf : c_Processor_lowQuarter σ v1 = some (r, σ')) : cb_C l yX9_lowQuarter cX9_lowQuarter 3 (some .int) { frames := 4, cells := 0, slots := 0, locals := 90 } D (EC ca) (adC a) [.ref (a 3), .int v1] (WC a ca σ) (some (.int r)) (WC a ca σ') := by
  refine cb_mk [(0, .ref (a 3)), (1, .int v1)] (by decide) (Nat.le_of_ble_eq_true rfl) rfl (fun X h he => ?_) goodC
  have h : cb_ok X cX9_lowQuarter RX9 (EC ca) 4 90 3 := h
  unfold c_Processor_lowQuarter at hf
  refine cb_iload_n 1 1 h dX9_lowQuarter_0 rfl rfl rfl ?_
  refine cb_iconst 2 h dX9_lowQuarter_1 rfl kc_3 ?_
  refine cb_ishr 3 h dX9_lowQuarter_2 rfl ?_
  obtain ⟨t1, e2, hf⟩ := cb_let_o hf
  refine cb_istore_n (lv' := [(2, .int t1), (0, .ref (a 3)), (1, .int v1)]) 4 h dX9_lowQuarter_3 rfl rfl e2 (Nat.le_of_ble_eq_true rfl) rfl ?_
  refine cb_iload_n 5 2 h dX9_lowQuarter_4 rfl rfl rfl ?_
  refine cb_bipush 7 h dX9_lowQuarter_5 rfl kb_7 ?_
  refine cb_iand 8 h dX9_lowQuarter_7 rfl ?_
  by_cases q3 : (v1 &&& (7 : Int32)) = 0
  · have hf := cb_it q3 hf
    refine cb_tabI 52 h dX9_lowQuarter_8 q3 (by decide) (by decide) rfl rfl ?_
    refine cb_aload_n 53 1 h dX9_lowQuarter_52 rfl rfl rfl ?_
    refine cb_iload_n 54 0 h dX9_lowQuarter_53 rfl rfl rfl ?_
    obtain ⟨c4, σc4, ec4, hf⟩ := cb_b2_o hf
    refine cl_X9_126 57 h dX9_lowQuarter_54 rfl (ct_Processor_relative ec4) ⟨rfl, rfl, Nat.le_of_ble_eq_true rfl, Nat.le_of_ble_eq_true rfl⟩ rfl (Nat.le_of_ble_eq_true rfl) ?_
    exact cb_retI (Wf := WC a ca) h dX9_lowQuarter_57 he hf
  have hf := cb_if q3 hf
  by_cases q5 : (v1 &&& (7 : Int32)) = 1
  · have hf := cb_it q5 hf
    refine cb_tabI 58 h dX9_lowQuarter_8 q5 (by decide) (by decide) rfl rfl ?_
    refine cb_aload_n 59 1 h dX9_lowQuarter_58 rfl rfl rfl ?_
    refine cb_iload_n 60 2 h dX9_lowQuarter_59 rfl rfl rfl ?_
    obtain ⟨c6, σc6, ec6, hf⟩ := cb_b2_o hf
    refine cl_X9_129 63 h dX9_lowQuarter_60 rfl (ct_Processor_wordLoadOrSum ec6) ⟨rfl, rfl, Nat.le_of_ble_eq_true rfl, Nat.le_of_ble_eq_true rfl⟩ rfl (Nat.le_of_ble_eq_true rfl) ?_
    exact cb_retI (Wf := WC a ca) h dX9_lowQuarter_63 he hf
  have hf := cb_if q5 hf
  by_cases q7 : (v1 &&& (7 : Int32)) = 2
  · have hf := cb_it q7 hf
    refine cb_tabI 64 h dX9_lowQuarter_8 q7 (by decide) (by decide) rfl rfl ?_
    refine cb_aload_n 65 1 h dX9_lowQuarter_64 rfl rfl rfl ?_
    refine cb_iload_n 66 0 h dX9_lowQuarter_65 rfl rfl rfl ?_
    obtain ⟨c8, σc8, ec8, hf⟩ := cb_b2_o hf
    refine cl_X9_132 69 h dX9_lowQuarter_66 rfl (ct_Processor_transfer ec8) ⟨rfl, rfl, Nat.le_of_ble_eq_true rfl, Nat.le_of_ble_eq_true rfl⟩ rfl (Nat.le_of_ble_eq_true rfl) ?_
    exact cb_retI (Wf := WC a ca) h dX9_lowQuarter_69 he hf
  have hf := cb_if q7 hf
  by_cases q9 : (v1 &&& (7 : Int32)) = 3
  · have hf := cb_it q9 hf
    refine cb_tabI 70 h dX9_lowQuarter_8 q9 (by decide) (by decide) rfl rfl ?_
    refine cb_aload_n 71 1 h dX9_lowQuarter_70 rfl rfl rfl ?_
    refine cb_iload_n 72 2 h dX9_lowQuarter_71 rfl rfl rfl ?_
    refine cb_iconst 73 h dX9_lowQuarter_72 rfl kc_4 ?_
    refine cb_ishr 74 h dX9_lowQuarter_73 rfl ?_
    refine cb_aload_n 75 1 h dX9_lowQuarter_74 rfl rfl rfl ?_
    refine cb_iload_n 76 2 h dX9_lowQuarter_75 rfl rfl rfl ?_
    refine cb_iconst 77 h dX9_lowQuarter_76 rfl kc_4 ?_
    refine cb_ishr 78 h dX9_lowQuarter_77 rfl ?_
    obtain ⟨c10, ec10, hf⟩ := cb_bo_o hf
    refine cl_X9_135 81 h dX9_lowQuarter_78 rfl (ct_Processor_wide ec10) ⟨rfl, rfl, Nat.le_of_ble_eq_true rfl, Nat.le_of_ble_eq_true rfl⟩ rfl (Nat.le_of_ble_eq_true rfl) ?_
    refine cb_iload_n 82 2 h dX9_lowQuarter_81 rfl rfl rfl ?_
    refine cb_bipush 84 h dX9_lowQuarter_82 rfl kb_8 ?_
    refine cb_iand 85 h dX9_lowQuarter_84 rfl ?_
    refine cb_cut (cb_V X (WC a ca σ) 93 [(2, .int t1), (0, .ref (a 3)), (1, .int v1)] [.int (if (v1 &&& (8 : Int32)) = 0 then (1 : Int32) else (-1 : Int32)), .int c10, .int (v1 >>> ((4 : Int32) &&& 31)), .ref (a 3)]) (fun jj => ?_) ?_
    · refine cb_if_ne 92 88 h dX9_lowQuarter_85 rfl rfl (fun q11 => ?_) (fun q11 => ?_)
      · refine cb_iconst 93 h dX9_lowQuarter_92 rfl kc_m1 ?_
        exact (cb_tf q11 jj)
      · refine cb_iconst 89 h dX9_lowQuarter_88 rfl kc_1 ?_
        refine cb_goto 93 h dX9_lowQuarter_89 rfl ?_
        exact (cb_tt q11 jj)
    refine cb_iadd 94 h dX9_lowQuarter_93 rfl ?_
    obtain ⟨σc12, ec12, hf⟩ := cb_bo_o hf
    refine cl_X9_138 97 h dX9_lowQuarter_94 rfl (ct_Processor_putWide ec12) ⟨rfl, rfl, Nat.le_of_ble_eq_true rfl, Nat.le_of_ble_eq_true rfl⟩ rfl (Nat.le_of_ble_eq_true rfl) ?_
    refine cb_bipush 99 h dX9_lowQuarter_97 rfl kb_6 ?_
    exact cb_retI (Wf := WC a ca) h dX9_lowQuarter_99 he hf
  have hf := cb_if q9 hf
  by_cases q13 : (v1 &&& (7 : Int32)) = 4
  · have hf := cb_it q13 hf
    refine cb_tabI 100 h dX9_lowQuarter_8 q13 (by decide) (by decide) rfl rfl ?_
    refine cb_aload_n 101 1 h dX9_lowQuarter_100 rfl rfl rfl ?_
    refine cb_iload_n 102 0 h dX9_lowQuarter_101 rfl rfl rfl ?_
    refine cb_aload_n 103 1 h dX9_lowQuarter_102 rfl rfl rfl ?_
    refine cb_iload_n 104 0 h dX9_lowQuarter_103 rfl rfl rfl ?_
    obtain ⟨c14, ec14, hf⟩ := cb_bo_o hf
    refine cl_X9_78 107 h dX9_lowQuarter_104 rfl (ct_Processor_read ec14) ⟨rfl, rfl, Nat.le_of_ble_eq_true rfl, Nat.le_of_ble_eq_true rfl⟩ rfl (Nat.le_of_ble_eq_true rfl) ?_
    refine cb_iconst 108 h dX9_lowQuarter_107 rfl kc_1 ?_
    refine cb_iconst 109 h dX9_lowQuarter_108 rfl kc_0 ?_
    obtain ⟨c15, ec15, hf⟩ := cb_bo_o hf
    refine cl_X9_141 112 h dX9_lowQuarter_109 rfl (ct_Flags_add ec15) ⟨rfl, rfl, Nat.le_of_ble_eq_true rfl, Nat.le_of_ble_eq_true rfl⟩ rfl (Nat.le_of_ble_eq_true rfl) ?_
    obtain ⟨c16, σc16, ec16, hf⟩ := cb_b2_o hf
    refine cl_X9_147 115 h dX9_lowQuarter_112 rfl (ct_Processor_step ec16) ⟨rfl, rfl, Nat.le_of_ble_eq_true rfl, Nat.le_of_ble_eq_true rfl⟩ rfl (Nat.le_of_ble_eq_true rfl) ?_
    exact cb_retI (Wf := WC a ca) h dX9_lowQuarter_115 he hf
  have hf := cb_if q13 hf
  by_cases q17 : (v1 &&& (7 : Int32)) = 5
  · have hf := cb_it q17 hf
    refine cb_tabI 116 h dX9_lowQuarter_8 q17 (by decide) (by decide) rfl rfl ?_
    refine cb_aload_n 117 1 h dX9_lowQuarter_116 rfl rfl rfl ?_
    refine cb_iload_n 118 0 h dX9_lowQuarter_117 rfl rfl rfl ?_
    refine cb_aload_n 119 1 h dX9_lowQuarter_118 rfl rfl rfl ?_
    refine cb_iload_n 120 0 h dX9_lowQuarter_119 rfl rfl rfl ?_
    obtain ⟨c18, ec18, hf⟩ := cb_bo_o hf
    refine cl_X9_78 123 h dX9_lowQuarter_120 rfl (ct_Processor_read ec18) ⟨rfl, rfl, Nat.le_of_ble_eq_true rfl, Nat.le_of_ble_eq_true rfl⟩ rfl (Nat.le_of_ble_eq_true rfl) ?_
    refine cb_iconst 124 h dX9_lowQuarter_123 rfl kc_1 ?_
    refine cb_iconst 125 h dX9_lowQuarter_124 rfl kc_0 ?_
    obtain ⟨c19, ec19, hf⟩ := cb_bo_o hf
    refine cl_X9_151 128 h dX9_lowQuarter_125 rfl (ct_Flags_subtract ec19) ⟨rfl, rfl, Nat.le_of_ble_eq_true rfl, Nat.le_of_ble_eq_true rfl⟩ rfl (Nat.le_of_ble_eq_true rfl) ?_
    obtain ⟨c20, σc20, ec20, hf⟩ := cb_b2_o hf
    refine cl_X9_147 131 h dX9_lowQuarter_128 rfl (ct_Processor_step ec20) ⟨rfl, rfl, Nat.le_of_ble_eq_true rfl, Nat.le_of_ble_eq_true rfl⟩ rfl (Nat.le_of_ble_eq_true rfl) ?_
    exact cb_retI (Wf := WC a ca) h dX9_lowQuarter_131 he hf
  have hf := cb_if q17 hf
  by_cases q21 : (v1 &&& (7 : Int32)) = 6
  · have hf := cb_it q21 hf
    refine cb_tabI 132 h dX9_lowQuarter_8 q21 (by decide) (by decide) rfl rfl ?_
    refine cb_aload_n 133 1 h dX9_lowQuarter_132 rfl rfl rfl ?_
    refine cb_iload_n 134 0 h dX9_lowQuarter_133 rfl rfl rfl ?_
    refine cb_aload_n 135 1 h dX9_lowQuarter_134 rfl rfl rfl ?_
    obtain ⟨c22, σc22, ec22, hf⟩ := cb_b2_o hf
    refine cl_X9_67 138 h dX9_lowQuarter_135 rfl (ct_Processor_nextByte ec22) ⟨rfl, rfl, Nat.le_of_ble_eq_true rfl, Nat.le_of_ble_eq_true rfl⟩ rfl (Nat.le_of_ble_eq_true rfl) ?_
    obtain ⟨σc23, ec23, hf⟩ := cb_bo_o hf
    refine cl_X9_154 141 h dX9_lowQuarter_138 rfl (ct_Processor_write ec23) ⟨rfl, rfl, Nat.le_of_ble_eq_true rfl, Nat.le_of_ble_eq_true rfl⟩ rfl (Nat.le_of_ble_eq_true rfl) ?_
    refine cb_iload_n 142 0 h dX9_lowQuarter_141 rfl rfl rfl ?_
    refine cb_bipush 144 h dX9_lowQuarter_142 rfl kb_6 ?_
    refine cb_cut (cb_V X (WC a ca σc23) 154 [(2, .int t1), (0, .ref (a 3)), (1, .int v1)] [.int (if t1 = (6 : Int32) then (10 : Int32) else (7 : Int32))]) (fun jj => ?_) ?_
    · refine cb_icmp_ne 152 147 h dX9_lowQuarter_144 rfl rfl (fun q24 => ?_) (fun q24 => ?_)
      · refine cb_bipush 154 h dX9_lowQuarter_152 rfl kb_7 ?_
        exact (cb_tf q24 jj)
      · refine cb_bipush 149 h dX9_lowQuarter_147 rfl kb_10 ?_
        refine cb_goto 154 h dX9_lowQuarter_149 rfl ?_
        exact (cb_tt q24 jj)
    exact cb_retI (Wf := WC a ca) h dX9_lowQuarter_154 he hf
  have hf := cb_if q21 hf
  refine cb_tabO 155 h dX9_lowQuarter_8 (by have t0 := lv_neT (a := 0) q3 (by decide); have t1 := lv_neT (a := 1) q5 (by decide); have t2 := lv_neT (a := 2) q7 (by decide); have t3 := lv_neT (a := 3) q9 (by decide); have t4 := lv_neT (a := 4) q13 (by decide); have t5 := lv_neT (a := 5) q17 (by decide); have t6 := lv_neT (a := 6) q21 (by decide); omega) rfl ?_
  refine cb_aload_n 156 1 h dX9_lowQuarter_155 rfl rfl rfl ?_
  refine cb_iload_n 157 0 h dX9_lowQuarter_156 rfl rfl rfl ?_
  obtain ⟨c25, σc25, ec25, hf⟩ := cb_b2_o hf
  refine cl_X9_157 160 h dX9_lowQuarter_157 rfl (ct_Processor_onA ec25) ⟨rfl, rfl, Nat.le_of_ble_eq_true rfl, Nat.le_of_ble_eq_true rfl⟩ rfl (Nat.le_of_ble_eq_true rfl) ?_
  exact cb_retI (Wf := WC a ca) h dX9_lowQuarter_160 he hf
set_option maxRecDepth 100000 in
set_option maxHeartbeats 4000000 in
theorem ct_Processor_moveOrHalt {l : Launch} {D : va_G} {a : Nat → Nat} {ca : Nat → ClassId} {σ σ' : cb_S} {v1 : Int32} {r : Int32} (hf : c_Processor_moveOrHalt σ v1 = some (r, σ')) : cb_C l yX9_moveOrHalt cX9_moveOrHalt 4 (some .int) { frames := 2, cells := 0, slots := 0, locals := 44 } D (EC ca) (adC a) [.ref (a 3), .int v1] (WC a ca σ) (some (.int r)) (WC a ca σ') := by
  refine cb_mk [(0, .ref (a 3)), (1, .int v1)] (by decide) (Nat.le_of_ble_eq_true rfl) rfl (fun X h he => ?_) goodC
  have h : cb_ok X cX9_moveOrHalt RX9 (EC ca) 2 44 4 := h
  unfold c_Processor_moveOrHalt at hf
  have j31 : ∀ (σ : cb_S) (x2 : Int32) (x3 : Int32), c_Processor_moveOrHalt_L31 v1 σ x2 x3 = some (r, σ') → cb_V X (WC a ca σ) 31 [(0, .ref (a 3)), (2, .int x2), (3, .int x3)] [] := by
    intro σ x2 x3 hf
    unfold c_Processor_moveOrHalt_L31 at hf
    refine cb_aload_n 32 0 h dX9_moveOrHalt_31 rfl rfl rfl ?_
    refine cb_iload_n 33 1 h dX9_moveOrHalt_32 rfl rfl rfl ?_
    refine cb_aload_n 34 0 h dX9_moveOrHalt_33 rfl rfl rfl ?_
    refine cb_iload_n 35 2 h dX9_moveOrHalt_34 rfl rfl rfl ?_
    obtain ⟨c1, ec1, hf⟩ := cb_bo_o hf
    refine cl_X9_78 38 h dX9_moveOrHalt_35 rfl (ct_Processor_read ec1) ⟨rfl, rfl, Nat.le_of_ble_eq_true rfl, Nat.le_of_ble_eq_true rfl⟩ rfl (Nat.le_of_ble_eq_true rfl) ?_
    obtain ⟨σc2, ec2, hf⟩ := cb_bo_o hf
    refine cl_X9_154 41 h dX9_moveOrHalt_38 rfl (ct_Processor_write ec2) ⟨rfl, rfl, Nat.le_of_ble_eq_true rfl, Nat.le_of_ble_eq_true rfl⟩ rfl (Nat.le_of_ble_eq_true rfl) ?_
    refine cb_iload_n 42 1 h dX9_moveOrHalt_41 rfl rfl rfl ?_
    refine cb_bipush 44 h dX9_moveOrHalt_42 rfl kb_6 ?_
    refine cb_cut (cb_V X (WC a ca σc2) 59 [(0, .ref (a 3)), (2, .int x2), (3, .int x3)] [.int (if x2 = (6 : Int32) then (7 : Int32) else (if x3 = (6 : Int32) then (7 : Int32) else (4 : Int32)))]) (fun jj => ?_) ?_
    · refine cb_icmp_eq 53 47 h dX9_moveOrHalt_44 rfl rfl (fun q3 => ?_) (fun q3 => ?_)
      · refine cb_bipush 55 h dX9_moveOrHalt_53 rfl kb_7 ?_
        refine cb_goto 59 h dX9_moveOrHalt_55 rfl ?_
        exact (cb_tt q3 jj)
      · refine cb_iload_n 48 2 h dX9_moveOrHalt_47 rfl rfl rfl ?_
        refine cb_bipush 50 h dX9_moveOrHalt_48 rfl kb_6 ?_
        refine cb_icmp_ne 58 53 h dX9_moveOrHalt_50 rfl rfl (fun q4 => ?_) (fun q4 => ?_)
        · refine cb_iconst 59 h dX9_moveOrHalt_58 rfl kc_4 ?_
          exact (cb_tf q4 (cb_tf q3 jj))
        · refine cb_bipush 55 h dX9_moveOrHalt_53 rfl kb_7 ?_
          refine cb_goto 59 h dX9_moveOrHalt_55 rfl ?_
          exact (cb_tt q4 (cb_tf q3 jj))
    exact cb_retI (Wf := WC a ca) h dX9_moveOrHalt_59 he hf
  refine cb_iload_n 1 1 h dX9_moveOrHalt_0 rfl rfl rfl ?_
  refine cb_iconst 2 h dX9_moveOrHalt_1 rfl kc_3 ?_
  refine cb_ishr 3 h dX9_moveOrHalt_2 rfl ?_
  refine cb_bipush 5 h dX9_moveOrHalt_3 rfl kb_7 ?_
  refine cb_iand 6 h dX9_moveOrHalt_5 rfl ?_
  obtain ⟨t5, e6, hf⟩ := cb_let_o hf
  refine cb_istore_n (lv' := [(2, .int t5), (0, .ref (a 3)), (1, .int v1)]) 7 h dX9_moveOrHalt_6 rfl rfl e6 (Nat.le_of_ble_eq_true rfl) rfl ?_
  refine cb_iload_n 8 2 h dX9_moveOrHalt_7 rfl rfl rfl ?_
  refine cb_bipush 10 h dX9_moveOrHalt_8 rfl kb_7 ?_
  refine cb_iand 11 h dX9_moveOrHalt_10 rfl ?_
  obtain ⟨t7, e8, hf⟩ := cb_let_o hf
  refine cb_istore_n (lv' := [(3, .int t7), (2, .int t5), (0, .ref (a 3)), (1, .int v1)]) 12 h dX9_moveOrHalt_11 rfl rfl e8 (Nat.le_of_ble_eq_true rfl) rfl ?_
  refine cb_iload_n 13 1 h dX9_moveOrHalt_12 rfl rfl rfl ?_
  refine cb_bipush 15 h dX9_moveOrHalt_13 rfl kb_6 ?_
  refine cb_icmp_ne 31 18 h dX9_moveOrHalt_15 rfl rfl (fun q9 => ?_) (fun q9 => ?_)
  · have hf := cb_if q9 hf
    exact cb_lv [2, 1, 0] rfl (j31 _ _ _ hf)
  · have hf := cb_it q9 hf
    refine cb_iload_n 19 0 h dX9_moveOrHalt_18 rfl rfl rfl ?_
    refine cb_bipush 21 h dX9_moveOrHalt_19 rfl kb_6 ?_
    refine cb_icmp_ne 31 24 h dX9_moveOrHalt_21 rfl rfl (fun q10 => ?_) (fun q10 => ?_)
    · have hf := cb_if q10 hf
      exact cb_lv [2, 1, 0] rfl (j31 _ _ _ hf)
    · have hf := cb_it q10 hf
      refine cb_aload_n 25 2 h dX9_moveOrHalt_24 rfl rfl rfl ?_
      refine cb_iconst 26 h dX9_moveOrHalt_25 rfl kc_1 ?_
      obtain ⟨σ11, e12, hf⟩ := cb_let_o hf
      refine pf_X9_24 29 h dX9_moveOrHalt_26 rfl cb_01_1 e12 ?_
      refine cb_iconst 30 h dX9_moveOrHalt_29 rfl kc_4 ?_
      exact cb_retI (Wf := WC a ca) h dX9_moveOrHalt_30 he hf
