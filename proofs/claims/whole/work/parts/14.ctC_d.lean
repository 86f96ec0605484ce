set_option maxRecDepth 100000 in
set_option maxHeartbeats 4000000 in
theorem ct_Port_giveData {l : Launch} {D : va_G} {a : Nat → Nat} {ca : Nat → ClassId} {j : Nat} {σ σ' : cb_S} {r : Int32} (hj : cb_isPort j) (hf : c_Port_giveData j σ = some (r, σ')) : cb_C l yX8_giveData cX8_giveData 1 (some .int) { frames := 0, cells := 0, slots := 0, locals := 0 } D (EC ca) (adC a) [.ref (a j)] (WC a ca σ) (some (.int r)) (WC a ca σ') := by
  refine cb_mk [(0, .ref (a j))] (by decide) (Nat.le_of_ble_eq_true rfl) rfl (fun X h he => ?_) goodC
  have h : cb_ok X cX8_giveData RX8 (EC ca) 0 0 1 := h
  unfold c_Port_giveData at hf
  refine cb_aload_n 1 0 h dX8_giveData_0 rfl rfl rfl ?_
  refine gf_X8_11 4 h dX8_giveData_1 rfl hj ?_
  by_cases q1 : (σ j 4) = 0
  · have hf := cb_it q1 hf
    refine cb_look 32 h dX8_giveData_4 rfl (cb_lko q1 rfl) rfl ?_
    refine cb_aload_n 33 0 h dX8_giveData_32 rfl rfl rfl ?_
    refine gf_X8_19 36 h dX8_giveData_33 rfl hj ?_
    exact cb_retI (Wf := WC a ca) h dX8_giveData_36 he hf
  have hf := cb_if q1 hf
  by_cases q2 : (σ j 4) = 1
  · have hf := cb_it q2 hf
    refine cb_look 37 h dX8_giveData_4 rfl (cb_lko q2 rfl) rfl ?_
    refine cb_aload_n 38 0 h dX8_giveData_37 rfl rfl rfl ?_
    refine cb_iconst 39 h dX8_giveData_38 rfl kc_1 ?_
    obtain ⟨σ3, e4, hf⟩ := cb_let_o hf
    refine pf_X8_15 42 h dX8_giveData_39 rfl hj cb_01_1 e4 ?_
    refine cb_aload_n 43 0 h dX8_giveData_42 rfl rfl rfl ?_
    refine gf_X8_22 46 h dX8_giveData_43 rfl hj ?_
    exact cb_retI (Wf := WC a ca) h dX8_giveData_46 he hf
  have hf := cb_if q2 hf
  refine cb_look 47 h dX8_giveData_4 rfl ((lv_osw q1 (by decide)).trans ((lv_osw q2 (by decide)).trans rfl)) rfl ?_
  refine cb_aload_n 48 0 h dX8_giveData_47 rfl rfl rfl ?_
  refine gf_X8_25 51 h dX8_giveData_48 rfl hj ?_
  refine cb_aload_n 52 0 h dX8_giveData_51 rfl rfl rfl ?_
  refine gf_X8_28 55 h dX8_giveData_52 rfl hj ?_
  refine cb_iand 56 h dX8_giveData_55 rfl ?_
  refine cb_aload_n 57 0 h dX8_giveData_56 rfl rfl rfl ?_
  refine gf_X8_19 60 h dX8_giveData_57 rfl hj ?_
  refine cb_aload_n 61 0 h dX8_giveData_60 rfl rfl rfl ?_
  refine gf_X8_28 64 h dX8_giveData_61 rfl hj ?_
  refine cb_iconst 65 h dX8_giveData_64 rfl kc_m1 ?_
  refine cb_ixor 66 h dX8_giveData_65 rfl ?_
  refine cb_iand 67 h dX8_giveData_66 rfl ?_
  refine cb_ior 68 h dX8_giveData_67 rfl ?_
  exact cb_retI (Wf := WC a ca) h dX8_giveData_68 he hf
set_option maxRecDepth 100000 in
set_option maxHeartbeats 4000000 in
theorem ct_Chain_input {l : Launch} {D : va_G} {a : Nat → Nat} {ca : Nat → ClassId} {σ σ' : cb_S} {v1 : Int32} {r : Int32} (hf : c_Chain_input σ v1 = some (r, σ')) : cb_C l yX3_input cX3_input 2 (some .int) { frames := 1, cells := 0, slots := 0, locals := 20 } D (EC ca) (adC a) [.ref (a 2), .int v1] (WC a ca σ) (some (.int r)) (WC a ca σ') := by
  refine cb_mk [(0, .ref (a 2)), (1, .int v1)] (by decide) (Nat.le_of_ble_eq_true rfl) rfl (fun X h he => ?_) goodC
  have h : cb_ok X cX3_input RX3 (EC ca) 1 20 2 := h
  unfold c_Chain_input at hf
  refine cb_iload_n 1 1 h dX3_input_0 rfl rfl rfl ?_
  by_cases q1 : v1 = 0
  · have hf := cb_it q1 hf
    refine cb_tabI 36 h dX3_input_1 q1 (by decide) (by decide) rfl rfl ?_
    refine cb_aload_n 37 0 h dX3_input_36 rfl rfl rfl ?_
    refine gf_X3_12 40 h dX3_input_37 rfl ?_
    refine gf_X3_45 43 h dX3_input_40 rfl channel_6 ?_
    refine cb_sipush 46 h dX3_input_43 rfl ks_255 ?_
    refine cb_iand 47 h dX3_input_46 rfl ?_
    exact cb_retI (Wf := WC a ca) h dX3_input_47 he hf
  have hf := cb_if q1 hf
  by_cases q2 : v1 = 1
  · have hf := cb_it q2 hf
    refine cb_tabI 48 h dX3_input_1 q2 (by decide) (by decide) rfl rfl ?_
    refine cb_aload_n 49 0 h dX3_input_48 rfl rfl rfl ?_
    refine gf_X3_18 52 h dX3_input_49 rfl ?_
    refine gf_X3_45 55 h dX3_input_52 rfl channel_7 ?_
    refine cb_sipush 58 h dX3_input_55 rfl ks_255 ?_
    refine cb_iand 59 h dX3_input_58 rfl ?_
    exact cb_retI (Wf := WC a ca) h dX3_input_59 he hf
  have hf := cb_if q2 hf
  by_cases q3 : v1 = 2
  · have hf := cb_it q3 hf
    refine cb_tabI 60 h dX3_input_1 q3 (by decide) (by decide) rfl rfl ?_
    refine cb_aload_n 61 0 h dX3_input_60 rfl rfl rfl ?_
    refine gf_X3_24 64 h dX3_input_61 rfl ?_
    obtain ⟨c4, σc4, ec4, hf⟩ := cb_b2_o hf
    refine cl_X3_49 67 h dX3_input_64 rfl port_8 (ct_Port_giveData port_8 ec4) ⟨rfl, rfl, Nat.le_of_ble_eq_true rfl, Nat.le_of_ble_eq_true rfl⟩ rfl (Nat.le_of_ble_eq_true rfl) ?_
    exact cb_retI (Wf := WC a ca) h dX3_input_67 he hf
  have hf := cb_if q3 hf
  by_cases q5 : v1 = 3
  · have hf := cb_it q5 hf
    refine cb_tabI 76 h dX3_input_1 q5 (by decide) (by decide) rfl rfl ?_
    refine cb_sipush 79 h dX3_input_76 rfl ks_255 ?_
    exact cb_retI (Wf := WC a ca) h dX3_input_79 he hf
  have hf := cb_if q5 hf
  by_cases q6 : v1 = 4
  · have hf := cb_it q6 hf
    refine cb_tabI 68 h dX3_input_1 q6 (by decide) (by decide) rfl rfl ?_
    refine cb_aload_n 69 0 h dX3_input_68 rfl rfl rfl ?_
    refine gf_X3_28 72 h dX3_input_69 rfl ?_
    obtain ⟨c7, σc7, ec7, hf⟩ := cb_b2_o hf
    refine cl_X3_49 75 h dX3_input_72 rfl port_9 (ct_Port_giveData port_9 ec7) ⟨rfl, rfl, Nat.le_of_ble_eq_true rfl, Nat.le_of_ble_eq_true rfl⟩ rfl (Nat.le_of_ble_eq_true rfl) ?_
    exact cb_retI (Wf := WC a ca) h dX3_input_75 he hf
  have hf := cb_if q6 hf
  refine cb_tabO 76 h dX3_input_1 (by have t0 := lv_neT (a := 0) q1 (by decide); have t1 := lv_neT (a := 1) q2 (by decide); have t2 := lv_neT (a := 2) q3 (by decide); have t3 := lv_neT (a := 3) q5 (by decide); have t4 := lv_neT (a := 4) q6 (by decide); omega) rfl ?_
  refine cb_sipush 79 h dX3_input_76 rfl ks_255 ?_
  exact cb_retI (Wf := WC a ca) h dX3_input_79 he hf
set_option maxRecDepth 100000 in
set_option maxHeartbeats 4000000 in
theorem ct_Flags_subtractWords {l : Launch} {D : va_G} {ca : Nat → ClassId} {w : va_W} {v0 v1 v2 : Int32} {r : Int32} {as : List Nat} (hf : c_Flags_subtractWords v0 v1 v2 = some r) : cb_C l yX6_subtractWords cX6_subtractWords 8 (some .int) { frames := 1, cells := 0, slots := 0, locals := 20 } D (EC ca) (as) [.int v0, .int v1, .int v2] (w) (some (.int r)) (w) := by
  refine cb_mk [(0, .int v0), (1, .int v1), (2, .int v2)] (by decide) (Nat.le_of_ble_eq_true rfl) rfl (fun X h he => ?_) goodC
  have h : cb_ok X cX6_subtractWords RX6 (EC ca) 1 20 8 := h
  unfold c_Flags_subtractWords at hf
  refine cb_iload_n 1 0 h dX6_subtractWords_0 rfl rfl rfl ?_
  refine cb_iload_n 2 1 h dX6_subtractWords_1 rfl rfl rfl ?_
  refine cb_isub 3 h dX6_subtractWords_2 rfl ?_
  refine cb_iload_n 4 2 h dX6_subtractWords_3 rfl rfl rfl ?_
  refine cb_isub 5 h dX6_subtractWords_4 rfl ?_
  obtain ⟨t1, e2, hf⟩ := cb_let_o hf
  refine cb_istore_n (lv' := [(3, .int t1), (0, .int v0), (1, .int v1), (2, .int v2)]) 6 h dX6_subtractWords_5 rfl rfl e2 (Nat.le_of_ble_eq_true rfl) rfl ?_
  refine cb_iload_n 7 0 h dX6_subtractWords_6 rfl rfl rfl ?_
  refine cb_ldc 9 h dX6_subtractWords_7 rfl (cb_t2 133 rfl rfl) ?_
  refine cb_iand 10 h dX6_subtractWords_9 rfl ?_
  obtain ⟨t3, e4, hf⟩ := cb_let_o hf
  refine cb_istore (lv' := [(4, .int t3), (3, .int t1), (0, .int v0), (1, .int v1), (2, .int v2)]) 12 h dX6_subtractWords_10 rfl e4 (Nat.le_of_ble_eq_true rfl) rfl ?_
  refine cb_iload_n 13 2 h dX6_subtractWords_12 rfl rfl rfl ?_
  refine cb_iload_n 14 3 h dX6_subtractWords_13 rfl rfl rfl ?_
  refine cb_ixor 15 h dX6_subtractWords_14 rfl ?_
  refine cb_iload_n 16 1 h dX6_subtractWords_15 rfl rfl rfl ?_
  refine cb_ixor 17 h dX6_subtractWords_16 rfl ?_
  refine cb_bipush 19 h dX6_subtractWords_17 rfl kb_8 ?_
  refine cb_ishr 20 h dX6_subtractWords_19 rfl ?_
  refine cb_bipush 22 h dX6_subtractWords_20 rfl kb_16 ?_
  refine cb_iand 23 h dX6_subtractWords_22 rfl ?_
  obtain ⟨t5, e6, hf⟩ := cb_let_o hf
  refine cb_istore (lv' := [(5, .int t5), (4, .int t3), (3, .int t1), (0, .int v0), (1, .int v1), (2, .int v2)]) 25 h dX6_subtractWords_23 rfl e6 (Nat.le_of_ble_eq_true rfl) rfl ?_
  refine cb_iload_n 26 3 h dX6_subtractWords_25 rfl rfl rfl ?_
  refine cb_iload_n 27 4 h dX6_subtractWords_26 rfl rfl rfl ?_
  refine cb_ixor 28 h dX6_subtractWords_27 rfl ?_
  refine cb_iload_n 29 3 h dX6_subtractWords_28 rfl rfl rfl ?_
  refine cb_iload_n 30 2 h dX6_subtractWords_29 rfl rfl rfl ?_
  refine cb_ixor 31 h dX6_subtractWords_30 rfl ?_
  refine cb_iand 32 h dX6_subtractWords_31 rfl ?_
  refine cb_ldc 34 h dX6_subtractWords_32 rfl (cb_t2 134 rfl rfl) ?_
  refine cb_iand 35 h dX6_subtractWords_34 rfl ?_
  refine cb_bipush 37 h dX6_subtractWords_35 rfl kb_13 ?_
  refine cb_ishr 38 h dX6_subtractWords_37 rfl ?_
  obtain ⟨t7, e8, hf⟩ := cb_let_o hf
  refine cb_istore (lv' := [(6, .int t7), (5, .int t5), (4, .int t3), (3, .int t1), (0, .int v0), (1, .int v1), (2, .int v2)]) 40 h dX6_subtractWords_38 rfl e8 (Nat.le_of_ble_eq_true rfl) rfl ?_
  refine cb_iload_n 41 3 h dX6_subtractWords_40 rfl rfl rfl ?_
  refine cb_bipush 43 h dX6_subtractWords_41 rfl kb_16 ?_
  refine cb_ishr 44 h dX6_subtractWords_43 rfl ?_
  refine cb_iconst 45 h dX6_subtractWords_44 rfl kc_1 ?_
  refine cb_iand 46 h dX6_subtractWords_45 rfl ?_
  obtain ⟨t9, e10, hf⟩ := cb_let_o hf
  refine cb_istore (lv' := [(7, .int t9), (6, .int t7), (5, .int t5), (4, .int t3), (3, .int t1), (0, .int v0), (1, .int v1), (2, .int v2)]) 48 h dX6_subtractWords_46 rfl e10 (Nat.le_of_ble_eq_true rfl) rfl ?_
  refine cb_iload 50 3 h dX6_subtractWords_48 rfl rfl ?_
  refine cb_bipush 52 h dX6_subtractWords_50 rfl kb_8 ?_
  refine cb_ishl 53 h dX6_subtractWords_52 rfl ?_
  refine cb_iload 55 3 h dX6_subtractWords_53 rfl rfl ?_
  obtain ⟨c11, ec11, hf⟩ := cb_bo_o hf
  refine cl_X6_15 58 h dX6_subtractWords_55 rfl (ct_Flags_wordSignAndZero ec11) ⟨rfl, rfl, Nat.le_of_ble_eq_true rfl, Nat.le_of_ble_eq_true rfl⟩ rfl (Nat.le_of_ble_eq_true rfl) ?_
  refine cb_ior 59 h dX6_subtractWords_58 rfl ?_
  refine cb_iload 61 2 h dX6_subtractWords_59 rfl rfl ?_
  refine cb_ior 62 h dX6_subtractWords_61 rfl ?_
  refine cb_iload 64 1 h dX6_subtractWords_62 rfl rfl ?_
  refine cb_ior 65 h dX6_subtractWords_64 rfl ?_
  refine cb_iconst 66 h dX6_subtractWords_65 rfl kc_2 ?_
  refine cb_ior 67 h dX6_subtractWords_66 rfl ?_
  refine cb_iload 69 0 h dX6_subtractWords_67 rfl rfl ?_
  refine cb_ior 70 h dX6_subtractWords_69 rfl ?_
  exact cb_retJ h dX6_subtractWords_70 he hf
set_option maxRecDepth 100000 in
set_option maxHeartbeats 4000000 in
theorem ct_Processor_wordsWithCarry {l : Launch} {D : va_G} {a : Nat → Nat} {ca : Nat → ClassId} {σ σ' : cb_S} {v1 : Int32} {r : Int32} (hf : c_Processor_wordsWithCarry σ v1 = some (r, σ')) : cb_C l yX9_wordsWithCarry cX9_wordsWithCarry 6 (some .int) { frames := 2, cells := 0, slots := 0, locals := 47 } D (EC ca) (adC a) [.ref (a 3), .int v1] (WC a ca σ) (some (.int r)) (WC a ca σ') := by
  refine cb_mk [(0, .ref (a 3)), (1, .int v1)] (by decide) (Nat.le_of_ble_eq_true rfl) rfl (fun X h he => ?_) goodC
  have h : cb_ok X cX9_wordsWithCarry RX9 (EC ca) 2 47 6 := h
  unfold c_Processor_wordsWithCarry at hf
  have j54 : ∀ (σ : cb_S) (y0 : Int32), c_Processor_wordsWithCarry_L54 v1 σ y0 = some (r, σ') → cb_V X (WC a ca σ) 54 [(0, .ref (a 3))] [.int y0] := by
    intro σ y0 hf
    unfold c_Processor_wordsWithCarry_L54 at hf
    refine cb_istore (lv' := [(5, .int y0), (0, .ref (a 3))]) 56 h dX9_wordsWithCarry_54 rfl rfl (Nat.le_of_ble_eq_true rfl) rfl ?_
    refine cb_aload_n 57 1 h dX9_wordsWithCarry_56 rfl rfl rfl ?_
    refine gf_X9_54 60 h dX9_wordsWithCarry_57 rfl ?_
    refine cb_iconst 61 h dX9_wordsWithCarry_60 rfl kc_2 ?_
    refine cb_iload 63 0 h dX9_wordsWithCarry_61 rfl rfl ?_
    refine cb_bipush 65 h dX9_wordsWithCarry_63 rfl kb_8 ?_
    refine cb_ishr 66 h dX9_wordsWithCarry_65 rfl ?_
    obtain ⟨σc1, ec1, hf⟩ := cb_bo_o hf
    refine cl_X9_181 69 h dX9_wordsWithCarry_66 rfl bank_11 (ct_Bank_putPair bank_11 ec1) ⟨rfl, rfl, Nat.le_of_ble_eq_true rfl, Nat.le_of_ble_eq_true rfl⟩ rfl (Nat.le_of_ble_eq_true rfl) ?_
    refine cb_aload_n 70 1 h dX9_wordsWithCarry_69 rfl rfl rfl ?_
    refine cb_sipush 73 h dX9_wordsWithCarry_70 rfl ks_215 ?_
    refine cb_iload 75 0 h dX9_wordsWithCarry_73 rfl rfl ?_
    obtain ⟨σc2, ec2, hf⟩ := cb_bo_o hf
    refine cl_X9_184 78 h dX9_wordsWithCarry_75 rfl (ct_Processor_changeFlags ec2) ⟨rfl, rfl, Nat.le_of_ble_eq_true rfl, Nat.le_of_ble_eq_true rfl⟩ rfl (Nat.le_of_ble_eq_true rfl) ?_
    refine cb_bipush 80 h dX9_wordsWithCarry_78 rfl kb_15 ?_
    exact cb_retI (Wf := WC a ca) h dX9_wordsWithCarry_80 he hf
  refine cb_aload_n 1 0 h dX9_wordsWithCarry_0 rfl rfl rfl ?_
  refine gf_X9_54 4 h dX9_wordsWithCarry_1 rfl ?_
  refine cb_iconst 5 h dX9_wordsWithCarry_4 rfl kc_2 ?_
  obtain ⟨c3, ec3, hf⟩ := cb_bo_o hf
  refine cl_X9_175 8 h dX9_wordsWithCarry_5 rfl bank_11 (ct_Bank_pair bank_11 ec3) ⟨rfl, rfl, Nat.le_of_ble_eq_true rfl, Nat.le_of_ble_eq_true rfl⟩ rfl (Nat.le_of_ble_eq_true rfl) ?_
  refine cb_istore_n (lv' := [(2, .int c3), (0, .ref (a 3)), (1, .int v1)]) 9 h dX9_wordsWithCarry_8 rfl rfl rfl (Nat.le_of_ble_eq_true rfl) rfl ?_
  refine cb_aload_n 10 1 h dX9_wordsWithCarry_9 rfl rfl rfl ?_
  refine cb_iload_n 11 2 h dX9_wordsWithCarry_10 rfl rfl rfl ?_
  refine cb_iconst 12 h dX9_wordsWithCarry_11 rfl kc_4 ?_
  refine cb_ishr 13 h dX9_wordsWithCarry_12 rfl ?_
  refine cb_iconst 14 h dX9_wordsWithCarry_13 rfl kc_3 ?_
  refine cb_iand 15 h dX9_wordsWithCarry_14 rfl ?_
  obtain ⟨c4, ec4, hf⟩ := cb_bo_o hf
  refine cl_X9_135 18 h dX9_wordsWithCarry_15 rfl (ct_Processor_wide ec4) ⟨rfl, rfl, Nat.le_of_ble_eq_true rfl, Nat.le_of_ble_eq_true rfl⟩ rfl (Nat.le_of_ble_eq_true rfl) ?_
  refine cb_istore_n (lv' := [(3, .int c4), (2, .int c3), (0, .ref (a 3)), (1, .int v1)]) 19 h dX9_wordsWithCarry_18 rfl rfl rfl (Nat.le_of_ble_eq_true rfl) rfl ?_
  refine cb_aload_n 20 2 h dX9_wordsWithCarry_19 rfl rfl rfl ?_
  refine gf_X9_61 23 h dX9_wordsWithCarry_20 rfl ?_
  refine cb_bipush 25 h dX9_wordsWithCarry_23 rfl kb_6 ?_
  refine laC_12 26 h dX9_wordsWithCarry_25 rfl vi_6_8 tk_6 ?_
  refine cb_iconst 27 h dX9_wordsWithCarry_26 rfl kc_1 ?_
  refine cb_iand 28 h dX9_wordsWithCarry_27 rfl ?_
  obtain ⟨t5, e6, hf⟩ := cb_let_o hf
  refine cb_istore (lv' := [(4, .int t5), (3, .int c4), (2, .int c3), (0, .ref (a 3)), (1, .int v1)]) 30 h dX9_wordsWithCarry_28 rfl e6 (Nat.le_of_ble_eq_true rfl) rfl ?_
  refine cb_iload_n 31 4 h dX9_wordsWithCarry_30 rfl rfl rfl ?_
  refine cb_bipush 33 h dX9_wordsWithCarry_31 rfl kb_8 ?_
  refine cb_iand 34 h dX9_wordsWithCarry_33 rfl ?_
  refine cb_if_ne 47 37 h dX9_wordsWithCarry_34 rfl rfl (fun q7 => ?_) (fun q7 => ?_)
  · have hf := cb_if q7 hf
    refine cb_iload_n 48 2 h dX9_wordsWithCarry_47 rfl rfl rfl ?_
    refine cb_iload_n 49 1 h dX9_wordsWithCarry_48 rfl rfl rfl ?_
    refine cb_iload 51 0 h dX9_wordsWithCarry_49 rfl rfl ?_
    obtain ⟨c8, ec8, hf⟩ := cb_bo_o hf
    refine cl_X9_178 54 h dX9_wordsWithCarry_51 rfl (ct_Flags_addWords ec8) ⟨rfl, rfl, Nat.le_of_ble_eq_true rfl, Nat.le_of_ble_eq_true rfl⟩ rfl (Nat.le_of_ble_eq_true rfl) ?_
    exact cb_lv [3] rfl (j54 _ _ hf)
  · have hf := cb_it q7 hf
    refine cb_iload_n 38 2 h dX9_wordsWithCarry_37 rfl rfl rfl ?_
    refine cb_iload_n 39 1 h dX9_wordsWithCarry_38 rfl rfl rfl ?_
    refine cb_iload 41 0 h dX9_wordsWithCarry_39 rfl rfl ?_
    obtain ⟨c9, ec9, hf⟩ := cb_bo_o hf
    refine cl_X9_242 44 h dX9_wordsWithCarry_41 rfl (ct_Flags_subtractWords ec9) ⟨rfl, rfl, Nat.le_of_ble_eq_true rfl, Nat.le_of_ble_eq_true rfl⟩ rfl (Nat.le_of_ble_eq_true rfl) ?_
    refine cb_goto 54 h dX9_wordsWithCarry_44 rfl ?_
    exact cb_lv [3] rfl (j54 _ _ hf)
set_option maxRecDepth 100000 in
set_option maxHeartbeats 4000000 in
theorem ct_Processor_copyByte {l : Launch} {D : va_G} {a : Nat → Nat} {ca : Nat → ClassId} {σ σ' : cb_S} {r : Int32} (hf : c_Processor_copyByte σ = some (r, σ')) : cb_C l yX9_copyByte cX9_copyByte 4 (some .boolean) { frames := 1, cells := 0, slots := 0, locals := 25 } D (EC ca) (adC a) [.ref (a 3)] (WC a ca σ) (some (.int r)) (WC a ca σ') := by
  refine cb_mk [(0, .ref (a 3))] (by decide) (Nat.le_of_ble_eq_true rfl) rfl (fun X h he => ?_) goodC
  have h : cb_ok X cX9_copyByte RX9 (EC ca) 1 25 4 := h
  unfold c_Processor_copyByte at hf
  refine cb_aload_n 1 0 h dX9_copyByte_0 rfl rfl rfl ?_
  refine gf_X9_54 4 h dX9_copyByte_1 rfl ?_
  refine cb_iconst 5 h dX9_copyByte_4 rfl kc_1 ?_
  obtain ⟨c1, ec1, hf⟩ := cb_bo_o hf
  refine cl_X9_175 8 h dX9_copyByte_5 rfl bank_11 (ct_Bank_pair bank_11 ec1) ⟨rfl, rfl, Nat.le_of_ble_eq_true rfl, Nat.le_of_ble_eq_true rfl⟩ rfl (Nat.le_of_ble_eq_true rfl) ?_
  refine cb_istore_n (lv' := [(1, .int c1), (0, .ref (a 3))]) 9 h dX9_copyByte_8 rfl rfl rfl (Nat.le_of_ble_eq_true rfl) rfl ?_
  refine cb_aload_n 10 1 h dX9_copyByte_9 rfl rfl rfl ?_
  refine gf_X9_54 13 h dX9_copyByte_10 rfl ?_
  refine cb_iconst 14 h dX9_copyByte_13 rfl kc_2 ?_
  obtain ⟨c2, ec2, hf⟩ := cb_bo_o hf
  refine cl_X9_175 17 h dX9_copyByte_14 rfl bank_11 (ct_Bank_pair bank_11 ec2) ⟨rfl, rfl, Nat.le_of_ble_eq_true rfl, Nat.le_of_ble_eq_true rfl⟩ rfl (Nat.le_of_ble_eq_true rfl) ?_
  refine cb_istore_n (lv' := [(2, .int c2), (1, .int c1), (0, .ref (a 3))]) 18 h dX9_copyByte_17 rfl rfl rfl (Nat.le_of_ble_eq_true rfl) rfl ?_
  refine cb_aload_n 19 2 h dX9_copyByte_18 rfl rfl rfl ?_
  refine gf_X9_42 22 h dX9_copyByte_19 rfl ?_
  refine cb_iload_n 23 1 h dX9_copyByte_22 rfl rfl rfl ?_
  refine cb_aload_n 24 2 h dX9_copyByte_23 rfl rfl rfl ?_
  refine gf_X9_42 27 h dX9_copyByte_24 rfl ?_
  refine cb_iload_n 28 0 h dX9_copyByte_27 rfl rfl rfl ?_
  obtain ⟨c3, ec3, hf⟩ := cb_bo_o hf
  refine cl_X9_190 31 h dX9_copyByte_28 rfl (ct_Memory_byteAt ec3) ⟨rfl, rfl, Nat.le_of_ble_eq_true rfl, Nat.le_of_ble_eq_true rfl⟩ rfl (Nat.le_of_ble_eq_true rfl) ?_
  obtain ⟨σc4, ec4, hf⟩ := cb_bo_o hf
  refine cl_X9_187 34 h dX9_copyByte_31 rfl (ct_Memory_putByte ec4) ⟨rfl, rfl, Nat.le_of_ble_eq_true rfl, Nat.le_of_ble_eq_true rfl⟩ rfl (Nat.le_of_ble_eq_true rfl) ?_
  refine cb_aload_n 35 2 h dX9_copyByte_34 rfl rfl rfl ?_
  refine gf_X9_54 38 h dX9_copyByte_35 rfl ?_
  refine cb_iconst 39 h dX9_copyByte_38 rfl kc_1 ?_
  refine cb_iload_n 40 1 h dX9_copyByte_39 rfl rfl rfl ?_
  refine cb_iconst 41 h dX9_copyByte_40 rfl kc_1 ?_
  refine cb_iadd 42 h dX9_copyByte_41 rfl ?_
  obtain ⟨σc5, ec5, hf⟩ := cb_bo_o hf
  refine cl_X9_181 45 h dX9_copyByte_42 rfl bank_11 (ct_Bank_putPair bank_11 ec5) ⟨rfl, rfl, Nat.le_of_ble_eq_true rfl, Nat.le_of_ble_eq_true rfl⟩ rfl (Nat.le_of_ble_eq_true rfl) ?_
  refine cb_aload_n 46 2 h dX9_copyByte_45 rfl rfl rfl ?_
  refine gf_X9_54 49 h dX9_copyByte_46 rfl ?_
  refine cb_iconst 50 h dX9_copyByte_49 rfl kc_2 ?_
  refine cb_iload_n 51 0 h dX9_copyByte_50 rfl rfl rfl ?_
  refine cb_iconst 52 h dX9_copyByte_51 rfl kc_1 ?_
  refine cb_iadd 53 h dX9_copyByte_52 rfl ?_
  obtain ⟨σc6, ec6, hf⟩ := cb_bo_o hf
  refine cl_X9_181 56 h dX9_copyByte_53 rfl bank_11 (ct_Bank_putPair bank_11 ec6) ⟨rfl, rfl, Nat.le_of_ble_eq_true rfl, Nat.le_of_ble_eq_true rfl⟩ rfl (Nat.le_of_ble_eq_true rfl) ?_
  refine cb_aload_n 57 2 h dX9_copyByte_56 rfl rfl rfl ?_
  refine gf_X9_54 60 h dX9_copyByte_57 rfl ?_
  refine cb_iconst 61 h dX9_copyByte_60 rfl kc_0 ?_
  refine cb_aload_n 62 2 h dX9_copyByte_61 rfl rfl rfl ?_
  refine gf_X9_54 65 h dX9_copyByte_62 rfl ?_
  refine cb_iconst 66 h dX9_copyByte_65 rfl kc_0 ?_
  obtain ⟨c7, ec7, hf⟩ := cb_bo_o hf
  refine cl_X9_175 69 h dX9_copyByte_66 rfl bank_11 (ct_Bank_pair bank_11 ec7) ⟨rfl, rfl, Nat.le_of_ble_eq_true rfl, Nat.le_of_ble_eq_true rfl⟩ rfl (Nat.le_of_ble_eq_true rfl) ?_
  refine cb_iconst 70 h dX9_copyByte_69 rfl kc_1 ?_
  refine cb_isub 71 h dX9_copyByte_70 rfl ?_
  obtain ⟨σc8, ec8, hf⟩ := cb_bo_o hf
  refine cl_X9_181 74 h dX9_copyByte_71 rfl bank_11 (ct_Bank_putPair bank_11 ec8) ⟨rfl, rfl, Nat.le_of_ble_eq_true rfl, Nat.le_of_ble_eq_true rfl⟩ rfl (Nat.le_of_ble_eq_true rfl) ?_
  refine cb_aload_n 75 2 h dX9_copyByte_74 rfl rfl rfl ?_
  refine gf_X9_54 78 h dX9_copyByte_75 rfl ?_
  refine cb_iconst 79 h dX9_copyByte_78 rfl kc_0 ?_
  obtain ⟨c9, ec9, hf⟩ := cb_bo_o hf
  refine cl_X9_175 82 h dX9_copyByte_79 rfl bank_11 (ct_Bank_pair bank_11 ec9) ⟨rfl, rfl, Nat.le_of_ble_eq_true rfl, Nat.le_of_ble_eq_true rfl⟩ rfl (Nat.le_of_ble_eq_true rfl) ?_
  refine cb_cut (cb_V X (WC a ca σc8) 90 [(2, .int c2), (1, .int c1), (0, .ref (a 3))] [.int (if c9 = 0 then (0 : Int32) else (1 : Int32))]) (fun jj => ?_) ?_
  · refine cb_if_eq 89 85 h dX9_copyByte_82 rfl rfl (fun q10 => ?_) (fun q10 => ?_)
    · refine cb_iconst 90 h dX9_copyByte_89 rfl kc_0 ?_
      exact (cb_tt q10 jj)
    · refine cb_iconst 86 h dX9_copyByte_85 rfl kc_1 ?_
      refine cb_goto 90 h dX9_copyByte_86 rfl ?_
      exact (cb_tf q10 jj)
  obtain ⟨t11, e12, hf⟩ := cb_let_o hf
  refine cb_istore_n (lv' := [(3, .int t11), (2, .int c2), (1, .int c1), (0, .ref (a 3))]) 91 h dX9_copyByte_90 rfl rfl e12 (Nat.le_of_ble_eq_true rfl) rfl ?_
  refine cb_aload_n 92 3 h dX9_copyByte_91 rfl rfl rfl ?_
  refine cb_bipush 94 h dX9_copyByte_92 rfl kb_22 ?_
  refine cb_iload_n 95 0 h dX9_copyByte_94 rfl rfl rfl ?_
  refine cb_cut (cb_V X (WC a ca σc8) 103 [(3, .int t11), (2, .int c2), (1, .int c1), (0, .ref (a 3))] [.int (if t11 = 0 then (0 : Int32) else (4 : Int32)), .int (22 : Int32), .ref (a 3)]) (fun jj => ?_) ?_
  · refine cb_if_eq 102 98 h dX9_copyByte_95 rfl rfl (fun q13 => ?_) (fun q13 => ?_)
    · refine cb_iconst 103 h dX9_copyByte_102 rfl kc_0 ?_
      exact (cb_tt q13 jj)
    · refine cb_iconst 99 h dX9_copyByte_98 rfl kc_4 ?_
      refine cb_goto 103 h dX9_copyByte_99 rfl ?_
      exact (cb_tf q13 jj)
  obtain ⟨σc14, ec14, hf⟩ := cb_bo_o hf
  refine cl_X9_184 106 h dX9_copyByte_103 rfl (ct_Processor_changeFlags ec14) ⟨rfl, rfl, Nat.le_of_ble_eq_true rfl, Nat.le_of_ble_eq_true rfl⟩ rfl (Nat.le_of_ble_eq_true rfl) ?_
  refine cb_iload_n 107 0 h dX9_copyByte_106 rfl rfl rfl ?_
  exact cb_retZ (Wf := WC a ca) h dX9_copyByte_107 he (cb_01_e e12 (cb_01_i cb_01_0 cb_01_1)) hf
set_option maxRecDepth 100000 in
set_option maxHeartbeats 4000000 in
theorem ct_Processor_pop {l : Launch} {D : va_G} {a : Nat → Nat} {ca : Nat → ClassId} {σ σ' : cb_S} {r : Int32} (hf : c_Processor_pop σ = some (r, σ')) : cb_C l yX9_pop cX9_pop 2 (some .int) { frames := 2, cells := 0, slots := 0, locals := 42 } D (EC ca) (adC a) [.ref (a 3)] (WC a ca σ) (some (.int r)) (WC a ca σ') := by
  refine cb_mk [(0, .ref (a 3))] (by decide) (Nat.le_of_ble_eq_true rfl) rfl (fun X h he => ?_) goodC
  have h : cb_ok X cX9_pop RX9 (EC ca) 2 42 2 := h
  unfold c_Processor_pop at hf
  refine cb_aload_n 1 0 h dX9_pop_0 rfl rfl rfl ?_
  refine gf_X9_42 4 h dX9_pop_1 rfl ?_
  refine cb_aload_n 5 0 h dX9_pop_4 rfl rfl rfl ?_
  refine gf_X9_10 8 h dX9_pop_5 rfl ?_
  refine gf_X9_214 11 h dX9_pop_8 rfl ?_
  obtain ⟨c1, ec1, hf⟩ := cb_bo_o hf
  refine cl_X9_118 14 h dX9_pop_11 rfl (ct_Memory_wordAt ec1) ⟨rfl, rfl, Nat.le_of_ble_eq_true rfl, Nat.le_of_ble_eq_true rfl⟩ rfl (Nat.le_of_ble_eq_true rfl) ?_
  refine cb_istore_n (lv' := [(1, .int c1), (0, .ref (a 3))]) 15 h dX9_pop_14 rfl rfl rfl (Nat.le_of_ble_eq_true rfl) rfl ?_
  refine cb_aload_n 16 1 h dX9_pop_15 rfl rfl rfl ?_
  refine gf_X9_10 19 h dX9_pop_16 rfl ?_
  refine cb_aload_n 20 1 h dX9_pop_19 rfl rfl rfl ?_
  refine gf_X9_10 23 h dX9_pop_20 rfl ?_
  refine gf_X9_214 26 h dX9_pop_23 rfl ?_
  refine cb_iconst 27 h dX9_pop_26 rfl kc_2 ?_
  refine cb_iadd 28 h dX9_pop_27 rfl ?_
  refine cb_ldc 30 h dX9_pop_28 rfl (cb_t2 91 rfl rfl) ?_
  refine cb_iand 31 h dX9_pop_30 rfl ?_
  obtain ⟨σ2, e3, hf⟩ := cb_let_o hf
  refine pf_X9_214 34 h dX9_pop_31 rfl e3 ?_
  refine cb_iload_n 35 0 h dX9_pop_34 rfl rfl rfl ?_
  exact cb_retI (Wf := WC a ca) h dX9_pop_35 he hf
set_option maxRecDepth 100000 in
set_option maxHeartbeats 4000000 in
theorem ct_Chain_endService {l : Launch} {D : va_G} {a : Nat → Nat} {ca : Nat → ClassId} {σ σ' : cb_S} (hf : c_Chain_endService σ = some σ') : cb_C l yX3_endService cX3_endService 2 none { frames := 0, cells := 0, slots := 0, locals := 0 } D (EC ca) (adC a) [.ref (a 2)] (WC a ca σ) none (WC a ca σ') := by
  refine cb_mk [(0, .ref (a 2))] (by decide) (Nat.le_of_ble_eq_true rfl) rfl (fun X h he => ?_) goodC
  have h : cb_ok X cX3_endService RX3 (EC ca) 0 0 2 := h
  unfold c_Chain_endService at hf
  refine cb_iconst 1 h dX3_endService_0 rfl kc_0 ?_
  refine cb_istore_n (lv' := [(1, .int (0 : Int32)), (0, .ref (a 2))]) 2 h dX3_endService_1 rfl rfl rfl (Nat.le_of_ble_eq_true rfl) rfl ?_
  refine cb_iload_n 3 0 h dX3_endService_2 rfl rfl rfl ?_
  refine cb_aload_n 4 1 h dX3_endService_3 rfl rfl rfl ?_
  refine gf_X3_33 7 h dX3_endService_4 rfl ?_
  refine leC_5 8 h dX3_endService_7 rfl ?_
  refine cb_icmp_ge 40 11 h dX3_endService_8 rfl rfl (fun q => absurd q (by decide)) (fun _ => ?_)
  refine cb_aload_n 12 1 h dX3_endService_11 rfl rfl rfl ?_
  refine gf_X3_33 15 h dX3_endService_12 rfl ?_
  refine cb_iload_n 16 0 h dX3_endService_15 rfl rfl rfl ?_
  refine laC_5 17 h dX3_endService_16 rfl vi_0_4 tk_0 ?_
  refine gf_X3_70 20 h dX3_endService_17 rfl device_6 ?_
  refine cb_if_eq 34 23 h dX3_endService_20 rfl rfl (fun q1 => ?_) (fun q1 => ?_)
  · have hf := cb_it q1 hf
    refine cb_iinc 0 (lv' := [(1, .int (1 : Int32)), (0, .ref (a 2))]) 37 h dX3_endService_34 rfl rfl (by decide) (Nat.le_of_ble_eq_true rfl) rfl ?_
    refine cb_goto 2 h dX3_endService_37 rfl ?_
    refine cb_iload_n 3 0 h dX3_endService_2 rfl rfl rfl ?_
    refine cb_aload_n 4 1 h dX3_endService_3 rfl rfl rfl ?_
    refine gf_X3_33 7 h dX3_endService_4 rfl ?_
    refine leC_5 8 h dX3_endService_7 rfl ?_
    refine cb_icmp_ge 40 11 h dX3_endService_8 rfl rfl (fun q => absurd q (by decide)) (fun _ => ?_)
    refine cb_aload_n 12 1 h dX3_endService_11 rfl rfl rfl ?_
    refine gf_X3_33 15 h dX3_endService_12 rfl ?_
    refine cb_iload_n 16 0 h dX3_endService_15 rfl rfl rfl ?_
    refine laC_5 17 h dX3_endService_16 rfl vi_1_4 tk_1 ?_
    refine gf_X3_70 20 h dX3_endService_17 rfl device_7 ?_
    refine cb_if_eq 34 23 h dX3_endService_20 rfl rfl (fun q2 => ?_) (fun q2 => ?_)
    · have hf := cb_it q2 hf
      refine cb_iinc 0 (lv' := [(1, .int (2 : Int32)), (0, .ref (a 2))]) 37 h dX3_endService_34 rfl rfl (by decide) (Nat.le_of_ble_eq_true rfl) rfl ?_
      refine cb_goto 2 h dX3_endService_37 rfl ?_
      refine cb_iload_n 3 0 h dX3_endService_2 rfl rfl rfl ?_
      refine cb_aload_n 4 1 h dX3_endService_3 rfl rfl rfl ?_
      refine gf_X3_33 7 h dX3_endService_4 rfl ?_
      refine leC_5 8 h dX3_endService_7 rfl ?_
      refine cb_icmp_ge 40 11 h dX3_endService_8 rfl rfl (fun q => absurd q (by decide)) (fun _ => ?_)
      refine cb_aload_n 12 1 h dX3_endService_11 rfl rfl rfl ?_
      refine gf_X3_33 15 h dX3_endService_12 rfl ?_
      refine cb_iload_n 16 0 h dX3_endService_15 rfl rfl rfl ?_
      refine laC_5 17 h dX3_endService_16 rfl vi_2_4 tk_2 ?_
      refine gf_X3_70 20 h dX3_endService_17 rfl device_8 ?_
      refine cb_if_eq 34 23 h dX3_endService_20 rfl rfl (fun q3 => ?_) (fun q3 => ?_)
      · have hf := cb_it q3 hf
        refine cb_iinc 0 (lv' := [(1, .int (3 : Int32)), (0, .ref (a 2))]) 37 h dX3_endService_34 rfl rfl (by decide) (Nat.le_of_ble_eq_true rfl) rfl ?_
        refine cb_goto 2 h dX3_endService_37 rfl ?_
        refine cb_iload_n 3 0 h dX3_endService_2 rfl rfl rfl ?_
        refine cb_aload_n 4 1 h dX3_endService_3 rfl rfl rfl ?_
        refine gf_X3_33 7 h dX3_endService_4 rfl ?_
        refine leC_5 8 h dX3_endService_7 rfl ?_
        refine cb_icmp_ge 40 11 h dX3_endService_8 rfl rfl (fun q => absurd q (by decide)) (fun _ => ?_)
        refine cb_aload_n 12 1 h dX3_endService_11 rfl rfl rfl ?_
        refine gf_X3_33 15 h dX3_endService_12 rfl ?_
        refine cb_iload_n 16 0 h dX3_endService_15 rfl rfl rfl ?_
        refine laC_5 17 h dX3_endService_16 rfl vi_3_4 tk_3 ?_
        refine gf_X3_70 20 h dX3_endService_17 rfl device_9 ?_
        refine cb_if_eq 34 23 h dX3_endService_20 rfl rfl (fun q4 => ?_) (fun q4 => ?_)
        · have hf := cb_it q4 hf
          refine cb_iinc 0 (lv' := [(1, .int (4 : Int32)), (0, .ref (a 2))]) 37 h dX3_endService_34 rfl rfl (by decide) (Nat.le_of_ble_eq_true rfl) rfl ?_
          refine cb_goto 2 h dX3_endService_37 rfl ?_
          refine cb_iload_n 3 0 h dX3_endService_2 rfl rfl rfl ?_
          refine cb_aload_n 4 1 h dX3_endService_3 rfl rfl rfl ?_
          refine gf_X3_33 7 h dX3_endService_4 rfl ?_
          refine leC_5 8 h dX3_endService_7 rfl ?_
          refine cb_icmp_ge 40 11 h dX3_endService_8 rfl rfl (fun _ => ?_) (fun q => absurd q (by decide))
          exact cb_retV (Wf := WC a ca) h dX3_endService_40 he hf
        · have hf := cb_if q4 hf
          refine cb_aload_n 24 1 h dX3_endService_23 rfl rfl rfl ?_
          refine gf_X3_33 27 h dX3_endService_24 rfl ?_
          refine cb_iload_n 28 0 h dX3_endService_27 rfl rfl rfl ?_
          refine laC_5 29 h dX3_endService_28 rfl vi_3_4 tk_3 ?_
          refine cb_iconst 30 h dX3_endService_29 rfl kc_0 ?_
          obtain ⟨σ5, e6, hf⟩ := cb_let_o hf
          refine pf_X3_70 33 h dX3_endService_30 rfl device_9 cb_01_0 e6 ?_
          exact cb_retV (Wf := WC a ca) h dX3_endService_33 he hf
      · have hf := cb_if q3 hf
        refine cb_aload_n 24 1 h dX3_endService_23 rfl rfl rfl ?_
        refine gf_X3_33 27 h dX3_endService_24 rfl ?_
        refine cb_iload_n 28 0 h dX3_endService_27 rfl rfl rfl ?_
        refine laC_5 29 h dX3_endService_28 rfl vi_2_4 tk_2 ?_
        refine cb_iconst 30 h dX3_endService_29 rfl kc_0 ?_
        obtain ⟨σ7, e8, hf⟩ := cb_let_o hf
        refine pf_X3_70 33 h dX3_endService_30 rfl device_8 cb_01_0 e8 ?_
        exact cb_retV (Wf := WC a ca) h dX3_endService_33 he hf
    · have hf := cb_if q2 hf
      refine cb_aload_n 24 1 h dX3_endService_23 rfl rfl rfl ?_
      refine gf_X3_33 27 h dX3_endService_24 rfl ?_
      refine cb_iload_n 28 0 h dX3_endService_27 rfl rfl rfl ?_
      refine laC_5 29 h dX3_endService_28 rfl vi_1_4 tk_1 ?_
      refine cb_iconst 30 h dX3_endService_29 rfl kc_0 ?_
      obtain ⟨σ9, e10, hf⟩ := cb_let_o hf
      refine pf_X3_70 33 h dX3_endService_30 rfl device_7 cb_01_0 e10 ?_
      exact cb_retV (Wf := WC a ca) h dX3_endService_33 he hf
  · have hf := cb_if q1 hf
    refine cb_aload_n 24 1 h dX3_endService_23 rfl rfl rfl ?_
    refine gf_X3_33 27 h dX3_endService_24 rfl ?_
    refine cb_iload_n 28 0 h dX3_endService_27 rfl rfl rfl ?_
    refine laC_5 29 h dX3_endService_28 rfl vi_0_4 tk_0 ?_
    refine cb_iconst 30 h dX3_endService_29 rfl kc_0 ?_
    obtain ⟨σ11, e12, hf⟩ := cb_let_o hf
    refine pf_X3_70 33 h dX3_endService_30 rfl device_6 cb_01_0 e12 ?_
    exact cb_retV (Wf := WC a ca) h dX3_endService_33 he hf
set_option maxRecDepth 100000 in
set_option maxHeartbeats 4000000 in
theorem ct_Processor_extended {l : Launch} {D : va_G} {a : Nat → Nat} {ca : Nat → ClassId} {σ σ' : cb_S} {v1 : Int32} {r : Int32} (hf : c_Processor_extended σ v1 = some (r, σ')) : cb_C l yX9_extended cX9_extended 3 (some .int) { frames := 3, cells := 0, slots := 0, locals := 72 } D (EC ca) (adC a) [.ref (a 3), .int v1] (WC a ca σ) (some (.int r)) (WC a ca σ') := by
  refine cb_mk [(0, .ref (a 3)), (1, .int v1)] (by decide) (Nat.le_of_ble_eq_true rfl) rfl (fun X h he => ?_) goodC
  have h : cb_ok X cX9_extended RX9 (EC ca) 3 72 3 := h
  unfold c_Processor_extended at hf
  refine cb_iload_n 1 1 h dX9_extended_0 rfl rfl rfl ?_
  by_cases q1 : v1 = 66 ∨ v1 = 74 ∨ v1 = 82 ∨ v1 = 90 ∨ v1 = 98 ∨ v1 = 106 ∨ v1 = 114 ∨ v1 = 122
  · have hf := cb_it q1 hf
    refine cb_cut (cb_V X (WC a ca σ) 157 [(0, .ref (a 3)), (1, .int v1)] []) (fun jj => ?_) ?_
    · rcases q1 with q1 | q1 | q1 | q1 | q1 | q1 | q1 | q1
      · exact cb_look 157 h dX9_extended_1 rfl (cb_lko q1 rfl) rfl jj
      · exact cb_look 157 h dX9_extended_1 rfl (cb_lko q1 rfl) rfl jj
      · exact cb_look 157 h dX9_extended_1 rfl (cb_lko q1 rfl) rfl jj
      · exact cb_look 157 h dX9_extended_1 rfl (cb_lko q1 rfl) rfl jj
      · exact cb_look 157 h dX9_extended_1 rfl (cb_lko q1 rfl) rfl jj
      · exact cb_look 157 h dX9_extended_1 rfl (cb_lko q1 rfl) rfl jj
      · exact cb_look 157 h dX9_extended_1 rfl (cb_lko q1 rfl) rfl jj
      · exact cb_look 157 h dX9_extended_1 rfl (cb_lko q1 rfl) rfl jj
    refine cb_aload_n 158 0 h dX9_extended_157 rfl rfl rfl ?_
    refine cb_iload_n 159 1 h dX9_extended_158 rfl rfl rfl ?_
    obtain ⟨c2, σc2, ec2, hf⟩ := cb_b2_o hf
    refine cl_X9_232 162 h dX9_extended_159 rfl (ct_Processor_wordsWithCarry ec2) ⟨rfl, rfl, Nat.le_of_ble_eq_true rfl, Nat.le_of_ble_eq_true rfl⟩ rfl (Nat.le_of_ble_eq_true rfl) ?_
    exact cb_retI (Wf := WC a ca) h dX9_extended_162 he hf
  have hf := cb_if q1 hf
  by_cases q3 : v1 = 68
  · have hf := cb_it q3 hf
    refine cb_look 132 h dX9_extended_1 rfl (cb_lko q3 rfl) rfl ?_
    refine cb_iconst 133 h dX9_extended_132 rfl kc_0 ?_
    refine cb_aload_n 134 0 h dX9_extended_133 rfl rfl rfl ?_
    refine gf_X9_61 137 h dX9_extended_134 rfl ?_
    refine cb_bipush 139 h dX9_extended_137 rfl kb_7 ?_
    refine laC_12 140 h dX9_extended_139 rfl vi_7_8 tk_7 ?_
    refine cb_iconst 141 h dX9_extended_140 rfl kc_0 ?_
    obtain ⟨c4, ec4, hf⟩ := cb_bo_o hf
    refine cl_X9_151 144 h dX9_extended_141 rfl (ct_Flags_subtract ec4) ⟨rfl, rfl, Nat.le_of_ble_eq_true rfl, Nat.le_of_ble_eq_true rfl⟩ rfl (Nat.le_of_ble_eq_true rfl) ?_
    refine cb_istore_n (lv' := [(2, .int c4), (0, .ref (a 3)), (1, .int v1)]) 145 h dX9_extended_144 rfl rfl rfl (Nat.le_of_ble_eq_true rfl) rfl ?_
    refine cb_aload_n 146 1 h dX9_extended_145 rfl rfl rfl ?_
    refine gf_X9_54 149 h dX9_extended_146 rfl ?_
    refine cb_iconst 150 h dX9_extended_149 rfl kc_3 ?_
    refine cb_iload_n 151 0 h dX9_extended_150 rfl rfl rfl ?_
    obtain ⟨σc5, ec5, hf⟩ := cb_bo_o hf
    refine cl_X9_181 154 h dX9_extended_151 rfl bank_11 (ct_Bank_putPair bank_11 ec5) ⟨rfl, rfl, Nat.le_of_ble_eq_true rfl, Nat.le_of_ble_eq_true rfl⟩ rfl (Nat.le_of_ble_eq_true rfl) ?_
    refine cb_bipush 156 h dX9_extended_154 rfl kb_8 ?_
    exact cb_retI (Wf := WC a ca) h dX9_extended_156 he hf
  have hf := cb_if q3 hf
  by_cases q6 : v1 = 71
  · have hf := cb_it q6 hf
    refine cb_look 203 h dX9_extended_1 rfl (cb_lko q6 rfl) rfl ?_
    refine cb_aload_n 204 0 h dX9_extended_203 rfl rfl rfl ?_
    refine gf_X9_10 207 h dX9_extended_204 rfl ?_
    refine cb_aload_n 208 0 h dX9_extended_207 rfl rfl rfl ?_
    refine gf_X9_61 211 h dX9_extended_208 rfl ?_
    refine cb_bipush 213 h dX9_extended_211 rfl kb_7 ?_
    refine laC_12 214 h dX9_extended_213 rfl vi_7_8 tk_7 ?_
    obtain ⟨σ7, e8, hf⟩ := cb_let_o hf
    refine pf_X9_112 217 h dX9_extended_214 rfl e8 ?_
    refine cb_bipush 219 h dX9_extended_217 rfl kb_9 ?_
    exact cb_retI (Wf := WC a ca) h dX9_extended_219 he hf
  have hf := cb_if q6 hf
  by_cases q9 : v1 = 77
  · have hf := cb_it q9 hf
    refine cb_look 236 h dX9_extended_1 rfl (cb_lko q9 rfl) rfl ?_
    refine cb_aload_n 237 0 h dX9_extended_236 rfl rfl rfl ?_
    refine gf_X9_10 240 h dX9_extended_237 rfl ?_
    refine cb_aload_n 241 0 h dX9_extended_240 rfl rfl rfl ?_
    obtain ⟨c10, σc10, ec10, hf⟩ := cb_b2_o hf
    refine cl_X9_229 244 h dX9_extended_241 rfl (ct_Processor_pop ec10) ⟨rfl, rfl, Nat.le_of_ble_eq_true rfl, Nat.le_of_ble_eq_true rfl⟩ rfl (Nat.le_of_ble_eq_true rfl) ?_
    obtain ⟨σ11, e12, hf⟩ := cb_let_o hf
    refine pf_X9_64 247 h dX9_extended_244 rfl e12 ?_
    refine cb_aload_n 248 0 h dX9_extended_247 rfl rfl rfl ?_
    refine gf_X9_46 251 h dX9_extended_248 rfl ?_
    obtain ⟨σc13, ec13, hf⟩ := cb_bo_o hf
    refine cl_X9_239 254 h dX9_extended_251 rfl (ct_Chain_endService ec13) ⟨rfl, rfl, Nat.le_of_ble_eq_true rfl, Nat.le_of_ble_eq_true rfl⟩ rfl (Nat.le_of_ble_eq_true rfl) ?_
    refine cb_bipush 256 h dX9_extended_254 rfl kb_14 ?_
    exact cb_retI (Wf := WC a ca) h dX9_extended_256 he hf
  have hf := cb_if q9 hf
  by_cases q14 : v1 = 86
  · have hf := cb_it q14 hf
    refine cb_look 220 h dX9_extended_1 rfl (cb_lko q14 rfl) rfl ?_
    refine cb_aload_n 221 0 h dX9_extended_220 rfl rfl rfl ?_
    refine cb_iconst 222 h dX9_extended_221 rfl kc_1 ?_
    obtain ⟨σ15, e16, hf⟩ := cb_let_o hf
    refine pf_X9_20 225 h dX9_extended_222 rfl e16 ?_
    refine cb_bipush 227 h dX9_extended_225 rfl kb_8 ?_
    exact cb_retI (Wf := WC a ca) h dX9_extended_227 he hf
  have hf := cb_if q14 hf
  by_cases q17 : v1 = 94
  · have hf := cb_it q17 hf
    refine cb_look 228 h dX9_extended_1 rfl (cb_lko q17 rfl) rfl ?_
    refine cb_aload_n 229 0 h dX9_extended_228 rfl rfl rfl ?_
    refine cb_iconst 230 h dX9_extended_229 rfl kc_2 ?_
    obtain ⟨σ18, e19, hf⟩ := cb_let_o hf
    refine pf_X9_20 233 h dX9_extended_230 rfl e19 ?_
    refine cb_bipush 235 h dX9_extended_233 rfl kb_8 ?_
    exact cb_retI (Wf := WC a ca) h dX9_extended_235 he hf
  have hf := cb_if q17 hf
  by_cases q20 : v1 = 160
  · have hf := cb_it q20 hf
    refine cb_look 163 h dX9_extended_1 rfl (cb_lko q20 rfl) rfl ?_
    refine cb_aload_n 164 0 h dX9_extended_163 rfl rfl rfl ?_
    obtain ⟨c21, σc21, ec21, hf⟩ := cb_b2_o hf
    refine cl_X9_235 167 h dX9_extended_164 rfl (ct_Processor_copyByte ec21) ⟨rfl, rfl, Nat.le_of_ble_eq_true rfl, Nat.le_of_ble_eq_true rfl⟩ rfl (Nat.le_of_ble_eq_true rfl) ?_
    refine cb_pop 168 h dX9_extended_167 rfl rfl ?_
    refine cb_bipush 170 h dX9_extended_168 rfl kb_16 ?_
    exact cb_retI (Wf := WC a ca) h dX9_extended_170 he hf
  have hf := cb_if q20 hf
  by_cases q22 : v1 = 176
  · have hf := cb_it q22 hf
    refine cb_look 171 h dX9_extended_1 rfl (cb_lko q22 rfl) rfl ?_
    refine cb_aload_n 172 0 h dX9_extended_171 rfl rfl rfl ?_
    obtain ⟨c23, σc23, ec23, hf⟩ := cb_b2_o hf
    refine cl_X9_235 175 h dX9_extended_172 rfl (ct_Processor_copyByte ec23) ⟨rfl, rfl, Nat.le_of_ble_eq_true rfl, Nat.le_of_ble_eq_true rfl⟩ rfl (Nat.le_of_ble_eq_true rfl) ?_
    refine cb_if_ne 181 178 h dX9_extended_175 rfl rfl (fun q24 => ?_) (fun q24 => ?_)
    · have hf := cb_if q24 hf
      refine cb_aload_n 182 0 h dX9_extended_181 rfl rfl rfl ?_
      refine gf_X9_10 185 h dX9_extended_182 rfl ?_
      refine cb_aload_n 186 0 h dX9_extended_185 rfl rfl rfl ?_
      refine gf_X9_10 189 h dX9_extended_186 rfl ?_
      refine gf_X9_64 192 h dX9_extended_189 rfl ?_
      refine cb_iconst 193 h dX9_extended_192 rfl kc_2 ?_
      refine cb_isub 194 h dX9_extended_193 rfl ?_
      refine cb_ldc 196 h dX9_extended_194 rfl (cb_t2 91 rfl rfl) ?_
      refine cb_iand 197 h dX9_extended_196 rfl ?_
      obtain ⟨σ25, e26, hf⟩ := cb_let_o hf
      refine pf_X9_64 200 h dX9_extended_197 rfl e26 ?_
      refine cb_bipush 202 h dX9_extended_200 rfl kb_21 ?_
      exact cb_retI (Wf := WC a ca) h dX9_extended_202 he hf
    · have hf := cb_it q24 hf
      refine cb_bipush 180 h dX9_extended_178 rfl kb_16 ?_
      exact cb_retI (Wf := WC a ca) h dX9_extended_180 he hf
  have hf := cb_if q22 hf
  refine cb_look 257 h dX9_extended_1 rfl ((lv_osw (cb_no8_0 q1) (by decide)).trans ((lv_osw q3 (by decide)).trans ((lv_osw q6 (by decide)).trans ((lv_osw (cb_no8_1 q1) (by decide)).trans ((lv_osw q9 (by decide)).trans ((lv_osw (cb_no8_2 q1) (by decide)).trans ((lv_osw q14 (by decide)).trans ((lv_osw (cb_no8_3 q1) (by decide)).trans ((lv_osw q17 (by decide)).trans ((lv_osw (cb_no8_4 q1) (by decide)).trans ((lv_osw (cb_no8_5 q1) (by decide)).trans ((lv_osw (cb_no8_6 q1) (by decide)).trans ((lv_osw (cb_no8_7 q1) (by decide)).trans ((lv_osw q20 (by decide)).trans ((lv_osw q22 (by decide)).trans rfl))))))))))))))) rfl ?_
  refine cb_iconst 258 h dX9_extended_257 rfl kc_0 ?_
  exact cb_retI (Wf := WC a ca) h dX9_extended_258 he hf
set_option maxRecDepth 100000 in
set_option maxHeartbeats 4000000 in
theorem ct_Processor_highAlone {l : Launch} {D : va_G} {a : Nat → Nat} {ca : Nat → ClassId} {σ σ' : cb_S} {v1 : Int32} {r : Int32} (hf : c_Processor_highAlone σ v1 = some (r, σ')) : cb_C l yX9_highAlone cX9_highAlone 4 (some .int) { frames := 4, cells := 0, slots := 0, locals := 94 } D (EC ca) (adC a) [.ref (a 3), .int v1] (WC a ca σ) (some (.int r)) (WC a ca σ') := by
  refine cb_mk [(0, .ref (a 3)), (1, .int v1)] (by decide) (Nat.le_of_ble_eq_true rfl) rfl (fun X h he => ?_) goodC
  have h : cb_ok X cX9_highAlone RX9 (EC ca) 4 94 4 := h
  unfold c_Processor_highAlone at hf
  refine cb_iload_n 1 1 h dX9_highAlone_0 rfl rfl rfl ?_
  by_cases q1 : v1 = 195
  · have hf := cb_it q1 hf
    refine cb_look 92 h dX9_highAlone_1 rfl (cb_lko q1 rfl) rfl ?_
    refine cb_aload_n 93 0 h dX9_highAlone_92 rfl rfl rfl ?_
    refine gf_X9_10 96 h dX9_highAlone_93 rfl ?_
    refine cb_aload_n 97 0 h dX9_highAlone_96 rfl rfl rfl ?_
    obtain ⟨c2, σc2, ec2, hf⟩ := cb_b2_o hf
    refine cl_X9_172 100 h dX9_highAlone_97 rfl (ct_Processor_nextWord ec2) ⟨rfl, rfl, Nat.le_of_ble_eq_true rfl, Nat.le_of_ble_eq_true rfl⟩ rfl (Nat.le_of_ble_eq_true rfl) ?_
    obtain ⟨σ3, e4, hf⟩ := cb_let_o hf
    refine pf_X9_64 103 h dX9_highAlone_100 rfl e4 ?_
    refine cb_bipush 105 h dX9_highAlone_103 rfl kb_10 ?_
    exact cb_retI (Wf := WC a ca) h dX9_highAlone_105 he hf
  have hf := cb_if q1 hf
  by_cases q5 : v1 = 203
  · have hf := cb_it q5 hf
    refine cb_look 106 h dX9_highAlone_1 rfl (cb_lko q5 rfl) rfl ?_
    refine cb_aload_n 107 0 h dX9_highAlone_106 rfl rfl rfl ?_
    refine cb_aload_n 108 0 h dX9_highAlone_107 rfl rfl rfl ?_
    obtain ⟨c6, σc6, ec6, hf⟩ := cb_b2_o hf
    refine cl_X9_67 111 h dX9_highAlone_108 rfl (ct_Processor_nextByte ec6) ⟨rfl, rfl, Nat.le_of_ble_eq_true rfl, Nat.le_of_ble_eq_true rfl⟩ rfl (Nat.le_of_ble_eq_true rfl) ?_
    obtain ⟨c7, σc7, ec7, hf⟩ := cb_b2_o hf
    refine cl_X9_202 114 h dX9_highAlone_111 rfl (ct_Processor_bits ec7) ⟨rfl, rfl, Nat.le_of_ble_eq_true rfl, Nat.le_of_ble_eq_true rfl⟩ rfl (Nat.le_of_ble_eq_true rfl) ?_
    exact cb_retI (Wf := WC a ca) h dX9_highAlone_114 he hf
  have hf := cb_if q5 hf
  by_cases q8 : v1 = 205
  · have hf := cb_it q8 hf
    refine cb_look 115 h dX9_highAlone_1 rfl (cb_lko q8 rfl) rfl ?_
    refine cb_aload_n 116 0 h dX9_highAlone_115 rfl rfl rfl ?_
    refine cb_iconst 117 h dX9_highAlone_116 rfl kc_1 ?_
    obtain ⟨c9, σc9, ec9, hf⟩ := cb_b2_o hf
    refine cl_X9_205 120 h dX9_highAlone_117 rfl (ct_Processor_callIf ec9) ⟨rfl, rfl, Nat.le_of_ble_eq_true rfl, Nat.le_of_ble_eq_true rfl⟩ rfl (Nat.le_of_ble_eq_true rfl) ?_
    exact cb_retI (Wf := WC a ca) h dX9_highAlone_120 he hf
  have hf := cb_if q8 hf
  by_cases q10 : v1 = 211
  · have hf := cb_it q10 hf
    refine cb_look 121 h dX9_highAlone_1 rfl (cb_lko q10 rfl) rfl ?_
    refine cb_aload_n 122 0 h dX9_highAlone_121 rfl rfl rfl ?_
    refine gf_X9_46 125 h dX9_highAlone_122 rfl ?_
    refine cb_aload_n 126 0 h dX9_highAlone_125 rfl rfl rfl ?_
    obtain ⟨c11, σc11, ec11, hf⟩ := cb_b2_o hf
    refine cl_X9_67 129 h dX9_highAlone_126 rfl (ct_Processor_nextByte ec11) ⟨rfl, rfl, Nat.le_of_ble_eq_true rfl, Nat.le_of_ble_eq_true rfl⟩ rfl (Nat.le_of_ble_eq_true rfl) ?_
    refine cb_aload_n 130 0 h dX9_highAlone_129 rfl rfl rfl ?_
    refine gf_X9_61 133 h dX9_highAlone_130 rfl ?_
    refine cb_bipush 135 h dX9_highAlone_133 rfl kb_7 ?_
    refine laC_12 136 h dX9_highAlone_135 rfl vi_7_8 tk_7 ?_
    obtain ⟨σc12, ec12, hf⟩ := cb_bo_o hf
    refine cl_X9_208 139 h dX9_highAlone_136 rfl (ct_Chain_output ec12) ⟨rfl, rfl, Nat.le_of_ble_eq_true rfl, Nat.le_of_ble_eq_true rfl⟩ rfl (Nat.le_of_ble_eq_true rfl) ?_
    refine cb_bipush 141 h dX9_highAlone_139 rfl kb_11 ?_
    exact cb_retI (Wf := WC a ca) h dX9_highAlone_141 he hf
  have hf := cb_if q10 hf
  by_cases q13 : v1 = 219
  · have hf := cb_it q13 hf
    refine cb_look 142 h dX9_highAlone_1 rfl (cb_lko q13 rfl) rfl ?_
    refine cb_aload_n 143 0 h dX9_highAlone_142 rfl rfl rfl ?_
    refine gf_X9_61 146 h dX9_highAlone_143 rfl ?_
    refine cb_bipush 148 h dX9_highAlone_146 rfl kb_7 ?_
    refine cb_aload_n 149 0 h dX9_highAlone_148 rfl rfl rfl ?_
    refine gf_X9_46 152 h dX9_highAlone_149 rfl ?_
    refine cb_aload_n 153 0 h dX9_highAlone_152 rfl rfl rfl ?_
    obtain ⟨c14, σc14, ec14, hf⟩ := cb_b2_o hf
    refine cl_X9_67 156 h dX9_highAlone_153 rfl (ct_Processor_nextByte ec14) ⟨rfl, rfl, Nat.le_of_ble_eq_true rfl, Nat.le_of_ble_eq_true rfl⟩ rfl (Nat.le_of_ble_eq_true rfl) ?_
    obtain ⟨c15, σc15, ec15, hf⟩ := cb_b2_o hf
    refine cl_X9_211 159 h dX9_highAlone_156 rfl (ct_Chain_input ec15) ⟨rfl, rfl, Nat.le_of_ble_eq_true rfl, Nat.le_of_ble_eq_true rfl⟩ rfl (Nat.le_of_ble_eq_true rfl) ?_
    obtain ⟨σ16, e17, hf⟩ := cb_let_o hf
    refine saC_12 160 h dX9_highAlone_159 rfl vi_7_8 tk_7 e17 ?_
    refine cb_bipush 162 h dX9_highAlone_160 rfl kb_11 ?_
    exact cb_retI (Wf := WC a ca) h dX9_highAlone_162 he hf
  have hf := cb_if q13 hf
  by_cases q18 : v1 = 227
  · have hf := cb_it q18 hf
    refine cb_look 163 h dX9_highAlone_1 rfl (cb_lko q18 rfl) rfl ?_
    refine cb_aload_n 164 0 h dX9_highAlone_163 rfl rfl rfl ?_
    refine gf_X9_42 167 h dX9_highAlone_164 rfl ?_
    refine cb_aload_n 168 0 h dX9_highAlone_167 rfl rfl rfl ?_
    refine gf_X9_10 171 h dX9_highAlone_168 rfl ?_
    refine gf_X9_214 174 h dX9_highAlone_171 rfl ?_
    obtain ⟨c19, ec19, hf⟩ := cb_bo_o hf
    refine cl_X9_118 177 h dX9_highAlone_174 rfl (ct_Memory_wordAt ec19) ⟨rfl, rfl, Nat.le_of_ble_eq_true rfl, Nat.le_of_ble_eq_true rfl⟩ rfl (Nat.le_of_ble_eq_true rfl) ?_
    refine cb_istore_n (lv' := [(2, .int c19), (0, .ref (a 3)), (1, .int v1)]) 178 h dX9_highAlone_177 rfl rfl rfl (Nat.le_of_ble_eq_true rfl) rfl ?_
    refine cb_aload_n 179 1 h dX9_highAlone_178 rfl rfl rfl ?_
    refine gf_X9_42 182 h dX9_highAlone_179 rfl ?_
    refine cb_aload_n 183 1 h dX9_highAlone_182 rfl rfl rfl ?_
    refine gf_X9_10 186 h dX9_highAlone_183 rfl ?_
    refine gf_X9_214 189 h dX9_highAlone_186 rfl ?_
    refine cb_aload_n 190 1 h dX9_highAlone_189 rfl rfl rfl ?_
    refine gf_X9_54 193 h dX9_highAlone_190 rfl ?_
    refine cb_iconst 194 h dX9_highAlone_193 rfl kc_2 ?_
    obtain ⟨c20, ec20, hf⟩ := cb_bo_o hf
    refine cl_X9_175 197 h dX9_highAlone_194 rfl bank_11 (ct_Bank_pair bank_11 ec20) ⟨rfl, rfl, Nat.le_of_ble_eq_true rfl, Nat.le_of_ble_eq_true rfl⟩ rfl (Nat.le_of_ble_eq_true rfl) ?_
    obtain ⟨σc21, ec21, hf⟩ := cb_bo_o hf
    refine cl_X9_193 200 h dX9_highAlone_197 rfl (ct_Memory_putWord ec21) ⟨rfl, rfl, Nat.le_of_ble_eq_true rfl, Nat.le_of_ble_eq_true rfl⟩ rfl (Nat.le_of_ble_eq_true rfl) ?_
    refine cb_aload_n 201 1 h dX9_highAlone_200 rfl rfl rfl ?_
    refine gf_X9_54 204 h dX9_highAlone_201 rfl ?_
    refine cb_iconst 205 h dX9_highAlone_204 rfl kc_2 ?_
    refine cb_iload_n 206 0 h dX9_highAlone_205 rfl rfl rfl ?_
    obtain ⟨σc22, ec22, hf⟩ := cb_bo_o hf
    refine cl_X9_181 209 h dX9_highAlone_206 rfl bank_11 (ct_Bank_putPair bank_11 ec22) ⟨rfl, rfl, Nat.le_of_ble_eq_true rfl, Nat.le_of_ble_eq_true rfl⟩ rfl (Nat.le_of_ble_eq_true rfl) ?_
    refine cb_bipush 211 h dX9_highAlone_209 rfl kb_19 ?_
    exact cb_retI (Wf := WC a ca) h dX9_highAlone_211 he hf
  have hf := cb_if q18 hf
  by_cases q23 : v1 = 235
  · have hf := cb_it q23 hf
    refine cb_look 212 h dX9_highAlone_1 rfl (cb_lko q23 rfl) rfl ?_
    refine cb_aload_n 213 0 h dX9_highAlone_212 rfl rfl rfl ?_
    refine gf_X9_54 216 h dX9_highAlone_213 rfl ?_
    refine cb_iconst 217 h dX9_highAlone_216 rfl kc_1 ?_
    obtain ⟨c24, ec24, hf⟩ := cb_bo_o hf
    refine cl_X9_175 220 h dX9_highAlone_217 rfl bank_11 (ct_Bank_pair bank_11 ec24) ⟨rfl, rfl, Nat.le_of_ble_eq_true rfl, Nat.le_of_ble_eq_true rfl⟩ rfl (Nat.le_of_ble_eq_true rfl) ?_
    refine cb_istore_n (lv' := [(3, .int c24), (0, .ref (a 3)), (1, .int v1)]) 221 h dX9_highAlone_220 rfl rfl rfl (Nat.le_of_ble_eq_true rfl) rfl ?_
    refine cb_aload_n 222 1 h dX9_highAlone_221 rfl rfl rfl ?_
    refine gf_X9_54 225 h dX9_highAlone_222 rfl ?_
    refine cb_iconst 226 h dX9_highAlone_225 rfl kc_1 ?_
    refine cb_aload_n 227 1 h dX9_highAlone_226 rfl rfl rfl ?_
    refine gf_X9_54 230 h dX9_highAlone_227 rfl ?_
    refine cb_iconst 231 h dX9_highAlone_230 rfl kc_2 ?_
    obtain ⟨c25, ec25, hf⟩ := cb_bo_o hf
    refine cl_X9_175 234 h dX9_highAlone_231 rfl bank_11 (ct_Bank_pair bank_11 ec25) ⟨rfl, rfl, Nat.le_of_ble_eq_true rfl, Nat.le_of_ble_eq_true rfl⟩ rfl (Nat.le_of_ble_eq_true rfl) ?_
    obtain ⟨σc26, ec26, hf⟩ := cb_bo_o hf
    refine cl_X9_181 237 h dX9_highAlone_234 rfl bank_11 (ct_Bank_putPair bank_11 ec26) ⟨rfl, rfl, Nat.le_of_ble_eq_true rfl, Nat.le_of_ble_eq_true rfl⟩ rfl (Nat.le_of_ble_eq_true rfl) ?_
    refine cb_aload_n 238 1 h dX9_highAlone_237 rfl rfl rfl ?_
    refine gf_X9_54 241 h dX9_highAlone_238 rfl ?_
    refine cb_iconst 242 h dX9_highAlone_241 rfl kc_2 ?_
    refine cb_iload_n 243 0 h dX9_highAlone_242 rfl rfl rfl ?_
    obtain ⟨σc27, ec27, hf⟩ := cb_bo_o hf
    refine cl_X9_181 246 h dX9_highAlone_243 rfl bank_11 (ct_Bank_putPair bank_11 ec27) ⟨rfl, rfl, Nat.le_of_ble_eq_true rfl, Nat.le_of_ble_eq_true rfl⟩ rfl (Nat.le_of_ble_eq_true rfl) ?_
    refine cb_iconst 247 h dX9_highAlone_246 rfl kc_4 ?_
    exact cb_retI (Wf := WC a ca) h dX9_highAlone_247 he hf
  have hf := cb_if q23 hf
  by_cases q28 : v1 = 237
  · have hf := cb_it q28 hf
    refine cb_look 248 h dX9_highAlone_1 rfl (cb_lko q28 rfl) rfl ?_
    refine cb_aload_n 249 0 h dX9_highAlone_248 rfl rfl rfl ?_
    refine cb_aload_n 250 0 h dX9_highAlone_249 rfl rfl rfl ?_
    obtain ⟨c29, σc29, ec29, hf⟩ := cb_b2_o hf
    refine cl_X9_67 253 h dX9_highAlone_250 rfl (ct_Processor_nextByte ec29) ⟨rfl, rfl, Nat.le_of_ble_eq_true rfl, Nat.le_of_ble_eq_true rfl⟩ rfl (Nat.le_of_ble_eq_true rfl) ?_
    obtain ⟨c30, σc30, ec30, hf⟩ := cb_b2_o hf
    refine cl_X9_217 256 h dX9_highAlone_253 rfl (ct_Processor_extended ec30) ⟨rfl, rfl, Nat.le_of_ble_eq_true rfl, Nat.le_of_ble_eq_true rfl⟩ rfl (Nat.le_of_ble_eq_true rfl) ?_
    exact cb_retI (Wf := WC a ca) h dX9_highAlone_256 he hf
  have hf := cb_if q28 hf
  by_cases q31 : v1 = 243
  · have hf := cb_it q31 hf
    refine cb_look 257 h dX9_highAlone_1 rfl (cb_lko q31 rfl) rfl ?_
    refine cb_aload_n 258 0 h dX9_highAlone_257 rfl rfl rfl ?_
    refine cb_iconst 259 h dX9_highAlone_258 rfl kc_0 ?_
    obtain ⟨σ32, e33, hf⟩ := cb_let_o hf
    refine pf_X9_16 262 h dX9_highAlone_259 rfl cb_01_0 e33 ?_
    refine cb_iconst 263 h dX9_highAlone_262 rfl kc_4 ?_
    exact cb_retI (Wf := WC a ca) h dX9_highAlone_263 he hf
  have hf := cb_if q31 hf
  by_cases q34 : v1 = 251
  · have hf := cb_it q34 hf
    refine cb_look 264 h dX9_highAlone_1 rfl (cb_lko q34 rfl) rfl ?_
    refine cb_aload_n 265 0 h dX9_highAlone_264 rfl rfl rfl ?_
    refine cb_iconst 266 h dX9_highAlone_265 rfl kc_1 ?_
    obtain ⟨σ35, e36, hf⟩ := cb_let_o hf
    refine pf_X9_16 269 h dX9_highAlone_266 rfl cb_01_1 e36 ?_
    refine cb_aload_n 270 0 h dX9_highAlone_269 rfl rfl rfl ?_
    refine cb_iconst 271 h dX9_highAlone_270 rfl kc_1 ?_
    obtain ⟨σ37, e38, hf⟩ := cb_let_o hf
    refine pf_X9_30 274 h dX9_highAlone_271 rfl cb_01_1 e38 ?_
    refine cb_iconst 275 h dX9_highAlone_274 rfl kc_4 ?_
    exact cb_retI (Wf := WC a ca) h dX9_highAlone_275 he hf
  have hf := cb_if q34 hf
  refine cb_look 276 h dX9_highAlone_1 rfl ((lv_osw q1 (by decide)).trans ((lv_osw q5 (by decide)).trans ((lv_osw q8 (by decide)).trans ((lv_osw q10 (by decide)).trans ((lv_osw q13 (by decide)).trans ((lv_osw q18 (by decide)).trans ((lv_osw q23 (by decide)).trans ((lv_osw q28 (by decide)).trans ((lv_osw q31 (by decide)).trans ((lv_osw q34 (by decide)).trans rfl)))))))))) rfl ?_
  refine cb_iconst 277 h dX9_highAlone_276 rfl kc_0 ?_
  exact cb_retI (Wf := WC a ca) h dX9_highAlone_277 he hf
set_option maxRecDepth 100000 in
set_option maxHeartbeats 4000000 in
theorem ct_Processor_returnIf {l : Launch} {D : va_G} {a : Nat → Nat} {ca : Nat → ClassId} {σ σ' : cb_S} {v1 : Int32} {r : Int32} (hf : c_Processor_returnIf σ v1 = some (r, σ')) : cb_C l yX9_returnIf cX9_returnIf 2 (some .int) { frames := 3, cells := 0, slots := 0, locals := 63 } D (EC ca) (adC a) [.ref (a 3), .int v1] (WC a ca σ) (some (.int r)) (WC a ca σ') := by
  refine cb_mk [(0, .ref (a 3)), (1, .int v1)] (by decide) (Nat.le_of_ble_eq_true rfl) rfl (fun X h he => ?_) goodC
  have h : cb_ok X cX9_returnIf RX9 (EC ca) 3 63 2 := h
  unfold c_Processor_returnIf at hf
  refine cb_aload_n 1 0 h dX9_returnIf_0 rfl rfl rfl ?_
  refine cb_iload_n 2 1 h dX9_returnIf_1 rfl rfl rfl ?_
  obtain ⟨c1, ec1, hf⟩ := cb_bo_o hf
  refine cl_X9_167 5 h dX9_returnIf_2 rfl (ct_Processor_condition ec1) ⟨rfl, rfl, Nat.le_of_ble_eq_true rfl, Nat.le_of_ble_eq_true rfl⟩ rfl (Nat.le_of_ble_eq_true rfl) ?_
  refine cb_if_ne 10 8 h dX9_returnIf_5 rfl rfl (fun q2 => ?_) (fun q2 => ?_)
  · have hf := cb_if q2 hf
    refine cb_aload_n 11 0 h dX9_returnIf_10 rfl rfl rfl ?_
    refine gf_X9_10 14 h dX9_returnIf_11 rfl ?_
    refine cb_aload_n 15 0 h dX9_returnIf_14 rfl rfl rfl ?_
    obtain ⟨c3, σc3, ec3, hf⟩ := cb_b2_o hf
    refine cl_X9_229 18 h dX9_returnIf_15 rfl (ct_Processor_pop ec3) ⟨rfl, rfl, Nat.le_of_ble_eq_true rfl, Nat.le_of_ble_eq_true rfl⟩ rfl (Nat.le_of_ble_eq_true rfl) ?_
    obtain ⟨σ4, e5, hf⟩ := cb_let_o hf
    refine pf_X9_64 21 h dX9_returnIf_18 rfl e5 ?_
    refine cb_bipush 23 h dX9_returnIf_21 rfl kb_11 ?_
    exact cb_retI (Wf := WC a ca) h dX9_returnIf_23 he hf
  · have hf := cb_it q2 hf
    refine cb_iconst 9 h dX9_returnIf_8 rfl kc_5 ?_
    exact cb_retI (Wf := WC a ca) h dX9_returnIf_9 he hf
set_option maxRecDepth 100000 in
set_option maxHeartbeats 4000000 in
theorem ct_Processor_popOrLeap {l : Launch} {D : va_G} {a : Nat → Nat} {ca : Nat → ClassId} {σ σ' : cb_S} {v1 : Int32} {r : Int32} (hf : c_Processor_popOrLeap σ v1 = some (r, σ')) : cb_C l yX9_popOrLeap cX9_popOrLeap 3 (some .int) { frames := 3, cells := 0, slots := 0, locals := 63 } D (EC ca) (adC a) [.ref (a 3), .int v1] (WC a ca σ) (some (.int r)) (WC a ca σ') := by
  refine cb_mk [(0, .ref (a 3)), (1, .int v1)] (by decide) (Nat.le_of_ble_eq_true rfl) rfl (fun X h he => ?_) goodC
  have h : cb_ok X cX9_popOrLeap RX9 (EC ca) 3 63 3 := h
  unfold c_Processor_popOrLeap at hf
  refine cb_iload_n 1 1 h dX9_popOrLeap_0 rfl rfl rfl ?_
  refine cb_iconst 2 h dX9_popOrLeap_1 rfl kc_4 ?_
  refine cb_ishr 3 h dX9_popOrLeap_2 rfl ?_
  refine cb_iconst 4 h dX9_popOrLeap_3 rfl kc_3 ?_
  refine cb_iand 5 h dX9_popOrLeap_4 rfl ?_
  obtain ⟨t1, e2, hf⟩ := cb_let_o hf
  refine cb_istore_n (lv' := [(2, .int t1), (0, .ref (a 3)), (1, .int v1)]) 6 h dX9_popOrLeap_5 rfl rfl e2 (Nat.le_of_ble_eq_true rfl) rfl ?_
  refine cb_iload_n 7 2 h dX9_popOrLeap_6 rfl rfl rfl ?_
  refine cb_bipush 9 h dX9_popOrLeap_7 rfl kb_8 ?_
  refine cb_iand 10 h dX9_popOrLeap_9 rfl ?_
  refine cb_if_ne 28 13 h dX9_popOrLeap_10 rfl rfl (fun q3 => ?_) (fun q3 => ?_)
  · have hf := cb_if q3 hf
    refine cb_iload_n 29 0 h dX9_popOrLeap_28 rfl rfl rfl ?_
    by_cases q4 : t1 = 0
    · have hf := cb_it q4 hf
      refine cb_tabI 56 h dX9_popOrLeap_29 q4 (by decide) (by decide) rfl rfl ?_
      refine cb_aload_n 57 1 h dX9_popOrLeap_56 rfl rfl rfl ?_
      refine gf_X9_10 60 h dX9_popOrLeap_57 rfl ?_
      refine cb_aload_n 61 1 h dX9_popOrLeap_60 rfl rfl rfl ?_
      obtain ⟨c5, σc5, ec5, hf⟩ := cb_b2_o hf
      refine cl_X9_229 64 h dX9_popOrLeap_61 rfl (ct_Processor_pop ec5) ⟨rfl, rfl, Nat.le_of_ble_eq_true rfl, Nat.le_of_ble_eq_true rfl⟩ rfl (Nat.le_of_ble_eq_true rfl) ?_
      obtain ⟨σ6, e7, hf⟩ := cb_let_o hf
      refine pf_X9_64 67 h dX9_popOrLeap_64 rfl e7 ?_
      refine cb_bipush 69 h dX9_popOrLeap_67 rfl kb_10 ?_
      exact cb_retI (Wf := WC a ca) h dX9_popOrLeap_69 he hf
    have hf := cb_if q4 hf
    by_cases q8 : t1 = 1
    · have hf := cb_it q8 hf
      refine cb_tabI 70 h dX9_popOrLeap_29 q8 (by decide) (by decide) rfl rfl ?_
      refine cb_aload_n 71 1 h dX9_popOrLeap_70 rfl rfl rfl ?_
      refine gf_X9_10 74 h dX9_popOrLeap_71 rfl ?_
      refine cb_iconst 75 h dX9_popOrLeap_74 rfl kc_0 ?_
      obtain ⟨σc9, ec9, hf⟩ := cb_bo_o hf
      refine cl_X9_160 78 h dX9_popOrLeap_75 rfl (ct_Registers_exchange ec9) ⟨rfl, rfl, Nat.le_of_ble_eq_true rfl, Nat.le_of_ble_eq_true rfl⟩ rfl (Nat.le_of_ble_eq_true rfl) ?_
      refine cb_aload_n 79 1 h dX9_popOrLeap_78 rfl rfl rfl ?_
      refine gf_X9_10 82 h dX9_popOrLeap_79 rfl ?_
      refine cb_iconst 83 h dX9_popOrLeap_82 rfl kc_1 ?_
      obtain ⟨σc10, ec10, hf⟩ := cb_bo_o hf
      refine cl_X9_160 86 h dX9_popOrLeap_83 rfl (ct_Registers_exchange ec10) ⟨rfl, rfl, Nat.le_of_ble_eq_true rfl, Nat.le_of_ble_eq_true rfl⟩ rfl (Nat.le_of_ble_eq_true rfl) ?_
      refine cb_aload_n 87 1 h dX9_popOrLeap_86 rfl rfl rfl ?_
      refine gf_X9_10 90 h dX9_popOrLeap_87 rfl ?_
      refine cb_iconst 91 h dX9_popOrLeap_90 rfl kc_2 ?_
      obtain ⟨σc11, ec11, hf⟩ := cb_bo_o hf
      refine cl_X9_160 94 h dX9_popOrLeap_91 rfl (ct_Registers_exchange ec11) ⟨rfl, rfl, Nat.le_of_ble_eq_true rfl, Nat.le_of_ble_eq_true rfl⟩ rfl (Nat.le_of_ble_eq_true rfl) ?_
      refine cb_iconst 95 h dX9_popOrLeap_94 rfl kc_4 ?_
      exact cb_retI (Wf := WC a ca) h dX9_popOrLeap_95 he hf
    have hf := cb_if q8 hf
    by_cases q12 : t1 = 2
    · have hf := cb_it q12 hf
      refine cb_tabI 96 h dX9_popOrLeap_29 q12 (by decide) (by decide) rfl rfl ?_
      refine cb_aload_n 97 1 h dX9_popOrLeap_96 rfl rfl rfl ?_
      refine gf_X9_10 100 h dX9_popOrLeap_97 rfl ?_
      refine cb_aload_n 101 1 h dX9_popOrLeap_100 rfl rfl rfl ?_
      refine gf_X9_54 104 h dX9_popOrLeap_101 rfl ?_
      refine cb_iconst 105 h dX9_popOrLeap_104 rfl kc_2 ?_
      obtain ⟨c13, ec13, hf⟩ := cb_bo_o hf
      refine cl_X9_175 108 h dX9_popOrLeap_105 rfl bank_11 (ct_Bank_pair bank_11 ec13) ⟨rfl, rfl, Nat.le_of_ble_eq_true rfl, Nat.le_of_ble_eq_true rfl⟩ rfl (Nat.le_of_ble_eq_true rfl) ?_
      obtain ⟨σ14, e15, hf⟩ := cb_let_o hf
      refine pf_X9_64 111 h dX9_popOrLeap_108 rfl e15 ?_
      refine cb_iconst 112 h dX9_popOrLeap_111 rfl kc_4 ?_
      exact cb_retI (Wf := WC a ca) h dX9_popOrLeap_112 he hf
    have hf := cb_if q12 hf
    refine cb_tabO 113 h dX9_popOrLeap_29 (by have t0 := lv_neT (a := 0) q4 (by decide); have t1 := lv_neT (a := 1) q8 (by decide); have t2 := lv_neT (a := 2) q12 (by decide); omega) rfl ?_
    refine cb_aload_n 114 1 h dX9_popOrLeap_113 rfl rfl rfl ?_
    refine gf_X9_10 117 h dX9_popOrLeap_114 rfl ?_
    refine cb_aload_n 118 1 h dX9_popOrLeap_117 rfl rfl rfl ?_
    refine gf_X9_54 121 h dX9_popOrLeap_118 rfl ?_
    refine cb_iconst 122 h dX9_popOrLeap_121 rfl kc_2 ?_
    obtain ⟨c16, ec16, hf⟩ := cb_bo_o hf
    refine cl_X9_175 125 h dX9_popOrLeap_122 rfl bank_11 (ct_Bank_pair bank_11 ec16) ⟨rfl, rfl, Nat.le_of_ble_eq_true rfl, Nat.le_of_ble_eq_true rfl⟩ rfl (Nat.le_of_ble_eq_true rfl) ?_
    obtain ⟨σ17, e18, hf⟩ := cb_let_o hf
    refine pf_X9_214 128 h dX9_popOrLeap_125 rfl e18 ?_
    refine cb_bipush 130 h dX9_popOrLeap_128 rfl kb_6 ?_
    exact cb_retI (Wf := WC a ca) h dX9_popOrLeap_130 he hf
  · have hf := cb_it q3 hf
    refine cb_aload_n 14 1 h dX9_popOrLeap_13 rfl rfl rfl ?_
    refine gf_X9_54 17 h dX9_popOrLeap_14 rfl ?_
    refine cb_iload_n 18 0 h dX9_popOrLeap_17 rfl rfl rfl ?_
    refine cb_aload_n 19 1 h dX9_popOrLeap_18 rfl rfl rfl ?_
    obtain ⟨c19, σc19, ec19, hf⟩ := cb_b2_o hf
    refine cl_X9_229 22 h dX9_popOrLeap_19 rfl (ct_Processor_pop ec19) ⟨rfl, rfl, Nat.le_of_ble_eq_true rfl, Nat.le_of_ble_eq_true rfl⟩ rfl (Nat.le_of_ble_eq_true rfl) ?_
    obtain ⟨σc20, ec20, hf⟩ := cb_bo_o hf
    refine cl_X9_181 25 h dX9_popOrLeap_22 rfl bank_11 (ct_Bank_putPair bank_11 ec20) ⟨rfl, rfl, Nat.le_of_ble_eq_true rfl, Nat.le_of_ble_eq_true rfl⟩ rfl (Nat.le_of_ble_eq_true rfl) ?_
    refine cb_bipush 27 h dX9_popOrLeap_25 rfl kb_10 ?_
    exact cb_retI (Wf := WC a ca) h dX9_popOrLeap_27 he hf
set_option maxRecDepth 100000 in
set_option maxHeartbeats 4000000 in
theorem ct_Processor_goIf {l : Launch} {D : va_G} {a : Nat → Nat} {ca : Nat → ClassId} {σ σ' : cb_S} {v1 : Int32} {r : Int32} (hf : c_Processor_goIf σ v1 = some (r, σ')) : cb_C l yX9_goIf cX9_goIf 3 (some .int) { frames := 3, cells := 0, slots := 0, locals := 63 } D (EC ca) (adC a) [.ref (a 3), .int v1] (WC a ca σ) (some (.int r)) (WC a ca σ') := by
  refine cb_mk [(0, .ref (a 3)), (1, .int v1)] (by decide) (Nat.le_of_ble_eq_true rfl) rfl (fun X h he => ?_) goodC
  have h : cb_ok X cX9_goIf RX9 (EC ca) 3 63 3 := h
  unfold c_Processor_goIf at hf
  refine cb_aload_n 1 0 h dX9_goIf_0 rfl rfl rfl ?_
  obtain ⟨c1, σc1, ec1, hf⟩ := cb_b2_o hf
  refine cl_X9_172 4 h dX9_goIf_1 rfl (ct_Processor_nextWord ec1) ⟨rfl, rfl, Nat.le_of_ble_eq_true rfl, Nat.le_of_ble_eq_true rfl⟩ rfl (Nat.le_of_ble_eq_true rfl) ?_
  refine cb_istore_n (lv' := [(2, .int c1), (0, .ref (a 3)), (1, .int v1)]) 5 h dX9_goIf_4 rfl rfl rfl (Nat.le_of_ble_eq_true rfl) rfl ?_
  refine cb_aload_n 6 1 h dX9_goIf_5 rfl rfl rfl ?_
  refine cb_iload_n 7 2 h dX9_goIf_6 rfl rfl rfl ?_
  obtain ⟨c2, ec2, hf⟩ := cb_bo_o hf
  refine cl_X9_167 10 h dX9_goIf_7 rfl (ct_Processor_condition ec2) ⟨rfl, rfl, Nat.le_of_ble_eq_true rfl, Nat.le_of_ble_eq_true rfl⟩ rfl (Nat.le_of_ble_eq_true rfl) ?_
  refine cb_if_eq 21 13 h dX9_goIf_10 rfl rfl (fun q3 => ?_) (fun q3 => ?_)
  · have hf := cb_it q3 hf
    refine cb_bipush 23 h dX9_goIf_21 rfl kb_10 ?_
    exact cb_retI (Wf := WC a ca) h dX9_goIf_23 he hf
  · have hf := cb_if q3 hf
    refine cb_aload_n 14 1 h dX9_goIf_13 rfl rfl rfl ?_
    refine gf_X9_10 17 h dX9_goIf_14 rfl ?_
    refine cb_iload_n 18 0 h dX9_goIf_17 rfl rfl rfl ?_
    obtain ⟨σ4, e5, hf⟩ := cb_let_o hf
    refine pf_X9_64 21 h dX9_goIf_18 rfl e5 ?_
    refine cb_bipush 23 h dX9_goIf_21 rfl kb_10 ?_
    exact cb_retI (Wf := WC a ca) h dX9_goIf_23 he hf
set_option maxRecDepth 100000 in
set_option maxHeartbeats 4000000 in
theorem ct_Processor_highColumns {l : Launch} {D : va_G} {a : Nat → Nat} {ca : Nat → ClassId} {σ σ' : cb_S} {v1 : Int32} {r : Int32} (hf : c_Processor_highColumns σ v1 = some (r, σ')) : cb_C l yX9_highColumns cX9_highColumns 3 (some .int) { frames := 4, cells := 0, slots := 0, locals := 92 } D (EC ca) (adC a) [.ref (a 3), .int v1] (WC a ca σ) (some (.int r)) (WC a ca σ') := by
  refine cb_mk [(0, .ref (a 3)), (1, .int v1)] (by decide) (Nat.le_of_ble_eq_true rfl) rfl (fun X h he => ?_) goodC
  have h : cb_ok X cX9_highColumns RX9 (EC ca) 4 92 3 := h
  unfold c_Processor_highColumns at hf
  refine cb_iload_n 1 1 h dX9_highColumns_0 rfl rfl rfl ?_
  refine cb_iconst 2 h dX9_highColumns_1 rfl kc_3 ?_
  refine cb_ishr 3 h dX9_highColumns_2 rfl ?_
  refine cb_bipush 5 h dX9_highColumns_3 rfl kb_7 ?_
  refine cb_iand 6 h dX9_highColumns_5 rfl ?_
  obtain ⟨t1, e2, hf⟩ := cb_let_o hf
  refine cb_istore_n (lv' := [(2, .int t1), (0, .ref (a 3)), (1, .int v1)]) 7 h dX9_highColumns_6 rfl rfl e2 (Nat.le_of_ble_eq_true rfl) rfl ?_
  refine cb_iload_n 8 2 h dX9_highColumns_7 rfl rfl rfl ?_
  refine cb_bipush 10 h dX9_highColumns_8 rfl kb_7 ?_
  refine cb_iand 11 h dX9_highColumns_10 rfl ?_
  by_cases q3 : (v1 &&& (7 : Int32)) = 0
  · have hf := cb_it q3 hf
    refine cb_tabI 52 h dX9_highColumns_11 q3 (by decide) (by decide) rfl rfl ?_
    refine cb_aload_n 53 1 h dX9_highColumns_52 rfl rfl rfl ?_
    refine cb_iload_n 54 0 h dX9_highColumns_53 rfl rfl rfl ?_
    obtain ⟨c4, σc4, ec4, hf⟩ := cb_b2_o hf
    refine cl_X9_220 57 h dX9_highColumns_54 rfl (ct_Processor_returnIf ec4) ⟨rfl, rfl, Nat.le_of_ble_eq_true rfl, Nat.le_of_ble_eq_true rfl⟩ rfl (Nat.le_of_ble_eq_true rfl) ?_
    exact cb_retI (Wf := WC a ca) h dX9_highColumns_57 he hf
  have hf := cb_if q3 hf
  by_cases q5 : (v1 &&& (7 : Int32)) = 1
  · have hf := cb_it q5 hf
    refine cb_tabI 58 h dX9_highColumns_11 q5 (by decide) (by decide) rfl rfl ?_
    refine cb_aload_n 59 1 h dX9_highColumns_58 rfl rfl rfl ?_
    refine cb_iload_n 60 2 h dX9_highColumns_59 rfl rfl rfl ?_
    obtain ⟨c6, σc6, ec6, hf⟩ := cb_b2_o hf
    refine cl_X9_223 63 h dX9_highColumns_60 rfl (ct_Processor_popOrLeap ec6) ⟨rfl, rfl, Nat.le_of_ble_eq_true rfl, Nat.le_of_ble_eq_true rfl⟩ rfl (Nat.le_of_ble_eq_true rfl) ?_
    exact cb_retI (Wf := WC a ca) h dX9_highColumns_63 he hf
  have hf := cb_if q5 hf
  by_cases q7 : (v1 &&& (7 : Int32)) = 2
  · have hf := cb_it q7 hf
    refine cb_tabI 64 h dX9_highColumns_11 q7 (by decide) (by decide) rfl rfl ?_
    refine cb_aload_n 65 1 h dX9_highColumns_64 rfl rfl rfl ?_
    refine cb_iload_n 66 0 h dX9_highColumns_65 rfl rfl rfl ?_
    obtain ⟨c8, σc8, ec8, hf⟩ := cb_b2_o hf
    refine cl_X9_226 69 h dX9_highColumns_66 rfl (ct_Processor_goIf ec8) ⟨rfl, rfl, Nat.le_of_ble_eq_true rfl, Nat.le_of_ble_eq_true rfl⟩ rfl (Nat.le_of_ble_eq_true rfl) ?_
    exact cb_retI (Wf := WC a ca) h dX9_highColumns_69 he hf
  have hf := cb_if q7 hf
  by_cases q9 : (v1 &&& (7 : Int32)) = 3
  · have hf := cb_it q9 hf
    refine cb_tabI 109 h dX9_highColumns_11 q9 (by decide) (by decide) rfl rfl ?_
    refine cb_aload_n 110 1 h dX9_highColumns_109 rfl rfl rfl ?_
    refine cb_aload_n 111 1 h dX9_highColumns_110 rfl rfl rfl ?_
    refine gf_X9_10 114 h dX9_highColumns_111 rfl ?_
    refine gf_X9_64 117 h dX9_highColumns_114 rfl ?_
    obtain ⟨σc10, ec10, hf⟩ := cb_bo_o hf
    refine cl_X9_109 120 h dX9_highColumns_117 rfl (ct_Processor_push ec10) ⟨rfl, rfl, Nat.le_of_ble_eq_true rfl, Nat.le_of_ble_eq_true rfl⟩ rfl (Nat.le_of_ble_eq_true rfl) ?_
    refine cb_aload_n 121 1 h dX9_highColumns_120 rfl rfl rfl ?_
    refine gf_X9_10 124 h dX9_highColumns_121 rfl ?_
    refine cb_bipush 126 h dX9_highColumns_124 rfl kb_8 ?_
    refine cb_iload_n 127 0 h dX9_highColumns_126 rfl rfl rfl ?_
    refine cb_imul 128 h dX9_highColumns_127 rfl ?_
    obtain ⟨σ11, e12, hf⟩ := cb_let_o hf
    refine pf_X9_64 131 h dX9_highColumns_128 rfl e12 ?_
    refine cb_bipush 133 h dX9_highColumns_131 rfl kb_11 ?_
    exact cb_retI (Wf := WC a ca) h dX9_highColumns_133 he hf
  have hf := cb_if q9 hf
  by_cases q13 : (v1 &&& (7 : Int32)) = 4
  · have hf := cb_it q13 hf
    refine cb_tabI 70 h dX9_highColumns_11 q13 (by decide) (by decide) rfl rfl ?_
    refine cb_aload_n 71 1 h dX9_highColumns_70 rfl rfl rfl ?_
    refine cb_aload_n 72 1 h dX9_highColumns_71 rfl rfl rfl ?_
    refine cb_iload_n 73 0 h dX9_highColumns_72 rfl rfl rfl ?_
    obtain ⟨c14, ec14, hf⟩ := cb_bo_o hf
    refine cl_X9_167 76 h dX9_highColumns_73 rfl (ct_Processor_condition ec14) ⟨rfl, rfl, Nat.le_of_ble_eq_true rfl, Nat.le_of_ble_eq_true rfl⟩ rfl (Nat.le_of_ble_eq_true rfl) ?_
    obtain ⟨c15, σc15, ec15, hf⟩ := cb_b2_o hf
    refine cl_X9_205 79 h dX9_highColumns_76 rfl (ct_Processor_callIf ec15) ⟨rfl, rfl, Nat.le_of_ble_eq_true rfl, Nat.le_of_ble_eq_true rfl⟩ rfl (Nat.le_of_ble_eq_true rfl) ?_
    exact cb_retI (Wf := WC a ca) h dX9_highColumns_79 he hf
  have hf := cb_if q13 hf
  by_cases q16 : (v1 &&& (7 : Int32)) = 5
  · have hf := cb_it q16 hf
    refine cb_tabI 80 h dX9_highColumns_11 q16 (by decide) (by decide) rfl rfl ?_
    refine cb_aload_n 81 1 h dX9_highColumns_80 rfl rfl rfl ?_
    refine cb_aload_n 82 1 h dX9_highColumns_81 rfl rfl rfl ?_
    refine gf_X9_54 85 h dX9_highColumns_82 rfl ?_
    refine cb_iload_n 86 0 h dX9_highColumns_85 rfl rfl rfl ?_
    refine cb_iconst 87 h dX9_highColumns_86 rfl kc_1 ?_
    refine cb_ishr 88 h dX9_highColumns_87 rfl ?_
    obtain ⟨c17, ec17, hf⟩ := cb_bo_o hf
    refine cl_X9_175 91 h dX9_highColumns_88 rfl bank_11 (ct_Bank_pair bank_11 ec17) ⟨rfl, rfl, Nat.le_of_ble_eq_true rfl, Nat.le_of_ble_eq_true rfl⟩ rfl (Nat.le_of_ble_eq_true rfl) ?_
    obtain ⟨σc18, ec18, hf⟩ := cb_bo_o hf
    refine cl_X9_109 94 h dX9_highColumns_91 rfl (ct_Processor_push ec18) ⟨rfl, rfl, Nat.le_of_ble_eq_true rfl, Nat.le_of_ble_eq_true rfl⟩ rfl (Nat.le_of_ble_eq_true rfl) ?_
    refine cb_bipush 96 h dX9_highColumns_94 rfl kb_11 ?_
    exact cb_retI (Wf := WC a ca) h dX9_highColumns_96 he hf
  have hf := cb_if q16 hf
  by_cases q19 : (v1 &&& (7 : Int32)) = 6
  · have hf := cb_it q19 hf
    refine cb_tabI 97 h dX9_highColumns_11 q19 (by decide) (by decide) rfl rfl ?_
    refine cb_aload_n 98 1 h dX9_highColumns_97 rfl rfl rfl ?_
    refine cb_iload_n 99 0 h dX9_highColumns_98 rfl rfl rfl ?_
    refine cb_aload_n 100 1 h dX9_highColumns_99 rfl rfl rfl ?_
    obtain ⟨c20, σc20, ec20, hf⟩ := cb_b2_o hf
    refine cl_X9_67 103 h dX9_highColumns_100 rfl (ct_Processor_nextByte ec20) ⟨rfl, rfl, Nat.le_of_ble_eq_true rfl, Nat.le_of_ble_eq_true rfl⟩ rfl (Nat.le_of_ble_eq_true rfl) ?_
    obtain ⟨σc21, ec21, hf⟩ := cb_bo_o hf
    refine cl_X9_81 106 h dX9_highColumns_103 rfl (ct_Processor_operate ec21) ⟨rfl, rfl, Nat.le_of_ble_eq_true rfl, Nat.le_of_ble_eq_true rfl⟩ rfl (Nat.le_of_ble_eq_true rfl) ?_
    refine cb_bipush 108 h dX9_highColumns_106 rfl kb_7 ?_
    exact cb_retI (Wf := WC a ca) h dX9_highColumns_108 he hf
  have hf := cb_if q19 hf
  refine cb_tabO 109 h dX9_highColumns_11 (by have t0 := lv_neT (a := 0) q3 (by decide); have t1 := lv_neT (a := 1) q5 (by decide); have t2 := lv_neT (a := 2) q7 (by decide); have t3 := lv_neT (a := 3) q9 (by decide); have t4 := lv_neT (a := 4) q13 (by decide); have t5 := lv_neT (a := 5) q16 (by decide); have t6 := lv_neT (a := 6) q19 (by decide); omega) rfl ?_
  refine cb_aload_n 110 1 h dX9_highColumns_109 rfl rfl rfl ?_
  refine cb_aload_n 111 1 h dX9_highColumns_110 rfl rfl rfl ?_
  refine gf_X9_10 114 h dX9_highColumns_111 rfl ?_
  refine gf_X9_64 117 h dX9_highColumns_114 rfl ?_
  obtain ⟨σc22, ec22, hf⟩ := cb_bo_o hf
  refine cl_X9_109 120 h dX9_highColumns_117 rfl (ct_Processor_push ec22) ⟨rfl, rfl, Nat.le_of_ble_eq_true rfl, Nat.le_of_ble_eq_true rfl⟩ rfl (Nat.le_of_ble_eq_true rfl) ?_
  refine cb_aload_n 121 1 h dX9_highColumns_120 rfl rfl rfl ?_
  refine gf_X9_10 124 h dX9_highColumns_121 rfl ?_
  refine cb_bipush 126 h dX9_highColumns_124 rfl kb_8 ?_
  refine cb_iload_n 127 0 h dX9_highColumns_126 rfl rfl rfl ?_
  refine cb_imul 128 h dX9_highColumns_127 rfl ?_
  obtain ⟨σ23, e24, hf⟩ := cb_let_o hf
  refine pf_X9_64 131 h dX9_highColumns_128 rfl e24 ?_
  refine cb_bipush 133 h dX9_highColumns_131 rfl kb_11 ?_
  exact cb_retI (Wf := WC a ca) h dX9_highColumns_133 he hf
