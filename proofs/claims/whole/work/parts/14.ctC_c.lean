set_option maxRecDepth 100000 in
set_option maxHeartbeats 4000000 in
theorem ct_Flags_operate {l : Launch} {D : va_G} {ca : Nat → ClassId} {w : va_W} {v0 v1 v2 v3 : Int32} {r : Int32} {as : List Nat} (hf : c_Flags_operate v0 v1 v2 v3 = some r) : cb_C l yX6_operate cX6_operate 4 (some .int) { frames := 2, cells := 0, slots := 0, locals := 46 } D (EC ca) (as) [.int v0, .int v1, .int v2, .int v3] (w) (some (.int r)) (w) := by
  refine cb_mk [(0, .int v0), (1, .int v1), (2, .int v2), (3, .int v3)] (by decide) (Nat.le_of_ble_eq_true rfl) rfl (fun X h he => ?_) goodC
  have h : cb_ok X cX6_operate RX6 (EC ca) 2 46 4 := h
  unfold c_Flags_operate at hf
  refine cb_iload_n 1 0 h dX6_operate_0 rfl rfl rfl ?_
  by_cases q1 : v0 = 0
  · have hf := cb_it q1 hf
    refine cb_tabI 44 h dX6_operate_1 q1 (by decide) (by decide) rfl rfl ?_
    refine cb_iload_n 45 1 h dX6_operate_44 rfl rfl rfl ?_
    refine cb_iload_n 46 2 h dX6_operate_45 rfl rfl rfl ?_
    refine cb_iconst 47 h dX6_operate_46 rfl kc_0 ?_
    obtain ⟨c2, ec2, hf⟩ := cb_bo_o hf
    refine cl_X6_18 50 h dX6_operate_47 rfl (ct_Flags_add ec2) ⟨rfl, rfl, Nat.le_of_ble_eq_true rfl, Nat.le_of_ble_eq_true rfl⟩ rfl (Nat.le_of_ble_eq_true rfl) ?_
    exact cb_retJ h dX6_operate_50 he hf
  have hf := cb_if q1 hf
  by_cases q3 : v0 = 1
  · have hf := cb_it q3 hf
    refine cb_tabI 51 h dX6_operate_1 q3 (by decide) (by decide) rfl rfl ?_
    refine cb_iload_n 52 1 h dX6_operate_51 rfl rfl rfl ?_
    refine cb_iload_n 53 2 h dX6_operate_52 rfl rfl rfl ?_
    refine cb_iload_n 54 3 h dX6_operate_53 rfl rfl rfl ?_
    obtain ⟨c4, ec4, hf⟩ := cb_bo_o hf
    refine cl_X6_18 57 h dX6_operate_54 rfl (ct_Flags_add ec4) ⟨rfl, rfl, Nat.le_of_ble_eq_true rfl, Nat.le_of_ble_eq_true rfl⟩ rfl (Nat.le_of_ble_eq_true rfl) ?_
    exact cb_retJ h dX6_operate_57 he hf
  have hf := cb_if q3 hf
  by_cases q5 : v0 = 2
  · have hf := cb_it q5 hf
    refine cb_tabI 89 h dX6_operate_1 q5 (by decide) (by decide) rfl rfl ?_
    refine cb_iload_n 90 1 h dX6_operate_89 rfl rfl rfl ?_
    refine cb_iload_n 91 2 h dX6_operate_90 rfl rfl rfl ?_
    refine cb_iconst 92 h dX6_operate_91 rfl kc_0 ?_
    obtain ⟨c6, ec6, hf⟩ := cb_bo_o hf
    refine cl_X6_22 95 h dX6_operate_92 rfl (ct_Flags_subtract ec6) ⟨rfl, rfl, Nat.le_of_ble_eq_true rfl, Nat.le_of_ble_eq_true rfl⟩ rfl (Nat.le_of_ble_eq_true rfl) ?_
    exact cb_retJ h dX6_operate_95 he hf
  have hf := cb_if q5 hf
  by_cases q7 : v0 = 3
  · have hf := cb_it q7 hf
    refine cb_tabI 58 h dX6_operate_1 q7 (by decide) (by decide) rfl rfl ?_
    refine cb_iload_n 59 1 h dX6_operate_58 rfl rfl rfl ?_
    refine cb_iload_n 60 2 h dX6_operate_59 rfl rfl rfl ?_
    refine cb_iload_n 61 3 h dX6_operate_60 rfl rfl rfl ?_
    obtain ⟨c8, ec8, hf⟩ := cb_bo_o hf
    refine cl_X6_22 64 h dX6_operate_61 rfl (ct_Flags_subtract ec8) ⟨rfl, rfl, Nat.le_of_ble_eq_true rfl, Nat.le_of_ble_eq_true rfl⟩ rfl (Nat.le_of_ble_eq_true rfl) ?_
    exact cb_retJ h dX6_operate_64 he hf
  have hf := cb_if q7 hf
  by_cases q9 : v0 = 4
  · have hf := cb_it q9 hf
    refine cb_tabI 65 h dX6_operate_1 q9 (by decide) (by decide) rfl rfl ?_
    refine cb_iload_n 66 1 h dX6_operate_65 rfl rfl rfl ?_
    refine cb_iload_n 67 2 h dX6_operate_66 rfl rfl rfl ?_
    refine cb_iand 68 h dX6_operate_67 rfl ?_
    obtain ⟨c10, ec10, hf⟩ := cb_bo_o hf
    refine cl_X6_25 71 h dX6_operate_68 rfl (ct_Flags_withParity ec10) ⟨rfl, rfl, Nat.le_of_ble_eq_true rfl, Nat.le_of_ble_eq_true rfl⟩ rfl (Nat.le_of_ble_eq_true rfl) ?_
    refine cb_bipush 73 h dX6_operate_71 rfl kb_16 ?_
    refine cb_ior 74 h dX6_operate_73 rfl ?_
    exact cb_retJ h dX6_operate_74 he hf
  have hf := cb_if q9 hf
  by_cases q11 : v0 = 5
  · have hf := cb_it q11 hf
    refine cb_tabI 75 h dX6_operate_1 q11 (by decide) (by decide) rfl rfl ?_
    refine cb_iload_n 76 1 h dX6_operate_75 rfl rfl rfl ?_
    refine cb_iload_n 77 2 h dX6_operate_76 rfl rfl rfl ?_
    refine cb_ixor 78 h dX6_operate_77 rfl ?_
    obtain ⟨c12, ec12, hf⟩ := cb_bo_o hf
    refine cl_X6_25 81 h dX6_operate_78 rfl (ct_Flags_withParity ec12) ⟨rfl, rfl, Nat.le_of_ble_eq_true rfl, Nat.le_of_ble_eq_true rfl⟩ rfl (Nat.le_of_ble_eq_true rfl) ?_
    exact cb_retJ h dX6_operate_81 he hf
  have hf := cb_if q11 hf
  by_cases q13 : v0 = 6
  · have hf := cb_it q13 hf
    refine cb_tabI 82 h dX6_operate_1 q13 (by decide) (by decide) rfl rfl ?_
    refine cb_iload_n 83 1 h dX6_operate_82 rfl rfl rfl ?_
    refine cb_iload_n 84 2 h dX6_operate_83 rfl rfl rfl ?_
    refine cb_ior 85 h dX6_operate_84 rfl ?_
    obtain ⟨c14, ec14, hf⟩ := cb_bo_o hf
    refine cl_X6_25 88 h dX6_operate_85 rfl (ct_Flags_withParity ec14) ⟨rfl, rfl, Nat.le_of_ble_eq_true rfl, Nat.le_of_ble_eq_true rfl⟩ rfl (Nat.le_of_ble_eq_true rfl) ?_
    exact cb_retJ h dX6_operate_88 he hf
  have hf := cb_if q13 hf
  refine cb_tabO 89 h dX6_operate_1 (by have t0 := lv_neT (a := 0) q1 (by decide); have t1 := lv_neT (a := 1) q3 (by decide); have t2 := lv_neT (a := 2) q5 (by decide); have t3 := lv_neT (a := 3) q7 (by decide); have t4 := lv_neT (a := 4) q9 (by decide); have t5 := lv_neT (a := 5) q11 (by decide); have t6 := lv_neT (a := 6) q13 (by decide); omega) rfl ?_
  refine cb_iload_n 90 1 h dX6_operate_89 rfl rfl rfl ?_
  refine cb_iload_n 91 2 h dX6_operate_90 rfl rfl rfl ?_
  refine cb_iconst 92 h dX6_operate_91 rfl kc_0 ?_
  obtain ⟨c15, ec15, hf⟩ := cb_bo_o hf
  refine cl_X6_22 95 h dX6_operate_92 rfl (ct_Flags_subtract ec15) ⟨rfl, rfl, Nat.le_of_ble_eq_true rfl, Nat.le_of_ble_eq_true rfl⟩ rfl (Nat.le_of_ble_eq_true rfl) ?_
  exact cb_retJ h dX6_operate_95 he hf
set_option maxRecDepth 100000 in
set_option maxHeartbeats 4000000 in
theorem ct_Processor_operate {l : Launch} {D : va_G} {a : Nat → Nat} {ca : Nat → ClassId} {σ σ' : cb_S} {v1 v2 : Int32} (hf : c_Processor_operate σ v1 v2 = some σ') : cb_C l yX9_operate cX9_operate 4 none { frames := 3, cells := 0, slots := 0, locals := 69 } D (EC ca) (adC a) [.ref (a 3), .int v1, .int v2] (WC a ca σ) none (WC a ca σ') := by
  refine cb_mk [(0, .ref (a 3)), (1, .int v1), (2, .int v2)] (by decide) (Nat.le_of_ble_eq_true rfl) rfl (fun X h he => ?_) goodC
  have h : cb_ok X cX9_operate RX9 (EC ca) 3 69 4 := h
  unfold c_Processor_operate at hf
  have j39 : ∀ (σ : cb_S) (x3 : Int32), c_Processor_operate_L39 v1 v2 σ x3 = some σ' → cb_V X (WC a ca σ) 39 [(0, .ref (a 3)), (3, .int x3)] [] := by
    intro σ x3 hf
    unfold c_Processor_operate_L39 at hf
    refine cb_aload_n 40 0 h dX9_operate_39 rfl rfl rfl ?_
    refine cb_sipush 43 h dX9_operate_40 rfl ks_215 ?_
    refine cb_iload_n 44 1 h dX9_operate_43 rfl rfl rfl ?_
    obtain ⟨σc1, ec1, hf⟩ := cb_bo_o hf
    refine cl_X9_184 47 h dX9_operate_44 rfl (ct_Processor_changeFlags ec1) ⟨rfl, rfl, Nat.le_of_ble_eq_true rfl, Nat.le_of_ble_eq_true rfl⟩ rfl (Nat.le_of_ble_eq_true rfl) ?_
    exact cb_retV (Wf := WC a ca) h dX9_operate_47 he hf
  refine cb_iload_n 1 1 h dX9_operate_0 rfl rfl rfl ?_
  refine cb_aload_n 2 0 h dX9_operate_1 rfl rfl rfl ?_
  refine gf_X9_61 5 h dX9_operate_2 rfl ?_
  refine cb_bipush 7 h dX9_operate_5 rfl kb_7 ?_
  refine laC_12 8 h dX9_operate_7 rfl vi_7_8 tk_7 ?_
  refine cb_iload_n 9 2 h dX9_operate_8 rfl rfl rfl ?_
  refine cb_aload_n 10 0 h dX9_operate_9 rfl rfl rfl ?_
  refine gf_X9_61 13 h dX9_operate_10 rfl ?_
  refine cb_bipush 15 h dX9_operate_13 rfl kb_6 ?_
  refine laC_12 16 h dX9_operate_15 rfl vi_6_8 tk_6 ?_
  refine cb_iconst 17 h dX9_operate_16 rfl kc_1 ?_
  refine cb_iand 18 h dX9_operate_17 rfl ?_
  obtain ⟨c2, ec2, hf⟩ := cb_bo_o hf
  refine cl_X9_199 21 h dX9_operate_18 rfl (ct_Flags_operate ec2) ⟨rfl, rfl, Nat.le_of_ble_eq_true rfl, Nat.le_of_ble_eq_true rfl⟩ rfl (Nat.le_of_ble_eq_true rfl) ?_
  refine cb_istore_n (lv' := [(3, .int c2), (0, .ref (a 3)), (1, .int v1), (2, .int v2)]) 22 h dX9_operate_21 rfl rfl rfl (Nat.le_of_ble_eq_true rfl) rfl ?_
  refine cb_iload_n 23 2 h dX9_operate_22 rfl rfl rfl ?_
  refine cb_bipush 25 h dX9_operate_23 rfl kb_7 ?_
  refine cb_icmp_eq 39 28 h dX9_operate_25 rfl rfl (fun q3 => ?_) (fun q3 => ?_)
  · have hf := cb_it q3 hf
    exact cb_lv [1, 0] rfl (j39 _ _ hf)
  · have hf := cb_if q3 hf
    refine cb_aload_n 29 1 h dX9_operate_28 rfl rfl rfl ?_
    refine gf_X9_61 32 h dX9_operate_29 rfl ?_
    refine cb_bipush 34 h dX9_operate_32 rfl kb_7 ?_
    refine cb_iload_n 35 0 h dX9_operate_34 rfl rfl rfl ?_
    refine cb_bipush 37 h dX9_operate_35 rfl kb_8 ?_
    refine cb_ishr 38 h dX9_operate_37 rfl ?_
    obtain ⟨σ4, e5, hf⟩ := cb_let_o hf
    refine saC_12 39 h dX9_operate_38 rfl vi_7_8 tk_7 e5 ?_
    exact cb_lv [1, 0] rfl (j39 _ _ hf)
set_option maxRecDepth 100000 in
set_option maxHeartbeats 4000000 in
theorem ct_Processor_bits {l : Launch} {D : va_G} {a : Nat → Nat} {ca : Nat → ClassId} {σ σ' : cb_S} {v1 : Int32} {r : Int32} (hf : c_Processor_bits σ v1 = some (r, σ')) : cb_C l yX9_bits cX9_bits 8 (some .int) { frames := 3, cells := 0, slots := 0, locals := 67 } D (EC ca) (adC a) [.ref (a 3), .int v1] (WC a ca σ) (some (.int r)) (WC a ca σ') := by
  refine cb_mk [(0, .ref (a 3)), (1, .int v1)] (by decide) (Nat.le_of_ble_eq_true rfl) rfl (fun X h he => ?_) goodC
  have h : cb_ok X cX9_bits RX9 (EC ca) 3 67 8 := h
  unfold c_Processor_bits at hf
  have j174 : ∀ (σ : cb_S) (x3 : Int32), c_Processor_bits_L174 v1 σ x3 = some (r, σ') → cb_V X (WC a ca σ) 174 [(3, .int x3)] [] := by
    intro σ x3 hf
    unfold c_Processor_bits_L174 at hf
    refine cb_iload_n 175 0 h dX9_bits_174 rfl rfl rfl ?_
    refine cb_bipush 177 h dX9_bits_175 rfl kb_6 ?_
    refine cb_cut (cb_V X (WC a ca σ) 187 [(3, .int x3)] [.int (if x3 = (6 : Int32) then (15 : Int32) else (8 : Int32))]) (fun jj => ?_) ?_
    · refine cb_icmp_ne 185 180 h dX9_bits_177 rfl rfl (fun q1 => ?_) (fun q1 => ?_)
      · refine cb_bipush 187 h dX9_bits_185 rfl kb_8 ?_
        exact (cb_tf q1 jj)
      · refine cb_bipush 182 h dX9_bits_180 rfl kb_15 ?_
        refine cb_goto 187 h dX9_bits_182 rfl ?_
        exact (cb_tt q1 jj)
    exact cb_retI (Wf := WC a ca) h dX9_bits_187 he hf
  refine cb_iload_n 1 1 h dX9_bits_0 rfl rfl rfl ?_
  refine cb_iconst 2 h dX9_bits_1 rfl kc_3 ?_
  refine cb_ishr 3 h dX9_bits_2 rfl ?_
  refine cb_bipush 5 h dX9_bits_3 rfl kb_7 ?_
  refine cb_iand 6 h dX9_bits_5 rfl ?_
  obtain ⟨t2, e3, hf⟩ := cb_let_o hf
  refine cb_istore_n (lv' := [(2, .int t2), (0, .ref (a 3)), (1, .int v1)]) 7 h dX9_bits_6 rfl rfl e3 (Nat.le_of_ble_eq_true rfl) rfl ?_
  refine cb_iload_n 8 2 h dX9_bits_7 rfl rfl rfl ?_
  refine cb_bipush 10 h dX9_bits_8 rfl kb_7 ?_
  refine cb_iand 11 h dX9_bits_10 rfl ?_
  obtain ⟨t4, e5, hf⟩ := cb_let_o hf
  refine cb_istore_n (lv' := [(3, .int t4), (2, .int t2), (0, .ref (a 3)), (1, .int v1)]) 12 h dX9_bits_11 rfl rfl e5 (Nat.le_of_ble_eq_true rfl) rfl ?_
  refine cb_aload_n 13 2 h dX9_bits_12 rfl rfl rfl ?_
  refine cb_iload_n 14 0 h dX9_bits_13 rfl rfl rfl ?_
  obtain ⟨c6, ec6, hf⟩ := cb_bo_o hf
  refine cl_X9_78 17 h dX9_bits_14 rfl (ct_Processor_read ec6) ⟨rfl, rfl, Nat.le_of_ble_eq_true rfl, Nat.le_of_ble_eq_true rfl⟩ rfl (Nat.le_of_ble_eq_true rfl) ?_
  refine cb_istore (lv' := [(4, .int c6), (3, .int t4), (2, .int t2), (0, .ref (a 3)), (1, .int v1)]) 19 h dX9_bits_17 rfl rfl (Nat.le_of_ble_eq_true rfl) rfl ?_
  refine cb_iload_n 20 4 h dX9_bits_19 rfl rfl rfl ?_
  refine cb_bipush 22 h dX9_bits_20 rfl kb_6 ?_
  refine cb_ishr 23 h dX9_bits_22 rfl ?_
  by_cases q7 : (v1 >>> ((6 : Int32) &&& 31)) = 0
  · have hf := cb_it q7 hf
    refine cb_tabI 48 h dX9_bits_23 q7 (by decide) (by decide) rfl rfl ?_
    refine cb_iload_n 49 2 h dX9_bits_48 rfl rfl rfl ?_
    refine cb_bipush 51 h dX9_bits_49 rfl kb_6 ?_
    refine cb_icmp_ne 56 54 h dX9_bits_51 rfl rfl (fun q8 => ?_) (fun q8 => ?_)
    · have hf := cb_if q8 hf
      refine cb_iload_n 57 2 h dX9_bits_56 rfl rfl rfl ?_
      refine cb_iload 59 0 h dX9_bits_57 rfl rfl ?_
      refine cb_aload_n 60 3 h dX9_bits_59 rfl rfl rfl ?_
      refine gf_X9_61 63 h dX9_bits_60 rfl ?_
      refine cb_bipush 65 h dX9_bits_63 rfl kb_6 ?_
      refine laC_12 66 h dX9_bits_65 rfl vi_6_8 tk_6 ?_
      refine cb_iconst 67 h dX9_bits_66 rfl kc_1 ?_
      refine cb_iand 68 h dX9_bits_67 rfl ?_
      obtain ⟨c9, ec9, hf⟩ := cb_bo_o hf
      refine cl_X9_196 71 h dX9_bits_68 rfl (ct_Flags_shift ec9) ⟨rfl, rfl, Nat.le_of_ble_eq_true rfl, Nat.le_of_ble_eq_true rfl⟩ rfl (Nat.le_of_ble_eq_true rfl) ?_
      refine cb_istore (lv' := [(5, .int c9), (4, .int c6), (3, .int t4), (2, .int t2), (0, .ref (a 3)), (1, .int v1)]) 73 h dX9_bits_71 rfl rfl (Nat.le_of_ble_eq_true rfl) rfl ?_
      refine cb_aload_n 74 4 h dX9_bits_73 rfl rfl rfl ?_
      refine cb_iload_n 75 2 h dX9_bits_74 rfl rfl rfl ?_
      refine cb_iload 77 0 h dX9_bits_75 rfl rfl ?_
      refine cb_bipush 79 h dX9_bits_77 rfl kb_8 ?_
      refine cb_ishr 80 h dX9_bits_79 rfl ?_
      obtain ⟨σc10, ec10, hf⟩ := cb_bo_o hf
      refine cl_X9_154 83 h dX9_bits_80 rfl (ct_Processor_write ec10) ⟨rfl, rfl, Nat.le_of_ble_eq_true rfl, Nat.le_of_ble_eq_true rfl⟩ rfl (Nat.le_of_ble_eq_true rfl) ?_
      refine cb_aload_n 84 4 h dX9_bits_83 rfl rfl rfl ?_
      refine cb_sipush 87 h dX9_bits_84 rfl ks_215 ?_
      refine cb_iload 89 0 h dX9_bits_87 rfl rfl ?_
      obtain ⟨σc11, ec11, hf⟩ := cb_bo_o hf
      refine cl_X9_184 92 h dX9_bits_89 rfl (ct_Processor_changeFlags ec11) ⟨rfl, rfl, Nat.le_of_ble_eq_true rfl, Nat.le_of_ble_eq_true rfl⟩ rfl (Nat.le_of_ble_eq_true rfl) ?_
      refine cb_goto 174 h dX9_bits_92 rfl ?_
      exact cb_lv [2] rfl (j174 _ _ hf)
    · have hf := cb_it q8 hf
      refine cb_iconst 55 h dX9_bits_54 rfl kc_0 ?_
      exact cb_retI (Wf := WC a ca) h dX9_bits_55 he hf
  have hf := cb_if q7 hf
  by_cases q12 : (v1 >>> ((6 : Int32) &&& 31)) = 1
  · have hf := cb_it q12 hf
    refine cb_tabI 95 h dX9_bits_23 q12 (by decide) (by decide) rfl rfl ?_
    refine cb_iload 97 0 h dX9_bits_95 rfl rfl ?_
    refine cb_iconst 98 h dX9_bits_97 rfl kc_1 ?_
    refine cb_iload_n 99 2 h dX9_bits_98 rfl rfl rfl ?_
    refine cb_ishl 100 h dX9_bits_99 rfl ?_
    refine cb_iand 101 h dX9_bits_100 rfl ?_
    obtain ⟨t13, e14, hf⟩ := cb_let_o hf
    refine cb_istore (lv' := [(6, .int t13), (4, .int c6), (3, .int t4), (2, .int t2), (0, .ref (a 3)), (1, .int v1)]) 103 h dX9_bits_101 rfl e14 (Nat.le_of_ble_eq_true rfl) rfl ?_
    refine cb_iload 105 0 h dX9_bits_103 rfl rfl ?_
    refine cb_cut (cb_V X (WC a ca σ) 119 [(6, .int t13), (4, .int c6), (3, .int t4), (2, .int t2), (0, .ref (a 3)), (1, .int v1)] [.int (if t13 = 0 then (68 : Int32) else (t13 &&& (128 : Int32)))]) (fun jj => ?_) ?_
    · refine cb_if_ne 113 108 h dX9_bits_105 rfl rfl (fun q15 => ?_) (fun q15 => ?_)
      · refine cb_iload 115 0 h dX9_bits_113 rfl rfl ?_
        refine cb_sipush 118 h dX9_bits_115 rfl ks_128 ?_
        refine cb_iand 119 h dX9_bits_118 rfl ?_
        exact (cb_tf q15 jj)
      · refine cb_bipush 110 h dX9_bits_108 rfl kb_68 ?_
        refine cb_goto 119 h dX9_bits_110 rfl ?_
        exact (cb_tt q15 jj)
    obtain ⟨t16, e17, hf⟩ := cb_let_o hf
    refine cb_istore (lv' := [(7, .int t16), (6, .int t13), (4, .int c6), (3, .int t4), (2, .int t2), (0, .ref (a 3)), (1, .int v1)]) 121 h dX9_bits_119 rfl e17 (Nat.le_of_ble_eq_true rfl) rfl ?_
    refine cb_aload_n 122 5 h dX9_bits_121 rfl rfl rfl ?_
    refine cb_sipush 125 h dX9_bits_122 rfl ks_214 ?_
    refine cb_iload 127 0 h dX9_bits_125 rfl rfl ?_
    refine cb_bipush 129 h dX9_bits_127 rfl kb_16 ?_
    refine cb_ior 130 h dX9_bits_129 rfl ?_
    obtain ⟨σc18, ec18, hf⟩ := cb_bo_o hf
    refine cl_X9_184 133 h dX9_bits_130 rfl (ct_Processor_changeFlags ec18) ⟨rfl, rfl, Nat.le_of_ble_eq_true rfl, Nat.le_of_ble_eq_true rfl⟩ rfl (Nat.le_of_ble_eq_true rfl) ?_
    refine cb_iload_n 134 3 h dX9_bits_133 rfl rfl rfl ?_
    refine cb_bipush 136 h dX9_bits_134 rfl kb_6 ?_
    refine cb_cut (cb_V X (WC a ca σc18) 146 [(7, .int t16), (6, .int t13), (4, .int c6), (3, .int t4), (2, .int t2), (0, .ref (a 3)), (1, .int v1)] [.int (if t4 = (6 : Int32) then (12 : Int32) else (8 : Int32))]) (fun jj => ?_) ?_
    · refine cb_icmp_ne 144 139 h dX9_bits_136 rfl rfl (fun q19 => ?_) (fun q19 => ?_)
      · refine cb_bipush 146 h dX9_bits_144 rfl kb_8 ?_
        exact (cb_tf q19 jj)
      · refine cb_bipush 141 h dX9_bits_139 rfl kb_12 ?_
        refine cb_goto 146 h dX9_bits_141 rfl ?_
        exact (cb_tt q19 jj)
    exact cb_retI (Wf := WC a ca) h dX9_bits_146 he hf
  have hf := cb_if q12 hf
  by_cases q20 : (v1 >>> ((6 : Int32) &&& 31)) = 2
  · have hf := cb_it q20 hf
    refine cb_tabI 147 h dX9_bits_23 q20 (by decide) (by decide) rfl rfl ?_
    refine cb_aload_n 148 3 h dX9_bits_147 rfl rfl rfl ?_
    refine cb_iload_n 149 1 h dX9_bits_148 rfl rfl rfl ?_
    refine cb_iload 151 0 h dX9_bits_149 rfl rfl ?_
    refine cb_iconst 152 h dX9_bits_151 rfl kc_1 ?_
    refine cb_iload_n 153 2 h dX9_bits_152 rfl rfl rfl ?_
    refine cb_ishl 154 h dX9_bits_153 rfl ?_
    refine cb_iconst 155 h dX9_bits_154 rfl kc_m1 ?_
    refine cb_ixor 156 h dX9_bits_155 rfl ?_
    refine cb_iand 157 h dX9_bits_156 rfl ?_
    obtain ⟨σc21, ec21, hf⟩ := cb_bo_o hf
    refine cl_X9_154 160 h dX9_bits_157 rfl (ct_Processor_write ec21) ⟨rfl, rfl, Nat.le_of_ble_eq_true rfl, Nat.le_of_ble_eq_true rfl⟩ rfl (Nat.le_of_ble_eq_true rfl) ?_
    refine cb_goto 174 h dX9_bits_160 rfl ?_
    exact cb_lv [1] rfl (j174 _ _ hf)
  have hf := cb_if q20 hf
  refine cb_tabO 163 h dX9_bits_23 (by have t0 := lv_neT (a := 0) q7 (by decide); have t1 := lv_neT (a := 1) q12 (by decide); have t2 := lv_neT (a := 2) q20 (by decide); omega) rfl ?_
  refine cb_aload_n 164 3 h dX9_bits_163 rfl rfl rfl ?_
  refine cb_iload_n 165 1 h dX9_bits_164 rfl rfl rfl ?_
  refine cb_iload 167 0 h dX9_bits_165 rfl rfl ?_
  refine cb_iconst 168 h dX9_bits_167 rfl kc_1 ?_
  refine cb_iload_n 169 2 h dX9_bits_168 rfl rfl rfl ?_
  refine cb_ishl 170 h dX9_bits_169 rfl ?_
  refine cb_ior 171 h dX9_bits_170 rfl ?_
  obtain ⟨σc22, ec22, hf⟩ := cb_bo_o hf
  refine cl_X9_154 174 h dX9_bits_171 rfl (ct_Processor_write ec22) ⟨rfl, rfl, Nat.le_of_ble_eq_true rfl, Nat.le_of_ble_eq_true rfl⟩ rfl (Nat.le_of_ble_eq_true rfl) ?_
  exact cb_lv [1] rfl (j174 _ _ hf)
set_option maxRecDepth 100000 in
set_option maxHeartbeats 4000000 in
theorem ct_Processor_push {l : Launch} {D : va_G} {a : Nat → Nat} {ca : Nat → ClassId} {σ σ' : cb_S} {v1 : Int32} (hf : c_Processor_push σ v1 = some σ') : cb_C l yX9_push cX9_push 2 none { frames := 2, cells := 0, slots := 0, locals := 44 } D (EC ca) (adC a) [.ref (a 3), .int v1] (WC a ca σ) none (WC a ca σ') := by
  refine cb_mk [(0, .ref (a 3)), (1, .int v1)] (by decide) (Nat.le_of_ble_eq_true rfl) rfl (fun X h he => ?_) goodC
  have h : cb_ok X cX9_push RX9 (EC ca) 2 44 2 := h
  unfold c_Processor_push at hf
  refine cb_aload_n 1 0 h dX9_push_0 rfl rfl rfl ?_
  refine gf_X9_10 4 h dX9_push_1 rfl ?_
  refine cb_aload_n 5 0 h dX9_push_4 rfl rfl rfl ?_
  refine gf_X9_10 8 h dX9_push_5 rfl ?_
  refine gf_X9_214 11 h dX9_push_8 rfl ?_
  refine cb_iconst 12 h dX9_push_11 rfl kc_2 ?_
  refine cb_isub 13 h dX9_push_12 rfl ?_
  refine cb_ldc 15 h dX9_push_13 rfl (cb_t2 91 rfl rfl) ?_
  refine cb_iand 16 h dX9_push_15 rfl ?_
  obtain ⟨σ1, e2, hf⟩ := cb_let_o hf
  refine pf_X9_214 19 h dX9_push_16 rfl e2 ?_
  refine cb_aload_n 20 0 h dX9_push_19 rfl rfl rfl ?_
  refine gf_X9_42 23 h dX9_push_20 rfl ?_
  refine cb_aload_n 24 0 h dX9_push_23 rfl rfl rfl ?_
  refine gf_X9_10 27 h dX9_push_24 rfl ?_
  refine gf_X9_214 30 h dX9_push_27 rfl ?_
  refine cb_iload_n 31 1 h dX9_push_30 rfl rfl rfl ?_
  obtain ⟨σc3, ec3, hf⟩ := cb_bo_o hf
  refine cl_X9_193 34 h dX9_push_31 rfl (ct_Memory_putWord ec3) ⟨rfl, rfl, Nat.le_of_ble_eq_true rfl, Nat.le_of_ble_eq_true rfl⟩ rfl (Nat.le_of_ble_eq_true rfl) ?_
  exact cb_retV (Wf := WC a ca) h dX9_push_34 he hf
set_option maxRecDepth 100000 in
set_option maxHeartbeats 4000000 in
theorem ct_Processor_callIf {l : Launch} {D : va_G} {a : Nat → Nat} {ca : Nat → ClassId} {σ σ' : cb_S} {v1 : Int32} {r : Int32} (hf : c_Processor_callIf σ v1 = some (r, σ')) : cb_C l yX9_callIf cX9_callIf 3 (some .int) { frames := 3, cells := 0, slots := 0, locals := 65 } D (EC ca) (adC a) [.ref (a 3), .int v1] (WC a ca σ) (some (.int r)) (WC a ca σ') := by
  refine cb_mk [(0, .ref (a 3)), (1, .int v1)] (by decide) (Nat.le_of_ble_eq_true rfl) rfl (fun X h he => ?_) goodC
  have h : cb_ok X cX9_callIf RX9 (EC ca) 3 65 3 := h
  unfold c_Processor_callIf at hf
  refine cb_aload_n 1 0 h dX9_callIf_0 rfl rfl rfl ?_
  obtain ⟨c1, σc1, ec1, hf⟩ := cb_b2_o hf
  refine cl_X9_172 4 h dX9_callIf_1 rfl (ct_Processor_nextWord ec1) ⟨rfl, rfl, Nat.le_of_ble_eq_true rfl, Nat.le_of_ble_eq_true rfl⟩ rfl (Nat.le_of_ble_eq_true rfl) ?_
  refine cb_istore_n (lv' := [(2, .int c1), (0, .ref (a 3)), (1, .int v1)]) 5 h dX9_callIf_4 rfl rfl rfl (Nat.le_of_ble_eq_true rfl) rfl ?_
  refine cb_iload_n 6 2 h dX9_callIf_5 rfl rfl rfl ?_
  refine cb_if_ne 12 9 h dX9_callIf_6 rfl rfl (fun q2 => ?_) (fun q2 => ?_)
  · have hf := cb_if q2 hf
    refine cb_aload_n 13 1 h dX9_callIf_12 rfl rfl rfl ?_
    refine cb_aload_n 14 1 h dX9_callIf_13 rfl rfl rfl ?_
    refine gf_X9_10 17 h dX9_callIf_14 rfl ?_
    refine gf_X9_64 20 h dX9_callIf_17 rfl ?_
    obtain ⟨σc3, ec3, hf⟩ := cb_bo_o hf
    refine cl_X9_109 23 h dX9_callIf_20 rfl (ct_Processor_push ec3) ⟨rfl, rfl, Nat.le_of_ble_eq_true rfl, Nat.le_of_ble_eq_true rfl⟩ rfl (Nat.le_of_ble_eq_true rfl) ?_
    refine cb_aload_n 24 1 h dX9_callIf_23 rfl rfl rfl ?_
    refine gf_X9_10 27 h dX9_callIf_24 rfl ?_
    refine cb_iload_n 28 0 h dX9_callIf_27 rfl rfl rfl ?_
    obtain ⟨σ4, e5, hf⟩ := cb_let_o hf
    refine pf_X9_64 31 h dX9_callIf_28 rfl e5 ?_
    refine cb_bipush 33 h dX9_callIf_31 rfl kb_17 ?_
    exact cb_retI (Wf := WC a ca) h dX9_callIf_33 he hf
  · have hf := cb_it q2 hf
    refine cb_bipush 11 h dX9_callIf_9 rfl kb_10 ?_
    exact cb_retI (Wf := WC a ca) h dX9_callIf_11 he hf
set_option maxRecDepth 100000 in
set_option maxHeartbeats 4000000 in
theorem ct_Channel_takeConstant {l : Launch} {D : va_G} {a : Nat → Nat} {ca : Nat → ClassId} {j : Nat} {σ σ' : cb_S} {v1 : Int32} (hj : cb_isChannel j) (hf : c_Channel_takeConstant j σ v1 = some σ') : cb_C l yX4_takeConstant cX4_takeConstant 2 none { frames := 0, cells := 0, slots := 0, locals := 0 } D (EC ca) (adC a) [.ref (a j), .int v1] (WC a ca σ) none (WC a ca σ') := by
  refine cb_mk [(0, .ref (a j)), (1, .int v1)] (by decide) (Nat.le_of_ble_eq_true rfl) rfl (fun X h he => ?_) goodC
  have h : cb_ok X cX4_takeConstant RX4 (EC ca) 0 0 2 := h
  unfold c_Channel_takeConstant at hf
  refine cb_aload_n 1 0 h dX4_takeConstant_0 rfl rfl rfl ?_
  refine cb_iload_n 2 1 h dX4_takeConstant_1 rfl rfl rfl ?_
  refine cb_cut (cb_V X (WC a ca σ) 12 [(0, .ref (a j)), (1, .int v1)] [.int (if v1 = 0 then (256 : Int32) else v1), .ref (a j)]) (fun jj => ?_) ?_
  · refine cb_if_ne 11 5 h dX4_takeConstant_2 rfl rfl (fun q1 => ?_) (fun q1 => ?_)
    · refine cb_iload_n 12 1 h dX4_takeConstant_11 rfl rfl rfl ?_
      exact (cb_tf q1 jj)
    · refine cb_sipush 8 h dX4_takeConstant_5 rfl ks_256 ?_
      refine cb_goto 12 h dX4_takeConstant_8 rfl ?_
      exact (cb_tt q1 jj)
  obtain ⟨σ2, e3, hf⟩ := cb_let_o hf
  refine pf_X4_15 15 h dX4_takeConstant_12 rfl hj e3 ?_
  refine cb_aload_n 16 0 h dX4_takeConstant_15 rfl rfl rfl ?_
  refine cb_aload_n 17 0 h dX4_takeConstant_16 rfl rfl rfl ?_
  refine gf_X4_15 20 h dX4_takeConstant_17 rfl hj ?_
  obtain ⟨σ4, e5, hf⟩ := cb_let_o hf
  refine pf_X4_9 23 h dX4_takeConstant_20 rfl hj e5 ?_
  refine cb_aload_n 24 0 h dX4_takeConstant_23 rfl rfl rfl ?_
  refine cb_iconst 25 h dX4_takeConstant_24 rfl kc_0 ?_
  obtain ⟨σ6, e7, hf⟩ := cb_let_o hf
  refine pf_X4_18 28 h dX4_takeConstant_25 rfl hj e7 ?_
  refine cb_aload_n 29 0 h dX4_takeConstant_28 rfl rfl rfl ?_
  refine cb_iconst 30 h dX4_takeConstant_29 rfl kc_1 ?_
  obtain ⟨σ8, e9, hf⟩ := cb_let_o hf
  refine pf_X4_21 33 h dX4_takeConstant_30 rfl hj cb_01_1 e9 ?_
  refine cb_aload_n 34 0 h dX4_takeConstant_33 rfl rfl rfl ?_
  refine cb_iconst 35 h dX4_takeConstant_34 rfl kc_0 ?_
  obtain ⟨σ10, e11, hf⟩ := cb_let_o hf
  refine pf_X4_31 38 h dX4_takeConstant_35 rfl hj cb_01_0 e11 ?_
  exact cb_retV (Wf := WC a ca) h dX4_takeConstant_38 he hf
set_option maxRecDepth 100000 in
set_option maxHeartbeats 4000000 in
theorem ct_Channel_takeControl {l : Launch} {D : va_G} {a : Nat → Nat} {ca : Nat → ClassId} {j : Nat} {σ σ' : cb_S} {v1 : Int32} (hj : cb_isChannel j) (hf : c_Channel_takeControl j σ v1 = some σ') : cb_C l yX4_takeControl cX4_takeControl 2 none { frames := 0, cells := 0, slots := 0, locals := 0 } D (EC ca) (adC a) [.ref (a j), .int v1] (WC a ca σ) none (WC a ca σ') := by
  refine cb_mk [(0, .ref (a j)), (1, .int v1)] (by decide) (Nat.le_of_ble_eq_true rfl) rfl (fun X h he => ?_) goodC
  have h : cb_ok X cX4_takeControl RX4 (EC ca) 0 0 2 := h
  unfold c_Channel_takeControl at hf
  have j87 : ∀ (σ : cb_S), c_Channel_takeControl_L87 j v1 σ = some σ' → cb_V X (WC a ca σ) 87 [(0, .ref (a j))] [] := by
    intro σ hf
    unfold c_Channel_takeControl_L87 at hf
    refine cb_aload_n 88 0 h dX4_takeControl_87 rfl rfl rfl ?_
    refine cb_iconst 89 h dX4_takeControl_88 rfl kc_0 ?_
    obtain ⟨σ1, e2, hf⟩ := cb_let_o hf
    refine pf_X4_18 92 h dX4_takeControl_89 rfl hj e2 ?_
    exact cb_retV (Wf := WC a ca) h dX4_takeControl_92 he hf
  have j29 : ∀ (σ : cb_S), c_Channel_takeControl_L29 j v1 σ = some σ' → cb_V X (WC a ca σ) 29 [(0, .ref (a j)), (1, .int v1)] [] := by
    intro σ hf
    unfold c_Channel_takeControl_L29 at hf
    refine cb_aload_n 30 0 h dX4_takeControl_29 rfl rfl rfl ?_
    refine cb_iload_n 31 1 h dX4_takeControl_30 rfl rfl rfl ?_
    refine cb_bipush 33 h dX4_takeControl_31 rfl kb_64 ?_
    refine cb_iand 34 h dX4_takeControl_33 rfl ?_
    refine cb_cut (cb_V X (WC a ca σ) 42 [(0, .ref (a j)), (1, .int v1)] [.int (if (v1 &&& (64 : Int32)) = 0 then (0 : Int32) else (1 : Int32)), .ref (a j)]) (fun jj => ?_) ?_
    · refine cb_if_eq 41 37 h dX4_takeControl_34 rfl rfl (fun q3 => ?_) (fun q3 => ?_)
      · refine cb_iconst 42 h dX4_takeControl_41 rfl kc_0 ?_
        exact (cb_tt q3 jj)
      · refine cb_iconst 38 h dX4_takeControl_37 rfl kc_1 ?_
        refine cb_goto 42 h dX4_takeControl_38 rfl ?_
        exact (cb_tf q3 jj)
    obtain ⟨σ4, e5, hf⟩ := cb_let_o hf
    refine pf_X4_25 45 h dX4_takeControl_42 rfl hj (cb_01_i cb_01_0 cb_01_1) e5 ?_
    refine cb_aload_n 46 0 h dX4_takeControl_45 rfl rfl rfl ?_
    refine cb_iload_n 47 1 h dX4_takeControl_46 rfl rfl rfl ?_
    refine cb_bipush 49 h dX4_takeControl_47 rfl kb_32 ?_
    refine cb_iand 50 h dX4_takeControl_49 rfl ?_
    refine cb_cut (cb_V X (WC a ca σ4) 58 [(0, .ref (a j)), (1, .int v1)] [.int (if (v1 &&& (32 : Int32)) = 0 then (0 : Int32) else (1 : Int32)), .ref (a j)]) (fun jj => ?_) ?_
    · refine cb_if_eq 57 53 h dX4_takeControl_50 rfl rfl (fun q6 => ?_) (fun q6 => ?_)
      · refine cb_iconst 58 h dX4_takeControl_57 rfl kc_0 ?_
        exact (cb_tt q6 jj)
      · refine cb_iconst 54 h dX4_takeControl_53 rfl kc_1 ?_
        refine cb_goto 58 h dX4_takeControl_54 rfl ?_
        exact (cb_tf q6 jj)
    obtain ⟨σ7, e8, hf⟩ := cb_let_o hf
    refine pf_X4_28 61 h dX4_takeControl_58 rfl hj (cb_01_i cb_01_0 cb_01_1) e8 ?_
    refine cb_aload_n 62 0 h dX4_takeControl_61 rfl rfl rfl ?_
    refine cb_iload_n 63 1 h dX4_takeControl_62 rfl rfl rfl ?_
    refine cb_iconst 64 h dX4_takeControl_63 rfl kc_4 ?_
    refine cb_iand 65 h dX4_takeControl_64 rfl ?_
    refine cb_cut (cb_V X (WC a ca σ7) 73 [(0, .ref (a j)), (1, .int v1)] [.int (if (v1 &&& (4 : Int32)) = 0 then (0 : Int32) else (1 : Int32)), .ref (a j)]) (fun jj => ?_) ?_
    · refine cb_if_eq 72 68 h dX4_takeControl_65 rfl rfl (fun q9 => ?_) (fun q9 => ?_)
      · refine cb_iconst 73 h dX4_takeControl_72 rfl kc_0 ?_
        exact (cb_tt q9 jj)
      · refine cb_iconst 69 h dX4_takeControl_68 rfl kc_1 ?_
        refine cb_goto 73 h dX4_takeControl_69 rfl ?_
        exact (cb_tf q9 jj)
    obtain ⟨σ10, e11, hf⟩ := cb_let_o hf
    refine pf_X4_31 76 h dX4_takeControl_73 rfl hj (cb_01_i cb_01_0 cb_01_1) e11 ?_
    refine cb_iload_n 77 1 h dX4_takeControl_76 rfl rfl rfl ?_
    refine cb_iconst 78 h dX4_takeControl_77 rfl kc_2 ?_
    refine cb_iand 79 h dX4_takeControl_78 rfl ?_
    refine cb_if_eq 87 82 h dX4_takeControl_79 rfl rfl (fun q12 => ?_) (fun q12 => ?_)
    · have hf := cb_it q12 hf
      exact cb_lv [0] rfl (j87 _ hf)
    · have hf := cb_if q12 hf
      refine cb_aload_n 83 0 h dX4_takeControl_82 rfl rfl rfl ?_
      refine cb_iconst 84 h dX4_takeControl_83 rfl kc_0 ?_
      obtain ⟨σ13, e14, hf⟩ := cb_let_o hf
      refine pf_X4_21 87 h dX4_takeControl_84 rfl hj cb_01_0 e14 ?_
      exact cb_lv [0] rfl (j87 _ hf)
  refine cb_aload_n 1 0 h dX4_takeControl_0 rfl rfl rfl ?_
  refine cb_iload_n 2 1 h dX4_takeControl_1 rfl rfl rfl ?_
  refine cb_sipush 5 h dX4_takeControl_2 rfl ks_128 ?_
  refine cb_iand 6 h dX4_takeControl_5 rfl ?_
  refine cb_cut (cb_V X (WC a ca σ) 14 [(0, .ref (a j)), (1, .int v1)] [.int (if (v1 &&& (128 : Int32)) = 0 then (0 : Int32) else (1 : Int32)), .ref (a j)]) (fun jj => ?_) ?_
  · refine cb_if_eq 13 9 h dX4_takeControl_6 rfl rfl (fun q15 => ?_) (fun q15 => ?_)
    · refine cb_iconst 14 h dX4_takeControl_13 rfl kc_0 ?_
      exact (cb_tt q15 jj)
    · refine cb_iconst 10 h dX4_takeControl_9 rfl kc_1 ?_
      refine cb_goto 14 h dX4_takeControl_10 rfl ?_
      exact (cb_tf q15 jj)
  obtain ⟨σ16, e17, hf⟩ := cb_let_o hf
  refine pf_X4_44 17 h dX4_takeControl_14 rfl hj (cb_01_i cb_01_0 cb_01_1) e17 ?_
  refine cb_aload_n 18 0 h dX4_takeControl_17 rfl rfl rfl ?_
  refine gf_X4_44 21 h dX4_takeControl_18 rfl hj ?_
  refine cb_if_ne 29 24 h dX4_takeControl_21 rfl rfl (fun q18 => ?_) (fun q18 => ?_)
  · have hf := cb_if q18 hf
    exact j29 _ hf
  · have hf := cb_it q18 hf
    refine cb_aload_n 25 0 h dX4_takeControl_24 rfl rfl rfl ?_
    refine cb_iconst 26 h dX4_takeControl_25 rfl kc_0 ?_
    obtain ⟨σ19, e20, hf⟩ := cb_let_o hf
    refine pf_X4_47 29 h dX4_takeControl_26 rfl hj cb_01_0 e20 ?_
    exact j29 _ hf
set_option maxRecDepth 100000 in
set_option maxHeartbeats 4000000 in
theorem ct_Channel_takeByte {l : Launch} {D : va_G} {a : Nat → Nat} {ca : Nat → ClassId} {j : Nat} {σ σ' : cb_S} {v1 : Int32} {r : Int32} (hj : cb_isChannel j) (hf : c_Channel_takeByte j σ v1 = some (r, σ')) : cb_C l yX4_takeByte cX4_takeByte 2 (some .boolean) { frames := 1, cells := 0, slots := 0, locals := 21 } D (EC ca) (adC a) [.ref (a j), .int v1] (WC a ca σ) (some (.int r)) (WC a ca σ') := by
  refine cb_mk [(0, .ref (a j)), (1, .int v1)] (by decide) (Nat.le_of_ble_eq_true rfl) rfl (fun X h he => ?_) goodC
  have h : cb_ok X cX4_takeByte RX4 (EC ca) 1 21 2 := h
  unfold c_Channel_takeByte at hf
  refine cb_aload_n 1 0 h dX4_takeByte_0 rfl rfl rfl ?_
  refine gf_X4_31 4 h dX4_takeByte_1 rfl hj ?_
  refine cb_if_eq 14 7 h dX4_takeByte_4 rfl rfl (fun q1 => ?_) (fun q1 => ?_)
  · have hf := cb_it q1 hf
    refine cb_iload_n 15 1 h dX4_takeByte_14 rfl rfl rfl ?_
    refine cb_iconst 16 h dX4_takeByte_15 rfl kc_1 ?_
    refine cb_iand 17 h dX4_takeByte_16 rfl ?_
    refine cb_if_ne 22 20 h dX4_takeByte_17 rfl rfl (fun q2 => ?_) (fun q2 => ?_)
    · have hf := cb_if q2 hf
      refine cb_aload_n 23 0 h dX4_takeByte_22 rfl rfl rfl ?_
      refine cb_iload_n 24 1 h dX4_takeByte_23 rfl rfl rfl ?_
      obtain ⟨σc3, ec3, hf⟩ := cb_bo_o hf
      refine cl_X4_41 27 h dX4_takeByte_24 rfl hj (ct_Channel_takeControl hj ec3) ⟨rfl, rfl, Nat.le_of_ble_eq_true rfl, Nat.le_of_ble_eq_true rfl⟩ rfl (Nat.le_of_ble_eq_true rfl) ?_
      refine cb_iconst 28 h dX4_takeByte_27 rfl kc_1 ?_
      exact cb_retZ (Wf := WC a ca) h dX4_takeByte_28 he cb_01_1 hf
    · have hf := cb_it q2 hf
      refine cb_iconst 21 h dX4_takeByte_20 rfl kc_0 ?_
      exact cb_retZ (Wf := WC a ca) h dX4_takeByte_21 he cb_01_0 hf
  · have hf := cb_if q1 hf
    refine cb_aload_n 8 0 h dX4_takeByte_7 rfl rfl rfl ?_
    refine cb_iload_n 9 1 h dX4_takeByte_8 rfl rfl rfl ?_
    obtain ⟨σc4, ec4, hf⟩ := cb_bo_o hf
    refine cl_X4_37 12 h dX4_takeByte_9 rfl hj (ct_Channel_takeConstant hj ec4) ⟨rfl, rfl, Nat.le_of_ble_eq_true rfl, Nat.le_of_ble_eq_true rfl⟩ rfl (Nat.le_of_ble_eq_true rfl) ?_
    refine cb_iconst 13 h dX4_takeByte_12 rfl kc_1 ?_
    exact cb_retZ (Wf := WC a ca) h dX4_takeByte_13 he cb_01_1 hf
set_option maxRecDepth 100000 in
set_option maxHeartbeats 4000000 in
theorem ct_Chain_toChannel {l : Launch} {D : va_G} {a : Nat → Nat} {ca : Nat → ClassId} {u : Nat} {σ σ' : cb_S} {v2 : Int32} (hu : cb_isChannel u) (hf : c_Chain_toChannel u σ v2 = some σ') : cb_C l yX3_toChannel cX3_toChannel 3 none { frames := 2, cells := 0, slots := 0, locals := 42 } D (EC ca) (adC a) [.ref (a 2), .ref (a u), .int v2] (WC a ca σ) none (WC a ca σ') := by
  refine cb_mk [(0, .ref (a 2)), (1, .ref (a u)), (2, .int v2)] (by decide) (Nat.le_of_ble_eq_true rfl) rfl (fun X h he => ?_) goodC
  have h : cb_ok X cX3_toChannel RX3 (EC ca) 2 42 3 := h
  unfold c_Chain_toChannel at hf
  refine cb_aload_n 1 1 h dX3_toChannel_0 rfl rfl rfl ?_
  refine cb_iload_n 2 2 h dX3_toChannel_1 rfl rfl rfl ?_
  obtain ⟨c1, σc1, ec1, hf⟩ := cb_b2_o hf
  refine cl_X3_63 5 h dX3_toChannel_2 rfl hu (ct_Channel_takeByte hu ec1) ⟨rfl, rfl, Nat.le_of_ble_eq_true rfl, Nat.le_of_ble_eq_true rfl⟩ rfl (Nat.le_of_ble_eq_true rfl) ?_
  refine cb_if_ne 34 8 h dX3_toChannel_5 rfl rfl (fun q2 => ?_) (fun q2 => ?_)
  · have hf := cb_if q2 hf
    exact cb_retV (Wf := WC a ca) h dX3_toChannel_34 he hf
  · have hf := cb_it q2 hf
    refine cb_aload_n 9 0 h dX3_toChannel_8 rfl rfl rfl ?_
    refine gf_X3_12 12 h dX3_toChannel_9 rfl ?_
    refine cb_iload_n 13 2 h dX3_toChannel_12 rfl rfl rfl ?_
    refine cb_sipush 16 h dX3_toChannel_13 rfl ks_248 ?_
    refine cb_iand 17 h dX3_toChannel_16 rfl ?_
    obtain ⟨σ3, e4, hf⟩ := cb_let_o hf
    refine pf_X3_67 20 h dX3_toChannel_17 rfl channel_6 e4 ?_
    refine cb_aload_n 21 0 h dX3_toChannel_20 rfl rfl rfl ?_
    refine gf_X3_18 24 h dX3_toChannel_21 rfl ?_
    refine cb_iload_n 25 2 h dX3_toChannel_24 rfl rfl rfl ?_
    refine cb_sipush 28 h dX3_toChannel_25 rfl ks_248 ?_
    refine cb_iand 29 h dX3_toChannel_28 rfl ?_
    refine cb_iconst 30 h dX3_toChannel_29 rfl kc_2 ?_
    refine cb_iadd 31 h dX3_toChannel_30 rfl ?_
    obtain ⟨σ5, e6, hf⟩ := cb_let_o hf
    refine pf_X3_67 34 h dX3_toChannel_31 rfl channel_7 e6 ?_
    exact cb_retV (Wf := WC a ca) h dX3_toChannel_34 he hf
set_option maxRecDepth 100000 in
set_option maxHeartbeats 4000000 in
theorem ct_Port_takeData {l : Launch} {D : va_G} {a : Nat → Nat} {ca : Nat → ClassId} {j : Nat} {σ σ' : cb_S} {v1 : Int32} (hj : cb_isPort j) (hf : c_Port_takeData j σ v1 = some σ') : cb_C l yX8_takeData cX8_takeData 2 none { frames := 0, cells := 0, slots := 0, locals := 0 } D (EC ca) (adC a) [.ref (a j), .int v1] (WC a ca σ) none (WC a ca σ') := by
  refine cb_mk [(0, .ref (a j)), (1, .int v1)] (by decide) (Nat.le_of_ble_eq_true rfl) rfl (fun X h he => ?_) goodC
  have h : cb_ok X cX8_takeData RX8 (EC ca) 0 0 2 := h
  unfold c_Port_takeData at hf
  refine cb_aload_n 1 0 h dX8_takeData_0 rfl rfl rfl ?_
  refine cb_iload_n 2 1 h dX8_takeData_1 rfl rfl rfl ?_
  obtain ⟨σ1, e2, hf⟩ := cb_let_o hf
  refine pf_X8_19 5 h dX8_takeData_2 rfl hj e2 ?_
  refine cb_aload_n 6 0 h dX8_takeData_5 rfl rfl rfl ?_
  refine gf_X8_11 9 h dX8_takeData_6 rfl hj ?_
  refine cb_if_ne 17 12 h dX8_takeData_9 rfl rfl (fun q3 => ?_) (fun q3 => ?_)
  · have hf := cb_if q3 hf
    exact cb_retV (Wf := WC a ca) h dX8_takeData_17 he hf
  · have hf := cb_it q3 hf
    refine cb_aload_n 13 0 h dX8_takeData_12 rfl rfl rfl ?_
    refine cb_iconst 14 h dX8_takeData_13 rfl kc_1 ?_
    obtain ⟨σ4, e5, hf⟩ := cb_let_o hf
    refine pf_X8_15 17 h dX8_takeData_14 rfl hj cb_01_1 e5 ?_
    exact cb_retV (Wf := WC a ca) h dX8_takeData_17 he hf
set_option maxRecDepth 100000 in
set_option maxHeartbeats 4000000 in
theorem ct_Port_takeCommand {l : Launch} {D : va_G} {a : Nat → Nat} {ca : Nat → ClassId} {j : Nat} {σ σ' : cb_S} {v1 : Int32} (hj : cb_isPort j) (hf : c_Port_takeCommand j σ v1 = some σ') : cb_C l yX8_takeCommand cX8_takeCommand 2 none { frames := 0, cells := 0, slots := 0, locals := 0 } D (EC ca) (adC a) [.ref (a j), .int v1] (WC a ca σ) none (WC a ca σ') := by
  refine cb_mk [(0, .ref (a j)), (1, .int v1)] (by decide) (Nat.le_of_ble_eq_true rfl) rfl (fun X h he => ?_) goodC
  have h : cb_ok X cX8_takeCommand RX8 (EC ca) 0 0 2 := h
  unfold c_Port_takeCommand at hf
  refine cb_iload_n 1 1 h dX8_takeCommand_0 rfl rfl rfl ?_
  refine cb_bipush 3 h dX8_takeCommand_1 rfl kb_15 ?_
  refine cb_iand 4 h dX8_takeCommand_3 rfl ?_
  by_cases q1 : (v1 &&& (15 : Int32)) = 3
  · have hf := cb_it q1 hf
    refine cb_look 154 h dX8_takeCommand_4 rfl (cb_lko q1 rfl) rfl ?_
    refine cb_aload_n 155 0 h dX8_takeCommand_154 rfl rfl rfl ?_
    refine cb_iload_n 156 1 h dX8_takeCommand_155 rfl rfl rfl ?_
    refine cb_sipush 159 h dX8_takeCommand_156 rfl ks_128 ?_
    refine cb_iand 160 h dX8_takeCommand_159 rfl ?_
    refine cb_cut (cb_V X (WC a ca σ) 168 [(0, .ref (a j)), (1, .int v1)] [.int (if (v1 &&& (128 : Int32)) = 0 then (0 : Int32) else (1 : Int32)), .ref (a j)]) (fun jj => ?_) ?_
    · refine cb_if_eq 167 163 h dX8_takeCommand_160 rfl rfl (fun q2 => ?_) (fun q2 => ?_)
      · refine cb_iconst 168 h dX8_takeCommand_167 rfl kc_0 ?_
        exact (cb_tt q2 jj)
      · refine cb_iconst 164 h dX8_takeCommand_163 rfl kc_1 ?_
        refine cb_goto 168 h dX8_takeCommand_164 rfl ?_
        exact (cb_tf q2 jj)
    obtain ⟨σ3, e4, hf⟩ := cb_let_o hf
    refine pf_X8_59 171 h dX8_takeCommand_168 rfl hj (cb_01_i cb_01_0 cb_01_1) e4 ?_
    refine cb_goto 174 h dX8_takeCommand_171 rfl ?_
    exact cb_retV (Wf := WC a ca) h dX8_takeCommand_174 he hf
  have hf := cb_if q1 hf
  by_cases q5 : (v1 &&& (15 : Int32)) = 7
  · have hf := cb_it q5 hf
    refine cb_look 85 h dX8_takeCommand_4 rfl (cb_lko q5 rfl) rfl ?_
    refine cb_aload_n 86 0 h dX8_takeCommand_85 rfl rfl rfl ?_
    refine cb_iload_n 87 1 h dX8_takeCommand_86 rfl rfl rfl ?_
    refine cb_sipush 90 h dX8_takeCommand_87 rfl ks_128 ?_
    refine cb_iand 91 h dX8_takeCommand_90 rfl ?_
    refine cb_cut (cb_V X (WC a ca σ) 99 [(0, .ref (a j)), (1, .int v1)] [.int (if (v1 &&& (128 : Int32)) = 0 then (0 : Int32) else (1 : Int32)), .ref (a j)]) (fun jj => ?_) ?_
    · refine cb_if_eq 98 94 h dX8_takeCommand_91 rfl rfl (fun q6 => ?_) (fun q6 => ?_)
      · refine cb_iconst 99 h dX8_takeCommand_98 rfl kc_0 ?_
        exact (cb_tt q6 jj)
      · refine cb_iconst 95 h dX8_takeCommand_94 rfl kc_1 ?_
        refine cb_goto 99 h dX8_takeCommand_95 rfl ?_
        exact (cb_tf q6 jj)
    obtain ⟨σ7, e8, hf⟩ := cb_let_o hf
    refine pf_X8_59 102 h dX8_takeCommand_99 rfl hj (cb_01_i cb_01_0 cb_01_1) e8 ?_
    refine cb_aload_n 103 0 h dX8_takeCommand_102 rfl rfl rfl ?_
    refine cb_iload_n 104 1 h dX8_takeCommand_103 rfl rfl rfl ?_
    refine cb_bipush 106 h dX8_takeCommand_104 rfl kb_64 ?_
    refine cb_iand 107 h dX8_takeCommand_106 rfl ?_
    refine cb_cut (cb_V X (WC a ca σ7) 115 [(0, .ref (a j)), (1, .int v1)] [.int (if (v1 &&& (64 : Int32)) = 0 then (0 : Int32) else (1 : Int32)), .ref (a j)]) (fun jj => ?_) ?_
    · refine cb_if_eq 114 110 h dX8_takeCommand_107 rfl rfl (fun q9 => ?_) (fun q9 => ?_)
      · refine cb_iconst 115 h dX8_takeCommand_114 rfl kc_0 ?_
        exact (cb_tt q9 jj)
      · refine cb_iconst 111 h dX8_takeCommand_110 rfl kc_1 ?_
        refine cb_goto 115 h dX8_takeCommand_111 rfl ?_
        exact (cb_tf q9 jj)
    obtain ⟨σ10, e11, hf⟩ := cb_let_o hf
    refine pf_X8_34 118 h dX8_takeCommand_115 rfl hj (cb_01_i cb_01_0 cb_01_1) e11 ?_
    refine cb_aload_n 119 0 h dX8_takeCommand_118 rfl rfl rfl ?_
    refine cb_iload_n 120 1 h dX8_takeCommand_119 rfl rfl rfl ?_
    refine cb_bipush 122 h dX8_takeCommand_120 rfl kb_32 ?_
    refine cb_iand 123 h dX8_takeCommand_122 rfl ?_
    refine cb_cut (cb_V X (WC a ca σ10) 131 [(0, .ref (a j)), (1, .int v1)] [.int (if (v1 &&& (32 : Int32)) = 0 then (0 : Int32) else (1 : Int32)), .ref (a j)]) (fun jj => ?_) ?_
    · refine cb_if_eq 130 126 h dX8_takeCommand_123 rfl rfl (fun q12 => ?_) (fun q12 => ?_)
      · refine cb_iconst 131 h dX8_takeCommand_130 rfl kc_0 ?_
        exact (cb_tt q12 jj)
      · refine cb_iconst 127 h dX8_takeCommand_126 rfl kc_1 ?_
        refine cb_goto 131 h dX8_takeCommand_127 rfl ?_
        exact (cb_tf q12 jj)
    obtain ⟨σ13, e14, hf⟩ := cb_let_o hf
    refine pf_X8_37 134 h dX8_takeCommand_131 rfl hj (cb_01_i cb_01_0 cb_01_1) e14 ?_
    refine cb_iload_n 135 1 h dX8_takeCommand_134 rfl rfl rfl ?_
    refine cb_bipush 137 h dX8_takeCommand_135 rfl kb_16 ?_
    refine cb_iand 138 h dX8_takeCommand_137 rfl ?_
    refine cb_if_eq 174 141 h dX8_takeCommand_138 rfl rfl (fun q15 => ?_) (fun q15 => ?_)
    · have hf := cb_it q15 hf
      exact cb_retV (Wf := WC a ca) h dX8_takeCommand_174 he hf
    · have hf := cb_if q15 hf
      refine cb_aload_n 142 0 h dX8_takeCommand_141 rfl rfl rfl ?_
      refine cb_iconst 143 h dX8_takeCommand_142 rfl kc_1 ?_
      obtain ⟨σ16, e17, hf⟩ := cb_let_o hf
      refine pf_X8_43 146 h dX8_takeCommand_143 rfl hj cb_01_1 e17 ?_
      refine cb_aload_n 147 0 h dX8_takeCommand_146 rfl rfl rfl ?_
      refine cb_iconst 148 h dX8_takeCommand_147 rfl kc_0 ?_
      obtain ⟨σ18, e19, hf⟩ := cb_let_o hf
      refine pf_X8_62 151 h dX8_takeCommand_148 rfl hj cb_01_0 e19 ?_
      refine cb_goto 174 h dX8_takeCommand_151 rfl ?_
      exact cb_retV (Wf := WC a ca) h dX8_takeCommand_174 he hf
  have hf := cb_if q5 hf
  by_cases q20 : (v1 &&& (15 : Int32)) = 15
  · have hf := cb_it q20 hf
    refine cb_look 40 h dX8_takeCommand_4 rfl (cb_lko q20 rfl) rfl ?_
    refine cb_aload_n 41 0 h dX8_takeCommand_40 rfl rfl rfl ?_
    refine cb_iload_n 42 1 h dX8_takeCommand_41 rfl rfl rfl ?_
    refine cb_bipush 44 h dX8_takeCommand_42 rfl kb_6 ?_
    refine cb_ishr 45 h dX8_takeCommand_44 rfl ?_
    refine cb_iconst 46 h dX8_takeCommand_45 rfl kc_2 ?_
    refine cb_cut (cb_V X (WC a ca σ) 57 [(0, .ref (a j)), (1, .int v1)] [.int (if (v1 >>> ((6 : Int32) &&& 31)) = (2 : Int32) then (3 : Int32) else (v1 >>> ((6 : Int32) &&& 31))), .ref (a j)]) (fun jj => ?_) ?_
    · refine cb_icmp_ne 53 49 h dX8_takeCommand_46 rfl rfl (fun q21 => ?_) (fun q21 => ?_)
      · refine cb_iload_n 54 1 h dX8_takeCommand_53 rfl rfl rfl ?_
        refine cb_bipush 56 h dX8_takeCommand_54 rfl kb_6 ?_
        refine cb_ishr 57 h dX8_takeCommand_56 rfl ?_
        exact (cb_tf q21 jj)
      · refine cb_iconst 50 h dX8_takeCommand_49 rfl kc_3 ?_
        refine cb_goto 57 h dX8_takeCommand_50 rfl ?_
        exact (cb_tt q21 jj)
    obtain ⟨σ22, e23, hf⟩ := cb_let_o hf
    refine pf_X8_11 60 h dX8_takeCommand_57 rfl hj e23 ?_
    refine cb_aload_n 61 0 h dX8_takeCommand_60 rfl rfl rfl ?_
    refine cb_iconst 62 h dX8_takeCommand_61 rfl kc_0 ?_
    obtain ⟨σ24, e25, hf⟩ := cb_let_o hf
    refine pf_X8_15 65 h dX8_takeCommand_62 rfl hj cb_01_0 e25 ?_
    refine cb_aload_n 66 0 h dX8_takeCommand_65 rfl rfl rfl ?_
    refine cb_aload_n 67 0 h dX8_takeCommand_66 rfl rfl rfl ?_
    refine gf_X8_11 70 h dX8_takeCommand_67 rfl hj ?_
    refine cb_iconst 71 h dX8_takeCommand_70 rfl kc_3 ?_
    refine cb_cut (cb_V X (WC a ca σ24) 79 [(0, .ref (a j)), (1, .int v1)] [.int (if (σ24 j 4) = (3 : Int32) then (1 : Int32) else (0 : Int32)), .ref (a j)]) (fun jj => ?_) ?_
    · refine cb_icmp_ne 78 74 h dX8_takeCommand_71 rfl rfl (fun q26 => ?_) (fun q26 => ?_)
      · refine cb_iconst 79 h dX8_takeCommand_78 rfl kc_0 ?_
        exact (cb_tf q26 jj)
      · refine cb_iconst 75 h dX8_takeCommand_74 rfl kc_1 ?_
        refine cb_goto 79 h dX8_takeCommand_75 rfl ?_
        exact (cb_tt q26 jj)
    obtain ⟨σ27, e28, hf⟩ := cb_let_o hf
    refine pf_X8_40 82 h dX8_takeCommand_79 rfl hj (cb_01_i cb_01_1 cb_01_0) e28 ?_
    refine cb_goto 174 h dX8_takeCommand_82 rfl ?_
    exact cb_retV (Wf := WC a ca) h dX8_takeCommand_174 he hf
  have hf := cb_if q20 hf
  refine cb_look 174 h dX8_takeCommand_4 rfl ((lv_osw q1 (by decide)).trans ((lv_osw q5 (by decide)).trans ((lv_osw q20 (by decide)).trans rfl))) rfl ?_
  exact cb_retV (Wf := WC a ca) h dX8_takeCommand_174 he hf
set_option maxRecDepth 100000 in
set_option maxHeartbeats 4000000 in
theorem ct_Port_holds {l : Launch} {D : va_G} {a : Nat → Nat} {ca : Nat → ClassId} {j : Nat} {σ : cb_S} {r : Int32} (hj : cb_isPort j) (hf : c_Port_holds j σ = some r) : cb_C l yX8_holds cX8_holds 3 (some .boolean) { frames := 0, cells := 0, slots := 0, locals := 0 } D (EC ca) (adC a) [.ref (a j)] (WC a ca σ) (some (.int r)) (WC a ca σ) := by
  refine cb_mk [(0, .ref (a j))] (by decide) (Nat.le_of_ble_eq_true rfl) rfl (fun X h he => ?_) goodC
  have h : cb_ok X cX8_holds RX8 (EC ca) 0 0 3 := h
  unfold c_Port_holds at hf
  refine cb_aload_n 1 0 h dX8_holds_0 rfl rfl rfl ?_
  refine gf_X8_28 4 h dX8_holds_1 rfl hj ?_
  refine cb_aload_n 5 0 h dX8_holds_4 rfl rfl rfl ?_
  refine gf_X8_31 8 h dX8_holds_5 rfl hj ?_
  refine cb_iconst 9 h dX8_holds_8 rfl kc_m1 ?_
  refine cb_ixor 10 h dX8_holds_9 rfl ?_
  refine cb_iand 11 h dX8_holds_10 rfl ?_
  obtain ⟨t1, e2, hf⟩ := cb_let_o hf
  refine cb_istore_n (lv' := [(1, .int t1), (0, .ref (a j))]) 12 h dX8_holds_11 rfl rfl e2 (Nat.le_of_ble_eq_true rfl) rfl ?_
  refine cb_aload_n 13 1 h dX8_holds_12 rfl rfl rfl ?_
  refine gf_X8_11 16 h dX8_holds_13 rfl hj ?_
  refine cb_iconst 17 h dX8_holds_16 rfl kc_3 ?_
  refine cb_icmp_ne 24 20 h dX8_holds_17 rfl rfl (fun q3 => ?_) (fun q3 => ?_)
  · have hf := cb_if q3 hf
    refine cb_iconst 25 h dX8_holds_24 rfl kc_0 ?_
    exact cb_retB h dX8_holds_25 he cb_01_0 hf
  · have hf := cb_it q3 hf
    refine cb_iload_n 21 0 h dX8_holds_20 rfl rfl rfl ?_
    refine cb_if_ne 26 24 h dX8_holds_21 rfl rfl (fun q4 => ?_) (fun q4 => ?_)
    · have hf := cb_if q4 hf
      refine cb_aload_n 27 1 h dX8_holds_26 rfl rfl rfl ?_
      refine gf_X8_37 30 h dX8_holds_27 rfl hj ?_
      refine cb_cut (cb_V X (WC a ca σ) 46 [(1, .int t1), (0, .ref (a j))] [.int (if (σ j 12) = 0 then ((σ j 8) ^^^ (-1 : Int32)) else (σ j 8))]) (fun jj => ?_) ?_
      · refine cb_if_eq 40 33 h dX8_holds_30 rfl rfl (fun q5 => ?_) (fun q5 => ?_)
        · refine cb_aload_n 41 1 h dX8_holds_40 rfl rfl rfl ?_
          refine gf_X8_25 44 h dX8_holds_41 rfl hj ?_
          refine cb_iconst 45 h dX8_holds_44 rfl kc_m1 ?_
          refine cb_ixor 46 h dX8_holds_45 rfl ?_
          exact (cb_tt q5 jj)
        · refine cb_aload_n 34 1 h dX8_holds_33 rfl rfl rfl ?_
          refine gf_X8_25 37 h dX8_holds_34 rfl hj ?_
          refine cb_goto 46 h dX8_holds_37 rfl ?_
          exact (cb_tf q5 jj)
      refine cb_iload_n 47 0 h dX8_holds_46 rfl rfl rfl ?_
      refine cb_iand 48 h dX8_holds_47 rfl ?_
      obtain ⟨t6, e7, hf⟩ := cb_let_o hf
      refine cb_istore_n (lv' := [(2, .int t6), (1, .int t1), (0, .ref (a j))]) 49 h dX8_holds_48 rfl rfl e7 (Nat.le_of_ble_eq_true rfl) rfl ?_
      refine cb_aload_n 50 2 h dX8_holds_49 rfl rfl rfl ?_
      refine gf_X8_34 53 h dX8_holds_50 rfl hj ?_
      refine cb_cut (cb_V X (WC a ca σ) 78 [(2, .int t6), (1, .int t1), (0, .ref (a j))] [.int (if (σ j 11) = 0 then (if t6 = 0 then (0 : Int32) else (1 : Int32)) else (if t6 = t1 then (1 : Int32) else (0 : Int32)))]) (fun jj => ?_) ?_
      · refine cb_if_eq 69 56 h dX8_holds_53 rfl rfl (fun q8 => ?_) (fun q8 => ?_)
        · refine cb_iload_n 70 0 h dX8_holds_69 rfl rfl rfl ?_
          refine cb_if_eq 77 73 h dX8_holds_70 rfl rfl (fun q9 => ?_) (fun q9 => ?_)
          · refine cb_iconst 78 h dX8_holds_77 rfl kc_0 ?_
            exact (cb_tt q9 (cb_tt q8 jj))
          · refine cb_iconst 74 h dX8_holds_73 rfl kc_1 ?_
            refine cb_goto 78 h dX8_holds_74 rfl ?_
            exact (cb_tf q9 (cb_tt q8 jj))
        · refine cb_iload_n 57 0 h dX8_holds_56 rfl rfl rfl ?_
          refine cb_iload_n 58 1 h dX8_holds_57 rfl rfl rfl ?_
          refine cb_icmp_ne 65 61 h dX8_holds_58 rfl rfl (fun q10 => ?_) (fun q10 => ?_)
          · refine cb_iconst 66 h dX8_holds_65 rfl kc_0 ?_
            refine cb_goto 78 h dX8_holds_66 rfl ?_
            exact (cb_tf q10 (cb_tf q8 jj))
          · refine cb_iconst 62 h dX8_holds_61 rfl kc_1 ?_
            refine cb_goto 78 h dX8_holds_62 rfl ?_
            exact (cb_tt q10 (cb_tf q8 jj))
      exact cb_retB h dX8_holds_78 he (cb_01_i (cb_01_i cb_01_0 cb_01_1) (cb_01_i cb_01_1 cb_01_0)) hf
    · have hf := cb_it q4 hf
      refine cb_iconst 25 h dX8_holds_24 rfl kc_0 ?_
      exact cb_retB h dX8_holds_25 he cb_01_0 hf
set_option maxRecDepth 100000 in
set_option maxHeartbeats 4000000 in
theorem ct_Device_request {l : Launch} {D : va_G} {a : Nat → Nat} {ca : Nat → ClassId} {j : Nat} {σ σ' : cb_S} (hj : cb_isDevice j) (hf : c_Device_request j σ = some σ') : cb_C l yX5_request cX5_request 1 none { frames := 0, cells := 0, slots := 0, locals := 0 } D (EC ca) (adC a) [.ref (a j)] (WC a ca σ) none (WC a ca σ') := by
  refine cb_mk [(0, .ref (a j))] (by decide) (Nat.le_of_ble_eq_true rfl) rfl (fun X h he => ?_) goodC
  have h : cb_ok X cX5_request RX5 (EC ca) 0 0 1 := h
  unfold c_Device_request at hf
  refine cb_aload_n 1 0 h dX5_request_0 rfl rfl rfl ?_
  refine gf_X5_7 4 h dX5_request_1 rfl hj ?_
  refine cb_if_eq 12 7 h dX5_request_4 rfl rfl (fun q1 => ?_) (fun q1 => ?_)
  · have hf := cb_it q1 hf
    exact cb_retV (Wf := WC a ca) h dX5_request_12 he hf
  · have hf := cb_if q1 hf
    refine cb_aload_n 8 0 h dX5_request_7 rfl rfl rfl ?_
    refine cb_iconst 9 h dX5_request_8 rfl kc_1 ?_
    obtain ⟨σ2, e3, hf⟩ := cb_let_o hf
    refine pf_X5_13 12 h dX5_request_9 rfl hj cb_01_1 e3 ?_
    exact cb_retV (Wf := WC a ca) h dX5_request_12 he hf
set_option maxRecDepth 100000 in
set_option maxHeartbeats 4000000 in
theorem ct_Port_look {l : Launch} {D : va_G} {a : Nat → Nat} {ca : Nat → ClassId} {j : Nat} {σ σ' : cb_S} (hj : cb_isPort j) (hf : c_Port_look j σ = some σ') : cb_C l yX8_look cX8_look 2 none { frames := 1, cells := 0, slots := 0, locals := 22 } D (EC ca) (adC a) [.ref (a j)] (WC a ca σ) none (WC a ca σ') := by
  refine cb_mk [(0, .ref (a j))] (by decide) (Nat.le_of_ble_eq_true rfl) rfl (fun X h he => ?_) goodC
  have h : cb_ok X cX8_look RX8 (EC ca) 1 22 2 := h
  unfold c_Port_look at hf
  refine cb_aload_n 1 0 h dX8_look_0 rfl rfl rfl ?_
  refine gf_X8_46 4 h dX8_look_1 rfl hj ?_
  obtain ⟨t1, e2, hf⟩ := cb_let_o hf
  refine cb_istore_n (lv' := [(1, .int t1), (0, .ref (a j))]) 5 h dX8_look_4 rfl rfl e2 (Nat.le_of_ble_eq_true rfl) rfl ?_
  refine cb_aload_n 6 1 h dX8_look_5 rfl rfl rfl ?_
  refine cb_aload_n 7 1 h dX8_look_6 rfl rfl rfl ?_
  obtain ⟨c3, ec3, hf⟩ := cb_bo_o hf
  refine cl_X8_68 10 h dX8_look_7 rfl hj (ct_Port_holds hj ec3) ⟨rfl, rfl, Nat.le_of_ble_eq_true rfl, Nat.le_of_ble_eq_true rfl⟩ rfl (Nat.le_of_ble_eq_true rfl) ?_
  obtain ⟨g4, hf⟩ := cb_gd_o hf
  obtain ⟨σ5, e6, hf⟩ := cb_let_o hf
  refine pf_X8_46 13 h dX8_look_10 rfl hj g4 e6 ?_
  refine cb_aload_n 14 1 h dX8_look_13 rfl rfl rfl ?_
  refine gf_X8_46 17 h dX8_look_14 rfl hj ?_
  refine cb_if_eq 28 20 h dX8_look_17 rfl rfl (fun q7 => ?_) (fun q7 => ?_)
  · have hf := cb_it q7 hf
    exact cb_retV (Wf := WC a ca) h dX8_look_28 he hf
  · have hf := cb_if q7 hf
    refine cb_iload_n 21 0 h dX8_look_20 rfl rfl rfl ?_
    refine cb_if_ne 28 24 h dX8_look_21 rfl rfl (fun q8 => ?_) (fun q8 => ?_)
    · have hf := cb_if q8 hf
      exact cb_retV (Wf := WC a ca) h dX8_look_28 he hf
    · have hf := cb_it q8 hf
      refine cb_aload_n 25 1 h dX8_look_24 rfl rfl rfl ?_
      obtain ⟨σc9, ec9, hf⟩ := cb_bo_o hf
      refine cl_X8_65 28 h dX8_look_25 rfl hj (ct_Device_request (cb_Port_Device hj) ec9) ⟨rfl, rfl, Nat.le_of_ble_eq_true rfl, Nat.le_of_ble_eq_true rfl⟩ rfl (Nat.le_of_ble_eq_true rfl) ?_
      exact cb_retV (Wf := WC a ca) h dX8_look_28 he hf
set_option maxRecDepth 100000 in
set_option maxHeartbeats 4000000 in
theorem ct_Port_takeControl {l : Launch} {D : va_G} {a : Nat → Nat} {ca : Nat → ClassId} {j : Nat} {σ σ' : cb_S} {v1 : Int32} (hj : cb_isPort j) (hf : c_Port_takeControl j σ v1 = some σ') : cb_C l yX8_takeControl cX8_takeControl 2 none { frames := 2, cells := 0, slots := 0, locals := 43 } D (EC ca) (adC a) [.ref (a j), .int v1] (WC a ca σ) none (WC a ca σ') := by
  refine cb_mk [(0, .ref (a j)), (1, .int v1)] (by decide) (Nat.le_of_ble_eq_true rfl) rfl (fun X h he => ?_) goodC
  have h : cb_ok X cX8_takeControl RX8 (EC ca) 2 43 2 := h
  unfold c_Port_takeControl at hf
  have j59 : ∀ (σ : cb_S), c_Port_takeControl_L59 j v1 σ = some σ' → cb_V X (WC a ca σ) 59 [(0, .ref (a j))] [] := by
    intro σ hf
    unfold c_Port_takeControl_L59 at hf
    refine cb_aload_n 60 0 h dX8_takeControl_59 rfl rfl rfl ?_
    obtain ⟨σc1, ec1, hf⟩ := cb_bo_o hf
    refine cl_X8_56 63 h dX8_takeControl_60 rfl hj (ct_Port_look hj ec1) ⟨rfl, rfl, Nat.le_of_ble_eq_true rfl, Nat.le_of_ble_eq_true rfl⟩ rfl (Nat.le_of_ble_eq_true rfl) ?_
    exact cb_retV (Wf := WC a ca) h dX8_takeControl_63 he hf
  refine cb_aload_n 1 0 h dX8_takeControl_0 rfl rfl rfl ?_
  refine gf_X8_40 4 h dX8_takeControl_1 rfl hj ?_
  refine cb_if_eq 20 7 h dX8_takeControl_4 rfl rfl (fun q2 => ?_) (fun q2 => ?_)
  · have hf := cb_it q2 hf
    refine cb_aload_n 21 0 h dX8_takeControl_20 rfl rfl rfl ?_
    refine gf_X8_43 24 h dX8_takeControl_21 rfl hj ?_
    refine cb_if_eq 40 27 h dX8_takeControl_24 rfl rfl (fun q3 => ?_) (fun q3 => ?_)
    · have hf := cb_it q3 hf
      refine cb_iload_n 41 1 h dX8_takeControl_40 rfl rfl rfl ?_
      refine cb_iconst 42 h dX8_takeControl_41 rfl kc_1 ?_
      refine cb_iand 43 h dX8_takeControl_42 rfl ?_
      refine cb_if_ne 54 46 h dX8_takeControl_43 rfl rfl (fun q4 => ?_) (fun q4 => ?_)
      · have hf := cb_if q4 hf
        refine cb_aload_n 55 0 h dX8_takeControl_54 rfl rfl rfl ?_
        refine cb_iload_n 56 1 h dX8_takeControl_55 rfl rfl rfl ?_
        obtain ⟨σc5, ec5, hf⟩ := cb_bo_o hf
        refine cl_X8_52 59 h dX8_takeControl_56 rfl hj (ct_Port_takeCommand hj ec5) ⟨rfl, rfl, Nat.le_of_ble_eq_true rfl, Nat.le_of_ble_eq_true rfl⟩ rfl (Nat.le_of_ble_eq_true rfl) ?_
        exact cb_lv [0] rfl (j59 _ hf)
      · have hf := cb_it q4 hf
        refine cb_aload_n 47 0 h dX8_takeControl_46 rfl rfl rfl ?_
        refine cb_iload_n 48 1 h dX8_takeControl_47 rfl rfl rfl ?_
        obtain ⟨σ6, e7, hf⟩ := cb_let_o hf
        refine pf_X8_49 51 h dX8_takeControl_48 rfl hj e7 ?_
        refine cb_goto 59 h dX8_takeControl_51 rfl ?_
        exact cb_lv [0] rfl (j59 _ hf)
    · have hf := cb_if q3 hf
      refine cb_aload_n 28 0 h dX8_takeControl_27 rfl rfl rfl ?_
      refine cb_iload_n 29 1 h dX8_takeControl_28 rfl rfl rfl ?_
      obtain ⟨σ8, e9, hf⟩ := cb_let_o hf
      refine pf_X8_31 32 h dX8_takeControl_29 rfl hj e9 ?_
      refine cb_aload_n 33 0 h dX8_takeControl_32 rfl rfl rfl ?_
      refine cb_iconst 34 h dX8_takeControl_33 rfl kc_0 ?_
      obtain ⟨σ10, e11, hf⟩ := cb_let_o hf
      refine pf_X8_43 37 h dX8_takeControl_34 rfl hj cb_01_0 e11 ?_
      refine cb_goto 59 h dX8_takeControl_37 rfl ?_
      exact cb_lv [0] rfl (j59 _ hf)
  · have hf := cb_if q2 hf
    refine cb_aload_n 8 0 h dX8_takeControl_7 rfl rfl rfl ?_
    refine cb_iload_n 9 1 h dX8_takeControl_8 rfl rfl rfl ?_
    obtain ⟨σ12, e13, hf⟩ := cb_let_o hf
    refine pf_X8_28 12 h dX8_takeControl_9 rfl hj e13 ?_
    refine cb_aload_n 13 0 h dX8_takeControl_12 rfl rfl rfl ?_
    refine cb_iconst 14 h dX8_takeControl_13 rfl kc_0 ?_
    obtain ⟨σ14, e15, hf⟩ := cb_let_o hf
    refine pf_X8_40 17 h dX8_takeControl_14 rfl hj cb_01_0 e15 ?_
    refine cb_goto 59 h dX8_takeControl_17 rfl ?_
    exact cb_lv [0] rfl (j59 _ hf)
set_option maxRecDepth 100000 in
set_option maxHeartbeats 4000000 in
theorem ct_Chain_output {l : Launch} {D : va_G} {a : Nat → Nat} {ca : Nat → ClassId} {σ σ' : cb_S} {v1 v2 : Int32} (hf : c_Chain_output σ v1 v2 = some σ') : cb_C l yX3_output cX3_output 3 none { frames := 3, cells := 0, slots := 0, locals := 64 } D (EC ca) (adC a) [.ref (a 2), .int v1, .int v2] (WC a ca σ) none (WC a ca σ') := by
  refine cb_mk [(0, .ref (a 2)), (1, .int v1), (2, .int v2)] (by decide) (Nat.le_of_ble_eq_true rfl) rfl (fun X h he => ?_) goodC
  have h : cb_ok X cX3_output RX3 (EC ca) 3 64 3 := h
  unfold c_Chain_output at hf
  refine cb_iload_n 1 1 h dX3_output_0 rfl rfl rfl ?_
  by_cases q1 : v1 = 0
  · have hf := cb_it q1 hf
    refine cb_tabI 40 h dX3_output_1 q1 (by decide) (by decide) rfl rfl ?_
    refine cb_aload_n 41 0 h dX3_output_40 rfl rfl rfl ?_
    refine cb_aload_n 42 0 h dX3_output_41 rfl rfl rfl ?_
    refine gf_X3_12 45 h dX3_output_42 rfl ?_
    refine cb_iload_n 46 2 h dX3_output_45 rfl rfl rfl ?_
    obtain ⟨σc2, ec2, hf⟩ := cb_bo_o hf
    refine cl_X3_53 49 h dX3_output_46 rfl (ct_Chain_toChannel channel_6 ec2) ⟨rfl, rfl, Nat.le_of_ble_eq_true rfl, Nat.le_of_ble_eq_true rfl⟩ rfl (Nat.le_of_ble_eq_true rfl) ?_
    refine cb_goto 108 h dX3_output_49 rfl ?_
    exact cb_retV (Wf := WC a ca) h dX3_output_108 he hf
  have hf := cb_if q1 hf
  by_cases q3 : v1 = 1
  · have hf := cb_it q3 hf
    refine cb_tabI 52 h dX3_output_1 q3 (by decide) (by decide) rfl rfl ?_
    refine cb_aload_n 53 0 h dX3_output_52 rfl rfl rfl ?_
    refine cb_aload_n 54 0 h dX3_output_53 rfl rfl rfl ?_
    refine gf_X3_18 57 h dX3_output_54 rfl ?_
    refine cb_iload_n 58 2 h dX3_output_57 rfl rfl rfl ?_
    obtain ⟨σc4, ec4, hf⟩ := cb_bo_o hf
    refine cl_X3_53 61 h dX3_output_58 rfl (ct_Chain_toChannel channel_7 ec4) ⟨rfl, rfl, Nat.le_of_ble_eq_true rfl, Nat.le_of_ble_eq_true rfl⟩ rfl (Nat.le_of_ble_eq_true rfl) ?_
    refine cb_goto 108 h dX3_output_61 rfl ?_
    exact cb_retV (Wf := WC a ca) h dX3_output_108 he hf
  have hf := cb_if q3 hf
  by_cases q5 : v1 = 2
  · have hf := cb_it q5 hf
    refine cb_tabI 64 h dX3_output_1 q5 (by decide) (by decide) rfl rfl ?_
    refine cb_aload_n 65 0 h dX3_output_64 rfl rfl rfl ?_
    refine gf_X3_24 68 h dX3_output_65 rfl ?_
    refine cb_iload_n 69 2 h dX3_output_68 rfl rfl rfl ?_
    obtain ⟨σc6, ec6, hf⟩ := cb_bo_o hf
    refine cl_X3_57 72 h dX3_output_69 rfl port_8 (ct_Port_takeData port_8 ec6) ⟨rfl, rfl, Nat.le_of_ble_eq_true rfl, Nat.le_of_ble_eq_true rfl⟩ rfl (Nat.le_of_ble_eq_true rfl) ?_
    refine cb_goto 108 h dX3_output_72 rfl ?_
    exact cb_retV (Wf := WC a ca) h dX3_output_108 he hf
  have hf := cb_if q5 hf
  by_cases q7 : v1 = 3
  · have hf := cb_it q7 hf
    refine cb_tabI 75 h dX3_output_1 q7 (by decide) (by decide) rfl rfl ?_
    refine cb_aload_n 76 0 h dX3_output_75 rfl rfl rfl ?_
    refine gf_X3_24 79 h dX3_output_76 rfl ?_
    refine cb_iload_n 80 2 h dX3_output_79 rfl rfl rfl ?_
    obtain ⟨σc8, ec8, hf⟩ := cb_bo_o hf
    refine cl_X3_60 83 h dX3_output_80 rfl port_8 (ct_Port_takeControl port_8 ec8) ⟨rfl, rfl, Nat.le_of_ble_eq_true rfl, Nat.le_of_ble_eq_true rfl⟩ rfl (Nat.le_of_ble_eq_true rfl) ?_
    refine cb_goto 108 h dX3_output_83 rfl ?_
    exact cb_retV (Wf := WC a ca) h dX3_output_108 he hf
  have hf := cb_if q7 hf
  by_cases q9 : v1 = 4
  · have hf := cb_it q9 hf
    refine cb_tabI 86 h dX3_output_1 q9 (by decide) (by decide) rfl rfl ?_
    refine cb_aload_n 87 0 h dX3_output_86 rfl rfl rfl ?_
    refine gf_X3_28 90 h dX3_output_87 rfl ?_
    refine cb_iload_n 91 2 h dX3_output_90 rfl rfl rfl ?_
    obtain ⟨σc10, ec10, hf⟩ := cb_bo_o hf
    refine cl_X3_57 94 h dX3_output_91 rfl port_9 (ct_Port_takeData port_9 ec10) ⟨rfl, rfl, Nat.le_of_ble_eq_true rfl, Nat.le_of_ble_eq_true rfl⟩ rfl (Nat.le_of_ble_eq_true rfl) ?_
    refine cb_goto 108 h dX3_output_94 rfl ?_
    exact cb_retV (Wf := WC a ca) h dX3_output_108 he hf
  have hf := cb_if q9 hf
  by_cases q11 : v1 = 5
  · have hf := cb_it q11 hf
    refine cb_tabI 97 h dX3_output_1 q11 (by decide) (by decide) rfl rfl ?_
    refine cb_aload_n 98 0 h dX3_output_97 rfl rfl rfl ?_
    refine gf_X3_28 101 h dX3_output_98 rfl ?_
    refine cb_iload_n 102 2 h dX3_output_101 rfl rfl rfl ?_
    obtain ⟨σc12, ec12, hf⟩ := cb_bo_o hf
    refine cl_X3_60 105 h dX3_output_102 rfl port_9 (ct_Port_takeControl port_9 ec12) ⟨rfl, rfl, Nat.le_of_ble_eq_true rfl, Nat.le_of_ble_eq_true rfl⟩ rfl (Nat.le_of_ble_eq_true rfl) ?_
    refine cb_goto 108 h dX3_output_105 rfl ?_
    exact cb_retV (Wf := WC a ca) h dX3_output_108 he hf
  have hf := cb_if q11 hf
  refine cb_tabO 108 h dX3_output_1 (by have t0 := lv_neT (a := 0) q1 (by decide); have t1 := lv_neT (a := 1) q3 (by decide); have t2 := lv_neT (a := 2) q5 (by decide); have t3 := lv_neT (a := 3) q7 (by decide); have t4 := lv_neT (a := 4) q9 (by decide); have t5 := lv_neT (a := 5) q11 (by decide); omega) rfl ?_
  exact cb_retV (Wf := WC a ca) h dX3_output_108 he hf
