set_option maxRecDepth 100000 in
set_option maxHeartbeats 4000000 in
theorem mt_setFlag {l : Launch} {D : va_G} {a : Nat → Nat} {ca : Nat → ClassId} {σ σ' : cb_S} {v1 v2 : Int32} (hf : m_setFlag σ v1 v2 = some σ') : cb_C l yX12_setFlag cX12_setFlag 3 none { frames := 0, cells := 0, slots := 0, locals := 0 } D (EM ca) (adM a) [.ref (a 0), .int v1, .int v2] (WM a ca σ) none (WM a ca σ') := by
  refine cb_mk [(0, .ref (a 0)), (1, .int v1), (2, .int v2)] (by decide) (Nat.le_of_ble_eq_true rfl) rfl (fun X h he => ?_) goodM
  have h : cb_ok X cX12_setFlag RX12 (EM ca) 0 0 3 := h
  unfold m_setFlag at hf
  refine cb_aload_n 1 0 h dX12_setFlag_0 rfl rfl rfl ?_
  refine gf_X12_13 4 h dX12_setFlag_1 rfl ?_
  refine cb_bipush 6 h dX12_setFlag_4 rfl kb_6 ?_
  refine cb_iload_n 7 2 h dX12_setFlag_6 rfl rfl rfl ?_
  refine cb_cut (cb_V X (WM a ca σ) 33 [(0, .ref (a 0)), (1, .int v1), (2, .int v2)] [.int (if v2 = 0 then ((σ 2 6) &&& (v1 ^^^ (-1 : Int32))) else ((σ 2 6) ||| v1)), .int (6 : Int32), .ref (a 2)]) (fun jj => ?_) ?_
  · refine cb_if_eq 22 10 h dX12_setFlag_7 rfl rfl (fun q1 => ?_) (fun q1 => ?_)
    · refine cb_aload_n 23 0 h dX12_setFlag_22 rfl rfl rfl ?_
      refine gf_X12_13 26 h dX12_setFlag_23 rfl ?_
      refine cb_bipush 28 h dX12_setFlag_26 rfl kb_6 ?_
      refine laM_2 29 h dX12_setFlag_28 rfl vi_6_16 tk_6 ?_
      refine cb_iload_n 30 1 h dX12_setFlag_29 rfl rfl rfl ?_
      refine cb_iconst 31 h dX12_setFlag_30 rfl kc_m1 ?_
      refine cb_ixor 32 h dX12_setFlag_31 rfl ?_
      refine cb_iand 33 h dX12_setFlag_32 rfl ?_
      exact (cb_tt q1 jj)
    · refine cb_aload_n 11 0 h dX12_setFlag_10 rfl rfl rfl ?_
      refine gf_X12_13 14 h dX12_setFlag_11 rfl ?_
      refine cb_bipush 16 h dX12_setFlag_14 rfl kb_6 ?_
      refine laM_2 17 h dX12_setFlag_16 rfl vi_6_16 tk_6 ?_
      refine cb_iload_n 18 1 h dX12_setFlag_17 rfl rfl rfl ?_
      refine cb_ior 19 h dX12_setFlag_18 rfl ?_
      refine cb_goto 33 h dX12_setFlag_19 rfl ?_
      exact (cb_tf q1 jj)
  obtain ⟨σ2, e3, hf⟩ := cb_let_o hf
  refine saM_2 34 h dX12_setFlag_33 rfl vi_6_16 tk_6 e3 ?_
  exact cb_retV (Wf := WM a ca) h dX12_setFlag_34 he hf
set_option maxRecDepth 100000 in
set_option maxHeartbeats 4000000 in
theorem mt_wideSum {l : Launch} {D : va_G} {a : Nat → Nat} {ca : Nat → ClassId} {N : Nat} {σ σ' : cb_S} {v1 : Int32} (hf : m_wideSum N σ v1 = some σ') : cb_C l yX12_wideSum cX12_wideSum 3 none { frames := 1, cells := 0, slots := 0, locals := 28 } D (EM ca) (adM a) [.ref (a 0), .int v1] (WM a ca σ) none (WM a ca σ') := by
  refine cb_mk [(0, .ref (a 0)), (1, .int v1)] (by decide) (Nat.le_of_ble_eq_true rfl) rfl (fun X h he => ?_) goodM
  have h : cb_ok X cX12_wideSum RX12 (EM ca) 1 28 3 := h
  unfold m_wideSum at hf
  refine cb_aload_n 1 0 h dX12_wideSum_0 rfl rfl rfl ?_
  refine cb_aload_n 2 0 h dX12_wideSum_1 rfl rfl rfl ?_
  refine cb_iconst 3 h dX12_wideSum_2 rfl kc_4 ?_
  obtain ⟨c1, ec1, hf⟩ := cb_bo_o hf
  refine cl_X12_109 6 h dX12_wideSum_3 rfl (mt_pair ec1) ⟨rfl, rfl, Nat.le_of_ble_eq_true rfl, Nat.le_of_ble_eq_true rfl⟩ rfl (Nat.le_of_ble_eq_true rfl) ?_
  refine cb_iload_n 7 1 h dX12_wideSum_6 rfl rfl rfl ?_
  refine cb_iconst 8 h dX12_wideSum_7 rfl kc_0 ?_
  refine cb_bipush 10 h dX12_wideSum_8 rfl kb_16 ?_
  obtain ⟨c2, σc2, ec2, hf⟩ := cb_b2_o hf
  refine cl_X12_135 13 h dX12_wideSum_10 rfl (mt_add ec2) ⟨rfl, rfl, Nat.le_of_ble_eq_true rfl, Nat.le_of_ble_eq_true rfl⟩ rfl (Nat.le_of_ble_eq_true rfl) ?_
  refine cb_istore_n (lv' := [(2, .int c2), (0, .ref (a 0)), (1, .int v1)]) 14 h dX12_wideSum_13 rfl rfl rfl (Nat.le_of_ble_eq_true rfl) rfl ?_
  refine cb_aload_n 15 1 h dX12_wideSum_14 rfl rfl rfl ?_
  refine cb_bipush 17 h dX12_wideSum_15 rfl kb_16 ?_
  refine cb_aload_n 18 1 h dX12_wideSum_17 rfl rfl rfl ?_
  refine gf_X12_129 21 h dX12_wideSum_18 rfl ?_
  obtain ⟨σc3, ec3, hf⟩ := cb_bo_o hf
  refine cl_X12_139 24 h dX12_wideSum_21 rfl (mt_setFlag ec3) ⟨rfl, rfl, Nat.le_of_ble_eq_true rfl, Nat.le_of_ble_eq_true rfl⟩ rfl (Nat.le_of_ble_eq_true rfl) ?_
  refine cb_aload_n 25 1 h dX12_wideSum_24 rfl rfl rfl ?_
  refine cb_iconst 26 h dX12_wideSum_25 rfl kc_2 ?_
  refine cb_iconst 27 h dX12_wideSum_26 rfl kc_0 ?_
  obtain ⟨σc4, ec4, hf⟩ := cb_bo_o hf
  refine cl_X12_139 30 h dX12_wideSum_27 rfl (mt_setFlag ec4) ⟨rfl, rfl, Nat.le_of_ble_eq_true rfl, Nat.le_of_ble_eq_true rfl⟩ rfl (Nat.le_of_ble_eq_true rfl) ?_
  refine cb_aload_n 31 1 h dX12_wideSum_30 rfl rfl rfl ?_
  refine cb_iconst 32 h dX12_wideSum_31 rfl kc_1 ?_
  refine cb_aload_n 33 1 h dX12_wideSum_32 rfl rfl rfl ?_
  refine gf_X12_132 36 h dX12_wideSum_33 rfl ?_
  obtain ⟨σc5, ec5, hf⟩ := cb_bo_o hf
  refine cl_X12_139 39 h dX12_wideSum_36 rfl (mt_setFlag ec5) ⟨rfl, rfl, Nat.le_of_ble_eq_true rfl, Nat.le_of_ble_eq_true rfl⟩ rfl (Nat.le_of_ble_eq_true rfl) ?_
  refine cb_aload_n 40 1 h dX12_wideSum_39 rfl rfl rfl ?_
  refine cb_iconst 41 h dX12_wideSum_40 rfl kc_4 ?_
  refine cb_iload_n 42 0 h dX12_wideSum_41 rfl rfl rfl ?_
  obtain ⟨σc6, ec6, hf⟩ := cb_bo_o hf
  refine cl_X12_112 45 h dX12_wideSum_42 rfl (mt_putPair ec6) ⟨rfl, rfl, Nat.le_of_ble_eq_true rfl, Nat.le_of_ble_eq_true rfl⟩ rfl (Nat.le_of_ble_eq_true rfl) ?_
  exact cb_retV (Wf := WM a ca) h dX12_wideSum_45 he hf
set_option maxRecDepth 100000 in
set_option maxHeartbeats 4000000 in
theorem mt_putByte {l : Launch} {D : va_G} {a : Nat → Nat} {ca : Nat → ClassId} {σ σ' : cb_S} {v1 v2 : Int32} (hf : m_putByte σ v1 v2 = some σ') : cb_C l yX12_putByte cX12_putByte 3 none { frames := 0, cells := 0, slots := 0, locals := 0 } D (EM ca) (adM a) [.ref (a 0), .int v1, .int v2] (WM a ca σ) none (WM a ca σ') := by
  refine cb_mk [(0, .ref (a 0)), (1, .int v1), (2, .int v2)] (by decide) (Nat.le_of_ble_eq_true rfl) rfl (fun X h he => ?_) goodM
  have h : cb_ok X cX12_putByte RX12 (EM ca) 0 0 3 := h
  unfold m_putByte at hf
  refine cb_aload_n 1 0 h dX12_putByte_0 rfl rfl rfl ?_
  refine gf_X12_7 4 h dX12_putByte_1 rfl ?_
  refine cb_iload_n 5 1 h dX12_putByte_4 rfl rfl rfl ?_
  refine cb_sipush 8 h dX12_putByte_5 rfl ks_1023 ?_
  refine cb_iand 9 h dX12_putByte_8 rfl ?_
  refine cb_iload_n 10 2 h dX12_putByte_9 rfl rfl rfl ?_
  refine cb_sipush 13 h dX12_putByte_10 rfl ks_255 ?_
  refine cb_iand 14 h dX12_putByte_13 rfl ?_
  obtain ⟨σ1, e2, hf⟩ := cb_let_o hf
  refine saM_1 15 h dX12_putByte_14 rfl (vm_1023 _) rfl e2 ?_
  exact cb_retV (Wf := WM a ca) h dX12_putByte_15 he hf
set_option maxRecDepth 100000 in
set_option maxHeartbeats 4000000 in
theorem mt_putWord {l : Launch} {D : va_G} {a : Nat → Nat} {ca : Nat → ClassId} {σ σ' : cb_S} {v1 v2 : Int32} (hf : m_putWord σ v1 v2 = some σ') : cb_C l yX12_putWord cX12_putWord 3 none { frames := 1, cells := 0, slots := 0, locals := 22 } D (EM ca) (adM a) [.ref (a 0), .int v1, .int v2] (WM a ca σ) none (WM a ca σ') := by
  refine cb_mk [(0, .ref (a 0)), (1, .int v1), (2, .int v2)] (by decide) (Nat.le_of_ble_eq_true rfl) rfl (fun X h he => ?_) goodM
  have h : cb_ok X cX12_putWord RX12 (EM ca) 1 22 3 := h
  unfold m_putWord at hf
  refine cb_aload_n 1 0 h dX12_putWord_0 rfl rfl rfl ?_
  refine cb_iload_n 2 1 h dX12_putWord_1 rfl rfl rfl ?_
  refine cb_iload_n 3 2 h dX12_putWord_2 rfl rfl rfl ?_
  obtain ⟨σc1, ec1, hf⟩ := cb_bo_o hf
  refine cl_X12_98 6 h dX12_putWord_3 rfl (mt_putByte ec1) ⟨rfl, rfl, Nat.le_of_ble_eq_true rfl, Nat.le_of_ble_eq_true rfl⟩ rfl (Nat.le_of_ble_eq_true rfl) ?_
  refine cb_aload_n 7 0 h dX12_putWord_6 rfl rfl rfl ?_
  refine cb_iload_n 8 1 h dX12_putWord_7 rfl rfl rfl ?_
  refine cb_iconst 9 h dX12_putWord_8 rfl kc_1 ?_
  refine cb_iadd 10 h dX12_putWord_9 rfl ?_
  refine cb_iload_n 11 2 h dX12_putWord_10 rfl rfl rfl ?_
  refine cb_bipush 13 h dX12_putWord_11 rfl kb_8 ?_
  refine cb_ishr 14 h dX12_putWord_13 rfl ?_
  obtain ⟨σc2, ec2, hf⟩ := cb_bo_o hf
  refine cl_X12_98 17 h dX12_putWord_14 rfl (mt_putByte ec2) ⟨rfl, rfl, Nat.le_of_ble_eq_true rfl, Nat.le_of_ble_eq_true rfl⟩ rfl (Nat.le_of_ble_eq_true rfl) ?_
  exact cb_retV (Wf := WM a ca) h dX12_putWord_17 he hf
set_option maxRecDepth 100000 in
set_option maxHeartbeats 4000000 in
theorem mt_wordAt {l : Launch} {D : va_G} {a : Nat → Nat} {ca : Nat → ClassId} {σ : cb_S} {v1 : Int32} {r : Int32} (hf : m_wordAt σ v1 = some r) : cb_C l yX12_wordAt cX12_wordAt 2 (some .int) { frames := 1, cells := 0, slots := 0, locals := 21 } D (EM ca) (adM a) [.ref (a 0), .int v1] (WM a ca σ) (some (.int r)) (WM a ca σ) := by
  refine cb_mk [(0, .ref (a 0)), (1, .int v1)] (by decide) (Nat.le_of_ble_eq_true rfl) rfl (fun X h he => ?_) goodM
  have h : cb_ok X cX12_wordAt RX12 (EM ca) 1 21 2 := h
  unfold m_wordAt at hf
  refine cb_aload_n 1 0 h dX12_wordAt_0 rfl rfl rfl ?_
  refine cb_iload_n 2 1 h dX12_wordAt_1 rfl rfl rfl ?_
  obtain ⟨c1, ec1, hf⟩ := cb_bo_o hf
  refine cl_X12_94 5 h dX12_wordAt_2 rfl (mt_byteAt ec1) ⟨rfl, rfl, Nat.le_of_ble_eq_true rfl, Nat.le_of_ble_eq_true rfl⟩ rfl (Nat.le_of_ble_eq_true rfl) ?_
  refine cb_sipush 8 h dX12_wordAt_5 rfl ks_256 ?_
  refine cb_aload_n 9 0 h dX12_wordAt_8 rfl rfl rfl ?_
  refine cb_iload_n 10 1 h dX12_wordAt_9 rfl rfl rfl ?_
  refine cb_iconst 11 h dX12_wordAt_10 rfl kc_1 ?_
  refine cb_iadd 12 h dX12_wordAt_11 rfl ?_
  obtain ⟨c2, ec2, hf⟩ := cb_bo_o hf
  refine cl_X12_94 15 h dX12_wordAt_12 rfl (mt_byteAt ec2) ⟨rfl, rfl, Nat.le_of_ble_eq_true rfl, Nat.le_of_ble_eq_true rfl⟩ rfl (Nat.le_of_ble_eq_true rfl) ?_
  refine cb_imul 16 h dX12_wordAt_15 rfl ?_
  refine cb_iadd 17 h dX12_wordAt_16 rfl ?_
  exact cb_retJ h dX12_wordAt_17 he hf
set_option maxRecDepth 100000 in
set_option maxHeartbeats 4000000 in
theorem mt_stores {l : Launch} {D : va_G} {a : Nat → Nat} {ca : Nat → ClassId} {σ σ' : cb_S} {v1 : Int32} {r : Int32} (hf : m_stores σ v1 = some (r, σ')) : cb_C l yX12_stores cX12_stores 3 (some .int) { frames := 3, cells := 0, slots := 0, locals := 63 } D (EM ca) (adM a) [.ref (a 0), .int v1] (WM a ca σ) (some (.int r)) (WM a ca σ') := by
  refine cb_mk [(0, .ref (a 0)), (1, .int v1)] (by decide) (Nat.le_of_ble_eq_true rfl) rfl (fun X h he => ?_) goodM
  have h : cb_ok X cX12_stores RX12 (EM ca) 3 63 3 := h
  unfold m_stores at hf
  have j130 : ∀ (σ : cb_S), m_stores_L130 v1 σ = some (r, σ') → cb_V X (WM a ca σ) 130 [(1, .int v1)] [] := by
    intro σ hf
    unfold m_stores_L130 at hf
    refine cb_iload_n 131 0 h dX12_stores_130 rfl rfl rfl ?_
    refine cb_bipush 133 h dX12_stores_131 rfl kb_6 ?_
    refine cb_cut (cb_V X (WM a ca σ) 143 [(1, .int v1)] [.int (if (6 : Int32) ≤ v1 then (13 : Int32) else (16 : Int32))]) (fun jj => ?_) ?_
    · refine cb_icmp_ge 141 136 h dX12_stores_133 rfl rfl (fun q1 => ?_) (fun q1 => ?_)
      · refine cb_bipush 143 h dX12_stores_141 rfl kb_13 ?_
        exact (cb_tt q1 jj)
      · refine cb_bipush 138 h dX12_stores_136 rfl kb_16 ?_
        refine cb_goto 143 h dX12_stores_138 rfl ?_
        exact (cb_tf q1 jj)
    exact cb_retI (Wf := WM a ca) h dX12_stores_143 he hf
  refine cb_iload_n 1 1 h dX12_stores_0 rfl rfl rfl ?_
  refine cb_iconst 2 h dX12_stores_1 rfl kc_4 ?_
  refine cb_icmp_ge 56 5 h dX12_stores_2 rfl rfl (fun q2 => ?_) (fun q2 => ?_)
  · have hf := cb_it q2 hf
    refine cb_aload_n 57 0 h dX12_stores_56 rfl rfl rfl ?_
    obtain ⟨c3, σc3, ec3, hf⟩ := cb_b2_o hf
    refine cl_X12_182 60 h dX12_stores_57 rfl (mt_nextWord ec3) ⟨rfl, rfl, Nat.le_of_ble_eq_true rfl, Nat.le_of_ble_eq_true rfl⟩ rfl (Nat.le_of_ble_eq_true rfl) ?_
    refine cb_istore_n (lv' := [(2, .int c3), (0, .ref (a 0)), (1, .int v1)]) 61 h dX12_stores_60 rfl rfl rfl (Nat.le_of_ble_eq_true rfl) rfl ?_
    refine cb_iload_n 62 2 h dX12_stores_61 rfl rfl rfl ?_
    refine cb_iconst 63 h dX12_stores_62 rfl kc_4 ?_
    refine cb_icmp_ne 79 66 h dX12_stores_63 rfl rfl (fun q4 => ?_) (fun q4 => ?_)
    · have hf := cb_if q4 hf
      refine cb_iload_n 80 2 h dX12_stores_79 rfl rfl rfl ?_
      refine cb_iconst 81 h dX12_stores_80 rfl kc_5 ?_
      refine cb_icmp_ne 97 84 h dX12_stores_81 rfl rfl (fun q5 => ?_) (fun q5 => ?_)
      · have hf := cb_if q5 hf
        refine cb_iload_n 98 2 h dX12_stores_97 rfl rfl rfl ?_
        refine cb_bipush 100 h dX12_stores_98 rfl kb_6 ?_
        refine cb_icmp_ne 118 103 h dX12_stores_100 rfl rfl (fun q6 => ?_) (fun q6 => ?_)
        · have hf := cb_if q6 hf
          refine cb_aload_n 119 1 h dX12_stores_118 rfl rfl rfl ?_
          refine gf_X12_13 122 h dX12_stores_119 rfl ?_
          refine cb_bipush 124 h dX12_stores_122 rfl kb_7 ?_
          refine cb_aload_n 125 1 h dX12_stores_124 rfl rfl rfl ?_
          refine cb_iload_n 126 0 h dX12_stores_125 rfl rfl rfl ?_
          obtain ⟨c7, ec7, hf⟩ := cb_bo_o hf
          refine cl_X12_94 129 h dX12_stores_126 rfl (mt_byteAt ec7) ⟨rfl, rfl, Nat.le_of_ble_eq_true rfl, Nat.le_of_ble_eq_true rfl⟩ rfl (Nat.le_of_ble_eq_true rfl) ?_
          obtain ⟨σ8, e9, hf⟩ := cb_let_o hf
          refine saM_2 130 h dX12_stores_129 rfl vi_7_16 tk_7 e9 ?_
          exact cb_lv [2] rfl (j130 _ hf)
        · have hf := cb_it q6 hf
          refine cb_aload_n 104 1 h dX12_stores_103 rfl rfl rfl ?_
          refine cb_iload_n 105 0 h dX12_stores_104 rfl rfl rfl ?_
          refine cb_aload_n 106 1 h dX12_stores_105 rfl rfl rfl ?_
          refine gf_X12_13 109 h dX12_stores_106 rfl ?_
          refine cb_bipush 111 h dX12_stores_109 rfl kb_7 ?_
          refine laM_2 112 h dX12_stores_111 rfl vi_7_16 tk_7 ?_
          obtain ⟨σc10, ec10, hf⟩ := cb_bo_o hf
          refine cl_X12_98 115 h dX12_stores_112 rfl (mt_putByte ec10) ⟨rfl, rfl, Nat.le_of_ble_eq_true rfl, Nat.le_of_ble_eq_true rfl⟩ rfl (Nat.le_of_ble_eq_true rfl) ?_
          refine cb_goto 130 h dX12_stores_115 rfl ?_
          exact cb_lv [2] rfl (j130 _ hf)
      · have hf := cb_it q5 hf
        refine cb_aload_n 85 1 h dX12_stores_84 rfl rfl rfl ?_
        refine cb_iconst 86 h dX12_stores_85 rfl kc_4 ?_
        refine cb_aload_n 87 1 h dX12_stores_86 rfl rfl rfl ?_
        refine cb_iload_n 88 0 h dX12_stores_87 rfl rfl rfl ?_
        obtain ⟨c11, ec11, hf⟩ := cb_bo_o hf
        refine cl_X12_118 91 h dX12_stores_88 rfl (mt_wordAt ec11) ⟨rfl, rfl, Nat.le_of_ble_eq_true rfl, Nat.le_of_ble_eq_true rfl⟩ rfl (Nat.le_of_ble_eq_true rfl) ?_
        obtain ⟨σc12, ec12, hf⟩ := cb_bo_o hf
        refine cl_X12_112 94 h dX12_stores_91 rfl (mt_putPair ec12) ⟨rfl, rfl, Nat.le_of_ble_eq_true rfl, Nat.le_of_ble_eq_true rfl⟩ rfl (Nat.le_of_ble_eq_true rfl) ?_
        refine cb_goto 130 h dX12_stores_94 rfl ?_
        exact cb_lv [2] rfl (j130 _ hf)
    · have hf := cb_it q4 hf
      refine cb_aload_n 67 1 h dX12_stores_66 rfl rfl rfl ?_
      refine cb_iload_n 68 0 h dX12_stores_67 rfl rfl rfl ?_
      refine cb_aload_n 69 1 h dX12_stores_68 rfl rfl rfl ?_
      refine cb_iconst 70 h dX12_stores_69 rfl kc_4 ?_
      obtain ⟨c13, ec13, hf⟩ := cb_bo_o hf
      refine cl_X12_109 73 h dX12_stores_70 rfl (mt_pair ec13) ⟨rfl, rfl, Nat.le_of_ble_eq_true rfl, Nat.le_of_ble_eq_true rfl⟩ rfl (Nat.le_of_ble_eq_true rfl) ?_
      obtain ⟨σc14, ec14, hf⟩ := cb_bo_o hf
      refine cl_X12_115 76 h dX12_stores_73 rfl (mt_putWord ec14) ⟨rfl, rfl, Nat.le_of_ble_eq_true rfl, Nat.le_of_ble_eq_true rfl⟩ rfl (Nat.le_of_ble_eq_true rfl) ?_
      refine cb_goto 130 h dX12_stores_76 rfl ?_
      exact cb_lv [2] rfl (j130 _ hf)
  · have hf := cb_if q2 hf
    refine cb_aload_n 6 0 h dX12_stores_5 rfl rfl rfl ?_
    refine cb_iload_n 7 1 h dX12_stores_6 rfl rfl rfl ?_
    refine cb_iconst 8 h dX12_stores_7 rfl kc_2 ?_
    refine cb_cut (cb_V X (WM a ca σ) 16 [(0, .ref (a 0)), (1, .int v1)] [.int (if (2 : Int32) ≤ v1 then (2 : Int32) else (0 : Int32)), .ref (a 0)]) (fun jj => ?_) ?_
    · refine cb_icmp_ge 15 11 h dX12_stores_8 rfl rfl (fun q15 => ?_) (fun q15 => ?_)
      · refine cb_iconst 16 h dX12_stores_15 rfl kc_2 ?_
        exact (cb_tt q15 jj)
      · refine cb_iconst 12 h dX12_stores_11 rfl kc_0 ?_
        refine cb_goto 16 h dX12_stores_12 rfl ?_
        exact (cb_tf q15 jj)
    obtain ⟨c16, ec16, hf⟩ := cb_bo_o hf
    refine cl_X12_109 19 h dX12_stores_16 rfl (mt_pair ec16) ⟨rfl, rfl, Nat.le_of_ble_eq_true rfl, Nat.le_of_ble_eq_true rfl⟩ rfl (Nat.le_of_ble_eq_true rfl) ?_
    refine cb_istore_n (lv' := [(2, .int c16), (0, .ref (a 0)), (1, .int v1)]) 20 h dX12_stores_19 rfl rfl rfl (Nat.le_of_ble_eq_true rfl) rfl ?_
    refine cb_iload_n 21 2 h dX12_stores_20 rfl rfl rfl ?_
    refine cb_iconst 22 h dX12_stores_21 rfl kc_1 ?_
    refine cb_iand 23 h dX12_stores_22 rfl ?_
    refine cb_if_ne 41 26 h dX12_stores_23 rfl rfl (fun q17 => ?_) (fun q17 => ?_)
    · have hf := cb_if q17 hf
      refine cb_aload_n 42 1 h dX12_stores_41 rfl rfl rfl ?_
      refine gf_X12_13 45 h dX12_stores_42 rfl ?_
      refine cb_bipush 47 h dX12_stores_45 rfl kb_7 ?_
      refine cb_aload_n 48 1 h dX12_stores_47 rfl rfl rfl ?_
      refine cb_iload_n 49 0 h dX12_stores_48 rfl rfl rfl ?_
      obtain ⟨c18, ec18, hf⟩ := cb_bo_o hf
      refine cl_X12_94 52 h dX12_stores_49 rfl (mt_byteAt ec18) ⟨rfl, rfl, Nat.le_of_ble_eq_true rfl, Nat.le_of_ble_eq_true rfl⟩ rfl (Nat.le_of_ble_eq_true rfl) ?_
      obtain ⟨σ19, e20, hf⟩ := cb_let_o hf
      refine saM_2 53 h dX12_stores_52 rfl vi_7_16 tk_7 e20 ?_
      refine cb_bipush 55 h dX12_stores_53 rfl kb_7 ?_
      exact cb_retI (Wf := WM a ca) h dX12_stores_55 he hf
    · have hf := cb_it q17 hf
      refine cb_aload_n 27 1 h dX12_stores_26 rfl rfl rfl ?_
      refine cb_iload_n 28 0 h dX12_stores_27 rfl rfl rfl ?_
      refine cb_aload_n 29 1 h dX12_stores_28 rfl rfl rfl ?_
      refine gf_X12_13 32 h dX12_stores_29 rfl ?_
      refine cb_bipush 34 h dX12_stores_32 rfl kb_7 ?_
      refine laM_2 35 h dX12_stores_34 rfl vi_7_16 tk_7 ?_
      obtain ⟨σc21, ec21, hf⟩ := cb_bo_o hf
      refine cl_X12_98 38 h dX12_stores_35 rfl (mt_putByte ec21) ⟨rfl, rfl, Nat.le_of_ble_eq_true rfl, Nat.le_of_ble_eq_true rfl⟩ rfl (Nat.le_of_ble_eq_true rfl) ?_
      refine cb_goto 53 h dX12_stores_38 rfl ?_
      refine cb_bipush 55 h dX12_stores_53 rfl kb_7 ?_
      exact cb_retI (Wf := WM a ca) h dX12_stores_55 he hf
set_option maxRecDepth 100000 in
set_option maxHeartbeats 4000000 in
theorem mt_get {l : Launch} {D : va_G} {a : Nat → Nat} {ca : Nat → ClassId} {σ : cb_S} {v1 : Int32} {r : Int32} (hf : m_get σ v1 = some r) : cb_C l yX12_get cX12_get 2 (some .int) { frames := 1, cells := 0, slots := 0, locals := 21 } D (EM ca) (adM a) [.ref (a 0), .int v1] (WM a ca σ) (some (.int r)) (WM a ca σ) := by
  refine cb_mk [(0, .ref (a 0)), (1, .int v1)] (by decide) (Nat.le_of_ble_eq_true rfl) rfl (fun X h he => ?_) goodM
  have h : cb_ok X cX12_get RX12 (EM ca) 1 21 2 := h
  unfold m_get at hf
  refine cb_iload_n 1 1 h dX12_get_0 rfl rfl rfl ?_
  refine cb_bipush 3 h dX12_get_1 rfl kb_6 ?_
  refine cb_icmp_ne 18 6 h dX12_get_3 rfl rfl (fun q1 => ?_) (fun q1 => ?_)
  · have hf := cb_if q1 hf
    refine cb_aload_n 19 0 h dX12_get_18 rfl rfl rfl ?_
    refine gf_X12_13 22 h dX12_get_19 rfl ?_
    refine cb_iload_n 23 1 h dX12_get_22 rfl rfl rfl ?_
    obtain ⟨g2, hf⟩ := cb_gd_o hf
    refine laM_2 24 h dX12_get_23 rfl (cb_in_v g2) rfl ?_
    exact cb_retJ h dX12_get_24 he hf
  · have hf := cb_it q1 hf
    refine cb_aload_n 7 0 h dX12_get_6 rfl rfl rfl ?_
    refine cb_aload_n 8 0 h dX12_get_7 rfl rfl rfl ?_
    refine cb_iconst 9 h dX12_get_8 rfl kc_4 ?_
    obtain ⟨c3, ec3, hf⟩ := cb_bo_o hf
    refine cl_X12_109 12 h dX12_get_9 rfl (mt_pair ec3) ⟨rfl, rfl, Nat.le_of_ble_eq_true rfl, Nat.le_of_ble_eq_true rfl⟩ rfl (Nat.le_of_ble_eq_true rfl) ?_
    obtain ⟨c4, ec4, hf⟩ := cb_bo_o hf
    refine cl_X12_94 15 h dX12_get_12 rfl (mt_byteAt ec4) ⟨rfl, rfl, Nat.le_of_ble_eq_true rfl, Nat.le_of_ble_eq_true rfl⟩ rfl (Nat.le_of_ble_eq_true rfl) ?_
    refine cb_goto 24 h dX12_get_15 rfl ?_
    exact cb_retJ h dX12_get_24 he hf
set_option maxRecDepth 100000 in
set_option maxHeartbeats 4000000 in
theorem mt_subtract {l : Launch} {D : va_G} {a : Nat → Nat} {ca : Nat → ClassId} {N : Nat} {σ σ' : cb_S} {v1 v2 v3 v4 : Int32} {r : Int32} (hf : m_subtract N σ v1 v2 v3 v4 = some (r, σ')) : cb_C l yX12_subtract cX12_subtract 7 (some .int) { frames := 1, cells := 0, slots := 0, locals := 28 } D (EM ca) (adM a) [.ref (a 0), .int v1, .int v2, .int v3, .int v4] (WM a ca σ) (some (.int r)) (WM a ca σ') := by
  refine cb_mk [(0, .ref (a 0)), (1, .int v1), (2, .int v2), (3, .int v3), (4, .int v4)] (by decide) (Nat.le_of_ble_eq_true rfl) rfl (fun X h he => ?_) goodM
  have h : cb_ok X cX12_subtract RX12 (EM ca) 1 28 7 := h
  unfold m_subtract at hf
  refine cb_iconst 1 h dX12_subtract_0 rfl kc_1 ?_
  refine cb_iload 3 4 h dX12_subtract_1 rfl rfl ?_
  refine cb_ishl 4 h dX12_subtract_3 rfl ?_
  refine cb_iconst 5 h dX12_subtract_4 rfl kc_1 ?_
  refine cb_isub 6 h dX12_subtract_5 rfl ?_
  obtain ⟨t1, e2, hf⟩ := cb_let_o hf
  refine cb_istore (lv' := [(5, .int t1), (0, .ref (a 0)), (1, .int v1), (2, .int v2), (3, .int v3), (4, .int v4)]) 8 h dX12_subtract_6 rfl e2 (Nat.le_of_ble_eq_true rfl) rfl ?_
  refine cb_aload_n 9 1 h dX12_subtract_8 rfl rfl rfl ?_
  refine cb_iload_n 10 2 h dX12_subtract_9 rfl rfl rfl ?_
  refine cb_iload_n 11 3 h dX12_subtract_10 rfl rfl rfl ?_
  refine cb_iload 13 0 h dX12_subtract_11 rfl rfl ?_
  refine cb_ixor 14 h dX12_subtract_13 rfl ?_
  refine cb_iload_n 15 4 h dX12_subtract_14 rfl rfl rfl ?_
  refine cb_cut (cb_V X (WM a ca σ) 23 [(5, .int t1), (0, .ref (a 0)), (1, .int v1), (2, .int v2), (3, .int v3), (4, .int v4)] [.int (if v3 = 0 then (1 : Int32) else (0 : Int32)), .int (v2 ^^^ t1), .int v1, .ref (a 0)]) (fun jj => ?_) ?_
  · refine cb_if_ne 22 18 h dX12_subtract_15 rfl rfl (fun q3 => ?_) (fun q3 => ?_)
    · refine cb_iconst 23 h dX12_subtract_22 rfl kc_0 ?_
      exact (cb_tf q3 jj)
    · refine cb_iconst 19 h dX12_subtract_18 rfl kc_1 ?_
      refine cb_goto 23 h dX12_subtract_19 rfl ?_
      exact (cb_tt q3 jj)
  refine cb_iload 25 5 h dX12_subtract_23 rfl rfl ?_
  obtain ⟨c4, σc4, ec4, hf⟩ := cb_b2_o hf
  refine cl_X12_135 28 h dX12_subtract_25 rfl (mt_add ec4) ⟨rfl, rfl, Nat.le_of_ble_eq_true rfl, Nat.le_of_ble_eq_true rfl⟩ rfl (Nat.le_of_ble_eq_true rfl) ?_
  refine cb_istore (lv' := [(6, .int c4), (5, .int t1), (0, .ref (a 0)), (1, .int v1), (2, .int v2), (3, .int v3), (4, .int v4)]) 30 h dX12_subtract_28 rfl rfl (Nat.le_of_ble_eq_true rfl) rfl ?_
  refine cb_aload_n 31 2 h dX12_subtract_30 rfl rfl rfl ?_
  refine cb_aload_n 32 2 h dX12_subtract_31 rfl rfl rfl ?_
  refine gf_X12_129 35 h dX12_subtract_32 rfl ?_
  refine cb_cut (cb_V X (WM a ca σc4) 43 [(6, .int c4), (5, .int t1), (0, .ref (a 0)), (1, .int v1), (2, .int v2), (3, .int v3), (4, .int v4)] [.int (if (σc4 0 9) = 0 then (1 : Int32) else (0 : Int32)), .ref (a 0)]) (fun jj => ?_) ?_
  · refine cb_if_ne 42 38 h dX12_subtract_35 rfl rfl (fun q5 => ?_) (fun q5 => ?_)
    · refine cb_iconst 43 h dX12_subtract_42 rfl kc_0 ?_
      exact (cb_tf q5 jj)
    · refine cb_iconst 39 h dX12_subtract_38 rfl kc_1 ?_
      refine cb_goto 43 h dX12_subtract_39 rfl ?_
      exact (cb_tt q5 jj)
  obtain ⟨σ6, e7, hf⟩ := cb_let_o hf
  refine pf_X12_129 46 h dX12_subtract_43 rfl (cb_01_i cb_01_1 cb_01_0) e7 ?_
  refine cb_aload_n 47 2 h dX12_subtract_46 rfl rfl rfl ?_
  refine cb_aload_n 48 2 h dX12_subtract_47 rfl rfl rfl ?_
  refine gf_X12_132 51 h dX12_subtract_48 rfl ?_
  refine cb_cut (cb_V X (WM a ca σ6) 59 [(6, .int c4), (5, .int t1), (0, .ref (a 0)), (1, .int v1), (2, .int v2), (3, .int v3), (4, .int v4)] [.int (if (σ6 0 11) = 0 then (1 : Int32) else (0 : Int32)), .ref (a 0)]) (fun jj => ?_) ?_
  · refine cb_if_ne 58 54 h dX12_subtract_51 rfl rfl (fun q8 => ?_) (fun q8 => ?_)
    · refine cb_iconst 59 h dX12_subtract_58 rfl kc_0 ?_
      exact (cb_tf q8 jj)
    · refine cb_iconst 55 h dX12_subtract_54 rfl kc_1 ?_
      refine cb_goto 59 h dX12_subtract_55 rfl ?_
      exact (cb_tt q8 jj)
  obtain ⟨σ9, e10, hf⟩ := cb_let_o hf
  refine pf_X12_132 62 h dX12_subtract_59 rfl (cb_01_i cb_01_1 cb_01_0) e10 ?_
  refine cb_iload 64 0 h dX12_subtract_62 rfl rfl ?_
  exact cb_retI (Wf := WM a ca) h dX12_subtract_64 he hf
set_option maxRecDepth 100000 in
set_option maxHeartbeats 4000000 in
theorem mt_sumFlags {l : Launch} {D : va_G} {a : Nat → Nat} {ca : Nat → ClassId} {σ σ' : cb_S} {v1 v2 v3 : Int32} (hf : m_sumFlags σ v1 v2 v3 = some σ') : cb_C l yX12_sumFlags cX12_sumFlags 4 none { frames := 1, cells := 0, slots := 0, locals := 22 } D (EM ca) (adM a) [.ref (a 0), .int v1, .int v2, .int v3] (WM a ca σ) none (WM a ca σ') := by
  refine cb_mk [(0, .ref (a 0)), (1, .int v1), (2, .int v2), (3, .int v3)] (by decide) (Nat.le_of_ble_eq_true rfl) rfl (fun X h he => ?_) goodM
  have h : cb_ok X cX12_sumFlags RX12 (EM ca) 1 22 4 := h
  unfold m_sumFlags at hf
  refine cb_aload_n 1 0 h dX12_sumFlags_0 rfl rfl rfl ?_
  refine cb_sipush 4 h dX12_sumFlags_1 rfl ks_128 ?_
  refine cb_iload_n 5 1 h dX12_sumFlags_4 rfl rfl rfl ?_
  refine cb_iload_n 6 2 h dX12_sumFlags_5 rfl rfl rfl ?_
  refine cb_iconst 7 h dX12_sumFlags_6 rfl kc_1 ?_
  refine cb_isub 8 h dX12_sumFlags_7 rfl ?_
  refine cb_ishr 9 h dX12_sumFlags_8 rfl ?_
  refine cb_iconst 10 h dX12_sumFlags_9 rfl kc_1 ?_
  refine cb_iand 11 h dX12_sumFlags_10 rfl ?_
  refine cb_iconst 12 h dX12_sumFlags_11 rfl kc_1 ?_
  refine cb_cut (cb_V X (WM a ca σ) 20 [(0, .ref (a 0)), (1, .int v1), (2, .int v2), (3, .int v3)] [.int (if ((v1 >>> ((v2 - (1 : Int32)) &&& 31)) &&& (1 : Int32)) = (1 : Int32) then (1 : Int32) else (0 : Int32)), .int (128 : Int32), .ref (a 0)]) (fun jj => ?_) ?_
  · refine cb_icmp_ne 19 15 h dX12_sumFlags_12 rfl rfl (fun q1 => ?_) (fun q1 => ?_)
    · refine cb_iconst 20 h dX12_sumFlags_19 rfl kc_0 ?_
      exact (cb_tf q1 jj)
    · refine cb_iconst 16 h dX12_sumFlags_15 rfl kc_1 ?_
      refine cb_goto 20 h dX12_sumFlags_16 rfl ?_
      exact (cb_tt q1 jj)
  obtain ⟨σc2, ec2, hf⟩ := cb_bo_o hf
  refine cl_X12_139 23 h dX12_sumFlags_20 rfl (mt_setFlag ec2) ⟨rfl, rfl, Nat.le_of_ble_eq_true rfl, Nat.le_of_ble_eq_true rfl⟩ rfl (Nat.le_of_ble_eq_true rfl) ?_
  refine cb_aload_n 24 0 h dX12_sumFlags_23 rfl rfl rfl ?_
  refine cb_bipush 26 h dX12_sumFlags_24 rfl kb_64 ?_
  refine cb_iload_n 27 1 h dX12_sumFlags_26 rfl rfl rfl ?_
  refine cb_cut (cb_V X (WM a ca σc2) 35 [(0, .ref (a 0)), (1, .int v1), (2, .int v2), (3, .int v3)] [.int (if v1 = 0 then (1 : Int32) else (0 : Int32)), .int (64 : Int32), .ref (a 0)]) (fun jj => ?_) ?_
  · refine cb_if_ne 34 30 h dX12_sumFlags_27 rfl rfl (fun q3 => ?_) (fun q3 => ?_)
    · refine cb_iconst 35 h dX12_sumFlags_34 rfl kc_0 ?_
      exact (cb_tf q3 jj)
    · refine cb_iconst 31 h dX12_sumFlags_30 rfl kc_1 ?_
      refine cb_goto 35 h dX12_sumFlags_31 rfl ?_
      exact (cb_tt q3 jj)
  obtain ⟨σc4, ec4, hf⟩ := cb_bo_o hf
  refine cl_X12_139 38 h dX12_sumFlags_35 rfl (mt_setFlag ec4) ⟨rfl, rfl, Nat.le_of_ble_eq_true rfl, Nat.le_of_ble_eq_true rfl⟩ rfl (Nat.le_of_ble_eq_true rfl) ?_
  refine cb_aload_n 39 0 h dX12_sumFlags_38 rfl rfl rfl ?_
  refine cb_bipush 41 h dX12_sumFlags_39 rfl kb_16 ?_
  refine cb_aload_n 42 0 h dX12_sumFlags_41 rfl rfl rfl ?_
  refine gf_X12_129 45 h dX12_sumFlags_42 rfl ?_
  obtain ⟨σc5, ec5, hf⟩ := cb_bo_o hf
  refine cl_X12_139 48 h dX12_sumFlags_45 rfl (mt_setFlag ec5) ⟨rfl, rfl, Nat.le_of_ble_eq_true rfl, Nat.le_of_ble_eq_true rfl⟩ rfl (Nat.le_of_ble_eq_true rfl) ?_
  refine cb_aload_n 49 0 h dX12_sumFlags_48 rfl rfl rfl ?_
  refine cb_iconst 50 h dX12_sumFlags_49 rfl kc_4 ?_
  refine cb_aload_n 51 0 h dX12_sumFlags_50 rfl rfl rfl ?_
  refine gf_X12_125 54 h dX12_sumFlags_51 rfl ?_
  refine cb_iload_n 55 3 h dX12_sumFlags_54 rfl rfl rfl ?_
  refine cb_cut (cb_V X (WM a ca σc5) 77 [(0, .ref (a 0)), (1, .int v1), (2, .int v2), (3, .int v3)] [.int (if v3 = 0 then (σc5 0 11) else (if (σc5 0 11) = 0 then (1 : Int32) else (0 : Int32))), .int (σc5 0 10), .int (4 : Int32), .ref (a 0)]) (fun jj => ?_) ?_
  · refine cb_if_eq 73 58 h dX12_sumFlags_55 rfl rfl (fun q6 => ?_) (fun q6 => ?_)
    · refine cb_aload_n 74 0 h dX12_sumFlags_73 rfl rfl rfl ?_
      refine gf_X12_132 77 h dX12_sumFlags_74 rfl ?_
      exact (cb_tt q6 jj)
    · refine cb_aload_n 59 0 h dX12_sumFlags_58 rfl rfl rfl ?_
      refine gf_X12_132 62 h dX12_sumFlags_59 rfl ?_
      refine cb_if_ne 69 65 h dX12_sumFlags_62 rfl rfl (fun q7 => ?_) (fun q7 => ?_)
      · refine cb_iconst 70 h dX12_sumFlags_69 rfl kc_0 ?_
        refine cb_goto 77 h dX12_sumFlags_70 rfl ?_
        exact (cb_tf q7 (cb_tf q6 jj))
      · refine cb_iconst 66 h dX12_sumFlags_65 rfl kc_1 ?_
        refine cb_goto 77 h dX12_sumFlags_66 rfl ?_
        exact (cb_tt q7 (cb_tf q6 jj))
  refine cb_cut (cb_V X (WM a ca σc5) 85 [(0, .ref (a 0)), (1, .int v1), (2, .int v2), (3, .int v3)] [.int (if (σc5 0 10) = (if v3 = 0 then (σc5 0 11) else (if (σc5 0 11) = 0 then (1 : Int32) else (0 : Int32))) then (0 : Int32) else (1 : Int32)), .int (4 : Int32), .ref (a 0)]) (fun jj => ?_) ?_
  · refine cb_icmp_eq 84 80 h dX12_sumFlags_77 rfl rfl (fun q8 => ?_) (fun q8 => ?_)
    · refine cb_iconst 85 h dX12_sumFlags_84 rfl kc_0 ?_
      exact (cb_tt q8 jj)
    · refine cb_iconst 81 h dX12_sumFlags_80 rfl kc_1 ?_
      refine cb_goto 85 h dX12_sumFlags_81 rfl ?_
      exact (cb_tf q8 jj)
  obtain ⟨σc9, ec9, hf⟩ := cb_bo_o hf
  refine cl_X12_139 88 h dX12_sumFlags_85 rfl (mt_setFlag ec9) ⟨rfl, rfl, Nat.le_of_ble_eq_true rfl, Nat.le_of_ble_eq_true rfl⟩ rfl (Nat.le_of_ble_eq_true rfl) ?_
  refine cb_aload_n 89 0 h dX12_sumFlags_88 rfl rfl rfl ?_
  refine cb_iconst 90 h dX12_sumFlags_89 rfl kc_2 ?_
  refine cb_iload_n 91 3 h dX12_sumFlags_90 rfl rfl rfl ?_
  obtain ⟨σc10, ec10, hf⟩ := cb_bo_o hf
  refine cl_X12_139 94 h dX12_sumFlags_91 rfl (mt_setFlag ec10) ⟨rfl, rfl, Nat.le_of_ble_eq_true rfl, Nat.le_of_ble_eq_true rfl⟩ rfl (Nat.le_of_ble_eq_true rfl) ?_
  exact cb_retV (Wf := WM a ca) h dX12_sumFlags_94 he hf
set_option maxRecDepth 100000 in
set_option maxHeartbeats 4000000 in
theorem mt_step {l : Launch} {D : va_G} {a : Nat → Nat} {ca : Nat → ClassId} {N : Nat} {σ σ' : cb_S} {v1 v2 : Int32} {r : Int32} (hf : m_step N σ v1 v2 = some (r, σ')) : cb_C l yX12_step cX12_step 4 (some .int) { frames := 2, cells := 0, slots := 0, locals := 54 } D (EM ca) (adM a) [.ref (a 0), .int v1, .int v2] (WM a ca σ) (some (.int r)) (WM a ca σ') := by
  refine cb_mk [(0, .ref (a 0)), (1, .int v1), (2, .int v2)] (by decide) (Nat.le_of_ble_eq_true rfl) rfl (fun X h he => ?_) goodM
  have h : cb_ok X cX12_step RX12 (EM ca) 2 54 4 := h
  unfold m_step at hf
  have j25 : ∀ (σ : cb_S) (y0 : Int32), m_step_L25 N v1 v2 σ y0 = some (r, σ') → cb_V X (WM a ca σ) 25 [(0, .ref (a 0)), (2, .int v2)] [.int y0] := by
    intro σ y0 hf
    unfold m_step_L25 at hf
    refine cb_istore_n (lv' := [(3, .int y0), (0, .ref (a 0)), (2, .int v2)]) 26 h dX12_step_25 rfl rfl rfl (Nat.le_of_ble_eq_true rfl) rfl ?_
    refine cb_aload_n 27 1 h dX12_step_26 rfl rfl rfl ?_
    refine cb_iload_n 28 0 h dX12_step_27 rfl rfl rfl ?_
    refine cb_bipush 30 h dX12_step_28 rfl kb_8 ?_
    refine cb_iload_n 31 2 h dX12_step_30 rfl rfl rfl ?_
    obtain ⟨σc1, ec1, hf⟩ := cb_bo_o hf
    refine cl_X12_150 34 h dX12_step_31 rfl (mt_sumFlags ec1) ⟨rfl, rfl, Nat.le_of_ble_eq_true rfl, Nat.le_of_ble_eq_true rfl⟩ rfl (Nat.le_of_ble_eq_true rfl) ?_
    refine cb_iload_n 35 0 h dX12_step_34 rfl rfl rfl ?_
    exact cb_retI (Wf := WM a ca) h dX12_step_35 he hf
  refine cb_iload_n 1 2 h dX12_step_0 rfl rfl rfl ?_
  refine cb_if_eq 16 4 h dX12_step_1 rfl rfl (fun q2 => ?_) (fun q2 => ?_)
  · have hf := cb_it q2 hf
    refine cb_aload_n 17 0 h dX12_step_16 rfl rfl rfl ?_
    refine cb_iload_n 18 1 h dX12_step_17 rfl rfl rfl ?_
    refine cb_iconst 19 h dX12_step_18 rfl kc_1 ?_
    refine cb_iconst 20 h dX12_step_19 rfl kc_0 ?_
    refine cb_bipush 22 h dX12_step_20 rfl kb_8 ?_
    obtain ⟨c3, σc3, ec3, hf⟩ := cb_b2_o hf
    refine cl_X12_135 25 h dX12_step_22 rfl (mt_add ec3) ⟨rfl, rfl, Nat.le_of_ble_eq_true rfl, Nat.le_of_ble_eq_true rfl⟩ rfl (Nat.le_of_ble_eq_true rfl) ?_
    exact cb_lv [0, 2] rfl (j25 _ _ hf)
  · have hf := cb_if q2 hf
    refine cb_aload_n 5 0 h dX12_step_4 rfl rfl rfl ?_
    refine cb_iload_n 6 1 h dX12_step_5 rfl rfl rfl ?_
    refine cb_iconst 7 h dX12_step_6 rfl kc_1 ?_
    refine cb_iconst 8 h dX12_step_7 rfl kc_0 ?_
    refine cb_bipush 10 h dX12_step_8 rfl kb_8 ?_
    obtain ⟨c4, σc4, ec4, hf⟩ := cb_b2_o hf
    refine cl_X12_154 13 h dX12_step_10 rfl (mt_subtract ec4) ⟨rfl, rfl, Nat.le_of_ble_eq_true rfl, Nat.le_of_ble_eq_true rfl⟩ rfl (Nat.le_of_ble_eq_true rfl) ?_
    refine cb_goto 25 h dX12_step_13 rfl ?_
    exact cb_lv [0, 2] rfl (j25 _ _ hf)
set_option maxRecDepth 100000 in
set_option maxHeartbeats 4000000 in
theorem mt_put {l : Launch} {D : va_G} {a : Nat → Nat} {ca : Nat → ClassId} {σ σ' : cb_S} {v1 v2 : Int32} (hf : m_put σ v1 v2 = some σ') : cb_C l yX12_put cX12_put 3 none { frames := 1, cells := 0, slots := 0, locals := 22 } D (EM ca) (adM a) [.ref (a 0), .int v1, .int v2] (WM a ca σ) none (WM a ca σ') := by
  refine cb_mk [(0, .ref (a 0)), (1, .int v1), (2, .int v2)] (by decide) (Nat.le_of_ble_eq_true rfl) rfl (fun X h he => ?_) goodM
  have h : cb_ok X cX12_put RX12 (EM ca) 1 22 3 := h
  unfold m_put at hf
  refine cb_iload_n 1 1 h dX12_put_0 rfl rfl rfl ?_
  refine cb_bipush 3 h dX12_put_1 rfl kb_6 ?_
  refine cb_icmp_ne 19 6 h dX12_put_3 rfl rfl (fun q1 => ?_) (fun q1 => ?_)
  · have hf := cb_if q1 hf
    refine cb_aload_n 20 0 h dX12_put_19 rfl rfl rfl ?_
    refine gf_X12_13 23 h dX12_put_20 rfl ?_
    refine cb_iload_n 24 1 h dX12_put_23 rfl rfl rfl ?_
    refine cb_iload_n 25 2 h dX12_put_24 rfl rfl rfl ?_
    refine cb_sipush 28 h dX12_put_25 rfl ks_255 ?_
    refine cb_iand 29 h dX12_put_28 rfl ?_
    obtain ⟨g2, hf⟩ := cb_gd_o hf
    obtain ⟨σ3, e4, hf⟩ := cb_let_o hf
    refine saM_2 30 h dX12_put_29 rfl (cb_in_v g2) rfl e4 ?_
    exact cb_retV (Wf := WM a ca) h dX12_put_30 he hf
  · have hf := cb_it q1 hf
    refine cb_aload_n 7 0 h dX12_put_6 rfl rfl rfl ?_
    refine cb_aload_n 8 0 h dX12_put_7 rfl rfl rfl ?_
    refine cb_iconst 9 h dX12_put_8 rfl kc_4 ?_
    obtain ⟨c5, ec5, hf⟩ := cb_bo_o hf
    refine cl_X12_109 12 h dX12_put_9 rfl (mt_pair ec5) ⟨rfl, rfl, Nat.le_of_ble_eq_true rfl, Nat.le_of_ble_eq_true rfl⟩ rfl (Nat.le_of_ble_eq_true rfl) ?_
    refine cb_iload_n 13 2 h dX12_put_12 rfl rfl rfl ?_
    obtain ⟨σc6, ec6, hf⟩ := cb_bo_o hf
    refine cl_X12_98 16 h dX12_put_13 rfl (mt_putByte ec6) ⟨rfl, rfl, Nat.le_of_ble_eq_true rfl, Nat.le_of_ble_eq_true rfl⟩ rfl (Nat.le_of_ble_eq_true rfl) ?_
    refine cb_goto 30 h dX12_put_16 rfl ?_
    exact cb_retV (Wf := WM a ca) h dX12_put_30 he hf
set_option maxRecDepth 100000 in
set_option maxHeartbeats 4000000 in
theorem mt_move {l : Launch} {D : va_G} {a : Nat → Nat} {ca : Nat → ClassId} {σ σ' : cb_S} {v1 v2 : Int32} {r : Int32} (hf : m_move σ v1 v2 = some (r, σ')) : cb_C l yX12_move cX12_move 7 (some .int) { frames := 1, cells := 0, slots := 0, locals := 22 } D (EM ca) (adM a) [.ref (a 0), .int v1, .int v2] (WM a ca σ) (some (.int r)) (WM a ca σ') := by
  refine cb_mk [(0, .ref (a 0)), (1, .int v1), (2, .int v2)] (by decide) (Nat.le_of_ble_eq_true rfl) rfl (fun X h he => ?_) goodM
  have h : cb_ok X cX12_move RX12 (EM ca) 1 22 7 := h
  unfold m_move at hf
  refine cb_iload_n 1 1 h dX12_move_0 rfl rfl rfl ?_
  refine cb_cut (cb_V X (WM a ca σ) 19 [(0, .ref (a 0)), (1, .int v1), (2, .int v2)] [.int (if v1 = 0 then (1 : Int32) else (if v1 = (2 : Int32) then (1 : Int32) else (if v1 = (4 : Int32) then (1 : Int32) else (0 : Int32))))]) (fun jj => ?_) ?_
  · refine cb_if_eq 14 4 h dX12_move_1 rfl rfl (fun q1 => ?_) (fun q1 => ?_)
    · refine cb_iconst 15 h dX12_move_14 rfl kc_1 ?_
      refine cb_goto 19 h dX12_move_15 rfl ?_
      exact (cb_tt q1 jj)
    · refine cb_iload_n 5 1 h dX12_move_4 rfl rfl rfl ?_
      refine cb_iconst 6 h dX12_move_5 rfl kc_2 ?_
      refine cb_icmp_eq 14 9 h dX12_move_6 rfl rfl (fun q2 => ?_) (fun q2 => ?_)
      · refine cb_iconst 15 h dX12_move_14 rfl kc_1 ?_
        refine cb_goto 19 h dX12_move_15 rfl ?_
        exact (cb_tt q2 (cb_tf q1 jj))
      · refine cb_iload_n 10 1 h dX12_move_9 rfl rfl rfl ?_
        refine cb_iconst 11 h dX12_move_10 rfl kc_4 ?_
        refine cb_icmp_ne 18 14 h dX12_move_11 rfl rfl (fun q3 => ?_) (fun q3 => ?_)
        · refine cb_iconst 19 h dX12_move_18 rfl kc_0 ?_
          exact (cb_tf q3 (cb_tf q2 (cb_tf q1 jj)))
        · refine cb_iconst 15 h dX12_move_14 rfl kc_1 ?_
          refine cb_goto 19 h dX12_move_15 rfl ?_
          exact (cb_tt q3 (cb_tf q2 (cb_tf q1 jj)))
  obtain ⟨t4, e5, hf⟩ := cb_let_o hf
  refine cb_istore_n (lv' := [(3, .int t4), (0, .ref (a 0)), (1, .int v1), (2, .int v2)]) 20 h dX12_move_19 rfl rfl e5 (Nat.le_of_ble_eq_true rfl) rfl ?_
  refine cb_iload_n 21 0 h dX12_move_20 rfl rfl rfl ?_
  refine cb_cut (cb_V X (WM a ca σ) 34 [(3, .int t4), (0, .ref (a 0)), (1, .int v1), (2, .int v2)] [.int (if t4 = 0 then (v2 &&& (1 : Int32)) else (v2 >>> ((7 : Int32) &&& 31)))]) (fun jj => ?_) ?_
  · refine cb_if_eq 31 24 h dX12_move_21 rfl rfl (fun q6 => ?_) (fun q6 => ?_)
    · refine cb_iload_n 32 3 h dX12_move_31 rfl rfl rfl ?_
      refine cb_iconst 33 h dX12_move_32 rfl kc_1 ?_
      refine cb_iand 34 h dX12_move_33 rfl ?_
      exact (cb_tt q6 jj)
    · refine cb_iload_n 25 3 h dX12_move_24 rfl rfl rfl ?_
      refine cb_bipush 27 h dX12_move_25 rfl kb_7 ?_
      refine cb_ishr 28 h dX12_move_27 rfl ?_
      refine cb_goto 34 h dX12_move_28 rfl ?_
      exact (cb_tf q6 jj)
  obtain ⟨t7, e8, hf⟩ := cb_let_o hf
  refine cb_istore (lv' := [(4, .int t7), (3, .int t4), (0, .ref (a 0)), (1, .int v1), (2, .int v2)]) 36 h dX12_move_34 rfl e8 (Nat.le_of_ble_eq_true rfl) rfl ?_
  refine cb_iload_n 37 3 h dX12_move_36 rfl rfl rfl ?_
  refine cb_iconst 38 h dX12_move_37 rfl kc_2 ?_
  refine cb_cut (cb_V X (WM a ca σ) 76 [(4, .int t7), (3, .int t4), (0, .ref (a 0)), (1, .int v1), (2, .int v2)] [.int (if (2 : Int32) ≤ v1 then (if (4 : Int32) ≤ v1 then (if v1 = (5 : Int32) then (v2 >>> ((7 : Int32) &&& 31)) else (0 : Int32)) else ((σ 2 6) &&& (1 : Int32))) else t7)]) (fun jj => ?_) ?_
  · refine cb_icmp_ge 46 41 h dX12_move_38 rfl rfl (fun q9 => ?_) (fun q9 => ?_)
    · refine cb_iload_n 47 3 h dX12_move_46 rfl rfl rfl ?_
      refine cb_iconst 48 h dX12_move_47 rfl kc_4 ?_
      refine cb_icmp_ge 63 51 h dX12_move_48 rfl rfl (fun q10 => ?_) (fun q10 => ?_)
      · refine cb_iload_n 64 3 h dX12_move_63 rfl rfl rfl ?_
        refine cb_iconst 65 h dX12_move_64 rfl kc_5 ?_
        refine cb_icmp_ne 75 68 h dX12_move_65 rfl rfl (fun q11 => ?_) (fun q11 => ?_)
        · refine cb_iconst 76 h dX12_move_75 rfl kc_0 ?_
          exact (cb_tf q11 (cb_tt q10 (cb_tt q9 jj)))
        · refine cb_iload_n 69 4 h dX12_move_68 rfl rfl rfl ?_
          refine cb_bipush 71 h dX12_move_69 rfl kb_7 ?_
          refine cb_ishr 72 h dX12_move_71 rfl ?_
          refine cb_goto 76 h dX12_move_72 rfl ?_
          exact (cb_tt q11 (cb_tt q10 (cb_tt q9 jj)))
      · refine cb_aload_n 52 2 h dX12_move_51 rfl rfl rfl ?_
        refine gf_X12_13 55 h dX12_move_52 rfl ?_
        refine cb_bipush 57 h dX12_move_55 rfl kb_6 ?_
        refine laM_2 58 h dX12_move_57 rfl vi_6_16 tk_6 ?_
        refine cb_iconst 59 h dX12_move_58 rfl kc_1 ?_
        refine cb_iand 60 h dX12_move_59 rfl ?_
        refine cb_goto 76 h dX12_move_60 rfl ?_
        exact (cb_tf q10 (cb_tt q9 jj))
    · refine cb_iload 43 0 h dX12_move_41 rfl rfl ?_
      refine cb_goto 76 h dX12_move_43 rfl ?_
      exact (cb_tf q9 jj)
  obtain ⟨t12, e13, hf⟩ := cb_let_o hf
  refine cb_istore (lv' := [(5, .int t12), (4, .int t7), (3, .int t4), (0, .ref (a 0)), (1, .int v1), (2, .int v2)]) 78 h dX12_move_76 rfl e13 (Nat.le_of_ble_eq_true rfl) rfl ?_
  refine cb_iload_n 79 2 h dX12_move_78 rfl rfl rfl ?_
  refine cb_cut (cb_V X (WM a ca σ) 104 [(5, .int t12), (4, .int t7), (3, .int t4), (0, .ref (a 0)), (1, .int v1), (2, .int v2)] [.int (if t4 = 0 then ((v2 >>> ((1 : Int32) &&& 31)) ||| (t12 <<< ((7 : Int32) &&& 31))) else (((v2 <<< ((1 : Int32) &&& 31)) &&& (255 : Int32)) ||| t12))]) (fun jj => ?_) ?_
  · refine cb_if_eq 95 82 h dX12_move_79 rfl rfl (fun q14 => ?_) (fun q14 => ?_)
    · refine cb_iload_n 96 5 h dX12_move_95 rfl rfl rfl ?_
      refine cb_iconst 97 h dX12_move_96 rfl kc_1 ?_
      refine cb_ishr 98 h dX12_move_97 rfl ?_
      refine cb_iload 100 0 h dX12_move_98 rfl rfl ?_
      refine cb_bipush 102 h dX12_move_100 rfl kb_7 ?_
      refine cb_ishl 103 h dX12_move_102 rfl ?_
      refine cb_ior 104 h dX12_move_103 rfl ?_
      exact (cb_tt q14 jj)
    · refine cb_iload_n 83 5 h dX12_move_82 rfl rfl rfl ?_
      refine cb_iconst 84 h dX12_move_83 rfl kc_1 ?_
      refine cb_ishl 85 h dX12_move_84 rfl ?_
      refine cb_sipush 88 h dX12_move_85 rfl ks_255 ?_
      refine cb_iand 89 h dX12_move_88 rfl ?_
      refine cb_iload 91 0 h dX12_move_89 rfl rfl ?_
      refine cb_ior 92 h dX12_move_91 rfl ?_
      refine cb_goto 104 h dX12_move_92 rfl ?_
      exact (cb_tf q14 jj)
  obtain ⟨t15, e16, hf⟩ := cb_let_o hf
  refine cb_istore (lv' := [(6, .int t15), (5, .int t12), (4, .int t7), (3, .int t4), (0, .ref (a 0)), (1, .int v1), (2, .int v2)]) 106 h dX12_move_104 rfl e16 (Nat.le_of_ble_eq_true rfl) rfl ?_
  refine cb_aload_n 107 4 h dX12_move_106 rfl rfl rfl ?_
  refine cb_iconst 108 h dX12_move_107 rfl kc_1 ?_
  refine cb_iload 110 2 h dX12_move_108 rfl rfl ?_
  refine cb_iconst 111 h dX12_move_110 rfl kc_1 ?_
  refine cb_cut (cb_V X (WM a ca σ) 119 [(6, .int t15), (5, .int t12), (4, .int t7), (3, .int t4), (0, .ref (a 0)), (1, .int v1), (2, .int v2)] [.int (if t7 = (1 : Int32) then (1 : Int32) else (0 : Int32)), .int (1 : Int32), .ref (a 0)]) (fun jj => ?_) ?_
  · refine cb_icmp_ne 118 114 h dX12_move_111 rfl rfl (fun q17 => ?_) (fun q17 => ?_)
    · refine cb_iconst 119 h dX12_move_118 rfl kc_0 ?_
      exact (cb_tf q17 jj)
    · refine cb_iconst 115 h dX12_move_114 rfl kc_1 ?_
      refine cb_goto 119 h dX12_move_115 rfl ?_
      exact (cb_tt q17 jj)
  obtain ⟨σc18, ec18, hf⟩ := cb_bo_o hf
  refine cl_X12_139 122 h dX12_move_119 rfl (mt_setFlag ec18) ⟨rfl, rfl, Nat.le_of_ble_eq_true rfl, Nat.le_of_ble_eq_true rfl⟩ rfl (Nat.le_of_ble_eq_true rfl) ?_
  refine cb_aload_n 123 4 h dX12_move_122 rfl rfl rfl ?_
  refine cb_bipush 125 h dX12_move_123 rfl kb_16 ?_
  refine cb_iconst 126 h dX12_move_125 rfl kc_0 ?_
  obtain ⟨σc19, ec19, hf⟩ := cb_bo_o hf
  refine cl_X12_139 129 h dX12_move_126 rfl (mt_setFlag ec19) ⟨rfl, rfl, Nat.le_of_ble_eq_true rfl, Nat.le_of_ble_eq_true rfl⟩ rfl (Nat.le_of_ble_eq_true rfl) ?_
  refine cb_aload_n 130 4 h dX12_move_129 rfl rfl rfl ?_
  refine cb_iconst 131 h dX12_move_130 rfl kc_2 ?_
  refine cb_iconst 132 h dX12_move_131 rfl kc_0 ?_
  obtain ⟨σc20, ec20, hf⟩ := cb_bo_o hf
  refine cl_X12_139 135 h dX12_move_132 rfl (mt_setFlag ec20) ⟨rfl, rfl, Nat.le_of_ble_eq_true rfl, Nat.le_of_ble_eq_true rfl⟩ rfl (Nat.le_of_ble_eq_true rfl) ?_
  refine cb_iload 137 0 h dX12_move_135 rfl rfl ?_
  exact cb_retI (Wf := WM a ca) h dX12_move_137 he hf
set_option maxRecDepth 100000 in
set_option maxHeartbeats 4000000 in
theorem mt_single {l : Launch} {D : va_G} {a : Nat → Nat} {ca : Nat → ClassId} {σ σ' : cb_S} {v1 : Int32} {r : Int32} (hf : m_single σ v1 = some (r, σ')) : cb_C l yX12_single cX12_single 3 (some .int) { frames := 2, cells := 0, slots := 0, locals := 48 } D (EM ca) (adM a) [.ref (a 0), .int v1] (WM a ca σ) (some (.int r)) (WM a ca σ') := by
  refine cb_mk [(0, .ref (a 0)), (1, .int v1)] (by decide) (Nat.le_of_ble_eq_true rfl) rfl (fun X h he => ?_) goodM
  have h : cb_ok X cX12_single RX12 (EM ca) 2 48 3 := h
  unfold m_single at hf
  refine cb_iload_n 1 1 h dX12_single_0 rfl rfl rfl ?_
  refine cb_iconst 2 h dX12_single_1 rfl kc_4 ?_
  refine cb_icmp_ge 27 5 h dX12_single_2 rfl rfl (fun q1 => ?_) (fun q1 => ?_)
  · have hf := cb_it q1 hf
    refine cb_iload_n 28 1 h dX12_single_27 rfl rfl rfl ?_
    refine cb_iconst 29 h dX12_single_28 rfl kc_4 ?_
    refine cb_icmp_ne 34 32 h dX12_single_29 rfl rfl (fun q2 => ?_) (fun q2 => ?_)
    · have hf := cb_if q2 hf
      refine cb_iload_n 35 1 h dX12_single_34 rfl rfl rfl ?_
      refine cb_iconst 36 h dX12_single_35 rfl kc_5 ?_
      refine cb_icmp_ne 73 39 h dX12_single_36 rfl rfl (fun q3 => ?_) (fun q3 => ?_)
      · have hf := cb_if q3 hf
        refine cb_aload_n 74 0 h dX12_single_73 rfl rfl rfl ?_
        refine cb_iconst 75 h dX12_single_74 rfl kc_1 ?_
        obtain ⟨c4, ec4, hf⟩ := cb_bo_o hf
        refine cl_X12_121 78 h dX12_single_75 rfl (mt_flag ec4) ⟨rfl, rfl, Nat.le_of_ble_eq_true rfl, Nat.le_of_ble_eq_true rfl⟩ rfl (Nat.le_of_ble_eq_true rfl) ?_
        refine cb_istore_n (lv' := [(2, .int c4), (0, .ref (a 0)), (1, .int v1)]) 79 h dX12_single_78 rfl rfl rfl (Nat.le_of_ble_eq_true rfl) rfl ?_
        refine cb_aload_n 80 1 h dX12_single_79 rfl rfl rfl ?_
        refine cb_bipush 82 h dX12_single_80 rfl kb_16 ?_
        refine cb_iload_n 83 2 h dX12_single_82 rfl rfl rfl ?_
        refine cb_bipush 85 h dX12_single_83 rfl kb_7 ?_
        refine cb_cut (cb_V X (WM a ca σ) 97 [(2, .int c4), (0, .ref (a 0)), (1, .int v1)] [.int (if v1 = (7 : Int32) then (if c4 = 0 then (0 : Int32) else (1 : Int32)) else (0 : Int32)), .int (16 : Int32), .ref (a 0)]) (fun jj => ?_) ?_
        · refine cb_icmp_ne 96 88 h dX12_single_85 rfl rfl (fun q5 => ?_) (fun q5 => ?_)
          · refine cb_iconst 97 h dX12_single_96 rfl kc_0 ?_
            exact (cb_tf q5 jj)
          · refine cb_iload_n 89 0 h dX12_single_88 rfl rfl rfl ?_
            refine cb_if_eq 96 92 h dX12_single_89 rfl rfl (fun q6 => ?_) (fun q6 => ?_)
            · refine cb_iconst 97 h dX12_single_96 rfl kc_0 ?_
              exact (cb_tt q6 (cb_tt q5 jj))
            · refine cb_iconst 93 h dX12_single_92 rfl kc_1 ?_
              refine cb_goto 97 h dX12_single_93 rfl ?_
              exact (cb_tf q6 (cb_tt q5 jj))
        obtain ⟨σc7, ec7, hf⟩ := cb_bo_o hf
        refine cl_X12_139 100 h dX12_single_97 rfl (mt_setFlag ec7) ⟨rfl, rfl, Nat.le_of_ble_eq_true rfl, Nat.le_of_ble_eq_true rfl⟩ rfl (Nat.le_of_ble_eq_true rfl) ?_
        refine cb_aload_n 101 1 h dX12_single_100 rfl rfl rfl ?_
        refine cb_iconst 102 h dX12_single_101 rfl kc_2 ?_
        refine cb_iconst 103 h dX12_single_102 rfl kc_0 ?_
        obtain ⟨σc8, ec8, hf⟩ := cb_bo_o hf
        refine cl_X12_139 106 h dX12_single_103 rfl (mt_setFlag ec8) ⟨rfl, rfl, Nat.le_of_ble_eq_true rfl, Nat.le_of_ble_eq_true rfl⟩ rfl (Nat.le_of_ble_eq_true rfl) ?_
        refine cb_aload_n 107 1 h dX12_single_106 rfl rfl rfl ?_
        refine cb_iconst 108 h dX12_single_107 rfl kc_1 ?_
        refine cb_iload_n 109 2 h dX12_single_108 rfl rfl rfl ?_
        refine cb_bipush 111 h dX12_single_109 rfl kb_6 ?_
        refine cb_cut (cb_V X (WM a ca σc8) 123 [(2, .int c4), (0, .ref (a 0)), (1, .int v1)] [.int (if v1 = (6 : Int32) then (1 : Int32) else (if c4 = 0 then (1 : Int32) else (0 : Int32))), .int (1 : Int32), .ref (a 0)]) (fun jj => ?_) ?_
        · refine cb_icmp_eq 118 114 h dX12_single_111 rfl rfl (fun q9 => ?_) (fun q9 => ?_)
          · refine cb_iconst 119 h dX12_single_118 rfl kc_1 ?_
            refine cb_goto 123 h dX12_single_119 rfl ?_
            exact (cb_tt q9 jj)
          · refine cb_iload_n 115 0 h dX12_single_114 rfl rfl rfl ?_
            refine cb_if_ne 122 118 h dX12_single_115 rfl rfl (fun q10 => ?_) (fun q10 => ?_)
            · refine cb_iconst 123 h dX12_single_122 rfl kc_0 ?_
              exact (cb_tf q10 (cb_tf q9 jj))
            · refine cb_iconst 119 h dX12_single_118 rfl kc_1 ?_
              refine cb_goto 123 h dX12_single_119 rfl ?_
              exact (cb_tt q10 (cb_tf q9 jj))
        obtain ⟨σc11, ec11, hf⟩ := cb_bo_o hf
        refine cl_X12_139 126 h dX12_single_123 rfl (mt_setFlag ec11) ⟨rfl, rfl, Nat.le_of_ble_eq_true rfl, Nat.le_of_ble_eq_true rfl⟩ rfl (Nat.le_of_ble_eq_true rfl) ?_
        refine cb_iconst 127 h dX12_single_126 rfl kc_4 ?_
        exact cb_retI (Wf := WM a ca) h dX12_single_127 he hf
      · have hf := cb_it q3 hf
        refine cb_aload_n 40 0 h dX12_single_39 rfl rfl rfl ?_
        refine gf_X12_13 43 h dX12_single_40 rfl ?_
        refine cb_bipush 45 h dX12_single_43 rfl kb_7 ?_
        refine cb_aload_n 46 0 h dX12_single_45 rfl rfl rfl ?_
        refine gf_X12_13 49 h dX12_single_46 rfl ?_
        refine cb_bipush 51 h dX12_single_49 rfl kb_7 ?_
        refine laM_2 52 h dX12_single_51 rfl vi_7_16 tk_7 ?_
        refine cb_sipush 55 h dX12_single_52 rfl ks_255 ?_
        refine cb_ixor 56 h dX12_single_55 rfl ?_
        obtain ⟨σ12, e13, hf⟩ := cb_let_o hf
        refine saM_2 57 h dX12_single_56 rfl vi_7_16 tk_7 e13 ?_
        refine cb_aload_n 58 0 h dX12_single_57 rfl rfl rfl ?_
        refine cb_bipush 60 h dX12_single_58 rfl kb_16 ?_
        refine cb_iconst 61 h dX12_single_60 rfl kc_1 ?_
        obtain ⟨σc14, ec14, hf⟩ := cb_bo_o hf
        refine cl_X12_139 64 h dX12_single_61 rfl (mt_setFlag ec14) ⟨rfl, rfl, Nat.le_of_ble_eq_true rfl, Nat.le_of_ble_eq_true rfl⟩ rfl (Nat.le_of_ble_eq_true rfl) ?_
        refine cb_aload_n 65 0 h dX12_single_64 rfl rfl rfl ?_
        refine cb_iconst 66 h dX12_single_65 rfl kc_2 ?_
        refine cb_iconst 67 h dX12_single_66 rfl kc_1 ?_
        obtain ⟨σc15, ec15, hf⟩ := cb_bo_o hf
        refine cl_X12_139 70 h dX12_single_67 rfl (mt_setFlag ec15) ⟨rfl, rfl, Nat.le_of_ble_eq_true rfl, Nat.le_of_ble_eq_true rfl⟩ rfl (Nat.le_of_ble_eq_true rfl) ?_
        refine cb_goto 126 h dX12_single_70 rfl ?_
        refine cb_iconst 127 h dX12_single_126 rfl kc_4 ?_
        exact cb_retI (Wf := WM a ca) h dX12_single_127 he hf
    · have hf := cb_it q2 hf
      refine cb_iconst 33 h dX12_single_32 rfl kc_0 ?_
      exact cb_retI (Wf := WM a ca) h dX12_single_33 he hf
  · have hf := cb_if q1 hf
    refine cb_aload_n 6 0 h dX12_single_5 rfl rfl rfl ?_
    refine gf_X12_13 9 h dX12_single_6 rfl ?_
    refine cb_bipush 11 h dX12_single_9 rfl kb_7 ?_
    refine cb_aload_n 12 0 h dX12_single_11 rfl rfl rfl ?_
    refine cb_iload_n 13 1 h dX12_single_12 rfl rfl rfl ?_
    refine cb_aload_n 14 0 h dX12_single_13 rfl rfl rfl ?_
    refine gf_X12_13 17 h dX12_single_14 rfl ?_
    refine cb_bipush 19 h dX12_single_17 rfl kb_7 ?_
    refine laM_2 20 h dX12_single_19 rfl vi_7_16 tk_7 ?_
    obtain ⟨c16, σc16, ec16, hf⟩ := cb_b2_o hf
    refine cl_X12_213 23 h dX12_single_20 rfl (mt_move ec16) ⟨rfl, rfl, Nat.le_of_ble_eq_true rfl, Nat.le_of_ble_eq_true rfl⟩ rfl (Nat.le_of_ble_eq_true rfl) ?_
    obtain ⟨σ17, e18, hf⟩ := cb_let_o hf
    refine saM_2 24 h dX12_single_23 rfl vi_7_16 tk_7 e18 ?_
    refine cb_goto 126 h dX12_single_24 rfl ?_
    refine cb_iconst 127 h dX12_single_126 rfl kc_4 ?_
    exact cb_retI (Wf := WM a ca) h dX12_single_127 he hf
set_option maxRecDepth 100000 in
set_option maxHeartbeats 4000000 in
theorem mt_low {l : Launch} {D : va_G} {a : Nat → Nat} {ca : Nat → ClassId} {N : Nat} {σ σ' : cb_S} {v1 v2 : Int32} {r : Int32} (hf : m_low N σ v1 v2 = some (r, σ')) : cb_C l yX12_low cX12_low 3 (some .int) { frames := 4, cells := 0, slots := 0, locals := 85 } D (EM ca) (adM a) [.ref (a 0), .int v1, .int v2] (WM a ca σ) (some (.int r)) (WM a ca σ') := by
  refine cb_mk [(0, .ref (a 0)), (1, .int v1), (2, .int v2)] (by decide) (Nat.le_of_ble_eq_true rfl) rfl (fun X h he => ?_) goodM
  have h : cb_ok X cX12_low RX12 (EM ca) 4 85 3 := h
  unfold m_low at hf
  have j46 : ∀ (σ : cb_S), m_low_L46 N v1 v2 σ = some (r, σ') → cb_V X (WM a ca σ) 46 [(1, .int v1)] [] := by
    intro σ hf
    unfold m_low_L46 at hf
    refine cb_iload_n 47 0 h dX12_low_46 rfl rfl rfl ?_
    refine cb_iconst 48 h dX12_low_47 rfl kc_1 ?_
    refine cb_iand 49 h dX12_low_48 rfl ?_
    refine cb_cut (cb_V X (WM a ca σ) 59 [(1, .int v1)] [.int (if (v1 &&& (1 : Int32)) = 0 then (10 : Int32) else (11 : Int32))]) (fun jj => ?_) ?_
    · refine cb_if_ne 57 52 h dX12_low_49 rfl rfl (fun q1 => ?_) (fun q1 => ?_)
      · refine cb_bipush 59 h dX12_low_57 rfl kb_11 ?_
        exact (cb_tf q1 jj)
      · refine cb_bipush 54 h dX12_low_52 rfl kb_10 ?_
        refine cb_goto 59 h dX12_low_54 rfl ?_
        exact (cb_tt q1 jj)
    exact cb_retI (Wf := WM a ca) h dX12_low_59 he hf
  have j115 : ∀ (σ : cb_S), m_low_L115 N v1 v2 σ = some (r, σ') → cb_V X (WM a ca σ) 115 [(0, .ref (a 0)), (1, .int v1), (2, .int v2)] [] := by
    intro σ hf
    unfold m_low_L115 at hf
    refine cb_aload_n 116 0 h dX12_low_115 rfl rfl rfl ?_
    refine cb_iload_n 117 1 h dX12_low_116 rfl rfl rfl ?_
    refine cb_aload_n 118 0 h dX12_low_117 rfl rfl rfl ?_
    refine cb_aload_n 119 0 h dX12_low_118 rfl rfl rfl ?_
    refine cb_iload_n 120 1 h dX12_low_119 rfl rfl rfl ?_
    obtain ⟨c2, ec2, hf⟩ := cb_bo_o hf
    refine cl_X12_170 123 h dX12_low_120 rfl (mt_get ec2) ⟨rfl, rfl, Nat.le_of_ble_eq_true rfl, Nat.le_of_ble_eq_true rfl⟩ rfl (Nat.le_of_ble_eq_true rfl) ?_
    refine cb_iload_n 124 2 h dX12_low_123 rfl rfl rfl ?_
    refine cb_iconst 125 h dX12_low_124 rfl kc_5 ?_
    refine cb_cut (cb_V X (WM a ca σ) 133 [(0, .ref (a 0)), (1, .int v1), (2, .int v2)] [.int (if v2 = (5 : Int32) then (1 : Int32) else (0 : Int32)), .int c2, .ref (a 0), .int v1, .ref (a 0)]) (fun jj => ?_) ?_
    · refine cb_icmp_ne 132 128 h dX12_low_125 rfl rfl (fun q3 => ?_) (fun q3 => ?_)
      · refine cb_iconst 133 h dX12_low_132 rfl kc_0 ?_
        exact (cb_tf q3 jj)
      · refine cb_iconst 129 h dX12_low_128 rfl kc_1 ?_
        refine cb_goto 133 h dX12_low_129 rfl ?_
        exact (cb_tt q3 jj)
    obtain ⟨c4, σc4, ec4, hf⟩ := cb_b2_o hf
    refine cl_X12_197 136 h dX12_low_133 rfl (mt_step ec4) ⟨rfl, rfl, Nat.le_of_ble_eq_true rfl, Nat.le_of_ble_eq_true rfl⟩ rfl (Nat.le_of_ble_eq_true rfl) ?_
    obtain ⟨σc5, ec5, hf⟩ := cb_bo_o hf
    refine cl_X12_173 139 h dX12_low_136 rfl (mt_put ec5) ⟨rfl, rfl, Nat.le_of_ble_eq_true rfl, Nat.le_of_ble_eq_true rfl⟩ rfl (Nat.le_of_ble_eq_true rfl) ?_
    refine cb_iload_n 140 1 h dX12_low_139 rfl rfl rfl ?_
    refine cb_bipush 142 h dX12_low_140 rfl kb_6 ?_
    refine cb_cut (cb_V X (WM a ca σc5) 151 [(0, .ref (a 0)), (1, .int v1), (2, .int v2)] [.int (if v1 = (6 : Int32) then (11 : Int32) else (4 : Int32))]) (fun jj => ?_) ?_
    · refine cb_icmp_ne 150 145 h dX12_low_142 rfl rfl (fun q6 => ?_) (fun q6 => ?_)
      · refine cb_iconst 151 h dX12_low_150 rfl kc_4 ?_
        exact (cb_tf q6 jj)
      · refine cb_bipush 147 h dX12_low_145 rfl kb_11 ?_
        refine cb_goto 151 h dX12_low_147 rfl ?_
        exact (cb_tt q6 jj)
    exact cb_retI (Wf := WM a ca) h dX12_low_151 he hf
  refine cb_iload_n 1 2 h dX12_low_0 rfl rfl rfl ?_
  refine cb_if_ne 10 4 h dX12_low_1 rfl rfl (fun q7 => ?_) (fun q7 => ?_)
  · have hf := cb_if q7 hf
    refine cb_iload_n 11 2 h dX12_low_10 rfl rfl rfl ?_
    refine cb_iconst 12 h dX12_low_11 rfl kc_1 ?_
    refine cb_icmp_ne 60 15 h dX12_low_12 rfl rfl (fun q8 => ?_) (fun q8 => ?_)
    · have hf := cb_if q8 hf
      refine cb_iload_n 61 2 h dX12_low_60 rfl rfl rfl ?_
      refine cb_iconst 62 h dX12_low_61 rfl kc_2 ?_
      refine cb_icmp_ne 71 65 h dX12_low_62 rfl rfl (fun q9 => ?_) (fun q9 => ?_)
      · have hf := cb_if q9 hf
        refine cb_iload_n 72 2 h dX12_low_71 rfl rfl rfl ?_
        refine cb_iconst 73 h dX12_low_72 rfl kc_3 ?_
        refine cb_icmp_ne 105 76 h dX12_low_73 rfl rfl (fun q10 => ?_) (fun q10 => ?_)
        · have hf := cb_if q10 hf
          refine cb_iload_n 106 2 h dX12_low_105 rfl rfl rfl ?_
          refine cb_iconst 107 h dX12_low_106 rfl kc_4 ?_
          refine cb_icmp_eq 115 110 h dX12_low_107 rfl rfl (fun q11 => ?_) (fun q11 => ?_)
          · have hf := cb_it q11 hf
            exact j115 _ hf
          · have hf := cb_if q11 hf
            refine cb_iload_n 111 2 h dX12_low_110 rfl rfl rfl ?_
            refine cb_iconst 112 h dX12_low_111 rfl kc_5 ?_
            refine cb_icmp_ne 152 115 h dX12_low_112 rfl rfl (fun q12 => ?_) (fun q12 => ?_)
            · have hf := cb_if q12 hf
              refine cb_iload_n 153 2 h dX12_low_152 rfl rfl rfl ?_
              refine cb_bipush 155 h dX12_low_153 rfl kb_6 ?_
              refine cb_icmp_ne 181 158 h dX12_low_155 rfl rfl (fun q13 => ?_) (fun q13 => ?_)
              · have hf := cb_if q13 hf
                refine cb_aload_n 182 0 h dX12_low_181 rfl rfl rfl ?_
                refine cb_iload_n 183 1 h dX12_low_182 rfl rfl rfl ?_
                obtain ⟨c14, σc14, ec14, hf⟩ := cb_b2_o hf
                refine cl_X12_201 186 h dX12_low_183 rfl (mt_single ec14) ⟨rfl, rfl, Nat.le_of_ble_eq_true rfl, Nat.le_of_ble_eq_true rfl⟩ rfl (Nat.le_of_ble_eq_true rfl) ?_
                exact cb_retI (Wf := WM a ca) h dX12_low_186 he hf
              · have hf := cb_it q13 hf
                refine cb_aload_n 159 0 h dX12_low_158 rfl rfl rfl ?_
                refine cb_iload_n 160 1 h dX12_low_159 rfl rfl rfl ?_
                refine cb_aload_n 161 0 h dX12_low_160 rfl rfl rfl ?_
                obtain ⟨c15, σc15, ec15, hf⟩ := cb_b2_o hf
                refine cl_X12_105 164 h dX12_low_161 rfl (mt_next ec15) ⟨rfl, rfl, Nat.le_of_ble_eq_true rfl, Nat.le_of_ble_eq_true rfl⟩ rfl (Nat.le_of_ble_eq_true rfl) ?_
                obtain ⟨σc16, ec16, hf⟩ := cb_bo_o hf
                refine cl_X12_173 167 h dX12_low_164 rfl (mt_put ec16) ⟨rfl, rfl, Nat.le_of_ble_eq_true rfl, Nat.le_of_ble_eq_true rfl⟩ rfl (Nat.le_of_ble_eq_true rfl) ?_
                refine cb_iload_n 168 1 h dX12_low_167 rfl rfl rfl ?_
                refine cb_bipush 170 h dX12_low_168 rfl kb_6 ?_
                refine cb_cut (cb_V X (WM a ca σc16) 180 [(0, .ref (a 0)), (1, .int v1), (2, .int v2)] [.int (if v1 = (6 : Int32) then (10 : Int32) else (7 : Int32))]) (fun jj => ?_) ?_
                · refine cb_icmp_ne 178 173 h dX12_low_170 rfl rfl (fun q17 => ?_) (fun q17 => ?_)
                  · refine cb_bipush 180 h dX12_low_178 rfl kb_7 ?_
                    exact (cb_tf q17 jj)
                  · refine cb_bipush 175 h dX12_low_173 rfl kb_10 ?_
                    refine cb_goto 180 h dX12_low_175 rfl ?_
                    exact (cb_tt q17 jj)
                exact cb_retI (Wf := WM a ca) h dX12_low_180 he hf
            · have hf := cb_it q12 hf
              exact j115 _ hf
        · have hf := cb_it q10 hf
          refine cb_aload_n 77 0 h dX12_low_76 rfl rfl rfl ?_
          refine cb_iload_n 78 1 h dX12_low_77 rfl rfl rfl ?_
          refine cb_iconst 79 h dX12_low_78 rfl kc_1 ?_
          refine cb_ishr 80 h dX12_low_79 rfl ?_
          refine cb_aload_n 81 0 h dX12_low_80 rfl rfl rfl ?_
          refine cb_iload_n 82 1 h dX12_low_81 rfl rfl rfl ?_
          refine cb_iconst 83 h dX12_low_82 rfl kc_1 ?_
          refine cb_ishr 84 h dX12_low_83 rfl ?_
          obtain ⟨c18, ec18, hf⟩ := cb_bo_o hf
          refine cl_X12_188 87 h dX12_low_84 rfl (mt_wide ec18) ⟨rfl, rfl, Nat.le_of_ble_eq_true rfl, Nat.le_of_ble_eq_true rfl⟩ rfl (Nat.le_of_ble_eq_true rfl) ?_
          refine cb_iload_n 88 1 h dX12_low_87 rfl rfl rfl ?_
          refine cb_iconst 89 h dX12_low_88 rfl kc_1 ?_
          refine cb_iand 90 h dX12_low_89 rfl ?_
          refine cb_cut (cb_V X (WM a ca σ) 98 [(0, .ref (a 0)), (1, .int v1), (2, .int v2)] [.int (if (v1 &&& (1 : Int32)) = 0 then (1 : Int32) else (-1 : Int32)), .int c18, .int (v1 >>> ((1 : Int32) &&& 31)), .ref (a 0)]) (fun jj => ?_) ?_
          · refine cb_if_ne 97 93 h dX12_low_90 rfl rfl (fun q19 => ?_) (fun q19 => ?_)
            · refine cb_iconst 98 h dX12_low_97 rfl kc_m1 ?_
              exact (cb_tf q19 jj)
            · refine cb_iconst 94 h dX12_low_93 rfl kc_1 ?_
              refine cb_goto 98 h dX12_low_94 rfl ?_
              exact (cb_tt q19 jj)
          refine cb_iadd 99 h dX12_low_98 rfl ?_
          obtain ⟨σc20, ec20, hf⟩ := cb_bo_o hf
          refine cl_X12_185 102 h dX12_low_99 rfl (mt_putWide ec20) ⟨rfl, rfl, Nat.le_of_ble_eq_true rfl, Nat.le_of_ble_eq_true rfl⟩ rfl (Nat.le_of_ble_eq_true rfl) ?_
          refine cb_bipush 104 h dX12_low_102 rfl kb_6 ?_
          exact cb_retI (Wf := WM a ca) h dX12_low_104 he hf
      · have hf := cb_it q9 hf
        refine cb_aload_n 66 0 h dX12_low_65 rfl rfl rfl ?_
        refine cb_iload_n 67 1 h dX12_low_66 rfl rfl rfl ?_
        obtain ⟨c21, σc21, ec21, hf⟩ := cb_b2_o hf
        refine cl_X12_194 70 h dX12_low_67 rfl (mt_stores ec21) ⟨rfl, rfl, Nat.le_of_ble_eq_true rfl, Nat.le_of_ble_eq_true rfl⟩ rfl (Nat.le_of_ble_eq_true rfl) ?_
        exact cb_retI (Wf := WM a ca) h dX12_low_70 he hf
    · have hf := cb_it q8 hf
      refine cb_iload_n 16 1 h dX12_low_15 rfl rfl rfl ?_
      refine cb_iconst 17 h dX12_low_16 rfl kc_1 ?_
      refine cb_iand 18 h dX12_low_17 rfl ?_
      refine cb_if_ne 35 21 h dX12_low_18 rfl rfl (fun q22 => ?_) (fun q22 => ?_)
      · have hf := cb_if q22 hf
        refine cb_aload_n 36 0 h dX12_low_35 rfl rfl rfl ?_
        refine cb_aload_n 37 0 h dX12_low_36 rfl rfl rfl ?_
        refine cb_iload_n 38 1 h dX12_low_37 rfl rfl rfl ?_
        refine cb_iconst 39 h dX12_low_38 rfl kc_1 ?_
        refine cb_ishr 40 h dX12_low_39 rfl ?_
        obtain ⟨c23, ec23, hf⟩ := cb_bo_o hf
        refine cl_X12_188 43 h dX12_low_40 rfl (mt_wide ec23) ⟨rfl, rfl, Nat.le_of_ble_eq_true rfl, Nat.le_of_ble_eq_true rfl⟩ rfl (Nat.le_of_ble_eq_true rfl) ?_
        obtain ⟨σc24, ec24, hf⟩ := cb_bo_o hf
        refine cl_X12_191 46 h dX12_low_43 rfl (mt_wideSum ec24) ⟨rfl, rfl, Nat.le_of_ble_eq_true rfl, Nat.le_of_ble_eq_true rfl⟩ rfl (Nat.le_of_ble_eq_true rfl) ?_
        exact cb_lv [1] rfl (j46 _ hf)
      · have hf := cb_it q22 hf
        refine cb_aload_n 22 0 h dX12_low_21 rfl rfl rfl ?_
        refine cb_iload_n 23 1 h dX12_low_22 rfl rfl rfl ?_
        refine cb_iconst 24 h dX12_low_23 rfl kc_1 ?_
        refine cb_ishr 25 h dX12_low_24 rfl ?_
        refine cb_aload_n 26 0 h dX12_low_25 rfl rfl rfl ?_
        obtain ⟨c25, σc25, ec25, hf⟩ := cb_b2_o hf
        refine cl_X12_182 29 h dX12_low_26 rfl (mt_nextWord ec25) ⟨rfl, rfl, Nat.le_of_ble_eq_true rfl, Nat.le_of_ble_eq_true rfl⟩ rfl (Nat.le_of_ble_eq_true rfl) ?_
        obtain ⟨σc26, ec26, hf⟩ := cb_bo_o hf
        refine cl_X12_185 32 h dX12_low_29 rfl (mt_putWide ec26) ⟨rfl, rfl, Nat.le_of_ble_eq_true rfl, Nat.le_of_ble_eq_true rfl⟩ rfl (Nat.le_of_ble_eq_true rfl) ?_
        refine cb_goto 46 h dX12_low_32 rfl ?_
        exact cb_lv [1] rfl (j46 _ hf)
  · have hf := cb_it q7 hf
    refine cb_aload_n 5 0 h dX12_low_4 rfl rfl rfl ?_
    refine cb_iload_n 6 1 h dX12_low_5 rfl rfl rfl ?_
    obtain ⟨c27, σc27, ec27, hf⟩ := cb_b2_o hf
    refine cl_X12_179 9 h dX12_low_6 rfl (mt_jumps ec27) ⟨rfl, rfl, Nat.le_of_ble_eq_true rfl, Nat.le_of_ble_eq_true rfl⟩ rfl (Nat.le_of_ble_eq_true rfl) ?_
    exact cb_retI (Wf := WM a ca) h dX12_low_9 he hf
set_option maxRecDepth 100000 in
set_option maxHeartbeats 4000000 in
theorem mt_pop {l : Launch} {D : va_G} {a : Nat → Nat} {ca : Nat → ClassId} {σ σ' : cb_S} {r : Int32} (hf : m_pop σ = some (r, σ')) : cb_C l yX12_pop cX12_pop 2 (some .int) { frames := 2, cells := 0, slots := 0, locals := 42 } D (EM ca) (adM a) [.ref (a 0)] (WM a ca σ) (some (.int r)) (WM a ca σ') := by
  refine cb_mk [(0, .ref (a 0))] (by decide) (Nat.le_of_ble_eq_true rfl) rfl (fun X h he => ?_) goodM
  have h : cb_ok X cX12_pop RX12 (EM ca) 2 42 2 := h
  unfold m_pop at hf
  refine cb_aload_n 1 0 h dX12_pop_0 rfl rfl rfl ?_
  refine cb_aload_n 2 0 h dX12_pop_1 rfl rfl rfl ?_
  refine gf_X12_17 5 h dX12_pop_2 rfl ?_
  obtain ⟨c1, ec1, hf⟩ := cb_bo_o hf
  refine cl_X12_118 8 h dX12_pop_5 rfl (mt_wordAt ec1) ⟨rfl, rfl, Nat.le_of_ble_eq_true rfl, Nat.le_of_ble_eq_true rfl⟩ rfl (Nat.le_of_ble_eq_true rfl) ?_
  refine cb_istore_n (lv' := [(1, .int c1), (0, .ref (a 0))]) 9 h dX12_pop_8 rfl rfl rfl (Nat.le_of_ble_eq_true rfl) rfl ?_
  refine cb_aload_n 10 1 h dX12_pop_9 rfl rfl rfl ?_
  refine cb_aload_n 11 1 h dX12_pop_10 rfl rfl rfl ?_
  refine gf_X12_17 14 h dX12_pop_11 rfl ?_
  refine cb_iconst 15 h dX12_pop_14 rfl kc_2 ?_
  refine cb_iadd 16 h dX12_pop_15 rfl ?_
  refine cb_ldc 18 h dX12_pop_16 rfl (cb_t3 162 rfl rfl) ?_
  refine cb_iand 19 h dX12_pop_18 rfl ?_
  obtain ⟨σ2, e3, hf⟩ := cb_let_o hf
  refine pf_X12_17 22 h dX12_pop_19 rfl e3 ?_
  refine cb_iload_n 23 0 h dX12_pop_22 rfl rfl rfl ?_
  exact cb_retI (Wf := WM a ca) h dX12_pop_23 he hf
