set_option maxRecDepth 100000 in
set_option maxHeartbeats 4000000 in
theorem mt_pops {l : Launch} {D : va_G} {a : Nat → Nat} {ca : Nat → ClassId} {σ σ' : cb_S} {v1 : Int32} {r : Int32} (hf : m_pops σ v1 = some (r, σ')) : cb_C l yX12_pops cX12_pops 4 (some .int) { frames := 3, cells := 0, slots := 0, locals := 63 } D (EM ca) (adM a) [.ref (a 0), .int v1] (WM a ca σ) (some (.int r)) (WM a ca σ') := by
  refine cb_mk [(0, .ref (a 0)), (1, .int v1)] (by decide) (Nat.le_of_ble_eq_true rfl) rfl (fun X h he => ?_) goodM
  have h : cb_ok X cX12_pops RX12 (EM ca) 3 63 4 := h
  unfold m_pops at hf
  have j131 : ∀ (σ : cb_S), m_pops_L131 v1 σ = some (r, σ') → cb_V X (WM a ca σ) 131 [(1, .int v1)] [] := by
    intro σ hf
    unfold m_pops_L131 at hf
    refine cb_iload_n 132 0 h dX12_pops_131 rfl rfl rfl ?_
    refine cb_iconst 133 h dX12_pops_132 rfl kc_1 ?_
    refine cb_cut (cb_V X (WM a ca σ) 153 [(1, .int v1)] [.int (if v1 = (1 : Int32) then (10 : Int32) else (if v1 = (7 : Int32) then (6 : Int32) else (4 : Int32)))]) (fun jj => ?_) ?_
    · refine cb_icmp_ne 141 136 h dX12_pops_133 rfl rfl (fun q1 => ?_) (fun q1 => ?_)
      · refine cb_iload_n 142 0 h dX12_pops_141 rfl rfl rfl ?_
        refine cb_bipush 144 h dX12_pops_142 rfl kb_7 ?_
        refine cb_icmp_ne 152 147 h dX12_pops_144 rfl rfl (fun q2 => ?_) (fun q2 => ?_)
        · refine cb_iconst 153 h dX12_pops_152 rfl kc_4 ?_
          exact (cb_tf q2 (cb_tf q1 jj))
        · refine cb_bipush 149 h dX12_pops_147 rfl kb_6 ?_
          refine cb_goto 153 h dX12_pops_149 rfl ?_
          exact (cb_tt q2 (cb_tf q1 jj))
      · refine cb_bipush 138 h dX12_pops_136 rfl kb_10 ?_
        refine cb_goto 153 h dX12_pops_138 rfl ?_
        exact (cb_tt q1 jj)
    exact cb_retI (Wf := WM a ca) h dX12_pops_153 he hf
  refine cb_iload_n 1 1 h dX12_pops_0 rfl rfl rfl ?_
  refine cb_iconst 2 h dX12_pops_1 rfl kc_1 ?_
  refine cb_iand 3 h dX12_pops_2 rfl ?_
  refine cb_if_ne 35 6 h dX12_pops_3 rfl rfl (fun q3 => ?_) (fun q3 => ?_)
  · have hf := cb_if q3 hf
    refine cb_iload_n 36 1 h dX12_pops_35 rfl rfl rfl ?_
    refine cb_iconst 37 h dX12_pops_36 rfl kc_1 ?_
    refine cb_icmp_ne 51 40 h dX12_pops_37 rfl rfl (fun q4 => ?_) (fun q4 => ?_)
    · have hf := cb_if q4 hf
      refine cb_iload_n 52 1 h dX12_pops_51 rfl rfl rfl ?_
      refine cb_iconst 53 h dX12_pops_52 rfl kc_3 ?_
      refine cb_icmp_ne 105 56 h dX12_pops_53 rfl rfl (fun q5 => ?_) (fun q5 => ?_)
      · have hf := cb_if q5 hf
        refine cb_iload_n 106 1 h dX12_pops_105 rfl rfl rfl ?_
        refine cb_iconst 107 h dX12_pops_106 rfl kc_5 ?_
        refine cb_icmp_ne 122 110 h dX12_pops_107 rfl rfl (fun q6 => ?_) (fun q6 => ?_)
        · have hf := cb_if q6 hf
          refine cb_aload_n 123 0 h dX12_pops_122 rfl rfl rfl ?_
          refine cb_aload_n 124 0 h dX12_pops_123 rfl rfl rfl ?_
          refine cb_iconst 125 h dX12_pops_124 rfl kc_4 ?_
          obtain ⟨c7, ec7, hf⟩ := cb_bo_o hf
          refine cl_X12_109 128 h dX12_pops_125 rfl (mt_pair ec7) ⟨rfl, rfl, Nat.le_of_ble_eq_true rfl, Nat.le_of_ble_eq_true rfl⟩ rfl (Nat.le_of_ble_eq_true rfl) ?_
          obtain ⟨σ8, e9, hf⟩ := cb_let_o hf
          refine pf_X12_17 131 h dX12_pops_128 rfl e9 ?_
          exact cb_lv [1] rfl (j131 _ hf)
        · have hf := cb_it q6 hf
          refine cb_aload_n 111 0 h dX12_pops_110 rfl rfl rfl ?_
          refine cb_aload_n 112 0 h dX12_pops_111 rfl rfl rfl ?_
          refine cb_iconst 113 h dX12_pops_112 rfl kc_4 ?_
          obtain ⟨c10, ec10, hf⟩ := cb_bo_o hf
          refine cl_X12_109 116 h dX12_pops_113 rfl (mt_pair ec10) ⟨rfl, rfl, Nat.le_of_ble_eq_true rfl, Nat.le_of_ble_eq_true rfl⟩ rfl (Nat.le_of_ble_eq_true rfl) ?_
          obtain ⟨σ11, e12, hf⟩ := cb_let_o hf
          refine pf_X12_102 119 h dX12_pops_116 rfl e12 ?_
          refine cb_goto 131 h dX12_pops_119 rfl ?_
          exact cb_lv [1] rfl (j131 _ hf)
      · have hf := cb_it q5 hf
        refine cb_iconst 57 h dX12_pops_56 rfl kc_0 ?_
        refine cb_istore_n (lv' := [(2, .int (0 : Int32)), (0, .ref (a 0)), (1, .int v1)]) 58 h dX12_pops_57 rfl rfl rfl (Nat.le_of_ble_eq_true rfl) rfl ?_
        refine cb_iload_n 59 0 h dX12_pops_58 rfl rfl rfl ?_
        refine cb_bipush 61 h dX12_pops_59 rfl kb_6 ?_
        refine cb_icmp_ge 102 64 h dX12_pops_61 rfl rfl (fun q => absurd q (by decide)) (fun _ => ?_)
        refine cb_aload_n 65 1 h dX12_pops_64 rfl rfl rfl ?_
        refine gf_X12_13 68 h dX12_pops_65 rfl ?_
        refine cb_iload_n 69 0 h dX12_pops_68 rfl rfl rfl ?_
        refine laM_2 70 h dX12_pops_69 rfl vi_0_16 tk_0 ?_
        obtain ⟨t13, e14, hf⟩ := cb_let_o hf
        refine cb_istore_n (lv' := [(3, .int t13), (2, .int (0 : Int32)), (0, .ref (a 0)), (1, .int v1)]) 71 h dX12_pops_70 rfl rfl e14 (Nat.le_of_ble_eq_true rfl) rfl ?_
        refine cb_aload_n 72 2 h dX12_pops_71 rfl rfl rfl ?_
        refine gf_X12_13 75 h dX12_pops_72 rfl ?_
        refine cb_iload_n 76 1 h dX12_pops_75 rfl rfl rfl ?_
        refine cb_aload_n 77 2 h dX12_pops_76 rfl rfl rfl ?_
        refine gf_X12_13 80 h dX12_pops_77 rfl ?_
        refine cb_bipush 82 h dX12_pops_80 rfl kb_8 ?_
        refine cb_iload_n 83 1 h dX12_pops_82 rfl rfl rfl ?_
        refine cb_iadd 84 h dX12_pops_83 rfl ?_
        obtain ⟨g15, hf⟩ := cb_gd_o hf
        refine laM_2 85 h dX12_pops_84 rfl (cb_in_v g15) rfl ?_
        obtain ⟨σ16, e17, hf⟩ := cb_let_o hf
        refine saM_2 86 h dX12_pops_85 rfl vi_0_16 tk_0 e17 ?_
        refine cb_aload_n 87 2 h dX12_pops_86 rfl rfl rfl ?_
        refine gf_X12_13 90 h dX12_pops_87 rfl ?_
        refine cb_bipush 92 h dX12_pops_90 rfl kb_8 ?_
        refine cb_iload_n 93 1 h dX12_pops_92 rfl rfl rfl ?_
        refine cb_iadd 94 h dX12_pops_93 rfl ?_
        refine cb_iload_n 95 0 h dX12_pops_94 rfl rfl rfl ?_
        obtain ⟨σ18, e19, hf⟩ := cb_let_o hf
        refine saM_2 96 h dX12_pops_95 rfl (cb_in_v g15) rfl e19 ?_
        refine cb_iinc 1 (lv' := [(2, .int (1 : Int32)), (3, .int t13), (0, .ref (a 0)), (1, .int v1)]) 99 h dX12_pops_96 rfl rfl (by decide) (Nat.le_of_ble_eq_true rfl) rfl ?_
        refine cb_goto 58 h dX12_pops_99 rfl ?_
        refine cb_iload_n 59 0 h dX12_pops_58 rfl rfl rfl ?_
        refine cb_bipush 61 h dX12_pops_59 rfl kb_6 ?_
        refine cb_icmp_ge 102 64 h dX12_pops_61 rfl rfl (fun q => absurd q (by decide)) (fun _ => ?_)
        refine cb_aload_n 65 2 h dX12_pops_64 rfl rfl rfl ?_
        refine gf_X12_13 68 h dX12_pops_65 rfl ?_
        refine cb_iload_n 69 0 h dX12_pops_68 rfl rfl rfl ?_
        refine laM_2 70 h dX12_pops_69 rfl vi_1_16 tk_1 ?_
        obtain ⟨t20, e21, hf⟩ := cb_let_o hf
        refine cb_istore_n (lv' := [(3, .int t20), (2, .int (1 : Int32)), (0, .ref (a 0)), (1, .int v1)]) 71 h dX12_pops_70 rfl rfl e21 (Nat.le_of_ble_eq_true rfl) rfl ?_
        refine cb_aload_n 72 2 h dX12_pops_71 rfl rfl rfl ?_
        refine gf_X12_13 75 h dX12_pops_72 rfl ?_
        refine cb_iload_n 76 1 h dX12_pops_75 rfl rfl rfl ?_
        refine cb_aload_n 77 2 h dX12_pops_76 rfl rfl rfl ?_
        refine gf_X12_13 80 h dX12_pops_77 rfl ?_
        refine cb_bipush 82 h dX12_pops_80 rfl kb_8 ?_
        refine cb_iload_n 83 1 h dX12_pops_82 rfl rfl rfl ?_
        refine cb_iadd 84 h dX12_pops_83 rfl ?_
        obtain ⟨g22, hf⟩ := cb_gd_o hf
        refine laM_2 85 h dX12_pops_84 rfl (cb_in_v g22) rfl ?_
        obtain ⟨σ23, e24, hf⟩ := cb_let_o hf
        refine saM_2 86 h dX12_pops_85 rfl vi_1_16 tk_1 e24 ?_
        refine cb_aload_n 87 2 h dX12_pops_86 rfl rfl rfl ?_
        refine gf_X12_13 90 h dX12_pops_87 rfl ?_
        refine cb_bipush 92 h dX12_pops_90 rfl kb_8 ?_
        refine cb_iload_n 93 1 h dX12_pops_92 rfl rfl rfl ?_
        refine cb_iadd 94 h dX12_pops_93 rfl ?_
        refine cb_iload_n 95 0 h dX12_pops_94 rfl rfl rfl ?_
        obtain ⟨σ25, e26, hf⟩ := cb_let_o hf
        refine saM_2 96 h dX12_pops_95 rfl (cb_in_v g22) rfl e26 ?_
        refine cb_iinc 1 (lv' := [(2, .int (2 : Int32)), (3, .int t20), (0, .ref (a 0)), (1, .int v1)]) 99 h dX12_pops_96 rfl rfl (by decide) (Nat.le_of_ble_eq_true rfl) rfl ?_
        refine cb_goto 58 h dX12_pops_99 rfl ?_
        refine cb_iload_n 59 0 h dX12_pops_58 rfl rfl rfl ?_
        refine cb_bipush 61 h dX12_pops_59 rfl kb_6 ?_
        refine cb_icmp_ge 102 64 h dX12_pops_61 rfl rfl (fun q => absurd q (by decide)) (fun _ => ?_)
        refine cb_aload_n 65 2 h dX12_pops_64 rfl rfl rfl ?_
        refine gf_X12_13 68 h dX12_pops_65 rfl ?_
        refine cb_iload_n 69 0 h dX12_pops_68 rfl rfl rfl ?_
        refine laM_2 70 h dX12_pops_69 rfl vi_2_16 tk_2 ?_
        obtain ⟨t27, e28, hf⟩ := cb_let_o hf
        refine cb_istore_n (lv' := [(3, .int t27), (2, .int (2 : Int32)), (0, .ref (a 0)), (1, .int v1)]) 71 h dX12_pops_70 rfl rfl e28 (Nat.le_of_ble_eq_true rfl) rfl ?_
        refine cb_aload_n 72 2 h dX12_pops_71 rfl rfl rfl ?_
        refine gf_X12_13 75 h dX12_pops_72 rfl ?_
        refine cb_iload_n 76 1 h dX12_pops_75 rfl rfl rfl ?_
        refine cb_aload_n 77 2 h dX12_pops_76 rfl rfl rfl ?_
        refine gf_X12_13 80 h dX12_pops_77 rfl ?_
        refine cb_bipush 82 h dX12_pops_80 rfl kb_8 ?_
        refine cb_iload_n 83 1 h dX12_pops_82 rfl rfl rfl ?_
        refine cb_iadd 84 h dX12_pops_83 rfl ?_
        obtain ⟨g29, hf⟩ := cb_gd_o hf
        refine laM_2 85 h dX12_pops_84 rfl (cb_in_v g29) rfl ?_
        obtain ⟨σ30, e31, hf⟩ := cb_let_o hf
        refine saM_2 86 h dX12_pops_85 rfl vi_2_16 tk_2 e31 ?_
        refine cb_aload_n 87 2 h dX12_pops_86 rfl rfl rfl ?_
        refine gf_X12_13 90 h dX12_pops_87 rfl ?_
        refine cb_bipush 92 h dX12_pops_90 rfl kb_8 ?_
        refine cb_iload_n 93 1 h dX12_pops_92 rfl rfl rfl ?_
        refine cb_iadd 94 h dX12_pops_93 rfl ?_
        refine cb_iload_n 95 0 h dX12_pops_94 rfl rfl rfl ?_
        obtain ⟨σ32, e33, hf⟩ := cb_let_o hf
        refine saM_2 96 h dX12_pops_95 rfl (cb_in_v g29) rfl e33 ?_
        refine cb_iinc 1 (lv' := [(2, .int (3 : Int32)), (3, .int t27), (0, .ref (a 0)), (1, .int v1)]) 99 h dX12_pops_96 rfl rfl (by decide) (Nat.le_of_ble_eq_true rfl) rfl ?_
        refine cb_goto 58 h dX12_pops_99 rfl ?_
        refine cb_iload_n 59 0 h dX12_pops_58 rfl rfl rfl ?_
        refine cb_bipush 61 h dX12_pops_59 rfl kb_6 ?_
        refine cb_icmp_ge 102 64 h dX12_pops_61 rfl rfl (fun q => absurd q (by decide)) (fun _ => ?_)
        refine cb_aload_n 65 2 h dX12_pops_64 rfl rfl rfl ?_
        refine gf_X12_13 68 h dX12_pops_65 rfl ?_
        refine cb_iload_n 69 0 h dX12_pops_68 rfl rfl rfl ?_
        refine laM_2 70 h dX12_pops_69 rfl vi_3_16 tk_3 ?_
        obtain ⟨t34, e35, hf⟩ := cb_let_o hf
        refine cb_istore_n (lv' := [(3, .int t34), (2, .int (3 : Int32)), (0, .ref (a 0)), (1, .int v1)]) 71 h dX12_pops_70 rfl rfl e35 (Nat.le_of_ble_eq_true rfl) rfl ?_
        refine cb_aload_n 72 2 h dX12_pops_71 rfl rfl rfl ?_
        refine gf_X12_13 75 h dX12_pops_72 rfl ?_
        refine cb_iload_n 76 1 h dX12_pops_75 rfl rfl rfl ?_
        refine cb_aload_n 77 2 h dX12_pops_76 rfl rfl rfl ?_
        refine gf_X12_13 80 h dX12_pops_77 rfl ?_
        refine cb_bipush 82 h dX12_pops_80 rfl kb_8 ?_
        refine cb_iload_n 83 1 h dX12_pops_82 rfl rfl rfl ?_
        refine cb_iadd 84 h dX12_pops_83 rfl ?_
        obtain ⟨g36, hf⟩ := cb_gd_o hf
        refine laM_2 85 h dX12_pops_84 rfl (cb_in_v g36) rfl ?_
        obtain ⟨σ37, e38, hf⟩ := cb_let_o hf
        refine saM_2 86 h dX12_pops_85 rfl vi_3_16 tk_3 e38 ?_
        refine cb_aload_n 87 2 h dX12_pops_86 rfl rfl rfl ?_
        refine gf_X12_13 90 h dX12_pops_87 rfl ?_
        refine cb_bipush 92 h dX12_pops_90 rfl kb_8 ?_
        refine cb_iload_n 93 1 h dX12_pops_92 rfl rfl rfl ?_
        refine cb_iadd 94 h dX12_pops_93 rfl ?_
        refine cb_iload_n 95 0 h dX12_pops_94 rfl rfl rfl ?_
        obtain ⟨σ39, e40, hf⟩ := cb_let_o hf
        refine saM_2 96 h dX12_pops_95 rfl (cb_in_v g36) rfl e40 ?_
        refine cb_iinc 1 (lv' := [(2, .int (4 : Int32)), (3, .int t34), (0, .ref (a 0)), (1, .int v1)]) 99 h dX12_pops_96 rfl rfl (by decide) (Nat.le_of_ble_eq_true rfl) rfl ?_
        refine cb_goto 58 h dX12_pops_99 rfl ?_
        refine cb_iload_n 59 0 h dX12_pops_58 rfl rfl rfl ?_
        refine cb_bipush 61 h dX12_pops_59 rfl kb_6 ?_
        refine cb_icmp_ge 102 64 h dX12_pops_61 rfl rfl (fun q => absurd q (by decide)) (fun _ => ?_)
        refine cb_aload_n 65 2 h dX12_pops_64 rfl rfl rfl ?_
        refine gf_X12_13 68 h dX12_pops_65 rfl ?_
        refine cb_iload_n 69 0 h dX12_pops_68 rfl rfl rfl ?_
        refine laM_2 70 h dX12_pops_69 rfl vi_4_16 tk_4 ?_
        obtain ⟨t41, e42, hf⟩ := cb_let_o hf
        refine cb_istore_n (lv' := [(3, .int t41), (2, .int (4 : Int32)), (0, .ref (a 0)), (1, .int v1)]) 71 h dX12_pops_70 rfl rfl e42 (Nat.le_of_ble_eq_true rfl) rfl ?_
        refine cb_aload_n 72 2 h dX12_pops_71 rfl rfl rfl ?_
        refine gf_X12_13 75 h dX12_pops_72 rfl ?_
        refine cb_iload_n 76 1 h dX12_pops_75 rfl rfl rfl ?_
        refine cb_aload_n 77 2 h dX12_pops_76 rfl rfl rfl ?_
        refine gf_X12_13 80 h dX12_pops_77 rfl ?_
        refine cb_bipush 82 h dX12_pops_80 rfl kb_8 ?_
        refine cb_iload_n 83 1 h dX12_pops_82 rfl rfl rfl ?_
        refine cb_iadd 84 h dX12_pops_83 rfl ?_
        obtain ⟨g43, hf⟩ := cb_gd_o hf
        refine laM_2 85 h dX12_pops_84 rfl (cb_in_v g43) rfl ?_
        obtain ⟨σ44, e45, hf⟩ := cb_let_o hf
        refine saM_2 86 h dX12_pops_85 rfl vi_4_16 tk_4 e45 ?_
        refine cb_aload_n 87 2 h dX12_pops_86 rfl rfl rfl ?_
        refine gf_X12_13 90 h dX12_pops_87 rfl ?_
        refine cb_bipush 92 h dX12_pops_90 rfl kb_8 ?_
        refine cb_iload_n 93 1 h dX12_pops_92 rfl rfl rfl ?_
        refine cb_iadd 94 h dX12_pops_93 rfl ?_
        refine cb_iload_n 95 0 h dX12_pops_94 rfl rfl rfl ?_
        obtain ⟨σ46, e47, hf⟩ := cb_let_o hf
        refine saM_2 96 h dX12_pops_95 rfl (cb_in_v g43) rfl e47 ?_
        refine cb_iinc 1 (lv' := [(2, .int (5 : Int32)), (3, .int t41), (0, .ref (a 0)), (1, .int v1)]) 99 h dX12_pops_96 rfl rfl (by decide) (Nat.le_of_ble_eq_true rfl) rfl ?_
        refine cb_goto 58 h dX12_pops_99 rfl ?_
        refine cb_iload_n 59 0 h dX12_pops_58 rfl rfl rfl ?_
        refine cb_bipush 61 h dX12_pops_59 rfl kb_6 ?_
        refine cb_icmp_ge 102 64 h dX12_pops_61 rfl rfl (fun q => absurd q (by decide)) (fun _ => ?_)
        refine cb_aload_n 65 2 h dX12_pops_64 rfl rfl rfl ?_
        refine gf_X12_13 68 h dX12_pops_65 rfl ?_
        refine cb_iload_n 69 0 h dX12_pops_68 rfl rfl rfl ?_
        refine laM_2 70 h dX12_pops_69 rfl vi_5_16 tk_5 ?_
        obtain ⟨t48, e49, hf⟩ := cb_let_o hf
        refine cb_istore_n (lv' := [(3, .int t48), (2, .int (5 : Int32)), (0, .ref (a 0)), (1, .int v1)]) 71 h dX12_pops_70 rfl rfl e49 (Nat.le_of_ble_eq_true rfl) rfl ?_
        refine cb_aload_n 72 2 h dX12_pops_71 rfl rfl rfl ?_
        refine gf_X12_13 75 h dX12_pops_72 rfl ?_
        refine cb_iload_n 76 1 h dX12_pops_75 rfl rfl rfl ?_
        refine cb_aload_n 77 2 h dX12_pops_76 rfl rfl rfl ?_
        refine gf_X12_13 80 h dX12_pops_77 rfl ?_
        refine cb_bipush 82 h dX12_pops_80 rfl kb_8 ?_
        refine cb_iload_n 83 1 h dX12_pops_82 rfl rfl rfl ?_
        refine cb_iadd 84 h dX12_pops_83 rfl ?_
        obtain ⟨g50, hf⟩ := cb_gd_o hf
        refine laM_2 85 h dX12_pops_84 rfl (cb_in_v g50) rfl ?_
        obtain ⟨σ51, e52, hf⟩ := cb_let_o hf
        refine saM_2 86 h dX12_pops_85 rfl vi_5_16 tk_5 e52 ?_
        refine cb_aload_n 87 2 h dX12_pops_86 rfl rfl rfl ?_
        refine gf_X12_13 90 h dX12_pops_87 rfl ?_
        refine cb_bipush 92 h dX12_pops_90 rfl kb_8 ?_
        refine cb_iload_n 93 1 h dX12_pops_92 rfl rfl rfl ?_
        refine cb_iadd 94 h dX12_pops_93 rfl ?_
        refine cb_iload_n 95 0 h dX12_pops_94 rfl rfl rfl ?_
        obtain ⟨σ53, e54, hf⟩ := cb_let_o hf
        refine saM_2 96 h dX12_pops_95 rfl (cb_in_v g50) rfl e54 ?_
        refine cb_iinc 1 (lv' := [(2, .int (6 : Int32)), (3, .int t48), (0, .ref (a 0)), (1, .int v1)]) 99 h dX12_pops_96 rfl rfl (by decide) (Nat.le_of_ble_eq_true rfl) rfl ?_
        refine cb_goto 58 h dX12_pops_99 rfl ?_
        refine cb_iload_n 59 0 h dX12_pops_58 rfl rfl rfl ?_
        refine cb_bipush 61 h dX12_pops_59 rfl kb_6 ?_
        refine cb_icmp_ge 102 64 h dX12_pops_61 rfl rfl (fun _ => ?_) (fun q => absurd q (by decide))
        refine cb_goto 131 h dX12_pops_102 rfl ?_
        exact cb_lv [3] rfl (j131 _ hf)
    · have hf := cb_it q4 hf
      refine cb_aload_n 41 0 h dX12_pops_40 rfl rfl rfl ?_
      refine cb_aload_n 42 0 h dX12_pops_41 rfl rfl rfl ?_
      obtain ⟨c55, σc55, ec55, hf⟩ := cb_b2_o hf
      refine cl_X12_216 45 h dX12_pops_42 rfl (mt_pop ec55) ⟨rfl, rfl, Nat.le_of_ble_eq_true rfl, Nat.le_of_ble_eq_true rfl⟩ rfl (Nat.le_of_ble_eq_true rfl) ?_
      obtain ⟨σ56, e57, hf⟩ := cb_let_o hf
      refine pf_X12_102 48 h dX12_pops_45 rfl e57 ?_
      refine cb_goto 131 h dX12_pops_48 rfl ?_
      exact cb_lv [1] rfl (j131 _ hf)
  · have hf := cb_it q3 hf
    refine cb_aload_n 7 0 h dX12_pops_6 rfl rfl rfl ?_
    obtain ⟨c58, σc58, ec58, hf⟩ := cb_b2_o hf
    refine cl_X12_216 10 h dX12_pops_7 rfl (mt_pop ec58) ⟨rfl, rfl, Nat.le_of_ble_eq_true rfl, Nat.le_of_ble_eq_true rfl⟩ rfl (Nat.le_of_ble_eq_true rfl) ?_
    refine cb_istore_n (lv' := [(2, .int c58), (0, .ref (a 0)), (1, .int v1)]) 11 h dX12_pops_10 rfl rfl rfl (Nat.le_of_ble_eq_true rfl) rfl ?_
    refine cb_iload_n 12 2 h dX12_pops_11 rfl rfl rfl ?_
    refine cb_bipush 14 h dX12_pops_12 rfl kb_6 ?_
    refine cb_icmp_ne 26 17 h dX12_pops_14 rfl rfl (fun q59 => ?_) (fun q59 => ?_)
    · have hf := cb_if q59 hf
      refine cb_aload_n 27 1 h dX12_pops_26 rfl rfl rfl ?_
      refine cb_iload_n 28 2 h dX12_pops_27 rfl rfl rfl ?_
      refine cb_iload_n 29 0 h dX12_pops_28 rfl rfl rfl ?_
      obtain ⟨σc60, ec60, hf⟩ := cb_bo_o hf
      refine cl_X12_112 32 h dX12_pops_29 rfl (mt_putPair ec60) ⟨rfl, rfl, Nat.le_of_ble_eq_true rfl, Nat.le_of_ble_eq_true rfl⟩ rfl (Nat.le_of_ble_eq_true rfl) ?_
      refine cb_bipush 34 h dX12_pops_32 rfl kb_10 ?_
      exact cb_retI (Wf := WM a ca) h dX12_pops_34 he hf
    · have hf := cb_it q59 hf
      refine cb_aload_n 18 1 h dX12_pops_17 rfl rfl rfl ?_
      refine cb_iconst 19 h dX12_pops_18 rfl kc_0 ?_
      refine cb_iload_n 20 0 h dX12_pops_19 rfl rfl rfl ?_
      obtain ⟨σc61, ec61, hf⟩ := cb_bo_o hf
      refine cl_X12_207 23 h dX12_pops_20 rfl (mt_putAf ec61) ⟨rfl, rfl, Nat.le_of_ble_eq_true rfl, Nat.le_of_ble_eq_true rfl⟩ rfl (Nat.le_of_ble_eq_true rfl) ?_
      refine cb_goto 32 h dX12_pops_23 rfl ?_
      refine cb_bipush 34 h dX12_pops_32 rfl kb_10 ?_
      exact cb_retI (Wf := WM a ca) h dX12_pops_34 he hf
set_option maxRecDepth 100000 in
set_option maxHeartbeats 4000000 in
theorem mt_push {l : Launch} {D : va_G} {a : Nat → Nat} {ca : Nat → ClassId} {σ σ' : cb_S} {v1 : Int32} (hf : m_push σ v1 = some σ') : cb_C l yX12_push cX12_push 2 none { frames := 2, cells := 0, slots := 0, locals := 44 } D (EM ca) (adM a) [.ref (a 0), .int v1] (WM a ca σ) none (WM a ca σ') := by
  refine cb_mk [(0, .ref (a 0)), (1, .int v1)] (by decide) (Nat.le_of_ble_eq_true rfl) rfl (fun X h he => ?_) goodM
  have h : cb_ok X cX12_push RX12 (EM ca) 2 44 2 := h
  unfold m_push at hf
  refine cb_aload_n 1 0 h dX12_push_0 rfl rfl rfl ?_
  refine cb_aload_n 2 0 h dX12_push_1 rfl rfl rfl ?_
  refine gf_X12_17 5 h dX12_push_2 rfl ?_
  refine cb_iconst 6 h dX12_push_5 rfl kc_2 ?_
  refine cb_isub 7 h dX12_push_6 rfl ?_
  refine cb_ldc 9 h dX12_push_7 rfl (cb_t3 162 rfl rfl) ?_
  refine cb_iand 10 h dX12_push_9 rfl ?_
  obtain ⟨σ1, e2, hf⟩ := cb_let_o hf
  refine pf_X12_17 13 h dX12_push_10 rfl e2 ?_
  refine cb_aload_n 14 0 h dX12_push_13 rfl rfl rfl ?_
  refine cb_aload_n 15 0 h dX12_push_14 rfl rfl rfl ?_
  refine gf_X12_17 18 h dX12_push_15 rfl ?_
  refine cb_iload_n 19 1 h dX12_push_18 rfl rfl rfl ?_
  obtain ⟨σc3, ec3, hf⟩ := cb_bo_o hf
  refine cl_X12_115 22 h dX12_push_19 rfl (mt_putWord ec3) ⟨rfl, rfl, Nat.le_of_ble_eq_true rfl, Nat.le_of_ble_eq_true rfl⟩ rfl (Nat.le_of_ble_eq_true rfl) ?_
  exact cb_retV (Wf := WM a ca) h dX12_push_22 he hf
set_option maxRecDepth 100000 in
set_option maxHeartbeats 4000000 in
theorem mt_even {l : Launch} {D : va_G} {ca : Nat → ClassId} {w : va_W} {v0 : Int32} {r : Int32} {as : List Nat} (hf : m_even v0 = some r) : cb_C l yX12_even cX12_even 3 (some .boolean) { frames := 0, cells := 0, slots := 0, locals := 0 } D (EM ca) (as) [.int v0] (w) (some (.int r)) (w) := by
  refine cb_mk [(0, .int v0)] (by decide) (Nat.le_of_ble_eq_true rfl) rfl (fun X h he => ?_) goodM
  have h : cb_ok X cX12_even RX12 (EM ca) 0 0 3 := h
  unfold m_even at hf
  refine cb_iconst 1 h dX12_even_0 rfl kc_0 ?_
  refine cb_istore_n (lv' := [(1, .int (0 : Int32)), (0, .int v0)]) 2 h dX12_even_1 rfl rfl rfl (Nat.le_of_ble_eq_true rfl) rfl ?_
  refine cb_iconst 3 h dX12_even_2 rfl kc_0 ?_
  refine cb_istore_n (lv' := [(2, .int (0 : Int32)), (1, .int (0 : Int32)), (0, .int v0)]) 4 h dX12_even_3 rfl rfl rfl (Nat.le_of_ble_eq_true rfl) rfl ?_
  refine cb_iload_n 5 0 h dX12_even_4 rfl rfl rfl ?_
  refine cb_bipush 7 h dX12_even_5 rfl kb_8 ?_
  refine cb_icmp_ge 24 10 h dX12_even_7 rfl rfl (fun q => absurd q (by decide)) (fun _ => ?_)
  refine cb_iload_n 11 1 h dX12_even_10 rfl rfl rfl ?_
  refine cb_iload_n 12 2 h dX12_even_11 rfl rfl rfl ?_
  refine cb_iload_n 13 0 h dX12_even_12 rfl rfl rfl ?_
  refine cb_ishr 14 h dX12_even_13 rfl ?_
  refine cb_iconst 15 h dX12_even_14 rfl kc_1 ?_
  refine cb_iand 16 h dX12_even_15 rfl ?_
  refine cb_iadd 17 h dX12_even_16 rfl ?_
  obtain ⟨t1, e2, hf⟩ := cb_let_o hf
  refine cb_istore_n (lv' := [(1, .int t1), (2, .int (0 : Int32)), (0, .int v0)]) 18 h dX12_even_17 rfl rfl e2 (Nat.le_of_ble_eq_true rfl) rfl ?_
  refine cb_iinc 1 (lv' := [(2, .int (1 : Int32)), (1, .int t1), (0, .int v0)]) 21 h dX12_even_18 rfl rfl (by decide) (Nat.le_of_ble_eq_true rfl) rfl ?_
  refine cb_goto 4 h dX12_even_21 rfl ?_
  refine cb_iload_n 5 0 h dX12_even_4 rfl rfl rfl ?_
  refine cb_bipush 7 h dX12_even_5 rfl kb_8 ?_
  refine cb_icmp_ge 24 10 h dX12_even_7 rfl rfl (fun q => absurd q (by decide)) (fun _ => ?_)
  refine cb_iload_n 11 1 h dX12_even_10 rfl rfl rfl ?_
  refine cb_iload_n 12 2 h dX12_even_11 rfl rfl rfl ?_
  refine cb_iload_n 13 0 h dX12_even_12 rfl rfl rfl ?_
  refine cb_ishr 14 h dX12_even_13 rfl ?_
  refine cb_iconst 15 h dX12_even_14 rfl kc_1 ?_
  refine cb_iand 16 h dX12_even_15 rfl ?_
  refine cb_iadd 17 h dX12_even_16 rfl ?_
  obtain ⟨t3, e4, hf⟩ := cb_let_o hf
  refine cb_istore_n (lv' := [(1, .int t3), (2, .int (1 : Int32)), (0, .int v0)]) 18 h dX12_even_17 rfl rfl e4 (Nat.le_of_ble_eq_true rfl) rfl ?_
  refine cb_iinc 1 (lv' := [(2, .int (2 : Int32)), (1, .int t3), (0, .int v0)]) 21 h dX12_even_18 rfl rfl (by decide) (Nat.le_of_ble_eq_true rfl) rfl ?_
  refine cb_goto 4 h dX12_even_21 rfl ?_
  refine cb_iload_n 5 0 h dX12_even_4 rfl rfl rfl ?_
  refine cb_bipush 7 h dX12_even_5 rfl kb_8 ?_
  refine cb_icmp_ge 24 10 h dX12_even_7 rfl rfl (fun q => absurd q (by decide)) (fun _ => ?_)
  refine cb_iload_n 11 1 h dX12_even_10 rfl rfl rfl ?_
  refine cb_iload_n 12 2 h dX12_even_11 rfl rfl rfl ?_
  refine cb_iload_n 13 0 h dX12_even_12 rfl rfl rfl ?_
  refine cb_ishr 14 h dX12_even_13 rfl ?_
  refine cb_iconst 15 h dX12_even_14 rfl kc_1 ?_
  refine cb_iand 16 h dX12_even_15 rfl ?_
  refine cb_iadd 17 h dX12_even_16 rfl ?_
  obtain ⟨t5, e6, hf⟩ := cb_let_o hf
  refine cb_istore_n (lv' := [(1, .int t5), (2, .int (2 : Int32)), (0, .int v0)]) 18 h dX12_even_17 rfl rfl e6 (Nat.le_of_ble_eq_true rfl) rfl ?_
  refine cb_iinc 1 (lv' := [(2, .int (3 : Int32)), (1, .int t5), (0, .int v0)]) 21 h dX12_even_18 rfl rfl (by decide) (Nat.le_of_ble_eq_true rfl) rfl ?_
  refine cb_goto 4 h dX12_even_21 rfl ?_
  refine cb_iload_n 5 0 h dX12_even_4 rfl rfl rfl ?_
  refine cb_bipush 7 h dX12_even_5 rfl kb_8 ?_
  refine cb_icmp_ge 24 10 h dX12_even_7 rfl rfl (fun q => absurd q (by decide)) (fun _ => ?_)
  refine cb_iload_n 11 1 h dX12_even_10 rfl rfl rfl ?_
  refine cb_iload_n 12 2 h dX12_even_11 rfl rfl rfl ?_
  refine cb_iload_n 13 0 h dX12_even_12 rfl rfl rfl ?_
  refine cb_ishr 14 h dX12_even_13 rfl ?_
  refine cb_iconst 15 h dX12_even_14 rfl kc_1 ?_
  refine cb_iand 16 h dX12_even_15 rfl ?_
  refine cb_iadd 17 h dX12_even_16 rfl ?_
  obtain ⟨t7, e8, hf⟩ := cb_let_o hf
  refine cb_istore_n (lv' := [(1, .int t7), (2, .int (3 : Int32)), (0, .int v0)]) 18 h dX12_even_17 rfl rfl e8 (Nat.le_of_ble_eq_true rfl) rfl ?_
  refine cb_iinc 1 (lv' := [(2, .int (4 : Int32)), (1, .int t7), (0, .int v0)]) 21 h dX12_even_18 rfl rfl (by decide) (Nat.le_of_ble_eq_true rfl) rfl ?_
  refine cb_goto 4 h dX12_even_21 rfl ?_
  refine cb_iload_n 5 0 h dX12_even_4 rfl rfl rfl ?_
  refine cb_bipush 7 h dX12_even_5 rfl kb_8 ?_
  refine cb_icmp_ge 24 10 h dX12_even_7 rfl rfl (fun q => absurd q (by decide)) (fun _ => ?_)
  refine cb_iload_n 11 1 h dX12_even_10 rfl rfl rfl ?_
  refine cb_iload_n 12 2 h dX12_even_11 rfl rfl rfl ?_
  refine cb_iload_n 13 0 h dX12_even_12 rfl rfl rfl ?_
  refine cb_ishr 14 h dX12_even_13 rfl ?_
  refine cb_iconst 15 h dX12_even_14 rfl kc_1 ?_
  refine cb_iand 16 h dX12_even_15 rfl ?_
  refine cb_iadd 17 h dX12_even_16 rfl ?_
  obtain ⟨t9, e10, hf⟩ := cb_let_o hf
  refine cb_istore_n (lv' := [(1, .int t9), (2, .int (4 : Int32)), (0, .int v0)]) 18 h dX12_even_17 rfl rfl e10 (Nat.le_of_ble_eq_true rfl) rfl ?_
  refine cb_iinc 1 (lv' := [(2, .int (5 : Int32)), (1, .int t9), (0, .int v0)]) 21 h dX12_even_18 rfl rfl (by decide) (Nat.le_of_ble_eq_true rfl) rfl ?_
  refine cb_goto 4 h dX12_even_21 rfl ?_
  refine cb_iload_n 5 0 h dX12_even_4 rfl rfl rfl ?_
  refine cb_bipush 7 h dX12_even_5 rfl kb_8 ?_
  refine cb_icmp_ge 24 10 h dX12_even_7 rfl rfl (fun q => absurd q (by decide)) (fun _ => ?_)
  refine cb_iload_n 11 1 h dX12_even_10 rfl rfl rfl ?_
  refine cb_iload_n 12 2 h dX12_even_11 rfl rfl rfl ?_
  refine cb_iload_n 13 0 h dX12_even_12 rfl rfl rfl ?_
  refine cb_ishr 14 h dX12_even_13 rfl ?_
  refine cb_iconst 15 h dX12_even_14 rfl kc_1 ?_
  refine cb_iand 16 h dX12_even_15 rfl ?_
  refine cb_iadd 17 h dX12_even_16 rfl ?_
  obtain ⟨t11, e12, hf⟩ := cb_let_o hf
  refine cb_istore_n (lv' := [(1, .int t11), (2, .int (5 : Int32)), (0, .int v0)]) 18 h dX12_even_17 rfl rfl e12 (Nat.le_of_ble_eq_true rfl) rfl ?_
  refine cb_iinc 1 (lv' := [(2, .int (6 : Int32)), (1, .int t11), (0, .int v0)]) 21 h dX12_even_18 rfl rfl (by decide) (Nat.le_of_ble_eq_true rfl) rfl ?_
  refine cb_goto 4 h dX12_even_21 rfl ?_
  refine cb_iload_n 5 0 h dX12_even_4 rfl rfl rfl ?_
  refine cb_bipush 7 h dX12_even_5 rfl kb_8 ?_
  refine cb_icmp_ge 24 10 h dX12_even_7 rfl rfl (fun q => absurd q (by decide)) (fun _ => ?_)
  refine cb_iload_n 11 1 h dX12_even_10 rfl rfl rfl ?_
  refine cb_iload_n 12 2 h dX12_even_11 rfl rfl rfl ?_
  refine cb_iload_n 13 0 h dX12_even_12 rfl rfl rfl ?_
  refine cb_ishr 14 h dX12_even_13 rfl ?_
  refine cb_iconst 15 h dX12_even_14 rfl kc_1 ?_
  refine cb_iand 16 h dX12_even_15 rfl ?_
  refine cb_iadd 17 h dX12_even_16 rfl ?_
  obtain ⟨t13, e14, hf⟩ := cb_let_o hf
  refine cb_istore_n (lv' := [(1, .int t13), (2, .int (6 : Int32)), (0, .int v0)]) 18 h dX12_even_17 rfl rfl e14 (Nat.le_of_ble_eq_true rfl) rfl ?_
  refine cb_iinc 1 (lv' := [(2, .int (7 : Int32)), (1, .int t13), (0, .int v0)]) 21 h dX12_even_18 rfl rfl (by decide) (Nat.le_of_ble_eq_true rfl) rfl ?_
  refine cb_goto 4 h dX12_even_21 rfl ?_
  refine cb_iload_n 5 0 h dX12_even_4 rfl rfl rfl ?_
  refine cb_bipush 7 h dX12_even_5 rfl kb_8 ?_
  refine cb_icmp_ge 24 10 h dX12_even_7 rfl rfl (fun q => absurd q (by decide)) (fun _ => ?_)
  refine cb_iload_n 11 1 h dX12_even_10 rfl rfl rfl ?_
  refine cb_iload_n 12 2 h dX12_even_11 rfl rfl rfl ?_
  refine cb_iload_n 13 0 h dX12_even_12 rfl rfl rfl ?_
  refine cb_ishr 14 h dX12_even_13 rfl ?_
  refine cb_iconst 15 h dX12_even_14 rfl kc_1 ?_
  refine cb_iand 16 h dX12_even_15 rfl ?_
  refine cb_iadd 17 h dX12_even_16 rfl ?_
  obtain ⟨t15, e16, hf⟩ := cb_let_o hf
  refine cb_istore_n (lv' := [(1, .int t15), (2, .int (7 : Int32)), (0, .int v0)]) 18 h dX12_even_17 rfl rfl e16 (Nat.le_of_ble_eq_true rfl) rfl ?_
  refine cb_iinc 1 (lv' := [(2, .int (8 : Int32)), (1, .int t15), (0, .int v0)]) 21 h dX12_even_18 rfl rfl (by decide) (Nat.le_of_ble_eq_true rfl) rfl ?_
  refine cb_goto 4 h dX12_even_21 rfl ?_
  refine cb_iload_n 5 0 h dX12_even_4 rfl rfl rfl ?_
  refine cb_bipush 7 h dX12_even_5 rfl kb_8 ?_
  refine cb_icmp_ge 24 10 h dX12_even_7 rfl rfl (fun _ => ?_) (fun q => absurd q (by decide))
  refine cb_iload_n 25 1 h dX12_even_24 rfl rfl rfl ?_
  refine cb_iconst 26 h dX12_even_25 rfl kc_2 ?_
  refine cb_irem 27 h dX12_even_26 rfl (by decide) ?_
  refine cb_cut (cb_V X (w) 35 [(2, .int (8 : Int32)), (1, .int t15), (0, .int v0)] [.int (if (t15 - t15 / (2 : Int32) * (2 : Int32)) = 0 then (1 : Int32) else (0 : Int32))]) (fun jj => ?_) ?_
  · refine cb_if_ne 34 30 h dX12_even_27 rfl rfl (fun q17 => ?_) (fun q17 => ?_)
    · refine cb_iconst 35 h dX12_even_34 rfl kc_0 ?_
      exact (cb_tf q17 jj)
    · refine cb_iconst 31 h dX12_even_30 rfl kc_1 ?_
      refine cb_goto 35 h dX12_even_31 rfl ?_
      exact (cb_tt q17 jj)
  exact cb_retB h dX12_even_35 he (cb_01_i cb_01_1 cb_01_0) hf
set_option maxRecDepth 100000 in
set_option maxHeartbeats 4000000 in
theorem mt_shown {l : Launch} {D : va_G} {a : Nat → Nat} {ca : Nat → ClassId} {σ σ' : cb_S} {v1 : Int32} (hf : m_shown σ v1 = some σ') : cb_C l yX12_shown cX12_shown 2 none { frames := 1, cells := 0, slots := 0, locals := 22 } D (EM ca) (adM a) [.ref (a 0), .int v1] (WM a ca σ) none (WM a ca σ') := by
  refine cb_mk [(0, .ref (a 0)), (1, .int v1)] (by decide) (Nat.le_of_ble_eq_true rfl) rfl (fun X h he => ?_) goodM
  have h : cb_ok X cX12_shown RX12 (EM ca) 1 22 2 := h
  unfold m_shown at hf
  refine cb_aload_n 1 0 h dX12_shown_0 rfl rfl rfl ?_
  refine cb_sipush 4 h dX12_shown_1 rfl ks_128 ?_
  refine cb_iload_n 5 1 h dX12_shown_4 rfl rfl rfl ?_
  refine cb_bipush 7 h dX12_shown_5 rfl kb_127 ?_
  refine cb_cut (cb_V X (WM a ca σ) 15 [(0, .ref (a 0)), (1, .int v1)] [.int (if v1 ≤ (127 : Int32) then (0 : Int32) else (1 : Int32)), .int (128 : Int32), .ref (a 0)]) (fun jj => ?_) ?_
  · refine cb_icmp_le 14 10 h dX12_shown_7 rfl rfl (fun q1 => ?_) (fun q1 => ?_)
    · refine cb_iconst 15 h dX12_shown_14 rfl kc_0 ?_
      exact (cb_tt q1 jj)
    · refine cb_iconst 11 h dX12_shown_10 rfl kc_1 ?_
      refine cb_goto 15 h dX12_shown_11 rfl ?_
      exact (cb_tf q1 jj)
  obtain ⟨σc2, ec2, hf⟩ := cb_bo_o hf
  refine cl_X12_139 18 h dX12_shown_15 rfl (mt_setFlag ec2) ⟨rfl, rfl, Nat.le_of_ble_eq_true rfl, Nat.le_of_ble_eq_true rfl⟩ rfl (Nat.le_of_ble_eq_true rfl) ?_
  refine cb_aload_n 19 0 h dX12_shown_18 rfl rfl rfl ?_
  refine cb_bipush 21 h dX12_shown_19 rfl kb_64 ?_
  refine cb_iload_n 22 1 h dX12_shown_21 rfl rfl rfl ?_
  refine cb_cut (cb_V X (WM a ca σc2) 30 [(0, .ref (a 0)), (1, .int v1)] [.int (if v1 = 0 then (1 : Int32) else (0 : Int32)), .int (64 : Int32), .ref (a 0)]) (fun jj => ?_) ?_
  · refine cb_if_ne 29 25 h dX12_shown_22 rfl rfl (fun q3 => ?_) (fun q3 => ?_)
    · refine cb_iconst 30 h dX12_shown_29 rfl kc_0 ?_
      exact (cb_tf q3 jj)
    · refine cb_iconst 26 h dX12_shown_25 rfl kc_1 ?_
      refine cb_goto 30 h dX12_shown_26 rfl ?_
      exact (cb_tt q3 jj)
  obtain ⟨σc4, ec4, hf⟩ := cb_bo_o hf
  refine cl_X12_139 33 h dX12_shown_30 rfl (mt_setFlag ec4) ⟨rfl, rfl, Nat.le_of_ble_eq_true rfl, Nat.le_of_ble_eq_true rfl⟩ rfl (Nat.le_of_ble_eq_true rfl) ?_
  refine cb_aload_n 34 0 h dX12_shown_33 rfl rfl rfl ?_
  refine cb_iconst 35 h dX12_shown_34 rfl kc_4 ?_
  refine cb_iload_n 36 1 h dX12_shown_35 rfl rfl rfl ?_
  obtain ⟨c5, ec5, hf⟩ := cb_bo_o hf
  refine cl_X12_147 39 h dX12_shown_36 rfl (mt_even ec5) ⟨rfl, rfl, Nat.le_of_ble_eq_true rfl, Nat.le_of_ble_eq_true rfl⟩ rfl (Nat.le_of_ble_eq_true rfl) ?_
  obtain ⟨σc6, ec6, hf⟩ := cb_bo_o hf
  refine cl_X12_139 42 h dX12_shown_39 rfl (mt_setFlag ec6) ⟨rfl, rfl, Nat.le_of_ble_eq_true rfl, Nat.le_of_ble_eq_true rfl⟩ rfl (Nat.le_of_ble_eq_true rfl) ?_
  exact cb_retV (Wf := WM a ca) h dX12_shown_42 he hf
set_option maxRecDepth 100000 in
set_option maxHeartbeats 4000000 in
theorem mt_bits {l : Launch} {D : va_G} {a : Nat → Nat} {ca : Nat → ClassId} {σ σ' : cb_S} {r : Int32} (hf : m_bits σ = some (r, σ')) : cb_C l yX12_bits cX12_bits 6 (some .int) { frames := 2, cells := 0, slots := 0, locals := 48 } D (EM ca) (adM a) [.ref (a 0)] (WM a ca σ) (some (.int r)) (WM a ca σ') := by
  refine cb_mk [(0, .ref (a 0))] (by decide) (Nat.le_of_ble_eq_true rfl) rfl (fun X h he => ?_) goodM
  have h : cb_ok X cX12_bits RX12 (EM ca) 2 48 6 := h
  unfold m_bits at hf
  have j186 : ∀ (σ : cb_S) (x1 : Int32) (x2 : Int32), m_bits_L186 σ x1 x2 = some (r, σ') → cb_V X (WM a ca σ) 186 [(1, .int x1), (2, .int x2)] [] := by
    intro σ x1 x2 hf
    unfold m_bits_L186 at hf
    refine cb_iload_n 187 1 h dX12_bits_186 rfl rfl rfl ?_
    refine cb_bipush 189 h dX12_bits_187 rfl kb_6 ?_
    refine cb_cut (cb_V X (WM a ca σ) 217 [(1, .int x1), (2, .int x2)] [.int (if x2 = (6 : Int32) then (if x1 < (64 : Int32) then (15 : Int32) else (if (128 : Int32) ≤ x1 then (15 : Int32) else (12 : Int32))) else (8 : Int32))]) (fun jj => ?_) ?_
    · refine cb_icmp_eq 197 192 h dX12_bits_189 rfl rfl (fun q1 => ?_) (fun q1 => ?_)
      · refine cb_iload_n 198 0 h dX12_bits_197 rfl rfl rfl ?_
        refine cb_bipush 200 h dX12_bits_198 rfl kb_64 ?_
        refine cb_icmp_lt 215 203 h dX12_bits_200 rfl rfl (fun q2 => ?_) (fun q2 => ?_)
        · refine cb_bipush 217 h dX12_bits_215 rfl kb_15 ?_
          exact (cb_tt q2 (cb_tt q1 jj))
        · refine cb_iload_n 204 0 h dX12_bits_203 rfl rfl rfl ?_
          refine cb_sipush 207 h dX12_bits_204 rfl ks_128 ?_
          refine cb_icmp_ge 215 210 h dX12_bits_207 rfl rfl (fun q3 => ?_) (fun q3 => ?_)
          · refine cb_bipush 217 h dX12_bits_215 rfl kb_15 ?_
            exact (cb_tt q3 (cb_tf q2 (cb_tt q1 jj)))
          · refine cb_bipush 212 h dX12_bits_210 rfl kb_12 ?_
            refine cb_goto 217 h dX12_bits_212 rfl ?_
            exact (cb_tf q3 (cb_tf q2 (cb_tt q1 jj)))
      · refine cb_bipush 194 h dX12_bits_192 rfl kb_8 ?_
        refine cb_goto 217 h dX12_bits_194 rfl ?_
        exact (cb_tf q1 jj)
    exact cb_retI (Wf := WM a ca) h dX12_bits_217 he hf
  refine cb_aload_n 1 0 h dX12_bits_0 rfl rfl rfl ?_
  obtain ⟨c4, σc4, ec4, hf⟩ := cb_b2_o hf
  refine cl_X12_105 4 h dX12_bits_1 rfl (mt_next ec4) ⟨rfl, rfl, Nat.le_of_ble_eq_true rfl, Nat.le_of_ble_eq_true rfl⟩ rfl (Nat.le_of_ble_eq_true rfl) ?_
  refine cb_istore_n (lv' := [(1, .int c4), (0, .ref (a 0))]) 5 h dX12_bits_4 rfl rfl rfl (Nat.le_of_ble_eq_true rfl) rfl ?_
  refine cb_iload_n 6 0 h dX12_bits_5 rfl rfl rfl ?_
  refine cb_bipush 8 h dX12_bits_6 rfl kb_7 ?_
  refine cb_iand 9 h dX12_bits_8 rfl ?_
  obtain ⟨t5, e6, hf⟩ := cb_let_o hf
  refine cb_istore_n (lv' := [(2, .int t5), (1, .int c4), (0, .ref (a 0))]) 10 h dX12_bits_9 rfl rfl e6 (Nat.le_of_ble_eq_true rfl) rfl ?_
  refine cb_iload_n 11 1 h dX12_bits_10 rfl rfl rfl ?_
  refine cb_iconst 12 h dX12_bits_11 rfl kc_3 ?_
  refine cb_ishr 13 h dX12_bits_12 rfl ?_
  refine cb_bipush 15 h dX12_bits_13 rfl kb_7 ?_
  refine cb_iand 16 h dX12_bits_15 rfl ?_
  obtain ⟨t7, e8, hf⟩ := cb_let_o hf
  refine cb_istore_n (lv' := [(3, .int t7), (2, .int t5), (1, .int c4), (0, .ref (a 0))]) 17 h dX12_bits_16 rfl rfl e8 (Nat.le_of_ble_eq_true rfl) rfl ?_
  refine cb_aload_n 18 3 h dX12_bits_17 rfl rfl rfl ?_
  refine cb_iload_n 19 1 h dX12_bits_18 rfl rfl rfl ?_
  obtain ⟨c9, ec9, hf⟩ := cb_bo_o hf
  refine cl_X12_170 22 h dX12_bits_19 rfl (mt_get ec9) ⟨rfl, rfl, Nat.le_of_ble_eq_true rfl, Nat.le_of_ble_eq_true rfl⟩ rfl (Nat.le_of_ble_eq_true rfl) ?_
  refine cb_istore (lv' := [(4, .int c9), (3, .int t7), (2, .int t5), (1, .int c4), (0, .ref (a 0))]) 24 h dX12_bits_22 rfl rfl (Nat.le_of_ble_eq_true rfl) rfl ?_
  refine cb_iload_n 25 3 h dX12_bits_24 rfl rfl rfl ?_
  refine cb_bipush 27 h dX12_bits_25 rfl kb_64 ?_
  refine cb_icmp_ge 63 30 h dX12_bits_27 rfl rfl (fun q10 => ?_) (fun q10 => ?_)
  · have hf := cb_it q10 hf
    refine cb_iload_n 64 3 h dX12_bits_63 rfl rfl rfl ?_
    refine cb_sipush 67 h dX12_bits_64 rfl ks_128 ?_
    refine cb_icmp_ge 157 70 h dX12_bits_67 rfl rfl (fun q11 => ?_) (fun q11 => ?_)
    · have hf := cb_it q11 hf
      refine cb_aload_n 158 4 h dX12_bits_157 rfl rfl rfl ?_
      refine cb_iload_n 159 2 h dX12_bits_158 rfl rfl rfl ?_
      refine cb_iload_n 160 3 h dX12_bits_159 rfl rfl rfl ?_
      refine cb_sipush 163 h dX12_bits_160 rfl ks_192 ?_
      refine cb_cut (cb_V X (WM a ca σc4) 183 [(4, .int c9), (3, .int t7), (2, .int t5), (1, .int c4), (0, .ref (a 0))] [.int (if (192 : Int32) ≤ c4 then (c9 ||| ((1 : Int32) <<< (t7 &&& 31))) else (c9 &&& (((1 : Int32) <<< (t7 &&& 31)) ^^^ (-1 : Int32)))), .int t5, .ref (a 0)]) (fun jj => ?_) ?_
      · refine cb_icmp_ge 177 166 h dX12_bits_163 rfl rfl (fun q12 => ?_) (fun q12 => ?_)
        · refine cb_iload 179 0 h dX12_bits_177 rfl rfl ?_
          refine cb_iconst 180 h dX12_bits_179 rfl kc_1 ?_
          refine cb_iload_n 181 1 h dX12_bits_180 rfl rfl rfl ?_
          refine cb_ishl 182 h dX12_bits_181 rfl ?_
          refine cb_ior 183 h dX12_bits_182 rfl ?_
          exact (cb_tt q12 jj)
        · refine cb_iload 168 0 h dX12_bits_166 rfl rfl ?_
          refine cb_iconst 169 h dX12_bits_168 rfl kc_1 ?_
          refine cb_iload_n 170 1 h dX12_bits_169 rfl rfl rfl ?_
          refine cb_ishl 171 h dX12_bits_170 rfl ?_
          refine cb_iconst 172 h dX12_bits_171 rfl kc_m1 ?_
          refine cb_ixor 173 h dX12_bits_172 rfl ?_
          refine cb_iand 174 h dX12_bits_173 rfl ?_
          refine cb_goto 183 h dX12_bits_174 rfl ?_
          exact (cb_tf q12 jj)
      obtain ⟨σc13, ec13, hf⟩ := cb_bo_o hf
      refine cl_X12_173 186 h dX12_bits_183 rfl (mt_put ec13) ⟨rfl, rfl, Nat.le_of_ble_eq_true rfl, Nat.le_of_ble_eq_true rfl⟩ rfl (Nat.le_of_ble_eq_true rfl) ?_
      exact cb_lv [3, 2] rfl (j186 _ _ _ hf)
    · have hf := cb_if q11 hf
      refine cb_iload 72 0 h dX12_bits_70 rfl rfl ?_
      refine cb_iload_n 73 1 h dX12_bits_72 rfl rfl rfl ?_
      refine cb_ishr 74 h dX12_bits_73 rfl ?_
      refine cb_iconst 75 h dX12_bits_74 rfl kc_1 ?_
      refine cb_iand 76 h dX12_bits_75 rfl ?_
      refine cb_iconst 77 h dX12_bits_76 rfl kc_1 ?_
      refine cb_cut (cb_V X (WM a ca σc4) 85 [(4, .int c9), (3, .int t7), (2, .int t5), (1, .int c4), (0, .ref (a 0))] [.int (if ((c9 >>> (t7 &&& 31)) &&& (1 : Int32)) = (1 : Int32) then (1 : Int32) else (0 : Int32))]) (fun jj => ?_) ?_
      · refine cb_icmp_ne 84 80 h dX12_bits_77 rfl rfl (fun q14 => ?_) (fun q14 => ?_)
        · refine cb_iconst 85 h dX12_bits_84 rfl kc_0 ?_
          exact (cb_tf q14 jj)
        · refine cb_iconst 81 h dX12_bits_80 rfl kc_1 ?_
          refine cb_goto 85 h dX12_bits_81 rfl ?_
          exact (cb_tt q14 jj)
      obtain ⟨t15, e16, hf⟩ := cb_let_o hf
      refine cb_istore (lv' := [(5, .int t15), (4, .int c9), (3, .int t7), (2, .int t5), (1, .int c4), (0, .ref (a 0))]) 87 h dX12_bits_85 rfl e16 (Nat.le_of_ble_eq_true rfl) rfl ?_
      refine cb_aload_n 88 5 h dX12_bits_87 rfl rfl rfl ?_
      refine cb_bipush 90 h dX12_bits_88 rfl kb_64 ?_
      refine cb_iload 92 0 h dX12_bits_90 rfl rfl ?_
      refine cb_cut (cb_V X (WM a ca σc4) 100 [(5, .int t15), (4, .int c9), (3, .int t7), (2, .int t5), (1, .int c4), (0, .ref (a 0))] [.int (if t15 = 0 then (1 : Int32) else (0 : Int32)), .int (64 : Int32), .ref (a 0)]) (fun jj => ?_) ?_
      · refine cb_if_ne 99 95 h dX12_bits_92 rfl rfl (fun q17 => ?_) (fun q17 => ?_)
        · refine cb_iconst 100 h dX12_bits_99 rfl kc_0 ?_
          exact (cb_tf q17 jj)
        · refine cb_iconst 96 h dX12_bits_95 rfl kc_1 ?_
          refine cb_goto 100 h dX12_bits_96 rfl ?_
          exact (cb_tt q17 jj)
      obtain ⟨σc18, ec18, hf⟩ := cb_bo_o hf
      refine cl_X12_139 103 h dX12_bits_100 rfl (mt_setFlag ec18) ⟨rfl, rfl, Nat.le_of_ble_eq_true rfl, Nat.le_of_ble_eq_true rfl⟩ rfl (Nat.le_of_ble_eq_true rfl) ?_
      refine cb_aload_n 104 5 h dX12_bits_103 rfl rfl rfl ?_
      refine cb_iconst 105 h dX12_bits_104 rfl kc_4 ?_
      refine cb_iload 107 0 h dX12_bits_105 rfl rfl ?_
      refine cb_cut (cb_V X (WM a ca σc18) 115 [(5, .int t15), (4, .int c9), (3, .int t7), (2, .int t5), (1, .int c4), (0, .ref (a 0))] [.int (if t15 = 0 then (1 : Int32) else (0 : Int32)), .int (4 : Int32), .ref (a 0)]) (fun jj => ?_) ?_
      · refine cb_if_ne 114 110 h dX12_bits_107 rfl rfl (fun q19 => ?_) (fun q19 => ?_)
        · refine cb_iconst 115 h dX12_bits_114 rfl kc_0 ?_
          exact (cb_tf q19 jj)
        · refine cb_iconst 111 h dX12_bits_110 rfl kc_1 ?_
          refine cb_goto 115 h dX12_bits_111 rfl ?_
          exact (cb_tt q19 jj)
      obtain ⟨σc20, ec20, hf⟩ := cb_bo_o hf
      refine cl_X12_139 118 h dX12_bits_115 rfl (mt_setFlag ec20) ⟨rfl, rfl, Nat.le_of_ble_eq_true rfl, Nat.le_of_ble_eq_true rfl⟩ rfl (Nat.le_of_ble_eq_true rfl) ?_
      refine cb_aload_n 119 5 h dX12_bits_118 rfl rfl rfl ?_
      refine cb_bipush 121 h dX12_bits_119 rfl kb_16 ?_
      refine cb_iconst 122 h dX12_bits_121 rfl kc_1 ?_
      obtain ⟨σc21, ec21, hf⟩ := cb_bo_o hf
      refine cl_X12_139 125 h dX12_bits_122 rfl (mt_setFlag ec21) ⟨rfl, rfl, Nat.le_of_ble_eq_true rfl, Nat.le_of_ble_eq_true rfl⟩ rfl (Nat.le_of_ble_eq_true rfl) ?_
      refine cb_aload_n 126 5 h dX12_bits_125 rfl rfl rfl ?_
      refine cb_iconst 127 h dX12_bits_126 rfl kc_2 ?_
      refine cb_iconst 128 h dX12_bits_127 rfl kc_0 ?_
      obtain ⟨σc22, ec22, hf⟩ := cb_bo_o hf
      refine cl_X12_139 131 h dX12_bits_128 rfl (mt_setFlag ec22) ⟨rfl, rfl, Nat.le_of_ble_eq_true rfl, Nat.le_of_ble_eq_true rfl⟩ rfl (Nat.le_of_ble_eq_true rfl) ?_
      refine cb_aload_n 132 5 h dX12_bits_131 rfl rfl rfl ?_
      refine cb_sipush 135 h dX12_bits_132 rfl ks_128 ?_
      refine cb_iload_n 136 2 h dX12_bits_135 rfl rfl rfl ?_
      refine cb_bipush 138 h dX12_bits_136 rfl kb_7 ?_
      refine cb_cut (cb_V X (WM a ca σc22) 151 [(5, .int t15), (4, .int c9), (3, .int t7), (2, .int t5), (1, .int c4), (0, .ref (a 0))] [.int (if t7 = (7 : Int32) then (if t15 = 0 then (0 : Int32) else (1 : Int32)) else (0 : Int32)), .int (128 : Int32), .ref (a 0)]) (fun jj => ?_) ?_
      · refine cb_icmp_ne 150 141 h dX12_bits_138 rfl rfl (fun q23 => ?_) (fun q23 => ?_)
        · refine cb_iconst 151 h dX12_bits_150 rfl kc_0 ?_
          exact (cb_tf q23 jj)
        · refine cb_iload 143 0 h dX12_bits_141 rfl rfl ?_
          refine cb_if_eq 150 146 h dX12_bits_143 rfl rfl (fun q24 => ?_) (fun q24 => ?_)
          · refine cb_iconst 151 h dX12_bits_150 rfl kc_0 ?_
            exact (cb_tt q24 (cb_tt q23 jj))
          · refine cb_iconst 147 h dX12_bits_146 rfl kc_1 ?_
            refine cb_goto 151 h dX12_bits_147 rfl ?_
            exact (cb_tf q24 (cb_tt q23 jj))
      obtain ⟨σc25, ec25, hf⟩ := cb_bo_o hf
      refine cl_X12_139 154 h dX12_bits_151 rfl (mt_setFlag ec25) ⟨rfl, rfl, Nat.le_of_ble_eq_true rfl, Nat.le_of_ble_eq_true rfl⟩ rfl (Nat.le_of_ble_eq_true rfl) ?_
      refine cb_goto 186 h dX12_bits_154 rfl ?_
      exact cb_lv [4, 3] rfl (j186 _ _ _ hf)
  · have hf := cb_if q10 hf
    refine cb_iload_n 31 1 h dX12_bits_30 rfl rfl rfl ?_
    refine cb_bipush 33 h dX12_bits_31 rfl kb_6 ?_
    refine cb_icmp_ne 38 36 h dX12_bits_33 rfl rfl (fun q26 => ?_) (fun q26 => ?_)
    · have hf := cb_if q26 hf
      refine cb_aload_n 39 4 h dX12_bits_38 rfl rfl rfl ?_
      refine cb_iload_n 40 1 h dX12_bits_39 rfl rfl rfl ?_
      refine cb_iload 42 0 h dX12_bits_40 rfl rfl ?_
      obtain ⟨c27, σc27, ec27, hf⟩ := cb_b2_o hf
      refine cl_X12_213 45 h dX12_bits_42 rfl (mt_move ec27) ⟨rfl, rfl, Nat.le_of_ble_eq_true rfl, Nat.le_of_ble_eq_true rfl⟩ rfl (Nat.le_of_ble_eq_true rfl) ?_
      refine cb_istore (lv' := [(5, .int c27), (4, .int c9), (3, .int t7), (2, .int t5), (1, .int c4), (0, .ref (a 0))]) 47 h dX12_bits_45 rfl rfl (Nat.le_of_ble_eq_true rfl) rfl ?_
      refine cb_aload_n 48 5 h dX12_bits_47 rfl rfl rfl ?_
      refine cb_iload_n 49 3 h dX12_bits_48 rfl rfl rfl ?_
      refine cb_iload 51 0 h dX12_bits_49 rfl rfl ?_
      obtain ⟨σc28, ec28, hf⟩ := cb_bo_o hf
      refine cl_X12_173 54 h dX12_bits_51 rfl (mt_put ec28) ⟨rfl, rfl, Nat.le_of_ble_eq_true rfl, Nat.le_of_ble_eq_true rfl⟩ rfl (Nat.le_of_ble_eq_true rfl) ?_
      refine cb_aload_n 55 5 h dX12_bits_54 rfl rfl rfl ?_
      refine cb_iload 57 0 h dX12_bits_55 rfl rfl ?_
      obtain ⟨σc29, ec29, hf⟩ := cb_bo_o hf
      refine cl_X12_143 60 h dX12_bits_57 rfl (mt_shown ec29) ⟨rfl, rfl, Nat.le_of_ble_eq_true rfl, Nat.le_of_ble_eq_true rfl⟩ rfl (Nat.le_of_ble_eq_true rfl) ?_
      refine cb_goto 186 h dX12_bits_60 rfl ?_
      exact cb_lv [4, 3] rfl (j186 _ _ _ hf)
    · have hf := cb_it q26 hf
      refine cb_iconst 37 h dX12_bits_36 rfl kc_0 ?_
      exact cb_retI (Wf := WM a ca) h dX12_bits_37 he hf
set_option maxRecDepth 100000 in
set_option maxHeartbeats 4000000 in
theorem mt_control {l : Launch} {D : va_G} {a : Nat → Nat} {ca : Nat → ClassId} {σ σ' : cb_S} {v1 v2 : Int32} (hf : m_control σ v1 v2 = some σ') : cb_C l yX12_control cX12_control 3 none { frames := 0, cells := 0, slots := 0, locals := 0 } D (EM ca) (adM a) [.ref (a 0), .int v1, .int v2] (WM a ca σ) none (WM a ca σ') := by
  refine cb_mk [(0, .ref (a 0)), (1, .int v1), (2, .int v2)] (by decide) (Nat.le_of_ble_eq_true rfl) rfl (fun X h he => ?_) goodM
  have h : cb_ok X cX12_control RX12 (EM ca) 0 0 3 := h
  unfold m_control at hf
  refine cb_aload_n 1 0 h dX12_control_0 rfl rfl rfl ?_
  refine gf_X12_52 4 h dX12_control_1 rfl ?_
  refine cb_iload_n 5 1 h dX12_control_4 rfl rfl rfl ?_
  obtain ⟨g1, hf⟩ := cb_gd_o hf
  refine laM_12 6 h dX12_control_5 rfl (cb_in_v g1) rfl ?_
  refine cb_if_eq 62 9 h dX12_control_6 rfl rfl (fun q2 => ?_) (fun q2 => ?_)
  · have hf := cb_it q2 hf
    refine cb_iload_n 63 2 h dX12_control_62 rfl rfl rfl ?_
    refine cb_iconst 64 h dX12_control_63 rfl kc_1 ?_
    refine cb_iand 65 h dX12_control_64 rfl ?_
    refine cb_if_ne 80 68 h dX12_control_65 rfl rfl (fun q3 => ?_) (fun q3 => ?_)
    · have hf := cb_if q3 hf
      refine cb_aload_n 81 0 h dX12_control_80 rfl rfl rfl ?_
      refine gf_X12_31 84 h dX12_control_81 rfl ?_
      refine cb_iload_n 85 1 h dX12_control_84 rfl rfl rfl ?_
      refine cb_iload_n 86 2 h dX12_control_85 rfl rfl rfl ?_
      refine cb_sipush 89 h dX12_control_86 rfl ks_128 ?_
      refine cb_iand 90 h dX12_control_89 rfl ?_
      refine cb_cut (cb_V X (WM a ca σ) 98 [(0, .ref (a 0)), (1, .int v1), (2, .int v2)] [.int (if (v2 &&& (128 : Int32)) = 0 then (0 : Int32) else (1 : Int32)), .int v1, .ref (a 5)]) (fun jj => ?_) ?_
      · refine cb_if_eq 97 93 h dX12_control_90 rfl rfl (fun q4 => ?_) (fun q4 => ?_)
        · refine cb_iconst 98 h dX12_control_97 rfl kc_0 ?_
          exact (cb_tt q4 jj)
        · refine cb_iconst 94 h dX12_control_93 rfl kc_1 ?_
          refine cb_goto 98 h dX12_control_94 rfl ?_
          exact (cb_tf q4 jj)
      obtain ⟨g5, hf⟩ := cb_gd_o hf
      obtain ⟨σ6, e7, hf⟩ := cb_let_o hf
      refine saM_5 99 h dX12_control_98 rfl (cb_in_v g5) rfl (cb_01_i cb_01_0 cb_01_1) e7 ?_
      refine cb_aload_n 100 0 h dX12_control_99 rfl rfl rfl ?_
      refine gf_X12_24 103 h dX12_control_100 rfl ?_
      refine cb_iload_n 104 1 h dX12_control_103 rfl rfl rfl ?_
      refine cb_aload_n 105 0 h dX12_control_104 rfl rfl rfl ?_
      refine gf_X12_24 108 h dX12_control_105 rfl ?_
      refine cb_iload_n 109 1 h dX12_control_108 rfl rfl rfl ?_
      refine laM_3 110 h dX12_control_109 rfl (cb_in_v g5) rfl ?_
      refine cb_cut (cb_V X (WM a ca σ6) 127 [(0, .ref (a 0)), (1, .int v1), (2, .int v2)] [.int (if (σ6 3 v1.toNatClampNeg) = 0 then (0 : Int32) else (if (σ6 5 v1.toNatClampNeg) = 0 then (0 : Int32) else (1 : Int32))), .int v1, .ref (a 3)]) (fun jj => ?_) ?_
      · refine cb_if_eq 126 113 h dX12_control_110 rfl rfl (fun q8 => ?_) (fun q8 => ?_)
        · refine cb_iconst 127 h dX12_control_126 rfl kc_0 ?_
          exact (cb_tt q8 jj)
        · refine cb_aload_n 114 0 h dX12_control_113 rfl rfl rfl ?_
          refine gf_X12_31 117 h dX12_control_114 rfl ?_
          refine cb_iload_n 118 1 h dX12_control_117 rfl rfl rfl ?_
          refine laM_5 119 h dX12_control_118 rfl (cb_in_v g5) rfl ?_
          refine cb_if_eq 126 122 h dX12_control_119 rfl rfl (fun q9 => ?_) (fun q9 => ?_)
          · refine cb_iconst 127 h dX12_control_126 rfl kc_0 ?_
            exact (cb_tt q9 (cb_tf q8 jj))
          · refine cb_iconst 123 h dX12_control_122 rfl kc_1 ?_
            refine cb_goto 127 h dX12_control_123 rfl ?_
            exact (cb_tf q9 (cb_tf q8 jj))
      obtain ⟨σ10, e11, hf⟩ := cb_let_o hf
      refine saM_3 128 h dX12_control_127 rfl (cb_in_v g5) rfl (cb_01_i cb_01_0 (cb_01_i cb_01_0 cb_01_1)) e11 ?_
      refine cb_aload_n 129 0 h dX12_control_128 rfl rfl rfl ?_
      refine gf_X12_46 132 h dX12_control_129 rfl ?_
      refine cb_iload_n 133 1 h dX12_control_132 rfl rfl rfl ?_
      refine cb_iload_n 134 2 h dX12_control_133 rfl rfl rfl ?_
      refine cb_bipush 136 h dX12_control_134 rfl kb_64 ?_
      refine cb_iand 137 h dX12_control_136 rfl ?_
      refine cb_cut (cb_V X (WM a ca σ10) 145 [(0, .ref (a 0)), (1, .int v1), (2, .int v2)] [.int (if (v2 &&& (64 : Int32)) = 0 then (0 : Int32) else (1 : Int32)), .int v1, .ref (a 10)]) (fun jj => ?_) ?_
      · refine cb_if_eq 144 140 h dX12_control_137 rfl rfl (fun q12 => ?_) (fun q12 => ?_)
        · refine cb_iconst 145 h dX12_control_144 rfl kc_0 ?_
          exact (cb_tt q12 jj)
        · refine cb_iconst 141 h dX12_control_140 rfl kc_1 ?_
          refine cb_goto 145 h dX12_control_141 rfl ?_
          exact (cb_tf q12 jj)
      obtain ⟨σ13, e14, hf⟩ := cb_let_o hf
      refine saM_10 146 h dX12_control_145 rfl (cb_in_v g1) rfl (cb_01_i cb_01_0 cb_01_1) e14 ?_
      refine cb_aload_n 147 0 h dX12_control_146 rfl rfl rfl ?_
      refine gf_X12_49 150 h dX12_control_147 rfl ?_
      refine cb_iload_n 151 1 h dX12_control_150 rfl rfl rfl ?_
      refine cb_iload_n 152 2 h dX12_control_151 rfl rfl rfl ?_
      refine cb_bipush 154 h dX12_control_152 rfl kb_32 ?_
      refine cb_iand 155 h dX12_control_154 rfl ?_
      refine cb_cut (cb_V X (WM a ca σ13) 166 [(0, .ref (a 0)), (1, .int v1), (2, .int v2)] [.int (if (v2 &&& (32 : Int32)) = 0 then (16 : Int32) else (256 : Int32)), .int v1, .ref (a 11)]) (fun jj => ?_) ?_
      · refine cb_if_eq 164 158 h dX12_control_155 rfl rfl (fun q15 => ?_) (fun q15 => ?_)
        · refine cb_bipush 166 h dX12_control_164 rfl kb_16 ?_
          exact (cb_tt q15 jj)
        · refine cb_sipush 161 h dX12_control_158 rfl ks_256 ?_
          refine cb_goto 166 h dX12_control_161 rfl ?_
          exact (cb_tf q15 jj)
      obtain ⟨σ16, e17, hf⟩ := cb_let_o hf
      refine saM_11 167 h dX12_control_166 rfl (cb_in_v g1) rfl e17 ?_
      refine cb_aload_n 168 0 h dX12_control_167 rfl rfl rfl ?_
      refine gf_X12_52 171 h dX12_control_168 rfl ?_
      refine cb_iload_n 172 1 h dX12_control_171 rfl rfl rfl ?_
      refine cb_iload_n 173 2 h dX12_control_172 rfl rfl rfl ?_
      refine cb_iconst 174 h dX12_control_173 rfl kc_4 ?_
      refine cb_iand 175 h dX12_control_174 rfl ?_
      refine cb_cut (cb_V X (WM a ca σ16) 183 [(0, .ref (a 0)), (1, .int v1), (2, .int v2)] [.int (if (v2 &&& (4 : Int32)) = 0 then (0 : Int32) else (1 : Int32)), .int v1, .ref (a 12)]) (fun jj => ?_) ?_
      · refine cb_if_eq 182 178 h dX12_control_175 rfl rfl (fun q18 => ?_) (fun q18 => ?_)
        · refine cb_iconst 183 h dX12_control_182 rfl kc_0 ?_
          exact (cb_tt q18 jj)
        · refine cb_iconst 179 h dX12_control_178 rfl kc_1 ?_
          refine cb_goto 183 h dX12_control_179 rfl ?_
          exact (cb_tf q18 jj)
      obtain ⟨σ19, e20, hf⟩ := cb_let_o hf
      refine saM_12 184 h dX12_control_183 rfl (cb_in_v g1) rfl (cb_01_i cb_01_0 cb_01_1) e20 ?_
      refine cb_aload_n 185 0 h dX12_control_184 rfl rfl rfl ?_
      refine gf_X12_43 188 h dX12_control_185 rfl ?_
      refine cb_iload_n 189 1 h dX12_control_188 rfl rfl rfl ?_
      refine cb_aload_n 190 0 h dX12_control_189 rfl rfl rfl ?_
      refine gf_X12_43 193 h dX12_control_190 rfl ?_
      refine cb_iload_n 194 1 h dX12_control_193 rfl rfl rfl ?_
      refine laM_9 195 h dX12_control_194 rfl (cb_in_v g1) rfl ?_
      refine cb_cut (cb_V X (WM a ca σ19) 209 [(0, .ref (a 0)), (1, .int v1), (2, .int v2)] [.int (if (σ19 9 v1.toNatClampNeg) = 0 then (0 : Int32) else (if (v2 &&& (2 : Int32)) = 0 then (1 : Int32) else (0 : Int32))), .int v1, .ref (a 9)]) (fun jj => ?_) ?_
      · refine cb_if_eq 208 198 h dX12_control_195 rfl rfl (fun q21 => ?_) (fun q21 => ?_)
        · refine cb_iconst 209 h dX12_control_208 rfl kc_0 ?_
          exact (cb_tt q21 jj)
        · refine cb_iload_n 199 2 h dX12_control_198 rfl rfl rfl ?_
          refine cb_iconst 200 h dX12_control_199 rfl kc_2 ?_
          refine cb_iand 201 h dX12_control_200 rfl ?_
          refine cb_if_ne 208 204 h dX12_control_201 rfl rfl (fun q22 => ?_) (fun q22 => ?_)
          · refine cb_iconst 209 h dX12_control_208 rfl kc_0 ?_
            exact (cb_tf q22 (cb_tf q21 jj))
          · refine cb_iconst 205 h dX12_control_204 rfl kc_1 ?_
            refine cb_goto 209 h dX12_control_205 rfl ?_
            exact (cb_tt q22 (cb_tf q21 jj))
      obtain ⟨σ23, e24, hf⟩ := cb_let_o hf
      refine saM_9 210 h dX12_control_209 rfl (cb_in_v g1) rfl (cb_01_i cb_01_0 (cb_01_i cb_01_1 cb_01_0)) e24 ?_
      refine cb_aload_n 211 0 h dX12_control_210 rfl rfl rfl ?_
      refine gf_X12_40 214 h dX12_control_211 rfl ?_
      refine cb_iload_n 215 1 h dX12_control_214 rfl rfl rfl ?_
      refine cb_iconst 216 h dX12_control_215 rfl kc_0 ?_
      obtain ⟨σ25, e26, hf⟩ := cb_let_o hf
      refine saM_8 217 h dX12_control_216 rfl (cb_in_v g1) rfl e26 ?_
      exact cb_retV (Wf := WM a ca) h dX12_control_217 he hf
    · have hf := cb_it q3 hf
      refine cb_aload_n 69 0 h dX12_control_68 rfl rfl rfl ?_
      refine cb_iload_n 70 2 h dX12_control_69 rfl rfl rfl ?_
      refine cb_sipush 73 h dX12_control_70 rfl ks_248 ?_
      refine cb_iand 74 h dX12_control_73 rfl ?_
      obtain ⟨σ27, e28, hf⟩ := cb_let_o hf
      refine pf_X12_262 77 h dX12_control_74 rfl e28 ?_
      refine cb_goto 217 h dX12_control_77 rfl ?_
      exact cb_retV (Wf := WM a ca) h dX12_control_217 he hf
  · have hf := cb_if q2 hf
    refine cb_aload_n 10 0 h dX12_control_9 rfl rfl rfl ?_
    refine gf_X12_34 13 h dX12_control_10 rfl ?_
    refine cb_iload_n 14 1 h dX12_control_13 rfl rfl rfl ?_
    refine cb_iload_n 15 2 h dX12_control_14 rfl rfl rfl ?_
    refine cb_cut (cb_V X (WM a ca σ) 25 [(0, .ref (a 0)), (1, .int v1), (2, .int v2)] [.int (if v2 = 0 then (256 : Int32) else v2), .int v1, .ref (a 6)]) (fun jj => ?_) ?_
    · refine cb_if_ne 24 18 h dX12_control_15 rfl rfl (fun q29 => ?_) (fun q29 => ?_)
      · refine cb_iload_n 25 2 h dX12_control_24 rfl rfl rfl ?_
        exact (cb_tf q29 jj)
      · refine cb_sipush 21 h dX12_control_18 rfl ks_256 ?_
        refine cb_goto 25 h dX12_control_21 rfl ?_
        exact (cb_tt q29 jj)
    obtain ⟨σ30, e31, hf⟩ := cb_let_o hf
    refine saM_6 26 h dX12_control_25 rfl (cb_in_v g1) rfl e31 ?_
    refine cb_aload_n 27 0 h dX12_control_26 rfl rfl rfl ?_
    refine gf_X12_37 30 h dX12_control_27 rfl ?_
    refine cb_iload_n 31 1 h dX12_control_30 rfl rfl rfl ?_
    refine cb_aload_n 32 0 h dX12_control_31 rfl rfl rfl ?_
    refine gf_X12_34 35 h dX12_control_32 rfl ?_
    refine cb_iload_n 36 1 h dX12_control_35 rfl rfl rfl ?_
    refine laM_6 37 h dX12_control_36 rfl (cb_in_v g1) rfl ?_
    obtain ⟨σ32, e33, hf⟩ := cb_let_o hf
    refine saM_7 38 h dX12_control_37 rfl (cb_in_v g1) rfl e33 ?_
    refine cb_aload_n 39 0 h dX12_control_38 rfl rfl rfl ?_
    refine gf_X12_40 42 h dX12_control_39 rfl ?_
    refine cb_iload_n 43 1 h dX12_control_42 rfl rfl rfl ?_
    refine cb_iconst 44 h dX12_control_43 rfl kc_0 ?_
    obtain ⟨σ34, e35, hf⟩ := cb_let_o hf
    refine saM_8 45 h dX12_control_44 rfl (cb_in_v g1) rfl e35 ?_
    refine cb_aload_n 46 0 h dX12_control_45 rfl rfl rfl ?_
    refine gf_X12_43 49 h dX12_control_46 rfl ?_
    refine cb_iload_n 50 1 h dX12_control_49 rfl rfl rfl ?_
    refine cb_iconst 51 h dX12_control_50 rfl kc_1 ?_
    obtain ⟨σ36, e37, hf⟩ := cb_let_o hf
    refine saM_9 52 h dX12_control_51 rfl (cb_in_v g1) rfl cb_01_1 e37 ?_
    refine cb_aload_n 53 0 h dX12_control_52 rfl rfl rfl ?_
    refine gf_X12_52 56 h dX12_control_53 rfl ?_
    refine cb_iload_n 57 1 h dX12_control_56 rfl rfl rfl ?_
    refine cb_iconst 58 h dX12_control_57 rfl kc_0 ?_
    obtain ⟨σ38, e39, hf⟩ := cb_let_o hf
    refine saM_12 59 h dX12_control_58 rfl (cb_in_v g1) rfl cb_01_0 e39 ?_
    refine cb_goto 217 h dX12_control_59 rfl ?_
    exact cb_retV (Wf := WM a ca) h dX12_control_217 he hf
set_option maxRecDepth 100000 in
set_option maxHeartbeats 4000000 in
theorem mt_request {l : Launch} {D : va_G} {a : Nat → Nat} {ca : Nat → ClassId} {σ σ' : cb_S} {v1 : Int32} (hf : m_request σ v1 = some σ') : cb_C l yX12_request cX12_request 2 none { frames := 0, cells := 0, slots := 0, locals := 0 } D (EM ca) (adM a) [.ref (a 0), .int v1] (WM a ca σ) none (WM a ca σ') := by
  refine cb_mk [(0, .ref (a 0)), (1, .int v1)] (by decide) (Nat.le_of_ble_eq_true rfl) rfl (fun X h he => ?_) goodM
  have h : cb_ok X cX12_request RX12 (EM ca) 0 0 2 := h
  unfold m_request at hf
  refine cb_aload_n 1 0 h dX12_request_0 rfl rfl rfl ?_
  refine gf_X12_31 4 h dX12_request_1 rfl ?_
  refine cb_iload_n 5 1 h dX12_request_4 rfl rfl rfl ?_
  obtain ⟨g1, hf⟩ := cb_gd_o hf
  refine laM_5 6 h dX12_request_5 rfl (cb_in_v g1) rfl ?_
  refine cb_if_eq 16 9 h dX12_request_6 rfl rfl (fun q2 => ?_) (fun q2 => ?_)
  · have hf := cb_it q2 hf
    exact cb_retV (Wf := WM a ca) h dX12_request_16 he hf
  · have hf := cb_if q2 hf
    refine cb_aload_n 10 0 h dX12_request_9 rfl rfl rfl ?_
    refine gf_X12_24 13 h dX12_request_10 rfl ?_
    refine cb_iload_n 14 1 h dX12_request_13 rfl rfl rfl ?_
    refine cb_iconst 15 h dX12_request_14 rfl kc_1 ?_
    obtain ⟨σ3, e4, hf⟩ := cb_let_o hf
    refine saM_3 16 h dX12_request_15 rfl (cb_in_v g1) rfl cb_01_1 e4 ?_
    exact cb_retV (Wf := WM a ca) h dX12_request_16 he hf
set_option maxRecDepth 100000 in
set_option maxHeartbeats 4000000 in
theorem mt_watch {l : Launch} {D : va_G} {a : Nat → Nat} {ca : Nat → ClassId} {σ σ' : cb_S} {v1 : Int32} (hf : m_watch σ v1 = some σ') : cb_C l yX12_watch cX12_watch 5 none { frames := 1, cells := 0, slots := 0, locals := 21 } D (EM ca) (adM a) [.ref (a 0), .int v1] (WM a ca σ) none (WM a ca σ') := by
  refine cb_mk [(0, .ref (a 0)), (1, .int v1)] (by decide) (Nat.le_of_ble_eq_true rfl) rfl (fun X h he => ?_) goodM
  have h : cb_ok X cX12_watch RX12 (EM ca) 1 21 5 := h
  unfold m_watch at hf
  have j112 : ∀ (σ : cb_S) (x4 : Int32), m_watch_L112 v1 σ x4 = some σ' → cb_V X (WM a ca σ) 112 [(0, .ref (a 0)), (1, .int v1), (4, .int x4)] [] := by
    intro σ x4 hf
    unfold m_watch_L112 at hf
    refine cb_aload_n 113 0 h dX12_watch_112 rfl rfl rfl ?_
    refine gf_X12_88 116 h dX12_watch_113 rfl ?_
    refine cb_iload_n 117 1 h dX12_watch_116 rfl rfl rfl ?_
    refine cb_iload 119 2 h dX12_watch_117 rfl rfl ?_
    obtain ⟨g1, hf⟩ := cb_gd_o hf
    obtain ⟨g2, hf⟩ := cb_gd_o hf
    obtain ⟨σ3, e4, hf⟩ := cb_let_o hf
    refine saM_24 120 h dX12_watch_119 rfl (cb_in_v g1) rfl g2 e4 ?_
    exact cb_retV (Wf := WM a ca) h dX12_watch_120 he hf
  refine cb_aload_n 1 0 h dX12_watch_0 rfl rfl rfl ?_
  refine gf_X12_64 4 h dX12_watch_1 rfl ?_
  refine cb_iload_n 5 1 h dX12_watch_4 rfl rfl rfl ?_
  obtain ⟨g5, hf⟩ := cb_gd_o hf
  refine laM_16 6 h dX12_watch_5 rfl (cb_in_v g5) rfl ?_
  refine cb_aload_n 7 0 h dX12_watch_6 rfl rfl rfl ?_
  refine gf_X12_67 10 h dX12_watch_7 rfl ?_
  refine cb_iload_n 11 1 h dX12_watch_10 rfl rfl rfl ?_
  refine laM_17 12 h dX12_watch_11 rfl (cb_in_v g5) rfl ?_
  refine cb_iconst 13 h dX12_watch_12 rfl kc_m1 ?_
  refine cb_ixor 14 h dX12_watch_13 rfl ?_
  refine cb_iand 15 h dX12_watch_14 rfl ?_
  refine cb_sipush 18 h dX12_watch_15 rfl ks_255 ?_
  refine cb_iand 19 h dX12_watch_18 rfl ?_
  obtain ⟨t6, e7, hf⟩ := cb_let_o hf
  refine cb_istore_n (lv' := [(2, .int t6), (0, .ref (a 0)), (1, .int v1)]) 20 h dX12_watch_19 rfl rfl e7 (Nat.le_of_ble_eq_true rfl) rfl ?_
  refine cb_aload_n 21 1 h dX12_watch_20 rfl rfl rfl ?_
  refine gf_X12_73 24 h dX12_watch_21 rfl ?_
  refine cb_iload_n 25 2 h dX12_watch_24 rfl rfl rfl ?_
  refine laM_19 26 h dX12_watch_25 rfl (cb_in_v g5) rfl ?_
  refine cb_cut (cb_V X (WM a ca σ) 46 [(2, .int t6), (0, .ref (a 0)), (1, .int v1)] [.int (if (σ 19 v1.toNatClampNeg) = 0 then ((σ 23 v1.toNatClampNeg) ^^^ (-1 : Int32)) else (σ 23 v1.toNatClampNeg))]) (fun jj => ?_) ?_
  · refine cb_if_eq 38 29 h dX12_watch_26 rfl rfl (fun q8 => ?_) (fun q8 => ?_)
    · refine cb_aload_n 39 1 h dX12_watch_38 rfl rfl rfl ?_
      refine gf_X12_85 42 h dX12_watch_39 rfl ?_
      refine cb_iload_n 43 2 h dX12_watch_42 rfl rfl rfl ?_
      refine laM_23 44 h dX12_watch_43 rfl (cb_in_v g5) rfl ?_
      refine cb_iconst 45 h dX12_watch_44 rfl kc_m1 ?_
      refine cb_ixor 46 h dX12_watch_45 rfl ?_
      exact (cb_tt q8 jj)
    · refine cb_aload_n 30 1 h dX12_watch_29 rfl rfl rfl ?_
      refine gf_X12_85 33 h dX12_watch_30 rfl ?_
      refine cb_iload_n 34 2 h dX12_watch_33 rfl rfl rfl ?_
      refine laM_23 35 h dX12_watch_34 rfl (cb_in_v g5) rfl ?_
      refine cb_goto 46 h dX12_watch_35 rfl ?_
      exact (cb_tf q8 jj)
  refine cb_iload_n 47 0 h dX12_watch_46 rfl rfl rfl ?_
  refine cb_iand 48 h dX12_watch_47 rfl ?_
  obtain ⟨t9, e10, hf⟩ := cb_let_o hf
  refine cb_istore_n (lv' := [(3, .int t9), (2, .int t6), (0, .ref (a 0)), (1, .int v1)]) 49 h dX12_watch_48 rfl rfl e10 (Nat.le_of_ble_eq_true rfl) rfl ?_
  refine cb_aload_n 50 2 h dX12_watch_49 rfl rfl rfl ?_
  refine gf_X12_55 53 h dX12_watch_50 rfl ?_
  refine cb_iload_n 54 3 h dX12_watch_53 rfl rfl rfl ?_
  refine laM_13 55 h dX12_watch_54 rfl (cb_in_v g5) rfl ?_
  refine cb_iconst 56 h dX12_watch_55 rfl kc_3 ?_
  refine cb_cut (cb_V X (WM a ca σ) 89 [(3, .int t9), (2, .int t6), (0, .ref (a 0)), (1, .int v1)] [.int (if (σ 13 v1.toNatClampNeg) = (3 : Int32) then (if t6 = 0 then (0 : Int32) else (if (σ 18 v1.toNatClampNeg) = 0 then (if t9 = 0 then (0 : Int32) else (1 : Int32)) else (if t9 = t6 then (1 : Int32) else (0 : Int32)))) else (0 : Int32))]) (fun jj => ?_) ?_
  · refine cb_icmp_ne 88 59 h dX12_watch_56 rfl rfl (fun q11 => ?_) (fun q11 => ?_)
    · refine cb_iconst 89 h dX12_watch_88 rfl kc_0 ?_
      exact (cb_tf q11 jj)
    · refine cb_iload_n 60 1 h dX12_watch_59 rfl rfl rfl ?_
      refine cb_if_eq 88 63 h dX12_watch_60 rfl rfl (fun q12 => ?_) (fun q12 => ?_)
      · refine cb_iconst 89 h dX12_watch_88 rfl kc_0 ?_
        exact (cb_tt q12 (cb_tt q11 jj))
      · refine cb_aload_n 64 2 h dX12_watch_63 rfl rfl rfl ?_
        refine gf_X12_70 67 h dX12_watch_64 rfl ?_
        refine cb_iload_n 68 3 h dX12_watch_67 rfl rfl rfl ?_
        refine laM_18 69 h dX12_watch_68 rfl (cb_in_v g5) rfl ?_
        refine cb_if_eq 80 72 h dX12_watch_69 rfl rfl (fun q13 => ?_) (fun q13 => ?_)
        · refine cb_iload_n 81 0 h dX12_watch_80 rfl rfl rfl ?_
          refine cb_if_eq 88 84 h dX12_watch_81 rfl rfl (fun q14 => ?_) (fun q14 => ?_)
          · refine cb_iconst 89 h dX12_watch_88 rfl kc_0 ?_
            exact (cb_tt q14 (cb_tt q13 (cb_tf q12 (cb_tt q11 jj))))
          · refine cb_iconst 85 h dX12_watch_84 rfl kc_1 ?_
            refine cb_goto 89 h dX12_watch_85 rfl ?_
            exact (cb_tf q14 (cb_tt q13 (cb_tf q12 (cb_tt q11 jj))))
        · refine cb_iload_n 73 0 h dX12_watch_72 rfl rfl rfl ?_
          refine cb_iload_n 74 1 h dX12_watch_73 rfl rfl rfl ?_
          refine cb_icmp_ne 88 77 h dX12_watch_74 rfl rfl (fun q15 => ?_) (fun q15 => ?_)
          · refine cb_iconst 89 h dX12_watch_88 rfl kc_0 ?_
            exact (cb_tf q15 (cb_tf q13 (cb_tf q12 (cb_tt q11 jj))))
          · refine cb_goto 84 h dX12_watch_77 rfl ?_
            refine cb_iconst 85 h dX12_watch_84 rfl kc_1 ?_
            refine cb_goto 89 h dX12_watch_85 rfl ?_
            exact (cb_tt q15 (cb_tf q13 (cb_tf q12 (cb_tt q11 jj))))
  obtain ⟨t16, e17, hf⟩ := cb_let_o hf
  refine cb_istore (lv' := [(4, .int t16), (3, .int t9), (2, .int t6), (0, .ref (a 0)), (1, .int v1)]) 91 h dX12_watch_89 rfl e17 (Nat.le_of_ble_eq_true rfl) rfl ?_
  refine cb_iload 93 0 h dX12_watch_91 rfl rfl ?_
  refine cb_if_eq 112 96 h dX12_watch_93 rfl rfl (fun q18 => ?_) (fun q18 => ?_)
  · have hf := cb_it q18 hf
    exact cb_lv [3, 4, 0] rfl (j112 _ _ hf)
  · have hf := cb_if q18 hf
    refine cb_aload_n 97 3 h dX12_watch_96 rfl rfl rfl ?_
    refine gf_X12_88 100 h dX12_watch_97 rfl ?_
    refine cb_iload_n 101 4 h dX12_watch_100 rfl rfl rfl ?_
    refine laM_24 102 h dX12_watch_101 rfl (cb_in_v g5) rfl ?_
    refine cb_if_ne 112 105 h dX12_watch_102 rfl rfl (fun q19 => ?_) (fun q19 => ?_)
    · have hf := cb_if q19 hf
      exact cb_lv [3, 4, 0] rfl (j112 _ _ hf)
    · have hf := cb_it q19 hf
      refine cb_aload_n 106 3 h dX12_watch_105 rfl rfl rfl ?_
      refine cb_iconst 107 h dX12_watch_106 rfl kc_2 ?_
      refine cb_iload_n 108 4 h dX12_watch_107 rfl rfl rfl ?_
      refine cb_iadd 109 h dX12_watch_108 rfl ?_
      obtain ⟨σc20, ec20, hf⟩ := cb_bo_o hf
      refine cl_X12_271 112 h dX12_watch_109 rfl (mt_request ec20) ⟨rfl, rfl, Nat.le_of_ble_eq_true rfl, Nat.le_of_ble_eq_true rfl⟩ rfl (Nat.le_of_ble_eq_true rfl) ?_
      exact cb_lv [3, 4, 0] rfl (j112 _ _ hf)
