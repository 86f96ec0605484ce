set_option maxRecDepth 100000 in
set_option maxHeartbeats 4000000 in
theorem mt_extended {l : Launch} {D : va_G} {a : Nat → Nat} {ca : Nat → ClassId} {N : Nat} {σ σ' : cb_S} {r : Int32} (hf : m_extended N σ = some (r, σ')) : cb_C l yX12_extended cX12_extended 5 (some .int) { frames := 4, cells := 0, slots := 0, locals := 90 } D (EM ca) (adM a) [.ref (a 0)] (WM a ca σ) (some (.int r)) (WM a ca σ') := by
  refine cb_mk [(0, .ref (a 0))] (by decide) (Nat.le_of_ble_eq_true rfl) rfl (fun X h he => ?_) goodM
  have h : cb_ok X cX12_extended RX12 (EM ca) 4 90 5 := h
  unfold m_extended at hf
  have j110 : ∀ (σ : cb_S) (x2 : Int32) (y0 : Int32), m_extended_L110 N σ x2 y0 = some (r, σ') → cb_V X (WM a ca σ) 110 [(0, .ref (a 0)), (2, .int x2)] [.int y0] := by
    intro σ x2 y0 hf
    unfold m_extended_L110 at hf
    refine cb_istore (lv' := [(4, .int y0), (0, .ref (a 0)), (2, .int x2)]) 112 h dX12_extended_110 rfl rfl (Nat.le_of_ble_eq_true rfl) rfl ?_
    refine cb_aload_n 113 1 h dX12_extended_112 rfl rfl rfl ?_
    refine cb_iload 115 0 h dX12_extended_113 rfl rfl ?_
    refine cb_bipush 117 h dX12_extended_115 rfl kb_16 ?_
    refine cb_iload_n 118 2 h dX12_extended_117 rfl rfl rfl ?_
    obtain ⟨σc1, ec1, hf⟩ := cb_bo_o hf
    refine cl_X12_150 121 h dX12_extended_118 rfl (mt_sumFlags ec1) ⟨rfl, rfl, Nat.le_of_ble_eq_true rfl, Nat.le_of_ble_eq_true rfl⟩ rfl (Nat.le_of_ble_eq_true rfl) ?_
    refine cb_aload_n 122 1 h dX12_extended_121 rfl rfl rfl ?_
    refine cb_iconst 123 h dX12_extended_122 rfl kc_1 ?_
    refine cb_aload_n 124 1 h dX12_extended_123 rfl rfl rfl ?_
    refine gf_X12_132 127 h dX12_extended_124 rfl ?_
    obtain ⟨σc2, ec2, hf⟩ := cb_bo_o hf
    refine cl_X12_139 130 h dX12_extended_127 rfl (mt_setFlag ec2) ⟨rfl, rfl, Nat.le_of_ble_eq_true rfl, Nat.le_of_ble_eq_true rfl⟩ rfl (Nat.le_of_ble_eq_true rfl) ?_
    refine cb_aload_n 131 1 h dX12_extended_130 rfl rfl rfl ?_
    refine cb_iconst 132 h dX12_extended_131 rfl kc_4 ?_
    refine cb_iload 134 0 h dX12_extended_132 rfl rfl ?_
    obtain ⟨σc3, ec3, hf⟩ := cb_bo_o hf
    refine cl_X12_112 137 h dX12_extended_134 rfl (mt_putPair ec3) ⟨rfl, rfl, Nat.le_of_ble_eq_true rfl, Nat.le_of_ble_eq_true rfl⟩ rfl (Nat.le_of_ble_eq_true rfl) ?_
    refine cb_bipush 139 h dX12_extended_137 rfl kb_15 ?_
    exact cb_retI (Wf := WM a ca) h dX12_extended_139 he hf
  have j154 : ∀ (σ : cb_S) (x1 : Int32), m_extended_L154 N σ x1 = some (r, σ') → cb_V X (WM a ca σ) 154 [(0, .ref (a 0)), (1, .int x1)] [] := by
    intro σ x1 hf
    unfold m_extended_L154 at hf
    refine cb_aload_n 155 0 h dX12_extended_154 rfl rfl rfl ?_
    refine cb_iload_n 156 1 h dX12_extended_155 rfl rfl rfl ?_
    refine cb_sipush 159 h dX12_extended_156 rfl ks_176 ?_
    refine cb_cut (cb_V X (WM a ca σ) 167 [(0, .ref (a 0)), (1, .int x1)] [.int (if x1 = (176 : Int32) then (1 : Int32) else (0 : Int32)), .ref (a 0)]) (fun jj => ?_) ?_
    · refine cb_icmp_ne 166 162 h dX12_extended_159 rfl rfl (fun q4 => ?_) (fun q4 => ?_)
      · refine cb_iconst 167 h dX12_extended_166 rfl kc_0 ?_
        exact (cb_tf q4 jj)
      · refine cb_iconst 163 h dX12_extended_162 rfl kc_1 ?_
        refine cb_goto 167 h dX12_extended_163 rfl ?_
        exact (cb_tt q4 jj)
    obtain ⟨c5, σc5, ec5, hf⟩ := cb_b2_o hf
    refine cl_X12_246 170 h dX12_extended_167 rfl (mt_copies ec5) ⟨rfl, rfl, Nat.le_of_ble_eq_true rfl, Nat.le_of_ble_eq_true rfl⟩ rfl (Nat.le_of_ble_eq_true rfl) ?_
    exact cb_retI (Wf := WM a ca) h dX12_extended_170 he hf
  refine cb_aload_n 1 0 h dX12_extended_0 rfl rfl rfl ?_
  obtain ⟨c6, σc6, ec6, hf⟩ := cb_b2_o hf
  refine cl_X12_105 4 h dX12_extended_1 rfl (mt_next ec6) ⟨rfl, rfl, Nat.le_of_ble_eq_true rfl, Nat.le_of_ble_eq_true rfl⟩ rfl (Nat.le_of_ble_eq_true rfl) ?_
  refine cb_istore_n (lv' := [(1, .int c6), (0, .ref (a 0))]) 5 h dX12_extended_4 rfl rfl rfl (Nat.le_of_ble_eq_true rfl) rfl ?_
  refine cb_iload_n 6 0 h dX12_extended_5 rfl rfl rfl ?_
  refine cb_bipush 8 h dX12_extended_6 rfl kb_68 ?_
  refine cb_icmp_ne 36 11 h dX12_extended_8 rfl rfl (fun q7 => ?_) (fun q7 => ?_)
  · have hf := cb_if q7 hf
    refine cb_iload_n 37 0 h dX12_extended_36 rfl rfl rfl ?_
    refine cb_sipush 40 h dX12_extended_37 rfl ks_199 ?_
    refine cb_iand 41 h dX12_extended_40 rfl ?_
    refine cb_bipush 43 h dX12_extended_41 rfl kb_66 ?_
    refine cb_icmp_ne 140 46 h dX12_extended_43 rfl rfl (fun q8 => ?_) (fun q8 => ?_)
    · have hf := cb_if q8 hf
      refine cb_iload_n 141 0 h dX12_extended_140 rfl rfl rfl ?_
      refine cb_sipush 144 h dX12_extended_141 rfl ks_160 ?_
      refine cb_icmp_eq 154 147 h dX12_extended_144 rfl rfl (fun q9 => ?_) (fun q9 => ?_)
      · have hf := cb_it q9 hf
        exact cb_lv [1, 0] rfl (j154 _ _ hf)
      · have hf := cb_if q9 hf
        refine cb_iload_n 148 0 h dX12_extended_147 rfl rfl rfl ?_
        refine cb_sipush 151 h dX12_extended_148 rfl ks_176 ?_
        refine cb_icmp_ne 171 154 h dX12_extended_151 rfl rfl (fun q10 => ?_) (fun q10 => ?_)
        · have hf := cb_if q10 hf
          refine cb_iload_n 172 0 h dX12_extended_171 rfl rfl rfl ?_
          refine cb_bipush 174 h dX12_extended_172 rfl kb_71 ?_
          refine cb_icmp_ne 191 177 h dX12_extended_174 rfl rfl (fun q11 => ?_) (fun q11 => ?_)
          · have hf := cb_if q11 hf
            refine cb_iload_n 192 0 h dX12_extended_191 rfl rfl rfl ?_
            refine cb_bipush 194 h dX12_extended_192 rfl kb_77 ?_
            refine cb_icmp_ne 212 197 h dX12_extended_194 rfl rfl (fun q12 => ?_) (fun q12 => ?_)
            · have hf := cb_if q12 hf
              refine cb_aload_n 213 1 h dX12_extended_212 rfl rfl rfl ?_
              refine cb_iload_n 214 0 h dX12_extended_213 rfl rfl rfl ?_
              refine cb_bipush 216 h dX12_extended_214 rfl kb_86 ?_
              refine cb_cut (cb_V X (WM a ca σc6) 237 [(1, .int c6), (0, .ref (a 0))] [.int (if c6 = (86 : Int32) then (1 : Int32) else (if c6 = (94 : Int32) then (2 : Int32) else (σc6 0 6))), .ref (a 0)]) (fun jj => ?_) ?_
              · refine cb_icmp_ne 223 219 h dX12_extended_216 rfl rfl (fun q13 => ?_) (fun q13 => ?_)
                · refine cb_iload_n 224 0 h dX12_extended_223 rfl rfl rfl ?_
                  refine cb_bipush 226 h dX12_extended_224 rfl kb_94 ?_
                  refine cb_icmp_ne 233 229 h dX12_extended_226 rfl rfl (fun q14 => ?_) (fun q14 => ?_)
                  · refine cb_aload_n 234 1 h dX12_extended_233 rfl rfl rfl ?_
                    refine gf_X12_21 237 h dX12_extended_234 rfl ?_
                    exact (cb_tf q14 (cb_tf q13 jj))
                  · refine cb_iconst 230 h dX12_extended_229 rfl kc_2 ?_
                    refine cb_goto 237 h dX12_extended_230 rfl ?_
                    exact (cb_tt q14 (cb_tf q13 jj))
                · refine cb_iconst 220 h dX12_extended_219 rfl kc_1 ?_
                  refine cb_goto 237 h dX12_extended_220 rfl ?_
                  exact (cb_tt q13 jj)
              obtain ⟨σ15, e16, hf⟩ := cb_let_o hf
              refine pf_X12_21 240 h dX12_extended_237 rfl e16 ?_
              refine cb_iload_n 241 0 h dX12_extended_240 rfl rfl rfl ?_
              refine cb_bipush 243 h dX12_extended_241 rfl kb_86 ?_
              refine cb_cut (cb_V X (WM a ca σ15) 258 [(1, .int c6), (0, .ref (a 0))] [.int (if c6 = (86 : Int32) then (8 : Int32) else (if c6 = (94 : Int32) then (8 : Int32) else (0 : Int32)))]) (fun jj => ?_) ?_
              · refine cb_icmp_eq 252 246 h dX12_extended_243 rfl rfl (fun q17 => ?_) (fun q17 => ?_)
                · refine cb_bipush 254 h dX12_extended_252 rfl kb_8 ?_
                  refine cb_goto 258 h dX12_extended_254 rfl ?_
                  exact (cb_tt q17 jj)
                · refine cb_iload_n 247 0 h dX12_extended_246 rfl rfl rfl ?_
                  refine cb_bipush 249 h dX12_extended_247 rfl kb_94 ?_
                  refine cb_icmp_ne 257 252 h dX12_extended_249 rfl rfl (fun q18 => ?_) (fun q18 => ?_)
                  · refine cb_iconst 258 h dX12_extended_257 rfl kc_0 ?_
                    exact (cb_tf q18 (cb_tf q17 jj))
                  · refine cb_bipush 254 h dX12_extended_252 rfl kb_8 ?_
                    refine cb_goto 258 h dX12_extended_254 rfl ?_
                    exact (cb_tt q18 (cb_tf q17 jj))
              exact cb_retI (Wf := WM a ca) h dX12_extended_258 he hf
            · have hf := cb_it q12 hf
              refine cb_aload_n 198 1 h dX12_extended_197 rfl rfl rfl ?_
              refine cb_aload_n 199 1 h dX12_extended_198 rfl rfl rfl ?_
              obtain ⟨c19, σc19, ec19, hf⟩ := cb_b2_o hf
              refine cl_X12_216 202 h dX12_extended_199 rfl (mt_pop ec19) ⟨rfl, rfl, Nat.le_of_ble_eq_true rfl, Nat.le_of_ble_eq_true rfl⟩ rfl (Nat.le_of_ble_eq_true rfl) ?_
              obtain ⟨σ20, e21, hf⟩ := cb_let_o hf
              refine pf_X12_102 205 h dX12_extended_202 rfl e21 ?_
              refine cb_aload_n 206 1 h dX12_extended_205 rfl rfl rfl ?_
              obtain ⟨σc22, ec22, hf⟩ := cb_bo_o hf
              refine cl_X12_253 209 h dX12_extended_206 rfl (mt_leave ec22) ⟨rfl, rfl, Nat.le_of_ble_eq_true rfl, Nat.le_of_ble_eq_true rfl⟩ rfl (Nat.le_of_ble_eq_true rfl) ?_
              refine cb_bipush 211 h dX12_extended_209 rfl kb_14 ?_
              exact cb_retI (Wf := WM a ca) h dX12_extended_211 he hf
          · have hf := cb_it q11 hf
            refine cb_aload_n 178 1 h dX12_extended_177 rfl rfl rfl ?_
            refine cb_aload_n 179 1 h dX12_extended_178 rfl rfl rfl ?_
            refine gf_X12_13 182 h dX12_extended_179 rfl ?_
            refine cb_bipush 184 h dX12_extended_182 rfl kb_7 ?_
            refine laM_2 185 h dX12_extended_184 rfl vi_7_16 tk_7 ?_
            obtain ⟨σ23, e24, hf⟩ := cb_let_o hf
            refine pf_X12_250 188 h dX12_extended_185 rfl e24 ?_
            refine cb_bipush 190 h dX12_extended_188 rfl kb_9 ?_
            exact cb_retI (Wf := WM a ca) h dX12_extended_190 he hf
        · have hf := cb_it q10 hf
          exact cb_lv [1, 0] rfl (j154 _ _ hf)
    · have hf := cb_it q8 hf
      refine cb_iload_n 47 0 h dX12_extended_46 rfl rfl rfl ?_
      refine cb_bipush 49 h dX12_extended_47 rfl kb_8 ?_
      refine cb_iand 50 h dX12_extended_49 rfl ?_
      refine cb_cut (cb_V X (WM a ca σc6) 58 [(1, .int c6), (0, .ref (a 0))] [.int (if (c6 &&& (8 : Int32)) = 0 then (1 : Int32) else (0 : Int32))]) (fun jj => ?_) ?_
      · refine cb_if_ne 57 53 h dX12_extended_50 rfl rfl (fun q25 => ?_) (fun q25 => ?_)
        · refine cb_iconst 58 h dX12_extended_57 rfl kc_0 ?_
          exact (cb_tf q25 jj)
        · refine cb_iconst 54 h dX12_extended_53 rfl kc_1 ?_
          refine cb_goto 58 h dX12_extended_54 rfl ?_
          exact (cb_tt q25 jj)
      obtain ⟨t26, e27, hf⟩ := cb_let_o hf
      refine cb_istore_n (lv' := [(2, .int t26), (1, .int c6), (0, .ref (a 0))]) 59 h dX12_extended_58 rfl rfl e27 (Nat.le_of_ble_eq_true rfl) rfl ?_
      refine cb_aload_n 60 2 h dX12_extended_59 rfl rfl rfl ?_
      refine cb_iload_n 61 1 h dX12_extended_60 rfl rfl rfl ?_
      refine cb_iconst 62 h dX12_extended_61 rfl kc_4 ?_
      refine cb_ishr 63 h dX12_extended_62 rfl ?_
      refine cb_iconst 64 h dX12_extended_63 rfl kc_3 ?_
      refine cb_iand 65 h dX12_extended_64 rfl ?_
      obtain ⟨c28, ec28, hf⟩ := cb_bo_o hf
      refine cl_X12_188 68 h dX12_extended_65 rfl (mt_wide ec28) ⟨rfl, rfl, Nat.le_of_ble_eq_true rfl, Nat.le_of_ble_eq_true rfl⟩ rfl (Nat.le_of_ble_eq_true rfl) ?_
      refine cb_istore_n (lv' := [(3, .int c28), (2, .int t26), (1, .int c6), (0, .ref (a 0))]) 69 h dX12_extended_68 rfl rfl rfl (Nat.le_of_ble_eq_true rfl) rfl ?_
      refine cb_iload_n 70 1 h dX12_extended_69 rfl rfl rfl ?_
      refine cb_if_eq 93 73 h dX12_extended_70 rfl rfl (fun q29 => ?_) (fun q29 => ?_)
      · have hf := cb_it q29 hf
        refine cb_aload_n 94 3 h dX12_extended_93 rfl rfl rfl ?_
        refine cb_aload_n 95 3 h dX12_extended_94 rfl rfl rfl ?_
        refine cb_iconst 96 h dX12_extended_95 rfl kc_4 ?_
        obtain ⟨c30, ec30, hf⟩ := cb_bo_o hf
        refine cl_X12_109 99 h dX12_extended_96 rfl (mt_pair ec30) ⟨rfl, rfl, Nat.le_of_ble_eq_true rfl, Nat.le_of_ble_eq_true rfl⟩ rfl (Nat.le_of_ble_eq_true rfl) ?_
        refine cb_iload_n 100 0 h dX12_extended_99 rfl rfl rfl ?_
        refine cb_aload_n 101 3 h dX12_extended_100 rfl rfl rfl ?_
        refine cb_iconst 102 h dX12_extended_101 rfl kc_1 ?_
        obtain ⟨c31, ec31, hf⟩ := cb_bo_o hf
        refine cl_X12_121 105 h dX12_extended_102 rfl (mt_flag ec31) ⟨rfl, rfl, Nat.le_of_ble_eq_true rfl, Nat.le_of_ble_eq_true rfl⟩ rfl (Nat.le_of_ble_eq_true rfl) ?_
        refine cb_bipush 107 h dX12_extended_105 rfl kb_16 ?_
        obtain ⟨c32, σc32, ec32, hf⟩ := cb_b2_o hf
        refine cl_X12_135 110 h dX12_extended_107 rfl (mt_add ec32) ⟨rfl, rfl, Nat.le_of_ble_eq_true rfl, Nat.le_of_ble_eq_true rfl⟩ rfl (Nat.le_of_ble_eq_true rfl) ?_
        exact cb_lv [3, 1] rfl (j110 _ _ _ hf)
      · have hf := cb_if q29 hf
        refine cb_aload_n 74 3 h dX12_extended_73 rfl rfl rfl ?_
        refine cb_aload_n 75 3 h dX12_extended_74 rfl rfl rfl ?_
        refine cb_iconst 76 h dX12_extended_75 rfl kc_4 ?_
        obtain ⟨c33, ec33, hf⟩ := cb_bo_o hf
        refine cl_X12_109 79 h dX12_extended_76 rfl (mt_pair ec33) ⟨rfl, rfl, Nat.le_of_ble_eq_true rfl, Nat.le_of_ble_eq_true rfl⟩ rfl (Nat.le_of_ble_eq_true rfl) ?_
        refine cb_iload_n 80 0 h dX12_extended_79 rfl rfl rfl ?_
        refine cb_aload_n 81 3 h dX12_extended_80 rfl rfl rfl ?_
        refine cb_iconst 82 h dX12_extended_81 rfl kc_1 ?_
        obtain ⟨c34, ec34, hf⟩ := cb_bo_o hf
        refine cl_X12_121 85 h dX12_extended_82 rfl (mt_flag ec34) ⟨rfl, rfl, Nat.le_of_ble_eq_true rfl, Nat.le_of_ble_eq_true rfl⟩ rfl (Nat.le_of_ble_eq_true rfl) ?_
        refine cb_bipush 87 h dX12_extended_85 rfl kb_16 ?_
        obtain ⟨c35, σc35, ec35, hf⟩ := cb_b2_o hf
        refine cl_X12_154 90 h dX12_extended_87 rfl (mt_subtract ec35) ⟨rfl, rfl, Nat.le_of_ble_eq_true rfl, Nat.le_of_ble_eq_true rfl⟩ rfl (Nat.le_of_ble_eq_true rfl) ?_
        refine cb_goto 110 h dX12_extended_90 rfl ?_
        exact cb_lv [3, 1] rfl (j110 _ _ _ hf)
  · have hf := cb_it q7 hf
    refine cb_aload_n 12 1 h dX12_extended_11 rfl rfl rfl ?_
    refine gf_X12_13 15 h dX12_extended_12 rfl ?_
    refine cb_bipush 17 h dX12_extended_15 rfl kb_7 ?_
    refine laM_2 18 h dX12_extended_17 rfl vi_7_16 tk_7 ?_
    obtain ⟨t36, e37, hf⟩ := cb_let_o hf
    refine cb_istore_n (lv' := [(2, .int t36), (1, .int c6), (0, .ref (a 0))]) 19 h dX12_extended_18 rfl rfl e37 (Nat.le_of_ble_eq_true rfl) rfl ?_
    refine cb_aload_n 20 2 h dX12_extended_19 rfl rfl rfl ?_
    refine gf_X12_13 23 h dX12_extended_20 rfl ?_
    refine cb_bipush 25 h dX12_extended_23 rfl kb_7 ?_
    refine cb_iconst 26 h dX12_extended_25 rfl kc_0 ?_
    obtain ⟨σ38, e39, hf⟩ := cb_let_o hf
    refine saM_2 27 h dX12_extended_26 rfl vi_7_16 tk_7 e39 ?_
    refine cb_aload_n 28 2 h dX12_extended_27 rfl rfl rfl ?_
    refine cb_iconst 29 h dX12_extended_28 rfl kc_2 ?_
    refine cb_iload_n 30 0 h dX12_extended_29 rfl rfl rfl ?_
    obtain ⟨σc40, ec40, hf⟩ := cb_bo_o hf
    refine cl_X12_176 33 h dX12_extended_30 rfl (mt_operate ec40) ⟨rfl, rfl, Nat.le_of_ble_eq_true rfl, Nat.le_of_ble_eq_true rfl⟩ rfl (Nat.le_of_ble_eq_true rfl) ?_
    refine cb_bipush 35 h dX12_extended_33 rfl kb_8 ?_
    exact cb_retI (Wf := WM a ca) h dX12_extended_35 he hf
set_option maxRecDepth 100000 in
set_option maxHeartbeats 4000000 in
theorem mt_pushes {l : Launch} {D : va_G} {a : Nat → Nat} {ca : Nat → ClassId} {N : Nat} {σ σ' : cb_S} {v1 : Int32} {r : Int32} (hf : m_pushes N σ v1 = some (r, σ')) : cb_C l yX12_pushes cX12_pushes 3 (some .int) { frames := 5, cells := 0, slots := 0, locals := 114 } D (EM ca) (adM a) [.ref (a 0), .int v1] (WM a ca σ) (some (.int r)) (WM a ca σ') := by
  refine cb_mk [(0, .ref (a 0)), (1, .int v1)] (by decide) (Nat.le_of_ble_eq_true rfl) rfl (fun X h he => ?_) goodM
  have h : cb_ok X cX12_pushes RX12 (EM ca) 5 114 3 := h
  unfold m_pushes at hf
  have j26 : ∀ (σ : cb_S) (y0 : Int32), m_pushes_L26 N v1 σ y0 = some (r, σ') → cb_V X (WM a ca σ) 26 [] [.int y0, .ref (a 0)] := by
    intro σ y0 hf
    unfold m_pushes_L26 at hf
    obtain ⟨σc1, ec1, hf⟩ := cb_bo_o hf
    refine cl_X12_222 29 h dX12_pushes_26 rfl (mt_push ec1) ⟨rfl, rfl, Nat.le_of_ble_eq_true rfl, Nat.le_of_ble_eq_true rfl⟩ rfl (Nat.le_of_ble_eq_true rfl) ?_
    refine cb_bipush 31 h dX12_pushes_29 rfl kb_11 ?_
    exact cb_retI (Wf := WM a ca) h dX12_pushes_31 he hf
  refine cb_iload_n 1 1 h dX12_pushes_0 rfl rfl rfl ?_
  refine cb_iconst 2 h dX12_pushes_1 rfl kc_1 ?_
  refine cb_iand 3 h dX12_pushes_2 rfl ?_
  refine cb_if_ne 32 6 h dX12_pushes_3 rfl rfl (fun q2 => ?_) (fun q2 => ?_)
  · have hf := cb_if q2 hf
    refine cb_iload_n 33 1 h dX12_pushes_32 rfl rfl rfl ?_
    refine cb_iconst 34 h dX12_pushes_33 rfl kc_5 ?_
    refine cb_icmp_ne 42 37 h dX12_pushes_34 rfl rfl (fun q3 => ?_) (fun q3 => ?_)
    · have hf := cb_if q3 hf
      refine cb_iload_n 43 1 h dX12_pushes_42 rfl rfl rfl ?_
      refine cb_iconst 44 h dX12_pushes_43 rfl kc_1 ?_
      refine cb_icmp_eq 49 47 h dX12_pushes_44 rfl rfl (fun q4 => ?_) (fun q4 => ?_)
      · have hf := cb_it q4 hf
        refine cb_aload_n 50 0 h dX12_pushes_49 rfl rfl rfl ?_
        obtain ⟨c5, σc5, ec5, hf⟩ := cb_b2_o hf
        refine cl_X12_182 53 h dX12_pushes_50 rfl (mt_nextWord ec5) ⟨rfl, rfl, Nat.le_of_ble_eq_true rfl, Nat.le_of_ble_eq_true rfl⟩ rfl (Nat.le_of_ble_eq_true rfl) ?_
        refine cb_istore_n (lv' := [(2, .int c5), (0, .ref (a 0)), (1, .int v1)]) 54 h dX12_pushes_53 rfl rfl rfl (Nat.le_of_ble_eq_true rfl) rfl ?_
        refine cb_aload_n 55 1 h dX12_pushes_54 rfl rfl rfl ?_
        refine cb_aload_n 56 1 h dX12_pushes_55 rfl rfl rfl ?_
        refine gf_X12_102 59 h dX12_pushes_56 rfl ?_
        obtain ⟨σc6, ec6, hf⟩ := cb_bo_o hf
        refine cl_X12_222 62 h dX12_pushes_59 rfl (mt_push ec6) ⟨rfl, rfl, Nat.le_of_ble_eq_true rfl, Nat.le_of_ble_eq_true rfl⟩ rfl (Nat.le_of_ble_eq_true rfl) ?_
        refine cb_aload_n 63 1 h dX12_pushes_62 rfl rfl rfl ?_
        refine cb_iload_n 64 0 h dX12_pushes_63 rfl rfl rfl ?_
        obtain ⟨σ7, e8, hf⟩ := cb_let_o hf
        refine pf_X12_102 67 h dX12_pushes_64 rfl e8 ?_
        refine cb_bipush 69 h dX12_pushes_67 rfl kb_17 ?_
        exact cb_retI (Wf := WM a ca) h dX12_pushes_69 he hf
      · have hf := cb_if q4 hf
        refine cb_iconst 48 h dX12_pushes_47 rfl kc_0 ?_
        exact cb_retI (Wf := WM a ca) h dX12_pushes_48 he hf
    · have hf := cb_it q3 hf
      refine cb_aload_n 38 0 h dX12_pushes_37 rfl rfl rfl ?_
      obtain ⟨c9, σc9, ec9, hf⟩ := cb_b2_o hf
      refine cl_X12_231 41 h dX12_pushes_38 rfl (mt_extended ec9) ⟨rfl, rfl, Nat.le_of_ble_eq_true rfl, Nat.le_of_ble_eq_true rfl⟩ rfl (Nat.le_of_ble_eq_true rfl) ?_
      exact cb_retI (Wf := WM a ca) h dX12_pushes_41 he hf
  · have hf := cb_it q2 hf
    refine cb_aload_n 7 0 h dX12_pushes_6 rfl rfl rfl ?_
    refine cb_iload_n 8 1 h dX12_pushes_7 rfl rfl rfl ?_
    refine cb_bipush 10 h dX12_pushes_8 rfl kb_6 ?_
    refine cb_icmp_ne 21 13 h dX12_pushes_10 rfl rfl (fun q10 => ?_) (fun q10 => ?_)
    · have hf := cb_if q10 hf
      refine cb_aload_n 22 0 h dX12_pushes_21 rfl rfl rfl ?_
      refine cb_iload_n 23 1 h dX12_pushes_22 rfl rfl rfl ?_
      obtain ⟨c11, ec11, hf⟩ := cb_bo_o hf
      refine cl_X12_109 26 h dX12_pushes_23 rfl (mt_pair ec11) ⟨rfl, rfl, Nat.le_of_ble_eq_true rfl, Nat.le_of_ble_eq_true rfl⟩ rfl (Nat.le_of_ble_eq_true rfl) ?_
      exact cb_lv [] rfl (j26 _ _ hf)
    · have hf := cb_it q10 hf
      refine cb_aload_n 14 0 h dX12_pushes_13 rfl rfl rfl ?_
      refine cb_iconst 15 h dX12_pushes_14 rfl kc_0 ?_
      obtain ⟨c12, ec12, hf⟩ := cb_bo_o hf
      refine cl_X12_204 18 h dX12_pushes_15 rfl (mt_af ec12) ⟨rfl, rfl, Nat.le_of_ble_eq_true rfl, Nat.le_of_ble_eq_true rfl⟩ rfl (Nat.le_of_ble_eq_true rfl) ?_
      refine cb_goto 26 h dX12_pushes_18 rfl ?_
      exact cb_lv [] rfl (j26 _ _ hf)
set_option maxRecDepth 100000 in
set_option maxHeartbeats 4000000 in
theorem mt_high {l : Launch} {D : va_G} {a : Nat → Nat} {ca : Nat → ClassId} {N : Nat} {σ σ' : cb_S} {v1 v2 : Int32} {r : Int32} (hf : m_high N σ v1 v2 = some (r, σ')) : cb_C l yX12_high cX12_high 5 (some .int) { frames := 6, cells := 0, slots := 0, locals := 136 } D (EM ca) (adM a) [.ref (a 0), .int v1, .int v2] (WM a ca σ) (some (.int r)) (WM a ca σ') := by
  refine cb_mk [(0, .ref (a 0)), (1, .int v1), (2, .int v2)] (by decide) (Nat.le_of_ble_eq_true rfl) rfl (fun X h he => ?_) goodM
  have h : cb_ok X cX12_high RX12 (EM ca) 6 136 5 := h
  unfold m_high at hf
  have j22 : ∀ (σ : cb_S) (x3 : Int32), m_high_L22 N v1 v2 σ x3 = some (r, σ') → cb_V X (WM a ca σ) 22 [(3, .int x3)] [] := by
    intro σ x3 hf
    unfold m_high_L22 at hf
    refine cb_iload_n 23 0 h dX12_high_22 rfl rfl rfl ?_
    refine cb_cut (cb_V X (WM a ca σ) 32 [(3, .int x3)] [.int (if x3 = 0 then (5 : Int32) else (11 : Int32))]) (fun jj => ?_) ?_
    · refine cb_if_eq 31 26 h dX12_high_23 rfl rfl (fun q1 => ?_) (fun q1 => ?_)
      · refine cb_iconst 32 h dX12_high_31 rfl kc_5 ?_
        exact (cb_tt q1 jj)
      · refine cb_bipush 28 h dX12_high_26 rfl kb_11 ?_
        refine cb_goto 32 h dX12_high_28 rfl ?_
        exact (cb_tf q1 jj)
    exact cb_retI (Wf := WM a ca) h dX12_high_32 he hf
  have j84 : ∀ (σ : cb_S) (x3 : Int32) (x4 : Int32), m_high_L84 N v1 v2 σ x3 x4 = some (r, σ') → cb_V X (WM a ca σ) 84 [(0, .ref (a 0)), (2, .int v2), (3, .int x3), (4, .int x4)] [] := by
    intro σ x3 x4 hf
    unfold m_high_L84 at hf
    refine cb_aload_n 85 0 h dX12_high_84 rfl rfl rfl ?_
    refine cb_iload 87 3 h dX12_high_85 rfl rfl ?_
    refine cb_cut (cb_V X (WM a ca σ) 98 [(0, .ref (a 0)), (2, .int v2), (3, .int x3), (4, .int x4)] [.int (if x4 = 0 then (σ 0 3) else x3), .ref (a 0)]) (fun jj => ?_) ?_
    · refine cb_if_eq 94 90 h dX12_high_87 rfl rfl (fun q2 => ?_) (fun q2 => ?_)
      · refine cb_aload_n 95 0 h dX12_high_94 rfl rfl rfl ?_
        refine gf_X12_102 98 h dX12_high_95 rfl ?_
        exact (cb_tt q2 jj)
      · refine cb_iload_n 91 2 h dX12_high_90 rfl rfl rfl ?_
        refine cb_goto 98 h dX12_high_91 rfl ?_
        exact (cb_tf q2 jj)
    obtain ⟨σ3, e4, hf⟩ := cb_let_o hf
    refine pf_X12_102 101 h dX12_high_98 rfl e4 ?_
    refine cb_iload_n 102 1 h dX12_high_101 rfl rfl rfl ?_
    refine cb_iconst 103 h dX12_high_102 rfl kc_2 ?_
    refine cb_cut (cb_V X (WM a ca σ3) 123 [(0, .ref (a 0)), (2, .int v2), (3, .int x3), (4, .int x4)] [.int (if v2 = (2 : Int32) then (10 : Int32) else (if x4 = 0 then (10 : Int32) else (17 : Int32)))]) (fun jj => ?_) ?_
    · refine cb_icmp_ne 111 106 h dX12_high_103 rfl rfl (fun q5 => ?_) (fun q5 => ?_)
      · refine cb_iload 113 3 h dX12_high_111 rfl rfl ?_
        refine cb_if_eq 121 116 h dX12_high_113 rfl rfl (fun q6 => ?_) (fun q6 => ?_)
        · refine cb_bipush 123 h dX12_high_121 rfl kb_10 ?_
          exact (cb_tt q6 (cb_tf q5 jj))
        · refine cb_bipush 118 h dX12_high_116 rfl kb_17 ?_
          refine cb_goto 123 h dX12_high_118 rfl ?_
          exact (cb_tf q6 (cb_tf q5 jj))
      · refine cb_bipush 108 h dX12_high_106 rfl kb_10 ?_
        refine cb_goto 123 h dX12_high_108 rfl ?_
        exact (cb_tt q5 jj)
    exact cb_retI (Wf := WM a ca) h dX12_high_123 he hf
  have j54 : ∀ (σ : cb_S), m_high_L54 N v1 v2 σ = some (r, σ') → cb_V X (WM a ca σ) 54 [(0, .ref (a 0)), (1, .int v1), (2, .int v2)] [] := by
    intro σ hf
    unfold m_high_L54 at hf
    refine cb_aload_n 55 0 h dX12_high_54 rfl rfl rfl ?_
    obtain ⟨c7, σc7, ec7, hf⟩ := cb_b2_o hf
    refine cl_X12_182 58 h dX12_high_55 rfl (mt_nextWord ec7) ⟨rfl, rfl, Nat.le_of_ble_eq_true rfl, Nat.le_of_ble_eq_true rfl⟩ rfl (Nat.le_of_ble_eq_true rfl) ?_
    refine cb_istore_n (lv' := [(3, .int c7), (0, .ref (a 0)), (1, .int v1), (2, .int v2)]) 59 h dX12_high_58 rfl rfl rfl (Nat.le_of_ble_eq_true rfl) rfl ?_
    refine cb_aload_n 60 1 h dX12_high_59 rfl rfl rfl ?_
    refine cb_iload_n 61 2 h dX12_high_60 rfl rfl rfl ?_
    obtain ⟨c8, ec8, hf⟩ := cb_bo_o hf
    refine cl_X12_210 64 h dX12_high_61 rfl (mt_condition ec8) ⟨rfl, rfl, Nat.le_of_ble_eq_true rfl, Nat.le_of_ble_eq_true rfl⟩ rfl (Nat.le_of_ble_eq_true rfl) ?_
    refine cb_istore (lv' := [(4, .int c8), (3, .int c7), (0, .ref (a 0)), (1, .int v1), (2, .int v2)]) 66 h dX12_high_64 rfl rfl (Nat.le_of_ble_eq_true rfl) rfl ?_
    refine cb_iload 68 0 h dX12_high_66 rfl rfl ?_
    refine cb_if_eq 84 71 h dX12_high_68 rfl rfl (fun q9 => ?_) (fun q9 => ?_)
    · have hf := cb_it q9 hf
      exact cb_lv [2, 4, 1, 0] rfl (j84 _ _ _ hf)
    · have hf := cb_if q9 hf
      refine cb_iload_n 72 4 h dX12_high_71 rfl rfl rfl ?_
      refine cb_iconst 73 h dX12_high_72 rfl kc_4 ?_
      refine cb_icmp_ne 84 76 h dX12_high_73 rfl rfl (fun q10 => ?_) (fun q10 => ?_)
      · have hf := cb_if q10 hf
        exact cb_lv [2, 4, 1, 0] rfl (j84 _ _ _ hf)
      · have hf := cb_it q10 hf
        refine cb_aload_n 77 2 h dX12_high_76 rfl rfl rfl ?_
        refine cb_aload_n 78 2 h dX12_high_77 rfl rfl rfl ?_
        refine gf_X12_102 81 h dX12_high_78 rfl ?_
        obtain ⟨σc11, ec11, hf⟩ := cb_bo_o hf
        refine cl_X12_222 84 h dX12_high_81 rfl (mt_push ec11) ⟨rfl, rfl, Nat.le_of_ble_eq_true rfl, Nat.le_of_ble_eq_true rfl⟩ rfl (Nat.le_of_ble_eq_true rfl) ?_
        exact cb_lv [2, 4, 1, 0] rfl (j84 _ _ _ hf)
  refine cb_iload_n 1 2 h dX12_high_0 rfl rfl rfl ?_
  refine cb_if_ne 33 4 h dX12_high_1 rfl rfl (fun q12 => ?_) (fun q12 => ?_)
  · have hf := cb_if q12 hf
    refine cb_iload_n 34 2 h dX12_high_33 rfl rfl rfl ?_
    refine cb_iconst 35 h dX12_high_34 rfl kc_1 ?_
    refine cb_icmp_ne 44 38 h dX12_high_35 rfl rfl (fun q13 => ?_) (fun q13 => ?_)
    · have hf := cb_if q13 hf
      refine cb_iload_n 45 2 h dX12_high_44 rfl rfl rfl ?_
      refine cb_iconst 46 h dX12_high_45 rfl kc_2 ?_
      refine cb_icmp_eq 54 49 h dX12_high_46 rfl rfl (fun q14 => ?_) (fun q14 => ?_)
      · have hf := cb_it q14 hf
        exact j54 _ hf
      · have hf := cb_if q14 hf
        refine cb_iload_n 50 2 h dX12_high_49 rfl rfl rfl ?_
        refine cb_iconst 51 h dX12_high_50 rfl kc_4 ?_
        refine cb_icmp_ne 124 54 h dX12_high_51 rfl rfl (fun q15 => ?_) (fun q15 => ?_)
        · have hf := cb_if q15 hf
          refine cb_iload_n 125 2 h dX12_high_124 rfl rfl rfl ?_
          refine cb_iconst 126 h dX12_high_125 rfl kc_3 ?_
          refine cb_icmp_ne 135 129 h dX12_high_126 rfl rfl (fun q16 => ?_) (fun q16 => ?_)
          · have hf := cb_if q16 hf
            refine cb_iload_n 136 2 h dX12_high_135 rfl rfl rfl ?_
            refine cb_iconst 137 h dX12_high_136 rfl kc_5 ?_
            refine cb_icmp_ne 146 140 h dX12_high_137 rfl rfl (fun q17 => ?_) (fun q17 => ?_)
            · have hf := cb_if q17 hf
              refine cb_iload_n 147 2 h dX12_high_146 rfl rfl rfl ?_
              refine cb_bipush 149 h dX12_high_147 rfl kb_6 ?_
              refine cb_icmp_ne 164 152 h dX12_high_149 rfl rfl (fun q18 => ?_) (fun q18 => ?_)
              · have hf := cb_if q18 hf
                refine cb_aload_n 165 0 h dX12_high_164 rfl rfl rfl ?_
                refine cb_aload_n 166 0 h dX12_high_165 rfl rfl rfl ?_
                refine gf_X12_102 169 h dX12_high_166 rfl ?_
                obtain ⟨σc19, ec19, hf⟩ := cb_bo_o hf
                refine cl_X12_222 172 h dX12_high_169 rfl (mt_push ec19) ⟨rfl, rfl, Nat.le_of_ble_eq_true rfl, Nat.le_of_ble_eq_true rfl⟩ rfl (Nat.le_of_ble_eq_true rfl) ?_
                refine cb_aload_n 173 0 h dX12_high_172 rfl rfl rfl ?_
                refine cb_bipush 175 h dX12_high_173 rfl kb_8 ?_
                refine cb_iload_n 176 1 h dX12_high_175 rfl rfl rfl ?_
                refine cb_imul 177 h dX12_high_176 rfl ?_
                obtain ⟨σ20, e21, hf⟩ := cb_let_o hf
                refine pf_X12_102 180 h dX12_high_177 rfl e21 ?_
                refine cb_bipush 182 h dX12_high_180 rfl kb_11 ?_
                exact cb_retI (Wf := WM a ca) h dX12_high_182 he hf
              · have hf := cb_it q18 hf
                refine cb_aload_n 153 0 h dX12_high_152 rfl rfl rfl ?_
                refine cb_iload_n 154 1 h dX12_high_153 rfl rfl rfl ?_
                refine cb_aload_n 155 0 h dX12_high_154 rfl rfl rfl ?_
                obtain ⟨c22, σc22, ec22, hf⟩ := cb_b2_o hf
                refine cl_X12_105 158 h dX12_high_155 rfl (mt_next ec22) ⟨rfl, rfl, Nat.le_of_ble_eq_true rfl, Nat.le_of_ble_eq_true rfl⟩ rfl (Nat.le_of_ble_eq_true rfl) ?_
                obtain ⟨σc23, ec23, hf⟩ := cb_bo_o hf
                refine cl_X12_176 161 h dX12_high_158 rfl (mt_operate ec23) ⟨rfl, rfl, Nat.le_of_ble_eq_true rfl, Nat.le_of_ble_eq_true rfl⟩ rfl (Nat.le_of_ble_eq_true rfl) ?_
                refine cb_bipush 163 h dX12_high_161 rfl kb_7 ?_
                exact cb_retI (Wf := WM a ca) h dX12_high_163 he hf
            · have hf := cb_it q17 hf
              refine cb_aload_n 141 0 h dX12_high_140 rfl rfl rfl ?_
              refine cb_iload_n 142 1 h dX12_high_141 rfl rfl rfl ?_
              obtain ⟨c24, σc24, ec24, hf⟩ := cb_b2_o hf
              refine cl_X12_228 145 h dX12_high_142 rfl (mt_pushes ec24) ⟨rfl, rfl, Nat.le_of_ble_eq_true rfl, Nat.le_of_ble_eq_true rfl⟩ rfl (Nat.le_of_ble_eq_true rfl) ?_
              exact cb_retI (Wf := WM a ca) h dX12_high_145 he hf
          · have hf := cb_it q16 hf
            refine cb_aload_n 130 0 h dX12_high_129 rfl rfl rfl ?_
            refine cb_iload_n 131 1 h dX12_high_130 rfl rfl rfl ?_
            obtain ⟨c25, σc25, ec25, hf⟩ := cb_b2_o hf
            refine cl_X12_225 134 h dX12_high_131 rfl (mt_others ec25) ⟨rfl, rfl, Nat.le_of_ble_eq_true rfl, Nat.le_of_ble_eq_true rfl⟩ rfl (Nat.le_of_ble_eq_true rfl) ?_
            exact cb_retI (Wf := WM a ca) h dX12_high_134 he hf
        · have hf := cb_it q15 hf
          exact j54 _ hf
    · have hf := cb_it q13 hf
      refine cb_aload_n 39 0 h dX12_high_38 rfl rfl rfl ?_
      refine cb_iload_n 40 1 h dX12_high_39 rfl rfl rfl ?_
      obtain ⟨c26, σc26, ec26, hf⟩ := cb_b2_o hf
      refine cl_X12_219 43 h dX12_high_40 rfl (mt_pops ec26) ⟨rfl, rfl, Nat.le_of_ble_eq_true rfl, Nat.le_of_ble_eq_true rfl⟩ rfl (Nat.le_of_ble_eq_true rfl) ?_
      exact cb_retI (Wf := WM a ca) h dX12_high_43 he hf
  · have hf := cb_it q12 hf
    refine cb_aload_n 5 0 h dX12_high_4 rfl rfl rfl ?_
    refine cb_iload_n 6 1 h dX12_high_5 rfl rfl rfl ?_
    obtain ⟨c27, ec27, hf⟩ := cb_bo_o hf
    refine cl_X12_210 9 h dX12_high_6 rfl (mt_condition ec27) ⟨rfl, rfl, Nat.le_of_ble_eq_true rfl, Nat.le_of_ble_eq_true rfl⟩ rfl (Nat.le_of_ble_eq_true rfl) ?_
    refine cb_istore_n (lv' := [(3, .int c27), (0, .ref (a 0)), (1, .int v1), (2, .int v2)]) 10 h dX12_high_9 rfl rfl rfl (Nat.le_of_ble_eq_true rfl) rfl ?_
    refine cb_iload_n 11 0 h dX12_high_10 rfl rfl rfl ?_
    refine cb_if_eq 22 14 h dX12_high_11 rfl rfl (fun q28 => ?_) (fun q28 => ?_)
    · have hf := cb_it q28 hf
      exact cb_lv [0] rfl (j22 _ _ hf)
    · have hf := cb_if q28 hf
      refine cb_aload_n 15 1 h dX12_high_14 rfl rfl rfl ?_
      refine cb_aload_n 16 1 h dX12_high_15 rfl rfl rfl ?_
      obtain ⟨c29, σc29, ec29, hf⟩ := cb_b2_o hf
      refine cl_X12_216 19 h dX12_high_16 rfl (mt_pop ec29) ⟨rfl, rfl, Nat.le_of_ble_eq_true rfl, Nat.le_of_ble_eq_true rfl⟩ rfl (Nat.le_of_ble_eq_true rfl) ?_
      obtain ⟨σ30, e31, hf⟩ := cb_let_o hf
      refine pf_X12_102 22 h dX12_high_19 rfl e31 ?_
      exact cb_lv [0] rfl (j22 _ _ hf)
set_option maxRecDepth 100000 in
set_option maxHeartbeats 4000000 in
theorem mt_carryOut {l : Launch} {D : va_G} {a : Nat → Nat} {ca : Nat → ClassId} {N : Nat} {σ σ' : cb_S} {r : Int32} (hf : m_carryOut N σ = some (r, σ')) : cb_C l yX12_carryOut cX12_carryOut 6 (some .int) { frames := 7, cells := 0, slots := 0, locals := 160 } D (EM ca) (adM a) [.ref (a 0)] (WM a ca σ) (some (.int r)) (WM a ca σ') := by
  refine cb_mk [(0, .ref (a 0))] (by decide) (Nat.le_of_ble_eq_true rfl) rfl (fun X h he => ?_) goodM
  have h : cb_ok X cX12_carryOut RX12 (EM ca) 7 160 6 := h
  unfold m_carryOut at hf
  have j116 : ∀ (σ : cb_S) (x5 : Int32), m_carryOut_L116 N σ x5 = some (r, σ') → cb_V X (WM a ca σ) 116 [(5, .int x5)] [] := by
    intro σ x5 hf
    unfold m_carryOut_L116 at hf
    refine cb_iload 118 0 h dX12_carryOut_116 rfl rfl ?_
    refine cb_cut (cb_V X (WM a ca σ) 127 [(5, .int x5)] [.int (if x5 = 0 then (4 : Int32) else (7 : Int32))]) (fun jj => ?_) ?_
    · refine cb_if_eq 126 121 h dX12_carryOut_118 rfl rfl (fun q1 => ?_) (fun q1 => ?_)
      · refine cb_iconst 127 h dX12_carryOut_126 rfl kc_4 ?_
        exact (cb_tt q1 jj)
      · refine cb_bipush 123 h dX12_carryOut_121 rfl kb_7 ?_
        refine cb_goto 127 h dX12_carryOut_123 rfl ?_
        exact (cb_tf q1 jj)
    exact cb_retI (Wf := WM a ca) h dX12_carryOut_127 he hf
  refine cb_aload_n 1 0 h dX12_carryOut_0 rfl rfl rfl ?_
  obtain ⟨c2, σc2, ec2, hf⟩ := cb_b2_o hf
  refine cl_X12_105 4 h dX12_carryOut_1 rfl (mt_next ec2) ⟨rfl, rfl, Nat.le_of_ble_eq_true rfl, Nat.le_of_ble_eq_true rfl⟩ rfl (Nat.le_of_ble_eq_true rfl) ?_
  refine cb_istore_n (lv' := [(1, .int c2), (0, .ref (a 0))]) 5 h dX12_carryOut_4 rfl rfl rfl (Nat.le_of_ble_eq_true rfl) rfl ?_
  refine cb_iload_n 6 0 h dX12_carryOut_5 rfl rfl rfl ?_
  refine cb_bipush 8 h dX12_carryOut_6 rfl kb_6 ?_
  refine cb_ishr 9 h dX12_carryOut_8 rfl ?_
  obtain ⟨t3, e4, hf⟩ := cb_let_o hf
  refine cb_istore_n (lv' := [(2, .int t3), (1, .int c2), (0, .ref (a 0))]) 10 h dX12_carryOut_9 rfl rfl e4 (Nat.le_of_ble_eq_true rfl) rfl ?_
  refine cb_iload_n 11 1 h dX12_carryOut_10 rfl rfl rfl ?_
  refine cb_iconst 12 h dX12_carryOut_11 rfl kc_3 ?_
  refine cb_ishr 13 h dX12_carryOut_12 rfl ?_
  refine cb_bipush 15 h dX12_carryOut_13 rfl kb_7 ?_
  refine cb_iand 16 h dX12_carryOut_15 rfl ?_
  obtain ⟨t5, e6, hf⟩ := cb_let_o hf
  refine cb_istore_n (lv' := [(3, .int t5), (2, .int t3), (1, .int c2), (0, .ref (a 0))]) 17 h dX12_carryOut_16 rfl rfl e6 (Nat.le_of_ble_eq_true rfl) rfl ?_
  refine cb_iload_n 18 2 h dX12_carryOut_17 rfl rfl rfl ?_
  refine cb_bipush 20 h dX12_carryOut_18 rfl kb_7 ?_
  refine cb_iand 21 h dX12_carryOut_20 rfl ?_
  obtain ⟨t7, e8, hf⟩ := cb_let_o hf
  refine cb_istore (lv' := [(4, .int t7), (3, .int t5), (2, .int t3), (1, .int c2), (0, .ref (a 0))]) 23 h dX12_carryOut_21 rfl e8 (Nat.le_of_ble_eq_true rfl) rfl ?_
  refine cb_iload_n 24 2 h dX12_carryOut_23 rfl rfl rfl ?_
  refine cb_if_ne 35 27 h dX12_carryOut_24 rfl rfl (fun q9 => ?_) (fun q9 => ?_)
  · have hf := cb_if q9 hf
    refine cb_iload_n 36 2 h dX12_carryOut_35 rfl rfl rfl ?_
    refine cb_iconst 37 h dX12_carryOut_36 rfl kc_3 ?_
    refine cb_icmp_ne 48 40 h dX12_carryOut_37 rfl rfl (fun q10 => ?_) (fun q10 => ?_)
    · have hf := cb_if q10 hf
      refine cb_iload_n 49 3 h dX12_carryOut_48 rfl rfl rfl ?_
      refine cb_bipush 51 h dX12_carryOut_49 rfl kb_118 ?_
      refine cb_icmp_ne 61 54 h dX12_carryOut_51 rfl rfl (fun q11 => ?_) (fun q11 => ?_)
      · have hf := cb_if q11 hf
        refine cb_iload 63 0 h dX12_carryOut_61 rfl rfl ?_
        refine cb_bipush 65 h dX12_carryOut_63 rfl kb_6 ?_
        refine cb_cut (cb_V X (WM a ca σc2) 84 [(4, .int t7), (3, .int t5), (2, .int t3), (1, .int c2), (0, .ref (a 0))] [.int (if t7 = (6 : Int32) then (1 : Int32) else (if t3 = (1 : Int32) then (if t5 = (6 : Int32) then (1 : Int32) else (0 : Int32)) else (0 : Int32)))]) (fun jj => ?_) ?_
        · refine cb_icmp_eq 79 68 h dX12_carryOut_65 rfl rfl (fun q12 => ?_) (fun q12 => ?_)
          · refine cb_iconst 80 h dX12_carryOut_79 rfl kc_1 ?_
            refine cb_goto 84 h dX12_carryOut_80 rfl ?_
            exact (cb_tt q12 jj)
          · refine cb_iload_n 69 2 h dX12_carryOut_68 rfl rfl rfl ?_
            refine cb_iconst 70 h dX12_carryOut_69 rfl kc_1 ?_
            refine cb_icmp_ne 83 73 h dX12_carryOut_70 rfl rfl (fun q13 => ?_) (fun q13 => ?_)
            · refine cb_iconst 84 h dX12_carryOut_83 rfl kc_0 ?_
              exact (cb_tf q13 (cb_tf q12 jj))
            · refine cb_iload_n 74 1 h dX12_carryOut_73 rfl rfl rfl ?_
              refine cb_bipush 76 h dX12_carryOut_74 rfl kb_6 ?_
              refine cb_icmp_ne 83 79 h dX12_carryOut_76 rfl rfl (fun q14 => ?_) (fun q14 => ?_)
              · refine cb_iconst 84 h dX12_carryOut_83 rfl kc_0 ?_
                exact (cb_tf q14 (cb_tt q13 (cb_tf q12 jj)))
              · refine cb_iconst 80 h dX12_carryOut_79 rfl kc_1 ?_
                refine cb_goto 84 h dX12_carryOut_80 rfl ?_
                exact (cb_tt q14 (cb_tt q13 (cb_tf q12 jj)))
        obtain ⟨t15, e16, hf⟩ := cb_let_o hf
        refine cb_istore (lv' := [(5, .int t15), (4, .int t7), (3, .int t5), (2, .int t3), (1, .int c2), (0, .ref (a 0))]) 86 h dX12_carryOut_84 rfl e16 (Nat.le_of_ble_eq_true rfl) rfl ?_
        refine cb_iload_n 87 3 h dX12_carryOut_86 rfl rfl rfl ?_
        refine cb_iconst 88 h dX12_carryOut_87 rfl kc_1 ?_
        refine cb_icmp_ne 105 91 h dX12_carryOut_88 rfl rfl (fun q17 => ?_) (fun q17 => ?_)
        · have hf := cb_if q17 hf
          refine cb_aload_n 106 5 h dX12_carryOut_105 rfl rfl rfl ?_
          refine cb_iload_n 107 2 h dX12_carryOut_106 rfl rfl rfl ?_
          refine cb_aload_n 108 5 h dX12_carryOut_107 rfl rfl rfl ?_
          refine cb_iload 110 1 h dX12_carryOut_108 rfl rfl ?_
          obtain ⟨c18, ec18, hf⟩ := cb_bo_o hf
          refine cl_X12_170 113 h dX12_carryOut_110 rfl (mt_get ec18) ⟨rfl, rfl, Nat.le_of_ble_eq_true rfl, Nat.le_of_ble_eq_true rfl⟩ rfl (Nat.le_of_ble_eq_true rfl) ?_
          obtain ⟨σc19, ec19, hf⟩ := cb_bo_o hf
          refine cl_X12_176 116 h dX12_carryOut_113 rfl (mt_operate ec19) ⟨rfl, rfl, Nat.le_of_ble_eq_true rfl, Nat.le_of_ble_eq_true rfl⟩ rfl (Nat.le_of_ble_eq_true rfl) ?_
          exact cb_lv [0] rfl (j116 _ _ hf)
        · have hf := cb_it q17 hf
          refine cb_aload_n 92 5 h dX12_carryOut_91 rfl rfl rfl ?_
          refine cb_iload_n 93 2 h dX12_carryOut_92 rfl rfl rfl ?_
          refine cb_aload_n 94 5 h dX12_carryOut_93 rfl rfl rfl ?_
          refine cb_iload 96 1 h dX12_carryOut_94 rfl rfl ?_
          obtain ⟨c20, ec20, hf⟩ := cb_bo_o hf
          refine cl_X12_170 99 h dX12_carryOut_96 rfl (mt_get ec20) ⟨rfl, rfl, Nat.le_of_ble_eq_true rfl, Nat.le_of_ble_eq_true rfl⟩ rfl (Nat.le_of_ble_eq_true rfl) ?_
          obtain ⟨σc21, ec21, hf⟩ := cb_bo_o hf
          refine cl_X12_173 102 h dX12_carryOut_99 rfl (mt_put ec21) ⟨rfl, rfl, Nat.le_of_ble_eq_true rfl, Nat.le_of_ble_eq_true rfl⟩ rfl (Nat.le_of_ble_eq_true rfl) ?_
          refine cb_goto 116 h dX12_carryOut_102 rfl ?_
          exact cb_lv [0] rfl (j116 _ _ hf)
      · have hf := cb_it q11 hf
        refine cb_aload_n 55 4 h dX12_carryOut_54 rfl rfl rfl ?_
        refine cb_iconst 56 h dX12_carryOut_55 rfl kc_1 ?_
        obtain ⟨σ22, e23, hf⟩ := cb_let_o hf
        refine pf_X12_167 59 h dX12_carryOut_56 rfl e23 ?_
        refine cb_iconst 60 h dX12_carryOut_59 rfl kc_4 ?_
        exact cb_retI (Wf := WM a ca) h dX12_carryOut_60 he hf
    · have hf := cb_it q10 hf
      refine cb_aload_n 41 4 h dX12_carryOut_40 rfl rfl rfl ?_
      refine cb_iload_n 42 1 h dX12_carryOut_41 rfl rfl rfl ?_
      refine cb_iload 44 0 h dX12_carryOut_42 rfl rfl ?_
      obtain ⟨c24, σc24, ec24, hf⟩ := cb_b2_o hf
      refine cl_X12_165 47 h dX12_carryOut_44 rfl (mt_high ec24) ⟨rfl, rfl, Nat.le_of_ble_eq_true rfl, Nat.le_of_ble_eq_true rfl⟩ rfl (Nat.le_of_ble_eq_true rfl) ?_
      exact cb_retI (Wf := WM a ca) h dX12_carryOut_47 he hf
  · have hf := cb_it q9 hf
    refine cb_aload_n 28 4 h dX12_carryOut_27 rfl rfl rfl ?_
    refine cb_iload_n 29 1 h dX12_carryOut_28 rfl rfl rfl ?_
    refine cb_iload 31 0 h dX12_carryOut_29 rfl rfl ?_
    obtain ⟨c25, σc25, ec25, hf⟩ := cb_b2_o hf
    refine cl_X12_161 34 h dX12_carryOut_31 rfl (mt_low ec25) ⟨rfl, rfl, Nat.le_of_ble_eq_true rfl, Nat.le_of_ble_eq_true rfl⟩ rfl (Nat.le_of_ble_eq_true rfl) ?_
    exact cb_retI (Wf := WM a ca) h dX12_carryOut_34 he hf
set_option maxRecDepth 100000 in
set_option maxHeartbeats 4000000 in
theorem mt_fall {l : Launch} {D : va_G} {a : Nat → Nat} {ca : Nat → ClassId} {σ σ' : cb_S} {v1 : Int32} (hf : m_fall σ v1 = some σ') : cb_C l yX12_fall cX12_fall 2 none { frames := 1, cells := 0, slots := 0, locals := 21 } D (EM ca) (adM a) [.ref (a 0), .int v1] (WM a ca σ) none (WM a ca σ') := by
  refine cb_mk [(0, .ref (a 0)), (1, .int v1)] (by decide) (Nat.le_of_ble_eq_true rfl) rfl (fun X h he => ?_) goodM
  have h : cb_ok X cX12_fall RX12 (EM ca) 1 21 2 := h
  unfold m_fall at hf
  refine cb_aload_n 1 0 h dX12_fall_0 rfl rfl rfl ?_
  refine gf_X12_37 4 h dX12_fall_1 rfl ?_
  refine cb_iload_n 5 1 h dX12_fall_4 rfl rfl rfl ?_
  refine cb_dup2 6 h dX12_fall_5 rfl rfl rfl ?_
  obtain ⟨g1, hf⟩ := cb_gd_o hf
  refine laM_7 7 h dX12_fall_6 rfl (cb_in_v g1) rfl ?_
  refine cb_iconst 8 h dX12_fall_7 rfl kc_1 ?_
  refine cb_isub 9 h dX12_fall_8 rfl ?_
  obtain ⟨σ2, e3, hf⟩ := cb_let_o hf
  refine saM_7 10 h dX12_fall_9 rfl (cb_in_v g1) rfl e3 ?_
  refine cb_aload_n 11 0 h dX12_fall_10 rfl rfl rfl ?_
  refine gf_X12_37 14 h dX12_fall_11 rfl ?_
  refine cb_iload_n 15 1 h dX12_fall_14 rfl rfl rfl ?_
  refine laM_7 16 h dX12_fall_15 rfl (cb_in_v g1) rfl ?_
  refine cb_if_le 20 19 h dX12_fall_16 rfl rfl (fun q4 => ?_) (fun q4 => ?_)
  · have hf := cb_it q4 hf
    refine cb_aload_n 21 0 h dX12_fall_20 rfl rfl rfl ?_
    refine gf_X12_37 24 h dX12_fall_21 rfl ?_
    refine cb_iload_n 25 1 h dX12_fall_24 rfl rfl rfl ?_
    refine cb_aload_n 26 0 h dX12_fall_25 rfl rfl rfl ?_
    refine gf_X12_34 29 h dX12_fall_26 rfl ?_
    refine cb_iload_n 30 1 h dX12_fall_29 rfl rfl rfl ?_
    refine laM_6 31 h dX12_fall_30 rfl (cb_in_v g1) rfl ?_
    obtain ⟨σ5, e6, hf⟩ := cb_let_o hf
    refine saM_7 32 h dX12_fall_31 rfl (cb_in_v g1) rfl e6 ?_
    refine cb_aload_n 33 0 h dX12_fall_32 rfl rfl rfl ?_
    refine cb_iload_n 34 1 h dX12_fall_33 rfl rfl rfl ?_
    obtain ⟨σc7, ec7, hf⟩ := cb_bo_o hf
    refine cl_X12_271 37 h dX12_fall_34 rfl (mt_request ec7) ⟨rfl, rfl, Nat.le_of_ble_eq_true rfl, Nat.le_of_ble_eq_true rfl⟩ rfl (Nat.le_of_ble_eq_true rfl) ?_
    refine cb_iload_n 38 1 h dX12_fall_37 rfl rfl rfl ?_
    refine cb_iconst 39 h dX12_fall_38 rfl kc_1 ?_
    refine cb_icmp_eq 60 42 h dX12_fall_39 rfl rfl (fun q8 => ?_) (fun q8 => ?_)
    · have hf := cb_it q8 hf
      exact cb_retV (Wf := WM a ca) h dX12_fall_60 he hf
    · have hf := cb_if q8 hf
      refine cb_aload_n 43 0 h dX12_fall_42 rfl rfl rfl ?_
      refine gf_X12_43 46 h dX12_fall_43 rfl ?_
      refine cb_iconst 47 h dX12_fall_46 rfl kc_1 ?_
      refine laM_9 48 h dX12_fall_47 rfl vi_1_2 tk_1 ?_
      refine cb_if_eq 60 51 h dX12_fall_48 rfl rfl (fun q9 => ?_) (fun q9 => ?_)
      · have hf := cb_it q9 hf
        exact cb_retV (Wf := WM a ca) h dX12_fall_60 he hf
      · have hf := cb_if q9 hf
        refine cb_aload_n 52 0 h dX12_fall_51 rfl rfl rfl ?_
        refine gf_X12_46 55 h dX12_fall_52 rfl ?_
        refine cb_iconst 56 h dX12_fall_55 rfl kc_1 ?_
        refine laM_10 57 h dX12_fall_56 rfl vi_1_2 tk_1 ?_
        refine cb_if_ne 61 60 h dX12_fall_57 rfl rfl (fun q10 => ?_) (fun q10 => ?_)
        · have hf := cb_if q10 hf
          refine cb_aload_n 62 0 h dX12_fall_61 rfl rfl rfl ?_
          refine gf_X12_37 65 h dX12_fall_62 rfl ?_
          refine cb_iconst 66 h dX12_fall_65 rfl kc_1 ?_
          refine cb_dup2 67 h dX12_fall_66 rfl rfl rfl ?_
          refine laM_7 68 h dX12_fall_67 rfl vi_1_2 tk_1 ?_
          refine cb_iconst 69 h dX12_fall_68 rfl kc_1 ?_
          refine cb_isub 70 h dX12_fall_69 rfl ?_
          obtain ⟨σ11, e12, hf⟩ := cb_let_o hf
          refine saM_7 71 h dX12_fall_70 rfl vi_1_2 tk_1 e12 ?_
          refine cb_aload_n 72 0 h dX12_fall_71 rfl rfl rfl ?_
          refine gf_X12_37 75 h dX12_fall_72 rfl ?_
          refine cb_iconst 76 h dX12_fall_75 rfl kc_1 ?_
          refine laM_7 77 h dX12_fall_76 rfl vi_1_2 tk_1 ?_
          refine cb_if_le 81 80 h dX12_fall_77 rfl rfl (fun q13 => ?_) (fun q13 => ?_)
          · have hf := cb_it q13 hf
            refine cb_aload_n 82 0 h dX12_fall_81 rfl rfl rfl ?_
            refine gf_X12_37 85 h dX12_fall_82 rfl ?_
            refine cb_iconst 86 h dX12_fall_85 rfl kc_1 ?_
            refine cb_aload_n 87 0 h dX12_fall_86 rfl rfl rfl ?_
            refine gf_X12_34 90 h dX12_fall_87 rfl ?_
            refine cb_iconst 91 h dX12_fall_90 rfl kc_1 ?_
            refine laM_6 92 h dX12_fall_91 rfl vi_1_2 tk_1 ?_
            obtain ⟨σ14, e15, hf⟩ := cb_let_o hf
            refine saM_7 93 h dX12_fall_92 rfl vi_1_2 tk_1 e15 ?_
            refine cb_aload_n 94 0 h dX12_fall_93 rfl rfl rfl ?_
            refine cb_iconst 95 h dX12_fall_94 rfl kc_1 ?_
            obtain ⟨σc16, ec16, hf⟩ := cb_bo_o hf
            refine cl_X12_271 98 h dX12_fall_95 rfl (mt_request ec16) ⟨rfl, rfl, Nat.le_of_ble_eq_true rfl, Nat.le_of_ble_eq_true rfl⟩ rfl (Nat.le_of_ble_eq_true rfl) ?_
            exact cb_retV (Wf := WM a ca) h dX12_fall_98 he hf
          · have hf := cb_if q13 hf
            exact cb_retV (Wf := WM a ca) h dX12_fall_80 he hf
        · have hf := cb_it q10 hf
          exact cb_retV (Wf := WM a ca) h dX12_fall_60 he hf
  · have hf := cb_if q4 hf
    exact cb_retV (Wf := WM a ca) h dX12_fall_19 he hf
set_option maxRecDepth 100000 in
set_option maxHeartbeats 4000000 in
theorem mt_pass {l : Launch} {D : va_G} {a : Nat → Nat} {ca : Nat → ClassId} {N : Nat} {σ σ' : cb_S} {v1 : Int32} (hf : m_pass N σ v1 = some σ') : cb_C l yX12_pass cX12_pass 4 none { frames := 2, cells := 0, slots := 0, locals := 42 } D (EM ca) (adM a) [.ref (a 0), .int v1] (WM a ca σ) none (WM a ca σ') := by
  refine cb_mk [(0, .ref (a 0)), (1, .int v1)] (by decide) (Nat.le_of_ble_eq_true rfl) rfl (fun X h he => ?_) goodM
  have h : cb_ok X cX12_pass RX12 (EM ca) 2 42 4 := h
  unfold m_pass at hf
  have j89 : ∀ (k22 : cb_S → Int32 → Option cb_S) (hk22 : ∀ (σ : cb_S) (x2 : Int32), k22 σ x2 = some σ' → cb_V X (WM a ca σ) 22 [(0, .ref (a 0)), (1, .int v1), (2, .int x2)] []) (k29 : cb_S → Int32 → Int32 → Option cb_S) (hk29 : ∀ (σ : cb_S) (x2 : Int32) (x3 : Int32), k29 σ x2 x3 = some σ' → cb_V X (WM a ca σ) 29 [(0, .ref (a 0)), (1, .int v1), (2, .int x2), (3, .int x3)] []) (σ : cb_S) (x2 : Int32) (x3 : Int32), m_pass_L89 N v1 k22 k29 σ x2 x3 = some σ' → cb_V X (WM a ca σ) 89 [(0, .ref (a 0)), (1, .int v1), (2, .int x2), (3, .int x3)] [] := by
    intro k22 hk22 k29 hk29 σ x2 x3 hf
    unfold m_pass_L89 at hf
    obtain ⟨t1, e2, hf⟩ := cb_let_o hf
    refine cb_iinc 3 (lv' := [(3, .int t1), (0, .ref (a 0)), (1, .int v1), (2, .int x2)]) 92 h dX12_pass_89 rfl rfl ((congrArg (fun z => x3 + z) kc_1).trans e2) (Nat.le_of_ble_eq_true rfl) rfl ?_
    refine cb_goto 29 h dX12_pass_92 rfl ?_
    exact cb_lv [1, 2, 3, 0] rfl (hk29 _ _ _ hf)
  have j95 : ∀ (k22 : cb_S → Int32 → Option cb_S) (hk22 : ∀ (σ : cb_S) (x2 : Int32), k22 σ x2 = some σ' → cb_V X (WM a ca σ) 22 [(0, .ref (a 0)), (1, .int v1), (2, .int x2)] []) (σ : cb_S) (x2 : Int32), m_pass_L95 N v1 k22 σ x2 = some σ' → cb_V X (WM a ca σ) 95 [(0, .ref (a 0)), (1, .int v1), (2, .int x2)] [] := by
    intro k22 hk22 σ x2 hf
    unfold m_pass_L95 at hf
    obtain ⟨t3, e4, hf⟩ := cb_let_o hf
    refine cb_iinc 2 (lv' := [(2, .int t3), (0, .ref (a 0)), (1, .int v1)]) 98 h dX12_pass_95 rfl rfl ((congrArg (fun z => x2 + z) kc_1).trans e4) (Nat.le_of_ble_eq_true rfl) rfl ?_
    refine cb_goto 22 h dX12_pass_98 rfl ?_
    exact cb_lv [1, 2, 0] rfl (hk22 _ _ hf)
  have jb29 : ∀ (k22 : cb_S → Int32 → Option cb_S) (hk22 : ∀ (σ : cb_S) (x2 : Int32), k22 σ x2 = some σ' → cb_V X (WM a ca σ) 22 [(0, .ref (a 0)), (1, .int v1), (2, .int x2)] []) (k29 : cb_S → Int32 → Int32 → Option cb_S) (hk29 : ∀ (σ : cb_S) (x2 : Int32) (x3 : Int32), k29 σ x2 x3 = some σ' → cb_V X (WM a ca σ) 29 [(0, .ref (a 0)), (1, .int v1), (2, .int x2), (3, .int x3)] []) (σ : cb_S) (x2 : Int32) (x3 : Int32), m_pass_B29 N v1 k22 k29 σ x2 x3 = some σ' → cb_V X (WM a ca σ) 29 [(0, .ref (a 0)), (1, .int v1), (2, .int x2), (3, .int x3)] [] := by
    intro k22 hk22 k29 hk29 σ x2 x3 hf
    unfold m_pass_B29 at hf
    refine cb_iload_n 30 3 h dX12_pass_29 rfl rfl rfl ?_
    refine cb_iload_n 31 1 h dX12_pass_30 rfl rfl rfl ?_
    refine cb_icmp_ge 95 34 h dX12_pass_31 rfl rfl (fun q5 => ?_) (fun q5 => ?_)
    · have hf := cb_it q5 hf
      exact cb_lv [0, 1, 2] rfl (j95 k22 hk22 _ _ hf)
    · have hf := cb_if q5 hf
      refine cb_aload_n 35 0 h dX12_pass_34 rfl rfl rfl ?_
      refine gf_X12_43 38 h dX12_pass_35 rfl ?_
      refine cb_iload_n 39 2 h dX12_pass_38 rfl rfl rfl ?_
      obtain ⟨g6, hf⟩ := cb_gd_o hf
      refine laM_9 40 h dX12_pass_39 rfl (cb_in_v g6) rfl ?_
      refine cb_if_eq 95 43 h dX12_pass_40 rfl rfl (fun q7 => ?_) (fun q7 => ?_)
      · have hf := cb_it q7 hf
        exact cb_lv [0, 1, 2] rfl (j95 k22 hk22 _ _ hf)
      · have hf := cb_if q7 hf
        refine cb_aload_n 44 0 h dX12_pass_43 rfl rfl rfl ?_
        refine gf_X12_46 47 h dX12_pass_44 rfl ?_
        refine cb_iload_n 48 2 h dX12_pass_47 rfl rfl rfl ?_
        refine laM_10 49 h dX12_pass_48 rfl (cb_in_v g6) rfl ?_
        refine cb_if_ne 95 52 h dX12_pass_49 rfl rfl (fun q8 => ?_) (fun q8 => ?_)
        · have hf := cb_if q8 hf
          exact cb_lv [0, 1, 2] rfl (j95 k22 hk22 _ _ hf)
        · have hf := cb_it q8 hf
          refine cb_aload_n 53 0 h dX12_pass_52 rfl rfl rfl ?_
          refine gf_X12_40 56 h dX12_pass_53 rfl ?_
          refine cb_iload_n 57 2 h dX12_pass_56 rfl rfl rfl ?_
          refine cb_dup2 58 h dX12_pass_57 rfl rfl rfl ?_
          refine laM_8 59 h dX12_pass_58 rfl (cb_in_v g6) rfl ?_
          refine cb_iconst 60 h dX12_pass_59 rfl kc_1 ?_
          refine cb_iadd 61 h dX12_pass_60 rfl ?_
          obtain ⟨σ9, e10, hf⟩ := cb_let_o hf
          refine saM_8 62 h dX12_pass_61 rfl (cb_in_v g6) rfl e10 ?_
          refine cb_aload_n 63 0 h dX12_pass_62 rfl rfl rfl ?_
          refine gf_X12_40 66 h dX12_pass_63 rfl ?_
          refine cb_iload_n 67 2 h dX12_pass_66 rfl rfl rfl ?_
          refine laM_8 68 h dX12_pass_67 rfl (cb_in_v g6) rfl ?_
          refine cb_aload_n 69 0 h dX12_pass_68 rfl rfl rfl ?_
          refine gf_X12_49 72 h dX12_pass_69 rfl ?_
          refine cb_iload_n 73 2 h dX12_pass_72 rfl rfl rfl ?_
          refine laM_11 74 h dX12_pass_73 rfl (cb_in_v g6) rfl ?_
          refine cb_icmp_lt 89 77 h dX12_pass_74 rfl rfl (fun q11 => ?_) (fun q11 => ?_)
          · have hf := cb_it q11 hf
            exact j89 k22 hk22 k29 hk29 _ _ _ hf
          · have hf := cb_if q11 hf
            refine cb_aload_n 78 0 h dX12_pass_77 rfl rfl rfl ?_
            refine gf_X12_40 81 h dX12_pass_78 rfl ?_
            refine cb_iload_n 82 2 h dX12_pass_81 rfl rfl rfl ?_
            refine cb_iconst 83 h dX12_pass_82 rfl kc_0 ?_
            obtain ⟨σ12, e13, hf⟩ := cb_let_o hf
            refine saM_8 84 h dX12_pass_83 rfl (cb_in_v g6) rfl e13 ?_
            refine cb_aload_n 85 0 h dX12_pass_84 rfl rfl rfl ?_
            refine cb_iload_n 86 2 h dX12_pass_85 rfl rfl rfl ?_
            obtain ⟨σc14, ec14, hf⟩ := cb_bo_o hf
            refine cl_X12_268 89 h dX12_pass_86 rfl (mt_fall ec14) ⟨rfl, rfl, Nat.le_of_ble_eq_true rfl, Nat.le_of_ble_eq_true rfl⟩ rfl (Nat.le_of_ble_eq_true rfl) ?_
            exact j89 k22 hk22 k29 hk29 _ _ _ hf
  have j29 : ∀ (k22 : cb_S → Int32 → Option cb_S) (hk22 : ∀ (σ : cb_S) (x2 : Int32), k22 σ x2 = some σ' → cb_V X (WM a ca σ) 22 [(0, .ref (a 0)), (1, .int v1), (2, .int x2)] []) (n : Nat) (σ : cb_S) (x2 : Int32) (x3 : Int32), m_pass_H29 N v1 k22 n σ x2 x3 = some σ' → cb_V X (WM a ca σ) 29 [(0, .ref (a 0)), (1, .int v1), (2, .int x2), (3, .int x3)] [] := by
    intro k22 hk22 n
    induction n with
    | zero => intro σ x2 x3 hf; cases hf
    | succ n ih => intro σ x2 x3 hf; exact jb29 k22 hk22 _ ih _ _ _ hf
  have jb22 : ∀ (k22 : cb_S → Int32 → Option cb_S) (hk22 : ∀ (σ : cb_S) (x2 : Int32), k22 σ x2 = some σ' → cb_V X (WM a ca σ) 22 [(0, .ref (a 0)), (1, .int v1), (2, .int x2)] []) (σ : cb_S) (x2 : Int32), m_pass_B22 N v1 k22 σ x2 = some σ' → cb_V X (WM a ca σ) 22 [(0, .ref (a 0)), (1, .int v1), (2, .int x2)] [] := by
    intro k22 hk22 σ x2 hf
    unfold m_pass_B22 at hf
    refine cb_iload_n 23 2 h dX12_pass_22 rfl rfl rfl ?_
    refine cb_iconst 24 h dX12_pass_23 rfl kc_2 ?_
    refine cb_icmp_ge 101 27 h dX12_pass_24 rfl rfl (fun q15 => ?_) (fun q15 => ?_)
    · have hf := cb_it q15 hf
      exact cb_retV (Wf := WM a ca) h dX12_pass_101 he hf
    · have hf := cb_if q15 hf
      refine cb_iconst 28 h dX12_pass_27 rfl kc_0 ?_
      refine cb_istore_n (lv' := [(3, .int (0 : Int32)), (0, .ref (a 0)), (1, .int v1), (2, .int x2)]) 29 h dX12_pass_28 rfl rfl rfl (Nat.le_of_ble_eq_true rfl) rfl ?_
      exact cb_lv [1, 2, 3, 0] rfl (j29 k22 hk22 _ _ _ _ hf)
  have j22 : ∀ (n : Nat) (σ : cb_S) (x2 : Int32), m_pass_H22 N v1 n σ x2 = some σ' → cb_V X (WM a ca σ) 22 [(0, .ref (a 0)), (1, .int v1), (2, .int x2)] [] := by
    intro n
    induction n with
    | zero => intro σ x2 hf; cases hf
    | succ n ih => intro σ x2 hf; exact jb22  _ ih _ _ hf
  refine cb_aload_n 1 0 h dX12_pass_0 rfl rfl rfl ?_
  refine cb_dup 2 h dX12_pass_1 rfl rfl ?_
  refine gf_X12_265 5 h dX12_pass_2 rfl ?_
  refine cb_iload_n 6 1 h dX12_pass_5 rfl rfl rfl ?_
  refine cb_iadd 7 h dX12_pass_6 rfl ?_
  obtain ⟨σ16, e17, hf⟩ := cb_let_o hf
  refine pf_X12_265 10 h dX12_pass_7 rfl e17 ?_
  refine cb_aload_n 11 0 h dX12_pass_10 rfl rfl rfl ?_
  refine gf_X12_91 14 h dX12_pass_11 rfl ?_
  refine cb_iconst 15 h dX12_pass_14 rfl kc_0 ?_
  refine cb_dup2 16 h dX12_pass_15 rfl rfl rfl ?_
  refine laM_25 17 h dX12_pass_16 rfl vi_0_3 tk_0 ?_
  refine cb_iload_n 18 1 h dX12_pass_17 rfl rfl rfl ?_
  refine cb_iadd 19 h dX12_pass_18 rfl ?_
  obtain ⟨σ18, e19, hf⟩ := cb_let_o hf
  refine saM_25 20 h dX12_pass_19 rfl vi_0_3 tk_0 e19 ?_
  refine cb_iconst 21 h dX12_pass_20 rfl kc_0 ?_
  refine cb_istore_n (lv' := [(2, .int (0 : Int32)), (0, .ref (a 0)), (1, .int v1)]) 22 h dX12_pass_21 rfl rfl rfl (Nat.le_of_ble_eq_true rfl) rfl ?_
  exact cb_lv [1, 2, 0] rfl (j22 _ _ _ hf)
set_option maxRecDepth 100000 in
set_option maxHeartbeats 4000000 in
theorem mt_vectorOf {l : Launch} {D : va_G} {a : Nat → Nat} {ca : Nat → ClassId} {σ : cb_S} {v1 : Int32} {r : Int32} (hf : m_vectorOf σ v1 = some r) : cb_C l yX12_vectorOf cX12_vectorOf 2 (some .int) { frames := 0, cells := 0, slots := 0, locals := 0 } D (EM ca) (adM a) [.ref (a 0), .int v1] (WM a ca σ) (some (.int r)) (WM a ca σ) := by
  refine cb_mk [(0, .ref (a 0)), (1, .int v1)] (by decide) (Nat.le_of_ble_eq_true rfl) rfl (fun X h he => ?_) goodM
  have h : cb_ok X cX12_vectorOf RX12 (EM ca) 0 0 2 := h
  unfold m_vectorOf at hf
  refine cb_iload_n 1 1 h dX12_vectorOf_0 rfl rfl rfl ?_
  refine cb_iconst 2 h dX12_vectorOf_1 rfl kc_2 ?_
  refine cb_icmp_ge 16 5 h dX12_vectorOf_2 rfl rfl (fun q1 => ?_) (fun q1 => ?_)
  · have hf := cb_it q1 hf
    refine cb_aload_n 17 0 h dX12_vectorOf_16 rfl rfl rfl ?_
    refine gf_X12_58 20 h dX12_vectorOf_17 rfl ?_
    refine cb_iload_n 21 1 h dX12_vectorOf_20 rfl rfl rfl ?_
    refine cb_iconst 22 h dX12_vectorOf_21 rfl kc_2 ?_
    refine cb_isub 23 h dX12_vectorOf_22 rfl ?_
    obtain ⟨g2, hf⟩ := cb_gd_o hf
    refine laM_14 24 h dX12_vectorOf_23 rfl (cb_in_v g2) rfl ?_
    exact cb_retJ h dX12_vectorOf_24 he hf
  · have hf := cb_if q1 hf
    refine cb_aload_n 6 0 h dX12_vectorOf_5 rfl rfl rfl ?_
    refine gf_X12_262 9 h dX12_vectorOf_6 rfl ?_
    refine cb_iconst 10 h dX12_vectorOf_9 rfl kc_2 ?_
    refine cb_iload_n 11 1 h dX12_vectorOf_10 rfl rfl rfl ?_
    refine cb_imul 12 h dX12_vectorOf_11 rfl ?_
    refine cb_iadd 13 h dX12_vectorOf_12 rfl ?_
    refine cb_goto 24 h dX12_vectorOf_13 rfl ?_
    exact cb_retJ h dX12_vectorOf_24 he hf
set_option maxRecDepth 100000 in
set_option maxHeartbeats 4000000 in
theorem mt_acknowledge {l : Launch} {D : va_G} {a : Nat → Nat} {ca : Nat → ClassId} {N : Nat} {σ σ' : cb_S} (hf : m_acknowledge N σ = some σ') : cb_C l yX12_acknowledge cX12_acknowledge 2 none { frames := 3, cells := 0, slots := 0, locals := 65 } D (EM ca) (adM a) [.ref (a 0)] (WM a ca σ) none (WM a ca σ') := by
  refine cb_mk [(0, .ref (a 0))] (by decide) (Nat.le_of_ble_eq_true rfl) rfl (fun X h he => ?_) goodM
  have h : cb_ok X cX12_acknowledge RX12 (EM ca) 3 65 2 := h
  unfold m_acknowledge at hf
  have j117 : ∀ (σ : cb_S) (y0 : Int32), m_acknowledge_L117 N σ y0 = some σ' → cb_V X (WM a ca σ) 117 [(0, .ref (a 0))] [.int y0, .ref (a 0)] := by
    intro σ y0 hf
    unfold m_acknowledge_L117 at hf
    obtain ⟨σ1, e2, hf⟩ := cb_let_o hf
    refine pf_X12_102 120 h dX12_acknowledge_117 rfl e2 ?_
    refine cb_aload_n 121 0 h dX12_acknowledge_120 rfl rfl rfl ?_
    refine gf_X12_91 124 h dX12_acknowledge_121 rfl ?_
    refine cb_iconst 125 h dX12_acknowledge_124 rfl kc_2 ?_
    refine cb_dup2 126 h dX12_acknowledge_125 rfl rfl rfl ?_
    refine laM_25 127 h dX12_acknowledge_126 rfl vi_2_3 tk_2 ?_
    refine cb_iconst 128 h dX12_acknowledge_127 rfl kc_1 ?_
    refine cb_iadd 129 h dX12_acknowledge_128 rfl ?_
    obtain ⟨σ3, e4, hf⟩ := cb_let_o hf
    refine saM_25 130 h dX12_acknowledge_129 rfl vi_2_3 tk_2 e4 ?_
    refine cb_aload_n 131 0 h dX12_acknowledge_130 rfl rfl rfl ?_
    refine cb_aload_n 132 0 h dX12_acknowledge_131 rfl rfl rfl ?_
    refine gf_X12_21 135 h dX12_acknowledge_132 rfl ?_
    refine cb_iconst 136 h dX12_acknowledge_135 rfl kc_1 ?_
    refine cb_cut (cb_V X (WM a ca σ3) 146 [(0, .ref (a 0))] [.int (if (σ3 0 6) = (1 : Int32) then (13 : Int32) else (19 : Int32)), .ref (a 0)]) (fun jj => ?_) ?_
    · refine cb_icmp_ne 144 139 h dX12_acknowledge_136 rfl rfl (fun q5 => ?_) (fun q5 => ?_)
      · refine cb_bipush 146 h dX12_acknowledge_144 rfl kb_19 ?_
        exact (cb_tf q5 jj)
      · refine cb_bipush 141 h dX12_acknowledge_139 rfl kb_13 ?_
        refine cb_goto 146 h dX12_acknowledge_141 rfl ?_
        exact (cb_tt q5 jj)
    obtain ⟨σc6, ec6, hf⟩ := cb_bo_o hf
    refine cl_X12_259 149 h dX12_acknowledge_146 rfl (mt_pass ec6) ⟨rfl, rfl, Nat.le_of_ble_eq_true rfl, Nat.le_of_ble_eq_true rfl⟩ rfl (Nat.le_of_ble_eq_true rfl) ?_
    exact cb_retV (Wf := WM a ca) h dX12_acknowledge_149 he hf
  have j31 : ∀ (σ : cb_S) (x1 : Int32), m_acknowledge_L31 N σ x1 = some σ' → cb_V X (WM a ca σ) 31 [(0, .ref (a 0)), (1, .int x1)] [] := by
    intro σ x1 hf
    unfold m_acknowledge_L31 at hf
    refine cb_aload_n 32 0 h dX12_acknowledge_31 rfl rfl rfl ?_
    refine gf_X12_243 35 h dX12_acknowledge_32 rfl ?_
    refine cb_if_eq 52 38 h dX12_acknowledge_35 rfl rfl (fun q7 => ?_) (fun q7 => ?_)
    · have hf := cb_it q7 hf
      exact cb_retV (Wf := WM a ca) h dX12_acknowledge_52 he hf
    · have hf := cb_if q7 hf
      refine cb_iload_n 39 1 h dX12_acknowledge_38 rfl rfl rfl ?_
      refine cb_iconst 40 h dX12_acknowledge_39 rfl kc_4 ?_
      refine cb_icmp_eq 52 43 h dX12_acknowledge_40 rfl rfl (fun q8 => ?_) (fun q8 => ?_)
      · have hf := cb_it q8 hf
        exact cb_retV (Wf := WM a ca) h dX12_acknowledge_52 he hf
      · have hf := cb_if q8 hf
        refine cb_aload_n 44 0 h dX12_acknowledge_43 rfl rfl rfl ?_
        refine gf_X12_28 47 h dX12_acknowledge_44 rfl ?_
        refine cb_iload_n 48 1 h dX12_acknowledge_47 rfl rfl rfl ?_
        obtain ⟨g9, hf⟩ := cb_gd_o hf
        refine laM_4 49 h dX12_acknowledge_48 rfl (cb_in_v g9) rfl ?_
        refine cb_if_eq 53 52 h dX12_acknowledge_49 rfl rfl (fun q10 => ?_) (fun q10 => ?_)
        · have hf := cb_it q10 hf
          refine cb_aload_n 54 0 h dX12_acknowledge_53 rfl rfl rfl ?_
          refine gf_X12_24 57 h dX12_acknowledge_54 rfl ?_
          refine cb_iload_n 58 1 h dX12_acknowledge_57 rfl rfl rfl ?_
          refine cb_iconst 59 h dX12_acknowledge_58 rfl kc_0 ?_
          obtain ⟨σ11, e12, hf⟩ := cb_let_o hf
          refine saM_3 60 h dX12_acknowledge_59 rfl (cb_in_v g9) rfl cb_01_0 e12 ?_
          refine cb_aload_n 61 0 h dX12_acknowledge_60 rfl rfl rfl ?_
          refine gf_X12_28 64 h dX12_acknowledge_61 rfl ?_
          refine cb_iload_n 65 1 h dX12_acknowledge_64 rfl rfl rfl ?_
          refine cb_iconst 66 h dX12_acknowledge_65 rfl kc_1 ?_
          obtain ⟨σ13, e14, hf⟩ := cb_let_o hf
          refine saM_4 67 h dX12_acknowledge_66 rfl (cb_in_v g9) rfl cb_01_1 e14 ?_
          refine cb_aload_n 68 0 h dX12_acknowledge_67 rfl rfl rfl ?_
          refine cb_iconst 69 h dX12_acknowledge_68 rfl kc_0 ?_
          obtain ⟨σ15, e16, hf⟩ := cb_let_o hf
          refine pf_X12_243 72 h dX12_acknowledge_69 rfl cb_01_0 e16 ?_
          refine cb_aload_n 73 0 h dX12_acknowledge_72 rfl rfl rfl ?_
          refine cb_iconst 74 h dX12_acknowledge_73 rfl kc_0 ?_
          obtain ⟨σ17, e18, hf⟩ := cb_let_o hf
          refine pf_X12_167 77 h dX12_acknowledge_74 rfl e18 ?_
          refine cb_aload_n 78 0 h dX12_acknowledge_77 rfl rfl rfl ?_
          refine cb_aload_n 79 0 h dX12_acknowledge_78 rfl rfl rfl ?_
          refine gf_X12_102 82 h dX12_acknowledge_79 rfl ?_
          obtain ⟨σc19, ec19, hf⟩ := cb_bo_o hf
          refine cl_X12_222 85 h dX12_acknowledge_82 rfl (mt_push ec19) ⟨rfl, rfl, Nat.le_of_ble_eq_true rfl, Nat.le_of_ble_eq_true rfl⟩ rfl (Nat.le_of_ble_eq_true rfl) ?_
          refine cb_aload_n 86 0 h dX12_acknowledge_85 rfl rfl rfl ?_
          refine cb_aload_n 87 0 h dX12_acknowledge_86 rfl rfl rfl ?_
          refine gf_X12_21 90 h dX12_acknowledge_87 rfl ?_
          refine cb_iconst 91 h dX12_acknowledge_90 rfl kc_1 ?_
          refine cb_icmp_ne 99 94 h dX12_acknowledge_91 rfl rfl (fun q20 => ?_) (fun q20 => ?_)
          · have hf := cb_if q20 hf
            refine cb_aload_n 100 0 h dX12_acknowledge_99 rfl rfl rfl ?_
            refine cb_sipush 103 h dX12_acknowledge_100 rfl ks_256 ?_
            refine cb_aload_n 104 0 h dX12_acknowledge_103 rfl rfl rfl ?_
            refine gf_X12_250 107 h dX12_acknowledge_104 rfl ?_
            refine cb_imul 108 h dX12_acknowledge_107 rfl ?_
            refine cb_aload_n 109 0 h dX12_acknowledge_108 rfl rfl rfl ?_
            refine cb_iload_n 110 1 h dX12_acknowledge_109 rfl rfl rfl ?_
            obtain ⟨c21, ec21, hf⟩ := cb_bo_o hf
            refine cl_X12_256 113 h dX12_acknowledge_110 rfl (mt_vectorOf ec21) ⟨rfl, rfl, Nat.le_of_ble_eq_true rfl, Nat.le_of_ble_eq_true rfl⟩ rfl (Nat.le_of_ble_eq_true rfl) ?_
            refine cb_iadd 114 h dX12_acknowledge_113 rfl ?_
            obtain ⟨c22, ec22, hf⟩ := cb_bo_o hf
            refine cl_X12_118 117 h dX12_acknowledge_114 rfl (mt_wordAt ec22) ⟨rfl, rfl, Nat.le_of_ble_eq_true rfl, Nat.le_of_ble_eq_true rfl⟩ rfl (Nat.le_of_ble_eq_true rfl) ?_
            exact cb_lv [0] rfl (j117 _ _ hf)
          · have hf := cb_it q20 hf
            refine cb_bipush 96 h dX12_acknowledge_94 rfl kb_56 ?_
            refine cb_goto 117 h dX12_acknowledge_96 rfl ?_
            exact cb_lv [0] rfl (j117 _ _ hf)
        · have hf := cb_if q10 hf
          exact cb_retV (Wf := WM a ca) h dX12_acknowledge_52 he hf
  refine cb_iconst 1 h dX12_acknowledge_0 rfl kc_0 ?_
  refine cb_istore_n (lv' := [(1, .int (0 : Int32)), (0, .ref (a 0))]) 2 h dX12_acknowledge_1 rfl rfl rfl (Nat.le_of_ble_eq_true rfl) rfl ?_
  refine cb_iload_n 3 0 h dX12_acknowledge_2 rfl rfl rfl ?_
  refine cb_iconst 4 h dX12_acknowledge_3 rfl kc_4 ?_
  refine cb_icmp_ge 31 7 h dX12_acknowledge_4 rfl rfl (fun q => absurd q (by decide)) (fun _ => ?_)
  refine cb_aload_n 8 1 h dX12_acknowledge_7 rfl rfl rfl ?_
  refine gf_X12_24 11 h dX12_acknowledge_8 rfl ?_
  refine cb_iload_n 12 0 h dX12_acknowledge_11 rfl rfl rfl ?_
  refine laM_3 13 h dX12_acknowledge_12 rfl vi_0_4 tk_0 ?_
  refine cb_if_ne 31 16 h dX12_acknowledge_13 rfl rfl (fun q23 => ?_) (fun q23 => ?_)
  · have hf := cb_if q23 hf
    exact cb_lv [1, 0] rfl (j31 _ _ hf)
  · have hf := cb_it q23 hf
    refine cb_aload_n 17 1 h dX12_acknowledge_16 rfl rfl rfl ?_
    refine gf_X12_28 20 h dX12_acknowledge_17 rfl ?_
    refine cb_iload_n 21 0 h dX12_acknowledge_20 rfl rfl rfl ?_
    refine laM_4 22 h dX12_acknowledge_21 rfl vi_0_4 tk_0 ?_
    refine cb_if_ne 31 25 h dX12_acknowledge_22 rfl rfl (fun q24 => ?_) (fun q24 => ?_)
    · have hf := cb_if q24 hf
      exact cb_lv [1, 0] rfl (j31 _ _ hf)
    · have hf := cb_it q24 hf
      refine cb_iinc 0 (lv' := [(1, .int (1 : Int32)), (0, .ref (a 0))]) 28 h dX12_acknowledge_25 rfl rfl (by decide) (Nat.le_of_ble_eq_true rfl) rfl ?_
      refine cb_goto 2 h dX12_acknowledge_28 rfl ?_
      refine cb_iload_n 3 0 h dX12_acknowledge_2 rfl rfl rfl ?_
      refine cb_iconst 4 h dX12_acknowledge_3 rfl kc_4 ?_
      refine cb_icmp_ge 31 7 h dX12_acknowledge_4 rfl rfl (fun q => absurd q (by decide)) (fun _ => ?_)
      refine cb_aload_n 8 1 h dX12_acknowledge_7 rfl rfl rfl ?_
      refine gf_X12_24 11 h dX12_acknowledge_8 rfl ?_
      refine cb_iload_n 12 0 h dX12_acknowledge_11 rfl rfl rfl ?_
      refine laM_3 13 h dX12_acknowledge_12 rfl vi_1_4 tk_1 ?_
      refine cb_if_ne 31 16 h dX12_acknowledge_13 rfl rfl (fun q25 => ?_) (fun q25 => ?_)
      · have hf := cb_if q25 hf
        exact cb_lv [1, 0] rfl (j31 _ _ hf)
      · have hf := cb_it q25 hf
        refine cb_aload_n 17 1 h dX12_acknowledge_16 rfl rfl rfl ?_
        refine gf_X12_28 20 h dX12_acknowledge_17 rfl ?_
        refine cb_iload_n 21 0 h dX12_acknowledge_20 rfl rfl rfl ?_
        refine laM_4 22 h dX12_acknowledge_21 rfl vi_1_4 tk_1 ?_
        refine cb_if_ne 31 25 h dX12_acknowledge_22 rfl rfl (fun q26 => ?_) (fun q26 => ?_)
        · have hf := cb_if q26 hf
          exact cb_lv [1, 0] rfl (j31 _ _ hf)
        · have hf := cb_it q26 hf
          refine cb_iinc 0 (lv' := [(1, .int (2 : Int32)), (0, .ref (a 0))]) 28 h dX12_acknowledge_25 rfl rfl (by decide) (Nat.le_of_ble_eq_true rfl) rfl ?_
          refine cb_goto 2 h dX12_acknowledge_28 rfl ?_
          refine cb_iload_n 3 0 h dX12_acknowledge_2 rfl rfl rfl ?_
          refine cb_iconst 4 h dX12_acknowledge_3 rfl kc_4 ?_
          refine cb_icmp_ge 31 7 h dX12_acknowledge_4 rfl rfl (fun q => absurd q (by decide)) (fun _ => ?_)
          refine cb_aload_n 8 1 h dX12_acknowledge_7 rfl rfl rfl ?_
          refine gf_X12_24 11 h dX12_acknowledge_8 rfl ?_
          refine cb_iload_n 12 0 h dX12_acknowledge_11 rfl rfl rfl ?_
          refine laM_3 13 h dX12_acknowledge_12 rfl vi_2_4 tk_2 ?_
          refine cb_if_ne 31 16 h dX12_acknowledge_13 rfl rfl (fun q27 => ?_) (fun q27 => ?_)
          · have hf := cb_if q27 hf
            exact cb_lv [1, 0] rfl (j31 _ _ hf)
          · have hf := cb_it q27 hf
            refine cb_aload_n 17 1 h dX12_acknowledge_16 rfl rfl rfl ?_
            refine gf_X12_28 20 h dX12_acknowledge_17 rfl ?_
            refine cb_iload_n 21 0 h dX12_acknowledge_20 rfl rfl rfl ?_
            refine laM_4 22 h dX12_acknowledge_21 rfl vi_2_4 tk_2 ?_
            refine cb_if_ne 31 25 h dX12_acknowledge_22 rfl rfl (fun q28 => ?_) (fun q28 => ?_)
            · have hf := cb_if q28 hf
              exact cb_lv [1, 0] rfl (j31 _ _ hf)
            · have hf := cb_it q28 hf
              refine cb_iinc 0 (lv' := [(1, .int (3 : Int32)), (0, .ref (a 0))]) 28 h dX12_acknowledge_25 rfl rfl (by decide) (Nat.le_of_ble_eq_true rfl) rfl ?_
              refine cb_goto 2 h dX12_acknowledge_28 rfl ?_
              refine cb_iload_n 3 0 h dX12_acknowledge_2 rfl rfl rfl ?_
              refine cb_iconst 4 h dX12_acknowledge_3 rfl kc_4 ?_
              refine cb_icmp_ge 31 7 h dX12_acknowledge_4 rfl rfl (fun q => absurd q (by decide)) (fun _ => ?_)
              refine cb_aload_n 8 1 h dX12_acknowledge_7 rfl rfl rfl ?_
              refine gf_X12_24 11 h dX12_acknowledge_8 rfl ?_
              refine cb_iload_n 12 0 h dX12_acknowledge_11 rfl rfl rfl ?_
              refine laM_3 13 h dX12_acknowledge_12 rfl vi_3_4 tk_3 ?_
              refine cb_if_ne 31 16 h dX12_acknowledge_13 rfl rfl (fun q29 => ?_) (fun q29 => ?_)
              · have hf := cb_if q29 hf
                exact cb_lv [1, 0] rfl (j31 _ _ hf)
              · have hf := cb_it q29 hf
                refine cb_aload_n 17 1 h dX12_acknowledge_16 rfl rfl rfl ?_
                refine gf_X12_28 20 h dX12_acknowledge_17 rfl ?_
                refine cb_iload_n 21 0 h dX12_acknowledge_20 rfl rfl rfl ?_
                refine laM_4 22 h dX12_acknowledge_21 rfl vi_3_4 tk_3 ?_
                refine cb_if_ne 31 25 h dX12_acknowledge_22 rfl rfl (fun q30 => ?_) (fun q30 => ?_)
                · have hf := cb_if q30 hf
                  exact cb_lv [1, 0] rfl (j31 _ _ hf)
                · have hf := cb_it q30 hf
                  refine cb_iinc 0 (lv' := [(1, .int (4 : Int32)), (0, .ref (a 0))]) 28 h dX12_acknowledge_25 rfl rfl (by decide) (Nat.le_of_ble_eq_true rfl) rfl ?_
                  refine cb_goto 2 h dX12_acknowledge_28 rfl ?_
                  refine cb_iload_n 3 0 h dX12_acknowledge_2 rfl rfl rfl ?_
                  refine cb_iconst 4 h dX12_acknowledge_3 rfl kc_4 ?_
                  refine cb_icmp_ge 31 7 h dX12_acknowledge_4 rfl rfl (fun _ => ?_) (fun q => absurd q (by decide))
                  exact cb_lv [1, 0] rfl (j31 _ _ hf)
