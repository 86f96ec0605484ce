set_option maxRecDepth 100000 in
set_option maxHeartbeats 4000000 in
theorem mt_portControl {l : Launch} {D : va_G} {a : Nat → Nat} {ca : Nat → ClassId} {σ σ' : cb_S} {v1 v2 : Int32} (hf : m_portControl σ v1 v2 = some σ') : cb_C l yX12_portControl cX12_portControl 4 none { frames := 2, cells := 0, slots := 0, locals := 45 } D (EM ca) (adM a) [.ref (a 0), .int v1, .int v2] (WM a ca σ) none (WM a ca σ') := by
  refine cb_mk [(0, .ref (a 0)), (1, .int v1), (2, .int v2)] (by decide) (Nat.le_of_ble_eq_true rfl) rfl (fun X h he => ?_) goodM
  have h : cb_ok X cX12_portControl RX12 (EM ca) 2 45 4 := h
  unfold m_portControl at hf
  have j267 : ∀ (σ : cb_S), m_portControl_L267 v1 v2 σ = some σ' → cb_V X (WM a ca σ) 267 [(0, .ref (a 0)), (1, .int v1)] [] := by
    intro σ hf
    unfold m_portControl_L267 at hf
    refine cb_aload_n 268 0 h dX12_portControl_267 rfl rfl rfl ?_
    refine cb_iload_n 269 1 h dX12_portControl_268 rfl rfl rfl ?_
    obtain ⟨σc1, ec1, hf⟩ := cb_bo_o hf
    refine cl_X12_274 272 h dX12_portControl_269 rfl (mt_watch ec1) ⟨rfl, rfl, Nat.le_of_ble_eq_true rfl, Nat.le_of_ble_eq_true rfl⟩ rfl (Nat.le_of_ble_eq_true rfl) ?_
    exact cb_retV (Wf := WM a ca) h dX12_portControl_272 he hf
  refine cb_aload_n 1 0 h dX12_portControl_0 rfl rfl rfl ?_
  refine gf_X12_61 4 h dX12_portControl_1 rfl ?_
  refine cb_iload_n 5 1 h dX12_portControl_4 rfl rfl rfl ?_
  obtain ⟨g2, hf⟩ := cb_gd_o hf
  refine laM_15 6 h dX12_portControl_5 rfl (cb_in_v g2) rfl ?_
  obtain ⟨t3, e4, hf⟩ := cb_let_o hf
  refine cb_istore_n (lv' := [(3, .int t3), (0, .ref (a 0)), (1, .int v1), (2, .int v2)]) 7 h dX12_portControl_6 rfl rfl e4 (Nat.le_of_ble_eq_true rfl) rfl ?_
  refine cb_aload_n 8 1 h dX12_portControl_7 rfl rfl rfl ?_
  refine gf_X12_61 11 h dX12_portControl_8 rfl ?_
  refine cb_iload_n 12 2 h dX12_portControl_11 rfl rfl rfl ?_
  refine cb_iconst 13 h dX12_portControl_12 rfl kc_0 ?_
  obtain ⟨σ5, e6, hf⟩ := cb_let_o hf
  refine saM_15 14 h dX12_portControl_13 rfl (cb_in_v g2) rfl e6 ?_
  refine cb_iload_n 15 0 h dX12_portControl_14 rfl rfl rfl ?_
  refine cb_iconst 16 h dX12_portControl_15 rfl kc_1 ?_
  refine cb_icmp_ne 29 19 h dX12_portControl_16 rfl rfl (fun q7 => ?_) (fun q7 => ?_)
  · have hf := cb_if q7 hf
    refine cb_iload_n 30 0 h dX12_portControl_29 rfl rfl rfl ?_
    refine cb_iconst 31 h dX12_portControl_30 rfl kc_2 ?_
    refine cb_icmp_ne 44 34 h dX12_portControl_31 rfl rfl (fun q8 => ?_) (fun q8 => ?_)
    · have hf := cb_if q8 hf
      refine cb_iload_n 45 3 h dX12_portControl_44 rfl rfl rfl ?_
      refine cb_iconst 46 h dX12_portControl_45 rfl kc_1 ?_
      refine cb_iand 47 h dX12_portControl_46 rfl ?_
      refine cb_if_ne 60 50 h dX12_portControl_47 rfl rfl (fun q9 => ?_) (fun q9 => ?_)
      · have hf := cb_if q9 hf
        refine cb_iload_n 61 3 h dX12_portControl_60 rfl rfl rfl ?_
        refine cb_bipush 63 h dX12_portControl_61 rfl kb_15 ?_
        refine cb_iand 64 h dX12_portControl_63 rfl ?_
        refine cb_bipush 66 h dX12_portControl_64 rfl kb_15 ?_
        refine cb_icmp_ne 122 69 h dX12_portControl_66 rfl rfl (fun q10 => ?_) (fun q10 => ?_)
        · have hf := cb_if q10 hf
          refine cb_iload_n 123 3 h dX12_portControl_122 rfl rfl rfl ?_
          refine cb_bipush 125 h dX12_portControl_123 rfl kb_15 ?_
          refine cb_iand 126 h dX12_portControl_125 rfl ?_
          refine cb_bipush 128 h dX12_portControl_126 rfl kb_7 ?_
          refine cb_icmp_ne 240 131 h dX12_portControl_128 rfl rfl (fun q11 => ?_) (fun q11 => ?_)
          · have hf := cb_if q11 hf
            refine cb_iload_n 241 3 h dX12_portControl_240 rfl rfl rfl ?_
            refine cb_bipush 243 h dX12_portControl_241 rfl kb_15 ?_
            refine cb_iand 244 h dX12_portControl_243 rfl ?_
            refine cb_iconst 245 h dX12_portControl_244 rfl kc_3 ?_
            refine cb_icmp_ne 267 248 h dX12_portControl_245 rfl rfl (fun q12 => ?_) (fun q12 => ?_)
            · have hf := cb_if q12 hf
              exact cb_lv [1, 2] rfl (j267 _ hf)
            · have hf := cb_it q12 hf
              refine cb_aload_n 249 1 h dX12_portControl_248 rfl rfl rfl ?_
              refine gf_X12_31 252 h dX12_portControl_249 rfl ?_
              refine cb_iconst 253 h dX12_portControl_252 rfl kc_2 ?_
              refine cb_iload_n 254 2 h dX12_portControl_253 rfl rfl rfl ?_
              refine cb_iadd 255 h dX12_portControl_254 rfl ?_
              refine cb_iload_n 256 3 h dX12_portControl_255 rfl rfl rfl ?_
              refine cb_bipush 258 h dX12_portControl_256 rfl kb_127 ?_
              refine cb_cut (cb_V X (WM a ca σ5) 266 [(3, .int t3), (0, .ref (a 0)), (1, .int v1), (2, .int v2)] [.int (if v2 ≤ (127 : Int32) then (0 : Int32) else (1 : Int32)), .int ((2 : Int32) + v1), .ref (a 5)]) (fun jj => ?_) ?_
              · refine cb_icmp_le 265 261 h dX12_portControl_258 rfl rfl (fun q13 => ?_) (fun q13 => ?_)
                · refine cb_iconst 266 h dX12_portControl_265 rfl kc_0 ?_
                  exact (cb_tt q13 jj)
                · refine cb_iconst 262 h dX12_portControl_261 rfl kc_1 ?_
                  refine cb_goto 266 h dX12_portControl_262 rfl ?_
                  exact (cb_tf q13 jj)
              obtain ⟨g14, hf⟩ := cb_gd_o hf
              obtain ⟨σ15, e16, hf⟩ := cb_let_o hf
              refine saM_5 267 h dX12_portControl_266 rfl (cb_in_v g14) rfl (cb_01_i cb_01_0 cb_01_1) e16 ?_
              exact cb_lv [1, 2] rfl (j267 _ hf)
          · have hf := cb_it q11 hf
            refine cb_aload_n 132 1 h dX12_portControl_131 rfl rfl rfl ?_
            refine gf_X12_31 135 h dX12_portControl_132 rfl ?_
            refine cb_iconst 136 h dX12_portControl_135 rfl kc_2 ?_
            refine cb_iload_n 137 2 h dX12_portControl_136 rfl rfl rfl ?_
            refine cb_iadd 138 h dX12_portControl_137 rfl ?_
            refine cb_iload_n 139 3 h dX12_portControl_138 rfl rfl rfl ?_
            refine cb_bipush 141 h dX12_portControl_139 rfl kb_127 ?_
            refine cb_cut (cb_V X (WM a ca σ5) 149 [(3, .int t3), (0, .ref (a 0)), (1, .int v1), (2, .int v2)] [.int (if v2 ≤ (127 : Int32) then (0 : Int32) else (1 : Int32)), .int ((2 : Int32) + v1), .ref (a 5)]) (fun jj => ?_) ?_
            · refine cb_icmp_le 148 144 h dX12_portControl_141 rfl rfl (fun q17 => ?_) (fun q17 => ?_)
              · refine cb_iconst 149 h dX12_portControl_148 rfl kc_0 ?_
                exact (cb_tt q17 jj)
              · refine cb_iconst 145 h dX12_portControl_144 rfl kc_1 ?_
                refine cb_goto 149 h dX12_portControl_145 rfl ?_
                exact (cb_tf q17 jj)
            obtain ⟨g18, hf⟩ := cb_gd_o hf
            obtain ⟨σ19, e20, hf⟩ := cb_let_o hf
            refine saM_5 150 h dX12_portControl_149 rfl (cb_in_v g18) rfl (cb_01_i cb_01_0 cb_01_1) e20 ?_
            refine cb_aload_n 151 1 h dX12_portControl_150 rfl rfl rfl ?_
            refine gf_X12_70 154 h dX12_portControl_151 rfl ?_
            refine cb_iload_n 155 2 h dX12_portControl_154 rfl rfl rfl ?_
            refine cb_iload_n 156 3 h dX12_portControl_155 rfl rfl rfl ?_
            refine cb_bipush 158 h dX12_portControl_156 rfl kb_64 ?_
            refine cb_iand 159 h dX12_portControl_158 rfl ?_
            refine cb_cut (cb_V X (WM a ca σ19) 167 [(3, .int t3), (0, .ref (a 0)), (1, .int v1), (2, .int v2)] [.int (if (v2 &&& (64 : Int32)) = 0 then (0 : Int32) else (1 : Int32)), .int v1, .ref (a 18)]) (fun jj => ?_) ?_
            · refine cb_if_eq 166 162 h dX12_portControl_159 rfl rfl (fun q21 => ?_) (fun q21 => ?_)
              · refine cb_iconst 167 h dX12_portControl_166 rfl kc_0 ?_
                exact (cb_tt q21 jj)
              · refine cb_iconst 163 h dX12_portControl_162 rfl kc_1 ?_
                refine cb_goto 167 h dX12_portControl_163 rfl ?_
                exact (cb_tf q21 jj)
            obtain ⟨σ22, e23, hf⟩ := cb_let_o hf
            refine saM_18 168 h dX12_portControl_167 rfl (cb_in_v g2) rfl (cb_01_i cb_01_0 cb_01_1) e23 ?_
            refine cb_aload_n 169 1 h dX12_portControl_168 rfl rfl rfl ?_
            refine gf_X12_73 172 h dX12_portControl_169 rfl ?_
            refine cb_iload_n 173 2 h dX12_portControl_172 rfl rfl rfl ?_
            refine cb_iload_n 174 3 h dX12_portControl_173 rfl rfl rfl ?_
            refine cb_bipush 176 h dX12_portControl_174 rfl kb_32 ?_
            refine cb_iand 177 h dX12_portControl_176 rfl ?_
            refine cb_cut (cb_V X (WM a ca σ22) 185 [(3, .int t3), (0, .ref (a 0)), (1, .int v1), (2, .int v2)] [.int (if (v2 &&& (32 : Int32)) = 0 then (0 : Int32) else (1 : Int32)), .int v1, .ref (a 19)]) (fun jj => ?_) ?_
            · refine cb_if_eq 184 180 h dX12_portControl_177 rfl rfl (fun q24 => ?_) (fun q24 => ?_)
              · refine cb_iconst 185 h dX12_portControl_184 rfl kc_0 ?_
                exact (cb_tt q24 jj)
              · refine cb_iconst 181 h dX12_portControl_180 rfl kc_1 ?_
                refine cb_goto 185 h dX12_portControl_181 rfl ?_
                exact (cb_tf q24 jj)
            obtain ⟨σ25, e26, hf⟩ := cb_let_o hf
            refine saM_19 186 h dX12_portControl_185 rfl (cb_in_v g2) rfl (cb_01_i cb_01_0 cb_01_1) e26 ?_
            refine cb_aload_n 187 1 h dX12_portControl_186 rfl rfl rfl ?_
            refine gf_X12_61 190 h dX12_portControl_187 rfl ?_
            refine cb_iload_n 191 2 h dX12_portControl_190 rfl rfl rfl ?_
            refine cb_iload_n 192 3 h dX12_portControl_191 rfl rfl rfl ?_
            refine cb_bipush 194 h dX12_portControl_192 rfl kb_16 ?_
            refine cb_iand 195 h dX12_portControl_194 rfl ?_
            refine cb_cut (cb_V X (WM a ca σ25) 203 [(3, .int t3), (0, .ref (a 0)), (1, .int v1), (2, .int v2)] [.int (if (v2 &&& (16 : Int32)) = 0 then (0 : Int32) else (2 : Int32)), .int v1, .ref (a 15)]) (fun jj => ?_) ?_
            · refine cb_if_eq 202 198 h dX12_portControl_195 rfl rfl (fun q27 => ?_) (fun q27 => ?_)
              · refine cb_iconst 203 h dX12_portControl_202 rfl kc_0 ?_
                exact (cb_tt q27 jj)
              · refine cb_iconst 199 h dX12_portControl_198 rfl kc_2 ?_
                refine cb_goto 203 h dX12_portControl_199 rfl ?_
                exact (cb_tf q27 jj)
            obtain ⟨σ28, e29, hf⟩ := cb_let_o hf
            refine saM_15 204 h dX12_portControl_203 rfl (cb_in_v g2) rfl e29 ?_
            refine cb_aload_n 205 1 h dX12_portControl_204 rfl rfl rfl ?_
            refine gf_X12_24 208 h dX12_portControl_205 rfl ?_
            refine cb_iconst 209 h dX12_portControl_208 rfl kc_2 ?_
            refine cb_iload_n 210 2 h dX12_portControl_209 rfl rfl rfl ?_
            refine cb_iadd 211 h dX12_portControl_210 rfl ?_
            refine cb_aload_n 212 1 h dX12_portControl_211 rfl rfl rfl ?_
            refine gf_X12_24 215 h dX12_portControl_212 rfl ?_
            refine cb_iconst 216 h dX12_portControl_215 rfl kc_2 ?_
            refine cb_iload_n 217 2 h dX12_portControl_216 rfl rfl rfl ?_
            refine cb_iadd 218 h dX12_portControl_217 rfl ?_
            refine laM_3 219 h dX12_portControl_218 rfl (cb_in_v g18) rfl ?_
            refine cb_cut (cb_V X (WM a ca σ28) 236 [(3, .int t3), (0, .ref (a 0)), (1, .int v1), (2, .int v2)] [.int (if (σ28 3 (((2 : Int32) + v1)).toNatClampNeg) = 0 then (0 : Int32) else (if (σ28 15 v1.toNatClampNeg) = 0 then (1 : Int32) else (0 : Int32))), .int ((2 : Int32) + v1), .ref (a 3)]) (fun jj => ?_) ?_
            · refine cb_if_eq 235 222 h dX12_portControl_219 rfl rfl (fun q30 => ?_) (fun q30 => ?_)
              · refine cb_iconst 236 h dX12_portControl_235 rfl kc_0 ?_
                exact (cb_tt q30 jj)
              · refine cb_aload_n 223 1 h dX12_portControl_222 rfl rfl rfl ?_
                refine gf_X12_61 226 h dX12_portControl_223 rfl ?_
                refine cb_iload_n 227 2 h dX12_portControl_226 rfl rfl rfl ?_
                refine laM_15 228 h dX12_portControl_227 rfl (cb_in_v g2) rfl ?_
                refine cb_if_ne 235 231 h dX12_portControl_228 rfl rfl (fun q31 => ?_) (fun q31 => ?_)
                · refine cb_iconst 236 h dX12_portControl_235 rfl kc_0 ?_
                  exact (cb_tf q31 (cb_tf q30 jj))
                · refine cb_iconst 232 h dX12_portControl_231 rfl kc_1 ?_
                  refine cb_goto 236 h dX12_portControl_232 rfl ?_
                  exact (cb_tt q31 (cb_tf q30 jj))
            obtain ⟨σ32, e33, hf⟩ := cb_let_o hf
            refine saM_3 237 h dX12_portControl_236 rfl (cb_in_v g18) rfl (cb_01_i cb_01_0 (cb_01_i cb_01_1 cb_01_0)) e33 ?_
            refine cb_goto 267 h dX12_portControl_237 rfl ?_
            exact cb_lv [1, 2] rfl (j267 _ hf)
        · have hf := cb_it q10 hf
          refine cb_aload_n 70 1 h dX12_portControl_69 rfl rfl rfl ?_
          refine gf_X12_55 73 h dX12_portControl_70 rfl ?_
          refine cb_iload_n 74 2 h dX12_portControl_73 rfl rfl rfl ?_
          refine cb_iload_n 75 3 h dX12_portControl_74 rfl rfl rfl ?_
          refine cb_bipush 77 h dX12_portControl_75 rfl kb_6 ?_
          refine cb_ishr 78 h dX12_portControl_77 rfl ?_
          refine cb_iconst 79 h dX12_portControl_78 rfl kc_2 ?_
          refine cb_cut (cb_V X (WM a ca σ5) 90 [(3, .int t3), (0, .ref (a 0)), (1, .int v1), (2, .int v2)] [.int (if (v2 >>> ((6 : Int32) &&& 31)) = (2 : Int32) then (3 : Int32) else (v2 >>> ((6 : Int32) &&& 31))), .int v1, .ref (a 13)]) (fun jj => ?_) ?_
          · refine cb_icmp_ne 86 82 h dX12_portControl_79 rfl rfl (fun q34 => ?_) (fun q34 => ?_)
            · refine cb_iload_n 87 3 h dX12_portControl_86 rfl rfl rfl ?_
              refine cb_bipush 89 h dX12_portControl_87 rfl kb_6 ?_
              refine cb_ishr 90 h dX12_portControl_89 rfl ?_
              exact (cb_tf q34 jj)
            · refine cb_iconst 83 h dX12_portControl_82 rfl kc_3 ?_
              refine cb_goto 90 h dX12_portControl_83 rfl ?_
              exact (cb_tt q34 jj)
          obtain ⟨σ35, e36, hf⟩ := cb_let_o hf
          refine saM_13 91 h dX12_portControl_90 rfl (cb_in_v g2) rfl e36 ?_
          refine cb_aload_n 92 1 h dX12_portControl_91 rfl rfl rfl ?_
          refine gf_X12_76 95 h dX12_portControl_92 rfl ?_
          refine cb_iload_n 96 2 h dX12_portControl_95 rfl rfl rfl ?_
          refine cb_iconst 97 h dX12_portControl_96 rfl kc_0 ?_
          obtain ⟨σ37, e38, hf⟩ := cb_let_o hf
          refine saM_20 98 h dX12_portControl_97 rfl (cb_in_v g2) rfl cb_01_0 e38 ?_
          refine cb_aload_n 99 1 h dX12_portControl_98 rfl rfl rfl ?_
          refine gf_X12_61 102 h dX12_portControl_99 rfl ?_
          refine cb_iload_n 103 2 h dX12_portControl_102 rfl rfl rfl ?_
          refine cb_aload_n 104 1 h dX12_portControl_103 rfl rfl rfl ?_
          refine gf_X12_55 107 h dX12_portControl_104 rfl ?_
          refine cb_iload_n 108 2 h dX12_portControl_107 rfl rfl rfl ?_
          refine laM_13 109 h dX12_portControl_108 rfl (cb_in_v g2) rfl ?_
          refine cb_iconst 110 h dX12_portControl_109 rfl kc_3 ?_
          refine cb_cut (cb_V X (WM a ca σ37) 118 [(3, .int t3), (0, .ref (a 0)), (1, .int v1), (2, .int v2)] [.int (if (σ37 13 v1.toNatClampNeg) = (3 : Int32) then (1 : Int32) else (0 : Int32)), .int v1, .ref (a 15)]) (fun jj => ?_) ?_
          · refine cb_icmp_ne 117 113 h dX12_portControl_110 rfl rfl (fun q39 => ?_) (fun q39 => ?_)
            · refine cb_iconst 118 h dX12_portControl_117 rfl kc_0 ?_
              exact (cb_tf q39 jj)
            · refine cb_iconst 114 h dX12_portControl_113 rfl kc_1 ?_
              refine cb_goto 118 h dX12_portControl_114 rfl ?_
              exact (cb_tt q39 jj)
          obtain ⟨σ40, e41, hf⟩ := cb_let_o hf
          refine saM_15 119 h dX12_portControl_118 rfl (cb_in_v g2) rfl e41 ?_
          refine cb_goto 267 h dX12_portControl_119 rfl ?_
          exact cb_lv [1, 2] rfl (j267 _ hf)
      · have hf := cb_it q9 hf
        refine cb_aload_n 51 1 h dX12_portControl_50 rfl rfl rfl ?_
        refine gf_X12_58 54 h dX12_portControl_51 rfl ?_
        refine cb_iload_n 55 2 h dX12_portControl_54 rfl rfl rfl ?_
        refine cb_iload_n 56 3 h dX12_portControl_55 rfl rfl rfl ?_
        obtain ⟨σ42, e43, hf⟩ := cb_let_o hf
        refine saM_14 57 h dX12_portControl_56 rfl (cb_in_v g2) rfl e43 ?_
        refine cb_goto 267 h dX12_portControl_57 rfl ?_
        exact cb_lv [1, 2] rfl (j267 _ hf)
    · have hf := cb_it q8 hf
      refine cb_aload_n 35 1 h dX12_portControl_34 rfl rfl rfl ?_
      refine gf_X12_67 38 h dX12_portControl_35 rfl ?_
      refine cb_iload_n 39 2 h dX12_portControl_38 rfl rfl rfl ?_
      refine cb_iload_n 40 3 h dX12_portControl_39 rfl rfl rfl ?_
      obtain ⟨σ44, e45, hf⟩ := cb_let_o hf
      refine saM_17 41 h dX12_portControl_40 rfl (cb_in_v g2) rfl e45 ?_
      refine cb_goto 267 h dX12_portControl_41 rfl ?_
      exact cb_lv [1, 2] rfl (j267 _ hf)
  · have hf := cb_it q7 hf
    refine cb_aload_n 20 1 h dX12_portControl_19 rfl rfl rfl ?_
    refine gf_X12_64 23 h dX12_portControl_20 rfl ?_
    refine cb_iload_n 24 2 h dX12_portControl_23 rfl rfl rfl ?_
    refine cb_iload_n 25 3 h dX12_portControl_24 rfl rfl rfl ?_
    obtain ⟨σ46, e47, hf⟩ := cb_let_o hf
    refine saM_16 26 h dX12_portControl_25 rfl (cb_in_v g2) rfl e47 ?_
    refine cb_goto 267 h dX12_portControl_26 rfl ?_
    exact cb_lv [1, 2] rfl (j267 _ hf)
set_option maxRecDepth 100000 in
set_option maxHeartbeats 4000000 in
theorem mt_outTo {l : Launch} {D : va_G} {a : Nat → Nat} {ca : Nat → ClassId} {σ σ' : cb_S} {v1 v2 : Int32} (hf : m_outTo σ v1 v2 = some σ') : cb_C l yX12_outTo cX12_outTo 3 none { frames := 3, cells := 0, slots := 0, locals := 68 } D (EM ca) (adM a) [.ref (a 0), .int v1, .int v2] (WM a ca σ) none (WM a ca σ') := by
  refine cb_mk [(0, .ref (a 0)), (1, .int v1), (2, .int v2)] (by decide) (Nat.le_of_ble_eq_true rfl) rfl (fun X h he => ?_) goodM
  have h : cb_ok X cX12_outTo RX12 (EM ca) 3 68 3 := h
  unfold m_outTo at hf
  have j40 : ∀ (σ : cb_S), m_outTo_L40 v1 v2 σ = some σ' → cb_V X (WM a ca σ) 40 [(0, .ref (a 0)), (1, .int v1), (2, .int v2)] [] := by
    intro σ hf
    unfold m_outTo_L40 at hf
    refine cb_iload_n 41 1 h dX12_outTo_40 rfl rfl rfl ?_
    refine cb_bipush 43 h dX12_outTo_41 rfl kb_6 ?_
    refine cb_icmp_ge 98 46 h dX12_outTo_43 rfl rfl (fun q1 => ?_) (fun q1 => ?_)
    · have hf := cb_it q1 hf
      exact cb_retV (Wf := WM a ca) h dX12_outTo_98 he hf
    · have hf := cb_if q1 hf
      refine cb_aload_n 47 0 h dX12_outTo_46 rfl rfl rfl ?_
      refine gf_X12_79 50 h dX12_outTo_47 rfl ?_
      refine cb_iload_n 51 1 h dX12_outTo_50 rfl rfl rfl ?_
      refine cb_iconst 52 h dX12_outTo_51 rfl kc_2 ?_
      refine cb_idiv 53 h dX12_outTo_52 rfl (by decide) ?_
      refine cb_iconst 54 h dX12_outTo_53 rfl kc_1 ?_
      refine cb_isub 55 h dX12_outTo_54 rfl ?_
      refine cb_iload_n 56 2 h dX12_outTo_55 rfl rfl rfl ?_
      obtain ⟨g2, hf⟩ := cb_gd_o hf
      obtain ⟨σ3, e4, hf⟩ := cb_let_o hf
      refine saM_21 57 h dX12_outTo_56 rfl (cb_in_v g2) rfl e4 ?_
      refine cb_aload_n 58 0 h dX12_outTo_57 rfl rfl rfl ?_
      refine gf_X12_76 61 h dX12_outTo_58 rfl ?_
      refine cb_iload_n 62 1 h dX12_outTo_61 rfl rfl rfl ?_
      refine cb_iconst 63 h dX12_outTo_62 rfl kc_2 ?_
      refine cb_idiv 64 h dX12_outTo_63 rfl (by decide) ?_
      refine cb_iconst 65 h dX12_outTo_64 rfl kc_1 ?_
      refine cb_isub 66 h dX12_outTo_65 rfl ?_
      refine cb_aload_n 67 0 h dX12_outTo_66 rfl rfl rfl ?_
      refine gf_X12_76 70 h dX12_outTo_67 rfl ?_
      refine cb_iload_n 71 1 h dX12_outTo_70 rfl rfl rfl ?_
      refine cb_iconst 72 h dX12_outTo_71 rfl kc_2 ?_
      refine cb_idiv 73 h dX12_outTo_72 rfl (by decide) ?_
      refine cb_iconst 74 h dX12_outTo_73 rfl kc_1 ?_
      refine cb_isub 75 h dX12_outTo_74 rfl ?_
      refine laM_20 76 h dX12_outTo_75 rfl (cb_in_v g2) rfl ?_
      refine cb_cut (cb_V X (WM a ca σ3) 97 [(0, .ref (a 0)), (1, .int v1), (2, .int v2)] [.int (if (σ3 20 (((v1 / (2 : Int32)) - (1 : Int32))).toNatClampNeg) = 0 then (if (σ3 13 (((v1 / (2 : Int32)) - (1 : Int32))).toNatClampNeg) = 0 then (1 : Int32) else (0 : Int32)) else (1 : Int32)), .int ((v1 / (2 : Int32)) - (1 : Int32)), .ref (a 20)]) (fun jj => ?_) ?_
      · refine cb_if_ne 92 79 h dX12_outTo_76 rfl rfl (fun q5 => ?_) (fun q5 => ?_)
        · refine cb_iconst 93 h dX12_outTo_92 rfl kc_1 ?_
          refine cb_goto 97 h dX12_outTo_93 rfl ?_
          exact (cb_tf q5 jj)
        · refine cb_aload_n 80 0 h dX12_outTo_79 rfl rfl rfl ?_
          refine gf_X12_55 83 h dX12_outTo_80 rfl ?_
          refine cb_iload_n 84 1 h dX12_outTo_83 rfl rfl rfl ?_
          refine cb_iconst 85 h dX12_outTo_84 rfl kc_2 ?_
          refine cb_idiv 86 h dX12_outTo_85 rfl (by decide) ?_
          refine cb_iconst 87 h dX12_outTo_86 rfl kc_1 ?_
          refine cb_isub 88 h dX12_outTo_87 rfl ?_
          refine laM_13 89 h dX12_outTo_88 rfl (cb_in_v g2) rfl ?_
          refine cb_if_ne 96 92 h dX12_outTo_89 rfl rfl (fun q6 => ?_) (fun q6 => ?_)
          · refine cb_iconst 97 h dX12_outTo_96 rfl kc_0 ?_
            exact (cb_tf q6 (cb_tt q5 jj))
          · refine cb_iconst 93 h dX12_outTo_92 rfl kc_1 ?_
            refine cb_goto 97 h dX12_outTo_93 rfl ?_
            exact (cb_tt q6 (cb_tt q5 jj))
      obtain ⟨σ7, e8, hf⟩ := cb_let_o hf
      refine saM_20 98 h dX12_outTo_97 rfl (cb_in_v g2) rfl (cb_01_i (cb_01_i cb_01_1 cb_01_0) cb_01_1) e8 ?_
      exact cb_retV (Wf := WM a ca) h dX12_outTo_98 he hf
  refine cb_iload_n 1 1 h dX12_outTo_0 rfl rfl rfl ?_
  refine cb_iconst 2 h dX12_outTo_1 rfl kc_2 ?_
  refine cb_icmp_ge 14 5 h dX12_outTo_2 rfl rfl (fun q9 => ?_) (fun q9 => ?_)
  · have hf := cb_it q9 hf
    refine cb_iload_n 15 1 h dX12_outTo_14 rfl rfl rfl ?_
    refine cb_bipush 17 h dX12_outTo_15 rfl kb_6 ?_
    refine cb_icmp_ge 40 20 h dX12_outTo_17 rfl rfl (fun q10 => ?_) (fun q10 => ?_)
    · have hf := cb_it q10 hf
      exact j40 _ hf
    · have hf := cb_if q10 hf
      refine cb_iload_n 21 1 h dX12_outTo_20 rfl rfl rfl ?_
      refine cb_iconst 22 h dX12_outTo_21 rfl kc_2 ?_
      refine cb_irem 23 h dX12_outTo_22 rfl (by decide) ?_
      refine cb_iconst 24 h dX12_outTo_23 rfl kc_1 ?_
      refine cb_icmp_ne 40 27 h dX12_outTo_24 rfl rfl (fun q11 => ?_) (fun q11 => ?_)
      · have hf := cb_if q11 hf
        exact j40 _ hf
      · have hf := cb_it q11 hf
        refine cb_aload_n 28 0 h dX12_outTo_27 rfl rfl rfl ?_
        refine cb_iload_n 29 1 h dX12_outTo_28 rfl rfl rfl ?_
        refine cb_iconst 30 h dX12_outTo_29 rfl kc_2 ?_
        refine cb_idiv 31 h dX12_outTo_30 rfl (by decide) ?_
        refine cb_iconst 32 h dX12_outTo_31 rfl kc_1 ?_
        refine cb_isub 33 h dX12_outTo_32 rfl ?_
        refine cb_iload_n 34 2 h dX12_outTo_33 rfl rfl rfl ?_
        obtain ⟨σc12, ec12, hf⟩ := cb_bo_o hf
        refine cl_X12_280 37 h dX12_outTo_34 rfl (mt_portControl ec12) ⟨rfl, rfl, Nat.le_of_ble_eq_true rfl, Nat.le_of_ble_eq_true rfl⟩ rfl (Nat.le_of_ble_eq_true rfl) ?_
        refine cb_goto 98 h dX12_outTo_37 rfl ?_
        exact cb_retV (Wf := WM a ca) h dX12_outTo_98 he hf
  · have hf := cb_if q9 hf
    refine cb_aload_n 6 0 h dX12_outTo_5 rfl rfl rfl ?_
    refine cb_iload_n 7 1 h dX12_outTo_6 rfl rfl rfl ?_
    refine cb_iload_n 8 2 h dX12_outTo_7 rfl rfl rfl ?_
    obtain ⟨σc13, ec13, hf⟩ := cb_bo_o hf
    refine cl_X12_277 11 h dX12_outTo_8 rfl (mt_control ec13) ⟨rfl, rfl, Nat.le_of_ble_eq_true rfl, Nat.le_of_ble_eq_true rfl⟩ rfl (Nat.le_of_ble_eq_true rfl) ?_
    refine cb_goto 98 h dX12_outTo_11 rfl ?_
    exact cb_retV (Wf := WM a ca) h dX12_outTo_98 he hf
set_option maxRecDepth 100000 in
set_option maxHeartbeats 4000000 in
theorem mt_inFrom {l : Launch} {D : va_G} {a : Nat → Nat} {ca : Nat → ClassId} {σ σ' : cb_S} {v1 : Int32} {r : Int32} (hf : m_inFrom σ v1 = some (r, σ')) : cb_C l yX12_inFrom cX12_inFrom 3 (some .int) { frames := 0, cells := 0, slots := 0, locals := 0 } D (EM ca) (adM a) [.ref (a 0), .int v1] (WM a ca σ) (some (.int r)) (WM a ca σ') := by
  refine cb_mk [(0, .ref (a 0)), (1, .int v1)] (by decide) (Nat.le_of_ble_eq_true rfl) rfl (fun X h he => ?_) goodM
  have h : cb_ok X cX12_inFrom RX12 (EM ca) 0 0 3 := h
  unfold m_inFrom at hf
  refine cb_iload_n 1 1 h dX12_inFrom_0 rfl rfl rfl ?_
  refine cb_iconst 2 h dX12_inFrom_1 rfl kc_2 ?_
  refine cb_icmp_ge 16 5 h dX12_inFrom_2 rfl rfl (fun q1 => ?_) (fun q1 => ?_)
  · have hf := cb_it q1 hf
    refine cb_iload_n 17 1 h dX12_inFrom_16 rfl rfl rfl ?_
    refine cb_iconst 18 h dX12_inFrom_17 rfl kc_5 ?_
    refine cb_icmp_gt 28 21 h dX12_inFrom_18 rfl rfl (fun q2 => ?_) (fun q2 => ?_)
    · have hf := cb_it q2 hf
      refine cb_sipush 31 h dX12_inFrom_28 rfl ks_255 ?_
      exact cb_retI (Wf := WM a ca) h dX12_inFrom_31 he hf
    · have hf := cb_if q2 hf
      refine cb_iload_n 22 1 h dX12_inFrom_21 rfl rfl rfl ?_
      refine cb_iconst 23 h dX12_inFrom_22 rfl kc_2 ?_
      refine cb_irem 24 h dX12_inFrom_23 rfl (by decide) ?_
      refine cb_iconst 25 h dX12_inFrom_24 rfl kc_1 ?_
      refine cb_icmp_ne 32 28 h dX12_inFrom_25 rfl rfl (fun q3 => ?_) (fun q3 => ?_)
      · have hf := cb_if q3 hf
        refine cb_iload_n 33 1 h dX12_inFrom_32 rfl rfl rfl ?_
        refine cb_iconst 34 h dX12_inFrom_33 rfl kc_2 ?_
        refine cb_idiv 35 h dX12_inFrom_34 rfl (by decide) ?_
        refine cb_iconst 36 h dX12_inFrom_35 rfl kc_1 ?_
        refine cb_isub 37 h dX12_inFrom_36 rfl ?_
        obtain ⟨t4, e5, hf⟩ := cb_let_o hf
        refine cb_istore_n (lv' := [(2, .int t4), (0, .ref (a 0)), (1, .int v1)]) 38 h dX12_inFrom_37 rfl rfl e5 (Nat.le_of_ble_eq_true rfl) rfl ?_
        refine cb_aload_n 39 1 h dX12_inFrom_38 rfl rfl rfl ?_
        refine gf_X12_55 42 h dX12_inFrom_39 rfl ?_
        refine cb_iload_n 43 0 h dX12_inFrom_42 rfl rfl rfl ?_
        obtain ⟨g6, hf⟩ := cb_gd_o hf
        refine laM_13 44 h dX12_inFrom_43 rfl (cb_in_v g6) rfl ?_
        refine cb_iconst 45 h dX12_inFrom_44 rfl kc_1 ?_
        refine cb_icmp_ne 62 48 h dX12_inFrom_45 rfl rfl (fun q7 => ?_) (fun q7 => ?_)
        · have hf := cb_if q7 hf
          refine cb_aload_n 63 1 h dX12_inFrom_62 rfl rfl rfl ?_
          refine gf_X12_55 66 h dX12_inFrom_63 rfl ?_
          refine cb_iload_n 67 0 h dX12_inFrom_66 rfl rfl rfl ?_
          refine laM_13 68 h dX12_inFrom_67 rfl (cb_in_v g6) rfl ?_
          refine cb_cut (cb_V X (WM a ca σ) 109 [(2, .int t4), (0, .ref (a 0)), (1, .int v1)] [.int (if (σ 13 t4.toNatClampNeg) = 0 then (σ 21 t4.toNatClampNeg) else (((σ 23 t4.toNatClampNeg) &&& (σ 16 t4.toNatClampNeg)) ||| ((σ 21 t4.toNatClampNeg) &&& ((σ 16 t4.toNatClampNeg) ^^^ (-1 : Int32)))))]) (fun jj => ?_) ?_
          · refine cb_if_ne 80 71 h dX12_inFrom_68 rfl rfl (fun q8 => ?_) (fun q8 => ?_)
            · refine cb_aload_n 81 1 h dX12_inFrom_80 rfl rfl rfl ?_
              refine gf_X12_85 84 h dX12_inFrom_81 rfl ?_
              refine cb_iload_n 85 0 h dX12_inFrom_84 rfl rfl rfl ?_
              refine laM_23 86 h dX12_inFrom_85 rfl (cb_in_v g6) rfl ?_
              refine cb_aload_n 87 1 h dX12_inFrom_86 rfl rfl rfl ?_
              refine gf_X12_64 90 h dX12_inFrom_87 rfl ?_
              refine cb_iload_n 91 0 h dX12_inFrom_90 rfl rfl rfl ?_
              refine laM_16 92 h dX12_inFrom_91 rfl (cb_in_v g6) rfl ?_
              refine cb_iand 93 h dX12_inFrom_92 rfl ?_
              refine cb_aload_n 94 1 h dX12_inFrom_93 rfl rfl rfl ?_
              refine gf_X12_79 97 h dX12_inFrom_94 rfl ?_
              refine cb_iload_n 98 0 h dX12_inFrom_97 rfl rfl rfl ?_
              refine laM_21 99 h dX12_inFrom_98 rfl (cb_in_v g6) rfl ?_
              refine cb_aload_n 100 1 h dX12_inFrom_99 rfl rfl rfl ?_
              refine gf_X12_64 103 h dX12_inFrom_100 rfl ?_
              refine cb_iload_n 104 0 h dX12_inFrom_103 rfl rfl rfl ?_
              refine laM_16 105 h dX12_inFrom_104 rfl (cb_in_v g6) rfl ?_
              refine cb_iconst 106 h dX12_inFrom_105 rfl kc_m1 ?_
              refine cb_ixor 107 h dX12_inFrom_106 rfl ?_
              refine cb_iand 108 h dX12_inFrom_107 rfl ?_
              refine cb_ior 109 h dX12_inFrom_108 rfl ?_
              exact (cb_tf q8 jj)
            · refine cb_aload_n 72 1 h dX12_inFrom_71 rfl rfl rfl ?_
              refine gf_X12_79 75 h dX12_inFrom_72 rfl ?_
              refine cb_iload_n 76 0 h dX12_inFrom_75 rfl rfl rfl ?_
              refine laM_21 77 h dX12_inFrom_76 rfl (cb_in_v g6) rfl ?_
              refine cb_goto 109 h dX12_inFrom_77 rfl ?_
              exact (cb_tt q8 jj)
          exact cb_retI (Wf := WM a ca) h dX12_inFrom_109 he hf
        · have hf := cb_it q7 hf
          refine cb_aload_n 49 1 h dX12_inFrom_48 rfl rfl rfl ?_
          refine gf_X12_76 52 h dX12_inFrom_49 rfl ?_
          refine cb_iload_n 53 0 h dX12_inFrom_52 rfl rfl rfl ?_
          refine cb_iconst 54 h dX12_inFrom_53 rfl kc_1 ?_
          obtain ⟨σ9, e10, hf⟩ := cb_let_o hf
          refine saM_20 55 h dX12_inFrom_54 rfl (cb_in_v g6) rfl cb_01_1 e10 ?_
          refine cb_aload_n 56 1 h dX12_inFrom_55 rfl rfl rfl ?_
          refine gf_X12_82 59 h dX12_inFrom_56 rfl ?_
          refine cb_iload_n 60 0 h dX12_inFrom_59 rfl rfl rfl ?_
          refine laM_22 61 h dX12_inFrom_60 rfl (cb_in_v g6) rfl ?_
          exact cb_retI (Wf := WM a ca) h dX12_inFrom_61 he hf
      · have hf := cb_it q3 hf
        refine cb_sipush 31 h dX12_inFrom_28 rfl ks_255 ?_
        exact cb_retI (Wf := WM a ca) h dX12_inFrom_31 he hf
  · have hf := cb_if q1 hf
    refine cb_aload_n 6 0 h dX12_inFrom_5 rfl rfl rfl ?_
    refine gf_X12_37 9 h dX12_inFrom_6 rfl ?_
    refine cb_iload_n 10 1 h dX12_inFrom_9 rfl rfl rfl ?_
    obtain ⟨g11, hf⟩ := cb_gd_o hf
    refine laM_7 11 h dX12_inFrom_10 rfl (cb_in_v g11) rfl ?_
    refine cb_sipush 14 h dX12_inFrom_11 rfl ks_255 ?_
    refine cb_iand 15 h dX12_inFrom_14 rfl ?_
    exact cb_retI (Wf := WM a ca) h dX12_inFrom_15 he hf
set_option maxRecDepth 100000 in
set_option maxHeartbeats 4000000 in
theorem mt_others {l : Launch} {D : va_G} {a : Nat → Nat} {ca : Nat → ClassId} {σ σ' : cb_S} {v1 : Int32} {r : Int32} (hf : m_others σ v1 = some (r, σ')) : cb_C l yX12_others cX12_others 3 (some .int) { frames := 4, cells := 0, slots := 0, locals := 90 } D (EM ca) (adM a) [.ref (a 0), .int v1] (WM a ca σ) (some (.int r)) (WM a ca σ') := by
  refine cb_mk [(0, .ref (a 0)), (1, .int v1)] (by decide) (Nat.le_of_ble_eq_true rfl) rfl (fun X h he => ?_) goodM
  have h : cb_ok X cX12_others RX12 (EM ca) 4 90 3 := h
  unfold m_others at hf
  have j35 : ∀ (σ : cb_S), m_others_L35 v1 σ = some (r, σ') → cb_V X (WM a ca σ) 35 [(0, .ref (a 0)), (1, .int v1)] [] := by
    intro σ hf
    unfold m_others_L35 at hf
    refine cb_aload_n 36 0 h dX12_others_35 rfl rfl rfl ?_
    obtain ⟨c1, σc1, ec1, hf⟩ := cb_b2_o hf
    refine cl_X12_105 39 h dX12_others_36 rfl (mt_next ec1) ⟨rfl, rfl, Nat.le_of_ble_eq_true rfl, Nat.le_of_ble_eq_true rfl⟩ rfl (Nat.le_of_ble_eq_true rfl) ?_
    refine cb_istore_n (lv' := [(2, .int c1), (0, .ref (a 0)), (1, .int v1)]) 40 h dX12_others_39 rfl rfl rfl (Nat.le_of_ble_eq_true rfl) rfl ?_
    refine cb_iload_n 41 2 h dX12_others_40 rfl rfl rfl ?_
    refine cb_iconst 42 h dX12_others_41 rfl kc_2 ?_
    refine cb_icmp_ne 60 45 h dX12_others_42 rfl rfl (fun q2 => ?_) (fun q2 => ?_)
    · have hf := cb_if q2 hf
      refine cb_aload_n 61 1 h dX12_others_60 rfl rfl rfl ?_
      refine gf_X12_13 64 h dX12_others_61 rfl ?_
      refine cb_bipush 66 h dX12_others_64 rfl kb_7 ?_
      refine cb_aload_n 67 1 h dX12_others_66 rfl rfl rfl ?_
      refine cb_iload_n 68 0 h dX12_others_67 rfl rfl rfl ?_
      obtain ⟨c3, σc3, ec3, hf⟩ := cb_b2_o hf
      refine cl_X12_240 71 h dX12_others_68 rfl (mt_inFrom ec3) ⟨rfl, rfl, Nat.le_of_ble_eq_true rfl, Nat.le_of_ble_eq_true rfl⟩ rfl (Nat.le_of_ble_eq_true rfl) ?_
      obtain ⟨σ4, e5, hf⟩ := cb_let_o hf
      refine saM_2 72 h dX12_others_71 rfl vi_7_16 tk_7 e5 ?_
      refine cb_bipush 74 h dX12_others_72 rfl kb_11 ?_
      exact cb_retI (Wf := WM a ca) h dX12_others_74 he hf
    · have hf := cb_it q2 hf
      refine cb_aload_n 46 1 h dX12_others_45 rfl rfl rfl ?_
      refine cb_iload_n 47 0 h dX12_others_46 rfl rfl rfl ?_
      refine cb_aload_n 48 1 h dX12_others_47 rfl rfl rfl ?_
      refine gf_X12_13 51 h dX12_others_48 rfl ?_
      refine cb_bipush 53 h dX12_others_51 rfl kb_7 ?_
      refine laM_2 54 h dX12_others_53 rfl vi_7_16 tk_7 ?_
      obtain ⟨σc6, ec6, hf⟩ := cb_bo_o hf
      refine cl_X12_237 57 h dX12_others_54 rfl (mt_outTo ec6) ⟨rfl, rfl, Nat.le_of_ble_eq_true rfl, Nat.le_of_ble_eq_true rfl⟩ rfl (Nat.le_of_ble_eq_true rfl) ?_
      refine cb_goto 72 h dX12_others_57 rfl ?_
      refine cb_bipush 74 h dX12_others_72 rfl kb_11 ?_
      exact cb_retI (Wf := WM a ca) h dX12_others_74 he hf
  refine cb_iload_n 1 1 h dX12_others_0 rfl rfl rfl ?_
  refine cb_if_ne 15 4 h dX12_others_1 rfl rfl (fun q7 => ?_) (fun q7 => ?_)
  · have hf := cb_if q7 hf
    refine cb_iload_n 16 1 h dX12_others_15 rfl rfl rfl ?_
    refine cb_iconst 17 h dX12_others_16 rfl kc_1 ?_
    refine cb_icmp_ne 25 20 h dX12_others_17 rfl rfl (fun q8 => ?_) (fun q8 => ?_)
    · have hf := cb_if q8 hf
      refine cb_iload_n 26 1 h dX12_others_25 rfl rfl rfl ?_
      refine cb_iconst 27 h dX12_others_26 rfl kc_2 ?_
      refine cb_icmp_eq 35 30 h dX12_others_27 rfl rfl (fun q9 => ?_) (fun q9 => ?_)
      · have hf := cb_it q9 hf
        exact j35 _ hf
      · have hf := cb_if q9 hf
        refine cb_iload_n 31 1 h dX12_others_30 rfl rfl rfl ?_
        refine cb_iconst 32 h dX12_others_31 rfl kc_3 ?_
        refine cb_icmp_ne 75 35 h dX12_others_32 rfl rfl (fun q10 => ?_) (fun q10 => ?_)
        · have hf := cb_if q10 hf
          refine cb_iload_n 76 1 h dX12_others_75 rfl rfl rfl ?_
          refine cb_iconst 77 h dX12_others_76 rfl kc_4 ?_
          refine cb_icmp_ne 111 80 h dX12_others_77 rfl rfl (fun q11 => ?_) (fun q11 => ?_)
          · have hf := cb_if q11 hf
            refine cb_iload_n 112 1 h dX12_others_111 rfl rfl rfl ?_
            refine cb_iconst 113 h dX12_others_112 rfl kc_5 ?_
            refine cb_icmp_ne 141 116 h dX12_others_113 rfl rfl (fun q12 => ?_) (fun q12 => ?_)
            · have hf := cb_if q12 hf
              refine cb_aload_n 142 0 h dX12_others_141 rfl rfl rfl ?_
              refine cb_iload_n 143 1 h dX12_others_142 rfl rfl rfl ?_
              refine cb_bipush 145 h dX12_others_143 rfl kb_7 ?_
              refine cb_cut (cb_V X (WM a ca σ) 153 [(0, .ref (a 0)), (1, .int v1)] [.int (if v1 = (7 : Int32) then (1 : Int32) else (0 : Int32)), .ref (a 0)]) (fun jj => ?_) ?_
              · refine cb_icmp_ne 152 148 h dX12_others_145 rfl rfl (fun q13 => ?_) (fun q13 => ?_)
                · refine cb_iconst 153 h dX12_others_152 rfl kc_0 ?_
                  exact (cb_tf q13 jj)
                · refine cb_iconst 149 h dX12_others_148 rfl kc_1 ?_
                  refine cb_goto 153 h dX12_others_149 rfl ?_
                  exact (cb_tt q13 jj)
              obtain ⟨σ14, e15, hf⟩ := cb_let_o hf
              refine pf_X12_243 156 h dX12_others_153 rfl (cb_01_i cb_01_1 cb_01_0) e15 ?_
              refine cb_iconst 157 h dX12_others_156 rfl kc_4 ?_
              exact cb_retI (Wf := WM a ca) h dX12_others_157 he hf
            · have hf := cb_it q12 hf
              refine cb_aload_n 117 0 h dX12_others_116 rfl rfl rfl ?_
              refine cb_iconst 118 h dX12_others_117 rfl kc_2 ?_
              obtain ⟨c16, ec16, hf⟩ := cb_bo_o hf
              refine cl_X12_109 121 h dX12_others_118 rfl (mt_pair ec16) ⟨rfl, rfl, Nat.le_of_ble_eq_true rfl, Nat.le_of_ble_eq_true rfl⟩ rfl (Nat.le_of_ble_eq_true rfl) ?_
              refine cb_istore_n (lv' := [(2, .int c16), (0, .ref (a 0)), (1, .int v1)]) 122 h dX12_others_121 rfl rfl rfl (Nat.le_of_ble_eq_true rfl) rfl ?_
              refine cb_aload_n 123 1 h dX12_others_122 rfl rfl rfl ?_
              refine cb_iconst 124 h dX12_others_123 rfl kc_2 ?_
              refine cb_aload_n 125 1 h dX12_others_124 rfl rfl rfl ?_
              refine cb_iconst 126 h dX12_others_125 rfl kc_4 ?_
              obtain ⟨c17, ec17, hf⟩ := cb_bo_o hf
              refine cl_X12_109 129 h dX12_others_126 rfl (mt_pair ec17) ⟨rfl, rfl, Nat.le_of_ble_eq_true rfl, Nat.le_of_ble_eq_true rfl⟩ rfl (Nat.le_of_ble_eq_true rfl) ?_
              obtain ⟨σc18, ec18, hf⟩ := cb_bo_o hf
              refine cl_X12_112 132 h dX12_others_129 rfl (mt_putPair ec18) ⟨rfl, rfl, Nat.le_of_ble_eq_true rfl, Nat.le_of_ble_eq_true rfl⟩ rfl (Nat.le_of_ble_eq_true rfl) ?_
              refine cb_aload_n 133 1 h dX12_others_132 rfl rfl rfl ?_
              refine cb_iconst 134 h dX12_others_133 rfl kc_4 ?_
              refine cb_iload_n 135 0 h dX12_others_134 rfl rfl rfl ?_
              obtain ⟨σc19, ec19, hf⟩ := cb_bo_o hf
              refine cl_X12_112 138 h dX12_others_135 rfl (mt_putPair ec19) ⟨rfl, rfl, Nat.le_of_ble_eq_true rfl, Nat.le_of_ble_eq_true rfl⟩ rfl (Nat.le_of_ble_eq_true rfl) ?_
              refine cb_goto 156 h dX12_others_138 rfl ?_
              refine cb_iconst 157 h dX12_others_156 rfl kc_4 ?_
              exact cb_retI (Wf := WM a ca) h dX12_others_157 he hf
          · have hf := cb_it q11 hf
            refine cb_aload_n 81 0 h dX12_others_80 rfl rfl rfl ?_
            refine cb_aload_n 82 0 h dX12_others_81 rfl rfl rfl ?_
            refine gf_X12_17 85 h dX12_others_82 rfl ?_
            obtain ⟨c20, ec20, hf⟩ := cb_bo_o hf
            refine cl_X12_118 88 h dX12_others_85 rfl (mt_wordAt ec20) ⟨rfl, rfl, Nat.le_of_ble_eq_true rfl, Nat.le_of_ble_eq_true rfl⟩ rfl (Nat.le_of_ble_eq_true rfl) ?_
            refine cb_istore_n (lv' := [(2, .int c20), (0, .ref (a 0)), (1, .int v1)]) 89 h dX12_others_88 rfl rfl rfl (Nat.le_of_ble_eq_true rfl) rfl ?_
            refine cb_aload_n 90 1 h dX12_others_89 rfl rfl rfl ?_
            refine cb_aload_n 91 1 h dX12_others_90 rfl rfl rfl ?_
            refine gf_X12_17 94 h dX12_others_91 rfl ?_
            refine cb_aload_n 95 1 h dX12_others_94 rfl rfl rfl ?_
            refine cb_iconst 96 h dX12_others_95 rfl kc_4 ?_
            obtain ⟨c21, ec21, hf⟩ := cb_bo_o hf
            refine cl_X12_109 99 h dX12_others_96 rfl (mt_pair ec21) ⟨rfl, rfl, Nat.le_of_ble_eq_true rfl, Nat.le_of_ble_eq_true rfl⟩ rfl (Nat.le_of_ble_eq_true rfl) ?_
            obtain ⟨σc22, ec22, hf⟩ := cb_bo_o hf
            refine cl_X12_115 102 h dX12_others_99 rfl (mt_putWord ec22) ⟨rfl, rfl, Nat.le_of_ble_eq_true rfl, Nat.le_of_ble_eq_true rfl⟩ rfl (Nat.le_of_ble_eq_true rfl) ?_
            refine cb_aload_n 103 1 h dX12_others_102 rfl rfl rfl ?_
            refine cb_iconst 104 h dX12_others_103 rfl kc_4 ?_
            refine cb_iload_n 105 0 h dX12_others_104 rfl rfl rfl ?_
            obtain ⟨σc23, ec23, hf⟩ := cb_bo_o hf
            refine cl_X12_112 108 h dX12_others_105 rfl (mt_putPair ec23) ⟨rfl, rfl, Nat.le_of_ble_eq_true rfl, Nat.le_of_ble_eq_true rfl⟩ rfl (Nat.le_of_ble_eq_true rfl) ?_
            refine cb_bipush 110 h dX12_others_108 rfl kb_19 ?_
            exact cb_retI (Wf := WM a ca) h dX12_others_110 he hf
        · have hf := cb_it q10 hf
          exact j35 _ hf
    · have hf := cb_it q8 hf
      refine cb_aload_n 21 0 h dX12_others_20 rfl rfl rfl ?_
      obtain ⟨c24, σc24, ec24, hf⟩ := cb_b2_o hf
      refine cl_X12_234 24 h dX12_others_21 rfl (mt_bits ec24) ⟨rfl, rfl, Nat.le_of_ble_eq_true rfl, Nat.le_of_ble_eq_true rfl⟩ rfl (Nat.le_of_ble_eq_true rfl) ?_
      exact cb_retI (Wf := WM a ca) h dX12_others_24 he hf
  · have hf := cb_it q7 hf
    refine cb_aload_n 5 0 h dX12_others_4 rfl rfl rfl ?_
    refine cb_aload_n 6 0 h dX12_others_5 rfl rfl rfl ?_
    obtain ⟨c25, σc25, ec25, hf⟩ := cb_b2_o hf
    refine cl_X12_182 9 h dX12_others_6 rfl (mt_nextWord ec25) ⟨rfl, rfl, Nat.le_of_ble_eq_true rfl, Nat.le_of_ble_eq_true rfl⟩ rfl (Nat.le_of_ble_eq_true rfl) ?_
    obtain ⟨σ26, e27, hf⟩ := cb_let_o hf
    refine pf_X12_102 12 h dX12_others_9 rfl e27 ?_
    refine cb_bipush 14 h dX12_others_12 rfl kb_10 ?_
    exact cb_retI (Wf := WM a ca) h dX12_others_14 he hf
set_option maxRecDepth 100000 in
set_option maxHeartbeats 4000000 in
theorem mt_logicFlags {l : Launch} {D : va_G} {a : Nat → Nat} {ca : Nat → ClassId} {σ σ' : cb_S} {v1 v2 v3 : Int32} (hf : m_logicFlags σ v1 v2 v3 = some σ') : cb_C l yX12_logicFlags cX12_logicFlags 4 none { frames := 2, cells := 0, slots := 0, locals := 43 } D (EM ca) (adM a) [.ref (a 0), .int v1, .int v2, .int v3] (WM a ca σ) none (WM a ca σ') := by
  refine cb_mk [(0, .ref (a 0)), (1, .int v1), (2, .int v2), (3, .int v3)] (by decide) (Nat.le_of_ble_eq_true rfl) rfl (fun X h he => ?_) goodM
  have h : cb_ok X cX12_logicFlags RX12 (EM ca) 2 43 4 := h
  unfold m_logicFlags at hf
  refine cb_aload_n 1 0 h dX12_logicFlags_0 rfl rfl rfl ?_
  refine gf_X12_13 4 h dX12_logicFlags_1 rfl ?_
  refine cb_bipush 6 h dX12_logicFlags_4 rfl kb_6 ?_
  refine cb_iconst 7 h dX12_logicFlags_6 rfl kc_0 ?_
  obtain ⟨σ1, e2, hf⟩ := cb_let_o hf
  refine saM_2 8 h dX12_logicFlags_7 rfl vi_6_16 tk_6 e2 ?_
  refine cb_aload_n 9 0 h dX12_logicFlags_8 rfl rfl rfl ?_
  refine cb_iload_n 10 1 h dX12_logicFlags_9 rfl rfl rfl ?_
  obtain ⟨σc3, ec3, hf⟩ := cb_bo_o hf
  refine cl_X12_143 13 h dX12_logicFlags_10 rfl (mt_shown ec3) ⟨rfl, rfl, Nat.le_of_ble_eq_true rfl, Nat.le_of_ble_eq_true rfl⟩ rfl (Nat.le_of_ble_eq_true rfl) ?_
  refine cb_aload_n 14 0 h dX12_logicFlags_13 rfl rfl rfl ?_
  refine cb_bipush 16 h dX12_logicFlags_14 rfl kb_16 ?_
  refine cb_iload_n 17 2 h dX12_logicFlags_16 rfl rfl rfl ?_
  obtain ⟨σc4, ec4, hf⟩ := cb_bo_o hf
  refine cl_X12_139 20 h dX12_logicFlags_17 rfl (mt_setFlag ec4) ⟨rfl, rfl, Nat.le_of_ble_eq_true rfl, Nat.le_of_ble_eq_true rfl⟩ rfl (Nat.le_of_ble_eq_true rfl) ?_
  refine cb_aload_n 21 0 h dX12_logicFlags_20 rfl rfl rfl ?_
  refine cb_iconst 22 h dX12_logicFlags_21 rfl kc_1 ?_
  refine cb_iload_n 23 3 h dX12_logicFlags_22 rfl rfl rfl ?_
  obtain ⟨σc5, ec5, hf⟩ := cb_bo_o hf
  refine cl_X12_139 26 h dX12_logicFlags_23 rfl (mt_setFlag ec5) ⟨rfl, rfl, Nat.le_of_ble_eq_true rfl, Nat.le_of_ble_eq_true rfl⟩ rfl (Nat.le_of_ble_eq_true rfl) ?_
  exact cb_retV (Wf := WM a ca) h dX12_logicFlags_26 he hf
set_option maxRecDepth 100000 in
set_option maxHeartbeats 4000000 in
theorem mt_operate {l : Launch} {D : va_G} {a : Nat → Nat} {ca : Nat → ClassId} {N : Nat} {σ σ' : cb_S} {v1 v2 : Int32} (hf : m_operate N σ v1 v2 = some σ') : cb_C l yX12_operate cX12_operate 5 none { frames := 3, cells := 0, slots := 0, locals := 66 } D (EM ca) (adM a) [.ref (a 0), .int v1, .int v2] (WM a ca σ) none (WM a ca σ') := by
  refine cb_mk [(0, .ref (a 0)), (1, .int v1), (2, .int v2)] (by decide) (Nat.le_of_ble_eq_true rfl) rfl (fun X h he => ?_) goodM
  have h : cb_ok X cX12_operate RX12 (EM ca) 3 66 5 := h
  unfold m_operate at hf
  have j93 : ∀ (σ : cb_S) (x3 : Int32), m_operate_L93 N v1 v2 σ x3 = some σ' → cb_V X (WM a ca σ) 93 [(0, .ref (a 0)), (1, .int v1), (2, .int v2), (3, .int x3)] [] := by
    intro σ x3 hf
    unfold m_operate_L93 at hf
    refine cb_aload_n 94 0 h dX12_operate_93 rfl rfl rfl ?_
    refine cb_aload_n 95 0 h dX12_operate_94 rfl rfl rfl ?_
    refine gf_X12_13 98 h dX12_operate_95 rfl ?_
    refine cb_bipush 100 h dX12_operate_98 rfl kb_7 ?_
    refine laM_2 101 h dX12_operate_100 rfl vi_7_16 tk_7 ?_
    refine cb_iload_n 102 2 h dX12_operate_101 rfl rfl rfl ?_
    refine cb_iload_n 103 3 h dX12_operate_102 rfl rfl rfl ?_
    refine cb_bipush 105 h dX12_operate_103 rfl kb_8 ?_
    obtain ⟨c1, σc1, ec1, hf⟩ := cb_b2_o hf
    refine cl_X12_154 108 h dX12_operate_105 rfl (mt_subtract ec1) ⟨rfl, rfl, Nat.le_of_ble_eq_true rfl, Nat.le_of_ble_eq_true rfl⟩ rfl (Nat.le_of_ble_eq_true rfl) ?_
    refine cb_istore (lv' := [(4, .int c1), (0, .ref (a 0)), (1, .int v1), (2, .int v2), (3, .int x3)]) 110 h dX12_operate_108 rfl rfl (Nat.le_of_ble_eq_true rfl) rfl ?_
    refine cb_aload_n 111 1 h dX12_operate_110 rfl rfl rfl ?_
    refine cb_iload 113 0 h dX12_operate_111 rfl rfl ?_
    refine cb_bipush 115 h dX12_operate_113 rfl kb_8 ?_
    refine cb_iconst 116 h dX12_operate_115 rfl kc_1 ?_
    obtain ⟨σc2, ec2, hf⟩ := cb_bo_o hf
    refine cl_X12_150 119 h dX12_operate_116 rfl (mt_sumFlags ec2) ⟨rfl, rfl, Nat.le_of_ble_eq_true rfl, Nat.le_of_ble_eq_true rfl⟩ rfl (Nat.le_of_ble_eq_true rfl) ?_
    refine cb_aload_n 120 1 h dX12_operate_119 rfl rfl rfl ?_
    refine cb_iconst 121 h dX12_operate_120 rfl kc_1 ?_
    refine cb_aload_n 122 1 h dX12_operate_121 rfl rfl rfl ?_
    refine gf_X12_132 125 h dX12_operate_122 rfl ?_
    obtain ⟨σc3, ec3, hf⟩ := cb_bo_o hf
    refine cl_X12_139 128 h dX12_operate_125 rfl (mt_setFlag ec3) ⟨rfl, rfl, Nat.le_of_ble_eq_true rfl, Nat.le_of_ble_eq_true rfl⟩ rfl (Nat.le_of_ble_eq_true rfl) ?_
    refine cb_aload_n 129 1 h dX12_operate_128 rfl rfl rfl ?_
    refine gf_X12_13 132 h dX12_operate_129 rfl ?_
    refine cb_bipush 134 h dX12_operate_132 rfl kb_7 ?_
    refine cb_iload_n 135 2 h dX12_operate_134 rfl rfl rfl ?_
    refine cb_bipush 137 h dX12_operate_135 rfl kb_7 ?_
    refine cb_cut (cb_V X (WM a ca σc3) 152 [(4, .int c1), (0, .ref (a 0)), (1, .int v1), (2, .int v2), (3, .int x3)] [.int (if v1 = (7 : Int32) then (σc3 2 7) else c1), .int (7 : Int32), .ref (a 2)]) (fun jj => ?_) ?_
    · refine cb_icmp_ne 150 140 h dX12_operate_137 rfl rfl (fun q4 => ?_) (fun q4 => ?_)
      · refine cb_iload 152 0 h dX12_operate_150 rfl rfl ?_
        exact (cb_tf q4 jj)
      · refine cb_aload_n 141 1 h dX12_operate_140 rfl rfl rfl ?_
        refine gf_X12_13 144 h dX12_operate_141 rfl ?_
        refine cb_bipush 146 h dX12_operate_144 rfl kb_7 ?_
        refine laM_2 147 h dX12_operate_146 rfl vi_7_16 tk_7 ?_
        refine cb_goto 152 h dX12_operate_147 rfl ?_
        exact (cb_tt q4 jj)
    obtain ⟨σ5, e6, hf⟩ := cb_let_o hf
    refine saM_2 153 h dX12_operate_152 rfl vi_7_16 tk_7 e6 ?_
    refine cb_goto 228 h dX12_operate_153 rfl ?_
    exact cb_retV (Wf := WM a ca) h dX12_operate_228 he hf
  have j23 : ∀ (σ : cb_S) (y0 : Int32), m_operate_L23 N v1 v2 σ y0 = some σ' → cb_V X (WM a ca σ) 23 [(0, .ref (a 0)), (1, .int v1), (2, .int v2)] [.int y0] := by
    intro σ y0 hf
    unfold m_operate_L23 at hf
    refine cb_istore_n (lv' := [(3, .int y0), (0, .ref (a 0)), (1, .int v1), (2, .int v2)]) 24 h dX12_operate_23 rfl rfl rfl (Nat.le_of_ble_eq_true rfl) rfl ?_
    refine cb_iload_n 25 2 h dX12_operate_24 rfl rfl rfl ?_
    refine cb_iconst 26 h dX12_operate_25 rfl kc_2 ?_
    refine cb_icmp_ge 77 29 h dX12_operate_26 rfl rfl (fun q7 => ?_) (fun q7 => ?_)
    · have hf := cb_it q7 hf
      refine cb_iload_n 78 2 h dX12_operate_77 rfl rfl rfl ?_
      refine cb_iconst 79 h dX12_operate_78 rfl kc_2 ?_
      refine cb_icmp_eq 93 82 h dX12_operate_79 rfl rfl (fun q8 => ?_) (fun q8 => ?_)
      · have hf := cb_it q8 hf
        exact cb_lv [1, 2, 3, 0] rfl (j93 _ _ hf)
      · have hf := cb_if q8 hf
        refine cb_iload_n 83 2 h dX12_operate_82 rfl rfl rfl ?_
        refine cb_iconst 84 h dX12_operate_83 rfl kc_3 ?_
        refine cb_icmp_eq 93 87 h dX12_operate_84 rfl rfl (fun q9 => ?_) (fun q9 => ?_)
        · have hf := cb_it q9 hf
          exact cb_lv [1, 2, 3, 0] rfl (j93 _ _ hf)
        · have hf := cb_if q9 hf
          refine cb_iload_n 88 2 h dX12_operate_87 rfl rfl rfl ?_
          refine cb_bipush 90 h dX12_operate_88 rfl kb_7 ?_
          refine cb_icmp_ne 156 93 h dX12_operate_90 rfl rfl (fun q10 => ?_) (fun q10 => ?_)
          · have hf := cb_if q10 hf
            refine cb_aload_n 157 1 h dX12_operate_156 rfl rfl rfl ?_
            refine gf_X12_13 160 h dX12_operate_157 rfl ?_
            refine cb_bipush 162 h dX12_operate_160 rfl kb_7 ?_
            refine cb_iload_n 163 2 h dX12_operate_162 rfl rfl rfl ?_
            refine cb_iconst 164 h dX12_operate_163 rfl kc_4 ?_
            refine cb_cut (cb_V X (WM a ca σ) 205 [(3, .int y0), (0, .ref (a 0)), (1, .int v1), (2, .int v2)] [.int (if v1 = (4 : Int32) then ((σ 2 7) &&& v2) else (if v1 = (5 : Int32) then ((σ 2 7) ^^^ v2) else ((σ 2 7) ||| v2))), .int (7 : Int32), .ref (a 2)]) (fun jj => ?_) ?_
            · refine cb_icmp_ne 179 167 h dX12_operate_164 rfl rfl (fun q11 => ?_) (fun q11 => ?_)
              · refine cb_iload_n 180 2 h dX12_operate_179 rfl rfl rfl ?_
                refine cb_iconst 181 h dX12_operate_180 rfl kc_5 ?_
                refine cb_icmp_ne 196 184 h dX12_operate_181 rfl rfl (fun q12 => ?_) (fun q12 => ?_)
                · refine cb_aload_n 197 1 h dX12_operate_196 rfl rfl rfl ?_
                  refine gf_X12_13 200 h dX12_operate_197 rfl ?_
                  refine cb_bipush 202 h dX12_operate_200 rfl kb_7 ?_
                  refine laM_2 203 h dX12_operate_202 rfl vi_7_16 tk_7 ?_
                  refine cb_iload_n 204 3 h dX12_operate_203 rfl rfl rfl ?_
                  refine cb_ior 205 h dX12_operate_204 rfl ?_
                  exact (cb_tf q12 (cb_tf q11 jj))
                · refine cb_aload_n 185 1 h dX12_operate_184 rfl rfl rfl ?_
                  refine gf_X12_13 188 h dX12_operate_185 rfl ?_
                  refine cb_bipush 190 h dX12_operate_188 rfl kb_7 ?_
                  refine laM_2 191 h dX12_operate_190 rfl vi_7_16 tk_7 ?_
                  refine cb_iload_n 192 3 h dX12_operate_191 rfl rfl rfl ?_
                  refine cb_ixor 193 h dX12_operate_192 rfl ?_
                  refine cb_goto 205 h dX12_operate_193 rfl ?_
                  exact (cb_tt q12 (cb_tf q11 jj))
              · refine cb_aload_n 168 1 h dX12_operate_167 rfl rfl rfl ?_
                refine gf_X12_13 171 h dX12_operate_168 rfl ?_
                refine cb_bipush 173 h dX12_operate_171 rfl kb_7 ?_
                refine laM_2 174 h dX12_operate_173 rfl vi_7_16 tk_7 ?_
                refine cb_iload_n 175 3 h dX12_operate_174 rfl rfl rfl ?_
                refine cb_iand 176 h dX12_operate_175 rfl ?_
                refine cb_goto 205 h dX12_operate_176 rfl ?_
                exact (cb_tt q11 jj)
            obtain ⟨σ13, e14, hf⟩ := cb_let_o hf
            refine saM_2 206 h dX12_operate_205 rfl vi_7_16 tk_7 e14 ?_
            refine cb_aload_n 207 1 h dX12_operate_206 rfl rfl rfl ?_
            refine cb_aload_n 208 1 h dX12_operate_207 rfl rfl rfl ?_
            refine gf_X12_13 211 h dX12_operate_208 rfl ?_
            refine cb_bipush 213 h dX12_operate_211 rfl kb_7 ?_
            refine laM_2 214 h dX12_operate_213 rfl vi_7_16 tk_7 ?_
            refine cb_iload_n 215 2 h dX12_operate_214 rfl rfl rfl ?_
            refine cb_iconst 216 h dX12_operate_215 rfl kc_4 ?_
            refine cb_cut (cb_V X (WM a ca σ13) 224 [(3, .int y0), (0, .ref (a 0)), (1, .int v1), (2, .int v2)] [.int (if v1 = (4 : Int32) then (1 : Int32) else (0 : Int32)), .int (σ13 2 7), .ref (a 0)]) (fun jj => ?_) ?_
            · refine cb_icmp_ne 223 219 h dX12_operate_216 rfl rfl (fun q15 => ?_) (fun q15 => ?_)
              · refine cb_iconst 224 h dX12_operate_223 rfl kc_0 ?_
                exact (cb_tf q15 jj)
              · refine cb_iconst 220 h dX12_operate_219 rfl kc_1 ?_
                refine cb_goto 224 h dX12_operate_220 rfl ?_
                exact (cb_tt q15 jj)
            refine cb_iconst 225 h dX12_operate_224 rfl kc_0 ?_
            obtain ⟨σc16, ec16, hf⟩ := cb_bo_o hf
            refine cl_X12_157 228 h dX12_operate_225 rfl (mt_logicFlags ec16) ⟨rfl, rfl, Nat.le_of_ble_eq_true rfl, Nat.le_of_ble_eq_true rfl⟩ rfl (Nat.le_of_ble_eq_true rfl) ?_
            exact cb_retV (Wf := WM a ca) h dX12_operate_228 he hf
          · have hf := cb_it q10 hf
            exact cb_lv [1, 2, 3, 0] rfl (j93 _ _ hf)
    · have hf := cb_if q7 hf
      refine cb_aload_n 30 1 h dX12_operate_29 rfl rfl rfl ?_
      refine gf_X12_13 33 h dX12_operate_30 rfl ?_
      refine cb_bipush 35 h dX12_operate_33 rfl kb_7 ?_
      refine cb_aload_n 36 1 h dX12_operate_35 rfl rfl rfl ?_
      refine cb_aload_n 37 1 h dX12_operate_36 rfl rfl rfl ?_
      refine gf_X12_13 40 h dX12_operate_37 rfl ?_
      refine cb_bipush 42 h dX12_operate_40 rfl kb_7 ?_
      refine laM_2 43 h dX12_operate_42 rfl vi_7_16 tk_7 ?_
      refine cb_iload_n 44 3 h dX12_operate_43 rfl rfl rfl ?_
      refine cb_iload_n 45 0 h dX12_operate_44 rfl rfl rfl ?_
      refine cb_bipush 47 h dX12_operate_45 rfl kb_8 ?_
      obtain ⟨c17, σc17, ec17, hf⟩ := cb_b2_o hf
      refine cl_X12_135 50 h dX12_operate_47 rfl (mt_add ec17) ⟨rfl, rfl, Nat.le_of_ble_eq_true rfl, Nat.le_of_ble_eq_true rfl⟩ rfl (Nat.le_of_ble_eq_true rfl) ?_
      obtain ⟨σ18, e19, hf⟩ := cb_let_o hf
      refine saM_2 51 h dX12_operate_50 rfl vi_7_16 tk_7 e19 ?_
      refine cb_aload_n 52 1 h dX12_operate_51 rfl rfl rfl ?_
      refine cb_aload_n 53 1 h dX12_operate_52 rfl rfl rfl ?_
      refine gf_X12_13 56 h dX12_operate_53 rfl ?_
      refine cb_bipush 58 h dX12_operate_56 rfl kb_7 ?_
      refine laM_2 59 h dX12_operate_58 rfl vi_7_16 tk_7 ?_
      refine cb_bipush 61 h dX12_operate_59 rfl kb_8 ?_
      refine cb_iconst 62 h dX12_operate_61 rfl kc_0 ?_
      obtain ⟨σc20, ec20, hf⟩ := cb_bo_o hf
      refine cl_X12_150 65 h dX12_operate_62 rfl (mt_sumFlags ec20) ⟨rfl, rfl, Nat.le_of_ble_eq_true rfl, Nat.le_of_ble_eq_true rfl⟩ rfl (Nat.le_of_ble_eq_true rfl) ?_
      refine cb_aload_n 66 1 h dX12_operate_65 rfl rfl rfl ?_
      refine cb_iconst 67 h dX12_operate_66 rfl kc_1 ?_
      refine cb_aload_n 68 1 h dX12_operate_67 rfl rfl rfl ?_
      refine gf_X12_132 71 h dX12_operate_68 rfl ?_
      obtain ⟨σc21, ec21, hf⟩ := cb_bo_o hf
      refine cl_X12_139 74 h dX12_operate_71 rfl (mt_setFlag ec21) ⟨rfl, rfl, Nat.le_of_ble_eq_true rfl, Nat.le_of_ble_eq_true rfl⟩ rfl (Nat.le_of_ble_eq_true rfl) ?_
      refine cb_goto 228 h dX12_operate_74 rfl ?_
      exact cb_retV (Wf := WM a ca) h dX12_operate_228 he hf
  have j10 : ∀ (σ : cb_S), m_operate_L10 N v1 v2 σ = some σ' → cb_V X (WM a ca σ) 10 [(0, .ref (a 0)), (1, .int v1), (2, .int v2)] [] := by
    intro σ hf
    unfold m_operate_L10 at hf
    refine cb_aload_n 11 0 h dX12_operate_10 rfl rfl rfl ?_
    refine cb_iconst 12 h dX12_operate_11 rfl kc_1 ?_
    obtain ⟨c22, ec22, hf⟩ := cb_bo_o hf
    refine cl_X12_121 15 h dX12_operate_12 rfl (mt_flag ec22) ⟨rfl, rfl, Nat.le_of_ble_eq_true rfl, Nat.le_of_ble_eq_true rfl⟩ rfl (Nat.le_of_ble_eq_true rfl) ?_
    refine cb_cut (cb_V X (WM a ca σ) 23 [(0, .ref (a 0)), (1, .int v1), (2, .int v2)] [.int (if c22 = 0 then (0 : Int32) else (1 : Int32))]) (fun jj => ?_) ?_
    · refine cb_if_eq 22 18 h dX12_operate_15 rfl rfl (fun q23 => ?_) (fun q23 => ?_)
      · refine cb_iconst 23 h dX12_operate_22 rfl kc_0 ?_
        exact (cb_tt q23 jj)
      · refine cb_iconst 19 h dX12_operate_18 rfl kc_1 ?_
        refine cb_goto 23 h dX12_operate_19 rfl ?_
        exact (cb_tf q23 jj)
    exact j23 _ _ hf
  refine cb_iload_n 1 1 h dX12_operate_0 rfl rfl rfl ?_
  refine cb_iconst 2 h dX12_operate_1 rfl kc_1 ?_
  refine cb_icmp_eq 10 5 h dX12_operate_2 rfl rfl (fun q24 => ?_) (fun q24 => ?_)
  · have hf := cb_it q24 hf
    exact j10 _ hf
  · have hf := cb_if q24 hf
    refine cb_iload_n 6 1 h dX12_operate_5 rfl rfl rfl ?_
    refine cb_iconst 7 h dX12_operate_6 rfl kc_3 ?_
    refine cb_icmp_ne 22 10 h dX12_operate_7 rfl rfl (fun q25 => ?_) (fun q25 => ?_)
    · have hf := cb_if q25 hf
      refine cb_iconst 23 h dX12_operate_22 rfl kc_0 ?_
      exact j23 _ _ hf
    · have hf := cb_it q25 hf
      exact j10 _ hf
set_option maxRecDepth 100000 in
set_option maxHeartbeats 4000000 in
theorem mt_copies {l : Launch} {D : va_G} {a : Nat → Nat} {ca : Nat → ClassId} {σ σ' : cb_S} {v1 : Int32} {r : Int32} (hf : m_copies σ v1 = some (r, σ')) : cb_C l yX12_copies cX12_copies 3 (some .int) { frames := 1, cells := 0, slots := 0, locals := 22 } D (EM ca) (adM a) [.ref (a 0), .int v1] (WM a ca σ) (some (.int r)) (WM a ca σ') := by
  refine cb_mk [(0, .ref (a 0)), (1, .int v1)] (by decide) (Nat.le_of_ble_eq_true rfl) rfl (fun X h he => ?_) goodM
  have h : cb_ok X cX12_copies RX12 (EM ca) 1 22 3 := h
  unfold m_copies at hf
  refine cb_aload_n 1 0 h dX12_copies_0 rfl rfl rfl ?_
  refine cb_aload_n 2 0 h dX12_copies_1 rfl rfl rfl ?_
  refine cb_iconst 3 h dX12_copies_2 rfl kc_2 ?_
  obtain ⟨c1, ec1, hf⟩ := cb_bo_o hf
  refine cl_X12_109 6 h dX12_copies_3 rfl (mt_pair ec1) ⟨rfl, rfl, Nat.le_of_ble_eq_true rfl, Nat.le_of_ble_eq_true rfl⟩ rfl (Nat.le_of_ble_eq_true rfl) ?_
  refine cb_aload_n 7 0 h dX12_copies_6 rfl rfl rfl ?_
  refine cb_aload_n 8 0 h dX12_copies_7 rfl rfl rfl ?_
  refine cb_iconst 9 h dX12_copies_8 rfl kc_4 ?_
  obtain ⟨c2, ec2, hf⟩ := cb_bo_o hf
  refine cl_X12_109 12 h dX12_copies_9 rfl (mt_pair ec2) ⟨rfl, rfl, Nat.le_of_ble_eq_true rfl, Nat.le_of_ble_eq_true rfl⟩ rfl (Nat.le_of_ble_eq_true rfl) ?_
  obtain ⟨c3, ec3, hf⟩ := cb_bo_o hf
  refine cl_X12_94 15 h dX12_copies_12 rfl (mt_byteAt ec3) ⟨rfl, rfl, Nat.le_of_ble_eq_true rfl, Nat.le_of_ble_eq_true rfl⟩ rfl (Nat.le_of_ble_eq_true rfl) ?_
  obtain ⟨σc4, ec4, hf⟩ := cb_bo_o hf
  refine cl_X12_98 18 h dX12_copies_15 rfl (mt_putByte ec4) ⟨rfl, rfl, Nat.le_of_ble_eq_true rfl, Nat.le_of_ble_eq_true rfl⟩ rfl (Nat.le_of_ble_eq_true rfl) ?_
  refine cb_aload_n 19 0 h dX12_copies_18 rfl rfl rfl ?_
  refine cb_iconst 20 h dX12_copies_19 rfl kc_2 ?_
  refine cb_aload_n 21 0 h dX12_copies_20 rfl rfl rfl ?_
  refine cb_iconst 22 h dX12_copies_21 rfl kc_2 ?_
  obtain ⟨c5, ec5, hf⟩ := cb_bo_o hf
  refine cl_X12_109 25 h dX12_copies_22 rfl (mt_pair ec5) ⟨rfl, rfl, Nat.le_of_ble_eq_true rfl, Nat.le_of_ble_eq_true rfl⟩ rfl (Nat.le_of_ble_eq_true rfl) ?_
  refine cb_iconst 26 h dX12_copies_25 rfl kc_1 ?_
  refine cb_iadd 27 h dX12_copies_26 rfl ?_
  obtain ⟨σc6, ec6, hf⟩ := cb_bo_o hf
  refine cl_X12_112 30 h dX12_copies_27 rfl (mt_putPair ec6) ⟨rfl, rfl, Nat.le_of_ble_eq_true rfl, Nat.le_of_ble_eq_true rfl⟩ rfl (Nat.le_of_ble_eq_true rfl) ?_
  refine cb_aload_n 31 0 h dX12_copies_30 rfl rfl rfl ?_
  refine cb_iconst 32 h dX12_copies_31 rfl kc_4 ?_
  refine cb_aload_n 33 0 h dX12_copies_32 rfl rfl rfl ?_
  refine cb_iconst 34 h dX12_copies_33 rfl kc_4 ?_
  obtain ⟨c7, ec7, hf⟩ := cb_bo_o hf
  refine cl_X12_109 37 h dX12_copies_34 rfl (mt_pair ec7) ⟨rfl, rfl, Nat.le_of_ble_eq_true rfl, Nat.le_of_ble_eq_true rfl⟩ rfl (Nat.le_of_ble_eq_true rfl) ?_
  refine cb_iconst 38 h dX12_copies_37 rfl kc_1 ?_
  refine cb_iadd 39 h dX12_copies_38 rfl ?_
  obtain ⟨σc8, ec8, hf⟩ := cb_bo_o hf
  refine cl_X12_112 42 h dX12_copies_39 rfl (mt_putPair ec8) ⟨rfl, rfl, Nat.le_of_ble_eq_true rfl, Nat.le_of_ble_eq_true rfl⟩ rfl (Nat.le_of_ble_eq_true rfl) ?_
  refine cb_aload_n 43 0 h dX12_copies_42 rfl rfl rfl ?_
  refine cb_iconst 44 h dX12_copies_43 rfl kc_0 ?_
  refine cb_aload_n 45 0 h dX12_copies_44 rfl rfl rfl ?_
  refine cb_iconst 46 h dX12_copies_45 rfl kc_0 ?_
  obtain ⟨c9, ec9, hf⟩ := cb_bo_o hf
  refine cl_X12_109 49 h dX12_copies_46 rfl (mt_pair ec9) ⟨rfl, rfl, Nat.le_of_ble_eq_true rfl, Nat.le_of_ble_eq_true rfl⟩ rfl (Nat.le_of_ble_eq_true rfl) ?_
  refine cb_iconst 50 h dX12_copies_49 rfl kc_1 ?_
  refine cb_isub 51 h dX12_copies_50 rfl ?_
  obtain ⟨σc10, ec10, hf⟩ := cb_bo_o hf
  refine cl_X12_112 54 h dX12_copies_51 rfl (mt_putPair ec10) ⟨rfl, rfl, Nat.le_of_ble_eq_true rfl, Nat.le_of_ble_eq_true rfl⟩ rfl (Nat.le_of_ble_eq_true rfl) ?_
  refine cb_aload_n 55 0 h dX12_copies_54 rfl rfl rfl ?_
  refine cb_iconst 56 h dX12_copies_55 rfl kc_0 ?_
  obtain ⟨c11, ec11, hf⟩ := cb_bo_o hf
  refine cl_X12_109 59 h dX12_copies_56 rfl (mt_pair ec11) ⟨rfl, rfl, Nat.le_of_ble_eq_true rfl, Nat.le_of_ble_eq_true rfl⟩ rfl (Nat.le_of_ble_eq_true rfl) ?_
  refine cb_cut (cb_V X (WM a ca σc10) 67 [(0, .ref (a 0)), (1, .int v1)] [.int (if c11 = 0 then (0 : Int32) else (1 : Int32))]) (fun jj => ?_) ?_
  · refine cb_if_eq 66 62 h dX12_copies_59 rfl rfl (fun q12 => ?_) (fun q12 => ?_)
    · refine cb_iconst 67 h dX12_copies_66 rfl kc_0 ?_
      exact (cb_tt q12 jj)
    · refine cb_iconst 63 h dX12_copies_62 rfl kc_1 ?_
      refine cb_goto 67 h dX12_copies_63 rfl ?_
      exact (cb_tf q12 jj)
  obtain ⟨t13, e14, hf⟩ := cb_let_o hf
  refine cb_istore_n (lv' := [(2, .int t13), (0, .ref (a 0)), (1, .int v1)]) 68 h dX12_copies_67 rfl rfl e14 (Nat.le_of_ble_eq_true rfl) rfl ?_
  refine cb_aload_n 69 1 h dX12_copies_68 rfl rfl rfl ?_
  refine cb_bipush 71 h dX12_copies_69 rfl kb_16 ?_
  refine cb_iconst 72 h dX12_copies_71 rfl kc_0 ?_
  obtain ⟨σc15, ec15, hf⟩ := cb_bo_o hf
  refine cl_X12_139 75 h dX12_copies_72 rfl (mt_setFlag ec15) ⟨rfl, rfl, Nat.le_of_ble_eq_true rfl, Nat.le_of_ble_eq_true rfl⟩ rfl (Nat.le_of_ble_eq_true rfl) ?_
  refine cb_aload_n 76 1 h dX12_copies_75 rfl rfl rfl ?_
  refine cb_iconst 77 h dX12_copies_76 rfl kc_2 ?_
  refine cb_iconst 78 h dX12_copies_77 rfl kc_0 ?_
  obtain ⟨σc16, ec16, hf⟩ := cb_bo_o hf
  refine cl_X12_139 81 h dX12_copies_78 rfl (mt_setFlag ec16) ⟨rfl, rfl, Nat.le_of_ble_eq_true rfl, Nat.le_of_ble_eq_true rfl⟩ rfl (Nat.le_of_ble_eq_true rfl) ?_
  refine cb_aload_n 82 1 h dX12_copies_81 rfl rfl rfl ?_
  refine cb_iconst 83 h dX12_copies_82 rfl kc_4 ?_
  refine cb_iload_n 84 0 h dX12_copies_83 rfl rfl rfl ?_
  obtain ⟨σc17, ec17, hf⟩ := cb_bo_o hf
  refine cl_X12_139 87 h dX12_copies_84 rfl (mt_setFlag ec17) ⟨rfl, rfl, Nat.le_of_ble_eq_true rfl, Nat.le_of_ble_eq_true rfl⟩ rfl (Nat.le_of_ble_eq_true rfl) ?_
  refine cb_iload_n 88 2 h dX12_copies_87 rfl rfl rfl ?_
  refine cb_if_eq 95 91 h dX12_copies_88 rfl rfl (fun q18 => ?_) (fun q18 => ?_)
  · have hf := cb_it q18 hf
    refine cb_bipush 97 h dX12_copies_95 rfl kb_16 ?_
    exact cb_retI (Wf := WM a ca) h dX12_copies_97 he hf
  · have hf := cb_if q18 hf
    refine cb_iload_n 92 0 h dX12_copies_91 rfl rfl rfl ?_
    refine cb_if_ne 98 95 h dX12_copies_92 rfl rfl (fun q19 => ?_) (fun q19 => ?_)
    · have hf := cb_if q19 hf
      refine cb_aload_n 99 1 h dX12_copies_98 rfl rfl rfl ?_
      refine cb_aload_n 100 1 h dX12_copies_99 rfl rfl rfl ?_
      refine gf_X12_102 103 h dX12_copies_100 rfl ?_
      refine cb_iconst 104 h dX12_copies_103 rfl kc_2 ?_
      refine cb_isub 105 h dX12_copies_104 rfl ?_
      refine cb_ldc 107 h dX12_copies_105 rfl (cb_t3 162 rfl rfl) ?_
      refine cb_iand 108 h dX12_copies_107 rfl ?_
      obtain ⟨σ20, e21, hf⟩ := cb_let_o hf
      refine pf_X12_102 111 h dX12_copies_108 rfl e21 ?_
      refine cb_bipush 113 h dX12_copies_111 rfl kb_21 ?_
      exact cb_retI (Wf := WM a ca) h dX12_copies_113 he hf
    · have hf := cb_it q19 hf
      refine cb_bipush 97 h dX12_copies_95 rfl kb_16 ?_
      exact cb_retI (Wf := WM a ca) h dX12_copies_97 he hf
set_option maxRecDepth 100000 in
set_option maxHeartbeats 4000000 in
theorem mt_leave {l : Launch} {D : va_G} {a : Nat → Nat} {ca : Nat → ClassId} {σ σ' : cb_S} (hf : m_leave σ = some σ') : cb_C l yX12_leave cX12_leave 2 none { frames := 0, cells := 0, slots := 0, locals := 0 } D (EM ca) (adM a) [.ref (a 0)] (WM a ca σ) none (WM a ca σ') := by
  refine cb_mk [(0, .ref (a 0))] (by decide) (Nat.le_of_ble_eq_true rfl) rfl (fun X h he => ?_) goodM
  have h : cb_ok X cX12_leave RX12 (EM ca) 0 0 2 := h
  unfold m_leave at hf
  have j22 : ∀ (σ : cb_S) (x1 : Int32), m_leave_L22 σ x1 = some σ' → cb_V X (WM a ca σ) 22 [(0, .ref (a 0)), (1, .int x1)] [] := by
    intro σ x1 hf
    unfold m_leave_L22 at hf
    refine cb_iload_n 23 1 h dX12_leave_22 rfl rfl rfl ?_
    refine cb_iconst 24 h dX12_leave_23 rfl kc_4 ?_
    refine cb_icmp_ge 34 27 h dX12_leave_24 rfl rfl (fun q1 => ?_) (fun q1 => ?_)
    · have hf := cb_it q1 hf
      exact cb_retV (Wf := WM a ca) h dX12_leave_34 he hf
    · have hf := cb_if q1 hf
      refine cb_aload_n 28 0 h dX12_leave_27 rfl rfl rfl ?_
      refine gf_X12_28 31 h dX12_leave_28 rfl ?_
      refine cb_iload_n 32 1 h dX12_leave_31 rfl rfl rfl ?_
      refine cb_iconst 33 h dX12_leave_32 rfl kc_0 ?_
      obtain ⟨g2, hf⟩ := cb_gd_o hf
      obtain ⟨σ3, e4, hf⟩ := cb_let_o hf
      refine saM_4 34 h dX12_leave_33 rfl (cb_in_v g2) rfl cb_01_0 e4 ?_
      exact cb_retV (Wf := WM a ca) h dX12_leave_34 he hf
  refine cb_iconst 1 h dX12_leave_0 rfl kc_0 ?_
  refine cb_istore_n (lv' := [(1, .int (0 : Int32)), (0, .ref (a 0))]) 2 h dX12_leave_1 rfl rfl rfl (Nat.le_of_ble_eq_true rfl) rfl ?_
  refine cb_iload_n 3 0 h dX12_leave_2 rfl rfl rfl ?_
  refine cb_iconst 4 h dX12_leave_3 rfl kc_4 ?_
  refine cb_icmp_ge 22 7 h dX12_leave_4 rfl rfl (fun q => absurd q (by decide)) (fun _ => ?_)
  refine cb_aload_n 8 1 h dX12_leave_7 rfl rfl rfl ?_
  refine gf_X12_28 11 h dX12_leave_8 rfl ?_
  refine cb_iload_n 12 0 h dX12_leave_11 rfl rfl rfl ?_
  refine laM_4 13 h dX12_leave_12 rfl vi_0_4 tk_0 ?_
  refine cb_if_ne 22 16 h dX12_leave_13 rfl rfl (fun q5 => ?_) (fun q5 => ?_)
  · have hf := cb_if q5 hf
    exact cb_lv [1, 0] rfl (j22 _ _ hf)
  · have hf := cb_it q5 hf
    refine cb_iinc 0 (lv' := [(1, .int (1 : Int32)), (0, .ref (a 0))]) 19 h dX12_leave_16 rfl rfl (by decide) (Nat.le_of_ble_eq_true rfl) rfl ?_
    refine cb_goto 2 h dX12_leave_19 rfl ?_
    refine cb_iload_n 3 0 h dX12_leave_2 rfl rfl rfl ?_
    refine cb_iconst 4 h dX12_leave_3 rfl kc_4 ?_
    refine cb_icmp_ge 22 7 h dX12_leave_4 rfl rfl (fun q => absurd q (by decide)) (fun _ => ?_)
    refine cb_aload_n 8 1 h dX12_leave_7 rfl rfl rfl ?_
    refine gf_X12_28 11 h dX12_leave_8 rfl ?_
    refine cb_iload_n 12 0 h dX12_leave_11 rfl rfl rfl ?_
    refine laM_4 13 h dX12_leave_12 rfl vi_1_4 tk_1 ?_
    refine cb_if_ne 22 16 h dX12_leave_13 rfl rfl (fun q6 => ?_) (fun q6 => ?_)
    · have hf := cb_if q6 hf
      exact cb_lv [1, 0] rfl (j22 _ _ hf)
    · have hf := cb_it q6 hf
      refine cb_iinc 0 (lv' := [(1, .int (2 : Int32)), (0, .ref (a 0))]) 19 h dX12_leave_16 rfl rfl (by decide) (Nat.le_of_ble_eq_true rfl) rfl ?_
      refine cb_goto 2 h dX12_leave_19 rfl ?_
      refine cb_iload_n 3 0 h dX12_leave_2 rfl rfl rfl ?_
      refine cb_iconst 4 h dX12_leave_3 rfl kc_4 ?_
      refine cb_icmp_ge 22 7 h dX12_leave_4 rfl rfl (fun q => absurd q (by decide)) (fun _ => ?_)
      refine cb_aload_n 8 1 h dX12_leave_7 rfl rfl rfl ?_
      refine gf_X12_28 11 h dX12_leave_8 rfl ?_
      refine cb_iload_n 12 0 h dX12_leave_11 rfl rfl rfl ?_
      refine laM_4 13 h dX12_leave_12 rfl vi_2_4 tk_2 ?_
      refine cb_if_ne 22 16 h dX12_leave_13 rfl rfl (fun q7 => ?_) (fun q7 => ?_)
      · have hf := cb_if q7 hf
        exact cb_lv [1, 0] rfl (j22 _ _ hf)
      · have hf := cb_it q7 hf
        refine cb_iinc 0 (lv' := [(1, .int (3 : Int32)), (0, .ref (a 0))]) 19 h dX12_leave_16 rfl rfl (by decide) (Nat.le_of_ble_eq_true rfl) rfl ?_
        refine cb_goto 2 h dX12_leave_19 rfl ?_
        refine cb_iload_n 3 0 h dX12_leave_2 rfl rfl rfl ?_
        refine cb_iconst 4 h dX12_leave_3 rfl kc_4 ?_
        refine cb_icmp_ge 22 7 h dX12_leave_4 rfl rfl (fun q => absurd q (by decide)) (fun _ => ?_)
        refine cb_aload_n 8 1 h dX12_leave_7 rfl rfl rfl ?_
        refine gf_X12_28 11 h dX12_leave_8 rfl ?_
        refine cb_iload_n 12 0 h dX12_leave_11 rfl rfl rfl ?_
        refine laM_4 13 h dX12_leave_12 rfl vi_3_4 tk_3 ?_
        refine cb_if_ne 22 16 h dX12_leave_13 rfl rfl (fun q8 => ?_) (fun q8 => ?_)
        · have hf := cb_if q8 hf
          exact cb_lv [1, 0] rfl (j22 _ _ hf)
        · have hf := cb_it q8 hf
          refine cb_iinc 0 (lv' := [(1, .int (4 : Int32)), (0, .ref (a 0))]) 19 h dX12_leave_16 rfl rfl (by decide) (Nat.le_of_ble_eq_true rfl) rfl ?_
          refine cb_goto 2 h dX12_leave_19 rfl ?_
          refine cb_iload_n 3 0 h dX12_leave_2 rfl rfl rfl ?_
          refine cb_iconst 4 h dX12_leave_3 rfl kc_4 ?_
          refine cb_icmp_ge 22 7 h dX12_leave_4 rfl rfl (fun _ => ?_) (fun q => absurd q (by decide))
          exact cb_lv [1, 0] rfl (j22 _ _ hf)
