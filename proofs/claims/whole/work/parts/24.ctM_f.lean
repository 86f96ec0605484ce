set_option maxRecDepth 100000 in
set_option maxHeartbeats 4000000 in
theorem mt_run {l : Launch} {D : va_G} {a : Nat → Nat} {ca : Nat → ClassId} {N : Nat} {σ σ' : cb_S} {v1 : Int32} {r : Int32} (hf : m_run N σ v1 = some (r, σ')) : cb_C l yX12_run cX12_run 5 (some .int) { frames := 8, cells := 0, slots := 0, locals := 185 } D (EM ca) (adM a) [.ref (a 0), .int v1] (WM a ca σ) (some (.int r)) (WM a ca σ') := by
  refine cb_mk [(0, .ref (a 0)), (1, .int v1)] (by decide) (Nat.le_of_ble_eq_true rfl) rfl (fun X h he => ?_) goodM
  have h : cb_ok X cX12_run RX12 (EM ca) 8 185 5 := h
  unfold m_run at hf
  have j126 : ∀ (k18 : cb_S → Option (Int32 × cb_S)) (hk18 : ∀ (σ : cb_S), k18 σ = some (r, σ') → cb_V X (WM a ca σ) 18 [(0, .ref (a 0)), (1, .int v1)] []) (σ : cb_S), m_run_L126 N v1 k18 σ = some (r, σ') → cb_V X (WM a ca σ) 126 [(0, .ref (a 0)), (1, .int v1)] [] := by
    intro k18 hk18 σ hf
    unfold m_run_L126 at hf
    refine cb_goto 18 h dX12_run_126 rfl ?_
    exact hk18 _ hf
  have j82 : ∀ (k18 : cb_S → Option (Int32 × cb_S)) (hk18 : ∀ (σ : cb_S), k18 σ = some (r, σ') → cb_V X (WM a ca σ) 18 [(0, .ref (a 0)), (1, .int v1)] []) (σ : cb_S) (x2 : Int32) (x3 : Int32) (y0 : Int32), m_run_L82 N v1 k18 σ x2 x3 y0 = some (r, σ') → cb_V X (WM a ca σ) 82 [(0, .ref (a 0)), (1, .int v1), (2, .int x2), (3, .int x3)] [.int y0] := by
    intro k18 hk18 σ x2 x3 y0 hf
    unfold m_run_L82 at hf
    refine cb_istore (lv' := [(4, .int y0), (0, .ref (a 0)), (1, .int v1), (2, .int x2), (3, .int x3)]) 84 h dX12_run_82 rfl rfl (Nat.le_of_ble_eq_true rfl) rfl ?_
    refine cb_iload 86 0 h dX12_run_84 rfl rfl ?_
    refine cb_if_ne 102 89 h dX12_run_86 rfl rfl (fun q1 => ?_) (fun q1 => ?_)
    · have hf := cb_if q1 hf
      refine cb_aload_n 103 1 h dX12_run_102 rfl rfl rfl ?_
      refine gf_X12_91 106 h dX12_run_103 rfl ?_
      refine cb_iconst 107 h dX12_run_106 rfl kc_1 ?_
      refine cb_dup2 108 h dX12_run_107 rfl rfl rfl ?_
      refine laM_25 109 h dX12_run_108 rfl vi_1_3 tk_1 ?_
      refine cb_iconst 110 h dX12_run_109 rfl kc_1 ?_
      refine cb_iadd 111 h dX12_run_110 rfl ?_
      obtain ⟨σ2, e3, hf⟩ := cb_let_o hf
      refine saM_25 112 h dX12_run_111 rfl vi_1_3 tk_1 e3 ?_
      refine cb_aload_n 113 1 h dX12_run_112 rfl rfl rfl ?_
      refine cb_iload 115 0 h dX12_run_113 rfl rfl ?_
      obtain ⟨σc4, ec4, hf⟩ := cb_bo_o hf
      refine cl_X12_259 118 h dX12_run_115 rfl (mt_pass ec4) ⟨rfl, rfl, Nat.le_of_ble_eq_true rfl, Nat.le_of_ble_eq_true rfl⟩ rfl (Nat.le_of_ble_eq_true rfl) ?_
      refine cb_iload_n 119 4 h dX12_run_118 rfl rfl rfl ?_
      refine cb_if_ne 126 122 h dX12_run_119 rfl rfl (fun q5 => ?_) (fun q5 => ?_)
      · have hf := cb_if q5 hf
        exact cb_lv [1, 2] rfl (j126 k18 hk18 _ hf)
      · have hf := cb_it q5 hf
        refine cb_aload_n 123 1 h dX12_run_122 rfl rfl rfl ?_
        obtain ⟨σc6, ec6, hf⟩ := cb_bo_o hf
        refine cl_X12_286 126 h dX12_run_123 rfl (mt_acknowledge ec6) ⟨rfl, rfl, Nat.le_of_ble_eq_true rfl, Nat.le_of_ble_eq_true rfl⟩ rfl (Nat.le_of_ble_eq_true rfl) ?_
        exact cb_lv [1, 2] rfl (j126 k18 hk18 _ hf)
    · have hf := cb_it q1 hf
      refine cb_aload_n 90 1 h dX12_run_89 rfl rfl rfl ?_
      refine cb_iconst 91 h dX12_run_90 rfl kc_2 ?_
      obtain ⟨σ7, e8, hf⟩ := cb_let_o hf
      refine pf_X12_167 94 h dX12_run_91 rfl e8 ?_
      refine cb_aload_n 95 1 h dX12_run_94 rfl rfl rfl ?_
      refine cb_iload_n 96 3 h dX12_run_95 rfl rfl rfl ?_
      obtain ⟨σ9, e10, hf⟩ := cb_let_o hf
      refine pf_X12_102 99 h dX12_run_96 rfl e10 ?_
      refine cb_goto 126 h dX12_run_99 rfl ?_
      exact cb_lv [1, 2] rfl (j126 k18 hk18 _ hf)
  have j65 : ∀ (k18 : cb_S → Option (Int32 × cb_S)) (hk18 : ∀ (σ : cb_S), k18 σ = some (r, σ') → cb_V X (WM a ca σ) 18 [(0, .ref (a 0)), (1, .int v1)] []) (σ : cb_S) (x2 : Int32) (y0 : Int32), m_run_L65 N v1 k18 σ x2 y0 = some (r, σ') → cb_V X (WM a ca σ) 65 [(0, .ref (a 0)), (1, .int v1), (2, .int x2)] [.int y0] := by
    intro k18 hk18 σ x2 y0 hf
    unfold m_run_L65 at hf
    refine cb_istore_n (lv' := [(3, .int y0), (0, .ref (a 0)), (1, .int v1), (2, .int x2)]) 66 h dX12_run_65 rfl rfl rfl (Nat.le_of_ble_eq_true rfl) rfl ?_
    refine cb_aload_n 67 1 h dX12_run_66 rfl rfl rfl ?_
    refine gf_X12_167 70 h dX12_run_67 rfl ?_
    refine cb_iconst 71 h dX12_run_70 rfl kc_1 ?_
    refine cb_icmp_ne 78 74 h dX12_run_71 rfl rfl (fun q11 => ?_) (fun q11 => ?_)
    · have hf := cb_if q11 hf
      refine cb_aload_n 79 1 h dX12_run_78 rfl rfl rfl ?_
      obtain ⟨c12, σc12, ec12, hf⟩ := cb_b2_o hf
      refine cl_X12_283 82 h dX12_run_79 rfl (mt_carryOut ec12) ⟨rfl, rfl, Nat.le_of_ble_eq_true rfl, Nat.le_of_ble_eq_true rfl⟩ rfl (Nat.le_of_ble_eq_true rfl) ?_
      exact cb_lv [1, 2, 3, 0] rfl (j82 k18 hk18 _ _ _ _ hf)
    · have hf := cb_it q11 hf
      refine cb_iconst 75 h dX12_run_74 rfl kc_4 ?_
      refine cb_goto 82 h dX12_run_75 rfl ?_
      exact cb_lv [1, 2, 3, 0] rfl (j82 k18 hk18 _ _ _ _ hf)
  have jb18 : ∀ (k18 : cb_S → Option (Int32 × cb_S)) (hk18 : ∀ (σ : cb_S), k18 σ = some (r, σ') → cb_V X (WM a ca σ) 18 [(0, .ref (a 0)), (1, .int v1)] []) (σ : cb_S), m_run_B18 N v1 k18 σ = some (r, σ') → cb_V X (WM a ca σ) 18 [(0, .ref (a 0)), (1, .int v1)] [] := by
    intro k18 hk18 σ hf
    unfold m_run_B18 at hf
    refine cb_aload_n 19 0 h dX12_run_18 rfl rfl rfl ?_
    refine gf_X12_265 22 h dX12_run_19 rfl ?_
    refine cb_iload_n 23 1 h dX12_run_22 rfl rfl rfl ?_
    refine cb_icmp_ge 129 26 h dX12_run_23 rfl rfl (fun q13 => ?_) (fun q13 => ?_)
    · have hf := cb_it q13 hf
      refine cb_aload_n 130 0 h dX12_run_129 rfl rfl rfl ?_
      refine gf_X12_265 133 h dX12_run_130 rfl ?_
      exact cb_retI (Wf := WM a ca) h dX12_run_133 he hf
    · have hf := cb_if q13 hf
      refine cb_aload_n 27 0 h dX12_run_26 rfl rfl rfl ?_
      refine gf_X12_167 30 h dX12_run_27 rfl ?_
      refine cb_iconst 31 h dX12_run_30 rfl kc_2 ?_
      refine cb_icmp_ge 129 34 h dX12_run_31 rfl rfl (fun q14 => ?_) (fun q14 => ?_)
      · have hf := cb_it q14 hf
        refine cb_aload_n 130 0 h dX12_run_129 rfl rfl rfl ?_
        refine gf_X12_265 133 h dX12_run_130 rfl ?_
        exact cb_retI (Wf := WM a ca) h dX12_run_133 he hf
      · have hf := cb_if q14 hf
        refine cb_aload_n 35 0 h dX12_run_34 rfl rfl rfl ?_
        refine gf_X12_102 38 h dX12_run_35 rfl ?_
        obtain ⟨t15, e16, hf⟩ := cb_let_o hf
        refine cb_istore_n (lv' := [(2, .int t15), (0, .ref (a 0)), (1, .int v1)]) 39 h dX12_run_38 rfl rfl e16 (Nat.le_of_ble_eq_true rfl) rfl ?_
        refine cb_aload_n 40 1 h dX12_run_39 rfl rfl rfl ?_
        refine gf_X12_167 43 h dX12_run_40 rfl ?_
        refine cb_if_ne 64 46 h dX12_run_43 rfl rfl (fun q17 => ?_) (fun q17 => ?_)
        · have hf := cb_if q17 hf
          refine cb_iconst 65 h dX12_run_64 rfl kc_0 ?_
          exact cb_lv [1, 2, 0] rfl (j65 k18 hk18 _ _ _ hf)
        · have hf := cb_it q17 hf
          refine cb_aload_n 47 1 h dX12_run_46 rfl rfl rfl ?_
          refine cb_aload_n 48 1 h dX12_run_47 rfl rfl rfl ?_
          refine gf_X12_102 51 h dX12_run_48 rfl ?_
          obtain ⟨c18, ec18, hf⟩ := cb_bo_o hf
          refine cl_X12_94 54 h dX12_run_51 rfl (mt_byteAt ec18) ⟨rfl, rfl, Nat.le_of_ble_eq_true rfl, Nat.le_of_ble_eq_true rfl⟩ rfl (Nat.le_of_ble_eq_true rfl) ?_
          refine cb_sipush 57 h dX12_run_54 rfl ks_251 ?_
          refine cb_cut (cb_V X (WM a ca σ) 65 [(2, .int t15), (0, .ref (a 0)), (1, .int v1)] [.int (if c18 = (251 : Int32) then (1 : Int32) else (0 : Int32))]) (fun jj => ?_) ?_
          · refine cb_icmp_ne 64 60 h dX12_run_57 rfl rfl (fun q19 => ?_) (fun q19 => ?_)
            · refine cb_iconst 65 h dX12_run_64 rfl kc_0 ?_
              exact (cb_tf q19 jj)
            · refine cb_iconst 61 h dX12_run_60 rfl kc_1 ?_
              refine cb_goto 65 h dX12_run_61 rfl ?_
              exact (cb_tt q19 jj)
          exact cb_lv [1, 2, 0] rfl (j65 k18 hk18 _ _ _ hf)
  have j18 : ∀ (n : Nat) (σ : cb_S), m_run_H18 N v1 n σ = some (r, σ') → cb_V X (WM a ca σ) 18 [(0, .ref (a 0)), (1, .int v1)] [] := by
    intro n
    induction n with
    | zero => intro σ hf; cases hf
    | succ n ih => intro σ hf; exact jb18  _ ih _ hf
  refine cb_aload_n 1 0 h dX12_run_0 rfl rfl rfl ?_
  refine cb_iconst 2 h dX12_run_1 rfl kc_0 ?_
  obtain ⟨σ20, e21, hf⟩ := cb_let_o hf
  refine pf_X12_265 5 h dX12_run_2 rfl e21 ?_
  refine cb_iload_n 6 1 h dX12_run_5 rfl rfl rfl ?_
  refine cb_if_lt 16 9 h dX12_run_6 rfl rfl (fun q22 => ?_) (fun q22 => ?_)
  · have hf := cb_it q22 hf
    refine cb_iconst 17 h dX12_run_16 rfl kc_0 ?_
    exact cb_retI (Wf := WM a ca) h dX12_run_17 he hf
  · have hf := cb_if q22 hf
    refine cb_iload_n 10 1 h dX12_run_9 rfl rfl rfl ?_
    refine cb_sipush 13 h dX12_run_10 rfl ks_5000 ?_
    refine cb_icmp_le 18 16 h dX12_run_13 rfl rfl (fun q23 => ?_) (fun q23 => ?_)
    · have hf := cb_it q23 hf
      exact j18 _ _ hf
    · have hf := cb_if q23 hf
      refine cb_iconst 17 h dX12_run_16 rfl kc_0 ?_
      exact cb_retI (Wf := WM a ca) h dX12_run_17 he hf
set_option maxRecDepth 100000 in
set_option maxHeartbeats 4000000 in
theorem mt_state {l : Launch} {D : va_G} {a : Nat → Nat} {ca : Nat → ClassId} {σ : cb_S} {r : Int32} (hf : m_state σ = some r) : cb_C l yX12_state cX12_state 1 (some .int) { frames := 0, cells := 0, slots := 0, locals := 0 } D (EM ca) (adM a) [.ref (a 0)] (WM a ca σ) (some (.int r)) (WM a ca σ) := by
  refine cb_mk [(0, .ref (a 0))] (by decide) (Nat.le_of_ble_eq_true rfl) rfl (fun X h he => ?_) goodM
  have h : cb_ok X cX12_state RX12 (EM ca) 0 0 1 := h
  unfold m_state at hf
  refine cb_aload_n 1 0 h dX12_state_0 rfl rfl rfl ?_
  refine gf_X12_167 4 h dX12_state_1 rfl ?_
  exact cb_retJ h dX12_state_4 he hf
set_option maxRecDepth 100000 in
set_option maxHeartbeats 4000000 in
theorem mt_trigger {l : Launch} {D : va_G} {a : Nat → Nat} {ca : Nat → ClassId} {σ σ' : cb_S} {v1 : Int32} {r : Int32} (hf : m_trigger σ v1 = some (r, σ')) : cb_C l yX12_trigger cX12_trigger 2 (some .boolean) { frames := 2, cells := 0, slots := 0, locals := 42 } D (EM ca) (adM a) [.ref (a 0), .int v1] (WM a ca σ) (some (.int r)) (WM a ca σ') := by
  refine cb_mk [(0, .ref (a 0)), (1, .int v1)] (by decide) (Nat.le_of_ble_eq_true rfl) rfl (fun X h he => ?_) goodM
  have h : cb_ok X cX12_trigger RX12 (EM ca) 2 42 2 := h
  unfold m_trigger at hf
  refine cb_iload_n 1 1 h dX12_trigger_0 rfl rfl rfl ?_
  refine cb_if_lt 9 4 h dX12_trigger_1 rfl rfl (fun q1 => ?_) (fun q1 => ?_)
  · have hf := cb_it q1 hf
    refine cb_iconst 10 h dX12_trigger_9 rfl kc_0 ?_
    exact cb_retZ (Wf := WM a ca) h dX12_trigger_10 he cb_01_0 hf
  · have hf := cb_if q1 hf
    refine cb_iload_n 5 1 h dX12_trigger_4 rfl rfl rfl ?_
    refine cb_iconst 6 h dX12_trigger_5 rfl kc_1 ?_
    refine cb_icmp_le 11 9 h dX12_trigger_6 rfl rfl (fun q2 => ?_) (fun q2 => ?_)
    · have hf := cb_it q2 hf
      refine cb_aload_n 12 0 h dX12_trigger_11 rfl rfl rfl ?_
      refine gf_X12_43 15 h dX12_trigger_12 rfl ?_
      refine cb_iload_n 16 1 h dX12_trigger_15 rfl rfl rfl ?_
      obtain ⟨g3, hf⟩ := cb_gd_o hf
      refine laM_9 17 h dX12_trigger_16 rfl (cb_in_v g3) rfl ?_
      refine cb_if_eq 34 20 h dX12_trigger_17 rfl rfl (fun q4 => ?_) (fun q4 => ?_)
      · have hf := cb_it q4 hf
        refine cb_iconst 35 h dX12_trigger_34 rfl kc_1 ?_
        exact cb_retZ (Wf := WM a ca) h dX12_trigger_35 he cb_01_1 hf
      · have hf := cb_if q4 hf
        refine cb_aload_n 21 0 h dX12_trigger_20 rfl rfl rfl ?_
        refine gf_X12_46 24 h dX12_trigger_21 rfl ?_
        refine cb_iload_n 25 1 h dX12_trigger_24 rfl rfl rfl ?_
        refine laM_10 26 h dX12_trigger_25 rfl (cb_in_v g3) rfl ?_
        refine cb_if_eq 34 29 h dX12_trigger_26 rfl rfl (fun q5 => ?_) (fun q5 => ?_)
        · have hf := cb_it q5 hf
          refine cb_iconst 35 h dX12_trigger_34 rfl kc_1 ?_
          exact cb_retZ (Wf := WM a ca) h dX12_trigger_35 he cb_01_1 hf
        · have hf := cb_if q5 hf
          refine cb_aload_n 30 0 h dX12_trigger_29 rfl rfl rfl ?_
          refine cb_iload_n 31 1 h dX12_trigger_30 rfl rfl rfl ?_
          obtain ⟨σc6, ec6, hf⟩ := cb_bo_o hf
          refine cl_X12_268 34 h dX12_trigger_31 rfl (mt_fall ec6) ⟨rfl, rfl, Nat.le_of_ble_eq_true rfl, Nat.le_of_ble_eq_true rfl⟩ rfl (Nat.le_of_ble_eq_true rfl) ?_
          refine cb_iconst 35 h dX12_trigger_34 rfl kc_1 ?_
          exact cb_retZ (Wf := WM a ca) h dX12_trigger_35 he cb_01_1 hf
    · have hf := cb_if q2 hf
      refine cb_iconst 10 h dX12_trigger_9 rfl kc_0 ?_
      exact cb_retZ (Wf := WM a ca) h dX12_trigger_10 he cb_01_0 hf
set_option maxRecDepth 100000 in
set_option maxHeartbeats 4000000 in
theorem mt_strobe {l : Launch} {D : va_G} {a : Nat → Nat} {ca : Nat → ClassId} {σ σ' : cb_S} {v1 v2 : Int32} {r : Int32} (hf : m_strobe σ v1 v2 = some (r, σ')) : cb_C l yX12_strobe cX12_strobe 3 (some .boolean) { frames := 1, cells := 0, slots := 0, locals := 21 } D (EM ca) (adM a) [.ref (a 0), .int v1, .int v2] (WM a ca σ) (some (.int r)) (WM a ca σ') := by
  refine cb_mk [(0, .ref (a 0)), (1, .int v1), (2, .int v2)] (by decide) (Nat.le_of_ble_eq_true rfl) rfl (fun X h he => ?_) goodM
  have h : cb_ok X cX12_strobe RX12 (EM ca) 1 21 3 := h
  unfold m_strobe at hf
  refine cb_iload_n 1 1 h dX12_strobe_0 rfl rfl rfl ?_
  refine cb_if_lt 9 4 h dX12_strobe_1 rfl rfl (fun q1 => ?_) (fun q1 => ?_)
  · have hf := cb_it q1 hf
    refine cb_iconst 10 h dX12_strobe_9 rfl kc_0 ?_
    exact cb_retZ (Wf := WM a ca) h dX12_strobe_10 he cb_01_0 hf
  · have hf := cb_if q1 hf
    refine cb_iload_n 5 1 h dX12_strobe_4 rfl rfl rfl ?_
    refine cb_iconst 6 h dX12_strobe_5 rfl kc_1 ?_
    refine cb_icmp_le 11 9 h dX12_strobe_6 rfl rfl (fun q2 => ?_) (fun q2 => ?_)
    · have hf := cb_it q2 hf
      refine cb_aload_n 12 0 h dX12_strobe_11 rfl rfl rfl ?_
      refine gf_X12_76 15 h dX12_strobe_12 rfl ?_
      refine cb_iload_n 16 1 h dX12_strobe_15 rfl rfl rfl ?_
      obtain ⟨g3, hf⟩ := cb_gd_o hf
      refine laM_20 17 h dX12_strobe_16 rfl (cb_in_v g3) rfl ?_
      refine cb_if_eq 30 20 h dX12_strobe_17 rfl rfl (fun q4 => ?_) (fun q4 => ?_)
      · have hf := cb_it q4 hf
        refine cb_iconst 31 h dX12_strobe_30 rfl kc_0 ?_
        exact cb_retZ (Wf := WM a ca) h dX12_strobe_31 he cb_01_0 hf
      · have hf := cb_if q4 hf
        refine cb_aload_n 21 0 h dX12_strobe_20 rfl rfl rfl ?_
        refine gf_X12_55 24 h dX12_strobe_21 rfl ?_
        refine cb_iload_n 25 1 h dX12_strobe_24 rfl rfl rfl ?_
        refine laM_13 26 h dX12_strobe_25 rfl (cb_in_v g3) rfl ?_
        refine cb_iconst 27 h dX12_strobe_26 rfl kc_3 ?_
        refine cb_icmp_ne 32 30 h dX12_strobe_27 rfl rfl (fun q5 => ?_) (fun q5 => ?_)
        · have hf := cb_if q5 hf
          refine cb_aload_n 33 0 h dX12_strobe_32 rfl rfl rfl ?_
          refine gf_X12_82 36 h dX12_strobe_33 rfl ?_
          refine cb_iload_n 37 1 h dX12_strobe_36 rfl rfl rfl ?_
          refine cb_aload_n 38 0 h dX12_strobe_37 rfl rfl rfl ?_
          refine gf_X12_55 41 h dX12_strobe_38 rfl ?_
          refine cb_iload_n 42 1 h dX12_strobe_41 rfl rfl rfl ?_
          refine laM_13 43 h dX12_strobe_42 rfl (cb_in_v g3) rfl ?_
          refine cb_iconst 44 h dX12_strobe_43 rfl kc_1 ?_
          refine cb_cut (cb_V X (WM a ca σ) 61 [(0, .ref (a 0)), (1, .int v1), (2, .int v2)] [.int (if (σ 13 v1.toNatClampNeg) = (1 : Int32) then (v2 &&& (255 : Int32)) else (σ 22 v1.toNatClampNeg)), .int v1, .ref (a 22)]) (fun jj => ?_) ?_
          · refine cb_icmp_ne 55 47 h dX12_strobe_44 rfl rfl (fun q6 => ?_) (fun q6 => ?_)
            · refine cb_aload_n 56 0 h dX12_strobe_55 rfl rfl rfl ?_
              refine gf_X12_82 59 h dX12_strobe_56 rfl ?_
              refine cb_iload_n 60 1 h dX12_strobe_59 rfl rfl rfl ?_
              refine laM_22 61 h dX12_strobe_60 rfl (cb_in_v g3) rfl ?_
              exact (cb_tf q6 jj)
            · refine cb_iload_n 48 2 h dX12_strobe_47 rfl rfl rfl ?_
              refine cb_sipush 51 h dX12_strobe_48 rfl ks_255 ?_
              refine cb_iand 52 h dX12_strobe_51 rfl ?_
              refine cb_goto 61 h dX12_strobe_52 rfl ?_
              exact (cb_tt q6 jj)
          obtain ⟨σ7, e8, hf⟩ := cb_let_o hf
          refine saM_22 62 h dX12_strobe_61 rfl (cb_in_v g3) rfl e8 ?_
          refine cb_aload_n 63 0 h dX12_strobe_62 rfl rfl rfl ?_
          refine gf_X12_76 66 h dX12_strobe_63 rfl ?_
          refine cb_iload_n 67 1 h dX12_strobe_66 rfl rfl rfl ?_
          refine cb_iconst 68 h dX12_strobe_67 rfl kc_0 ?_
          obtain ⟨σ9, e10, hf⟩ := cb_let_o hf
          refine saM_20 69 h dX12_strobe_68 rfl (cb_in_v g3) rfl cb_01_0 e10 ?_
          refine cb_aload_n 70 0 h dX12_strobe_69 rfl rfl rfl ?_
          refine cb_iconst 71 h dX12_strobe_70 rfl kc_2 ?_
          refine cb_iload_n 72 1 h dX12_strobe_71 rfl rfl rfl ?_
          refine cb_iadd 73 h dX12_strobe_72 rfl ?_
          obtain ⟨σc11, ec11, hf⟩ := cb_bo_o hf
          refine cl_X12_271 76 h dX12_strobe_73 rfl (mt_request ec11) ⟨rfl, rfl, Nat.le_of_ble_eq_true rfl, Nat.le_of_ble_eq_true rfl⟩ rfl (Nat.le_of_ble_eq_true rfl) ?_
          refine cb_iconst 77 h dX12_strobe_76 rfl kc_1 ?_
          exact cb_retZ (Wf := WM a ca) h dX12_strobe_77 he cb_01_1 hf
        · have hf := cb_it q5 hf
          refine cb_iconst 31 h dX12_strobe_30 rfl kc_0 ?_
          exact cb_retZ (Wf := WM a ca) h dX12_strobe_31 he cb_01_0 hf
    · have hf := cb_if q2 hf
      refine cb_iconst 10 h dX12_strobe_9 rfl kc_0 ?_
      exact cb_retZ (Wf := WM a ca) h dX12_strobe_10 he cb_01_0 hf
set_option maxRecDepth 100000 in
set_option maxHeartbeats 4000000 in
theorem mt_lines {l : Launch} {D : va_G} {a : Nat → Nat} {ca : Nat → ClassId} {σ σ' : cb_S} {v1 v2 : Int32} {r : Int32} (hf : m_lines σ v1 v2 = some (r, σ')) : cb_C l yX12_lines cX12_lines 3 (some .boolean) { frames := 2, cells := 0, slots := 0, locals := 45 } D (EM ca) (adM a) [.ref (a 0), .int v1, .int v2] (WM a ca σ) (some (.int r)) (WM a ca σ') := by
  refine cb_mk [(0, .ref (a 0)), (1, .int v1), (2, .int v2)] (by decide) (Nat.le_of_ble_eq_true rfl) rfl (fun X h he => ?_) goodM
  have h : cb_ok X cX12_lines RX12 (EM ca) 2 45 3 := h
  unfold m_lines at hf
  refine cb_iload_n 1 1 h dX12_lines_0 rfl rfl rfl ?_
  refine cb_if_lt 9 4 h dX12_lines_1 rfl rfl (fun q1 => ?_) (fun q1 => ?_)
  · have hf := cb_it q1 hf
    refine cb_iconst 10 h dX12_lines_9 rfl kc_0 ?_
    exact cb_retZ (Wf := WM a ca) h dX12_lines_10 he cb_01_0 hf
  · have hf := cb_if q1 hf
    refine cb_iload_n 5 1 h dX12_lines_4 rfl rfl rfl ?_
    refine cb_iconst 6 h dX12_lines_5 rfl kc_1 ?_
    refine cb_icmp_le 11 9 h dX12_lines_6 rfl rfl (fun q2 => ?_) (fun q2 => ?_)
    · have hf := cb_it q2 hf
      refine cb_aload_n 12 0 h dX12_lines_11 rfl rfl rfl ?_
      refine gf_X12_85 15 h dX12_lines_12 rfl ?_
      refine cb_iload_n 16 1 h dX12_lines_15 rfl rfl rfl ?_
      refine cb_iload_n 17 2 h dX12_lines_16 rfl rfl rfl ?_
      refine cb_sipush 20 h dX12_lines_17 rfl ks_255 ?_
      refine cb_iand 21 h dX12_lines_20 rfl ?_
      obtain ⟨g3, hf⟩ := cb_gd_o hf
      obtain ⟨σ4, e5, hf⟩ := cb_let_o hf
      refine saM_23 22 h dX12_lines_21 rfl (cb_in_v g3) rfl e5 ?_
      refine cb_aload_n 23 0 h dX12_lines_22 rfl rfl rfl ?_
      refine cb_iload_n 24 1 h dX12_lines_23 rfl rfl rfl ?_
      obtain ⟨σc6, ec6, hf⟩ := cb_bo_o hf
      refine cl_X12_274 27 h dX12_lines_24 rfl (mt_watch ec6) ⟨rfl, rfl, Nat.le_of_ble_eq_true rfl, Nat.le_of_ble_eq_true rfl⟩ rfl (Nat.le_of_ble_eq_true rfl) ?_
      refine cb_iconst 28 h dX12_lines_27 rfl kc_1 ?_
      exact cb_retZ (Wf := WM a ca) h dX12_lines_28 he cb_01_1 hf
    · have hf := cb_if q2 hf
      refine cb_iconst 10 h dX12_lines_9 rfl kc_0 ?_
      exact cb_retZ (Wf := WM a ca) h dX12_lines_10 he cb_01_0 hf
set_option maxRecDepth 100000 in
set_option maxHeartbeats 4000000 in
theorem mt_device {l : Launch} {D : va_G} {a : Nat → Nat} {ca : Nat → ClassId} {σ : cb_S} {v1 v2 : Int32} {r : Int32} (hf : m_device σ v1 v2 = some r) : cb_C l yX12_device cX12_device 3 (some .int) { frames := 1, cells := 0, slots := 0, locals := 21 } D (EM ca) (adM a) [.ref (a 0), .int v1, .int v2] (WM a ca σ) (some (.int r)) (WM a ca σ) := by
  refine cb_mk [(0, .ref (a 0)), (1, .int v1), (2, .int v2)] (by decide) (Nat.le_of_ble_eq_true rfl) rfl (fun X h he => ?_) goodM
  have h : cb_ok X cX12_device RX12 (EM ca) 1 21 3 := h
  unfold m_device at hf
  refine cb_iload_n 1 1 h dX12_device_0 rfl rfl rfl ?_
  refine cb_if_lt 18 4 h dX12_device_1 rfl rfl (fun q1 => ?_) (fun q1 => ?_)
  · have hf := cb_it q1 hf
    refine cb_iconst 19 h dX12_device_18 rfl kc_m1 ?_
    exact cb_retJ h dX12_device_19 he hf
  · have hf := cb_if q1 hf
    refine cb_iload_n 5 1 h dX12_device_4 rfl rfl rfl ?_
    refine cb_iconst 6 h dX12_device_5 rfl kc_3 ?_
    refine cb_icmp_gt 18 9 h dX12_device_6 rfl rfl (fun q2 => ?_) (fun q2 => ?_)
    · have hf := cb_it q2 hf
      refine cb_iconst 19 h dX12_device_18 rfl kc_m1 ?_
      exact cb_retJ h dX12_device_19 he hf
    · have hf := cb_if q2 hf
      refine cb_iload_n 10 2 h dX12_device_9 rfl rfl rfl ?_
      refine cb_if_lt 18 13 h dX12_device_10 rfl rfl (fun q3 => ?_) (fun q3 => ?_)
      · have hf := cb_it q3 hf
        refine cb_iconst 19 h dX12_device_18 rfl kc_m1 ?_
        exact cb_retJ h dX12_device_19 he hf
      · have hf := cb_if q3 hf
        refine cb_iload_n 14 2 h dX12_device_13 rfl rfl rfl ?_
        refine cb_iconst 15 h dX12_device_14 rfl kc_5 ?_
        refine cb_icmp_le 20 18 h dX12_device_15 rfl rfl (fun q4 => ?_) (fun q4 => ?_)
        · have hf := cb_it q4 hf
          refine cb_iload_n 21 2 h dX12_device_20 rfl rfl rfl ?_
          refine cb_if_ne 39 24 h dX12_device_21 rfl rfl (fun q5 => ?_) (fun q5 => ?_)
          · have hf := cb_if q5 hf
            refine cb_iload_n 40 2 h dX12_device_39 rfl rfl rfl ?_
            refine cb_iconst 41 h dX12_device_40 rfl kc_1 ?_
            refine cb_icmp_ne 59 44 h dX12_device_41 rfl rfl (fun q6 => ?_) (fun q6 => ?_)
            · have hf := cb_if q6 hf
              refine cb_iload_n 60 2 h dX12_device_59 rfl rfl rfl ?_
              refine cb_iconst 61 h dX12_device_60 rfl kc_2 ?_
              refine cb_icmp_ne 70 64 h dX12_device_61 rfl rfl (fun q7 => ?_) (fun q7 => ?_)
              · have hf := cb_if q7 hf
                refine cb_iload_n 71 1 h dX12_device_70 rfl rfl rfl ?_
                refine cb_iconst 72 h dX12_device_71 rfl kc_2 ?_
                refine cb_icmp_ge 118 75 h dX12_device_72 rfl rfl (fun q8 => ?_) (fun q8 => ?_)
                · have hf := cb_it q8 hf
                  refine cb_iload_n 119 2 h dX12_device_118 rfl rfl rfl ?_
                  refine cb_iconst 120 h dX12_device_119 rfl kc_3 ?_
                  refine cb_icmp_ne 134 123 h dX12_device_120 rfl rfl (fun q9 => ?_) (fun q9 => ?_)
                  · have hf := cb_if q9 hf
                    refine cb_iload_n 135 2 h dX12_device_134 rfl rfl rfl ?_
                    refine cb_iconst 136 h dX12_device_135 rfl kc_4 ?_
                    refine cb_icmp_ne 158 139 h dX12_device_136 rfl rfl (fun q10 => ?_) (fun q10 => ?_)
                    · have hf := cb_if q10 hf
                      refine cb_aload_n 159 0 h dX12_device_158 rfl rfl rfl ?_
                      refine gf_X12_79 162 h dX12_device_159 rfl ?_
                      refine cb_iload_n 163 1 h dX12_device_162 rfl rfl rfl ?_
                      refine cb_iconst 164 h dX12_device_163 rfl kc_2 ?_
                      refine cb_isub 165 h dX12_device_164 rfl ?_
                      obtain ⟨g11, hf⟩ := cb_gd_o hf
                      refine laM_21 166 h dX12_device_165 rfl (cb_in_v g11) rfl ?_
                      exact cb_retJ h dX12_device_166 he hf
                    · have hf := cb_it q10 hf
                      refine cb_aload_n 140 0 h dX12_device_139 rfl rfl rfl ?_
                      refine gf_X12_76 143 h dX12_device_140 rfl ?_
                      refine cb_iload_n 144 1 h dX12_device_143 rfl rfl rfl ?_
                      refine cb_iconst 145 h dX12_device_144 rfl kc_2 ?_
                      refine cb_isub 146 h dX12_device_145 rfl ?_
                      obtain ⟨g12, hf⟩ := cb_gd_o hf
                      refine laM_20 147 h dX12_device_146 rfl (cb_in_v g12) rfl ?_
                      refine cb_cut (cb_V X (WM a ca σ) 166 [(0, .ref (a 0)), (1, .int v1), (2, .int v2)] [.int (if (σ 20 ((v1 - (2 : Int32))).toNatClampNeg) = 0 then (0 : Int32) else (1 : Int32))]) (fun jj => ?_) ?_
                      · refine cb_if_eq 154 150 h dX12_device_147 rfl rfl (fun q13 => ?_) (fun q13 => ?_)
                        · refine cb_iconst 155 h dX12_device_154 rfl kc_0 ?_
                          refine cb_goto 166 h dX12_device_155 rfl ?_
                          exact (cb_tt q13 jj)
                        · refine cb_iconst 151 h dX12_device_150 rfl kc_1 ?_
                          refine cb_goto 166 h dX12_device_151 rfl ?_
                          exact (cb_tf q13 jj)
                      exact cb_retJ h dX12_device_166 he hf
                  · have hf := cb_it q9 hf
                    refine cb_aload_n 124 0 h dX12_device_123 rfl rfl rfl ?_
                    refine gf_X12_55 127 h dX12_device_124 rfl ?_
                    refine cb_iload_n 128 1 h dX12_device_127 rfl rfl rfl ?_
                    refine cb_iconst 129 h dX12_device_128 rfl kc_2 ?_
                    refine cb_isub 130 h dX12_device_129 rfl ?_
                    obtain ⟨g14, hf⟩ := cb_gd_o hf
                    refine laM_13 131 h dX12_device_130 rfl (cb_in_v g14) rfl ?_
                    refine cb_goto 166 h dX12_device_131 rfl ?_
                    exact cb_retJ h dX12_device_166 he hf
                · have hf := cb_if q8 hf
                  refine cb_iload_n 76 2 h dX12_device_75 rfl rfl rfl ?_
                  refine cb_iconst 77 h dX12_device_76 rfl kc_3 ?_
                  refine cb_icmp_ne 89 80 h dX12_device_77 rfl rfl (fun q15 => ?_) (fun q15 => ?_)
                  · have hf := cb_if q15 hf
                    refine cb_iload_n 90 2 h dX12_device_89 rfl rfl rfl ?_
                    refine cb_iconst 91 h dX12_device_90 rfl kc_4 ?_
                    refine cb_icmp_ne 111 94 h dX12_device_91 rfl rfl (fun q16 => ?_) (fun q16 => ?_)
                    · have hf := cb_if q16 hf
                      refine cb_aload_n 112 0 h dX12_device_111 rfl rfl rfl ?_
                      refine gf_X12_40 115 h dX12_device_112 rfl ?_
                      refine cb_iload_n 116 1 h dX12_device_115 rfl rfl rfl ?_
                      obtain ⟨g17, hf⟩ := cb_gd_o hf
                      refine laM_8 117 h dX12_device_116 rfl (cb_in_v g17) rfl ?_
                      exact cb_retJ h dX12_device_117 he hf
                    · have hf := cb_it q16 hf
                      refine cb_aload_n 95 0 h dX12_device_94 rfl rfl rfl ?_
                      refine gf_X12_43 98 h dX12_device_95 rfl ?_
                      refine cb_iload_n 99 1 h dX12_device_98 rfl rfl rfl ?_
                      obtain ⟨g18, hf⟩ := cb_gd_o hf
                      refine laM_9 100 h dX12_device_99 rfl (cb_in_v g18) rfl ?_
                      refine cb_cut (cb_V X (WM a ca σ) 117 [(0, .ref (a 0)), (1, .int v1), (2, .int v2)] [.int (if (σ 9 v1.toNatClampNeg) = 0 then (0 : Int32) else (1 : Int32))]) (fun jj => ?_) ?_
                      · refine cb_if_eq 107 103 h dX12_device_100 rfl rfl (fun q19 => ?_) (fun q19 => ?_)
                        · refine cb_iconst 108 h dX12_device_107 rfl kc_0 ?_
                          refine cb_goto 117 h dX12_device_108 rfl ?_
                          exact (cb_tt q19 jj)
                        · refine cb_iconst 104 h dX12_device_103 rfl kc_1 ?_
                          refine cb_goto 117 h dX12_device_104 rfl ?_
                          exact (cb_tf q19 jj)
                      exact cb_retJ h dX12_device_117 he hf
                  · have hf := cb_it q15 hf
                    refine cb_aload_n 81 0 h dX12_device_80 rfl rfl rfl ?_
                    refine gf_X12_37 84 h dX12_device_81 rfl ?_
                    refine cb_iload_n 85 1 h dX12_device_84 rfl rfl rfl ?_
                    obtain ⟨g20, hf⟩ := cb_gd_o hf
                    refine laM_7 86 h dX12_device_85 rfl (cb_in_v g20) rfl ?_
                    refine cb_goto 117 h dX12_device_86 rfl ?_
                    exact cb_retJ h dX12_device_117 he hf
              · have hf := cb_it q7 hf
                refine cb_aload_n 65 0 h dX12_device_64 rfl rfl rfl ?_
                refine cb_iload_n 66 1 h dX12_device_65 rfl rfl rfl ?_
                obtain ⟨c21, ec21, hf⟩ := cb_bo_o hf
                refine cl_X12_256 69 h dX12_device_66 rfl (mt_vectorOf ec21) ⟨rfl, rfl, Nat.le_of_ble_eq_true rfl, Nat.le_of_ble_eq_true rfl⟩ rfl (Nat.le_of_ble_eq_true rfl) ?_
                exact cb_retJ h dX12_device_69 he hf
            · have hf := cb_it q6 hf
              refine cb_aload_n 45 0 h dX12_device_44 rfl rfl rfl ?_
              refine gf_X12_28 48 h dX12_device_45 rfl ?_
              refine cb_iload_n 49 1 h dX12_device_48 rfl rfl rfl ?_
              obtain ⟨g22, hf⟩ := cb_gd_o hf
              refine laM_4 50 h dX12_device_49 rfl (cb_in_v g22) rfl ?_
              refine cb_cut (cb_V X (WM a ca σ) 58 [(0, .ref (a 0)), (1, .int v1), (2, .int v2)] [.int (if (σ 4 v1.toNatClampNeg) = 0 then (0 : Int32) else (1 : Int32))]) (fun jj => ?_) ?_
              · refine cb_if_eq 57 53 h dX12_device_50 rfl rfl (fun q23 => ?_) (fun q23 => ?_)
                · refine cb_iconst 58 h dX12_device_57 rfl kc_0 ?_
                  exact (cb_tt q23 jj)
                · refine cb_iconst 54 h dX12_device_53 rfl kc_1 ?_
                  refine cb_goto 58 h dX12_device_54 rfl ?_
                  exact (cb_tf q23 jj)
              exact cb_retJ h dX12_device_58 he hf
          · have hf := cb_it q5 hf
            refine cb_aload_n 25 0 h dX12_device_24 rfl rfl rfl ?_
            refine gf_X12_24 28 h dX12_device_25 rfl ?_
            refine cb_iload_n 29 1 h dX12_device_28 rfl rfl rfl ?_
            obtain ⟨g24, hf⟩ := cb_gd_o hf
            refine laM_3 30 h dX12_device_29 rfl (cb_in_v g24) rfl ?_
            refine cb_cut (cb_V X (WM a ca σ) 38 [(0, .ref (a 0)), (1, .int v1), (2, .int v2)] [.int (if (σ 3 v1.toNatClampNeg) = 0 then (0 : Int32) else (1 : Int32))]) (fun jj => ?_) ?_
            · refine cb_if_eq 37 33 h dX12_device_30 rfl rfl (fun q25 => ?_) (fun q25 => ?_)
              · refine cb_iconst 38 h dX12_device_37 rfl kc_0 ?_
                exact (cb_tt q25 jj)
              · refine cb_iconst 34 h dX12_device_33 rfl kc_1 ?_
                refine cb_goto 38 h dX12_device_34 rfl ?_
                exact (cb_tf q25 jj)
            exact cb_retJ h dX12_device_38 he hf
        · have hf := cb_if q4 hf
          refine cb_iconst 19 h dX12_device_18 rfl kc_m1 ?_
          exact cb_retJ h dX12_device_19 he hf
set_option maxRecDepth 100000 in
set_option maxHeartbeats 4000000 in
theorem mt_passed {l : Launch} {D : va_G} {a : Nat → Nat} {ca : Nat → ClassId} {σ : cb_S} {v1 : Int32} {r : Int32} (hf : m_passed σ v1 = some r) : cb_C l yX12_passed cX12_passed 2 (some .int) { frames := 0, cells := 0, slots := 0, locals := 0 } D (EM ca) (adM a) [.ref (a 0), .int v1] (WM a ca σ) (some (.int r)) (WM a ca σ) := by
  refine cb_mk [(0, .ref (a 0)), (1, .int v1)] (by decide) (Nat.le_of_ble_eq_true rfl) rfl (fun X h he => ?_) goodM
  have h : cb_ok X cX12_passed RX12 (EM ca) 0 0 2 := h
  unfold m_passed at hf
  refine cb_iload_n 1 1 h dX12_passed_0 rfl rfl rfl ?_
  refine cb_if_lt 9 4 h dX12_passed_1 rfl rfl (fun q1 => ?_) (fun q1 => ?_)
  · have hf := cb_it q1 hf
    refine cb_iconst 10 h dX12_passed_9 rfl kc_m1 ?_
    refine cb_goto 19 h dX12_passed_10 rfl ?_
    exact cb_retJ h dX12_passed_19 he hf
  · have hf := cb_if q1 hf
    refine cb_iload_n 5 1 h dX12_passed_4 rfl rfl rfl ?_
    refine cb_iconst 6 h dX12_passed_5 rfl kc_2 ?_
    refine cb_icmp_le 13 9 h dX12_passed_6 rfl rfl (fun q2 => ?_) (fun q2 => ?_)
    · have hf := cb_it q2 hf
      refine cb_aload_n 14 0 h dX12_passed_13 rfl rfl rfl ?_
      refine gf_X12_91 17 h dX12_passed_14 rfl ?_
      refine cb_iload_n 18 1 h dX12_passed_17 rfl rfl rfl ?_
      obtain ⟨g3, hf⟩ := cb_gd_o hf
      refine laM_25 19 h dX12_passed_18 rfl (cb_in_v g3) rfl ?_
      exact cb_retJ h dX12_passed_19 he hf
    · have hf := cb_if q2 hf
      refine cb_iconst 10 h dX12_passed_9 rfl kc_m1 ?_
      refine cb_goto 19 h dX12_passed_10 rfl ?_
      exact cb_retJ h dX12_passed_19 he hf
