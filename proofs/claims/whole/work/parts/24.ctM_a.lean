set_option maxRecDepth 100000 in
set_option maxHeartbeats 4000000 in
theorem mt_poke {l : Launch} {D : va_G} {a : Nat → Nat} {ca : Nat → ClassId} {σ σ' : cb_S} {v1 v2 : Int32} {r : Int32} (hf : m_poke σ v1 v2 = some (r, σ')) : cb_C l yX12_poke cX12_poke 3 (some .boolean) { frames := 0, cells := 0, slots := 0, locals := 0 } D (EM ca) (adM a) [.ref (a 0), .int v1, .int v2] (WM a ca σ) (some (.int r)) (WM a ca σ') := by
  refine cb_mk [(0, .ref (a 0)), (1, .int v1), (2, .int v2)] (by decide) (Nat.le_of_ble_eq_true rfl) rfl (fun X h he => ?_) goodM
  have h : cb_ok X cX12_poke RX12 (EM ca) 0 0 3 := h
  unfold m_poke at hf
  refine cb_iload_n 1 1 h dX12_poke_0 rfl rfl rfl ?_
  refine cb_if_lt 11 4 h dX12_poke_1 rfl rfl (fun q1 => ?_) (fun q1 => ?_)
  · have hf := cb_it q1 hf
    refine cb_iconst 12 h dX12_poke_11 rfl kc_0 ?_
    exact cb_retZ (Wf := WM a ca) h dX12_poke_12 he cb_01_0 hf
  · have hf := cb_if q1 hf
    refine cb_iload_n 5 1 h dX12_poke_4 rfl rfl rfl ?_
    refine cb_sipush 8 h dX12_poke_5 rfl ks_1023 ?_
    refine cb_icmp_le 13 11 h dX12_poke_8 rfl rfl (fun q2 => ?_) (fun q2 => ?_)
    · have hf := cb_it q2 hf
      refine cb_aload_n 14 0 h dX12_poke_13 rfl rfl rfl ?_
      refine gf_X12_7 17 h dX12_poke_14 rfl ?_
      refine cb_iload_n 18 1 h dX12_poke_17 rfl rfl rfl ?_
      refine cb_iload_n 19 2 h dX12_poke_18 rfl rfl rfl ?_
      refine cb_sipush 22 h dX12_poke_19 rfl ks_255 ?_
      refine cb_iand 23 h dX12_poke_22 rfl ?_
      obtain ⟨g3, hf⟩ := cb_gd_o hf
      obtain ⟨σ4, e5, hf⟩ := cb_let_o hf
      refine saM_1 24 h dX12_poke_23 rfl (cb_in_v g3) rfl e5 ?_
      refine cb_iconst 25 h dX12_poke_24 rfl kc_1 ?_
      exact cb_retZ (Wf := WM a ca) h dX12_poke_25 he cb_01_1 hf
    · have hf := cb_if q2 hf
      refine cb_iconst 12 h dX12_poke_11 rfl kc_0 ?_
      exact cb_retZ (Wf := WM a ca) h dX12_poke_12 he cb_01_0 hf
set_option maxRecDepth 100000 in
set_option maxHeartbeats 4000000 in
theorem mt_poke4 {l : Launch} {D : va_G} {a : Nat → Nat} {ca : Nat → ClassId} {σ σ' : cb_S} {v1 v2 : Int32} {r : Int32} (hf : m_poke4 σ v1 v2 = some (r, σ')) : cb_C l yX12_poke4 cX12_poke4 4 (some .boolean) { frames := 0, cells := 0, slots := 0, locals := 0 } D (EM ca) (adM a) [.ref (a 0), .int v1, .int v2] (WM a ca σ) (some (.int r)) (WM a ca σ') := by
  refine cb_mk [(0, .ref (a 0)), (1, .int v1), (2, .int v2)] (by decide) (Nat.le_of_ble_eq_true rfl) rfl (fun X h he => ?_) goodM
  have h : cb_ok X cX12_poke4 RX12 (EM ca) 0 0 4 := h
  unfold m_poke4 at hf
  refine cb_iload_n 1 1 h dX12_poke4_0 rfl rfl rfl ?_
  refine cb_if_lt 11 4 h dX12_poke4_1 rfl rfl (fun q1 => ?_) (fun q1 => ?_)
  · have hf := cb_it q1 hf
    refine cb_iconst 12 h dX12_poke4_11 rfl kc_0 ?_
    exact cb_retZ (Wf := WM a ca) h dX12_poke4_12 he cb_01_0 hf
  · have hf := cb_if q1 hf
    refine cb_iload_n 5 1 h dX12_poke4_4 rfl rfl rfl ?_
    refine cb_sipush 8 h dX12_poke4_5 rfl ks_1020 ?_
    refine cb_icmp_le 13 11 h dX12_poke4_8 rfl rfl (fun q2 => ?_) (fun q2 => ?_)
    · have hf := cb_it q2 hf
      refine cb_iconst 14 h dX12_poke4_13 rfl kc_0 ?_
      refine cb_istore_n (lv' := [(3, .int (0 : Int32)), (0, .ref (a 0)), (1, .int v1), (2, .int v2)]) 15 h dX12_poke4_14 rfl rfl rfl (Nat.le_of_ble_eq_true rfl) rfl ?_
      refine cb_iload_n 16 0 h dX12_poke4_15 rfl rfl rfl ?_
      refine cb_iconst 17 h dX12_poke4_16 rfl kc_4 ?_
      refine cb_icmp_ge 47 20 h dX12_poke4_17 rfl rfl (fun q => absurd q (by decide)) (fun _ => ?_)
      refine cb_aload_n 21 1 h dX12_poke4_20 rfl rfl rfl ?_
      refine gf_X12_7 24 h dX12_poke4_21 rfl ?_
      refine cb_iload_n 25 2 h dX12_poke4_24 rfl rfl rfl ?_
      refine cb_iload_n 26 0 h dX12_poke4_25 rfl rfl rfl ?_
      refine cb_iadd 27 h dX12_poke4_26 rfl ?_
      refine cb_iload_n 28 3 h dX12_poke4_27 rfl rfl rfl ?_
      refine cb_bipush 30 h dX12_poke4_28 rfl kb_24 ?_
      refine cb_bipush 32 h dX12_poke4_30 rfl kb_8 ?_
      refine cb_iload_n 33 0 h dX12_poke4_32 rfl rfl rfl ?_
      refine cb_imul 34 h dX12_poke4_33 rfl ?_
      refine cb_isub 35 h dX12_poke4_34 rfl ?_
      refine cb_ishr 36 h dX12_poke4_35 rfl ?_
      refine cb_sipush 39 h dX12_poke4_36 rfl ks_255 ?_
      refine cb_iand 40 h dX12_poke4_39 rfl ?_
      obtain ⟨g3, hf⟩ := cb_gd_o hf
      obtain ⟨σ4, e5, hf⟩ := cb_let_o hf
      refine saM_1 41 h dX12_poke4_40 rfl (cb_in_v g3) rfl e5 ?_
      refine cb_iinc 0 (lv' := [(3, .int (1 : Int32)), (0, .ref (a 0)), (1, .int v1), (2, .int v2)]) 44 h dX12_poke4_41 rfl rfl (by decide) (Nat.le_of_ble_eq_true rfl) rfl ?_
      refine cb_goto 15 h dX12_poke4_44 rfl ?_
      refine cb_iload_n 16 0 h dX12_poke4_15 rfl rfl rfl ?_
      refine cb_iconst 17 h dX12_poke4_16 rfl kc_4 ?_
      refine cb_icmp_ge 47 20 h dX12_poke4_17 rfl rfl (fun q => absurd q (by decide)) (fun _ => ?_)
      refine cb_aload_n 21 1 h dX12_poke4_20 rfl rfl rfl ?_
      refine gf_X12_7 24 h dX12_poke4_21 rfl ?_
      refine cb_iload_n 25 2 h dX12_poke4_24 rfl rfl rfl ?_
      refine cb_iload_n 26 0 h dX12_poke4_25 rfl rfl rfl ?_
      refine cb_iadd 27 h dX12_poke4_26 rfl ?_
      refine cb_iload_n 28 3 h dX12_poke4_27 rfl rfl rfl ?_
      refine cb_bipush 30 h dX12_poke4_28 rfl kb_24 ?_
      refine cb_bipush 32 h dX12_poke4_30 rfl kb_8 ?_
      refine cb_iload_n 33 0 h dX12_poke4_32 rfl rfl rfl ?_
      refine cb_imul 34 h dX12_poke4_33 rfl ?_
      refine cb_isub 35 h dX12_poke4_34 rfl ?_
      refine cb_ishr 36 h dX12_poke4_35 rfl ?_
      refine cb_sipush 39 h dX12_poke4_36 rfl ks_255 ?_
      refine cb_iand 40 h dX12_poke4_39 rfl ?_
      obtain ⟨g6, hf⟩ := cb_gd_o hf
      obtain ⟨σ7, e8, hf⟩ := cb_let_o hf
      refine saM_1 41 h dX12_poke4_40 rfl (cb_in_v g6) rfl e8 ?_
      refine cb_iinc 0 (lv' := [(3, .int (2 : Int32)), (0, .ref (a 0)), (1, .int v1), (2, .int v2)]) 44 h dX12_poke4_41 rfl rfl (by decide) (Nat.le_of_ble_eq_true rfl) rfl ?_
      refine cb_goto 15 h dX12_poke4_44 rfl ?_
      refine cb_iload_n 16 0 h dX12_poke4_15 rfl rfl rfl ?_
      refine cb_iconst 17 h dX12_poke4_16 rfl kc_4 ?_
      refine cb_icmp_ge 47 20 h dX12_poke4_17 rfl rfl (fun q => absurd q (by decide)) (fun _ => ?_)
      refine cb_aload_n 21 1 h dX12_poke4_20 rfl rfl rfl ?_
      refine gf_X12_7 24 h dX12_poke4_21 rfl ?_
      refine cb_iload_n 25 2 h dX12_poke4_24 rfl rfl rfl ?_
      refine cb_iload_n 26 0 h dX12_poke4_25 rfl rfl rfl ?_
      refine cb_iadd 27 h dX12_poke4_26 rfl ?_
      refine cb_iload_n 28 3 h dX12_poke4_27 rfl rfl rfl ?_
      refine cb_bipush 30 h dX12_poke4_28 rfl kb_24 ?_
      refine cb_bipush 32 h dX12_poke4_30 rfl kb_8 ?_
      refine cb_iload_n 33 0 h dX12_poke4_32 rfl rfl rfl ?_
      refine cb_imul 34 h dX12_poke4_33 rfl ?_
      refine cb_isub 35 h dX12_poke4_34 rfl ?_
      refine cb_ishr 36 h dX12_poke4_35 rfl ?_
      refine cb_sipush 39 h dX12_poke4_36 rfl ks_255 ?_
      refine cb_iand 40 h dX12_poke4_39 rfl ?_
      obtain ⟨g9, hf⟩ := cb_gd_o hf
      obtain ⟨σ10, e11, hf⟩ := cb_let_o hf
      refine saM_1 41 h dX12_poke4_40 rfl (cb_in_v g9) rfl e11 ?_
      refine cb_iinc 0 (lv' := [(3, .int (3 : Int32)), (0, .ref (a 0)), (1, .int v1), (2, .int v2)]) 44 h dX12_poke4_41 rfl rfl (by decide) (Nat.le_of_ble_eq_true rfl) rfl ?_
      refine cb_goto 15 h dX12_poke4_44 rfl ?_
      refine cb_iload_n 16 0 h dX12_poke4_15 rfl rfl rfl ?_
      refine cb_iconst 17 h dX12_poke4_16 rfl kc_4 ?_
      refine cb_icmp_ge 47 20 h dX12_poke4_17 rfl rfl (fun q => absurd q (by decide)) (fun _ => ?_)
      refine cb_aload_n 21 1 h dX12_poke4_20 rfl rfl rfl ?_
      refine gf_X12_7 24 h dX12_poke4_21 rfl ?_
      refine cb_iload_n 25 2 h dX12_poke4_24 rfl rfl rfl ?_
      refine cb_iload_n 26 0 h dX12_poke4_25 rfl rfl rfl ?_
      refine cb_iadd 27 h dX12_poke4_26 rfl ?_
      refine cb_iload_n 28 3 h dX12_poke4_27 rfl rfl rfl ?_
      refine cb_bipush 30 h dX12_poke4_28 rfl kb_24 ?_
      refine cb_bipush 32 h dX12_poke4_30 rfl kb_8 ?_
      refine cb_iload_n 33 0 h dX12_poke4_32 rfl rfl rfl ?_
      refine cb_imul 34 h dX12_poke4_33 rfl ?_
      refine cb_isub 35 h dX12_poke4_34 rfl ?_
      refine cb_ishr 36 h dX12_poke4_35 rfl ?_
      refine cb_sipush 39 h dX12_poke4_36 rfl ks_255 ?_
      refine cb_iand 40 h dX12_poke4_39 rfl ?_
      obtain ⟨g12, hf⟩ := cb_gd_o hf
      obtain ⟨σ13, e14, hf⟩ := cb_let_o hf
      refine saM_1 41 h dX12_poke4_40 rfl (cb_in_v g12) rfl e14 ?_
      refine cb_iinc 0 (lv' := [(3, .int (4 : Int32)), (0, .ref (a 0)), (1, .int v1), (2, .int v2)]) 44 h dX12_poke4_41 rfl rfl (by decide) (Nat.le_of_ble_eq_true rfl) rfl ?_
      refine cb_goto 15 h dX12_poke4_44 rfl ?_
      refine cb_iload_n 16 0 h dX12_poke4_15 rfl rfl rfl ?_
      refine cb_iconst 17 h dX12_poke4_16 rfl kc_4 ?_
      refine cb_icmp_ge 47 20 h dX12_poke4_17 rfl rfl (fun _ => ?_) (fun q => absurd q (by decide))
      refine cb_iconst 48 h dX12_poke4_47 rfl kc_1 ?_
      exact cb_retZ (Wf := WM a ca) h dX12_poke4_48 he cb_01_1 hf
    · have hf := cb_if q2 hf
      refine cb_iconst 12 h dX12_poke4_11 rfl kc_0 ?_
      exact cb_retZ (Wf := WM a ca) h dX12_poke4_12 he cb_01_0 hf
set_option maxRecDepth 100000 in
set_option maxHeartbeats 4000000 in
theorem mt_peek {l : Launch} {D : va_G} {a : Nat → Nat} {ca : Nat → ClassId} {σ : cb_S} {v1 : Int32} {r : Int32} (hf : m_peek σ v1 = some r) : cb_C l yX12_peek cX12_peek 2 (some .int) { frames := 0, cells := 0, slots := 0, locals := 0 } D (EM ca) (adM a) [.ref (a 0), .int v1] (WM a ca σ) (some (.int r)) (WM a ca σ) := by
  refine cb_mk [(0, .ref (a 0)), (1, .int v1)] (by decide) (Nat.le_of_ble_eq_true rfl) rfl (fun X h he => ?_) goodM
  have h : cb_ok X cX12_peek RX12 (EM ca) 0 0 2 := h
  unfold m_peek at hf
  refine cb_iload_n 1 1 h dX12_peek_0 rfl rfl rfl ?_
  refine cb_if_lt 11 4 h dX12_peek_1 rfl rfl (fun q1 => ?_) (fun q1 => ?_)
  · have hf := cb_it q1 hf
    refine cb_iconst 12 h dX12_peek_11 rfl kc_m1 ?_
    refine cb_goto 21 h dX12_peek_12 rfl ?_
    exact cb_retJ h dX12_peek_21 he hf
  · have hf := cb_if q1 hf
    refine cb_iload_n 5 1 h dX12_peek_4 rfl rfl rfl ?_
    refine cb_sipush 8 h dX12_peek_5 rfl ks_1023 ?_
    refine cb_icmp_le 15 11 h dX12_peek_8 rfl rfl (fun q2 => ?_) (fun q2 => ?_)
    · have hf := cb_it q2 hf
      refine cb_aload_n 16 0 h dX12_peek_15 rfl rfl rfl ?_
      refine gf_X12_7 19 h dX12_peek_16 rfl ?_
      refine cb_iload_n 20 1 h dX12_peek_19 rfl rfl rfl ?_
      obtain ⟨g3, hf⟩ := cb_gd_o hf
      refine laM_1 21 h dX12_peek_20 rfl (cb_in_v g3) rfl ?_
      exact cb_retJ h dX12_peek_21 he hf
    · have hf := cb_if q2 hf
      refine cb_iconst 12 h dX12_peek_11 rfl kc_m1 ?_
      refine cb_goto 21 h dX12_peek_12 rfl ?_
      exact cb_retJ h dX12_peek_21 he hf
set_option maxRecDepth 100000 in
set_option maxHeartbeats 4000000 in
theorem mt_af {l : Launch} {D : va_G} {a : Nat → Nat} {ca : Nat → ClassId} {σ : cb_S} {v1 : Int32} {r : Int32} (hf : m_af σ v1 = some r) : cb_C l yX12_af cX12_af 2 (some .int) { frames := 0, cells := 0, slots := 0, locals := 0 } D (EM ca) (adM a) [.ref (a 0), .int v1] (WM a ca σ) (some (.int r)) (WM a ca σ) := by
  refine cb_mk [(0, .ref (a 0)), (1, .int v1)] (by decide) (Nat.le_of_ble_eq_true rfl) rfl (fun X h he => ?_) goodM
  have h : cb_ok X cX12_af RX12 (EM ca) 0 0 2 := h
  unfold m_af at hf
  refine cb_sipush 3 h dX12_af_0 rfl ks_256 ?_
  refine cb_aload_n 4 0 h dX12_af_3 rfl rfl rfl ?_
  refine gf_X12_13 7 h dX12_af_4 rfl ?_
  refine cb_iload_n 8 1 h dX12_af_7 rfl rfl rfl ?_
  refine cb_bipush 10 h dX12_af_8 rfl kb_7 ?_
  refine cb_iadd 11 h dX12_af_10 rfl ?_
  obtain ⟨g1, hf⟩ := cb_gd_o hf
  refine laM_2 12 h dX12_af_11 rfl (cb_in_v g1) rfl ?_
  refine cb_imul 13 h dX12_af_12 rfl ?_
  refine cb_aload_n 14 0 h dX12_af_13 rfl rfl rfl ?_
  refine gf_X12_13 17 h dX12_af_14 rfl ?_
  refine cb_iload_n 18 1 h dX12_af_17 rfl rfl rfl ?_
  refine cb_bipush 20 h dX12_af_18 rfl kb_6 ?_
  refine cb_iadd 21 h dX12_af_20 rfl ?_
  obtain ⟨g2, hf⟩ := cb_gd_o hf
  refine laM_2 22 h dX12_af_21 rfl (cb_in_v g2) rfl ?_
  refine cb_iadd 23 h dX12_af_22 rfl ?_
  exact cb_retJ h dX12_af_23 he hf
set_option maxRecDepth 100000 in
set_option maxHeartbeats 4000000 in
theorem mt_pair {l : Launch} {D : va_G} {a : Nat → Nat} {ca : Nat → ClassId} {σ : cb_S} {v1 : Int32} {r : Int32} (hf : m_pair σ v1 = some r) : cb_C l yX12_pair cX12_pair 2 (some .int) { frames := 0, cells := 0, slots := 0, locals := 0 } D (EM ca) (adM a) [.ref (a 0), .int v1] (WM a ca σ) (some (.int r)) (WM a ca σ) := by
  refine cb_mk [(0, .ref (a 0)), (1, .int v1)] (by decide) (Nat.le_of_ble_eq_true rfl) rfl (fun X h he => ?_) goodM
  have h : cb_ok X cX12_pair RX12 (EM ca) 0 0 2 := h
  unfold m_pair at hf
  refine cb_sipush 3 h dX12_pair_0 rfl ks_256 ?_
  refine cb_aload_n 4 0 h dX12_pair_3 rfl rfl rfl ?_
  refine gf_X12_13 7 h dX12_pair_4 rfl ?_
  refine cb_iload_n 8 1 h dX12_pair_7 rfl rfl rfl ?_
  obtain ⟨g1, hf⟩ := cb_gd_o hf
  refine laM_2 9 h dX12_pair_8 rfl (cb_in_v g1) rfl ?_
  refine cb_imul 10 h dX12_pair_9 rfl ?_
  refine cb_aload_n 11 0 h dX12_pair_10 rfl rfl rfl ?_
  refine gf_X12_13 14 h dX12_pair_11 rfl ?_
  refine cb_iload_n 15 1 h dX12_pair_14 rfl rfl rfl ?_
  refine cb_iconst 16 h dX12_pair_15 rfl kc_1 ?_
  refine cb_iadd 17 h dX12_pair_16 rfl ?_
  obtain ⟨g2, hf⟩ := cb_gd_o hf
  refine laM_2 18 h dX12_pair_17 rfl (cb_in_v g2) rfl ?_
  refine cb_iadd 19 h dX12_pair_18 rfl ?_
  exact cb_retJ h dX12_pair_19 he hf
set_option maxRecDepth 100000 in
set_option maxHeartbeats 4000000 in
theorem mt_register {l : Launch} {D : va_G} {a : Nat → Nat} {ca : Nat → ClassId} {σ : cb_S} {v1 : Int32} {r : Int32} (hf : m_register σ v1 = some r) : cb_C l yX12_register cX12_register 2 (some .int) { frames := 1, cells := 0, slots := 0, locals := 21 } D (EM ca) (adM a) [.ref (a 0), .int v1] (WM a ca σ) (some (.int r)) (WM a ca σ) := by
  refine cb_mk [(0, .ref (a 0)), (1, .int v1)] (by decide) (Nat.le_of_ble_eq_true rfl) rfl (fun X h he => ?_) goodM
  have h : cb_ok X cX12_register RX12 (EM ca) 1 21 2 := h
  unfold m_register at hf
  refine cb_iload_n 1 1 h dX12_register_0 rfl rfl rfl ?_
  refine cb_if_lt 10 4 h dX12_register_1 rfl rfl (fun q1 => ?_) (fun q1 => ?_)
  · have hf := cb_it q1 hf
    refine cb_iconst 11 h dX12_register_10 rfl kc_m1 ?_
    exact cb_retJ h dX12_register_11 he hf
  · have hf := cb_if q1 hf
    refine cb_iload_n 5 1 h dX12_register_4 rfl rfl rfl ?_
    refine cb_bipush 7 h dX12_register_5 rfl kb_12 ?_
    refine cb_icmp_le 12 10 h dX12_register_7 rfl rfl (fun q2 => ?_) (fun q2 => ?_)
    · have hf := cb_it q2 hf
      refine cb_iload_n 13 1 h dX12_register_12 rfl rfl rfl ?_
      refine cb_bipush 15 h dX12_register_13 rfl kb_8 ?_
      refine cb_icmp_ge 58 18 h dX12_register_15 rfl rfl (fun q3 => ?_) (fun q3 => ?_)
      · have hf := cb_it q3 hf
        refine cb_iload_n 59 1 h dX12_register_58 rfl rfl rfl ?_
        by_cases q4 : v1 = 8
        · have hf := cb_it q4 hf
          refine cb_tabI 88 h dX12_register_59 q4 (by decide) (by decide) rfl rfl ?_
          refine cb_aload_n 89 0 h dX12_register_88 rfl rfl rfl ?_
          refine gf_X12_17 92 h dX12_register_89 rfl ?_
          exact cb_retJ h dX12_register_92 he hf
        have hf := cb_if q4 hf
        by_cases q5 : v1 = 9
        · have hf := cb_it q5 hf
          refine cb_tabI 93 h dX12_register_59 q5 (by decide) (by decide) rfl rfl ?_
          refine cb_aload_n 94 0 h dX12_register_93 rfl rfl rfl ?_
          refine gf_X12_102 97 h dX12_register_94 rfl ?_
          exact cb_retJ h dX12_register_97 he hf
        have hf := cb_if q5 hf
        by_cases q6 : v1 = 10
        · have hf := cb_it q6 hf
          refine cb_tabI 98 h dX12_register_59 q6 (by decide) (by decide) rfl rfl ?_
          refine cb_aload_n 99 0 h dX12_register_98 rfl rfl rfl ?_
          refine gf_X12_250 102 h dX12_register_99 rfl ?_
          exact cb_retJ h dX12_register_102 he hf
        have hf := cb_if q6 hf
        by_cases q7 : v1 = 11
        · have hf := cb_it q7 hf
          refine cb_tabI 103 h dX12_register_59 q7 (by decide) (by decide) rfl rfl ?_
          refine cb_aload_n 104 0 h dX12_register_103 rfl rfl rfl ?_
          refine gf_X12_243 107 h dX12_register_104 rfl ?_
          refine cb_cut (cb_V X (WM a ca σ) 115 [(0, .ref (a 0)), (1, .int v1)] [.int (if (σ 0 5) = 0 then (0 : Int32) else (1 : Int32))]) (fun jj => ?_) ?_
          · refine cb_if_eq 114 110 h dX12_register_107 rfl rfl (fun q8 => ?_) (fun q8 => ?_)
            · refine cb_iconst 115 h dX12_register_114 rfl kc_0 ?_
              exact (cb_tt q8 jj)
            · refine cb_iconst 111 h dX12_register_110 rfl kc_1 ?_
              refine cb_goto 115 h dX12_register_111 rfl ?_
              exact (cb_tf q8 jj)
          exact cb_retJ h dX12_register_115 he hf
        have hf := cb_if q7 hf
        refine cb_tabO 116 h dX12_register_59 (by have t8 := lv_neT (a := 8) q4 (by decide); have t9 := lv_neT (a := 9) q5 (by decide); have t10 := lv_neT (a := 10) q6 (by decide); have t11 := lv_neT (a := 11) q7 (by decide); omega) rfl ?_
        refine cb_aload_n 117 0 h dX12_register_116 rfl rfl rfl ?_
        refine gf_X12_21 120 h dX12_register_117 rfl ?_
        exact cb_retJ h dX12_register_120 he hf
      · have hf := cb_if q3 hf
        refine cb_iload_n 19 1 h dX12_register_18 rfl rfl rfl ?_
        refine cb_iconst 20 h dX12_register_19 rfl kc_3 ?_
        refine cb_iand 21 h dX12_register_20 rfl ?_
        refine cb_if_ne 34 24 h dX12_register_21 rfl rfl (fun q9 => ?_) (fun q9 => ?_)
        · have hf := cb_if q9 hf
          refine cb_aload_n 35 0 h dX12_register_34 rfl rfl rfl ?_
          refine cb_iload_n 36 1 h dX12_register_35 rfl rfl rfl ?_
          refine cb_iconst 37 h dX12_register_36 rfl kc_4 ?_
          refine cb_cut (cb_V X (WM a ca σ) 46 [(0, .ref (a 0)), (1, .int v1)] [.int (if (4 : Int32) ≤ v1 then (8 : Int32) else (0 : Int32)), .ref (a 0)]) (fun jj => ?_) ?_
          · refine cb_icmp_ge 44 40 h dX12_register_37 rfl rfl (fun q10 => ?_) (fun q10 => ?_)
            · refine cb_bipush 46 h dX12_register_44 rfl kb_8 ?_
              exact (cb_tt q10 jj)
            · refine cb_iconst 41 h dX12_register_40 rfl kc_0 ?_
              refine cb_goto 46 h dX12_register_41 rfl ?_
              exact (cb_tf q10 jj)
          refine cb_iconst 47 h dX12_register_46 rfl kc_2 ?_
          refine cb_iload_n 48 1 h dX12_register_47 rfl rfl rfl ?_
          refine cb_iconst 49 h dX12_register_48 rfl kc_3 ?_
          refine cb_iand 50 h dX12_register_49 rfl ?_
          refine cb_iconst 51 h dX12_register_50 rfl kc_1 ?_
          refine cb_isub 52 h dX12_register_51 rfl ?_
          refine cb_imul 53 h dX12_register_52 rfl ?_
          refine cb_iadd 54 h dX12_register_53 rfl ?_
          obtain ⟨c11, ec11, hf⟩ := cb_bo_o hf
          refine cl_X12_109 57 h dX12_register_54 rfl (mt_pair ec11) ⟨rfl, rfl, Nat.le_of_ble_eq_true rfl, Nat.le_of_ble_eq_true rfl⟩ rfl (Nat.le_of_ble_eq_true rfl) ?_
          exact cb_retJ h dX12_register_57 he hf
        · have hf := cb_it q9 hf
          refine cb_aload_n 25 0 h dX12_register_24 rfl rfl rfl ?_
          refine cb_iconst 26 h dX12_register_25 rfl kc_2 ?_
          refine cb_iload_n 27 1 h dX12_register_26 rfl rfl rfl ?_
          refine cb_imul 28 h dX12_register_27 rfl ?_
          obtain ⟨c12, ec12, hf⟩ := cb_bo_o hf
          refine cl_X12_204 31 h dX12_register_28 rfl (mt_af ec12) ⟨rfl, rfl, Nat.le_of_ble_eq_true rfl, Nat.le_of_ble_eq_true rfl⟩ rfl (Nat.le_of_ble_eq_true rfl) ?_
          refine cb_goto 57 h dX12_register_31 rfl ?_
          exact cb_retJ h dX12_register_57 he hf
    · have hf := cb_if q2 hf
      refine cb_iconst 11 h dX12_register_10 rfl kc_m1 ?_
      exact cb_retJ h dX12_register_11 he hf
set_option maxRecDepth 100000 in
set_option maxHeartbeats 4000000 in
theorem mt_putAf {l : Launch} {D : va_G} {a : Nat → Nat} {ca : Nat → ClassId} {σ σ' : cb_S} {v1 v2 : Int32} (hf : m_putAf σ v1 v2 = some σ') : cb_C l yX12_putAf cX12_putAf 3 none { frames := 0, cells := 0, slots := 0, locals := 0 } D (EM ca) (adM a) [.ref (a 0), .int v1, .int v2] (WM a ca σ) none (WM a ca σ') := by
  refine cb_mk [(0, .ref (a 0)), (1, .int v1), (2, .int v2)] (by decide) (Nat.le_of_ble_eq_true rfl) rfl (fun X h he => ?_) goodM
  have h : cb_ok X cX12_putAf RX12 (EM ca) 0 0 3 := h
  unfold m_putAf at hf
  refine cb_aload_n 1 0 h dX12_putAf_0 rfl rfl rfl ?_
  refine gf_X12_13 4 h dX12_putAf_1 rfl ?_
  refine cb_iload_n 5 1 h dX12_putAf_4 rfl rfl rfl ?_
  refine cb_bipush 7 h dX12_putAf_5 rfl kb_7 ?_
  refine cb_iadd 8 h dX12_putAf_7 rfl ?_
  refine cb_iload_n 9 2 h dX12_putAf_8 rfl rfl rfl ?_
  refine cb_bipush 11 h dX12_putAf_9 rfl kb_8 ?_
  refine cb_ishr 12 h dX12_putAf_11 rfl ?_
  refine cb_sipush 15 h dX12_putAf_12 rfl ks_255 ?_
  refine cb_iand 16 h dX12_putAf_15 rfl ?_
  obtain ⟨g1, hf⟩ := cb_gd_o hf
  obtain ⟨σ2, e3, hf⟩ := cb_let_o hf
  refine saM_2 17 h dX12_putAf_16 rfl (cb_in_v g1) rfl e3 ?_
  refine cb_aload_n 18 0 h dX12_putAf_17 rfl rfl rfl ?_
  refine gf_X12_13 21 h dX12_putAf_18 rfl ?_
  refine cb_iload_n 22 1 h dX12_putAf_21 rfl rfl rfl ?_
  refine cb_bipush 24 h dX12_putAf_22 rfl kb_6 ?_
  refine cb_iadd 25 h dX12_putAf_24 rfl ?_
  refine cb_iload_n 26 2 h dX12_putAf_25 rfl rfl rfl ?_
  refine cb_sipush 29 h dX12_putAf_26 rfl ks_215 ?_
  refine cb_iand 30 h dX12_putAf_29 rfl ?_
  obtain ⟨g4, hf⟩ := cb_gd_o hf
  obtain ⟨σ5, e6, hf⟩ := cb_let_o hf
  refine saM_2 31 h dX12_putAf_30 rfl (cb_in_v g4) rfl e6 ?_
  exact cb_retV (Wf := WM a ca) h dX12_putAf_31 he hf
set_option maxRecDepth 100000 in
set_option maxHeartbeats 4000000 in
theorem mt_putPair {l : Launch} {D : va_G} {a : Nat → Nat} {ca : Nat → ClassId} {σ σ' : cb_S} {v1 v2 : Int32} (hf : m_putPair σ v1 v2 = some σ') : cb_C l yX12_putPair cX12_putPair 3 none { frames := 0, cells := 0, slots := 0, locals := 0 } D (EM ca) (adM a) [.ref (a 0), .int v1, .int v2] (WM a ca σ) none (WM a ca σ') := by
  refine cb_mk [(0, .ref (a 0)), (1, .int v1), (2, .int v2)] (by decide) (Nat.le_of_ble_eq_true rfl) rfl (fun X h he => ?_) goodM
  have h : cb_ok X cX12_putPair RX12 (EM ca) 0 0 3 := h
  unfold m_putPair at hf
  refine cb_aload_n 1 0 h dX12_putPair_0 rfl rfl rfl ?_
  refine gf_X12_13 4 h dX12_putPair_1 rfl ?_
  refine cb_iload_n 5 1 h dX12_putPair_4 rfl rfl rfl ?_
  refine cb_iload_n 6 2 h dX12_putPair_5 rfl rfl rfl ?_
  refine cb_bipush 8 h dX12_putPair_6 rfl kb_8 ?_
  refine cb_ishr 9 h dX12_putPair_8 rfl ?_
  refine cb_sipush 12 h dX12_putPair_9 rfl ks_255 ?_
  refine cb_iand 13 h dX12_putPair_12 rfl ?_
  obtain ⟨g1, hf⟩ := cb_gd_o hf
  obtain ⟨σ2, e3, hf⟩ := cb_let_o hf
  refine saM_2 14 h dX12_putPair_13 rfl (cb_in_v g1) rfl e3 ?_
  refine cb_aload_n 15 0 h dX12_putPair_14 rfl rfl rfl ?_
  refine gf_X12_13 18 h dX12_putPair_15 rfl ?_
  refine cb_iload_n 19 1 h dX12_putPair_18 rfl rfl rfl ?_
  refine cb_iconst 20 h dX12_putPair_19 rfl kc_1 ?_
  refine cb_iadd 21 h dX12_putPair_20 rfl ?_
  refine cb_iload_n 22 2 h dX12_putPair_21 rfl rfl rfl ?_
  refine cb_sipush 25 h dX12_putPair_22 rfl ks_255 ?_
  refine cb_iand 26 h dX12_putPair_25 rfl ?_
  obtain ⟨g4, hf⟩ := cb_gd_o hf
  obtain ⟨σ5, e6, hf⟩ := cb_let_o hf
  refine saM_2 27 h dX12_putPair_26 rfl (cb_in_v g4) rfl e6 ?_
  exact cb_retV (Wf := WM a ca) h dX12_putPair_27 he hf
set_option maxRecDepth 100000 in
set_option maxHeartbeats 4000000 in
theorem mt_set {l : Launch} {D : va_G} {a : Nat → Nat} {ca : Nat → ClassId} {σ σ' : cb_S} {v1 v2 : Int32} {r : Int32} (hf : m_set σ v1 v2 = some (r, σ')) : cb_C l yX12_set cX12_set 3 (some .boolean) { frames := 1, cells := 0, slots := 0, locals := 22 } D (EM ca) (adM a) [.ref (a 0), .int v1, .int v2] (WM a ca σ) (some (.int r)) (WM a ca σ') := by
  refine cb_mk [(0, .ref (a 0)), (1, .int v1), (2, .int v2)] (by decide) (Nat.le_of_ble_eq_true rfl) rfl (fun X h he => ?_) goodM
  have h : cb_ok X cX12_set RX12 (EM ca) 1 22 3 := h
  unfold m_set at hf
  refine cb_iload_n 1 1 h dX12_set_0 rfl rfl rfl ?_
  refine cb_if_lt 10 4 h dX12_set_1 rfl rfl (fun q1 => ?_) (fun q1 => ?_)
  · have hf := cb_it q1 hf
    refine cb_iconst 11 h dX12_set_10 rfl kc_0 ?_
    exact cb_retZ (Wf := WM a ca) h dX12_set_11 he cb_01_0 hf
  · have hf := cb_if q1 hf
    refine cb_iload_n 5 1 h dX12_set_4 rfl rfl rfl ?_
    refine cb_bipush 7 h dX12_set_5 rfl kb_10 ?_
    refine cb_icmp_le 12 10 h dX12_set_7 rfl rfl (fun q2 => ?_) (fun q2 => ?_)
    · have hf := cb_it q2 hf
      refine cb_iload_n 13 1 h dX12_set_12 rfl rfl rfl ?_
      refine cb_bipush 15 h dX12_set_13 rfl kb_8 ?_
      refine cb_icmp_ge 62 18 h dX12_set_15 rfl rfl (fun q3 => ?_) (fun q3 => ?_)
      · have hf := cb_it q3 hf
        refine cb_iload_n 63 1 h dX12_set_62 rfl rfl rfl ?_
        refine cb_bipush 65 h dX12_set_63 rfl kb_8 ?_
        refine cb_icmp_ne 79 68 h dX12_set_65 rfl rfl (fun q4 => ?_) (fun q4 => ?_)
        · have hf := cb_if q4 hf
          refine cb_iload_n 80 1 h dX12_set_79 rfl rfl rfl ?_
          refine cb_bipush 82 h dX12_set_80 rfl kb_9 ?_
          refine cb_icmp_ne 96 85 h dX12_set_82 rfl rfl (fun q5 => ?_) (fun q5 => ?_)
          · have hf := cb_if q5 hf
            refine cb_aload_n 97 0 h dX12_set_96 rfl rfl rfl ?_
            refine cb_iload_n 98 2 h dX12_set_97 rfl rfl rfl ?_
            refine cb_sipush 101 h dX12_set_98 rfl ks_255 ?_
            refine cb_iand 102 h dX12_set_101 rfl ?_
            obtain ⟨σ6, e7, hf⟩ := cb_let_o hf
            refine pf_X12_250 105 h dX12_set_102 rfl e7 ?_
            refine cb_iconst 106 h dX12_set_105 rfl kc_1 ?_
            exact cb_retZ (Wf := WM a ca) h dX12_set_106 he cb_01_1 hf
          · have hf := cb_it q5 hf
            refine cb_aload_n 86 0 h dX12_set_85 rfl rfl rfl ?_
            refine cb_iload_n 87 2 h dX12_set_86 rfl rfl rfl ?_
            refine cb_ldc 89 h dX12_set_87 rfl (cb_t3 162 rfl rfl) ?_
            refine cb_iand 90 h dX12_set_89 rfl ?_
            obtain ⟨σ8, e9, hf⟩ := cb_let_o hf
            refine pf_X12_102 93 h dX12_set_90 rfl e9 ?_
            refine cb_goto 105 h dX12_set_93 rfl ?_
            refine cb_iconst 106 h dX12_set_105 rfl kc_1 ?_
            exact cb_retZ (Wf := WM a ca) h dX12_set_106 he cb_01_1 hf
        · have hf := cb_it q4 hf
          refine cb_aload_n 69 0 h dX12_set_68 rfl rfl rfl ?_
          refine cb_iload_n 70 2 h dX12_set_69 rfl rfl rfl ?_
          refine cb_ldc 72 h dX12_set_70 rfl (cb_t3 162 rfl rfl) ?_
          refine cb_iand 73 h dX12_set_72 rfl ?_
          obtain ⟨σ10, e11, hf⟩ := cb_let_o hf
          refine pf_X12_17 76 h dX12_set_73 rfl e11 ?_
          refine cb_goto 105 h dX12_set_76 rfl ?_
          refine cb_iconst 106 h dX12_set_105 rfl kc_1 ?_
          exact cb_retZ (Wf := WM a ca) h dX12_set_106 he cb_01_1 hf
      · have hf := cb_if q3 hf
        refine cb_iload_n 19 1 h dX12_set_18 rfl rfl rfl ?_
        refine cb_iconst 20 h dX12_set_19 rfl kc_3 ?_
        refine cb_iand 21 h dX12_set_20 rfl ?_
        refine cb_if_ne 35 24 h dX12_set_21 rfl rfl (fun q12 => ?_) (fun q12 => ?_)
        · have hf := cb_if q12 hf
          refine cb_aload_n 36 0 h dX12_set_35 rfl rfl rfl ?_
          refine cb_iload_n 37 1 h dX12_set_36 rfl rfl rfl ?_
          refine cb_iconst 38 h dX12_set_37 rfl kc_4 ?_
          refine cb_cut (cb_V X (WM a ca σ) 47 [(0, .ref (a 0)), (1, .int v1), (2, .int v2)] [.int (if (4 : Int32) ≤ v1 then (8 : Int32) else (0 : Int32)), .ref (a 0)]) (fun jj => ?_) ?_
          · refine cb_icmp_ge 45 41 h dX12_set_38 rfl rfl (fun q13 => ?_) (fun q13 => ?_)
            · refine cb_bipush 47 h dX12_set_45 rfl kb_8 ?_
              exact (cb_tt q13 jj)
            · refine cb_iconst 42 h dX12_set_41 rfl kc_0 ?_
              refine cb_goto 47 h dX12_set_42 rfl ?_
              exact (cb_tf q13 jj)
          refine cb_iconst 48 h dX12_set_47 rfl kc_2 ?_
          refine cb_iload_n 49 1 h dX12_set_48 rfl rfl rfl ?_
          refine cb_iconst 50 h dX12_set_49 rfl kc_3 ?_
          refine cb_iand 51 h dX12_set_50 rfl ?_
          refine cb_iconst 52 h dX12_set_51 rfl kc_1 ?_
          refine cb_isub 53 h dX12_set_52 rfl ?_
          refine cb_imul 54 h dX12_set_53 rfl ?_
          refine cb_iadd 55 h dX12_set_54 rfl ?_
          refine cb_iload_n 56 2 h dX12_set_55 rfl rfl rfl ?_
          obtain ⟨σc14, ec14, hf⟩ := cb_bo_o hf
          refine cl_X12_112 59 h dX12_set_56 rfl (mt_putPair ec14) ⟨rfl, rfl, Nat.le_of_ble_eq_true rfl, Nat.le_of_ble_eq_true rfl⟩ rfl (Nat.le_of_ble_eq_true rfl) ?_
          refine cb_goto 105 h dX12_set_59 rfl ?_
          refine cb_iconst 106 h dX12_set_105 rfl kc_1 ?_
          exact cb_retZ (Wf := WM a ca) h dX12_set_106 he cb_01_1 hf
        · have hf := cb_it q12 hf
          refine cb_aload_n 25 0 h dX12_set_24 rfl rfl rfl ?_
          refine cb_iconst 26 h dX12_set_25 rfl kc_2 ?_
          refine cb_iload_n 27 1 h dX12_set_26 rfl rfl rfl ?_
          refine cb_imul 28 h dX12_set_27 rfl ?_
          refine cb_iload_n 29 2 h dX12_set_28 rfl rfl rfl ?_
          obtain ⟨σc15, ec15, hf⟩ := cb_bo_o hf
          refine cl_X12_207 32 h dX12_set_29 rfl (mt_putAf ec15) ⟨rfl, rfl, Nat.le_of_ble_eq_true rfl, Nat.le_of_ble_eq_true rfl⟩ rfl (Nat.le_of_ble_eq_true rfl) ?_
          refine cb_goto 105 h dX12_set_32 rfl ?_
          refine cb_iconst 106 h dX12_set_105 rfl kc_1 ?_
          exact cb_retZ (Wf := WM a ca) h dX12_set_106 he cb_01_1 hf
    · have hf := cb_if q2 hf
      refine cb_iconst 11 h dX12_set_10 rfl kc_0 ?_
      exact cb_retZ (Wf := WM a ca) h dX12_set_11 he cb_01_0 hf
set_option maxRecDepth 100000 in
set_option maxHeartbeats 4000000 in
theorem mt_byteAt {l : Launch} {D : va_G} {a : Nat → Nat} {ca : Nat → ClassId} {σ : cb_S} {v1 : Int32} {r : Int32} (hf : m_byteAt σ v1 = some r) : cb_C l yX12_byteAt cX12_byteAt 2 (some .int) { frames := 0, cells := 0, slots := 0, locals := 0 } D (EM ca) (adM a) [.ref (a 0), .int v1] (WM a ca σ) (some (.int r)) (WM a ca σ) := by
  refine cb_mk [(0, .ref (a 0)), (1, .int v1)] (by decide) (Nat.le_of_ble_eq_true rfl) rfl (fun X h he => ?_) goodM
  have h : cb_ok X cX12_byteAt RX12 (EM ca) 0 0 2 := h
  unfold m_byteAt at hf
  refine cb_aload_n 1 0 h dX12_byteAt_0 rfl rfl rfl ?_
  refine gf_X12_7 4 h dX12_byteAt_1 rfl ?_
  refine cb_iload_n 5 1 h dX12_byteAt_4 rfl rfl rfl ?_
  refine cb_sipush 8 h dX12_byteAt_5 rfl ks_1023 ?_
  refine cb_iand 9 h dX12_byteAt_8 rfl ?_
  refine laM_1 10 h dX12_byteAt_9 rfl (vm_1023 _) rfl ?_
  exact cb_retJ h dX12_byteAt_10 he hf
set_option maxRecDepth 100000 in
set_option maxHeartbeats 4000000 in
theorem mt_next {l : Launch} {D : va_G} {a : Nat → Nat} {ca : Nat → ClassId} {σ σ' : cb_S} {r : Int32} (hf : m_next σ = some (r, σ')) : cb_C l yX12_next cX12_next 2 (some .int) { frames := 1, cells := 0, slots := 0, locals := 21 } D (EM ca) (adM a) [.ref (a 0)] (WM a ca σ) (some (.int r)) (WM a ca σ') := by
  refine cb_mk [(0, .ref (a 0))] (by decide) (Nat.le_of_ble_eq_true rfl) rfl (fun X h he => ?_) goodM
  have h : cb_ok X cX12_next RX12 (EM ca) 1 21 2 := h
  unfold m_next at hf
  refine cb_aload_n 1 0 h dX12_next_0 rfl rfl rfl ?_
  refine cb_aload_n 2 0 h dX12_next_1 rfl rfl rfl ?_
  refine gf_X12_102 5 h dX12_next_2 rfl ?_
  obtain ⟨c1, ec1, hf⟩ := cb_bo_o hf
  refine cl_X12_94 8 h dX12_next_5 rfl (mt_byteAt ec1) ⟨rfl, rfl, Nat.le_of_ble_eq_true rfl, Nat.le_of_ble_eq_true rfl⟩ rfl (Nat.le_of_ble_eq_true rfl) ?_
  refine cb_istore_n (lv' := [(1, .int c1), (0, .ref (a 0))]) 9 h dX12_next_8 rfl rfl rfl (Nat.le_of_ble_eq_true rfl) rfl ?_
  refine cb_aload_n 10 1 h dX12_next_9 rfl rfl rfl ?_
  refine cb_aload_n 11 1 h dX12_next_10 rfl rfl rfl ?_
  refine gf_X12_102 14 h dX12_next_11 rfl ?_
  refine cb_iconst 15 h dX12_next_14 rfl kc_1 ?_
  refine cb_iadd 16 h dX12_next_15 rfl ?_
  refine cb_ldc 18 h dX12_next_16 rfl (cb_t3 162 rfl rfl) ?_
  refine cb_iand 19 h dX12_next_18 rfl ?_
  obtain ⟨σ2, e3, hf⟩ := cb_let_o hf
  refine pf_X12_102 22 h dX12_next_19 rfl e3 ?_
  refine cb_iload_n 23 0 h dX12_next_22 rfl rfl rfl ?_
  exact cb_retI (Wf := WM a ca) h dX12_next_23 he hf
set_option maxRecDepth 100000 in
set_option maxHeartbeats 4000000 in
theorem mt_flag {l : Launch} {D : va_G} {a : Nat → Nat} {ca : Nat → ClassId} {σ : cb_S} {v1 : Int32} {r : Int32} (hf : m_flag σ v1 = some r) : cb_C l yX12_flag cX12_flag 2 (some .boolean) { frames := 0, cells := 0, slots := 0, locals := 0 } D (EM ca) (adM a) [.ref (a 0), .int v1] (WM a ca σ) (some (.int r)) (WM a ca σ) := by
  refine cb_mk [(0, .ref (a 0)), (1, .int v1)] (by decide) (Nat.le_of_ble_eq_true rfl) rfl (fun X h he => ?_) goodM
  have h : cb_ok X cX12_flag RX12 (EM ca) 0 0 2 := h
  unfold m_flag at hf
  refine cb_aload_n 1 0 h dX12_flag_0 rfl rfl rfl ?_
  refine gf_X12_13 4 h dX12_flag_1 rfl ?_
  refine cb_bipush 6 h dX12_flag_4 rfl kb_6 ?_
  refine laM_2 7 h dX12_flag_6 rfl vi_6_16 tk_6 ?_
  refine cb_iload_n 8 1 h dX12_flag_7 rfl rfl rfl ?_
  refine cb_iand 9 h dX12_flag_8 rfl ?_
  refine cb_cut (cb_V X (WM a ca σ) 17 [(0, .ref (a 0)), (1, .int v1)] [.int (if ((σ 2 6) &&& v1) = 0 then (0 : Int32) else (1 : Int32))]) (fun jj => ?_) ?_
  · refine cb_if_eq 16 12 h dX12_flag_9 rfl rfl (fun q1 => ?_) (fun q1 => ?_)
    · refine cb_iconst 17 h dX12_flag_16 rfl kc_0 ?_
      exact (cb_tt q1 jj)
    · refine cb_iconst 13 h dX12_flag_12 rfl kc_1 ?_
      refine cb_goto 17 h dX12_flag_13 rfl ?_
      exact (cb_tf q1 jj)
  exact cb_retB h dX12_flag_17 he (cb_01_i cb_01_0 cb_01_1) hf
set_option maxRecDepth 100000 in
set_option maxHeartbeats 4000000 in
theorem mt_condition {l : Launch} {D : va_G} {a : Nat → Nat} {ca : Nat → ClassId} {σ : cb_S} {v1 : Int32} {r : Int32} (hf : m_condition σ v1 = some r) : cb_C l yX12_condition cX12_condition 3 (some .boolean) { frames := 1, cells := 0, slots := 0, locals := 21 } D (EM ca) (adM a) [.ref (a 0), .int v1] (WM a ca σ) (some (.int r)) (WM a ca σ) := by
  refine cb_mk [(0, .ref (a 0)), (1, .int v1)] (by decide) (Nat.le_of_ble_eq_true rfl) rfl (fun X h he => ?_) goodM
  have h : cb_ok X cX12_condition RX12 (EM ca) 1 21 3 := h
  unfold m_condition at hf
  refine cb_iload_n 1 1 h dX12_condition_0 rfl rfl rfl ?_
  refine cb_iconst 2 h dX12_condition_1 rfl kc_2 ?_
  refine cb_cut (cb_V X (WM a ca σ) 32 [(0, .ref (a 0)), (1, .int v1)] [.int (if (2 : Int32) ≤ v1 then (if (4 : Int32) ≤ v1 then (if (6 : Int32) ≤ v1 then (128 : Int32) else (4 : Int32)) else (1 : Int32)) else (64 : Int32))]) (fun jj => ?_) ?_
  · refine cb_icmp_ge 10 5 h dX12_condition_2 rfl rfl (fun q1 => ?_) (fun q1 => ?_)
    · refine cb_iload_n 11 1 h dX12_condition_10 rfl rfl rfl ?_
      refine cb_iconst 12 h dX12_condition_11 rfl kc_4 ?_
      refine cb_icmp_ge 19 15 h dX12_condition_12 rfl rfl (fun q2 => ?_) (fun q2 => ?_)
      · refine cb_iload_n 20 1 h dX12_condition_19 rfl rfl rfl ?_
        refine cb_bipush 22 h dX12_condition_20 rfl kb_6 ?_
        refine cb_icmp_ge 29 25 h dX12_condition_22 rfl rfl (fun q3 => ?_) (fun q3 => ?_)
        · refine cb_sipush 32 h dX12_condition_29 rfl ks_128 ?_
          exact (cb_tt q3 (cb_tt q2 (cb_tt q1 jj)))
        · refine cb_iconst 26 h dX12_condition_25 rfl kc_4 ?_
          refine cb_goto 32 h dX12_condition_26 rfl ?_
          exact (cb_tf q3 (cb_tt q2 (cb_tt q1 jj)))
      · refine cb_iconst 16 h dX12_condition_15 rfl kc_1 ?_
        refine cb_goto 32 h dX12_condition_16 rfl ?_
        exact (cb_tf q2 (cb_tt q1 jj))
    · refine cb_bipush 7 h dX12_condition_5 rfl kb_64 ?_
      refine cb_goto 32 h dX12_condition_7 rfl ?_
      exact (cb_tf q1 jj)
  obtain ⟨t4, e5, hf⟩ := cb_let_o hf
  refine cb_istore_n (lv' := [(2, .int t4), (0, .ref (a 0)), (1, .int v1)]) 33 h dX12_condition_32 rfl rfl e5 (Nat.le_of_ble_eq_true rfl) rfl ?_
  refine cb_aload_n 34 1 h dX12_condition_33 rfl rfl rfl ?_
  refine cb_iload_n 35 0 h dX12_condition_34 rfl rfl rfl ?_
  obtain ⟨c6, ec6, hf⟩ := cb_bo_o hf
  refine cl_X12_121 38 h dX12_condition_35 rfl (mt_flag ec6) ⟨rfl, rfl, Nat.le_of_ble_eq_true rfl, Nat.le_of_ble_eq_true rfl⟩ rfl (Nat.le_of_ble_eq_true rfl) ?_
  refine cb_iload_n 39 2 h dX12_condition_38 rfl rfl rfl ?_
  refine cb_iconst 40 h dX12_condition_39 rfl kc_1 ?_
  refine cb_iand 41 h dX12_condition_40 rfl ?_
  refine cb_iconst 42 h dX12_condition_41 rfl kc_1 ?_
  refine cb_cut (cb_V X (WM a ca σ) 50 [(2, .int t4), (0, .ref (a 0)), (1, .int v1)] [.int (if (v1 &&& (1 : Int32)) = (1 : Int32) then (1 : Int32) else (0 : Int32)), .int c6]) (fun jj => ?_) ?_
  · refine cb_icmp_ne 49 45 h dX12_condition_42 rfl rfl (fun q7 => ?_) (fun q7 => ?_)
    · refine cb_iconst 50 h dX12_condition_49 rfl kc_0 ?_
      exact (cb_tf q7 jj)
    · refine cb_iconst 46 h dX12_condition_45 rfl kc_1 ?_
      refine cb_goto 50 h dX12_condition_46 rfl ?_
      exact (cb_tt q7 jj)
  refine cb_cut (cb_V X (WM a ca σ) 58 [(2, .int t4), (0, .ref (a 0)), (1, .int v1)] [.int (if c6 = (if (v1 &&& (1 : Int32)) = (1 : Int32) then (1 : Int32) else (0 : Int32)) then (1 : Int32) else (0 : Int32))]) (fun jj => ?_) ?_
  · refine cb_icmp_ne 57 53 h dX12_condition_50 rfl rfl (fun q8 => ?_) (fun q8 => ?_)
    · refine cb_iconst 58 h dX12_condition_57 rfl kc_0 ?_
      exact (cb_tf q8 jj)
    · refine cb_iconst 54 h dX12_condition_53 rfl kc_1 ?_
      refine cb_goto 58 h dX12_condition_54 rfl ?_
      exact (cb_tt q8 jj)
  exact cb_retB h dX12_condition_58 he (cb_01_i cb_01_1 cb_01_0) hf
set_option maxRecDepth 100000 in
set_option maxHeartbeats 4000000 in
theorem mt_jumps {l : Launch} {D : va_G} {a : Nat → Nat} {ca : Nat → ClassId} {σ σ' : cb_S} {v1 : Int32} {r : Int32} (hf : m_jumps σ v1 = some (r, σ')) : cb_C l yX12_jumps cX12_jumps 4 (some .int) { frames := 2, cells := 0, slots := 0, locals := 43 } D (EM ca) (adM a) [.ref (a 0), .int v1] (WM a ca σ) (some (.int r)) (WM a ca σ') := by
  refine cb_mk [(0, .ref (a 0)), (1, .int v1)] (by decide) (Nat.le_of_ble_eq_true rfl) rfl (fun X h he => ?_) goodM
  have h : cb_ok X cX12_jumps RX12 (EM ca) 2 43 4 := h
  unfold m_jumps at hf
  have j144 : ∀ (σ : cb_S) (x3 : Int32) (y0 : Int32), m_jumps_L144 v1 σ x3 y0 = some (r, σ') → cb_V X (WM a ca σ) 144 [(1, .int v1), (3, .int x3)] [.int y0, .ref (a 0)] := by
    intro σ x3 y0 hf
    unfold m_jumps_L144 at hf
    obtain ⟨σ1, e2, hf⟩ := cb_let_o hf
    refine pf_X12_102 147 h dX12_jumps_144 rfl e2 ?_
    refine cb_iload_n 148 0 h dX12_jumps_147 rfl rfl rfl ?_
    refine cb_iconst 149 h dX12_jumps_148 rfl kc_2 ?_
    refine cb_cut (cb_V X (WM a ca σ1) 177 [(1, .int v1), (3, .int x3)] [.int (if v1 = (2 : Int32) then (if x3 = 0 then (8 : Int32) else (13 : Int32)) else (if x3 = 0 then (7 : Int32) else (12 : Int32)))]) (fun jj => ?_) ?_
    · refine cb_icmp_ne 166 152 h dX12_jumps_149 rfl rfl (fun q3 => ?_) (fun q3 => ?_)
      · refine cb_iload_n 167 1 h dX12_jumps_166 rfl rfl rfl ?_
        refine cb_if_eq 175 170 h dX12_jumps_167 rfl rfl (fun q4 => ?_) (fun q4 => ?_)
        · refine cb_bipush 177 h dX12_jumps_175 rfl kb_7 ?_
          exact (cb_tt q4 (cb_tf q3 jj))
        · refine cb_bipush 172 h dX12_jumps_170 rfl kb_12 ?_
          refine cb_goto 177 h dX12_jumps_172 rfl ?_
          exact (cb_tf q4 (cb_tf q3 jj))
      · refine cb_iload_n 153 1 h dX12_jumps_152 rfl rfl rfl ?_
        refine cb_if_eq 161 156 h dX12_jumps_153 rfl rfl (fun q5 => ?_) (fun q5 => ?_)
        · refine cb_bipush 163 h dX12_jumps_161 rfl kb_8 ?_
          refine cb_goto 177 h dX12_jumps_163 rfl ?_
          exact (cb_tt q5 (cb_tt q3 jj))
        · refine cb_bipush 158 h dX12_jumps_156 rfl kb_13 ?_
          refine cb_goto 177 h dX12_jumps_158 rfl ?_
          exact (cb_tf q5 (cb_tt q3 jj))
    exact cb_retI (Wf := WM a ca) h dX12_jumps_177 he hf
  have j123 : ∀ (σ : cb_S) (x2 : Int32) (x3 : Int32), m_jumps_L123 v1 σ x2 x3 = some (r, σ') → cb_V X (WM a ca σ) 123 [(0, .ref (a 0)), (1, .int v1), (2, .int x2), (3, .int x3)] [] := by
    intro σ x2 x3 hf
    unfold m_jumps_L123 at hf
    refine cb_aload_n 124 0 h dX12_jumps_123 rfl rfl rfl ?_
    refine cb_iload_n 125 3 h dX12_jumps_124 rfl rfl rfl ?_
    refine cb_if_eq 140 128 h dX12_jumps_125 rfl rfl (fun q6 => ?_) (fun q6 => ?_)
    · have hf := cb_it q6 hf
      refine cb_aload_n 141 0 h dX12_jumps_140 rfl rfl rfl ?_
      refine gf_X12_102 144 h dX12_jumps_141 rfl ?_
      exact cb_lv [1, 3] rfl (j144 _ _ _ hf)
    · have hf := cb_if q6 hf
      refine cb_aload_n 129 0 h dX12_jumps_128 rfl rfl rfl ?_
      refine gf_X12_102 132 h dX12_jumps_129 rfl ?_
      refine cb_iload_n 133 2 h dX12_jumps_132 rfl rfl rfl ?_
      refine cb_iadd 134 h dX12_jumps_133 rfl ?_
      refine cb_ldc 136 h dX12_jumps_134 rfl (cb_t3 162 rfl rfl) ?_
      refine cb_iand 137 h dX12_jumps_136 rfl ?_
      refine cb_goto 144 h dX12_jumps_137 rfl ?_
      exact cb_lv [1, 3] rfl (j144 _ _ _ hf)
  refine cb_iload_n 1 1 h dX12_jumps_0 rfl rfl rfl ?_
  refine cb_if_ne 6 4 h dX12_jumps_1 rfl rfl (fun q7 => ?_) (fun q7 => ?_)
  · have hf := cb_if q7 hf
    refine cb_iload_n 7 1 h dX12_jumps_6 rfl rfl rfl ?_
    refine cb_iconst 8 h dX12_jumps_7 rfl kc_1 ?_
    refine cb_icmp_ne 37 11 h dX12_jumps_8 rfl rfl (fun q8 => ?_) (fun q8 => ?_)
    · have hf := cb_if q8 hf
      refine cb_aload_n 38 0 h dX12_jumps_37 rfl rfl rfl ?_
      obtain ⟨c9, σc9, ec9, hf⟩ := cb_b2_o hf
      refine cl_X12_105 41 h dX12_jumps_38 rfl (mt_next ec9) ⟨rfl, rfl, Nat.le_of_ble_eq_true rfl, Nat.le_of_ble_eq_true rfl⟩ rfl (Nat.le_of_ble_eq_true rfl) ?_
      refine cb_istore_n (lv' := [(2, .int c9), (0, .ref (a 0)), (1, .int v1)]) 42 h dX12_jumps_41 rfl rfl rfl (Nat.le_of_ble_eq_true rfl) rfl ?_
      refine cb_iload_n 43 0 h dX12_jumps_42 rfl rfl rfl ?_
      refine cb_bipush 45 h dX12_jumps_43 rfl kb_127 ?_
      refine cb_cut (cb_V X (WM a ca σc9) 57 [(2, .int c9), (0, .ref (a 0)), (1, .int v1)] [.int (if c9 ≤ (127 : Int32) then c9 else (c9 - (256 : Int32)))]) (fun jj => ?_) ?_
      · refine cb_icmp_le 56 48 h dX12_jumps_45 rfl rfl (fun q10 => ?_) (fun q10 => ?_)
        · refine cb_iload_n 57 0 h dX12_jumps_56 rfl rfl rfl ?_
          exact (cb_tt q10 jj)
        · refine cb_iload_n 49 0 h dX12_jumps_48 rfl rfl rfl ?_
          refine cb_sipush 52 h dX12_jumps_49 rfl ks_256 ?_
          refine cb_isub 53 h dX12_jumps_52 rfl ?_
          refine cb_goto 57 h dX12_jumps_53 rfl ?_
          exact (cb_tf q10 jj)
      obtain ⟨t11, e12, hf⟩ := cb_let_o hf
      refine cb_istore_n (lv' := [(2, .int t11), (0, .ref (a 0)), (1, .int v1)]) 58 h dX12_jumps_57 rfl rfl e12 (Nat.le_of_ble_eq_true rfl) rfl ?_
      refine cb_iload_n 59 2 h dX12_jumps_58 rfl rfl rfl ?_
      refine cb_iconst 60 h dX12_jumps_59 rfl kc_3 ?_
      refine cb_cut (cb_V X (WM a ca σc9) 68 [(2, .int t11), (0, .ref (a 0)), (1, .int v1)] [.int (if v1 = (3 : Int32) then (1 : Int32) else (0 : Int32))]) (fun jj => ?_) ?_
      · refine cb_icmp_ne 67 63 h dX12_jumps_60 rfl rfl (fun q13 => ?_) (fun q13 => ?_)
        · refine cb_iconst 68 h dX12_jumps_67 rfl kc_0 ?_
          exact (cb_tf q13 jj)
        · refine cb_iconst 64 h dX12_jumps_63 rfl kc_1 ?_
          refine cb_goto 68 h dX12_jumps_64 rfl ?_
          exact (cb_tt q13 jj)
      obtain ⟨t14, e15, hf⟩ := cb_let_o hf
      refine cb_istore_n (lv' := [(3, .int t14), (2, .int t11), (0, .ref (a 0)), (1, .int v1)]) 69 h dX12_jumps_68 rfl rfl e15 (Nat.le_of_ble_eq_true rfl) rfl ?_
      refine cb_iload_n 70 3 h dX12_jumps_69 rfl rfl rfl ?_
      refine cb_iconst 71 h dX12_jumps_70 rfl kc_2 ?_
      refine cb_icmp_ne 110 74 h dX12_jumps_71 rfl rfl (fun q16 => ?_) (fun q16 => ?_)
      · have hf := cb_if q16 hf
        refine cb_iload_n 111 3 h dX12_jumps_110 rfl rfl rfl ?_
        refine cb_iconst 112 h dX12_jumps_111 rfl kc_3 ?_
        refine cb_icmp_le 123 115 h dX12_jumps_112 rfl rfl (fun q17 => ?_) (fun q17 => ?_)
        · have hf := cb_it q17 hf
          exact cb_lv [2, 3, 1, 0] rfl (j123 _ _ _ hf)
        · have hf := cb_if q17 hf
          refine cb_aload_n 116 2 h dX12_jumps_115 rfl rfl rfl ?_
          refine cb_iload_n 117 3 h dX12_jumps_116 rfl rfl rfl ?_
          refine cb_iconst 118 h dX12_jumps_117 rfl kc_4 ?_
          refine cb_isub 119 h dX12_jumps_118 rfl ?_
          obtain ⟨c18, ec18, hf⟩ := cb_bo_o hf
          refine cl_X12_210 122 h dX12_jumps_119 rfl (mt_condition ec18) ⟨rfl, rfl, Nat.le_of_ble_eq_true rfl, Nat.le_of_ble_eq_true rfl⟩ rfl (Nat.le_of_ble_eq_true rfl) ?_
          refine cb_istore_n (lv' := [(3, .int c18), (2, .int t11), (0, .ref (a 0)), (1, .int v1)]) 123 h dX12_jumps_122 rfl rfl rfl (Nat.le_of_ble_eq_true rfl) rfl ?_
          exact cb_lv [2, 3, 1, 0] rfl (j123 _ _ _ hf)
      · have hf := cb_it q16 hf
        refine cb_aload_n 75 2 h dX12_jumps_74 rfl rfl rfl ?_
        refine gf_X12_13 78 h dX12_jumps_75 rfl ?_
        refine cb_iconst 79 h dX12_jumps_78 rfl kc_0 ?_
        refine cb_aload_n 80 2 h dX12_jumps_79 rfl rfl rfl ?_
        refine gf_X12_13 83 h dX12_jumps_80 rfl ?_
        refine cb_iconst 84 h dX12_jumps_83 rfl kc_0 ?_
        refine laM_2 85 h dX12_jumps_84 rfl vi_0_16 tk_0 ?_
        refine cb_iconst 86 h dX12_jumps_85 rfl kc_1 ?_
        refine cb_isub 87 h dX12_jumps_86 rfl ?_
        refine cb_sipush 90 h dX12_jumps_87 rfl ks_255 ?_
        refine cb_iand 91 h dX12_jumps_90 rfl ?_
        obtain ⟨σ19, e20, hf⟩ := cb_let_o hf
        refine saM_2 92 h dX12_jumps_91 rfl vi_0_16 tk_0 e20 ?_
        refine cb_aload_n 93 2 h dX12_jumps_92 rfl rfl rfl ?_
        refine gf_X12_13 96 h dX12_jumps_93 rfl ?_
        refine cb_iconst 97 h dX12_jumps_96 rfl kc_0 ?_
        refine laM_2 98 h dX12_jumps_97 rfl vi_0_16 tk_0 ?_
        refine cb_cut (cb_V X (WM a ca σ19) 106 [(3, .int t14), (2, .int t11), (0, .ref (a 0)), (1, .int v1)] [.int (if (σ19 2 0) = 0 then (0 : Int32) else (1 : Int32))]) (fun jj => ?_) ?_
        · refine cb_if_eq 105 101 h dX12_jumps_98 rfl rfl (fun q21 => ?_) (fun q21 => ?_)
          · refine cb_iconst 106 h dX12_jumps_105 rfl kc_0 ?_
            exact (cb_tt q21 jj)
          · refine cb_iconst 102 h dX12_jumps_101 rfl kc_1 ?_
            refine cb_goto 106 h dX12_jumps_102 rfl ?_
            exact (cb_tf q21 jj)
        obtain ⟨t22, e23, hf⟩ := cb_let_o hf
        refine cb_istore_n (lv' := [(3, .int t22), (2, .int t11), (0, .ref (a 0)), (1, .int v1)]) 107 h dX12_jumps_106 rfl rfl e23 (Nat.le_of_ble_eq_true rfl) rfl ?_
        refine cb_goto 123 h dX12_jumps_107 rfl ?_
        exact cb_lv [2, 3, 1, 0] rfl (j123 _ _ _ hf)
    · have hf := cb_it q8 hf
      refine cb_aload_n 12 0 h dX12_jumps_11 rfl rfl rfl ?_
      refine cb_iconst 13 h dX12_jumps_12 rfl kc_0 ?_
      obtain ⟨c24, ec24, hf⟩ := cb_bo_o hf
      refine cl_X12_204 16 h dX12_jumps_13 rfl (mt_af ec24) ⟨rfl, rfl, Nat.le_of_ble_eq_true rfl, Nat.le_of_ble_eq_true rfl⟩ rfl (Nat.le_of_ble_eq_true rfl) ?_
      refine cb_istore_n (lv' := [(2, .int c24), (0, .ref (a 0)), (1, .int v1)]) 17 h dX12_jumps_16 rfl rfl rfl (Nat.le_of_ble_eq_true rfl) rfl ?_
      refine cb_aload_n 18 1 h dX12_jumps_17 rfl rfl rfl ?_
      refine cb_iconst 19 h dX12_jumps_18 rfl kc_0 ?_
      refine cb_aload_n 20 1 h dX12_jumps_19 rfl rfl rfl ?_
      refine cb_bipush 22 h dX12_jumps_20 rfl kb_8 ?_
      obtain ⟨c25, ec25, hf⟩ := cb_bo_o hf
      refine cl_X12_204 25 h dX12_jumps_22 rfl (mt_af ec25) ⟨rfl, rfl, Nat.le_of_ble_eq_true rfl, Nat.le_of_ble_eq_true rfl⟩ rfl (Nat.le_of_ble_eq_true rfl) ?_
      obtain ⟨σc26, ec26, hf⟩ := cb_bo_o hf
      refine cl_X12_207 28 h dX12_jumps_25 rfl (mt_putAf ec26) ⟨rfl, rfl, Nat.le_of_ble_eq_true rfl, Nat.le_of_ble_eq_true rfl⟩ rfl (Nat.le_of_ble_eq_true rfl) ?_
      refine cb_aload_n 29 1 h dX12_jumps_28 rfl rfl rfl ?_
      refine cb_bipush 31 h dX12_jumps_29 rfl kb_8 ?_
      refine cb_iload_n 32 0 h dX12_jumps_31 rfl rfl rfl ?_
      obtain ⟨σc27, ec27, hf⟩ := cb_bo_o hf
      refine cl_X12_207 35 h dX12_jumps_32 rfl (mt_putAf ec27) ⟨rfl, rfl, Nat.le_of_ble_eq_true rfl, Nat.le_of_ble_eq_true rfl⟩ rfl (Nat.le_of_ble_eq_true rfl) ?_
      refine cb_iconst 36 h dX12_jumps_35 rfl kc_4 ?_
      exact cb_retI (Wf := WM a ca) h dX12_jumps_36 he hf
  · have hf := cb_it q7 hf
    refine cb_iconst 5 h dX12_jumps_4 rfl kc_4 ?_
    exact cb_retI (Wf := WM a ca) h dX12_jumps_5 he hf
set_option maxRecDepth 100000 in
set_option maxHeartbeats 4000000 in
theorem mt_nextWord {l : Launch} {D : va_G} {a : Nat → Nat} {ca : Nat → ClassId} {σ σ' : cb_S} {r : Int32} (hf : m_nextWord σ = some (r, σ')) : cb_C l yX12_nextWord cX12_nextWord 2 (some .int) { frames := 2, cells := 0, slots := 0, locals := 42 } D (EM ca) (adM a) [.ref (a 0)] (WM a ca σ) (some (.int r)) (WM a ca σ') := by
  refine cb_mk [(0, .ref (a 0))] (by decide) (Nat.le_of_ble_eq_true rfl) rfl (fun X h he => ?_) goodM
  have h : cb_ok X cX12_nextWord RX12 (EM ca) 2 42 2 := h
  unfold m_nextWord at hf
  refine cb_aload_n 1 0 h dX12_nextWord_0 rfl rfl rfl ?_
  obtain ⟨c1, σc1, ec1, hf⟩ := cb_b2_o hf
  refine cl_X12_105 4 h dX12_nextWord_1 rfl (mt_next ec1) ⟨rfl, rfl, Nat.le_of_ble_eq_true rfl, Nat.le_of_ble_eq_true rfl⟩ rfl (Nat.le_of_ble_eq_true rfl) ?_
  refine cb_istore_n (lv' := [(1, .int c1), (0, .ref (a 0))]) 5 h dX12_nextWord_4 rfl rfl rfl (Nat.le_of_ble_eq_true rfl) rfl ?_
  refine cb_iload_n 6 0 h dX12_nextWord_5 rfl rfl rfl ?_
  refine cb_sipush 9 h dX12_nextWord_6 rfl ks_256 ?_
  refine cb_aload_n 10 1 h dX12_nextWord_9 rfl rfl rfl ?_
  obtain ⟨c2, σc2, ec2, hf⟩ := cb_b2_o hf
  refine cl_X12_105 13 h dX12_nextWord_10 rfl (mt_next ec2) ⟨rfl, rfl, Nat.le_of_ble_eq_true rfl, Nat.le_of_ble_eq_true rfl⟩ rfl (Nat.le_of_ble_eq_true rfl) ?_
  refine cb_imul 14 h dX12_nextWord_13 rfl ?_
  refine cb_iadd 15 h dX12_nextWord_14 rfl ?_
  exact cb_retI (Wf := WM a ca) h dX12_nextWord_15 he hf
set_option maxRecDepth 100000 in
set_option maxHeartbeats 4000000 in
theorem mt_putWide {l : Launch} {D : va_G} {a : Nat → Nat} {ca : Nat → ClassId} {σ σ' : cb_S} {v1 v2 : Int32} (hf : m_putWide σ v1 v2 = some σ') : cb_C l yX12_putWide cX12_putWide 3 none { frames := 1, cells := 0, slots := 0, locals := 22 } D (EM ca) (adM a) [.ref (a 0), .int v1, .int v2] (WM a ca σ) none (WM a ca σ') := by
  refine cb_mk [(0, .ref (a 0)), (1, .int v1), (2, .int v2)] (by decide) (Nat.le_of_ble_eq_true rfl) rfl (fun X h he => ?_) goodM
  have h : cb_ok X cX12_putWide RX12 (EM ca) 1 22 3 := h
  unfold m_putWide at hf
  refine cb_iload_n 1 1 h dX12_putWide_0 rfl rfl rfl ?_
  refine cb_iconst 2 h dX12_putWide_1 rfl kc_3 ?_
  refine cb_icmp_ne 16 5 h dX12_putWide_2 rfl rfl (fun q1 => ?_) (fun q1 => ?_)
  · have hf := cb_if q1 hf
    refine cb_aload_n 17 0 h dX12_putWide_16 rfl rfl rfl ?_
    refine cb_iconst 18 h dX12_putWide_17 rfl kc_2 ?_
    refine cb_iload_n 19 1 h dX12_putWide_18 rfl rfl rfl ?_
    refine cb_imul 20 h dX12_putWide_19 rfl ?_
    refine cb_iload_n 21 2 h dX12_putWide_20 rfl rfl rfl ?_
    obtain ⟨σc2, ec2, hf⟩ := cb_bo_o hf
    refine cl_X12_112 24 h dX12_putWide_21 rfl (mt_putPair ec2) ⟨rfl, rfl, Nat.le_of_ble_eq_true rfl, Nat.le_of_ble_eq_true rfl⟩ rfl (Nat.le_of_ble_eq_true rfl) ?_
    exact cb_retV (Wf := WM a ca) h dX12_putWide_24 he hf
  · have hf := cb_it q1 hf
    refine cb_aload_n 6 0 h dX12_putWide_5 rfl rfl rfl ?_
    refine cb_iload_n 7 2 h dX12_putWide_6 rfl rfl rfl ?_
    refine cb_ldc 9 h dX12_putWide_7 rfl (cb_t3 162 rfl rfl) ?_
    refine cb_iand 10 h dX12_putWide_9 rfl ?_
    obtain ⟨σ3, e4, hf⟩ := cb_let_o hf
    refine pf_X12_17 13 h dX12_putWide_10 rfl e4 ?_
    refine cb_goto 24 h dX12_putWide_13 rfl ?_
    exact cb_retV (Wf := WM a ca) h dX12_putWide_24 he hf
set_option maxRecDepth 100000 in
set_option maxHeartbeats 4000000 in
theorem mt_wide {l : Launch} {D : va_G} {a : Nat → Nat} {ca : Nat → ClassId} {σ : cb_S} {v1 : Int32} {r : Int32} (hf : m_wide σ v1 = some r) : cb_C l yX12_wide cX12_wide 2 (some .int) { frames := 1, cells := 0, slots := 0, locals := 21 } D (EM ca) (adM a) [.ref (a 0), .int v1] (WM a ca σ) (some (.int r)) (WM a ca σ) := by
  refine cb_mk [(0, .ref (a 0)), (1, .int v1)] (by decide) (Nat.le_of_ble_eq_true rfl) rfl (fun X h he => ?_) goodM
  have h : cb_ok X cX12_wide RX12 (EM ca) 1 21 2 := h
  unfold m_wide at hf
  refine cb_iload_n 1 1 h dX12_wide_0 rfl rfl rfl ?_
  refine cb_iconst 2 h dX12_wide_1 rfl kc_3 ?_
  refine cb_icmp_ne 12 5 h dX12_wide_2 rfl rfl (fun q1 => ?_) (fun q1 => ?_)
  · have hf := cb_if q1 hf
    refine cb_aload_n 13 0 h dX12_wide_12 rfl rfl rfl ?_
    refine cb_iconst 14 h dX12_wide_13 rfl kc_2 ?_
    refine cb_iload_n 15 1 h dX12_wide_14 rfl rfl rfl ?_
    refine cb_imul 16 h dX12_wide_15 rfl ?_
    obtain ⟨c2, ec2, hf⟩ := cb_bo_o hf
    refine cl_X12_109 19 h dX12_wide_16 rfl (mt_pair ec2) ⟨rfl, rfl, Nat.le_of_ble_eq_true rfl, Nat.le_of_ble_eq_true rfl⟩ rfl (Nat.le_of_ble_eq_true rfl) ?_
    exact cb_retJ h dX12_wide_19 he hf
  · have hf := cb_it q1 hf
    refine cb_aload_n 6 0 h dX12_wide_5 rfl rfl rfl ?_
    refine gf_X12_17 9 h dX12_wide_6 rfl ?_
    refine cb_goto 19 h dX12_wide_9 rfl ?_
    exact cb_retJ h dX12_wide_19 he hf
set_option maxRecDepth 100000 in
set_option maxHeartbeats 4000000 in
theorem mt_add {l : Launch} {D : va_G} {a : Nat → Nat} {ca : Nat → ClassId} {N : Nat} {σ σ' : cb_S} {v1 v2 v3 v4 : Int32} {r : Int32} (hf : m_add N σ v1 v2 v3 v4 = some (r, σ')) : cb_C l yX12_add cX12_add 9 (some .int) { frames := 0, cells := 0, slots := 0, locals := 0 } D (EM ca) (adM a) [.ref (a 0), .int v1, .int v2, .int v3, .int v4] (WM a ca σ) (some (.int r)) (WM a ca σ') := by
  refine cb_mk [(0, .ref (a 0)), (1, .int v1), (2, .int v2), (3, .int v3), (4, .int v4)] (by decide) (Nat.le_of_ble_eq_true rfl) rfl (fun X h he => ?_) goodM
  have h : cb_ok X cX12_add RX12 (EM ca) 0 0 9 := h
  unfold m_add at hf
  have j97 : ∀ (k9 : cb_S → Int32 → Int32 → Int32 → Option (Int32 × cb_S)) (hk9 : ∀ (σ : cb_S) (x5 : Int32) (x6 : Int32) (x7 : Int32), k9 σ x5 x6 x7 = some (r, σ') → cb_V X (WM a ca σ) 9 [(0, .ref (a 0)), (1, .int v1), (2, .int v2), (4, .int v4), (5, .int x5), (6, .int x6), (7, .int x7)] []) (σ : cb_S) (x5 : Int32) (x6 : Int32) (x7 : Int32), m_add_L97 N v1 v2 v3 v4 k9 σ x5 x6 x7 = some (r, σ') → cb_V X (WM a ca σ) 97 [(0, .ref (a 0)), (1, .int v1), (2, .int v2), (4, .int v4), (5, .int x5), (6, .int x6), (7, .int x7)] [] := by
    intro k9 hk9 σ x5 x6 x7 hf
    unfold m_add_L97 at hf
    obtain ⟨t1, e2, hf⟩ := cb_let_o hf
    refine cb_iinc 6 (lv' := [(7, .int t1), (0, .ref (a 0)), (1, .int v1), (2, .int v2), (4, .int v4), (5, .int x5), (6, .int x6)]) 100 h dX12_add_97 rfl rfl ((congrArg (fun z => x7 + z) kc_1).trans e2) (Nat.le_of_ble_eq_true rfl) rfl ?_
    refine cb_goto 9 h dX12_add_100 rfl ?_
    exact cb_lv [1, 2, 3, 4, 5, 6, 0] rfl (hk9 _ _ _ _ hf)
  have j57 : ∀ (k9 : cb_S → Int32 → Int32 → Int32 → Option (Int32 × cb_S)) (hk9 : ∀ (σ : cb_S) (x5 : Int32) (x6 : Int32) (x7 : Int32), k9 σ x5 x6 x7 = some (r, σ') → cb_V X (WM a ca σ) 9 [(0, .ref (a 0)), (1, .int v1), (2, .int v2), (4, .int v4), (5, .int x5), (6, .int x6), (7, .int x7)] []) (σ : cb_S) (x5 : Int32) (x7 : Int32) (x8 : Int32), m_add_L57 N v1 v2 v3 v4 k9 σ x5 x7 x8 = some (r, σ') → cb_V X (WM a ca σ) 57 [(0, .ref (a 0)), (1, .int v1), (2, .int v2), (4, .int v4), (5, .int x5), (7, .int x7), (8, .int x8)] [] := by
    intro k9 hk9 σ x5 x7 x8 hf
    unfold m_add_L57 at hf
    refine cb_iload 59 4 h dX12_add_57 rfl rfl ?_
    refine cb_iload 61 6 h dX12_add_59 rfl rfl ?_
    refine cb_iconst 62 h dX12_add_61 rfl kc_1 ?_
    refine cb_iand 63 h dX12_add_62 rfl ?_
    refine cb_iload 65 5 h dX12_add_63 rfl rfl ?_
    refine cb_ishl 66 h dX12_add_65 rfl ?_
    refine cb_ior 67 h dX12_add_66 rfl ?_
    obtain ⟨t3, e4, hf⟩ := cb_let_o hf
    refine cb_istore (lv' := [(5, .int t3), (0, .ref (a 0)), (1, .int v1), (2, .int v2), (4, .int v4), (7, .int x7), (8, .int x8)]) 69 h dX12_add_67 rfl e4 (Nat.le_of_ble_eq_true rfl) rfl ?_
    refine cb_iload 71 6 h dX12_add_69 rfl rfl ?_
    refine cb_iconst 72 h dX12_add_71 rfl kc_1 ?_
    refine cb_cut (cb_V X (WM a ca σ) 80 [(5, .int t3), (0, .ref (a 0)), (1, .int v1), (2, .int v2), (4, .int v4), (7, .int x7), (8, .int x8)] [.int (if x8 ≤ (1 : Int32) then (0 : Int32) else (1 : Int32))]) (fun jj => ?_) ?_
    · refine cb_icmp_le 79 75 h dX12_add_72 rfl rfl (fun q5 => ?_) (fun q5 => ?_)
      · refine cb_iconst 80 h dX12_add_79 rfl kc_0 ?_
        exact (cb_tt q5 jj)
      · refine cb_iconst 76 h dX12_add_75 rfl kc_1 ?_
        refine cb_goto 80 h dX12_add_76 rfl ?_
        exact (cb_tf q5 jj)
    obtain ⟨t6, e7, hf⟩ := cb_let_o hf
    refine cb_istore (lv' := [(6, .int t6), (5, .int t3), (0, .ref (a 0)), (1, .int v1), (2, .int v2), (4, .int v4), (7, .int x7), (8, .int x8)]) 82 h dX12_add_80 rfl e7 (Nat.le_of_ble_eq_true rfl) rfl ?_
    refine cb_iload 84 6 h dX12_add_82 rfl rfl ?_
    refine cb_iload 86 5 h dX12_add_84 rfl rfl ?_
    refine cb_iconst 87 h dX12_add_86 rfl kc_5 ?_
    refine cb_isub 88 h dX12_add_87 rfl ?_
    refine cb_icmp_ne 97 91 h dX12_add_88 rfl rfl (fun q8 => ?_) (fun q8 => ?_)
    · have hf := cb_if q8 hf
      exact cb_lv [2, 3, 4, 5, 1, 0, 6] rfl (j97 k9 hk9 _ _ _ _ hf)
    · have hf := cb_it q8 hf
      refine cb_aload_n 92 2 h dX12_add_91 rfl rfl rfl ?_
      refine cb_iload 94 0 h dX12_add_92 rfl rfl ?_
      obtain ⟨σ9, e10, hf⟩ := cb_let_o hf
      refine pf_X12_129 97 h dX12_add_94 rfl (cb_01_e e7 (cb_01_i cb_01_0 cb_01_1)) e10 ?_
      exact cb_lv [2, 3, 4, 5, 1, 0, 6] rfl (j97 k9 hk9 _ _ _ _ hf)
  have jb9 : ∀ (k9 : cb_S → Int32 → Int32 → Int32 → Option (Int32 × cb_S)) (hk9 : ∀ (σ : cb_S) (x5 : Int32) (x6 : Int32) (x7 : Int32), k9 σ x5 x6 x7 = some (r, σ') → cb_V X (WM a ca σ) 9 [(0, .ref (a 0)), (1, .int v1), (2, .int v2), (4, .int v4), (5, .int x5), (6, .int x6), (7, .int x7)] []) (σ : cb_S) (x5 : Int32) (x6 : Int32) (x7 : Int32), m_add_B9 N v1 v2 v3 v4 k9 σ x5 x6 x7 = some (r, σ') → cb_V X (WM a ca σ) 9 [(0, .ref (a 0)), (1, .int v1), (2, .int v2), (4, .int v4), (5, .int x5), (6, .int x6), (7, .int x7)] [] := by
    intro k9 hk9 σ x5 x6 x7 hf
    unfold m_add_B9 at hf
    refine cb_iload 11 6 h dX12_add_9 rfl rfl ?_
    refine cb_iload 13 3 h dX12_add_11 rfl rfl ?_
    refine cb_icmp_ge 103 16 h dX12_add_13 rfl rfl (fun q11 => ?_) (fun q11 => ?_)
    · have hf := cb_it q11 hf
      refine cb_aload_n 104 0 h dX12_add_103 rfl rfl rfl ?_
      refine cb_iload 106 5 h dX12_add_104 rfl rfl ?_
      obtain ⟨g12, hf⟩ := cb_gd_o hf
      obtain ⟨σ13, e14, hf⟩ := cb_let_o hf
      refine pf_X12_132 109 h dX12_add_106 rfl g12 e14 ?_
      refine cb_iload 111 4 h dX12_add_109 rfl rfl ?_
      exact cb_retI (Wf := WM a ca) h dX12_add_111 he hf
    · have hf := cb_if q11 hf
      refine cb_iload_n 17 1 h dX12_add_16 rfl rfl rfl ?_
      refine cb_iload 19 6 h dX12_add_17 rfl rfl ?_
      refine cb_ishr 20 h dX12_add_19 rfl ?_
      refine cb_iconst 21 h dX12_add_20 rfl kc_1 ?_
      refine cb_iand 22 h dX12_add_21 rfl ?_
      refine cb_iload_n 23 2 h dX12_add_22 rfl rfl rfl ?_
      refine cb_iload 25 6 h dX12_add_23 rfl rfl ?_
      refine cb_ishr 26 h dX12_add_25 rfl ?_
      refine cb_iconst 27 h dX12_add_26 rfl kc_1 ?_
      refine cb_iand 28 h dX12_add_27 rfl ?_
      refine cb_iadd 29 h dX12_add_28 rfl ?_
      refine cb_iload 31 5 h dX12_add_29 rfl rfl ?_
      refine cb_cut (cb_V X (WM a ca σ) 39 [(0, .ref (a 0)), (1, .int v1), (2, .int v2), (4, .int v4), (5, .int x5), (6, .int x6), (7, .int x7)] [.int (if x6 = 0 then (0 : Int32) else (1 : Int32)), .int (((v1 >>> (x7 &&& 31)) &&& (1 : Int32)) + ((v2 >>> (x7 &&& 31)) &&& (1 : Int32)))]) (fun jj => ?_) ?_
      · refine cb_if_eq 38 34 h dX12_add_31 rfl rfl (fun q15 => ?_) (fun q15 => ?_)
        · refine cb_iconst 39 h dX12_add_38 rfl kc_0 ?_
          exact (cb_tt q15 jj)
        · refine cb_iconst 35 h dX12_add_34 rfl kc_1 ?_
          refine cb_goto 39 h dX12_add_35 rfl ?_
          exact (cb_tf q15 jj)
      refine cb_iadd 40 h dX12_add_39 rfl ?_
      obtain ⟨t16, e17, hf⟩ := cb_let_o hf
      refine cb_istore (lv' := [(8, .int t16), (0, .ref (a 0)), (1, .int v1), (2, .int v2), (4, .int v4), (5, .int x5), (6, .int x6), (7, .int x7)]) 42 h dX12_add_40 rfl e17 (Nat.le_of_ble_eq_true rfl) rfl ?_
      refine cb_iload 44 7 h dX12_add_42 rfl rfl ?_
      refine cb_iload 46 4 h dX12_add_44 rfl rfl ?_
      refine cb_iconst 47 h dX12_add_46 rfl kc_1 ?_
      refine cb_isub 48 h dX12_add_47 rfl ?_
      refine cb_icmp_ne 57 51 h dX12_add_48 rfl rfl (fun q18 => ?_) (fun q18 => ?_)
      · have hf := cb_if q18 hf
        exact cb_lv [1, 2, 3, 4, 5, 7, 0] rfl (j57 k9 hk9 _ _ _ _ hf)
      · have hf := cb_it q18 hf
        refine cb_aload_n 52 1 h dX12_add_51 rfl rfl rfl ?_
        refine cb_iload 54 6 h dX12_add_52 rfl rfl ?_
        obtain ⟨g19, hf⟩ := cb_gd_o hf
        obtain ⟨σ20, e21, hf⟩ := cb_let_o hf
        refine pf_X12_125 57 h dX12_add_54 rfl g19 e21 ?_
        exact cb_lv [1, 2, 3, 4, 5, 7, 0] rfl (j57 k9 hk9 _ _ _ _ hf)
  have j9 : ∀ (n : Nat) (σ : cb_S) (x5 : Int32) (x6 : Int32) (x7 : Int32), m_add_H9 N v1 v2 v3 v4 n σ x5 x6 x7 = some (r, σ') → cb_V X (WM a ca σ) 9 [(0, .ref (a 0)), (1, .int v1), (2, .int v2), (4, .int v4), (5, .int x5), (6, .int x6), (7, .int x7)] [] := by
    intro n
    induction n with
    | zero => intro σ x5 x6 x7 hf; cases hf
    | succ n ih => intro σ x5 x6 x7 hf; exact jb9  _ ih _ _ _ _ hf
  refine cb_iconst 1 h dX12_add_0 rfl kc_0 ?_
  refine cb_istore (lv' := [(5, .int (0 : Int32)), (0, .ref (a 0)), (1, .int v1), (2, .int v2), (3, .int v3), (4, .int v4)]) 3 h dX12_add_1 rfl rfl (Nat.le_of_ble_eq_true rfl) rfl ?_
  refine cb_iload_n 4 4 h dX12_add_3 rfl rfl rfl ?_
  refine cb_istore (lv' := [(6, .int v3), (5, .int (0 : Int32)), (0, .ref (a 0)), (1, .int v1), (2, .int v2), (3, .int v3), (4, .int v4)]) 6 h dX12_add_4 rfl rfl (Nat.le_of_ble_eq_true rfl) rfl ?_
  refine cb_iconst 7 h dX12_add_6 rfl kc_0 ?_
  refine cb_istore (lv' := [(7, .int (0 : Int32)), (6, .int v3), (5, .int (0 : Int32)), (0, .ref (a 0)), (1, .int v1), (2, .int v2), (3, .int v3), (4, .int v4)]) 9 h dX12_add_7 rfl rfl (Nat.le_of_ble_eq_true rfl) rfl ?_
  exact cb_lv [3, 4, 5, 7, 2, 1, 0] rfl (j9 _ _ _ _ _ hf)
