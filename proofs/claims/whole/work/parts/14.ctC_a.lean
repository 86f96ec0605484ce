set_option maxRecDepth 100000 in
set_option maxHeartbeats 4000000 in
theorem ct_Memory_putByte {l : Launch} {D : va_G} {a : Nat → Nat} {ca : Nat → ClassId} {σ σ' : cb_S} {v1 v2 : Int32} (hf : c_Memory_putByte σ v1 v2 = some σ') : cb_C l yX7_putByte cX7_putByte 3 none { frames := 0, cells := 0, slots := 0, locals := 0 } D (EC ca) (adC a) [.ref (a 1), .int v1, .int v2] (WC a ca σ) none (WC a ca σ') := by
  refine cb_mk [(0, .ref (a 1)), (1, .int v1), (2, .int v2)] (by decide) (Nat.le_of_ble_eq_true rfl) rfl (fun X h he => ?_) goodC
  have h : cb_ok X cX7_putByte RX7 (EC ca) 0 0 3 := h
  unfold c_Memory_putByte at hf
  refine cb_aload_n 1 0 h dX7_putByte_0 rfl rfl rfl ?_
  refine gf_X7_9 4 h dX7_putByte_1 rfl ?_
  refine cb_iload_n 5 1 h dX7_putByte_4 rfl rfl rfl ?_
  refine cb_sipush 8 h dX7_putByte_5 rfl ks_1023 ?_
  refine cb_iand 9 h dX7_putByte_8 rfl ?_
  refine cb_iload_n 10 2 h dX7_putByte_9 rfl rfl rfl ?_
  refine cb_sipush 13 h dX7_putByte_10 rfl ks_255 ?_
  refine cb_iand 14 h dX7_putByte_13 rfl ?_
  obtain ⟨σ1, e2, hf⟩ := cb_let_o hf
  refine saC_4 15 h dX7_putByte_14 rfl (vm_1023 _) rfl e2 ?_
  exact cb_retV (Wf := WC a ca) h dX7_putByte_15 he hf
set_option maxRecDepth 100000 in
set_option maxHeartbeats 4000000 in
theorem ct_Board_poke {l : Launch} {D : va_G} {a : Nat → Nat} {ca : Nat → ClassId} {σ σ' : cb_S} {v1 v2 : Int32} {r : Int32} (hf : c_Board_poke σ v1 v2 = some (r, σ')) : cb_C l yX1_poke cX1_poke 3 (some .boolean) { frames := 1, cells := 0, slots := 0, locals := 22 } D (EC ca) (adC a) [.ref (a 0), .int v1, .int v2] (WC a ca σ) (some (.int r)) (WC a ca σ') := by
  refine cb_mk [(0, .ref (a 0)), (1, .int v1), (2, .int v2)] (by decide) (Nat.le_of_ble_eq_true rfl) rfl (fun X h he => ?_) goodC
  have h : cb_ok X cX1_poke RX1 (EC ca) 1 22 3 := h
  unfold c_Board_poke at hf
  refine cb_iload_n 1 1 h dX1_poke_0 rfl rfl rfl ?_
  refine cb_if_lt 11 4 h dX1_poke_1 rfl rfl (fun q1 => ?_) (fun q1 => ?_)
  · have hf := cb_it q1 hf
    refine cb_iconst 12 h dX1_poke_11 rfl kc_0 ?_
    exact cb_retZ (Wf := WC a ca) h dX1_poke_12 he cb_01_0 hf
  · have hf := cb_if q1 hf
    refine cb_iload_n 5 1 h dX1_poke_4 rfl rfl rfl ?_
    refine cb_sipush 8 h dX1_poke_5 rfl ks_1024 ?_
    refine cb_icmp_lt 13 11 h dX1_poke_8 rfl rfl (fun q2 => ?_) (fun q2 => ?_)
    · have hf := cb_it q2 hf
      refine cb_aload_n 14 0 h dX1_poke_13 rfl rfl rfl ?_
      refine gf_X1_10 17 h dX1_poke_14 rfl ?_
      refine cb_iload_n 18 1 h dX1_poke_17 rfl rfl rfl ?_
      refine cb_iload_n 19 2 h dX1_poke_18 rfl rfl rfl ?_
      obtain ⟨σc3, ec3, hf⟩ := cb_bo_o hf
      refine cl_X1_32 22 h dX1_poke_19 rfl (ct_Memory_putByte ec3) ⟨rfl, rfl, Nat.le_of_ble_eq_true rfl, Nat.le_of_ble_eq_true rfl⟩ rfl (Nat.le_of_ble_eq_true rfl) ?_
      refine cb_iconst 23 h dX1_poke_22 rfl kc_1 ?_
      exact cb_retZ (Wf := WC a ca) h dX1_poke_23 he cb_01_1 hf
    · have hf := cb_if q2 hf
      refine cb_iconst 12 h dX1_poke_11 rfl kc_0 ?_
      exact cb_retZ (Wf := WC a ca) h dX1_poke_12 he cb_01_0 hf
set_option maxRecDepth 100000 in
set_option maxHeartbeats 4000000 in
theorem ct_Board_poke4 {l : Launch} {D : va_G} {a : Nat → Nat} {ca : Nat → ClassId} {σ σ' : cb_S} {v1 v2 : Int32} {r : Int32} (hf : c_Board_poke4 σ v1 v2 = some (r, σ')) : cb_C l yX1_poke4 cX1_poke4 4 (some .boolean) { frames := 1, cells := 0, slots := 0, locals := 22 } D (EC ca) (adC a) [.ref (a 0), .int v1, .int v2] (WC a ca σ) (some (.int r)) (WC a ca σ') := by
  refine cb_mk [(0, .ref (a 0)), (1, .int v1), (2, .int v2)] (by decide) (Nat.le_of_ble_eq_true rfl) rfl (fun X h he => ?_) goodC
  have h : cb_ok X cX1_poke4 RX1 (EC ca) 1 22 4 := h
  unfold c_Board_poke4 at hf
  refine cb_iload_n 1 1 h dX1_poke4_0 rfl rfl rfl ?_
  refine cb_if_lt 11 4 h dX1_poke4_1 rfl rfl (fun q1 => ?_) (fun q1 => ?_)
  · have hf := cb_it q1 hf
    refine cb_iconst 12 h dX1_poke4_11 rfl kc_0 ?_
    exact cb_retZ (Wf := WC a ca) h dX1_poke4_12 he cb_01_0 hf
  · have hf := cb_if q1 hf
    refine cb_iload_n 5 1 h dX1_poke4_4 rfl rfl rfl ?_
    refine cb_sipush 8 h dX1_poke4_5 rfl ks_1020 ?_
    refine cb_icmp_le 13 11 h dX1_poke4_8 rfl rfl (fun q2 => ?_) (fun q2 => ?_)
    · have hf := cb_it q2 hf
      refine cb_iconst 14 h dX1_poke4_13 rfl kc_0 ?_
      refine cb_istore_n (lv' := [(3, .int (0 : Int32)), (0, .ref (a 0)), (1, .int v1), (2, .int v2)]) 15 h dX1_poke4_14 rfl rfl rfl (Nat.le_of_ble_eq_true rfl) rfl ?_
      refine cb_iload_n 16 0 h dX1_poke4_15 rfl rfl rfl ?_
      refine cb_iconst 17 h dX1_poke4_16 rfl kc_4 ?_
      refine cb_icmp_ge 45 20 h dX1_poke4_17 rfl rfl (fun q => absurd q (by decide)) (fun _ => ?_)
      refine cb_aload_n 21 1 h dX1_poke4_20 rfl rfl rfl ?_
      refine gf_X1_10 24 h dX1_poke4_21 rfl ?_
      refine cb_iload_n 25 2 h dX1_poke4_24 rfl rfl rfl ?_
      refine cb_iload_n 26 0 h dX1_poke4_25 rfl rfl rfl ?_
      refine cb_iadd 27 h dX1_poke4_26 rfl ?_
      refine cb_iload_n 28 3 h dX1_poke4_27 rfl rfl rfl ?_
      refine cb_bipush 30 h dX1_poke4_28 rfl kb_24 ?_
      refine cb_bipush 32 h dX1_poke4_30 rfl kb_8 ?_
      refine cb_iload_n 33 0 h dX1_poke4_32 rfl rfl rfl ?_
      refine cb_imul 34 h dX1_poke4_33 rfl ?_
      refine cb_isub 35 h dX1_poke4_34 rfl ?_
      refine cb_ishr 36 h dX1_poke4_35 rfl ?_
      obtain ⟨σc3, ec3, hf⟩ := cb_bo_o hf
      refine cl_X1_32 39 h dX1_poke4_36 rfl (ct_Memory_putByte ec3) ⟨rfl, rfl, Nat.le_of_ble_eq_true rfl, Nat.le_of_ble_eq_true rfl⟩ rfl (Nat.le_of_ble_eq_true rfl) ?_
      refine cb_iinc 0 (lv' := [(3, .int (1 : Int32)), (0, .ref (a 0)), (1, .int v1), (2, .int v2)]) 42 h dX1_poke4_39 rfl rfl (by decide) (Nat.le_of_ble_eq_true rfl) rfl ?_
      refine cb_goto 15 h dX1_poke4_42 rfl ?_
      refine cb_iload_n 16 0 h dX1_poke4_15 rfl rfl rfl ?_
      refine cb_iconst 17 h dX1_poke4_16 rfl kc_4 ?_
      refine cb_icmp_ge 45 20 h dX1_poke4_17 rfl rfl (fun q => absurd q (by decide)) (fun _ => ?_)
      refine cb_aload_n 21 1 h dX1_poke4_20 rfl rfl rfl ?_
      refine gf_X1_10 24 h dX1_poke4_21 rfl ?_
      refine cb_iload_n 25 2 h dX1_poke4_24 rfl rfl rfl ?_
      refine cb_iload_n 26 0 h dX1_poke4_25 rfl rfl rfl ?_
      refine cb_iadd 27 h dX1_poke4_26 rfl ?_
      refine cb_iload_n 28 3 h dX1_poke4_27 rfl rfl rfl ?_
      refine cb_bipush 30 h dX1_poke4_28 rfl kb_24 ?_
      refine cb_bipush 32 h dX1_poke4_30 rfl kb_8 ?_
      refine cb_iload_n 33 0 h dX1_poke4_32 rfl rfl rfl ?_
      refine cb_imul 34 h dX1_poke4_33 rfl ?_
      refine cb_isub 35 h dX1_poke4_34 rfl ?_
      refine cb_ishr 36 h dX1_poke4_35 rfl ?_
      obtain ⟨σc4, ec4, hf⟩ := cb_bo_o hf
      refine cl_X1_32 39 h dX1_poke4_36 rfl (ct_Memory_putByte ec4) ⟨rfl, rfl, Nat.le_of_ble_eq_true rfl, Nat.le_of_ble_eq_true rfl⟩ rfl (Nat.le_of_ble_eq_true rfl) ?_
      refine cb_iinc 0 (lv' := [(3, .int (2 : Int32)), (0, .ref (a 0)), (1, .int v1), (2, .int v2)]) 42 h dX1_poke4_39 rfl rfl (by decide) (Nat.le_of_ble_eq_true rfl) rfl ?_
      refine cb_goto 15 h dX1_poke4_42 rfl ?_
      refine cb_iload_n 16 0 h dX1_poke4_15 rfl rfl rfl ?_
      refine cb_iconst 17 h dX1_poke4_16 rfl kc_4 ?_
      refine cb_icmp_ge 45 20 h dX1_poke4_17 rfl rfl (fun q => absurd q (by decide)) (fun _ => ?_)
      refine cb_aload_n 21 1 h dX1_poke4_20 rfl rfl rfl ?_
      refine gf_X1_10 24 h dX1_poke4_21 rfl ?_
      refine cb_iload_n 25 2 h dX1_poke4_24 rfl rfl rfl ?_
      refine cb_iload_n 26 0 h dX1_poke4_25 rfl rfl rfl ?_
      refine cb_iadd 27 h dX1_poke4_26 rfl ?_
      refine cb_iload_n 28 3 h dX1_poke4_27 rfl rfl rfl ?_
      refine cb_bipush 30 h dX1_poke4_28 rfl kb_24 ?_
      refine cb_bipush 32 h dX1_poke4_30 rfl kb_8 ?_
      refine cb_iload_n 33 0 h dX1_poke4_32 rfl rfl rfl ?_
      refine cb_imul 34 h dX1_poke4_33 rfl ?_
      refine cb_isub 35 h dX1_poke4_34 rfl ?_
      refine cb_ishr 36 h dX1_poke4_35 rfl ?_
      obtain ⟨σc5, ec5, hf⟩ := cb_bo_o hf
      refine cl_X1_32 39 h dX1_poke4_36 rfl (ct_Memory_putByte ec5) ⟨rfl, rfl, Nat.le_of_ble_eq_true rfl, Nat.le_of_ble_eq_true rfl⟩ rfl (Nat.le_of_ble_eq_true rfl) ?_
      refine cb_iinc 0 (lv' := [(3, .int (3 : Int32)), (0, .ref (a 0)), (1, .int v1), (2, .int v2)]) 42 h dX1_poke4_39 rfl rfl (by decide) (Nat.le_of_ble_eq_true rfl) rfl ?_
      refine cb_goto 15 h dX1_poke4_42 rfl ?_
      refine cb_iload_n 16 0 h dX1_poke4_15 rfl rfl rfl ?_
      refine cb_iconst 17 h dX1_poke4_16 rfl kc_4 ?_
      refine cb_icmp_ge 45 20 h dX1_poke4_17 rfl rfl (fun q => absurd q (by decide)) (fun _ => ?_)
      refine cb_aload_n 21 1 h dX1_poke4_20 rfl rfl rfl ?_
      refine gf_X1_10 24 h dX1_poke4_21 rfl ?_
      refine cb_iload_n 25 2 h dX1_poke4_24 rfl rfl rfl ?_
      refine cb_iload_n 26 0 h dX1_poke4_25 rfl rfl rfl ?_
      refine cb_iadd 27 h dX1_poke4_26 rfl ?_
      refine cb_iload_n 28 3 h dX1_poke4_27 rfl rfl rfl ?_
      refine cb_bipush 30 h dX1_poke4_28 rfl kb_24 ?_
      refine cb_bipush 32 h dX1_poke4_30 rfl kb_8 ?_
      refine cb_iload_n 33 0 h dX1_poke4_32 rfl rfl rfl ?_
      refine cb_imul 34 h dX1_poke4_33 rfl ?_
      refine cb_isub 35 h dX1_poke4_34 rfl ?_
      refine cb_ishr 36 h dX1_poke4_35 rfl ?_
      obtain ⟨σc6, ec6, hf⟩ := cb_bo_o hf
      refine cl_X1_32 39 h dX1_poke4_36 rfl (ct_Memory_putByte ec6) ⟨rfl, rfl, Nat.le_of_ble_eq_true rfl, Nat.le_of_ble_eq_true rfl⟩ rfl (Nat.le_of_ble_eq_true rfl) ?_
      refine cb_iinc 0 (lv' := [(3, .int (4 : Int32)), (0, .ref (a 0)), (1, .int v1), (2, .int v2)]) 42 h dX1_poke4_39 rfl rfl (by decide) (Nat.le_of_ble_eq_true rfl) rfl ?_
      refine cb_goto 15 h dX1_poke4_42 rfl ?_
      refine cb_iload_n 16 0 h dX1_poke4_15 rfl rfl rfl ?_
      refine cb_iconst 17 h dX1_poke4_16 rfl kc_4 ?_
      refine cb_icmp_ge 45 20 h dX1_poke4_17 rfl rfl (fun _ => ?_) (fun q => absurd q (by decide))
      refine cb_iconst 46 h dX1_poke4_45 rfl kc_1 ?_
      exact cb_retZ (Wf := WC a ca) h dX1_poke4_46 he cb_01_1 hf
    · have hf := cb_if q2 hf
      refine cb_iconst 12 h dX1_poke4_11 rfl kc_0 ?_
      exact cb_retZ (Wf := WC a ca) h dX1_poke4_12 he cb_01_0 hf
set_option maxRecDepth 100000 in
set_option maxHeartbeats 4000000 in
theorem ct_Memory_byteAt {l : Launch} {D : va_G} {a : Nat → Nat} {ca : Nat → ClassId} {σ : cb_S} {v1 : Int32} {r : Int32} (hf : c_Memory_byteAt σ v1 = some r) : cb_C l yX7_byteAt cX7_byteAt 2 (some .int) { frames := 0, cells := 0, slots := 0, locals := 0 } D (EC ca) (adC a) [.ref (a 1), .int v1] (WC a ca σ) (some (.int r)) (WC a ca σ) := by
  refine cb_mk [(0, .ref (a 1)), (1, .int v1)] (by decide) (Nat.le_of_ble_eq_true rfl) rfl (fun X h he => ?_) goodC
  have h : cb_ok X cX7_byteAt RX7 (EC ca) 0 0 2 := h
  unfold c_Memory_byteAt at hf
  refine cb_aload_n 1 0 h dX7_byteAt_0 rfl rfl rfl ?_
  refine gf_X7_9 4 h dX7_byteAt_1 rfl ?_
  refine cb_iload_n 5 1 h dX7_byteAt_4 rfl rfl rfl ?_
  refine cb_sipush 8 h dX7_byteAt_5 rfl ks_1023 ?_
  refine cb_iand 9 h dX7_byteAt_8 rfl ?_
  refine laC_4 10 h dX7_byteAt_9 rfl (vm_1023 _) rfl ?_
  exact cb_retJ h dX7_byteAt_10 he hf
set_option maxRecDepth 100000 in
set_option maxHeartbeats 4000000 in
theorem ct_Board_peek {l : Launch} {D : va_G} {a : Nat → Nat} {ca : Nat → ClassId} {σ : cb_S} {v1 : Int32} {r : Int32} (hf : c_Board_peek σ v1 = some r) : cb_C l yX1_peek cX1_peek 2 (some .int) { frames := 1, cells := 0, slots := 0, locals := 21 } D (EC ca) (adC a) [.ref (a 0), .int v1] (WC a ca σ) (some (.int r)) (WC a ca σ) := by
  refine cb_mk [(0, .ref (a 0)), (1, .int v1)] (by decide) (Nat.le_of_ble_eq_true rfl) rfl (fun X h he => ?_) goodC
  have h : cb_ok X cX1_peek RX1 (EC ca) 1 21 2 := h
  unfold c_Board_peek at hf
  refine cb_iload_n 1 1 h dX1_peek_0 rfl rfl rfl ?_
  refine cb_if_lt 11 4 h dX1_peek_1 rfl rfl (fun q1 => ?_) (fun q1 => ?_)
  · have hf := cb_it q1 hf
    refine cb_iconst 12 h dX1_peek_11 rfl kc_m1 ?_
    exact cb_retJ h dX1_peek_12 he hf
  · have hf := cb_if q1 hf
    refine cb_iload_n 5 1 h dX1_peek_4 rfl rfl rfl ?_
    refine cb_sipush 8 h dX1_peek_5 rfl ks_1024 ?_
    refine cb_icmp_lt 13 11 h dX1_peek_8 rfl rfl (fun q2 => ?_) (fun q2 => ?_)
    · have hf := cb_it q2 hf
      refine cb_aload_n 14 0 h dX1_peek_13 rfl rfl rfl ?_
      refine gf_X1_10 17 h dX1_peek_14 rfl ?_
      refine cb_iload_n 18 1 h dX1_peek_17 rfl rfl rfl ?_
      obtain ⟨c3, ec3, hf⟩ := cb_bo_o hf
      refine cl_X1_36 21 h dX1_peek_18 rfl (ct_Memory_byteAt ec3) ⟨rfl, rfl, Nat.le_of_ble_eq_true rfl, Nat.le_of_ble_eq_true rfl⟩ rfl (Nat.le_of_ble_eq_true rfl) ?_
      exact cb_retJ h dX1_peek_21 he hf
    · have hf := cb_if q2 hf
      refine cb_iconst 12 h dX1_peek_11 rfl kc_m1 ?_
      exact cb_retJ h dX1_peek_12 he hf
set_option maxRecDepth 100000 in
set_option maxHeartbeats 4000000 in
theorem ct_Registers_facePair {l : Launch} {D : va_G} {ca : Nat → ClassId} {w : va_W} {v0 : Int32} {r : Int32} {as : List Nat} (hf : c_Registers_facePair v0 = some r) : cb_C l yX10_facePair cX10_facePair 1 (some .int) { frames := 0, cells := 0, slots := 0, locals := 0 } D (EC ca) (as) [.int v0] (w) (some (.int r)) (w) := by
  refine cb_mk [(0, .int v0)] (by decide) (Nat.le_of_ble_eq_true rfl) rfl (fun X h he => ?_) goodC
  have h : cb_ok X cX10_facePair RX10 (EC ca) 0 0 1 := h
  unfold c_Registers_facePair at hf
  refine cb_iload_n 1 0 h dX10_facePair_0 rfl rfl rfl ?_
  refine cb_iconst 2 h dX10_facePair_1 rfl kc_3 ?_
  refine cb_iadd 3 h dX10_facePair_2 rfl ?_
  refine cb_iconst 4 h dX10_facePair_3 rfl kc_3 ?_
  refine cb_iand 5 h dX10_facePair_4 rfl ?_
  exact cb_retJ h dX10_facePair_5 he hf
set_option maxRecDepth 100000 in
set_option maxHeartbeats 4000000 in
theorem ct_Bank_pair {l : Launch} {D : va_G} {a : Nat → Nat} {ca : Nat → ClassId} {j : Nat} {σ : cb_S} {v1 : Int32} {r : Int32} (hj : cb_isBank j) (hf : c_Bank_pair j σ v1 = some r) : cb_C l yX2_pair cX2_pair 3 (some .int) { frames := 0, cells := 0, slots := 0, locals := 0 } D (EC ca) (adC a) [.ref (a j), .int v1] (WC a ca σ) (some (.int r)) (WC a ca σ) := by
  refine cb_mk [(0, .ref (a j)), (1, .int v1)] (by decide) (Nat.le_of_ble_eq_true rfl) rfl (fun X h he => ?_) goodC
  have h : cb_ok X cX2_pair RX2 (EC ca) 0 0 3 := h
  unfold c_Bank_pair at hf
  refine cb_iload_n 1 1 h dX2_pair_0 rfl rfl rfl ?_
  refine cb_iconst 2 h dX2_pair_1 rfl kc_3 ?_
  refine cb_icmp_ne 24 5 h dX2_pair_2 rfl rfl (fun q1 => ?_) (fun q1 => ?_)
  · have hf := cb_if q1 hf
    refine cb_iconst 25 h dX2_pair_24 rfl kc_2 ?_
    refine cb_iload_n 26 1 h dX2_pair_25 rfl rfl rfl ?_
    refine cb_iconst 27 h dX2_pair_26 rfl kc_3 ?_
    refine cb_iand 28 h dX2_pair_27 rfl ?_
    refine cb_imul 29 h dX2_pair_28 rfl ?_
    obtain ⟨t2, e3, hf⟩ := cb_let_o hf
    refine cb_istore_n (lv' := [(2, .int t2), (0, .ref (a j)), (1, .int v1)]) 30 h dX2_pair_29 rfl rfl e3 (Nat.le_of_ble_eq_true rfl) rfl ?_
    refine cb_aload_n 31 1 h dX2_pair_30 rfl rfl rfl ?_
    refine gf_X2_7 34 h dX2_pair_31 rfl hj ?_
    refine cb_iload_n 35 0 h dX2_pair_34 rfl rfl rfl ?_
    obtain ⟨g4, hf⟩ := cb_gd_o hf
    refine laC_b 36 h dX2_pair_35 rfl hj (cb_in_v g4) rfl ?_
    refine cb_bipush 38 h dX2_pair_36 rfl kb_8 ?_
    refine cb_ishl 39 h dX2_pair_38 rfl ?_
    refine cb_aload_n 40 1 h dX2_pair_39 rfl rfl rfl ?_
    refine gf_X2_7 43 h dX2_pair_40 rfl hj ?_
    refine cb_iload_n 44 0 h dX2_pair_43 rfl rfl rfl ?_
    refine cb_iconst 45 h dX2_pair_44 rfl kc_1 ?_
    refine cb_iadd 46 h dX2_pair_45 rfl ?_
    obtain ⟨g5, hf⟩ := cb_gd_o hf
    refine laC_b 47 h dX2_pair_46 rfl hj (cb_in_v g5) rfl ?_
    refine cb_ior 48 h dX2_pair_47 rfl ?_
    exact cb_retJ h dX2_pair_48 he hf
  · have hf := cb_it q1 hf
    refine cb_aload_n 6 0 h dX2_pair_5 rfl rfl rfl ?_
    refine gf_X2_7 9 h dX2_pair_6 rfl hj ?_
    refine cb_bipush 11 h dX2_pair_9 rfl kb_7 ?_
    refine laC_b 12 h dX2_pair_11 rfl hj vi_7_8 tk_7 ?_
    refine cb_bipush 14 h dX2_pair_12 rfl kb_8 ?_
    refine cb_ishl 15 h dX2_pair_14 rfl ?_
    refine cb_aload_n 16 0 h dX2_pair_15 rfl rfl rfl ?_
    refine gf_X2_7 19 h dX2_pair_16 rfl hj ?_
    refine cb_bipush 21 h dX2_pair_19 rfl kb_6 ?_
    refine laC_b 22 h dX2_pair_21 rfl hj vi_6_8 tk_6 ?_
    refine cb_ior 23 h dX2_pair_22 rfl ?_
    exact cb_retJ h dX2_pair_23 he hf
set_option maxRecDepth 100000 in
set_option maxHeartbeats 4000000 in
theorem ct_Registers_numbered {l : Launch} {D : va_G} {a : Nat → Nat} {ca : Nat → ClassId} {σ : cb_S} {v1 : Int32} {r : Int32} (hf : c_Registers_numbered σ v1 = some r) : cb_C l yX10_numbered cX10_numbered 2 (some .int) { frames := 1, cells := 0, slots := 0, locals := 22 } D (EC ca) (adC a) [.ref (a 10), .int v1] (WC a ca σ) (some (.int r)) (WC a ca σ) := by
  refine cb_mk [(0, .ref (a 10)), (1, .int v1)] (by decide) (Nat.le_of_ble_eq_true rfl) rfl (fun X h he => ?_) goodC
  have h : cb_ok X cX10_numbered RX10 (EC ca) 1 22 2 := h
  unfold c_Registers_numbered at hf
  refine cb_iload_n 1 1 h dX10_numbered_0 rfl rfl rfl ?_
  by_cases q1 : v1 = 0 ∨ v1 = 1 ∨ v1 = 2 ∨ v1 = 3
  · have hf := cb_it q1 hf
    refine cb_cut (cb_V X (WC a ca σ) 60 [(0, .ref (a 10)), (1, .int v1)] []) (fun jj => ?_) ?_
    · rcases q1 with q1 | q1 | q1 | q1
      · exact cb_tabI 60 h dX10_numbered_1 q1 (by decide) (by decide) rfl rfl jj
      · exact cb_tabI 60 h dX10_numbered_1 q1 (by decide) (by decide) rfl rfl jj
      · exact cb_tabI 60 h dX10_numbered_1 q1 (by decide) (by decide) rfl rfl jj
      · exact cb_tabI 60 h dX10_numbered_1 q1 (by decide) (by decide) rfl rfl jj
    refine cb_aload_n 61 0 h dX10_numbered_60 rfl rfl rfl ?_
    refine gf_X10_12 64 h dX10_numbered_61 rfl ?_
    refine cb_iload_n 65 1 h dX10_numbered_64 rfl rfl rfl ?_
    obtain ⟨c2, ec2, hf⟩ := cb_bo_o hf
    refine cl_X10_40 68 h dX10_numbered_65 rfl (ct_Registers_facePair ec2) ⟨rfl, rfl, Nat.le_of_ble_eq_true rfl, Nat.le_of_ble_eq_true rfl⟩ rfl (Nat.le_of_ble_eq_true rfl) ?_
    obtain ⟨c3, ec3, hf⟩ := cb_bo_o hf
    refine cl_X10_32 71 h dX10_numbered_68 rfl bank_11 (ct_Bank_pair bank_11 ec3) ⟨rfl, rfl, Nat.le_of_ble_eq_true rfl, Nat.le_of_ble_eq_true rfl⟩ rfl (Nat.le_of_ble_eq_true rfl) ?_
    exact cb_retJ h dX10_numbered_71 he hf
  have hf := cb_if q1 hf
  by_cases q4 : v1 = 4 ∨ v1 = 5 ∨ v1 = 6 ∨ v1 = 7
  · have hf := cb_it q4 hf
    refine cb_cut (cb_V X (WC a ca σ) 72 [(0, .ref (a 10)), (1, .int v1)] []) (fun jj => ?_) ?_
    · rcases q4 with q4 | q4 | q4 | q4
      · exact cb_tabI 72 h dX10_numbered_1 q4 (by decide) (by decide) rfl rfl jj
      · exact cb_tabI 72 h dX10_numbered_1 q4 (by decide) (by decide) rfl rfl jj
      · exact cb_tabI 72 h dX10_numbered_1 q4 (by decide) (by decide) rfl rfl jj
      · exact cb_tabI 72 h dX10_numbered_1 q4 (by decide) (by decide) rfl rfl jj
    refine cb_aload_n 73 0 h dX10_numbered_72 rfl rfl rfl ?_
    refine gf_X10_18 76 h dX10_numbered_73 rfl ?_
    refine cb_iload_n 77 1 h dX10_numbered_76 rfl rfl rfl ?_
    obtain ⟨c5, ec5, hf⟩ := cb_bo_o hf
    refine cl_X10_40 80 h dX10_numbered_77 rfl (ct_Registers_facePair ec5) ⟨rfl, rfl, Nat.le_of_ble_eq_true rfl, Nat.le_of_ble_eq_true rfl⟩ rfl (Nat.le_of_ble_eq_true rfl) ?_
    obtain ⟨c6, ec6, hf⟩ := cb_bo_o hf
    refine cl_X10_32 83 h dX10_numbered_80 rfl bank_13 (ct_Bank_pair bank_13 ec6) ⟨rfl, rfl, Nat.le_of_ble_eq_true rfl, Nat.le_of_ble_eq_true rfl⟩ rfl (Nat.le_of_ble_eq_true rfl) ?_
    exact cb_retJ h dX10_numbered_83 he hf
  have hf := cb_if q4 hf
  by_cases q7 : v1 = 8
  · have hf := cb_it q7 hf
    refine cb_tabI 84 h dX10_numbered_1 q7 (by decide) (by decide) rfl rfl ?_
    refine cb_aload_n 85 0 h dX10_numbered_84 rfl rfl rfl ?_
    refine gf_X10_22 88 h dX10_numbered_85 rfl ?_
    exact cb_retJ h dX10_numbered_88 he hf
  have hf := cb_if q7 hf
  by_cases q8 : v1 = 9
  · have hf := cb_it q8 hf
    refine cb_tabI 89 h dX10_numbered_1 q8 (by decide) (by decide) rfl rfl ?_
    refine cb_aload_n 90 0 h dX10_numbered_89 rfl rfl rfl ?_
    refine gf_X10_26 93 h dX10_numbered_90 rfl ?_
    exact cb_retJ h dX10_numbered_93 he hf
  have hf := cb_if q8 hf
  by_cases q9 : v1 = 10
  · have hf := cb_it q9 hf
    refine cb_tabI 94 h dX10_numbered_1 q9 (by decide) (by decide) rfl rfl ?_
    refine cb_aload_n 95 0 h dX10_numbered_94 rfl rfl rfl ?_
    refine gf_X10_29 98 h dX10_numbered_95 rfl ?_
    exact cb_retJ h dX10_numbered_98 he hf
  have hf := cb_if q9 hf
  refine cb_tabO 99 h dX10_numbered_1 (by have t0 := lv_neT (a := 0) (cb_no4_0 q1) (by decide); have t1 := lv_neT (a := 1) (cb_no4_1 q1) (by decide); have t2 := lv_neT (a := 2) (cb_no4_2 q1) (by decide); have t3 := lv_neT (a := 3) (cb_no4_3 q1) (by decide); have t4 := lv_neT (a := 4) (cb_no4_0 q4) (by decide); have t5 := lv_neT (a := 5) (cb_no4_1 q4) (by decide); have t6 := lv_neT (a := 6) (cb_no4_2 q4) (by decide); have t7 := lv_neT (a := 7) (cb_no4_3 q4) (by decide); have t8 := lv_neT (a := 8) q7 (by decide); have t9 := lv_neT (a := 9) q8 (by decide); have t10 := lv_neT (a := 10) q9 (by decide); omega) rfl ?_
  refine cb_iconst 100 h dX10_numbered_99 rfl kc_m1 ?_
  exact cb_retJ h dX10_numbered_100 he hf
set_option maxRecDepth 100000 in
set_option maxHeartbeats 4000000 in
theorem ct_Board_register {l : Launch} {D : va_G} {a : Nat → Nat} {ca : Nat → ClassId} {σ : cb_S} {v1 : Int32} {r : Int32} (hf : c_Board_register σ v1 = some r) : cb_C l yX1_register cX1_register 2 (some .int) { frames := 2, cells := 0, slots := 0, locals := 43 } D (EC ca) (adC a) [.ref (a 0), .int v1] (WC a ca σ) (some (.int r)) (WC a ca σ) := by
  refine cb_mk [(0, .ref (a 0)), (1, .int v1)] (by decide) (Nat.le_of_ble_eq_true rfl) rfl (fun X h he => ?_) goodC
  have h : cb_ok X cX1_register RX1 (EC ca) 2 43 2 := h
  unfold c_Board_register at hf
  refine cb_iload_n 1 1 h dX1_register_0 rfl rfl rfl ?_
  by_cases q1 : v1 = 11
  · have hf := cb_it q1 hf
    refine cb_look 28 h dX1_register_1 rfl (cb_lko q1 rfl) rfl ?_
    refine cb_aload_n 29 0 h dX1_register_28 rfl rfl rfl ?_
    refine gf_X1_28 32 h dX1_register_29 rfl ?_
    refine gf_X1_40 35 h dX1_register_32 rfl ?_
    refine cb_cut (cb_V X (WC a ca σ) 43 [(0, .ref (a 0)), (1, .int v1)] [.int (if (σ 3 5) = 0 then (0 : Int32) else (1 : Int32))]) (fun jj => ?_) ?_
    · refine cb_if_eq 42 38 h dX1_register_35 rfl rfl (fun q2 => ?_) (fun q2 => ?_)
      · refine cb_iconst 43 h dX1_register_42 rfl kc_0 ?_
        exact (cb_tt q2 jj)
      · refine cb_iconst 39 h dX1_register_38 rfl kc_1 ?_
        refine cb_goto 43 h dX1_register_39 rfl ?_
        exact (cb_tf q2 jj)
    exact cb_retJ h dX1_register_43 he hf
  have hf := cb_if q1 hf
  by_cases q3 : v1 = 12
  · have hf := cb_it q3 hf
    refine cb_look 44 h dX1_register_1 rfl (cb_lko q3 rfl) rfl ?_
    refine cb_aload_n 45 0 h dX1_register_44 rfl rfl rfl ?_
    refine gf_X1_28 48 h dX1_register_45 rfl ?_
    refine gf_X1_44 51 h dX1_register_48 rfl ?_
    exact cb_retJ h dX1_register_51 he hf
  have hf := cb_if q3 hf
  refine cb_look 52 h dX1_register_1 rfl ((lv_osw q1 (by decide)).trans ((lv_osw q3 (by decide)).trans rfl)) rfl ?_
  refine cb_aload_n 53 0 h dX1_register_52 rfl rfl rfl ?_
  refine gf_X1_28 56 h dX1_register_53 rfl ?_
  refine gf_X1_48 59 h dX1_register_56 rfl ?_
  refine cb_iload_n 60 1 h dX1_register_59 rfl rfl rfl ?_
  obtain ⟨c4, ec4, hf⟩ := cb_bo_o hf
  refine cl_X1_52 63 h dX1_register_60 rfl (ct_Registers_numbered ec4) ⟨rfl, rfl, Nat.le_of_ble_eq_true rfl, Nat.le_of_ble_eq_true rfl⟩ rfl (Nat.le_of_ble_eq_true rfl) ?_
  exact cb_retJ h dX1_register_63 he hf
set_option maxRecDepth 100000 in
set_option maxHeartbeats 4000000 in
theorem ct_Bank_putPair {l : Launch} {D : va_G} {a : Nat → Nat} {ca : Nat → ClassId} {j : Nat} {σ σ' : cb_S} {v1 v2 : Int32} (hj : cb_isBank j) (hf : c_Bank_putPair j σ v1 v2 = some σ') : cb_C l yX2_putPair cX2_putPair 6 none { frames := 0, cells := 0, slots := 0, locals := 0 } D (EC ca) (adC a) [.ref (a j), .int v1, .int v2] (WC a ca σ) none (WC a ca σ') := by
  refine cb_mk [(0, .ref (a j)), (1, .int v1), (2, .int v2)] (by decide) (Nat.le_of_ble_eq_true rfl) rfl (fun X h he => ?_) goodC
  have h : cb_ok X cX2_putPair RX2 (EC ca) 0 0 6 := h
  unfold c_Bank_putPair at hf
  refine cb_iload_n 1 2 h dX2_putPair_0 rfl rfl rfl ?_
  refine cb_bipush 3 h dX2_putPair_1 rfl kb_8 ?_
  refine cb_ishr 4 h dX2_putPair_3 rfl ?_
  refine cb_sipush 7 h dX2_putPair_4 rfl ks_255 ?_
  refine cb_iand 8 h dX2_putPair_7 rfl ?_
  obtain ⟨t1, e2, hf⟩ := cb_let_o hf
  refine cb_istore_n (lv' := [(3, .int t1), (0, .ref (a j)), (1, .int v1), (2, .int v2)]) 9 h dX2_putPair_8 rfl rfl e2 (Nat.le_of_ble_eq_true rfl) rfl ?_
  refine cb_iload_n 10 3 h dX2_putPair_9 rfl rfl rfl ?_
  refine cb_sipush 13 h dX2_putPair_10 rfl ks_255 ?_
  refine cb_iand 14 h dX2_putPair_13 rfl ?_
  obtain ⟨t3, e4, hf⟩ := cb_let_o hf
  refine cb_istore (lv' := [(4, .int t3), (3, .int t1), (0, .ref (a j)), (1, .int v1), (2, .int v2)]) 16 h dX2_putPair_14 rfl e4 (Nat.le_of_ble_eq_true rfl) rfl ?_
  refine cb_iload_n 17 3 h dX2_putPair_16 rfl rfl rfl ?_
  refine cb_iconst 18 h dX2_putPair_17 rfl kc_3 ?_
  refine cb_icmp_ne 43 21 h dX2_putPair_18 rfl rfl (fun q5 => ?_) (fun q5 => ?_)
  · have hf := cb_if q5 hf
    refine cb_iconst 44 h dX2_putPair_43 rfl kc_2 ?_
    refine cb_iload_n 45 3 h dX2_putPair_44 rfl rfl rfl ?_
    refine cb_iconst 46 h dX2_putPair_45 rfl kc_3 ?_
    refine cb_iand 47 h dX2_putPair_46 rfl ?_
    refine cb_imul 48 h dX2_putPair_47 rfl ?_
    obtain ⟨t6, e7, hf⟩ := cb_let_o hf
    refine cb_istore (lv' := [(5, .int t6), (4, .int t3), (3, .int t1), (0, .ref (a j)), (1, .int v1), (2, .int v2)]) 50 h dX2_putPair_48 rfl e7 (Nat.le_of_ble_eq_true rfl) rfl ?_
    refine cb_aload_n 51 3 h dX2_putPair_50 rfl rfl rfl ?_
    refine gf_X2_7 54 h dX2_putPair_51 rfl hj ?_
    refine cb_iload 56 0 h dX2_putPair_54 rfl rfl ?_
    refine cb_iload_n 57 2 h dX2_putPair_56 rfl rfl rfl ?_
    obtain ⟨g8, hf⟩ := cb_gd_o hf
    obtain ⟨σ9, e10, hf⟩ := cb_let_o hf
    refine saC_b 58 h dX2_putPair_57 rfl hj (cb_in_v g8) rfl e10 ?_
    refine cb_aload_n 59 3 h dX2_putPair_58 rfl rfl rfl ?_
    refine gf_X2_7 62 h dX2_putPair_59 rfl hj ?_
    refine cb_iload 64 0 h dX2_putPair_62 rfl rfl ?_
    refine cb_iconst 65 h dX2_putPair_64 rfl kc_1 ?_
    refine cb_iadd 66 h dX2_putPair_65 rfl ?_
    refine cb_iload 68 1 h dX2_putPair_66 rfl rfl ?_
    obtain ⟨g11, hf⟩ := cb_gd_o hf
    obtain ⟨σ12, e13, hf⟩ := cb_let_o hf
    refine saC_b 69 h dX2_putPair_68 rfl hj (cb_in_v g11) rfl e13 ?_
    exact cb_retV (Wf := WC a ca) h dX2_putPair_69 he hf
  · have hf := cb_it q5 hf
    refine cb_aload_n 22 2 h dX2_putPair_21 rfl rfl rfl ?_
    refine gf_X2_7 25 h dX2_putPair_22 rfl hj ?_
    refine cb_bipush 27 h dX2_putPair_25 rfl kb_7 ?_
    refine cb_iload_n 28 1 h dX2_putPair_27 rfl rfl rfl ?_
    obtain ⟨σ14, e15, hf⟩ := cb_let_o hf
    refine saC_b 29 h dX2_putPair_28 rfl hj vi_7_8 tk_7 e15 ?_
    refine cb_aload_n 30 2 h dX2_putPair_29 rfl rfl rfl ?_
    refine gf_X2_7 33 h dX2_putPair_30 rfl hj ?_
    refine cb_bipush 35 h dX2_putPair_33 rfl kb_6 ?_
    refine cb_iload 37 0 h dX2_putPair_35 rfl rfl ?_
    refine cb_sipush 40 h dX2_putPair_37 rfl ks_215 ?_
    refine cb_iand 41 h dX2_putPair_40 rfl ?_
    obtain ⟨σ16, e17, hf⟩ := cb_let_o hf
    refine saC_b 42 h dX2_putPair_41 rfl hj vi_6_8 tk_6 e17 ?_
    exact cb_retV (Wf := WC a ca) h dX2_putPair_42 he hf
set_option maxRecDepth 100000 in
set_option maxHeartbeats 4000000 in
theorem ct_Registers_putNumbered {l : Launch} {D : va_G} {a : Nat → Nat} {ca : Nat → ClassId} {σ σ' : cb_S} {v1 v2 : Int32} {r : Int32} (hf : c_Registers_putNumbered σ v1 v2 = some (r, σ')) : cb_C l yX10_putNumbered cX10_putNumbered 3 (some .boolean) { frames := 1, cells := 0, slots := 0, locals := 25 } D (EC ca) (adC a) [.ref (a 10), .int v1, .int v2] (WC a ca σ) (some (.int r)) (WC a ca σ') := by
  refine cb_mk [(0, .ref (a 10)), (1, .int v1), (2, .int v2)] (by decide) (Nat.le_of_ble_eq_true rfl) rfl (fun X h he => ?_) goodC
  have h : cb_ok X cX10_putNumbered RX10 (EC ca) 1 25 3 := h
  unfold c_Registers_putNumbered at hf
  refine cb_iload_n 1 1 h dX10_putNumbered_0 rfl rfl rfl ?_
  by_cases q1 : v1 = 0 ∨ v1 = 1 ∨ v1 = 2 ∨ v1 = 3
  · have hf := cb_it q1 hf
    refine cb_cut (cb_V X (WC a ca σ) 60 [(0, .ref (a 10)), (1, .int v1), (2, .int v2)] []) (fun jj => ?_) ?_
    · rcases q1 with q1 | q1 | q1 | q1
      · exact cb_tabI 60 h dX10_putNumbered_1 q1 (by decide) (by decide) rfl rfl jj
      · exact cb_tabI 60 h dX10_putNumbered_1 q1 (by decide) (by decide) rfl rfl jj
      · exact cb_tabI 60 h dX10_putNumbered_1 q1 (by decide) (by decide) rfl rfl jj
      · exact cb_tabI 60 h dX10_putNumbered_1 q1 (by decide) (by decide) rfl rfl jj
    refine cb_aload_n 61 0 h dX10_putNumbered_60 rfl rfl rfl ?_
    refine gf_X10_12 64 h dX10_putNumbered_61 rfl ?_
    refine cb_iload_n 65 1 h dX10_putNumbered_64 rfl rfl rfl ?_
    obtain ⟨c2, ec2, hf⟩ := cb_bo_o hf
    refine cl_X10_40 68 h dX10_putNumbered_65 rfl (ct_Registers_facePair ec2) ⟨rfl, rfl, Nat.le_of_ble_eq_true rfl, Nat.le_of_ble_eq_true rfl⟩ rfl (Nat.le_of_ble_eq_true rfl) ?_
    refine cb_iload_n 69 2 h dX10_putNumbered_68 rfl rfl rfl ?_
    obtain ⟨σc3, ec3, hf⟩ := cb_bo_o hf
    refine cl_X10_36 72 h dX10_putNumbered_69 rfl bank_11 (ct_Bank_putPair bank_11 ec3) ⟨rfl, rfl, Nat.le_of_ble_eq_true rfl, Nat.le_of_ble_eq_true rfl⟩ rfl (Nat.le_of_ble_eq_true rfl) ?_
    refine cb_iconst 73 h dX10_putNumbered_72 rfl kc_1 ?_
    exact cb_retZ (Wf := WC a ca) h dX10_putNumbered_73 he cb_01_1 hf
  have hf := cb_if q1 hf
  by_cases q4 : v1 = 4 ∨ v1 = 5 ∨ v1 = 6 ∨ v1 = 7
  · have hf := cb_it q4 hf
    refine cb_cut (cb_V X (WC a ca σ) 74 [(0, .ref (a 10)), (1, .int v1), (2, .int v2)] []) (fun jj => ?_) ?_
    · rcases q4 with q4 | q4 | q4 | q4
      · exact cb_tabI 74 h dX10_putNumbered_1 q4 (by decide) (by decide) rfl rfl jj
      · exact cb_tabI 74 h dX10_putNumbered_1 q4 (by decide) (by decide) rfl rfl jj
      · exact cb_tabI 74 h dX10_putNumbered_1 q4 (by decide) (by decide) rfl rfl jj
      · exact cb_tabI 74 h dX10_putNumbered_1 q4 (by decide) (by decide) rfl rfl jj
    refine cb_aload_n 75 0 h dX10_putNumbered_74 rfl rfl rfl ?_
    refine gf_X10_18 78 h dX10_putNumbered_75 rfl ?_
    refine cb_iload_n 79 1 h dX10_putNumbered_78 rfl rfl rfl ?_
    obtain ⟨c5, ec5, hf⟩ := cb_bo_o hf
    refine cl_X10_40 82 h dX10_putNumbered_79 rfl (ct_Registers_facePair ec5) ⟨rfl, rfl, Nat.le_of_ble_eq_true rfl, Nat.le_of_ble_eq_true rfl⟩ rfl (Nat.le_of_ble_eq_true rfl) ?_
    refine cb_iload_n 83 2 h dX10_putNumbered_82 rfl rfl rfl ?_
    obtain ⟨σc6, ec6, hf⟩ := cb_bo_o hf
    refine cl_X10_36 86 h dX10_putNumbered_83 rfl bank_13 (ct_Bank_putPair bank_13 ec6) ⟨rfl, rfl, Nat.le_of_ble_eq_true rfl, Nat.le_of_ble_eq_true rfl⟩ rfl (Nat.le_of_ble_eq_true rfl) ?_
    refine cb_iconst 87 h dX10_putNumbered_86 rfl kc_1 ?_
    exact cb_retZ (Wf := WC a ca) h dX10_putNumbered_87 he cb_01_1 hf
  have hf := cb_if q4 hf
  by_cases q7 : v1 = 8
  · have hf := cb_it q7 hf
    refine cb_tabI 88 h dX10_putNumbered_1 q7 (by decide) (by decide) rfl rfl ?_
    refine cb_aload_n 89 0 h dX10_putNumbered_88 rfl rfl rfl ?_
    refine cb_iload_n 90 2 h dX10_putNumbered_89 rfl rfl rfl ?_
    refine cb_ldc 92 h dX10_putNumbered_90 rfl (cb_t1 192 rfl rfl) ?_
    refine cb_iand 93 h dX10_putNumbered_92 rfl ?_
    obtain ⟨σ8, e9, hf⟩ := cb_let_o hf
    refine pf_X10_22 96 h dX10_putNumbered_93 rfl e9 ?_
    refine cb_iconst 97 h dX10_putNumbered_96 rfl kc_1 ?_
    exact cb_retZ (Wf := WC a ca) h dX10_putNumbered_97 he cb_01_1 hf
  have hf := cb_if q7 hf
  by_cases q10 : v1 = 9
  · have hf := cb_it q10 hf
    refine cb_tabI 98 h dX10_putNumbered_1 q10 (by decide) (by decide) rfl rfl ?_
    refine cb_aload_n 99 0 h dX10_putNumbered_98 rfl rfl rfl ?_
    refine cb_iload_n 100 2 h dX10_putNumbered_99 rfl rfl rfl ?_
    refine cb_ldc 102 h dX10_putNumbered_100 rfl (cb_t1 192 rfl rfl) ?_
    refine cb_iand 103 h dX10_putNumbered_102 rfl ?_
    obtain ⟨σ11, e12, hf⟩ := cb_let_o hf
    refine pf_X10_26 106 h dX10_putNumbered_103 rfl e12 ?_
    refine cb_iconst 107 h dX10_putNumbered_106 rfl kc_1 ?_
    exact cb_retZ (Wf := WC a ca) h dX10_putNumbered_107 he cb_01_1 hf
  have hf := cb_if q10 hf
  by_cases q13 : v1 = 10
  · have hf := cb_it q13 hf
    refine cb_tabI 108 h dX10_putNumbered_1 q13 (by decide) (by decide) rfl rfl ?_
    refine cb_aload_n 109 0 h dX10_putNumbered_108 rfl rfl rfl ?_
    refine cb_iload_n 110 2 h dX10_putNumbered_109 rfl rfl rfl ?_
    refine cb_sipush 113 h dX10_putNumbered_110 rfl ks_255 ?_
    refine cb_iand 114 h dX10_putNumbered_113 rfl ?_
    obtain ⟨σ14, e15, hf⟩ := cb_let_o hf
    refine pf_X10_29 117 h dX10_putNumbered_114 rfl e15 ?_
    refine cb_iconst 118 h dX10_putNumbered_117 rfl kc_1 ?_
    exact cb_retZ (Wf := WC a ca) h dX10_putNumbered_118 he cb_01_1 hf
  have hf := cb_if q13 hf
  refine cb_tabO 119 h dX10_putNumbered_1 (by have t0 := lv_neT (a := 0) (cb_no4_0 q1) (by decide); have t1 := lv_neT (a := 1) (cb_no4_1 q1) (by decide); have t2 := lv_neT (a := 2) (cb_no4_2 q1) (by decide); have t3 := lv_neT (a := 3) (cb_no4_3 q1) (by decide); have t4 := lv_neT (a := 4) (cb_no4_0 q4) (by decide); have t5 := lv_neT (a := 5) (cb_no4_1 q4) (by decide); have t6 := lv_neT (a := 6) (cb_no4_2 q4) (by decide); have t7 := lv_neT (a := 7) (cb_no4_3 q4) (by decide); have t8 := lv_neT (a := 8) q7 (by decide); have t9 := lv_neT (a := 9) q10 (by decide); have t10 := lv_neT (a := 10) q13 (by decide); omega) rfl ?_
  refine cb_iconst 120 h dX10_putNumbered_119 rfl kc_0 ?_
  exact cb_retZ (Wf := WC a ca) h dX10_putNumbered_120 he cb_01_0 hf
set_option maxRecDepth 100000 in
set_option maxHeartbeats 4000000 in
theorem ct_Board_set {l : Launch} {D : va_G} {a : Nat → Nat} {ca : Nat → ClassId} {σ σ' : cb_S} {v1 v2 : Int32} {r : Int32} (hf : c_Board_set σ v1 v2 = some (r, σ')) : cb_C l yX1_set cX1_set 3 (some .boolean) { frames := 2, cells := 0, slots := 0, locals := 47 } D (EC ca) (adC a) [.ref (a 0), .int v1, .int v2] (WC a ca σ) (some (.int r)) (WC a ca σ') := by
  refine cb_mk [(0, .ref (a 0)), (1, .int v1), (2, .int v2)] (by decide) (Nat.le_of_ble_eq_true rfl) rfl (fun X h he => ?_) goodC
  have h : cb_ok X cX1_set RX1 (EC ca) 2 47 3 := h
  unfold c_Board_set at hf
  refine cb_aload_n 1 0 h dX1_set_0 rfl rfl rfl ?_
  refine gf_X1_28 4 h dX1_set_1 rfl ?_
  refine gf_X1_48 7 h dX1_set_4 rfl ?_
  refine cb_iload_n 8 1 h dX1_set_7 rfl rfl rfl ?_
  refine cb_iload_n 9 2 h dX1_set_8 rfl rfl rfl ?_
  obtain ⟨c1, σc1, ec1, hf⟩ := cb_b2_o hf
  refine cl_X1_57 12 h dX1_set_9 rfl (ct_Registers_putNumbered ec1) ⟨rfl, rfl, Nat.le_of_ble_eq_true rfl, Nat.le_of_ble_eq_true rfl⟩ rfl (Nat.le_of_ble_eq_true rfl) ?_
  obtain ⟨g2, hf⟩ := cb_gd_o hf
  exact cb_retZ (Wf := WC a ca) h dX1_set_12 he g2 hf
set_option maxRecDepth 100000 in
set_option maxHeartbeats 4000000 in
theorem ct_Processor_nextByte {l : Launch} {D : va_G} {a : Nat → Nat} {ca : Nat → ClassId} {σ σ' : cb_S} {r : Int32} (hf : c_Processor_nextByte σ = some (r, σ')) : cb_C l yX9_nextByte cX9_nextByte 2 (some .int) { frames := 1, cells := 0, slots := 0, locals := 21 } D (EC ca) (adC a) [.ref (a 3)] (WC a ca σ) (some (.int r)) (WC a ca σ') := by
  refine cb_mk [(0, .ref (a 3))] (by decide) (Nat.le_of_ble_eq_true rfl) rfl (fun X h he => ?_) goodC
  have h : cb_ok X cX9_nextByte RX9 (EC ca) 1 21 2 := h
  unfold c_Processor_nextByte at hf
  refine cb_aload_n 1 0 h dX9_nextByte_0 rfl rfl rfl ?_
  refine gf_X9_42 4 h dX9_nextByte_1 rfl ?_
  refine cb_aload_n 5 0 h dX9_nextByte_4 rfl rfl rfl ?_
  refine gf_X9_10 8 h dX9_nextByte_5 rfl ?_
  refine gf_X9_64 11 h dX9_nextByte_8 rfl ?_
  obtain ⟨c1, ec1, hf⟩ := cb_bo_o hf
  refine cl_X9_190 14 h dX9_nextByte_11 rfl (ct_Memory_byteAt ec1) ⟨rfl, rfl, Nat.le_of_ble_eq_true rfl, Nat.le_of_ble_eq_true rfl⟩ rfl (Nat.le_of_ble_eq_true rfl) ?_
  refine cb_istore_n (lv' := [(1, .int c1), (0, .ref (a 3))]) 15 h dX9_nextByte_14 rfl rfl rfl (Nat.le_of_ble_eq_true rfl) rfl ?_
  refine cb_aload_n 16 1 h dX9_nextByte_15 rfl rfl rfl ?_
  refine gf_X9_10 19 h dX9_nextByte_16 rfl ?_
  refine cb_aload_n 20 1 h dX9_nextByte_19 rfl rfl rfl ?_
  refine gf_X9_10 23 h dX9_nextByte_20 rfl ?_
  refine gf_X9_64 26 h dX9_nextByte_23 rfl ?_
  refine cb_iconst 27 h dX9_nextByte_26 rfl kc_1 ?_
  refine cb_iadd 28 h dX9_nextByte_27 rfl ?_
  refine cb_ldc 30 h dX9_nextByte_28 rfl (cb_t2 91 rfl rfl) ?_
  refine cb_iand 31 h dX9_nextByte_30 rfl ?_
  obtain ⟨σ2, e3, hf⟩ := cb_let_o hf
  refine pf_X9_64 34 h dX9_nextByte_31 rfl e3 ?_
  refine cb_iload_n 35 0 h dX9_nextByte_34 rfl rfl rfl ?_
  exact cb_retI (Wf := WC a ca) h dX9_nextByte_35 he hf
set_option maxRecDepth 100000 in
set_option maxHeartbeats 4000000 in
theorem ct_Registers_exchange {l : Launch} {D : va_G} {a : Nat → Nat} {ca : Nat → ClassId} {σ σ' : cb_S} {v1 : Int32} (hf : c_Registers_exchange σ v1 = some σ') : cb_C l yX10_exchange cX10_exchange 3 none { frames := 1, cells := 0, slots := 0, locals := 25 } D (EC ca) (adC a) [.ref (a 10), .int v1] (WC a ca σ) none (WC a ca σ') := by
  refine cb_mk [(0, .ref (a 10)), (1, .int v1)] (by decide) (Nat.le_of_ble_eq_true rfl) rfl (fun X h he => ?_) goodC
  have h : cb_ok X cX10_exchange RX10 (EC ca) 1 25 3 := h
  unfold c_Registers_exchange at hf
  refine cb_aload_n 1 0 h dX10_exchange_0 rfl rfl rfl ?_
  refine gf_X10_12 4 h dX10_exchange_1 rfl ?_
  refine cb_iload_n 5 1 h dX10_exchange_4 rfl rfl rfl ?_
  obtain ⟨c1, ec1, hf⟩ := cb_bo_o hf
  refine cl_X10_32 8 h dX10_exchange_5 rfl bank_11 (ct_Bank_pair bank_11 ec1) ⟨rfl, rfl, Nat.le_of_ble_eq_true rfl, Nat.le_of_ble_eq_true rfl⟩ rfl (Nat.le_of_ble_eq_true rfl) ?_
  refine cb_istore_n (lv' := [(2, .int c1), (0, .ref (a 10)), (1, .int v1)]) 9 h dX10_exchange_8 rfl rfl rfl (Nat.le_of_ble_eq_true rfl) rfl ?_
  refine cb_aload_n 10 1 h dX10_exchange_9 rfl rfl rfl ?_
  refine gf_X10_12 13 h dX10_exchange_10 rfl ?_
  refine cb_iload_n 14 2 h dX10_exchange_13 rfl rfl rfl ?_
  refine cb_aload_n 15 1 h dX10_exchange_14 rfl rfl rfl ?_
  refine gf_X10_18 18 h dX10_exchange_15 rfl ?_
  refine cb_iload_n 19 2 h dX10_exchange_18 rfl rfl rfl ?_
  obtain ⟨c2, ec2, hf⟩ := cb_bo_o hf
  refine cl_X10_32 22 h dX10_exchange_19 rfl bank_13 (ct_Bank_pair bank_13 ec2) ⟨rfl, rfl, Nat.le_of_ble_eq_true rfl, Nat.le_of_ble_eq_true rfl⟩ rfl (Nat.le_of_ble_eq_true rfl) ?_
  obtain ⟨σc3, ec3, hf⟩ := cb_bo_o hf
  refine cl_X10_36 25 h dX10_exchange_22 rfl bank_11 (ct_Bank_putPair bank_11 ec3) ⟨rfl, rfl, Nat.le_of_ble_eq_true rfl, Nat.le_of_ble_eq_true rfl⟩ rfl (Nat.le_of_ble_eq_true rfl) ?_
  refine cb_aload_n 26 1 h dX10_exchange_25 rfl rfl rfl ?_
  refine gf_X10_18 29 h dX10_exchange_26 rfl ?_
  refine cb_iload_n 30 2 h dX10_exchange_29 rfl rfl rfl ?_
  refine cb_iload_n 31 0 h dX10_exchange_30 rfl rfl rfl ?_
  obtain ⟨σc4, ec4, hf⟩ := cb_bo_o hf
  refine cl_X10_36 34 h dX10_exchange_31 rfl bank_13 (ct_Bank_putPair bank_13 ec4) ⟨rfl, rfl, Nat.le_of_ble_eq_true rfl, Nat.le_of_ble_eq_true rfl⟩ rfl (Nat.le_of_ble_eq_true rfl) ?_
  exact cb_retV (Wf := WC a ca) h dX10_exchange_34 he hf
set_option maxRecDepth 100000 in
set_option maxHeartbeats 4000000 in
theorem ct_Processor_goOn {l : Launch} {D : va_G} {a : Nat → Nat} {ca : Nat → ClassId} {σ σ' : cb_S} {v1 : Int32} {r : Int32} (hf : c_Processor_goOn σ v1 = some (r, σ')) : cb_C l yX9_goOn cX9_goOn 3 (some .int) { frames := 2, cells := 0, slots := 0, locals := 42 } D (EC ca) (adC a) [.ref (a 3), .int v1] (WC a ca σ) (some (.int r)) (WC a ca σ') := by
  refine cb_mk [(0, .ref (a 3)), (1, .int v1)] (by decide) (Nat.le_of_ble_eq_true rfl) rfl (fun X h he => ?_) goodC
  have h : cb_ok X cX9_goOn RX9 (EC ca) 2 42 3 := h
  unfold c_Processor_goOn at hf
  refine cb_aload_n 1 0 h dX9_goOn_0 rfl rfl rfl ?_
  obtain ⟨c1, σc1, ec1, hf⟩ := cb_b2_o hf
  refine cl_X9_67 4 h dX9_goOn_1 rfl (ct_Processor_nextByte ec1) ⟨rfl, rfl, Nat.le_of_ble_eq_true rfl, Nat.le_of_ble_eq_true rfl⟩ rfl (Nat.le_of_ble_eq_true rfl) ?_
  refine cb_i2b 5 h dX9_goOn_4 rfl ?_
  obtain ⟨t2, e3, hf⟩ := cb_let_o hf
  refine cb_istore_n (lv' := [(2, .int t2), (0, .ref (a 3)), (1, .int v1)]) 6 h dX9_goOn_5 rfl rfl e3 (Nat.le_of_ble_eq_true rfl) rfl ?_
  refine cb_iload_n 7 2 h dX9_goOn_6 rfl rfl rfl ?_
  refine cb_if_ne 13 10 h dX9_goOn_7 rfl rfl (fun q4 => ?_) (fun q4 => ?_)
  · have hf := cb_if q4 hf
    refine cb_aload_n 14 1 h dX9_goOn_13 rfl rfl rfl ?_
    refine gf_X9_10 17 h dX9_goOn_14 rfl ?_
    refine cb_aload_n 18 1 h dX9_goOn_17 rfl rfl rfl ?_
    refine gf_X9_10 21 h dX9_goOn_18 rfl ?_
    refine gf_X9_64 24 h dX9_goOn_21 rfl ?_
    refine cb_iload_n 25 0 h dX9_goOn_24 rfl rfl rfl ?_
    refine cb_iadd 26 h dX9_goOn_25 rfl ?_
    refine cb_ldc 28 h dX9_goOn_26 rfl (cb_t2 91 rfl rfl) ?_
    refine cb_iand 29 h dX9_goOn_28 rfl ?_
    obtain ⟨σ5, e6, hf⟩ := cb_let_o hf
    refine pf_X9_64 32 h dX9_goOn_29 rfl e6 ?_
    refine cb_bipush 34 h dX9_goOn_32 rfl kb_12 ?_
    exact cb_retI (Wf := WC a ca) h dX9_goOn_34 he hf
  · have hf := cb_it q4 hf
    refine cb_bipush 12 h dX9_goOn_10 rfl kb_7 ?_
    exact cb_retI (Wf := WC a ca) h dX9_goOn_12 he hf
set_option maxRecDepth 100000 in
set_option maxHeartbeats 4000000 in
theorem ct_Processor_condition {l : Launch} {D : va_G} {a : Nat → Nat} {ca : Nat → ClassId} {σ : cb_S} {v1 : Int32} {r : Int32} (hf : c_Processor_condition σ v1 = some r) : cb_C l yX9_condition cX9_condition 4 (some .boolean) { frames := 0, cells := 0, slots := 0, locals := 0 } D (EC ca) (adC a) [.ref (a 3), .int v1] (WC a ca σ) (some (.int r)) (WC a ca σ) := by
  refine cb_mk [(0, .ref (a 3)), (1, .int v1)] (by decide) (Nat.le_of_ble_eq_true rfl) rfl (fun X h he => ?_) goodC
  have h : cb_ok X cX9_condition RX9 (EC ca) 0 0 4 := h
  unfold c_Processor_condition at hf
  have j48 : ∀ (x2 : Int32), c_Processor_condition_L48 v1 σ x2 = some r → cb_V X (WC a ca σ) 48 [(0, .ref (a 3)), (1, .int v1), (2, .int x2)] [] := by
    intro x2 hf
    unfold c_Processor_condition_L48 at hf
    refine cb_aload_n 49 0 h dX9_condition_48 rfl rfl rfl ?_
    refine gf_X9_61 52 h dX9_condition_49 rfl ?_
    refine cb_bipush 54 h dX9_condition_52 rfl kb_6 ?_
    refine laC_12 55 h dX9_condition_54 rfl vi_6_8 tk_6 ?_
    refine cb_iload_n 56 2 h dX9_condition_55 rfl rfl rfl ?_
    refine cb_iand 57 h dX9_condition_56 rfl ?_
    refine cb_cut (cb_V X (WC a ca σ) 65 [(0, .ref (a 3)), (1, .int v1), (2, .int x2)] [.int (if ((σ 12 6) &&& x2) = 0 then (0 : Int32) else (1 : Int32))]) (fun jj => ?_) ?_
    · refine cb_if_eq 64 60 h dX9_condition_57 rfl rfl (fun q1 => ?_) (fun q1 => ?_)
      · refine cb_iconst 65 h dX9_condition_64 rfl kc_0 ?_
        exact (cb_tt q1 jj)
      · refine cb_iconst 61 h dX9_condition_60 rfl kc_1 ?_
        refine cb_goto 65 h dX9_condition_61 rfl ?_
        exact (cb_tf q1 jj)
    obtain ⟨t2, e3, hf⟩ := cb_let_o hf
    refine cb_istore_n (lv' := [(3, .int t2), (0, .ref (a 3)), (1, .int v1), (2, .int x2)]) 66 h dX9_condition_65 rfl rfl e3 (Nat.le_of_ble_eq_true rfl) rfl ?_
    refine cb_iload_n 67 0 h dX9_condition_66 rfl rfl rfl ?_
    refine cb_iload_n 68 2 h dX9_condition_67 rfl rfl rfl ?_
    refine cb_iconst 69 h dX9_condition_68 rfl kc_1 ?_
    refine cb_iand 70 h dX9_condition_69 rfl ?_
    refine cb_cut (cb_V X (WC a ca σ) 78 [(3, .int t2), (0, .ref (a 3)), (1, .int v1), (2, .int x2)] [.int (if (v1 &&& (1 : Int32)) = 0 then (0 : Int32) else (1 : Int32)), .int t2]) (fun jj => ?_) ?_
    · refine cb_if_eq 77 73 h dX9_condition_70 rfl rfl (fun q4 => ?_) (fun q4 => ?_)
      · refine cb_iconst 78 h dX9_condition_77 rfl kc_0 ?_
        exact (cb_tt q4 jj)
      · refine cb_iconst 74 h dX9_condition_73 rfl kc_1 ?_
        refine cb_goto 78 h dX9_condition_74 rfl ?_
        exact (cb_tf q4 jj)
    refine cb_cut (cb_V X (WC a ca σ) 86 [(3, .int t2), (0, .ref (a 3)), (1, .int v1), (2, .int x2)] [.int (if t2 = (if (v1 &&& (1 : Int32)) = 0 then (0 : Int32) else (1 : Int32)) then (1 : Int32) else (0 : Int32))]) (fun jj => ?_) ?_
    · refine cb_icmp_ne 85 81 h dX9_condition_78 rfl rfl (fun q5 => ?_) (fun q5 => ?_)
      · refine cb_iconst 86 h dX9_condition_85 rfl kc_0 ?_
        exact (cb_tf q5 jj)
      · refine cb_iconst 82 h dX9_condition_81 rfl kc_1 ?_
        refine cb_goto 86 h dX9_condition_82 rfl ?_
        exact (cb_tt q5 jj)
    exact cb_retB h dX9_condition_86 he (cb_01_i cb_01_1 cb_01_0) hf
  refine cb_iload_n 1 1 h dX9_condition_0 rfl rfl rfl ?_
  refine cb_iconst 2 h dX9_condition_1 rfl kc_1 ?_
  refine cb_ishr 3 h dX9_condition_2 rfl ?_
  by_cases q6 : (v1 >>> ((1 : Int32) &&& 31)) = 0
  · have hf := cb_it q6 hf
    refine cb_tabI 28 h dX9_condition_3 q6 (by decide) (by decide) rfl rfl ?_
    refine cb_bipush 30 h dX9_condition_28 rfl kb_64 ?_
    refine cb_istore_n (lv' := [(2, .int (64 : Int32)), (0, .ref (a 3)), (1, .int v1)]) 31 h dX9_condition_30 rfl rfl rfl (Nat.le_of_ble_eq_true rfl) rfl ?_
    refine cb_goto 48 h dX9_condition_31 rfl ?_
    exact cb_lv [1, 2, 0] rfl (j48 _ hf)
  have hf := cb_if q6 hf
  by_cases q7 : (v1 >>> ((1 : Int32) &&& 31)) = 1
  · have hf := cb_it q7 hf
    refine cb_tabI 34 h dX9_condition_3 q7 (by decide) (by decide) rfl rfl ?_
    refine cb_iconst 35 h dX9_condition_34 rfl kc_1 ?_
    refine cb_istore_n (lv' := [(2, .int (1 : Int32)), (0, .ref (a 3)), (1, .int v1)]) 36 h dX9_condition_35 rfl rfl rfl (Nat.le_of_ble_eq_true rfl) rfl ?_
    refine cb_goto 48 h dX9_condition_36 rfl ?_
    exact cb_lv [1, 2, 0] rfl (j48 _ hf)
  have hf := cb_if q7 hf
  by_cases q8 : (v1 >>> ((1 : Int32) &&& 31)) = 2
  · have hf := cb_it q8 hf
    refine cb_tabI 39 h dX9_condition_3 q8 (by decide) (by decide) rfl rfl ?_
    refine cb_iconst 40 h dX9_condition_39 rfl kc_4 ?_
    refine cb_istore_n (lv' := [(2, .int (4 : Int32)), (0, .ref (a 3)), (1, .int v1)]) 41 h dX9_condition_40 rfl rfl rfl (Nat.le_of_ble_eq_true rfl) rfl ?_
    refine cb_goto 48 h dX9_condition_41 rfl ?_
    exact cb_lv [1, 2, 0] rfl (j48 _ hf)
  have hf := cb_if q8 hf
  refine cb_tabO 44 h dX9_condition_3 (by have t0 := lv_neT (a := 0) q6 (by decide); have t1 := lv_neT (a := 1) q7 (by decide); have t2 := lv_neT (a := 2) q8 (by decide); omega) rfl ?_
  refine cb_sipush 47 h dX9_condition_44 rfl ks_128 ?_
  refine cb_istore_n (lv' := [(2, .int (128 : Int32)), (0, .ref (a 3)), (1, .int v1)]) 48 h dX9_condition_47 rfl rfl rfl (Nat.le_of_ble_eq_true rfl) rfl ?_
  exact cb_lv [1, 2, 0] rfl (j48 _ hf)
set_option maxRecDepth 100000 in
set_option maxHeartbeats 4000000 in
theorem ct_Processor_relative {l : Launch} {D : va_G} {a : Nat → Nat} {ca : Nat → ClassId} {σ σ' : cb_S} {v1 : Int32} {r : Int32} (hf : c_Processor_relative σ v1 = some (r, σ')) : cb_C l yX9_relative cX9_relative 2 (some .int) { frames := 3, cells := 0, slots := 0, locals := 64 } D (EC ca) (adC a) [.ref (a 3), .int v1] (WC a ca σ) (some (.int r)) (WC a ca σ') := by
  refine cb_mk [(0, .ref (a 3)), (1, .int v1)] (by decide) (Nat.le_of_ble_eq_true rfl) rfl (fun X h he => ?_) goodC
  have h : cb_ok X cX9_relative RX9 (EC ca) 3 64 2 := h
  unfold c_Processor_relative at hf
  refine cb_iload_n 1 1 h dX9_relative_0 rfl rfl rfl ?_
  by_cases q1 : v1 = 0
  · have hf := cb_it q1 hf
    refine cb_tabI 32 h dX9_relative_1 q1 (by decide) (by decide) rfl rfl ?_
    refine cb_iconst 33 h dX9_relative_32 rfl kc_4 ?_
    exact cb_retI (Wf := WC a ca) h dX9_relative_33 he hf
  have hf := cb_if q1 hf
  by_cases q2 : v1 = 1
  · have hf := cb_it q2 hf
    refine cb_tabI 34 h dX9_relative_1 q2 (by decide) (by decide) rfl rfl ?_
    refine cb_aload_n 35 0 h dX9_relative_34 rfl rfl rfl ?_
    refine gf_X9_10 38 h dX9_relative_35 rfl ?_
    refine cb_iconst 39 h dX9_relative_38 rfl kc_3 ?_
    obtain ⟨σc3, ec3, hf⟩ := cb_bo_o hf
    refine cl_X9_160 42 h dX9_relative_39 rfl (ct_Registers_exchange ec3) ⟨rfl, rfl, Nat.le_of_ble_eq_true rfl, Nat.le_of_ble_eq_true rfl⟩ rfl (Nat.le_of_ble_eq_true rfl) ?_
    refine cb_iconst 43 h dX9_relative_42 rfl kc_4 ?_
    exact cb_retI (Wf := WC a ca) h dX9_relative_43 he hf
  have hf := cb_if q2 hf
  by_cases q4 : v1 = 2
  · have hf := cb_it q4 hf
    refine cb_tabI 44 h dX9_relative_1 q4 (by decide) (by decide) rfl rfl ?_
    refine cb_aload_n 45 0 h dX9_relative_44 rfl rfl rfl ?_
    refine gf_X9_61 48 h dX9_relative_45 rfl ?_
    refine cb_iconst 49 h dX9_relative_48 rfl kc_0 ?_
    refine cb_aload_n 50 0 h dX9_relative_49 rfl rfl rfl ?_
    refine gf_X9_61 53 h dX9_relative_50 rfl ?_
    refine cb_iconst 54 h dX9_relative_53 rfl kc_0 ?_
    refine laC_12 55 h dX9_relative_54 rfl vi_0_8 tk_0 ?_
    refine cb_iconst 56 h dX9_relative_55 rfl kc_1 ?_
    refine cb_isub 57 h dX9_relative_56 rfl ?_
    refine cb_sipush 60 h dX9_relative_57 rfl ks_255 ?_
    refine cb_iand 61 h dX9_relative_60 rfl ?_
    obtain ⟨σ5, e6, hf⟩ := cb_let_o hf
    refine saC_12 62 h dX9_relative_61 rfl vi_0_8 tk_0 e6 ?_
    refine cb_aload_n 63 0 h dX9_relative_62 rfl rfl rfl ?_
    refine cb_aload_n 64 0 h dX9_relative_63 rfl rfl rfl ?_
    refine gf_X9_61 67 h dX9_relative_64 rfl ?_
    refine cb_iconst 68 h dX9_relative_67 rfl kc_0 ?_
    refine laC_12 69 h dX9_relative_68 rfl vi_0_8 tk_0 ?_
    refine cb_cut (cb_V X (WC a ca σ5) 77 [(0, .ref (a 3)), (1, .int v1)] [.int (if (σ5 12 0) = 0 then (0 : Int32) else (1 : Int32)), .ref (a 3)]) (fun jj => ?_) ?_
    · refine cb_if_eq 76 72 h dX9_relative_69 rfl rfl (fun q7 => ?_) (fun q7 => ?_)
      · refine cb_iconst 77 h dX9_relative_76 rfl kc_0 ?_
        exact (cb_tt q7 jj)
      · refine cb_iconst 73 h dX9_relative_72 rfl kc_1 ?_
        refine cb_goto 77 h dX9_relative_73 rfl ?_
        exact (cb_tf q7 jj)
    obtain ⟨c8, σc8, ec8, hf⟩ := cb_b2_o hf
    refine cl_X9_163 80 h dX9_relative_77 rfl (ct_Processor_goOn ec8) ⟨rfl, rfl, Nat.le_of_ble_eq_true rfl, Nat.le_of_ble_eq_true rfl⟩ rfl (Nat.le_of_ble_eq_true rfl) ?_
    refine cb_iconst 81 h dX9_relative_80 rfl kc_1 ?_
    refine cb_iadd 82 h dX9_relative_81 rfl ?_
    exact cb_retI (Wf := WC a ca) h dX9_relative_82 he hf
  have hf := cb_if q4 hf
  by_cases q9 : v1 = 3
  · have hf := cb_it q9 hf
    refine cb_tabI 83 h dX9_relative_1 q9 (by decide) (by decide) rfl rfl ?_
    refine cb_aload_n 84 0 h dX9_relative_83 rfl rfl rfl ?_
    refine cb_iconst 85 h dX9_relative_84 rfl kc_1 ?_
    obtain ⟨c10, σc10, ec10, hf⟩ := cb_b2_o hf
    refine cl_X9_163 88 h dX9_relative_85 rfl (ct_Processor_goOn ec10) ⟨rfl, rfl, Nat.le_of_ble_eq_true rfl, Nat.le_of_ble_eq_true rfl⟩ rfl (Nat.le_of_ble_eq_true rfl) ?_
    exact cb_retI (Wf := WC a ca) h dX9_relative_88 he hf
  have hf := cb_if q9 hf
  refine cb_tabO 89 h dX9_relative_1 (by have t0 := lv_neT (a := 0) q1 (by decide); have t1 := lv_neT (a := 1) q2 (by decide); have t2 := lv_neT (a := 2) q4 (by decide); have t3 := lv_neT (a := 3) q9 (by decide); omega) rfl ?_
  refine cb_aload_n 90 0 h dX9_relative_89 rfl rfl rfl ?_
  refine cb_aload_n 91 0 h dX9_relative_90 rfl rfl rfl ?_
  refine cb_iload_n 92 1 h dX9_relative_91 rfl rfl rfl ?_
  refine cb_iconst 93 h dX9_relative_92 rfl kc_3 ?_
  refine cb_iand 94 h dX9_relative_93 rfl ?_
  obtain ⟨c11, ec11, hf⟩ := cb_bo_o hf
  refine cl_X9_167 97 h dX9_relative_94 rfl (ct_Processor_condition ec11) ⟨rfl, rfl, Nat.le_of_ble_eq_true rfl, Nat.le_of_ble_eq_true rfl⟩ rfl (Nat.le_of_ble_eq_true rfl) ?_
  obtain ⟨c12, σc12, ec12, hf⟩ := cb_b2_o hf
  refine cl_X9_163 100 h dX9_relative_97 rfl (ct_Processor_goOn ec12) ⟨rfl, rfl, Nat.le_of_ble_eq_true rfl, Nat.le_of_ble_eq_true rfl⟩ rfl (Nat.le_of_ble_eq_true rfl) ?_
  exact cb_retI (Wf := WC a ca) h dX9_relative_100 he hf
set_option maxRecDepth 100000 in
set_option maxHeartbeats 4000000 in
theorem ct_Processor_nextWord {l : Launch} {D : va_G} {a : Nat → Nat} {ca : Nat → ClassId} {σ σ' : cb_S} {r : Int32} (hf : c_Processor_nextWord σ = some (r, σ')) : cb_C l yX9_nextWord cX9_nextWord 2 (some .int) { frames := 2, cells := 0, slots := 0, locals := 42 } D (EC ca) (adC a) [.ref (a 3)] (WC a ca σ) (some (.int r)) (WC a ca σ') := by
  refine cb_mk [(0, .ref (a 3))] (by decide) (Nat.le_of_ble_eq_true rfl) rfl (fun X h he => ?_) goodC
  have h : cb_ok X cX9_nextWord RX9 (EC ca) 2 42 2 := h
  unfold c_Processor_nextWord at hf
  refine cb_aload_n 1 0 h dX9_nextWord_0 rfl rfl rfl ?_
  obtain ⟨c1, σc1, ec1, hf⟩ := cb_b2_o hf
  refine cl_X9_67 4 h dX9_nextWord_1 rfl (ct_Processor_nextByte ec1) ⟨rfl, rfl, Nat.le_of_ble_eq_true rfl, Nat.le_of_ble_eq_true rfl⟩ rfl (Nat.le_of_ble_eq_true rfl) ?_
  refine cb_istore_n (lv' := [(1, .int c1), (0, .ref (a 3))]) 5 h dX9_nextWord_4 rfl rfl rfl (Nat.le_of_ble_eq_true rfl) rfl ?_
  refine cb_iload_n 6 0 h dX9_nextWord_5 rfl rfl rfl ?_
  refine cb_aload_n 7 1 h dX9_nextWord_6 rfl rfl rfl ?_
  obtain ⟨c2, σc2, ec2, hf⟩ := cb_b2_o hf
  refine cl_X9_67 10 h dX9_nextWord_7 rfl (ct_Processor_nextByte ec2) ⟨rfl, rfl, Nat.le_of_ble_eq_true rfl, Nat.le_of_ble_eq_true rfl⟩ rfl (Nat.le_of_ble_eq_true rfl) ?_
  refine cb_bipush 12 h dX9_nextWord_10 rfl kb_8 ?_
  refine cb_ishl 13 h dX9_nextWord_12 rfl ?_
  refine cb_ior 14 h dX9_nextWord_13 rfl ?_
  exact cb_retI (Wf := WC a ca) h dX9_nextWord_14 he hf
set_option maxRecDepth 100000 in
set_option maxHeartbeats 4000000 in
theorem ct_Processor_putWide {l : Launch} {D : va_G} {a : Nat → Nat} {ca : Nat → ClassId} {σ σ' : cb_S} {v1 v2 : Int32} (hf : c_Processor_putWide σ v1 v2 = some σ') : cb_C l yX9_putWide cX9_putWide 3 none { frames := 1, cells := 0, slots := 0, locals := 25 } D (EC ca) (adC a) [.ref (a 3), .int v1, .int v2] (WC a ca σ) none (WC a ca σ') := by
  refine cb_mk [(0, .ref (a 3)), (1, .int v1), (2, .int v2)] (by decide) (Nat.le_of_ble_eq_true rfl) rfl (fun X h he => ?_) goodC
  have h : cb_ok X cX9_putWide RX9 (EC ca) 1 25 3 := h
  unfold c_Processor_putWide at hf
  refine cb_iload_n 1 1 h dX9_putWide_0 rfl rfl rfl ?_
  refine cb_iconst 2 h dX9_putWide_1 rfl kc_3 ?_
  refine cb_icmp_ne 19 5 h dX9_putWide_2 rfl rfl (fun q1 => ?_) (fun q1 => ?_)
  · have hf := cb_if q1 hf
    refine cb_aload_n 20 0 h dX9_putWide_19 rfl rfl rfl ?_
    refine gf_X9_54 23 h dX9_putWide_20 rfl ?_
    refine cb_iload_n 24 1 h dX9_putWide_23 rfl rfl rfl ?_
    refine cb_iload_n 25 2 h dX9_putWide_24 rfl rfl rfl ?_
    obtain ⟨σc2, ec2, hf⟩ := cb_bo_o hf
    refine cl_X9_181 28 h dX9_putWide_25 rfl bank_11 (ct_Bank_putPair bank_11 ec2) ⟨rfl, rfl, Nat.le_of_ble_eq_true rfl, Nat.le_of_ble_eq_true rfl⟩ rfl (Nat.le_of_ble_eq_true rfl) ?_
    exact cb_retV (Wf := WC a ca) h dX9_putWide_28 he hf
  · have hf := cb_it q1 hf
    refine cb_aload_n 6 0 h dX9_putWide_5 rfl rfl rfl ?_
    refine gf_X9_10 9 h dX9_putWide_6 rfl ?_
    refine cb_iload_n 10 2 h dX9_putWide_9 rfl rfl rfl ?_
    refine cb_ldc 12 h dX9_putWide_10 rfl (cb_t2 91 rfl rfl) ?_
    refine cb_iand 13 h dX9_putWide_12 rfl ?_
    obtain ⟨σ3, e4, hf⟩ := cb_let_o hf
    refine pf_X9_214 16 h dX9_putWide_13 rfl e4 ?_
    refine cb_goto 28 h dX9_putWide_16 rfl ?_
    exact cb_retV (Wf := WC a ca) h dX9_putWide_28 he hf
set_option maxRecDepth 100000 in
set_option maxHeartbeats 4000000 in
theorem ct_Processor_wide {l : Launch} {D : va_G} {a : Nat → Nat} {ca : Nat → ClassId} {σ : cb_S} {v1 : Int32} {r : Int32} (hf : c_Processor_wide σ v1 = some r) : cb_C l yX9_wide cX9_wide 2 (some .int) { frames := 1, cells := 0, slots := 0, locals := 22 } D (EC ca) (adC a) [.ref (a 3), .int v1] (WC a ca σ) (some (.int r)) (WC a ca σ) := by
  refine cb_mk [(0, .ref (a 3)), (1, .int v1)] (by decide) (Nat.le_of_ble_eq_true rfl) rfl (fun X h he => ?_) goodC
  have h : cb_ok X cX9_wide RX9 (EC ca) 1 22 2 := h
  unfold c_Processor_wide at hf
  refine cb_iload_n 1 1 h dX9_wide_0 rfl rfl rfl ?_
  refine cb_iconst 2 h dX9_wide_1 rfl kc_3 ?_
  refine cb_icmp_ne 15 5 h dX9_wide_2 rfl rfl (fun q1 => ?_) (fun q1 => ?_)
  · have hf := cb_if q1 hf
    refine cb_aload_n 16 0 h dX9_wide_15 rfl rfl rfl ?_
    refine gf_X9_54 19 h dX9_wide_16 rfl ?_
    refine cb_iload_n 20 1 h dX9_wide_19 rfl rfl rfl ?_
    obtain ⟨c2, ec2, hf⟩ := cb_bo_o hf
    refine cl_X9_175 23 h dX9_wide_20 rfl bank_11 (ct_Bank_pair bank_11 ec2) ⟨rfl, rfl, Nat.le_of_ble_eq_true rfl, Nat.le_of_ble_eq_true rfl⟩ rfl (Nat.le_of_ble_eq_true rfl) ?_
    exact cb_retJ h dX9_wide_23 he hf
  · have hf := cb_it q1 hf
    refine cb_aload_n 6 0 h dX9_wide_5 rfl rfl rfl ?_
    refine gf_X9_10 9 h dX9_wide_6 rfl ?_
    refine gf_X9_214 12 h dX9_wide_9 rfl ?_
    refine cb_goto 23 h dX9_wide_12 rfl ?_
    exact cb_retJ h dX9_wide_23 he hf
set_option maxRecDepth 100000 in
set_option maxHeartbeats 4000000 in
theorem ct_Flags_wordSignAndZero {l : Launch} {D : va_G} {ca : Nat → ClassId} {w : va_W} {v0 : Int32} {r : Int32} {as : List Nat} (hf : c_Flags_wordSignAndZero v0 = some r) : cb_C l yX6_wordSignAndZero cX6_wordSignAndZero 1 (some .int) { frames := 0, cells := 0, slots := 0, locals := 0 } D (EC ca) (as) [.int v0] (w) (some (.int r)) (w) := by
  refine cb_mk [(0, .int v0)] (by decide) (Nat.le_of_ble_eq_true rfl) rfl (fun X h he => ?_) goodC
  have h : cb_ok X cX6_wordSignAndZero RX6 (EC ca) 0 0 1 := h
  unfold c_Flags_wordSignAndZero at hf
  refine cb_iload_n 1 0 h dX6_wordSignAndZero_0 rfl rfl rfl ?_
  refine cb_bipush 3 h dX6_wordSignAndZero_1 rfl kb_8 ?_
  refine cb_ishr 4 h dX6_wordSignAndZero_3 rfl ?_
  refine cb_sipush 7 h dX6_wordSignAndZero_4 rfl ks_128 ?_
  refine cb_iand 8 h dX6_wordSignAndZero_7 rfl ?_
  refine cb_iload_n 9 0 h dX6_wordSignAndZero_8 rfl rfl rfl ?_
  refine cb_cut (cb_V X (w) 18 [(0, .int v0)] [.int (if v0 = 0 then (64 : Int32) else (0 : Int32)), .int ((v0 >>> ((8 : Int32) &&& 31)) &&& (128 : Int32))]) (fun jj => ?_) ?_
  · refine cb_if_ne 17 12 h dX6_wordSignAndZero_9 rfl rfl (fun q1 => ?_) (fun q1 => ?_)
    · refine cb_iconst 18 h dX6_wordSignAndZero_17 rfl kc_0 ?_
      exact (cb_tf q1 jj)
    · refine cb_bipush 14 h dX6_wordSignAndZero_12 rfl kb_64 ?_
      refine cb_goto 18 h dX6_wordSignAndZero_14 rfl ?_
      exact (cb_tt q1 jj)
  refine cb_ior 19 h dX6_wordSignAndZero_18 rfl ?_
  exact cb_retJ h dX6_wordSignAndZero_19 he hf
set_option maxRecDepth 100000 in
set_option maxHeartbeats 4000000 in
theorem ct_Flags_addWords {l : Launch} {D : va_G} {ca : Nat → ClassId} {w : va_W} {v0 v1 v2 : Int32} {r : Int32} {as : List Nat} (hf : c_Flags_addWords v0 v1 v2 = some r) : cb_C l yX6_addWords cX6_addWords 7 (some .int) { frames := 1, cells := 0, slots := 0, locals := 20 } D (EC ca) (as) [.int v0, .int v1, .int v2] (w) (some (.int r)) (w) := by
  refine cb_mk [(0, .int v0), (1, .int v1), (2, .int v2)] (by decide) (Nat.le_of_ble_eq_true rfl) rfl (fun X h he => ?_) goodC
  have h : cb_ok X cX6_addWords RX6 (EC ca) 1 20 7 := h
  unfold c_Flags_addWords at hf
  refine cb_iload_n 1 0 h dX6_addWords_0 rfl rfl rfl ?_
  refine cb_iload_n 2 1 h dX6_addWords_1 rfl rfl rfl ?_
  refine cb_iadd 3 h dX6_addWords_2 rfl ?_
  refine cb_iload_n 4 2 h dX6_addWords_3 rfl rfl rfl ?_
  refine cb_iadd 5 h dX6_addWords_4 rfl ?_
  obtain ⟨t1, e2, hf⟩ := cb_let_o hf
  refine cb_istore_n (lv' := [(3, .int t1), (0, .int v0), (1, .int v1), (2, .int v2)]) 6 h dX6_addWords_5 rfl rfl e2 (Nat.le_of_ble_eq_true rfl) rfl ?_
  refine cb_iload_n 7 0 h dX6_addWords_6 rfl rfl rfl ?_
  refine cb_ldc 9 h dX6_addWords_7 rfl (cb_t2 133 rfl rfl) ?_
  refine cb_iand 10 h dX6_addWords_9 rfl ?_
  obtain ⟨t3, e4, hf⟩ := cb_let_o hf
  refine cb_istore (lv' := [(4, .int t3), (3, .int t1), (0, .int v0), (1, .int v1), (2, .int v2)]) 12 h dX6_addWords_10 rfl e4 (Nat.le_of_ble_eq_true rfl) rfl ?_
  refine cb_iload_n 13 2 h dX6_addWords_12 rfl rfl rfl ?_
  refine cb_iload_n 14 3 h dX6_addWords_13 rfl rfl rfl ?_
  refine cb_ixor 15 h dX6_addWords_14 rfl ?_
  refine cb_iload_n 16 1 h dX6_addWords_15 rfl rfl rfl ?_
  refine cb_ixor 17 h dX6_addWords_16 rfl ?_
  refine cb_bipush 19 h dX6_addWords_17 rfl kb_8 ?_
  refine cb_ishr 20 h dX6_addWords_19 rfl ?_
  refine cb_bipush 22 h dX6_addWords_20 rfl kb_16 ?_
  refine cb_iand 23 h dX6_addWords_22 rfl ?_
  obtain ⟨t5, e6, hf⟩ := cb_let_o hf
  refine cb_istore (lv' := [(5, .int t5), (4, .int t3), (3, .int t1), (0, .int v0), (1, .int v1), (2, .int v2)]) 25 h dX6_addWords_23 rfl e6 (Nat.le_of_ble_eq_true rfl) rfl ?_
  refine cb_iload_n 26 3 h dX6_addWords_25 rfl rfl rfl ?_
  refine cb_iload_n 27 2 h dX6_addWords_26 rfl rfl rfl ?_
  refine cb_ixor 28 h dX6_addWords_27 rfl ?_
  refine cb_iload_n 29 4 h dX6_addWords_28 rfl rfl rfl ?_
  refine cb_iload_n 30 2 h dX6_addWords_29 rfl rfl rfl ?_
  refine cb_ixor 31 h dX6_addWords_30 rfl ?_
  refine cb_iand 32 h dX6_addWords_31 rfl ?_
  refine cb_ldc 34 h dX6_addWords_32 rfl (cb_t2 134 rfl rfl) ?_
  refine cb_iand 35 h dX6_addWords_34 rfl ?_
  refine cb_bipush 37 h dX6_addWords_35 rfl kb_13 ?_
  refine cb_ishr 38 h dX6_addWords_37 rfl ?_
  obtain ⟨t7, e8, hf⟩ := cb_let_o hf
  refine cb_istore (lv' := [(6, .int t7), (5, .int t5), (4, .int t3), (3, .int t1), (0, .int v0), (1, .int v1), (2, .int v2)]) 40 h dX6_addWords_38 rfl e8 (Nat.le_of_ble_eq_true rfl) rfl ?_
  refine cb_iload 42 2 h dX6_addWords_40 rfl rfl ?_
  refine cb_bipush 44 h dX6_addWords_42 rfl kb_8 ?_
  refine cb_ishl 45 h dX6_addWords_44 rfl ?_
  refine cb_iload 47 2 h dX6_addWords_45 rfl rfl ?_
  obtain ⟨c9, ec9, hf⟩ := cb_bo_o hf
  refine cl_X6_15 50 h dX6_addWords_47 rfl (ct_Flags_wordSignAndZero ec9) ⟨rfl, rfl, Nat.le_of_ble_eq_true rfl, Nat.le_of_ble_eq_true rfl⟩ rfl (Nat.le_of_ble_eq_true rfl) ?_
  refine cb_ior 51 h dX6_addWords_50 rfl ?_
  refine cb_iload 53 1 h dX6_addWords_51 rfl rfl ?_
  refine cb_ior 54 h dX6_addWords_53 rfl ?_
  refine cb_iload 56 0 h dX6_addWords_54 rfl rfl ?_
  refine cb_ior 57 h dX6_addWords_56 rfl ?_
  refine cb_iload_n 58 3 h dX6_addWords_57 rfl rfl rfl ?_
  refine cb_bipush 60 h dX6_addWords_58 rfl kb_16 ?_
  refine cb_ishr 61 h dX6_addWords_60 rfl ?_
  refine cb_ior 62 h dX6_addWords_61 rfl ?_
  exact cb_retJ h dX6_addWords_62 he hf
set_option maxRecDepth 100000 in
set_option maxHeartbeats 4000000 in
theorem ct_Processor_changeFlags {l : Launch} {D : va_G} {a : Nat → Nat} {ca : Nat → ClassId} {σ σ' : cb_S} {v1 v2 : Int32} (hf : c_Processor_changeFlags σ v1 v2 = some σ') : cb_C l yX9_changeFlags cX9_changeFlags 3 none { frames := 0, cells := 0, slots := 0, locals := 0 } D (EC ca) (adC a) [.ref (a 3), .int v1, .int v2] (WC a ca σ) none (WC a ca σ') := by
  refine cb_mk [(0, .ref (a 3)), (1, .int v1), (2, .int v2)] (by decide) (Nat.le_of_ble_eq_true rfl) rfl (fun X h he => ?_) goodC
  have h : cb_ok X cX9_changeFlags RX9 (EC ca) 0 0 3 := h
  unfold c_Processor_changeFlags at hf
  refine cb_aload_n 1 0 h dX9_changeFlags_0 rfl rfl rfl ?_
  refine gf_X9_61 4 h dX9_changeFlags_1 rfl ?_
  refine cb_bipush 6 h dX9_changeFlags_4 rfl kb_6 ?_
  refine cb_aload_n 7 0 h dX9_changeFlags_6 rfl rfl rfl ?_
  refine gf_X9_61 10 h dX9_changeFlags_7 rfl ?_
  refine cb_bipush 12 h dX9_changeFlags_10 rfl kb_6 ?_
  refine laC_12 13 h dX9_changeFlags_12 rfl vi_6_8 tk_6 ?_
  refine cb_iload_n 14 1 h dX9_changeFlags_13 rfl rfl rfl ?_
  refine cb_iconst 15 h dX9_changeFlags_14 rfl kc_m1 ?_
  refine cb_ixor 16 h dX9_changeFlags_15 rfl ?_
  refine cb_iand 17 h dX9_changeFlags_16 rfl ?_
  refine cb_iload_n 18 2 h dX9_changeFlags_17 rfl rfl rfl ?_
  refine cb_iload_n 19 1 h dX9_changeFlags_18 rfl rfl rfl ?_
  refine cb_iand 20 h dX9_changeFlags_19 rfl ?_
  refine cb_ior 21 h dX9_changeFlags_20 rfl ?_
  obtain ⟨σ1, e2, hf⟩ := cb_let_o hf
  refine saC_12 22 h dX9_changeFlags_21 rfl vi_6_8 tk_6 e2 ?_
  exact cb_retV (Wf := WC a ca) h dX9_changeFlags_22 he hf
