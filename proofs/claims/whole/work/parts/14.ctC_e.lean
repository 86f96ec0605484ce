set_option maxRecDepth 100000 in
set_option maxHeartbeats 4000000 in
theorem ct_Channel_fall {l : Launch} {D : va_G} {a : Nat → Nat} {ca : Nat → ClassId} {j : Nat} {σ σ' : cb_S} {r : Int32} (hj : cb_isChannel j) (hf : c_Channel_fall j σ = some (r, σ')) : cb_C l yX4_fall cX4_fall 1 (some .boolean) { frames := 1, cells := 0, slots := 0, locals := 20 } D (EC ca) (adC a) [.ref (a j)] (WC a ca σ) (some (.int r)) (WC a ca σ') := by
  refine cb_mk [(0, .ref (a j))] (by decide) (Nat.le_of_ble_eq_true rfl) rfl (fun X h he => ?_) goodC
  have h : cb_ok X cX4_fall RX4 (EC ca) 1 20 1 := h
  unfold c_Channel_fall at hf
  refine cb_aload_n 1 0 h dX4_fall_0 rfl rfl rfl ?_
  refine cb_dup 2 h dX4_fall_1 rfl rfl ?_
  refine gf_X4_9 5 h dX4_fall_2 rfl hj ?_
  refine cb_iconst 6 h dX4_fall_5 rfl kc_1 ?_
  refine cb_isub 7 h dX4_fall_6 rfl ?_
  obtain ⟨σ1, e2, hf⟩ := cb_let_o hf
  refine pf_X4_9 10 h dX4_fall_7 rfl hj e2 ?_
  refine cb_aload_n 11 0 h dX4_fall_10 rfl rfl rfl ?_
  refine gf_X4_9 14 h dX4_fall_11 rfl hj ?_
  refine cb_if_le 19 17 h dX4_fall_14 rfl rfl (fun q3 => ?_) (fun q3 => ?_)
  · have hf := cb_it q3 hf
    refine cb_aload_n 20 0 h dX4_fall_19 rfl rfl rfl ?_
    refine cb_aload_n 21 0 h dX4_fall_20 rfl rfl rfl ?_
    refine gf_X4_15 24 h dX4_fall_21 rfl hj ?_
    obtain ⟨σ4, e5, hf⟩ := cb_let_o hf
    refine pf_X4_9 27 h dX4_fall_24 rfl hj e5 ?_
    refine cb_aload_n 28 0 h dX4_fall_27 rfl rfl rfl ?_
    obtain ⟨σc6, ec6, hf⟩ := cb_bo_o hf
    refine cl_X4_54 31 h dX4_fall_28 rfl hj (ct_Device_request (cb_Channel_Device hj) ec6) ⟨rfl, rfl, Nat.le_of_ble_eq_true rfl, Nat.le_of_ble_eq_true rfl⟩ rfl (Nat.le_of_ble_eq_true rfl) ?_
    refine cb_iconst 32 h dX4_fall_31 rfl kc_1 ?_
    exact cb_retZ (Wf := WC a ca) h dX4_fall_32 he cb_01_1 hf
  · have hf := cb_if q3 hf
    refine cb_iconst 18 h dX4_fall_17 rfl kc_0 ?_
    exact cb_retZ (Wf := WC a ca) h dX4_fall_18 he cb_01_0 hf
set_option maxRecDepth 100000 in
set_option maxHeartbeats 4000000 in
theorem ct_Channel_takeClocks {l : Launch} {D : va_G} {a : Nat → Nat} {ca : Nat → ClassId} {N : Nat} {j : Nat} {σ σ' : cb_S} {v1 : Int32} {r : Int32} (hj : cb_isChannel j) (hf : c_Channel_takeClocks N j σ v1 = some (r, σ')) : cb_C l yX4_takeClocks cX4_takeClocks 7 (some .int) { frames := 2, cells := 0, slots := 0, locals := 40 } D (EC ca) (adC a) [.ref (a j), .int v1] (WC a ca σ) (some (.int r)) (WC a ca σ') := by
  refine cb_mk [(0, .ref (a j)), (1, .int v1)] (by decide) (Nat.le_of_ble_eq_true rfl) rfl (fun X h he => ?_) goodC
  have h : cb_ok X cX4_takeClocks RX4 (EC ca) 2 40 7 := h
  unfold c_Channel_takeClocks at hf
  have j76 : ∀ (k59 : cb_S → Int32 → Int32 → Int32 → Option (Int32 × cb_S)) (hk59 : ∀ (σ : cb_S) (x4 : Int32) (x5 : Int32) (x6 : Int32), k59 σ x4 x5 x6 = some (r, σ') → cb_V X (WC a ca σ) 59 [(0, .ref (a j)), (4, .int x4), (5, .int x5), (6, .int x6)] []) (σ : cb_S) (x4 : Int32) (x5 : Int32) (x6 : Int32), c_Channel_takeClocks_L76 N j v1 k59 σ x4 x5 x6 = some (r, σ') → cb_V X (WC a ca σ) 76 [(0, .ref (a j)), (4, .int x4), (5, .int x5), (6, .int x6)] [] := by
    intro k59 hk59 σ x4 x5 x6 hf
    unfold c_Channel_takeClocks_L76 at hf
    obtain ⟨t1, e2, hf⟩ := cb_let_o hf
    refine cb_iinc 3 (lv' := [(6, .int t1), (0, .ref (a j)), (4, .int x4), (5, .int x5)]) 79 h dX4_takeClocks_76 rfl rfl ((congrArg (fun z => x6 + z) kc_1).trans e2) (Nat.le_of_ble_eq_true rfl) rfl ?_
    refine cb_goto 59 h dX4_takeClocks_79 rfl ?_
    exact cb_lv [1, 2, 3, 0] rfl (hk59 _ _ _ _ hf)
  have jb59 : ∀ (k59 : cb_S → Int32 → Int32 → Int32 → Option (Int32 × cb_S)) (hk59 : ∀ (σ : cb_S) (x4 : Int32) (x5 : Int32) (x6 : Int32), k59 σ x4 x5 x6 = some (r, σ') → cb_V X (WC a ca σ) 59 [(0, .ref (a j)), (4, .int x4), (5, .int x5), (6, .int x6)] []) (σ : cb_S) (x4 : Int32) (x5 : Int32) (x6 : Int32), c_Channel_takeClocks_B59 N j v1 k59 σ x4 x5 x6 = some (r, σ') → cb_V X (WC a ca σ) 59 [(0, .ref (a j)), (4, .int x4), (5, .int x5), (6, .int x6)] [] := by
    intro k59 hk59 σ x4 x5 x6 hf
    unfold c_Channel_takeClocks_B59 at hf
    refine cb_iload 61 3 h dX4_takeClocks_59 rfl rfl ?_
    refine cb_iload 63 1 h dX4_takeClocks_61 rfl rfl ?_
    refine cb_icmp_ge 82 66 h dX4_takeClocks_63 rfl rfl (fun q3 => ?_) (fun q3 => ?_)
    · have hf := cb_it q3 hf
      refine cb_iload 84 2 h dX4_takeClocks_82 rfl rfl ?_
      exact cb_retI (Wf := WC a ca) h dX4_takeClocks_84 he hf
    · have hf := cb_if q3 hf
      refine cb_aload_n 67 0 h dX4_takeClocks_66 rfl rfl rfl ?_
      obtain ⟨c4, σc4, ec4, hf⟩ := cb_b2_o hf
      refine cl_X4_50 70 h dX4_takeClocks_67 rfl hj (ct_Channel_fall hj ec4) ⟨rfl, rfl, Nat.le_of_ble_eq_true rfl, Nat.le_of_ble_eq_true rfl⟩ rfl (Nat.le_of_ble_eq_true rfl) ?_
      refine cb_if_eq 76 73 h dX4_takeClocks_70 rfl rfl (fun q5 => ?_) (fun q5 => ?_)
      · have hf := cb_it q5 hf
        exact j76 k59 hk59 _ _ _ _ hf
      · have hf := cb_if q5 hf
        obtain ⟨t6, e7, hf⟩ := cb_let_o hf
        refine cb_iinc 2 (lv' := [(5, .int t6), (0, .ref (a j)), (4, .int x4), (6, .int x6)]) 76 h dX4_takeClocks_73 rfl rfl ((congrArg (fun z => x5 + z) kc_1).trans e7) (Nat.le_of_ble_eq_true rfl) rfl ?_
        exact cb_lv [1, 2, 0, 3] rfl (j76 k59 hk59 _ _ _ _ hf)
  have j59 : ∀ (n : Nat) (σ : cb_S) (x4 : Int32) (x5 : Int32) (x6 : Int32), c_Channel_takeClocks_H59 N j v1 n σ x4 x5 x6 = some (r, σ') → cb_V X (WC a ca σ) 59 [(0, .ref (a j)), (4, .int x4), (5, .int x5), (6, .int x6)] [] := by
    intro n
    induction n with
    | zero => intro σ x4 x5 x6 hf; cases hf
    | succ n ih => intro σ x4 x5 x6 hf; exact jb59  _ ih _ _ _ _ hf
  refine cb_aload_n 1 0 h dX4_takeClocks_0 rfl rfl rfl ?_
  refine gf_X4_21 4 h dX4_takeClocks_1 rfl hj ?_
  refine cb_if_eq 14 7 h dX4_takeClocks_4 rfl rfl (fun q8 => ?_) (fun q8 => ?_)
  · have hf := cb_it q8 hf
    refine cb_iconst 15 h dX4_takeClocks_14 rfl kc_0 ?_
    exact cb_retI (Wf := WC a ca) h dX4_takeClocks_15 he hf
  · have hf := cb_if q8 hf
    refine cb_aload_n 8 0 h dX4_takeClocks_7 rfl rfl rfl ?_
    refine gf_X4_25 11 h dX4_takeClocks_8 rfl hj ?_
    refine cb_if_eq 16 14 h dX4_takeClocks_11 rfl rfl (fun q9 => ?_) (fun q9 => ?_)
    · have hf := cb_it q9 hf
      refine cb_aload_n 17 0 h dX4_takeClocks_16 rfl rfl rfl ?_
      refine gf_X4_18 20 h dX4_takeClocks_17 rfl hj ?_
      refine cb_iload_n 21 1 h dX4_takeClocks_20 rfl rfl rfl ?_
      refine cb_iadd 22 h dX4_takeClocks_21 rfl ?_
      obtain ⟨t10, e11, hf⟩ := cb_let_o hf
      refine cb_istore_n (lv' := [(2, .int t10), (0, .ref (a j)), (1, .int v1)]) 23 h dX4_takeClocks_22 rfl rfl e11 (Nat.le_of_ble_eq_true rfl) rfl ?_
      refine cb_aload_n 24 1 h dX4_takeClocks_23 rfl rfl rfl ?_
      refine gf_X4_28 27 h dX4_takeClocks_24 rfl hj ?_
      refine cb_cut (cb_V X (WC a ca σ) 36 [(2, .int t10), (0, .ref (a j)), (1, .int v1)] [.int (if (σ j 9) = 0 then (4 : Int32) else (8 : Int32))]) (fun jj => ?_) ?_
      · refine cb_if_eq 35 30 h dX4_takeClocks_27 rfl rfl (fun q12 => ?_) (fun q12 => ?_)
        · refine cb_iconst 36 h dX4_takeClocks_35 rfl kc_4 ?_
          exact (cb_tt q12 jj)
        · refine cb_bipush 32 h dX4_takeClocks_30 rfl kb_8 ?_
          refine cb_goto 36 h dX4_takeClocks_32 rfl ?_
          exact (cb_tf q12 jj)
      obtain ⟨t13, e14, hf⟩ := cb_let_o hf
      refine cb_istore_n (lv' := [(3, .int t13), (2, .int t10), (0, .ref (a j)), (1, .int v1)]) 37 h dX4_takeClocks_36 rfl rfl e14 (Nat.le_of_ble_eq_true rfl) rfl ?_
      refine cb_iload_n 38 1 h dX4_takeClocks_37 rfl rfl rfl ?_
      refine cb_iload_n 39 0 h dX4_takeClocks_38 rfl rfl rfl ?_
      refine cb_ishr 40 h dX4_takeClocks_39 rfl ?_
      obtain ⟨t15, e16, hf⟩ := cb_let_o hf
      refine cb_istore (lv' := [(4, .int t15), (3, .int t13), (2, .int t10), (0, .ref (a j)), (1, .int v1)]) 42 h dX4_takeClocks_40 rfl e16 (Nat.le_of_ble_eq_true rfl) rfl ?_
      refine cb_aload_n 43 3 h dX4_takeClocks_42 rfl rfl rfl ?_
      refine cb_iload_n 44 2 h dX4_takeClocks_43 rfl rfl rfl ?_
      refine cb_iconst 45 h dX4_takeClocks_44 rfl kc_1 ?_
      refine cb_iload_n 46 1 h dX4_takeClocks_45 rfl rfl rfl ?_
      refine cb_ishl 47 h dX4_takeClocks_46 rfl ?_
      refine cb_iconst 48 h dX4_takeClocks_47 rfl kc_1 ?_
      refine cb_isub 49 h dX4_takeClocks_48 rfl ?_
      refine cb_iand 50 h dX4_takeClocks_49 rfl ?_
      obtain ⟨σ17, e18, hf⟩ := cb_let_o hf
      refine pf_X4_18 53 h dX4_takeClocks_50 rfl hj e18 ?_
      refine cb_iconst 54 h dX4_takeClocks_53 rfl kc_0 ?_
      refine cb_istore (lv' := [(5, .int (0 : Int32)), (4, .int t15), (3, .int t13), (2, .int t10), (0, .ref (a j)), (1, .int v1)]) 56 h dX4_takeClocks_54 rfl rfl (Nat.le_of_ble_eq_true rfl) rfl ?_
      refine cb_iconst 57 h dX4_takeClocks_56 rfl kc_0 ?_
      refine cb_istore (lv' := [(6, .int (0 : Int32)), (5, .int (0 : Int32)), (4, .int t15), (3, .int t13), (2, .int t10), (0, .ref (a j)), (1, .int v1)]) 59 h dX4_takeClocks_57 rfl rfl (Nat.le_of_ble_eq_true rfl) rfl ?_
      exact cb_lv [5, 2, 1, 0] rfl (j59 _ _ _ _ _ hf)
    · have hf := cb_if q9 hf
      refine cb_iconst 15 h dX4_takeClocks_14 rfl kc_0 ?_
      exact cb_retI (Wf := WC a ca) h dX4_takeClocks_15 he hf
set_option maxRecDepth 100000 in
set_option maxHeartbeats 4000000 in
theorem ct_Channel_takeTrigger {l : Launch} {D : va_G} {a : Nat → Nat} {ca : Nat → ClassId} {j : Nat} {σ σ' : cb_S} {r : Int32} (hj : cb_isChannel j) (hf : c_Channel_takeTrigger j σ = some (r, σ')) : cb_C l yX4_takeTrigger cX4_takeTrigger 1 (some .boolean) { frames := 2, cells := 0, slots := 0, locals := 40 } D (EC ca) (adC a) [.ref (a j)] (WC a ca σ) (some (.int r)) (WC a ca σ') := by
  refine cb_mk [(0, .ref (a j))] (by decide) (Nat.le_of_ble_eq_true rfl) rfl (fun X h he => ?_) goodC
  have h : cb_ok X cX4_takeTrigger RX4 (EC ca) 2 40 1 := h
  unfold c_Channel_takeTrigger at hf
  refine cb_aload_n 1 0 h dX4_takeTrigger_0 rfl rfl rfl ?_
  refine gf_X4_21 4 h dX4_takeTrigger_1 rfl hj ?_
  refine cb_if_eq 25 7 h dX4_takeTrigger_4 rfl rfl (fun q1 => ?_) (fun q1 => ?_)
  · have hf := cb_it q1 hf
    refine cb_iconst 26 h dX4_takeTrigger_25 rfl kc_0 ?_
    exact cb_retZ (Wf := WC a ca) h dX4_takeTrigger_26 he cb_01_0 hf
  · have hf := cb_if q1 hf
    refine cb_aload_n 8 0 h dX4_takeTrigger_7 rfl rfl rfl ?_
    refine gf_X4_25 11 h dX4_takeTrigger_8 rfl hj ?_
    refine cb_if_eq 25 14 h dX4_takeTrigger_11 rfl rfl (fun q2 => ?_) (fun q2 => ?_)
    · have hf := cb_it q2 hf
      refine cb_iconst 26 h dX4_takeTrigger_25 rfl kc_0 ?_
      exact cb_retZ (Wf := WC a ca) h dX4_takeTrigger_26 he cb_01_0 hf
    · have hf := cb_if q2 hf
      refine cb_aload_n 15 0 h dX4_takeTrigger_14 rfl rfl rfl ?_
      obtain ⟨c3, σc3, ec3, hf⟩ := cb_b2_o hf
      refine cl_X4_50 18 h dX4_takeTrigger_15 rfl hj (ct_Channel_fall hj ec3) ⟨rfl, rfl, Nat.le_of_ble_eq_true rfl, Nat.le_of_ble_eq_true rfl⟩ rfl (Nat.le_of_ble_eq_true rfl) ?_
      refine cb_cut (cb_V X (WC a ca σc3) 26 [(0, .ref (a j))] [.int (if c3 = 0 then (0 : Int32) else (1 : Int32))]) (fun jj => ?_) ?_
      · refine cb_if_eq 25 21 h dX4_takeTrigger_18 rfl rfl (fun q4 => ?_) (fun q4 => ?_)
        · refine cb_iconst 26 h dX4_takeTrigger_25 rfl kc_0 ?_
          exact (cb_tt q4 jj)
        · refine cb_iconst 22 h dX4_takeTrigger_21 rfl kc_1 ?_
          refine cb_goto 26 h dX4_takeTrigger_22 rfl ?_
          exact (cb_tf q4 jj)
      exact cb_retZ (Wf := WC a ca) h dX4_takeTrigger_26 he (cb_01_i cb_01_0 cb_01_1) hf
set_option maxRecDepth 100000 in
set_option maxHeartbeats 4000000 in
theorem ct_Chain_takeClocks {l : Launch} {D : va_G} {a : Nat → Nat} {ca : Nat → ClassId} {N : Nat} {σ σ' : cb_S} {v1 : Int32} (hf : c_Chain_takeClocks N σ v1 = some σ') : cb_C l yX3_takeClocks cX3_takeClocks 4 none { frames := 3, cells := 0, slots := 0, locals := 66 } D (EC ca) (adC a) [.ref (a 2), .int v1] (WC a ca σ) none (WC a ca σ') := by
  refine cb_mk [(0, .ref (a 2)), (1, .int v1)] (by decide) (Nat.le_of_ble_eq_true rfl) rfl (fun X h he => ?_) goodC
  have h : cb_ok X cX3_takeClocks RX3 (EC ca) 3 66 4 := h
  unfold c_Chain_takeClocks at hf
  have jb11 : ∀ (k11 : cb_S → Int32 → Int32 → Option cb_S) (hk11 : ∀ (σ : cb_S) (x2 : Int32) (x3 : Int32), k11 σ x2 x3 = some σ' → cb_V X (WC a ca σ) 11 [(0, .ref (a 2)), (1, .int v1), (2, .int x2), (3, .int x3)] []) (σ : cb_S) (x2 : Int32) (x3 : Int32), c_Chain_takeClocks_B11 N v1 k11 σ x2 x3 = some σ' → cb_V X (WC a ca σ) 11 [(0, .ref (a 2)), (1, .int v1), (2, .int x2), (3, .int x3)] [] := by
    intro k11 hk11 σ x2 x3 hf
    unfold c_Chain_takeClocks_B11 at hf
    refine cb_iload_n 12 3 h dX3_takeClocks_11 rfl rfl rfl ?_
    refine cb_iload_n 13 2 h dX3_takeClocks_12 rfl rfl rfl ?_
    refine cb_icmp_ge 30 16 h dX3_takeClocks_13 rfl rfl (fun q1 => ?_) (fun q1 => ?_)
    · have hf := cb_it q1 hf
      refine cb_aload_n 31 0 h dX3_takeClocks_30 rfl rfl rfl ?_
      refine gf_X3_18 34 h dX3_takeClocks_31 rfl ?_
      refine cb_iload_n 35 1 h dX3_takeClocks_34 rfl rfl rfl ?_
      obtain ⟨c2, σc2, ec2, hf⟩ := cb_b2_o hf
      refine cl_X3_37 38 h dX3_takeClocks_35 rfl channel_7 (ct_Channel_takeClocks channel_7 ec2) ⟨rfl, rfl, Nat.le_of_ble_eq_true rfl, Nat.le_of_ble_eq_true rfl⟩ rfl (Nat.le_of_ble_eq_true rfl) ?_
      refine cb_pop 39 h dX3_takeClocks_38 rfl rfl ?_
      exact cb_retV (Wf := WC a ca) h dX3_takeClocks_39 he hf
    · have hf := cb_if q1 hf
      refine cb_aload_n 17 0 h dX3_takeClocks_16 rfl rfl rfl ?_
      refine gf_X3_18 20 h dX3_takeClocks_17 rfl ?_
      obtain ⟨c3, σc3, ec3, hf⟩ := cb_b2_o hf
      refine cl_X3_41 23 h dX3_takeClocks_20 rfl channel_7 (ct_Channel_takeTrigger channel_7 ec3) ⟨rfl, rfl, Nat.le_of_ble_eq_true rfl, Nat.le_of_ble_eq_true rfl⟩ rfl (Nat.le_of_ble_eq_true rfl) ?_
      refine cb_pop 24 h dX3_takeClocks_23 rfl rfl ?_
      obtain ⟨t4, e5, hf⟩ := cb_let_o hf
      refine cb_iinc 3 (lv' := [(3, .int t4), (0, .ref (a 2)), (1, .int v1), (2, .int x2)]) 27 h dX3_takeClocks_24 rfl rfl ((congrArg (fun z => x3 + z) kc_1).trans e5) (Nat.le_of_ble_eq_true rfl) rfl ?_
      refine cb_goto 11 h dX3_takeClocks_27 rfl ?_
      exact cb_lv [1, 2, 3, 0] rfl (hk11 _ _ _ hf)
  have j11 : ∀ (n : Nat) (σ : cb_S) (x2 : Int32) (x3 : Int32), c_Chain_takeClocks_H11 N v1 n σ x2 x3 = some σ' → cb_V X (WC a ca σ) 11 [(0, .ref (a 2)), (1, .int v1), (2, .int x2), (3, .int x3)] [] := by
    intro n
    induction n with
    | zero => intro σ x2 x3 hf; cases hf
    | succ n ih => intro σ x2 x3 hf; exact jb11  _ ih _ _ _ hf
  refine cb_aload_n 1 0 h dX3_takeClocks_0 rfl rfl rfl ?_
  refine gf_X3_12 4 h dX3_takeClocks_1 rfl ?_
  refine cb_iload_n 5 1 h dX3_takeClocks_4 rfl rfl rfl ?_
  obtain ⟨c6, σc6, ec6, hf⟩ := cb_b2_o hf
  refine cl_X3_37 8 h dX3_takeClocks_5 rfl channel_6 (ct_Channel_takeClocks channel_6 ec6) ⟨rfl, rfl, Nat.le_of_ble_eq_true rfl, Nat.le_of_ble_eq_true rfl⟩ rfl (Nat.le_of_ble_eq_true rfl) ?_
  refine cb_istore_n (lv' := [(2, .int c6), (0, .ref (a 2)), (1, .int v1)]) 9 h dX3_takeClocks_8 rfl rfl rfl (Nat.le_of_ble_eq_true rfl) rfl ?_
  refine cb_iconst 10 h dX3_takeClocks_9 rfl kc_0 ?_
  refine cb_istore_n (lv' := [(3, .int (0 : Int32)), (2, .int c6), (0, .ref (a 2)), (1, .int v1)]) 11 h dX3_takeClocks_10 rfl rfl rfl (Nat.le_of_ble_eq_true rfl) rfl ?_
  exact cb_lv [2, 3, 1, 0] rfl (j11 _ _ _ _ hf)
set_option maxRecDepth 100000 in
set_option maxHeartbeats 4000000 in
theorem ct_Processor_spend {l : Launch} {D : va_G} {a : Nat → Nat} {ca : Nat → ClassId} {N : Nat} {σ σ' : cb_S} {v1 : Int32} (hf : c_Processor_spend N σ v1 = some σ') : cb_C l yX9_spend cX9_spend 2 none { frames := 4, cells := 0, slots := 0, locals := 89 } D (EC ca) (adC a) [.ref (a 3), .int v1] (WC a ca σ) none (WC a ca σ') := by
  refine cb_mk [(0, .ref (a 3)), (1, .int v1)] (by decide) (Nat.le_of_ble_eq_true rfl) rfl (fun X h he => ?_) goodC
  have h : cb_ok X cX9_spend RX9 (EC ca) 4 89 2 := h
  unfold c_Processor_spend at hf
  refine cb_aload_n 1 0 h dX9_spend_0 rfl rfl rfl ?_
  refine cb_dup 2 h dX9_spend_1 rfl rfl ?_
  refine gf_X9_33 5 h dX9_spend_2 rfl ?_
  refine cb_iload_n 6 1 h dX9_spend_5 rfl rfl rfl ?_
  refine cb_iadd 7 h dX9_spend_6 rfl ?_
  obtain ⟨σ1, e2, hf⟩ := cb_let_o hf
  refine pf_X9_33 10 h dX9_spend_7 rfl e2 ?_
  refine cb_aload_n 11 0 h dX9_spend_10 rfl rfl rfl ?_
  refine gf_X9_46 14 h dX9_spend_11 rfl ?_
  refine cb_iload_n 15 1 h dX9_spend_14 rfl rfl rfl ?_
  obtain ⟨σc3, ec3, hf⟩ := cb_bo_o hf
  refine cl_X9_123 18 h dX9_spend_15 rfl (ct_Chain_takeClocks ec3) ⟨rfl, rfl, Nat.le_of_ble_eq_true rfl, Nat.le_of_ble_eq_true rfl⟩ rfl (Nat.le_of_ble_eq_true rfl) ?_
  exact cb_retV (Wf := WC a ca) h dX9_spend_18 he hf
set_option maxRecDepth 100000 in
set_option maxHeartbeats 4000000 in
theorem ct_Processor_carryOut {l : Launch} {D : va_G} {a : Nat → Nat} {ca : Nat → ClassId} {N : Nat} {σ σ' : cb_S} {r : Int32} (hf : c_Processor_carryOut N σ = some (r, σ')) : cb_C l yX9_carryOut cX9_carryOut 5 (some .int) { frames := 5, cells := 0, slots := 0, locals := 117 } D (EC ca) (adC a) [.ref (a 3)] (WC a ca σ) (some (.int r)) (WC a ca σ') := by
  refine cb_mk [(0, .ref (a 3))] (by decide) (Nat.le_of_ble_eq_true rfl) rfl (fun X h he => ?_) goodC
  have h : cb_ok X cX9_carryOut RX9 (EC ca) 5 117 5 := h
  unfold c_Processor_carryOut at hf
  have j154 : ∀ (σ : cb_S) (x1 : Int32) (x2 : Int32), c_Processor_carryOut_L154 N σ x1 x2 = some (r, σ') → cb_V X (WC a ca σ) 154 [(0, .ref (a 3)), (1, .int x1), (2, .int x2)] [] := by
    intro σ x1 x2 hf
    unfold c_Processor_carryOut_L154 at hf
    refine cb_iload_n 155 2 h dX9_carryOut_154 rfl rfl rfl ?_
    refine cb_if_ne 173 158 h dX9_carryOut_155 rfl rfl (fun q1 => ?_) (fun q1 => ?_)
    · have hf := cb_if q1 hf
      refine cb_aload_n 174 0 h dX9_carryOut_173 rfl rfl rfl ?_
      refine cb_dup 175 h dX9_carryOut_174 rfl rfl ?_
      refine gf_X9_36 178 h dX9_carryOut_175 rfl ?_
      refine cb_iconst 179 h dX9_carryOut_178 rfl kc_1 ?_
      refine cb_iadd 180 h dX9_carryOut_179 rfl ?_
      obtain ⟨σ2, e3, hf⟩ := cb_let_o hf
      refine pf_X9_36 183 h dX9_carryOut_180 rfl e3 ?_
      refine cb_aload_n 184 0 h dX9_carryOut_183 rfl rfl rfl ?_
      refine cb_iload_n 185 2 h dX9_carryOut_184 rfl rfl rfl ?_
      obtain ⟨σc4, ec4, hf⟩ := cb_bo_o hf
      refine cl_X9_91 188 h dX9_carryOut_185 rfl (ct_Processor_spend ec4) ⟨rfl, rfl, Nat.le_of_ble_eq_true rfl, Nat.le_of_ble_eq_true rfl⟩ rfl (Nat.le_of_ble_eq_true rfl) ?_
      refine cb_iload_n 189 2 h dX9_carryOut_188 rfl rfl rfl ?_
      exact cb_retI (Wf := WC a ca) h dX9_carryOut_189 he hf
    · have hf := cb_it q1 hf
      refine cb_aload_n 159 0 h dX9_carryOut_158 rfl rfl rfl ?_
      refine gf_X9_10 162 h dX9_carryOut_159 rfl ?_
      refine cb_iload_n 163 1 h dX9_carryOut_162 rfl rfl rfl ?_
      obtain ⟨σ5, e6, hf⟩ := cb_let_o hf
      refine pf_X9_64 166 h dX9_carryOut_163 rfl e6 ?_
      refine cb_aload_n 167 0 h dX9_carryOut_166 rfl rfl rfl ?_
      refine cb_iconst 168 h dX9_carryOut_167 rfl kc_1 ?_
      obtain ⟨σ7, e8, hf⟩ := cb_let_o hf
      refine pf_X9_27 171 h dX9_carryOut_168 rfl cb_01_1 e8 ?_
      refine cb_iconst 172 h dX9_carryOut_171 rfl kc_0 ?_
      exact cb_retI (Wf := WC a ca) h dX9_carryOut_172 he hf
  have j153 : ∀ (σ : cb_S) (x1 : Int32) (y0 : Int32), c_Processor_carryOut_L153 N σ x1 y0 = some (r, σ') → cb_V X (WC a ca σ) 153 [(0, .ref (a 3)), (1, .int x1)] [.int y0] := by
    intro σ x1 y0 hf
    unfold c_Processor_carryOut_L153 at hf
    refine cb_istore_n (lv' := [(2, .int y0), (0, .ref (a 3)), (1, .int x1)]) 154 h dX9_carryOut_153 rfl rfl rfl (Nat.le_of_ble_eq_true rfl) rfl ?_
    exact cb_lv [1, 2, 0] rfl (j154 _ _ _ hf)
  refine cb_aload_n 1 0 h dX9_carryOut_0 rfl rfl rfl ?_
  refine cb_iconst 2 h dX9_carryOut_1 rfl kc_0 ?_
  obtain ⟨σ9, e10, hf⟩ := cb_let_o hf
  refine pf_X9_30 5 h dX9_carryOut_2 rfl cb_01_0 e10 ?_
  refine cb_aload_n 6 0 h dX9_carryOut_5 rfl rfl rfl ?_
  refine gf_X9_10 9 h dX9_carryOut_6 rfl ?_
  refine gf_X9_64 12 h dX9_carryOut_9 rfl ?_
  obtain ⟨t11, e12, hf⟩ := cb_let_o hf
  refine cb_istore_n (lv' := [(1, .int t11), (0, .ref (a 3))]) 13 h dX9_carryOut_12 rfl rfl e12 (Nat.le_of_ble_eq_true rfl) rfl ?_
  refine cb_iconst 14 h dX9_carryOut_13 rfl kc_4 ?_
  refine cb_istore_n (lv' := [(2, .int (4 : Int32)), (1, .int t11), (0, .ref (a 3))]) 15 h dX9_carryOut_14 rfl rfl rfl (Nat.le_of_ble_eq_true rfl) rfl ?_
  refine cb_aload_n 16 2 h dX9_carryOut_15 rfl rfl rfl ?_
  refine gf_X9_24 19 h dX9_carryOut_16 rfl ?_
  refine cb_if_ne 154 22 h dX9_carryOut_19 rfl rfl (fun q13 => ?_) (fun q13 => ?_)
  · have hf := cb_if q13 hf
    exact cb_lv [2, 1, 0] rfl (j154 _ _ _ hf)
  · have hf := cb_it q13 hf
    refine cb_aload_n 23 2 h dX9_carryOut_22 rfl rfl rfl ?_
    obtain ⟨c14, σc14, ec14, hf⟩ := cb_b2_o hf
    refine cl_X9_67 26 h dX9_carryOut_23 rfl (ct_Processor_nextByte ec14) ⟨rfl, rfl, Nat.le_of_ble_eq_true rfl, Nat.le_of_ble_eq_true rfl⟩ rfl (Nat.le_of_ble_eq_true rfl) ?_
    refine cb_istore_n (lv' := [(3, .int c14), (2, .int (4 : Int32)), (1, .int t11), (0, .ref (a 3))]) 27 h dX9_carryOut_26 rfl rfl rfl (Nat.le_of_ble_eq_true rfl) rfl ?_
    refine cb_iload_n 28 0 h dX9_carryOut_27 rfl rfl rfl ?_
    refine cb_bipush 30 h dX9_carryOut_28 rfl kb_6 ?_
    refine cb_ishr 31 h dX9_carryOut_30 rfl ?_
    by_cases q15 : (c14 >>> ((6 : Int32) &&& 31)) = 0
    · have hf := cb_it q15 hf
      refine cb_tabI 56 h dX9_carryOut_31 q15 (by decide) (by decide) rfl rfl ?_
      refine cb_aload_n 57 3 h dX9_carryOut_56 rfl rfl rfl ?_
      refine cb_iload_n 58 0 h dX9_carryOut_57 rfl rfl rfl ?_
      obtain ⟨c16, σc16, ec16, hf⟩ := cb_b2_o hf
      refine cl_X9_71 61 h dX9_carryOut_58 rfl (ct_Processor_lowQuarter ec16) ⟨rfl, rfl, Nat.le_of_ble_eq_true rfl, Nat.le_of_ble_eq_true rfl⟩ rfl (Nat.le_of_ble_eq_true rfl) ?_
      refine cb_istore_n (lv' := [(2, .int c16), (3, .int c14), (1, .int t11), (0, .ref (a 3))]) 62 h dX9_carryOut_61 rfl rfl rfl (Nat.le_of_ble_eq_true rfl) rfl ?_
      refine cb_goto 154 h dX9_carryOut_62 rfl ?_
      exact cb_lv [3, 2, 0] rfl (j154 _ _ _ hf)
    have hf := cb_if q15 hf
    by_cases q17 : (c14 >>> ((6 : Int32) &&& 31)) = 1
    · have hf := cb_it q17 hf
      refine cb_tabI 65 h dX9_carryOut_31 q17 (by decide) (by decide) rfl rfl ?_
      refine cb_aload_n 66 3 h dX9_carryOut_65 rfl rfl rfl ?_
      refine cb_iload_n 67 0 h dX9_carryOut_66 rfl rfl rfl ?_
      obtain ⟨c18, σc18, ec18, hf⟩ := cb_b2_o hf
      refine cl_X9_75 70 h dX9_carryOut_67 rfl (ct_Processor_moveOrHalt ec18) ⟨rfl, rfl, Nat.le_of_ble_eq_true rfl, Nat.le_of_ble_eq_true rfl⟩ rfl (Nat.le_of_ble_eq_true rfl) ?_
      refine cb_istore_n (lv' := [(2, .int c18), (3, .int c14), (1, .int t11), (0, .ref (a 3))]) 71 h dX9_carryOut_70 rfl rfl rfl (Nat.le_of_ble_eq_true rfl) rfl ?_
      refine cb_goto 154 h dX9_carryOut_71 rfl ?_
      exact cb_lv [3, 2, 0] rfl (j154 _ _ _ hf)
    have hf := cb_if q17 hf
    by_cases q19 : (c14 >>> ((6 : Int32) &&& 31)) = 2
    · have hf := cb_it q19 hf
      refine cb_tabI 74 h dX9_carryOut_31 q19 (by decide) (by decide) rfl rfl ?_
      refine cb_aload_n 75 3 h dX9_carryOut_74 rfl rfl rfl ?_
      refine cb_iload_n 76 0 h dX9_carryOut_75 rfl rfl rfl ?_
      refine cb_iconst 77 h dX9_carryOut_76 rfl kc_3 ?_
      refine cb_ishr 78 h dX9_carryOut_77 rfl ?_
      refine cb_bipush 80 h dX9_carryOut_78 rfl kb_7 ?_
      refine cb_iand 81 h dX9_carryOut_80 rfl ?_
      refine cb_aload_n 82 3 h dX9_carryOut_81 rfl rfl rfl ?_
      refine cb_iload_n 83 0 h dX9_carryOut_82 rfl rfl rfl ?_
      refine cb_bipush 85 h dX9_carryOut_83 rfl kb_7 ?_
      refine cb_iand 86 h dX9_carryOut_85 rfl ?_
      obtain ⟨c20, ec20, hf⟩ := cb_bo_o hf
      refine cl_X9_78 89 h dX9_carryOut_86 rfl (ct_Processor_read ec20) ⟨rfl, rfl, Nat.le_of_ble_eq_true rfl, Nat.le_of_ble_eq_true rfl⟩ rfl (Nat.le_of_ble_eq_true rfl) ?_
      obtain ⟨σc21, ec21, hf⟩ := cb_bo_o hf
      refine cl_X9_81 92 h dX9_carryOut_89 rfl (ct_Processor_operate ec21) ⟨rfl, rfl, Nat.le_of_ble_eq_true rfl, Nat.le_of_ble_eq_true rfl⟩ rfl (Nat.le_of_ble_eq_true rfl) ?_
      refine cb_iload_n 93 0 h dX9_carryOut_92 rfl rfl rfl ?_
      refine cb_bipush 95 h dX9_carryOut_93 rfl kb_7 ?_
      refine cb_iand 96 h dX9_carryOut_95 rfl ?_
      refine cb_bipush 98 h dX9_carryOut_96 rfl kb_6 ?_
      refine cb_cut (cb_V X (WC a ca σc21) 107 [(3, .int c14), (2, .int (4 : Int32)), (1, .int t11), (0, .ref (a 3))] [.int (if (c14 &&& (7 : Int32)) = (6 : Int32) then (7 : Int32) else (4 : Int32))]) (fun jj => ?_) ?_
      · refine cb_icmp_ne 106 101 h dX9_carryOut_98 rfl rfl (fun q22 => ?_) (fun q22 => ?_)
        · refine cb_iconst 107 h dX9_carryOut_106 rfl kc_4 ?_
          exact (cb_tf q22 jj)
        · refine cb_bipush 103 h dX9_carryOut_101 rfl kb_7 ?_
          refine cb_goto 107 h dX9_carryOut_103 rfl ?_
          exact (cb_tt q22 jj)
      obtain ⟨t23, e24, hf⟩ := cb_let_o hf
      refine cb_istore_n (lv' := [(2, .int t23), (3, .int c14), (1, .int t11), (0, .ref (a 3))]) 108 h dX9_carryOut_107 rfl rfl e24 (Nat.le_of_ble_eq_true rfl) rfl ?_
      refine cb_goto 154 h dX9_carryOut_108 rfl ?_
      exact cb_lv [3, 2, 0] rfl (j154 _ _ _ hf)
    have hf := cb_if q19 hf
    refine cb_tabO 111 h dX9_carryOut_31 (by have t0 := lv_neT (a := 0) q15 (by decide); have t1 := lv_neT (a := 1) q17 (by decide); have t2 := lv_neT (a := 2) q19 (by decide); omega) rfl ?_
    refine cb_iload_n 112 0 h dX9_carryOut_111 rfl rfl rfl ?_
    refine cb_bipush 114 h dX9_carryOut_112 rfl kb_7 ?_
    refine cb_iand 115 h dX9_carryOut_114 rfl ?_
    refine cb_iconst 116 h dX9_carryOut_115 rfl kc_3 ?_
    refine cb_cut (cb_V X (WC a ca σc14) 133 [(3, .int c14), (2, .int (4 : Int32)), (1, .int t11), (0, .ref (a 3))] [.int (if (c14 &&& (7 : Int32)) = (3 : Int32) then (1 : Int32) else (if (c14 &&& (15 : Int32)) = (13 : Int32) then (1 : Int32) else (0 : Int32)))]) (fun jj => ?_) ?_
    · refine cb_icmp_eq 128 119 h dX9_carryOut_116 rfl rfl (fun q25 => ?_) (fun q25 => ?_)
      · refine cb_iconst 129 h dX9_carryOut_128 rfl kc_1 ?_
        refine cb_goto 133 h dX9_carryOut_129 rfl ?_
        exact (cb_tt q25 jj)
      · refine cb_iload_n 120 0 h dX9_carryOut_119 rfl rfl rfl ?_
        refine cb_bipush 122 h dX9_carryOut_120 rfl kb_15 ?_
        refine cb_iand 123 h dX9_carryOut_122 rfl ?_
        refine cb_bipush 125 h dX9_carryOut_123 rfl kb_13 ?_
        refine cb_icmp_ne 132 128 h dX9_carryOut_125 rfl rfl (fun q26 => ?_) (fun q26 => ?_)
        · refine cb_iconst 133 h dX9_carryOut_132 rfl kc_0 ?_
          exact (cb_tf q26 (cb_tf q25 jj))
        · refine cb_iconst 129 h dX9_carryOut_128 rfl kc_1 ?_
          refine cb_goto 133 h dX9_carryOut_129 rfl ?_
          exact (cb_tt q26 (cb_tf q25 jj))
    obtain ⟨t27, e28, hf⟩ := cb_let_o hf
    refine cb_istore (lv' := [(4, .int t27), (3, .int c14), (2, .int (4 : Int32)), (1, .int t11), (0, .ref (a 3))]) 135 h dX9_carryOut_133 rfl e28 (Nat.le_of_ble_eq_true rfl) rfl ?_
    refine cb_iload 137 0 h dX9_carryOut_135 rfl rfl ?_
    refine cb_if_eq 148 140 h dX9_carryOut_137 rfl rfl (fun q29 => ?_) (fun q29 => ?_)
    · have hf := cb_it q29 hf
      refine cb_aload_n 149 4 h dX9_carryOut_148 rfl rfl rfl ?_
      refine cb_iload_n 150 1 h dX9_carryOut_149 rfl rfl rfl ?_
      obtain ⟨c30, σc30, ec30, hf⟩ := cb_b2_o hf
      refine cl_X9_88 153 h dX9_carryOut_150 rfl (ct_Processor_highColumns ec30) ⟨rfl, rfl, Nat.le_of_ble_eq_true rfl, Nat.le_of_ble_eq_true rfl⟩ rfl (Nat.le_of_ble_eq_true rfl) ?_
      exact cb_lv [4, 3] rfl (j153 _ _ _ hf)
    · have hf := cb_if q29 hf
      refine cb_aload_n 141 4 h dX9_carryOut_140 rfl rfl rfl ?_
      refine cb_iload_n 142 1 h dX9_carryOut_141 rfl rfl rfl ?_
      obtain ⟨c31, σc31, ec31, hf⟩ := cb_b2_o hf
      refine cl_X9_85 145 h dX9_carryOut_142 rfl (ct_Processor_highAlone ec31) ⟨rfl, rfl, Nat.le_of_ble_eq_true rfl, Nat.le_of_ble_eq_true rfl⟩ rfl (Nat.le_of_ble_eq_true rfl) ?_
      refine cb_goto 153 h dX9_carryOut_145 rfl ?_
      exact cb_lv [4, 3] rfl (j153 _ _ _ hf)
set_option maxRecDepth 100000 in
set_option maxHeartbeats 4000000 in
theorem ct_Chain_firstToAttend {l : Launch} {D : va_G} {a : Nat → Nat} {ca : Nat → ClassId} {σ : cb_S} {r : Option Nat} (hf : c_Chain_firstToAttend σ = some r) : cb_C l yX3_firstToAttend cX3_firstToAttend 3 (some (.object "ChainBoard$Device")) { frames := 0, cells := 0, slots := 0, locals := 0 } D (EC ca) (adC a) [.ref (a 2)] (WC a ca σ) (some (cb_rv a r)) (WC a ca σ) := by
  refine cb_mk [(0, .ref (a 2))] (by decide) (Nat.le_of_ble_eq_true rfl) rfl (fun X h he => ?_) goodC
  have h : cb_ok X cX3_firstToAttend RX3 (EC ca) 0 0 3 := h
  unfold c_Chain_firstToAttend at hf
  refine cb_iconst 1 h dX3_firstToAttend_0 rfl kc_0 ?_
  refine cb_istore_n (lv' := [(1, .int (0 : Int32)), (0, .ref (a 2))]) 2 h dX3_firstToAttend_1 rfl rfl rfl (Nat.le_of_ble_eq_true rfl) rfl ?_
  refine cb_iload_n 3 0 h dX3_firstToAttend_2 rfl rfl rfl ?_
  refine cb_aload_n 4 1 h dX3_firstToAttend_3 rfl rfl rfl ?_
  refine gf_X3_33 7 h dX3_firstToAttend_4 rfl ?_
  refine leC_5 8 h dX3_firstToAttend_7 rfl ?_
  refine cb_icmp_ge 42 11 h dX3_firstToAttend_8 rfl rfl (fun q => absurd q (by decide)) (fun _ => ?_)
  refine cb_aload_n 12 1 h dX3_firstToAttend_11 rfl rfl rfl ?_
  refine gf_X3_33 15 h dX3_firstToAttend_12 rfl ?_
  refine cb_iload_n 16 0 h dX3_firstToAttend_15 rfl rfl rfl ?_
  refine laC_5 17 h dX3_firstToAttend_16 rfl vi_0_4 tk_0 ?_
  refine cb_astore_n (lv' := [(2, .ref (a 6)), (1, .int (0 : Int32)), (0, .ref (a 2))]) 18 h dX3_firstToAttend_17 rfl rfl (Nat.le_of_ble_eq_true rfl) rfl ?_
  refine cb_aload_n 19 0 h dX3_firstToAttend_18 rfl rfl rfl ?_
  refine gf_X3_70 22 h dX3_firstToAttend_19 rfl device_6 ?_
  refine cb_if_eq 27 25 h dX3_firstToAttend_22 rfl rfl (fun q1 => ?_) (fun q1 => ?_)
  · have hf := cb_it q1 hf
    refine cb_aload_n 28 0 h dX3_firstToAttend_27 rfl rfl rfl ?_
    refine gf_X3_74 31 h dX3_firstToAttend_28 rfl device_6 ?_
    refine cb_if_eq 36 34 h dX3_firstToAttend_31 rfl rfl (fun q2 => ?_) (fun q2 => ?_)
    · have hf := cb_it q2 hf
      refine cb_iinc 1 (lv' := [(1, .int (1 : Int32)), (2, .ref (a 6)), (0, .ref (a 2))]) 39 h dX3_firstToAttend_36 rfl rfl (by decide) (Nat.le_of_ble_eq_true rfl) rfl ?_
      refine cb_goto 2 h dX3_firstToAttend_39 rfl ?_
      refine cb_iload_n 3 0 h dX3_firstToAttend_2 rfl rfl rfl ?_
      refine cb_aload_n 4 2 h dX3_firstToAttend_3 rfl rfl rfl ?_
      refine gf_X3_33 7 h dX3_firstToAttend_4 rfl ?_
      refine leC_5 8 h dX3_firstToAttend_7 rfl ?_
      refine cb_icmp_ge 42 11 h dX3_firstToAttend_8 rfl rfl (fun q => absurd q (by decide)) (fun _ => ?_)
      refine cb_aload_n 12 2 h dX3_firstToAttend_11 rfl rfl rfl ?_
      refine gf_X3_33 15 h dX3_firstToAttend_12 rfl ?_
      refine cb_iload_n 16 0 h dX3_firstToAttend_15 rfl rfl rfl ?_
      refine laC_5 17 h dX3_firstToAttend_16 rfl vi_1_4 tk_1 ?_
      refine cb_astore_n (lv' := [(2, .ref (a 7)), (1, .int (1 : Int32)), (0, .ref (a 2))]) 18 h dX3_firstToAttend_17 rfl rfl (Nat.le_of_ble_eq_true rfl) rfl ?_
      refine cb_aload_n 19 0 h dX3_firstToAttend_18 rfl rfl rfl ?_
      refine gf_X3_70 22 h dX3_firstToAttend_19 rfl device_7 ?_
      refine cb_if_eq 27 25 h dX3_firstToAttend_22 rfl rfl (fun q3 => ?_) (fun q3 => ?_)
      · have hf := cb_it q3 hf
        refine cb_aload_n 28 0 h dX3_firstToAttend_27 rfl rfl rfl ?_
        refine gf_X3_74 31 h dX3_firstToAttend_28 rfl device_7 ?_
        refine cb_if_eq 36 34 h dX3_firstToAttend_31 rfl rfl (fun q4 => ?_) (fun q4 => ?_)
        · have hf := cb_it q4 hf
          refine cb_iinc 1 (lv' := [(1, .int (2 : Int32)), (2, .ref (a 7)), (0, .ref (a 2))]) 39 h dX3_firstToAttend_36 rfl rfl (by decide) (Nat.le_of_ble_eq_true rfl) rfl ?_
          refine cb_goto 2 h dX3_firstToAttend_39 rfl ?_
          refine cb_iload_n 3 0 h dX3_firstToAttend_2 rfl rfl rfl ?_
          refine cb_aload_n 4 2 h dX3_firstToAttend_3 rfl rfl rfl ?_
          refine gf_X3_33 7 h dX3_firstToAttend_4 rfl ?_
          refine leC_5 8 h dX3_firstToAttend_7 rfl ?_
          refine cb_icmp_ge 42 11 h dX3_firstToAttend_8 rfl rfl (fun q => absurd q (by decide)) (fun _ => ?_)
          refine cb_aload_n 12 2 h dX3_firstToAttend_11 rfl rfl rfl ?_
          refine gf_X3_33 15 h dX3_firstToAttend_12 rfl ?_
          refine cb_iload_n 16 0 h dX3_firstToAttend_15 rfl rfl rfl ?_
          refine laC_5 17 h dX3_firstToAttend_16 rfl vi_2_4 tk_2 ?_
          refine cb_astore_n (lv' := [(2, .ref (a 8)), (1, .int (2 : Int32)), (0, .ref (a 2))]) 18 h dX3_firstToAttend_17 rfl rfl (Nat.le_of_ble_eq_true rfl) rfl ?_
          refine cb_aload_n 19 0 h dX3_firstToAttend_18 rfl rfl rfl ?_
          refine gf_X3_70 22 h dX3_firstToAttend_19 rfl device_8 ?_
          refine cb_if_eq 27 25 h dX3_firstToAttend_22 rfl rfl (fun q5 => ?_) (fun q5 => ?_)
          · have hf := cb_it q5 hf
            refine cb_aload_n 28 0 h dX3_firstToAttend_27 rfl rfl rfl ?_
            refine gf_X3_74 31 h dX3_firstToAttend_28 rfl device_8 ?_
            refine cb_if_eq 36 34 h dX3_firstToAttend_31 rfl rfl (fun q6 => ?_) (fun q6 => ?_)
            · have hf := cb_it q6 hf
              refine cb_iinc 1 (lv' := [(1, .int (3 : Int32)), (2, .ref (a 8)), (0, .ref (a 2))]) 39 h dX3_firstToAttend_36 rfl rfl (by decide) (Nat.le_of_ble_eq_true rfl) rfl ?_
              refine cb_goto 2 h dX3_firstToAttend_39 rfl ?_
              refine cb_iload_n 3 0 h dX3_firstToAttend_2 rfl rfl rfl ?_
              refine cb_aload_n 4 2 h dX3_firstToAttend_3 rfl rfl rfl ?_
              refine gf_X3_33 7 h dX3_firstToAttend_4 rfl ?_
              refine leC_5 8 h dX3_firstToAttend_7 rfl ?_
              refine cb_icmp_ge 42 11 h dX3_firstToAttend_8 rfl rfl (fun q => absurd q (by decide)) (fun _ => ?_)
              refine cb_aload_n 12 2 h dX3_firstToAttend_11 rfl rfl rfl ?_
              refine gf_X3_33 15 h dX3_firstToAttend_12 rfl ?_
              refine cb_iload_n 16 0 h dX3_firstToAttend_15 rfl rfl rfl ?_
              refine laC_5 17 h dX3_firstToAttend_16 rfl vi_3_4 tk_3 ?_
              refine cb_astore_n (lv' := [(2, .ref (a 9)), (1, .int (3 : Int32)), (0, .ref (a 2))]) 18 h dX3_firstToAttend_17 rfl rfl (Nat.le_of_ble_eq_true rfl) rfl ?_
              refine cb_aload_n 19 0 h dX3_firstToAttend_18 rfl rfl rfl ?_
              refine gf_X3_70 22 h dX3_firstToAttend_19 rfl device_9 ?_
              refine cb_if_eq 27 25 h dX3_firstToAttend_22 rfl rfl (fun q7 => ?_) (fun q7 => ?_)
              · have hf := cb_it q7 hf
                refine cb_aload_n 28 0 h dX3_firstToAttend_27 rfl rfl rfl ?_
                refine gf_X3_74 31 h dX3_firstToAttend_28 rfl device_9 ?_
                refine cb_if_eq 36 34 h dX3_firstToAttend_31 rfl rfl (fun q8 => ?_) (fun q8 => ?_)
                · have hf := cb_it q8 hf
                  refine cb_iinc 1 (lv' := [(1, .int (4 : Int32)), (2, .ref (a 9)), (0, .ref (a 2))]) 39 h dX3_firstToAttend_36 rfl rfl (by decide) (Nat.le_of_ble_eq_true rfl) rfl ?_
                  refine cb_goto 2 h dX3_firstToAttend_39 rfl ?_
                  refine cb_iload_n 3 0 h dX3_firstToAttend_2 rfl rfl rfl ?_
                  refine cb_aload_n 4 2 h dX3_firstToAttend_3 rfl rfl rfl ?_
                  refine gf_X3_33 7 h dX3_firstToAttend_4 rfl ?_
                  refine leC_5 8 h dX3_firstToAttend_7 rfl ?_
                  refine cb_icmp_ge 42 11 h dX3_firstToAttend_8 rfl rfl (fun _ => ?_) (fun q => absurd q (by decide))
                  refine cb_null 43 h dX3_firstToAttend_42 rfl ?_
                  exact cb_retA (a := a) (o := (none : Option Nat)) h dX3_firstToAttend_43 he hf
                · have hf := cb_if q8 hf
                  refine cb_aload_n 35 0 h dX3_firstToAttend_34 rfl rfl rfl ?_
                  exact cb_retA (a := a) (o := (some 9)) h dX3_firstToAttend_35 he hf
              · have hf := cb_if q7 hf
                refine cb_null 26 h dX3_firstToAttend_25 rfl ?_
                exact cb_retA (a := a) (o := (none : Option Nat)) h dX3_firstToAttend_26 he hf
            · have hf := cb_if q6 hf
              refine cb_aload_n 35 0 h dX3_firstToAttend_34 rfl rfl rfl ?_
              exact cb_retA (a := a) (o := (some 8)) h dX3_firstToAttend_35 he hf
          · have hf := cb_if q5 hf
            refine cb_null 26 h dX3_firstToAttend_25 rfl ?_
            exact cb_retA (a := a) (o := (none : Option Nat)) h dX3_firstToAttend_26 he hf
        · have hf := cb_if q4 hf
          refine cb_aload_n 35 0 h dX3_firstToAttend_34 rfl rfl rfl ?_
          exact cb_retA (a := a) (o := (some 7)) h dX3_firstToAttend_35 he hf
      · have hf := cb_if q3 hf
        refine cb_null 26 h dX3_firstToAttend_25 rfl ?_
        exact cb_retA (a := a) (o := (none : Option Nat)) h dX3_firstToAttend_26 he hf
    · have hf := cb_if q2 hf
      refine cb_aload_n 35 0 h dX3_firstToAttend_34 rfl rfl rfl ?_
      exact cb_retA (a := a) (o := (some 6)) h dX3_firstToAttend_35 he hf
  · have hf := cb_if q1 hf
    refine cb_null 26 h dX3_firstToAttend_25 rfl ?_
    exact cb_retA (a := a) (o := (none : Option Nat)) h dX3_firstToAttend_26 he hf
set_option maxRecDepth 100000 in
set_option maxHeartbeats 4000000 in
theorem ct_Processor_attend {l : Launch} {D : va_G} {a : Nat → Nat} {ca : Nat → ClassId} {N : Nat} {σ σ' : cb_S} {r : Int32} (hf : c_Processor_attend N σ = some (r, σ')) : cb_C l yX9_attend cX9_attend 4 (some .int) { frames := 5, cells := 0, slots := 0, locals := 110 } D (EC ca) (adC a) [.ref (a 3)] (WC a ca σ) (some (.int r)) (WC a ca σ') := by
  refine cb_mk [(0, .ref (a 3))] (by decide) (Nat.le_of_ble_eq_true rfl) rfl (fun X h he => ?_) goodC
  have h : cb_ok X cX9_attend RX9 (EC ca) 5 110 4 := h
  unfold c_Processor_attend at hf
  have j128 : ∀ (σ : cb_S) (x2 : Int32) (y0 : Int32), c_Processor_attend_L128 N σ x2 y0 = some (r, σ') → cb_V X (WC a ca σ) 128 [(0, .ref (a 3)), (2, .int x2)] [.int y0, .ref (a 10)] := by
    intro σ x2 y0 hf
    unfold c_Processor_attend_L128 at hf
    obtain ⟨σ1, e2, hf⟩ := cb_let_o hf
    refine pf_X9_64 131 h dX9_attend_128 rfl e2 ?_
    refine cb_iload_n 132 1 h dX9_attend_131 rfl rfl rfl ?_
    refine cb_cut (cb_V X (WC a ca σ1) 142 [(0, .ref (a 3)), (2, .int x2)] [.int (if x2 = 0 then (13 : Int32) else (19 : Int32))]) (fun jj => ?_) ?_
    · refine cb_if_eq 140 135 h dX9_attend_132 rfl rfl (fun q3 => ?_) (fun q3 => ?_)
      · refine cb_bipush 142 h dX9_attend_140 rfl kb_13 ?_
        exact (cb_tt q3 jj)
      · refine cb_bipush 137 h dX9_attend_135 rfl kb_19 ?_
        refine cb_goto 142 h dX9_attend_137 rfl ?_
        exact (cb_tf q3 jj)
    obtain ⟨t4, e5, hf⟩ := cb_let_o hf
    refine cb_istore_n (lv' := [(3, .int t4), (0, .ref (a 3)), (2, .int x2)]) 143 h dX9_attend_142 rfl rfl e5 (Nat.le_of_ble_eq_true rfl) rfl ?_
    refine cb_aload_n 144 1 h dX9_attend_143 rfl rfl rfl ?_
    refine cb_iload_n 145 0 h dX9_attend_144 rfl rfl rfl ?_
    obtain ⟨σc6, ec6, hf⟩ := cb_bo_o hf
    refine cl_X9_91 148 h dX9_attend_145 rfl (ct_Processor_spend ec6) ⟨rfl, rfl, Nat.le_of_ble_eq_true rfl, Nat.le_of_ble_eq_true rfl⟩ rfl (Nat.le_of_ble_eq_true rfl) ?_
    refine cb_iload_n 149 0 h dX9_attend_148 rfl rfl rfl ?_
    exact cb_retI (Wf := WC a ca) h dX9_attend_149 he hf
  refine cb_aload_n 1 0 h dX9_attend_0 rfl rfl rfl ?_
  refine gf_X9_16 4 h dX9_attend_1 rfl ?_
  refine cb_if_eq 21 7 h dX9_attend_4 rfl rfl (fun q7 => ?_) (fun q7 => ?_)
  · have hf := cb_it q7 hf
    refine cb_iconst 22 h dX9_attend_21 rfl kc_0 ?_
    exact cb_retI (Wf := WC a ca) h dX9_attend_22 he hf
  · have hf := cb_if q7 hf
    refine cb_aload_n 8 0 h dX9_attend_7 rfl rfl rfl ?_
    refine gf_X9_30 11 h dX9_attend_8 rfl ?_
    refine cb_if_ne 21 14 h dX9_attend_11 rfl rfl (fun q8 => ?_) (fun q8 => ?_)
    · have hf := cb_if q8 hf
      refine cb_iconst 22 h dX9_attend_21 rfl kc_0 ?_
      exact cb_retI (Wf := WC a ca) h dX9_attend_22 he hf
    · have hf := cb_it q8 hf
      refine cb_aload_n 15 0 h dX9_attend_14 rfl rfl rfl ?_
      refine gf_X9_27 18 h dX9_attend_15 rfl ?_
      refine cb_if_eq 23 21 h dX9_attend_18 rfl rfl (fun q9 => ?_) (fun q9 => ?_)
      · have hf := cb_it q9 hf
        refine cb_aload_n 24 0 h dX9_attend_23 rfl rfl rfl ?_
        refine gf_X9_46 27 h dX9_attend_24 rfl ?_
        obtain ⟨c10, ec10, hf⟩ := cb_bo_o hf
        refine cl_X9_95 30 h dX9_attend_27 rfl (ct_Chain_firstToAttend ec10) ⟨rfl, rfl, Nat.le_of_ble_eq_true rfl, Nat.le_of_ble_eq_true rfl⟩ rfl (Nat.le_of_ble_eq_true rfl) ?_
        cases c10 with
        | none =>
          have hf := cb_on_n hf
          refine cb_nul ?_
          refine cb_astoreN_n (lv' := [(1, .null), (0, .ref (a 3))]) 31 h dX9_attend_30 rfl rfl (Nat.le_of_ble_eq_true rfl) rfl ?_
          refine cb_aloadN_n 32 0 h dX9_attend_31 rfl rfl rfl ?_
          refine cb_ifnonnullN 35 h dX9_attend_32 rfl ?_
          refine cb_iconst 36 h dX9_attend_35 rfl kc_0 ?_
          exact cb_retI (Wf := WC a ca) h dX9_attend_36 he hf
        | some j11 =>
          have hf := cb_on_s hf
          obtain ⟨g12, hf⟩ := cb_gd_o hf
          refine cb_rfv ?_
          refine cb_astore_n (lv' := [(1, .ref (a j11)), (0, .ref (a 3))]) 31 h dX9_attend_30 rfl rfl (Nat.le_of_ble_eq_true rfl) rfl ?_
          refine cb_aload_n 32 0 h dX9_attend_31 rfl rfl rfl ?_
          refine cb_ifnonnull 37 h dX9_attend_32 rfl ?_
          refine cb_aload_n 38 0 h dX9_attend_37 rfl rfl rfl ?_
          refine cb_iconst 39 h dX9_attend_38 rfl kc_0 ?_
          obtain ⟨σ13, e14, hf⟩ := cb_let_o hf
          refine pf_X9_101 42 h dX9_attend_39 rfl g12 cb_01_0 e14 ?_
          refine cb_aload_n 43 0 h dX9_attend_42 rfl rfl rfl ?_
          refine cb_iconst 44 h dX9_attend_43 rfl kc_1 ?_
          obtain ⟨σ15, e16, hf⟩ := cb_let_o hf
          refine pf_X9_106 47 h dX9_attend_44 rfl g12 cb_01_1 e16 ?_
          refine cb_aload_n 48 1 h dX9_attend_47 rfl rfl rfl ?_
          refine cb_iconst 49 h dX9_attend_48 rfl kc_0 ?_
          obtain ⟨σ17, e18, hf⟩ := cb_let_o hf
          refine pf_X9_16 52 h dX9_attend_49 rfl cb_01_0 e18 ?_
          refine cb_aload_n 53 1 h dX9_attend_52 rfl rfl rfl ?_
          refine cb_iconst 54 h dX9_attend_53 rfl kc_0 ?_
          obtain ⟨σ19, e20, hf⟩ := cb_let_o hf
          refine pf_X9_24 57 h dX9_attend_54 rfl cb_01_0 e20 ?_
          refine cb_aload_n 58 1 h dX9_attend_57 rfl rfl rfl ?_
          refine cb_dup 59 h dX9_attend_58 rfl rfl ?_
          refine gf_X9_39 62 h dX9_attend_59 rfl ?_
          refine cb_iconst 63 h dX9_attend_62 rfl kc_1 ?_
          refine cb_iadd 64 h dX9_attend_63 rfl ?_
          obtain ⟨σ21, e22, hf⟩ := cb_let_o hf
          refine pf_X9_39 67 h dX9_attend_64 rfl e22 ?_
          refine cb_aload_n 68 1 h dX9_attend_67 rfl rfl rfl ?_
          refine gf_X9_20 71 h dX9_attend_68 rfl ?_
          refine cb_iconst 72 h dX9_attend_71 rfl kc_2 ?_
          refine cb_cut (cb_V X (WC a ca σ21) 80 [(1, .ref (a j11)), (0, .ref (a 3))] [.int (if (σ21 3 6) = (2 : Int32) then (1 : Int32) else (0 : Int32))]) (fun jj => ?_) ?_
          · refine cb_icmp_ne 79 75 h dX9_attend_72 rfl rfl (fun q23 => ?_) (fun q23 => ?_)
            · refine cb_iconst 80 h dX9_attend_79 rfl kc_0 ?_
              exact (cb_tf q23 jj)
            · refine cb_iconst 76 h dX9_attend_75 rfl kc_1 ?_
              refine cb_goto 80 h dX9_attend_76 rfl ?_
              exact (cb_tt q23 jj)
          obtain ⟨t24, e25, hf⟩ := cb_let_o hf
          refine cb_istore_n (lv' := [(2, .int t24), (1, .ref (a j11)), (0, .ref (a 3))]) 81 h dX9_attend_80 rfl rfl e25 (Nat.le_of_ble_eq_true rfl) rfl ?_
          refine cb_aload_n 82 2 h dX9_attend_81 rfl rfl rfl ?_
          refine cb_aload_n 83 2 h dX9_attend_82 rfl rfl rfl ?_
          refine gf_X9_10 86 h dX9_attend_83 rfl ?_
          refine gf_X9_64 89 h dX9_attend_86 rfl ?_
          obtain ⟨σc26, ec26, hf⟩ := cb_bo_o hf
          refine cl_X9_109 92 h dX9_attend_89 rfl (ct_Processor_push ec26) ⟨rfl, rfl, Nat.le_of_ble_eq_true rfl, Nat.le_of_ble_eq_true rfl⟩ rfl (Nat.le_of_ble_eq_true rfl) ?_
          refine cb_aload_n 93 2 h dX9_attend_92 rfl rfl rfl ?_
          refine gf_X9_10 96 h dX9_attend_93 rfl ?_
          refine cb_iload_n 97 0 h dX9_attend_96 rfl rfl rfl ?_
          refine cb_if_eq 126 100 h dX9_attend_97 rfl rfl (fun q27 => ?_) (fun q27 => ?_)
          · have hf := cb_it q27 hf
            refine cb_bipush 128 h dX9_attend_126 rfl kb_56 ?_
            exact cb_lv [2, 0] rfl (j128 _ _ _ hf)
          · have hf := cb_if q27 hf
            refine cb_aload_n 101 2 h dX9_attend_100 rfl rfl rfl ?_
            refine gf_X9_42 104 h dX9_attend_101 rfl ?_
            refine cb_aload_n 105 2 h dX9_attend_104 rfl rfl rfl ?_
            refine gf_X9_10 108 h dX9_attend_105 rfl ?_
            refine gf_X9_112 111 h dX9_attend_108 rfl ?_
            refine cb_sipush 114 h dX9_attend_111 rfl ks_256 ?_
            refine cb_imul 115 h dX9_attend_114 rfl ?_
            refine cb_aload_n 116 1 h dX9_attend_115 rfl rfl rfl ?_
            refine gf_X9_115 119 h dX9_attend_116 rfl g12 ?_
            refine cb_iadd 120 h dX9_attend_119 rfl ?_
            obtain ⟨c28, ec28, hf⟩ := cb_bo_o hf
            refine cl_X9_118 123 h dX9_attend_120 rfl (ct_Memory_wordAt ec28) ⟨rfl, rfl, Nat.le_of_ble_eq_true rfl, Nat.le_of_ble_eq_true rfl⟩ rfl (Nat.le_of_ble_eq_true rfl) ?_
            refine cb_goto 128 h dX9_attend_123 rfl ?_
            exact cb_lv [2, 0] rfl (j128 _ _ _ hf)
      · have hf := cb_if q9 hf
        refine cb_iconst 22 h dX9_attend_21 rfl kc_0 ?_
        exact cb_retI (Wf := WC a ca) h dX9_attend_22 he hf
set_option maxRecDepth 100000 in
set_option maxHeartbeats 4000000 in
theorem ct_Board_run {l : Launch} {D : va_G} {a : Nat → Nat} {ca : Nat → ClassId} {N : Nat} {σ σ' : cb_S} {v1 : Int32} {r : Int32} (hf : c_Board_run N σ v1 = some (r, σ')) : cb_C l yX1_run cX1_run 4 (some .int) { frames := 6, cells := 0, slots := 0, locals := 141 } D (EC ca) (adC a) [.ref (a 0), .int v1] (WC a ca σ) (some (.int r)) (WC a ca σ') := by
  refine cb_mk [(0, .ref (a 0)), (1, .int v1)] (by decide) (Nat.le_of_ble_eq_true rfl) rfl (fun X h he => ?_) goodC
  have h : cb_ok X cX1_run RX1 (EC ca) 6 141 4 := h
  unfold c_Board_run at hf
  have jb17 : ∀ (k17 : cb_S → Int32 → Int32 → Option (Int32 × cb_S)) (hk17 : ∀ (σ : cb_S) (x2 : Int32) (x3 : Int32), k17 σ x2 x3 = some (r, σ') → cb_V X (WC a ca σ) 17 [(0, .ref (a 0)), (1, .int v1), (2, .int x2), (3, .int x3)] []) (σ : cb_S) (x2 : Int32) (x3 : Int32), c_Board_run_B17 N v1 k17 σ x2 x3 = some (r, σ') → cb_V X (WC a ca σ) 17 [(0, .ref (a 0)), (1, .int v1), (2, .int x2), (3, .int x3)] [] := by
    intro k17 hk17 σ x2 x3 hf
    unfold c_Board_run_B17 at hf
    refine cb_iload_n 18 3 h dX1_run_17 rfl rfl rfl ?_
    refine cb_iload_n 19 1 h dX1_run_18 rfl rfl rfl ?_
    refine cb_icmp_ge 63 22 h dX1_run_19 rfl rfl (fun q1 => ?_) (fun q1 => ?_)
    · have hf := cb_it q1 hf
      refine cb_iload_n 64 2 h dX1_run_63 rfl rfl rfl ?_
      exact cb_retI (Wf := WC a ca) h dX1_run_64 he hf
    · have hf := cb_if q1 hf
      refine cb_iload_n 23 2 h dX1_run_22 rfl rfl rfl ?_
      refine cb_iload_n 24 1 h dX1_run_23 rfl rfl rfl ?_
      refine cb_icmp_ge 63 27 h dX1_run_24 rfl rfl (fun q2 => ?_) (fun q2 => ?_)
      · have hf := cb_it q2 hf
        refine cb_iload_n 64 2 h dX1_run_63 rfl rfl rfl ?_
        exact cb_retI (Wf := WC a ca) h dX1_run_64 he hf
      · have hf := cb_if q2 hf
        refine cb_aload_n 28 0 h dX1_run_27 rfl rfl rfl ?_
        refine gf_X1_28 31 h dX1_run_28 rfl ?_
        refine gf_X1_61 34 h dX1_run_31 rfl ?_
        refine cb_if_ne 63 37 h dX1_run_34 rfl rfl (fun q3 => ?_) (fun q3 => ?_)
        · have hf := cb_if q3 hf
          refine cb_iload_n 64 2 h dX1_run_63 rfl rfl rfl ?_
          exact cb_retI (Wf := WC a ca) h dX1_run_64 he hf
        · have hf := cb_it q3 hf
          refine cb_iload_n 38 2 h dX1_run_37 rfl rfl rfl ?_
          refine cb_aload_n 39 0 h dX1_run_38 rfl rfl rfl ?_
          refine gf_X1_28 42 h dX1_run_39 rfl ?_
          obtain ⟨c4, σc4, ec4, hf⟩ := cb_b2_o hf
          refine cl_X1_64 45 h dX1_run_42 rfl (ct_Processor_carryOut ec4) ⟨rfl, rfl, Nat.le_of_ble_eq_true rfl, Nat.le_of_ble_eq_true rfl⟩ rfl (Nat.le_of_ble_eq_true rfl) ?_
          refine cb_iadd 46 h dX1_run_45 rfl ?_
          obtain ⟨t5, e6, hf⟩ := cb_let_o hf
          refine cb_istore_n (lv' := [(2, .int t5), (0, .ref (a 0)), (1, .int v1), (3, .int x3)]) 47 h dX1_run_46 rfl rfl e6 (Nat.le_of_ble_eq_true rfl) rfl ?_
          refine cb_iload_n 48 0 h dX1_run_47 rfl rfl rfl ?_
          refine cb_aload_n 49 1 h dX1_run_48 rfl rfl rfl ?_
          refine gf_X1_28 52 h dX1_run_49 rfl ?_
          obtain ⟨c7, σc7, ec7, hf⟩ := cb_b2_o hf
          refine cl_X1_68 55 h dX1_run_52 rfl (ct_Processor_attend ec7) ⟨rfl, rfl, Nat.le_of_ble_eq_true rfl, Nat.le_of_ble_eq_true rfl⟩ rfl (Nat.le_of_ble_eq_true rfl) ?_
          refine cb_iadd 56 h dX1_run_55 rfl ?_
          obtain ⟨t8, e9, hf⟩ := cb_let_o hf
          refine cb_istore_n (lv' := [(2, .int t8), (0, .ref (a 0)), (1, .int v1), (3, .int x3)]) 57 h dX1_run_56 rfl rfl e9 (Nat.le_of_ble_eq_true rfl) rfl ?_
          obtain ⟨t10, e11, hf⟩ := cb_let_o hf
          refine cb_iinc 3 (lv' := [(3, .int t10), (2, .int t8), (0, .ref (a 0)), (1, .int v1)]) 60 h dX1_run_57 rfl rfl ((congrArg (fun z => x3 + z) kc_1).trans e11) (Nat.le_of_ble_eq_true rfl) rfl ?_
          refine cb_goto 17 h dX1_run_60 rfl ?_
          exact cb_lv [2, 3, 1, 0] rfl (hk17 _ _ _ hf)
  have j17 : ∀ (n : Nat) (σ : cb_S) (x2 : Int32) (x3 : Int32), c_Board_run_H17 N v1 n σ x2 x3 = some (r, σ') → cb_V X (WC a ca σ) 17 [(0, .ref (a 0)), (1, .int v1), (2, .int x2), (3, .int x3)] [] := by
    intro n
    induction n with
    | zero => intro σ x2 x3 hf; cases hf
    | succ n ih => intro σ x2 x3 hf; exact jb17  _ ih _ _ _ hf
  refine cb_iload_n 1 1 h dX1_run_0 rfl rfl rfl ?_
  refine cb_if_lt 11 4 h dX1_run_1 rfl rfl (fun q12 => ?_) (fun q12 => ?_)
  · have hf := cb_it q12 hf
    refine cb_iconst 12 h dX1_run_11 rfl kc_0 ?_
    exact cb_retI (Wf := WC a ca) h dX1_run_12 he hf
  · have hf := cb_if q12 hf
    refine cb_iload_n 5 1 h dX1_run_4 rfl rfl rfl ?_
    refine cb_sipush 8 h dX1_run_5 rfl ks_5000 ?_
    refine cb_icmp_le 13 11 h dX1_run_8 rfl rfl (fun q13 => ?_) (fun q13 => ?_)
    · have hf := cb_it q13 hf
      refine cb_iconst 14 h dX1_run_13 rfl kc_0 ?_
      refine cb_istore_n (lv' := [(2, .int (0 : Int32)), (0, .ref (a 0)), (1, .int v1)]) 15 h dX1_run_14 rfl rfl rfl (Nat.le_of_ble_eq_true rfl) rfl ?_
      refine cb_iconst 16 h dX1_run_15 rfl kc_0 ?_
      refine cb_istore_n (lv' := [(3, .int (0 : Int32)), (2, .int (0 : Int32)), (0, .ref (a 0)), (1, .int v1)]) 17 h dX1_run_16 rfl rfl rfl (Nat.le_of_ble_eq_true rfl) rfl ?_
      exact cb_lv [2, 3, 1, 0] rfl (j17 _ _ _ _ hf)
    · have hf := cb_if q13 hf
      refine cb_iconst 12 h dX1_run_11 rfl kc_0 ?_
      exact cb_retI (Wf := WC a ca) h dX1_run_12 he hf
set_option maxRecDepth 100000 in
set_option maxHeartbeats 4000000 in
theorem ct_Board_state {l : Launch} {D : va_G} {a : Nat → Nat} {ca : Nat → ClassId} {σ : cb_S} {r : Int32} (hf : c_Board_state σ = some r) : cb_C l yX1_state cX1_state 1 (some .int) { frames := 0, cells := 0, slots := 0, locals := 0 } D (EC ca) (adC a) [.ref (a 0)] (WC a ca σ) (some (.int r)) (WC a ca σ) := by
  refine cb_mk [(0, .ref (a 0))] (by decide) (Nat.le_of_ble_eq_true rfl) rfl (fun X h he => ?_) goodC
  have h : cb_ok X cX1_state RX1 (EC ca) 0 0 1 := h
  unfold c_Board_state at hf
  refine cb_aload_n 1 0 h dX1_state_0 rfl rfl rfl ?_
  refine gf_X1_28 4 h dX1_state_1 rfl ?_
  refine gf_X1_61 7 h dX1_state_4 rfl ?_
  refine cb_if_eq 12 10 h dX1_state_7 rfl rfl (fun q1 => ?_) (fun q1 => ?_)
  · have hf := cb_it q1 hf
    refine cb_aload_n 13 0 h dX1_state_12 rfl rfl rfl ?_
    refine gf_X1_28 16 h dX1_state_13 rfl ?_
    refine gf_X1_71 19 h dX1_state_16 rfl ?_
    refine cb_cut (cb_V X (WC a ca σ) 27 [(0, .ref (a 0))] [.int (if (σ 3 7) = 0 then (0 : Int32) else (1 : Int32))]) (fun jj => ?_) ?_
    · refine cb_if_eq 26 22 h dX1_state_19 rfl rfl (fun q2 => ?_) (fun q2 => ?_)
      · refine cb_iconst 27 h dX1_state_26 rfl kc_0 ?_
        exact (cb_tt q2 jj)
      · refine cb_iconst 23 h dX1_state_22 rfl kc_1 ?_
        refine cb_goto 27 h dX1_state_23 rfl ?_
        exact (cb_tf q2 jj)
    exact cb_retJ h dX1_state_27 he hf
  · have hf := cb_if q1 hf
    refine cb_iconst 11 h dX1_state_10 rfl kc_2 ?_
    exact cb_retJ h dX1_state_11 he hf
set_option maxRecDepth 100000 in
set_option maxHeartbeats 4000000 in
theorem ct_Chain_pulse {l : Launch} {D : va_G} {a : Nat → Nat} {ca : Nat → ClassId} {σ σ' : cb_S} {v1 : Int32} (hf : c_Chain_pulse σ v1 = some σ') : cb_C l yX3_pulse cX3_pulse 2 none { frames := 3, cells := 0, slots := 0, locals := 60 } D (EC ca) (adC a) [.ref (a 2), .int v1] (WC a ca σ) none (WC a ca σ') := by
  refine cb_mk [(0, .ref (a 2)), (1, .int v1)] (by decide) (Nat.le_of_ble_eq_true rfl) rfl (fun X h he => ?_) goodC
  have h : cb_ok X cX3_pulse RX3 (EC ca) 3 60 2 := h
  unfold c_Chain_pulse at hf
  have j15 : ∀ (σ : cb_S), c_Chain_pulse_L15 v1 σ = some σ' → cb_V X (WC a ca σ) 15 [(0, .ref (a 2))] [] := by
    intro σ hf
    unfold c_Chain_pulse_L15 at hf
    refine cb_aload_n 16 0 h dX3_pulse_15 rfl rfl rfl ?_
    refine gf_X3_18 19 h dX3_pulse_16 rfl ?_
    obtain ⟨c1, σc1, ec1, hf⟩ := cb_b2_o hf
    refine cl_X3_41 22 h dX3_pulse_19 rfl channel_7 (ct_Channel_takeTrigger channel_7 ec1) ⟨rfl, rfl, Nat.le_of_ble_eq_true rfl, Nat.le_of_ble_eq_true rfl⟩ rfl (Nat.le_of_ble_eq_true rfl) ?_
    refine cb_pop 23 h dX3_pulse_22 rfl rfl ?_
    exact cb_retV (Wf := WC a ca) h dX3_pulse_23 he hf
  refine cb_iload_n 1 1 h dX3_pulse_0 rfl rfl rfl ?_
  refine cb_iconst 2 h dX3_pulse_1 rfl kc_1 ?_
  refine cb_icmp_eq 15 5 h dX3_pulse_2 rfl rfl (fun q2 => ?_) (fun q2 => ?_)
  · have hf := cb_it q2 hf
    exact cb_lv [0] rfl (j15 _ hf)
  · have hf := cb_if q2 hf
    refine cb_aload_n 6 0 h dX3_pulse_5 rfl rfl rfl ?_
    refine gf_X3_12 9 h dX3_pulse_6 rfl ?_
    obtain ⟨c3, σc3, ec3, hf⟩ := cb_b2_o hf
    refine cl_X3_41 12 h dX3_pulse_9 rfl channel_6 (ct_Channel_takeTrigger channel_6 ec3) ⟨rfl, rfl, Nat.le_of_ble_eq_true rfl, Nat.le_of_ble_eq_true rfl⟩ rfl (Nat.le_of_ble_eq_true rfl) ?_
    refine cb_if_eq 23 15 h dX3_pulse_12 rfl rfl (fun q4 => ?_) (fun q4 => ?_)
    · have hf := cb_it q4 hf
      exact cb_retV (Wf := WC a ca) h dX3_pulse_23 he hf
    · have hf := cb_if q4 hf
      exact cb_lv [0] rfl (j15 _ hf)
set_option maxRecDepth 100000 in
set_option maxHeartbeats 4000000 in
theorem ct_Board_trigger {l : Launch} {D : va_G} {a : Nat → Nat} {ca : Nat → ClassId} {σ σ' : cb_S} {v1 : Int32} {r : Int32} (hf : c_Board_trigger σ v1 = some (r, σ')) : cb_C l yX1_trigger cX1_trigger 2 (some .boolean) { frames := 4, cells := 0, slots := 0, locals := 81 } D (EC ca) (adC a) [.ref (a 0), .int v1] (WC a ca σ) (some (.int r)) (WC a ca σ') := by
  refine cb_mk [(0, .ref (a 0)), (1, .int v1)] (by decide) (Nat.le_of_ble_eq_true rfl) rfl (fun X h he => ?_) goodC
  have h : cb_ok X cX1_trigger RX1 (EC ca) 4 81 2 := h
  unfold c_Board_trigger at hf
  refine cb_iload_n 1 1 h dX1_trigger_0 rfl rfl rfl ?_
  refine cb_if_lt 9 4 h dX1_trigger_1 rfl rfl (fun q1 => ?_) (fun q1 => ?_)
  · have hf := cb_it q1 hf
    refine cb_iconst 10 h dX1_trigger_9 rfl kc_0 ?_
    exact cb_retZ (Wf := WC a ca) h dX1_trigger_10 he cb_01_0 hf
  · have hf := cb_if q1 hf
    refine cb_iload_n 5 1 h dX1_trigger_4 rfl rfl rfl ?_
    refine cb_iconst 6 h dX1_trigger_5 rfl kc_1 ?_
    refine cb_icmp_le 11 9 h dX1_trigger_6 rfl rfl (fun q2 => ?_) (fun q2 => ?_)
    · have hf := cb_it q2 hf
      refine cb_aload_n 12 0 h dX1_trigger_11 rfl rfl rfl ?_
      refine gf_X1_19 15 h dX1_trigger_12 rfl ?_
      refine cb_iload_n 16 1 h dX1_trigger_15 rfl rfl rfl ?_
      obtain ⟨σc3, ec3, hf⟩ := cb_bo_o hf
      refine cl_X1_74 19 h dX1_trigger_16 rfl (ct_Chain_pulse ec3) ⟨rfl, rfl, Nat.le_of_ble_eq_true rfl, Nat.le_of_ble_eq_true rfl⟩ rfl (Nat.le_of_ble_eq_true rfl) ?_
      refine cb_iconst 20 h dX1_trigger_19 rfl kc_1 ?_
      exact cb_retZ (Wf := WC a ca) h dX1_trigger_20 he cb_01_1 hf
    · have hf := cb_if q2 hf
      refine cb_iconst 10 h dX1_trigger_9 rfl kc_0 ?_
      exact cb_retZ (Wf := WC a ca) h dX1_trigger_10 he cb_01_0 hf
set_option maxRecDepth 100000 in
set_option maxHeartbeats 4000000 in
theorem ct_Chain_portOf {l : Launch} {D : va_G} {a : Nat → Nat} {ca : Nat → ClassId} {σ : cb_S} {v1 : Int32} {r : Option Nat} (hf : c_Chain_portOf σ v1 = some r) : cb_C l yX3_portOf cX3_portOf 2 (some (.object "ChainBoard$Port")) { frames := 0, cells := 0, slots := 0, locals := 0 } D (EC ca) (adC a) [.ref (a 2), .int v1] (WC a ca σ) (some (cb_rv a r)) (WC a ca σ) := by
  refine cb_mk [(0, .ref (a 2)), (1, .int v1)] (by decide) (Nat.le_of_ble_eq_true rfl) rfl (fun X h he => ?_) goodC
  have h : cb_ok X cX3_portOf RX3 (EC ca) 0 0 2 := h
  unfold c_Chain_portOf at hf
  refine cb_iload_n 1 1 h dX3_portOf_0 rfl rfl rfl ?_
  refine cb_if_ne 9 4 h dX3_portOf_1 rfl rfl (fun q1 => ?_) (fun q1 => ?_)
  · have hf := cb_if q1 hf
    refine cb_iload_n 10 1 h dX3_portOf_9 rfl rfl rfl ?_
    refine cb_iconst 11 h dX3_portOf_10 rfl kc_1 ?_
    refine cb_icmp_ne 21 14 h dX3_portOf_11 rfl rfl (fun q2 => ?_) (fun q2 => ?_)
    · have hf := cb_if q2 hf
      refine cb_null 22 h dX3_portOf_21 rfl ?_
      exact cb_retA (a := a) (o := (none : Option Nat)) h dX3_portOf_22 he hf
    · have hf := cb_it q2 hf
      refine cb_aload_n 15 0 h dX3_portOf_14 rfl rfl rfl ?_
      refine gf_X3_28 18 h dX3_portOf_15 rfl ?_
      refine cb_goto 22 h dX3_portOf_18 rfl ?_
      exact cb_retA (a := a) (o := (some 9)) h dX3_portOf_22 he hf
  · have hf := cb_it q1 hf
    refine cb_aload_n 5 0 h dX3_portOf_4 rfl rfl rfl ?_
    refine gf_X3_24 8 h dX3_portOf_5 rfl ?_
    exact cb_retA (a := a) (o := (some 8)) h dX3_portOf_8 he hf
set_option maxRecDepth 100000 in
set_option maxHeartbeats 4000000 in
theorem ct_Port_takeStrobe {l : Launch} {D : va_G} {a : Nat → Nat} {ca : Nat → ClassId} {j : Nat} {σ σ' : cb_S} {v1 : Int32} {r : Int32} (hj : cb_isPort j) (hf : c_Port_takeStrobe j σ v1 = some (r, σ')) : cb_C l yX8_takeStrobe cX8_takeStrobe 2 (some .boolean) { frames := 1, cells := 0, slots := 0, locals := 20 } D (EC ca) (adC a) [.ref (a j), .int v1] (WC a ca σ) (some (.int r)) (WC a ca σ') := by
  refine cb_mk [(0, .ref (a j)), (1, .int v1)] (by decide) (Nat.le_of_ble_eq_true rfl) rfl (fun X h he => ?_) goodC
  have h : cb_ok X cX8_takeStrobe RX8 (EC ca) 1 20 2 := h
  unfold c_Port_takeStrobe at hf
  have j34 : ∀ (σ : cb_S), c_Port_takeStrobe_L34 j v1 σ = some (r, σ') → cb_V X (WC a ca σ) 34 [(0, .ref (a j))] [] := by
    intro σ hf
    unfold c_Port_takeStrobe_L34 at hf
    refine cb_aload_n 35 0 h dX8_takeStrobe_34 rfl rfl rfl ?_
    refine cb_iconst 36 h dX8_takeStrobe_35 rfl kc_0 ?_
    obtain ⟨σ1, e2, hf⟩ := cb_let_o hf
    refine pf_X8_15 39 h dX8_takeStrobe_36 rfl hj cb_01_0 e2 ?_
    refine cb_aload_n 40 0 h dX8_takeStrobe_39 rfl rfl rfl ?_
    obtain ⟨σc3, ec3, hf⟩ := cb_bo_o hf
    refine cl_X8_65 43 h dX8_takeStrobe_40 rfl hj (ct_Device_request (cb_Port_Device hj) ec3) ⟨rfl, rfl, Nat.le_of_ble_eq_true rfl, Nat.le_of_ble_eq_true rfl⟩ rfl (Nat.le_of_ble_eq_true rfl) ?_
    refine cb_iconst 44 h dX8_takeStrobe_43 rfl kc_1 ?_
    exact cb_retZ (Wf := WC a ca) h dX8_takeStrobe_44 he cb_01_1 hf
  refine cb_aload_n 1 0 h dX8_takeStrobe_0 rfl rfl rfl ?_
  refine gf_X8_15 4 h dX8_takeStrobe_1 rfl hj ?_
  refine cb_if_eq 15 7 h dX8_takeStrobe_4 rfl rfl (fun q4 => ?_) (fun q4 => ?_)
  · have hf := cb_it q4 hf
    refine cb_iconst 16 h dX8_takeStrobe_15 rfl kc_0 ?_
    exact cb_retZ (Wf := WC a ca) h dX8_takeStrobe_16 he cb_01_0 hf
  · have hf := cb_if q4 hf
    refine cb_aload_n 8 0 h dX8_takeStrobe_7 rfl rfl rfl ?_
    refine gf_X8_11 11 h dX8_takeStrobe_8 rfl hj ?_
    refine cb_iconst 12 h dX8_takeStrobe_11 rfl kc_3 ?_
    refine cb_icmp_ne 17 15 h dX8_takeStrobe_12 rfl rfl (fun q5 => ?_) (fun q5 => ?_)
    · have hf := cb_if q5 hf
      refine cb_aload_n 18 0 h dX8_takeStrobe_17 rfl rfl rfl ?_
      refine gf_X8_11 21 h dX8_takeStrobe_18 rfl hj ?_
      refine cb_iconst 22 h dX8_takeStrobe_21 rfl kc_1 ?_
      refine cb_icmp_ne 34 25 h dX8_takeStrobe_22 rfl rfl (fun q6 => ?_) (fun q6 => ?_)
      · have hf := cb_if q6 hf
        exact cb_lv [0] rfl (j34 _ hf)
      · have hf := cb_it q6 hf
        refine cb_aload_n 26 0 h dX8_takeStrobe_25 rfl rfl rfl ?_
        refine cb_iload_n 27 1 h dX8_takeStrobe_26 rfl rfl rfl ?_
        refine cb_sipush 30 h dX8_takeStrobe_27 rfl ks_255 ?_
        refine cb_iand 31 h dX8_takeStrobe_30 rfl ?_
        obtain ⟨σ7, e8, hf⟩ := cb_let_o hf
        refine pf_X8_22 34 h dX8_takeStrobe_31 rfl hj e8 ?_
        exact cb_lv [0] rfl (j34 _ hf)
    · have hf := cb_it q5 hf
      refine cb_iconst 16 h dX8_takeStrobe_15 rfl kc_0 ?_
      exact cb_retZ (Wf := WC a ca) h dX8_takeStrobe_16 he cb_01_0 hf
set_option maxRecDepth 100000 in
set_option maxHeartbeats 4000000 in
theorem ct_Board_strobe {l : Launch} {D : va_G} {a : Nat → Nat} {ca : Nat → ClassId} {σ σ' : cb_S} {v1 v2 : Int32} {r : Int32} (hf : c_Board_strobe σ v1 v2 = some (r, σ')) : cb_C l yX1_strobe cX1_strobe 4 (some .boolean) { frames := 2, cells := 0, slots := 0, locals := 41 } D (EC ca) (adC a) [.ref (a 0), .int v1, .int v2] (WC a ca σ) (some (.int r)) (WC a ca σ') := by
  refine cb_mk [(0, .ref (a 0)), (1, .int v1), (2, .int v2)] (by decide) (Nat.le_of_ble_eq_true rfl) rfl (fun X h he => ?_) goodC
  have h : cb_ok X cX1_strobe RX1 (EC ca) 2 41 4 := h
  unfold c_Board_strobe at hf
  refine cb_aload_n 1 0 h dX1_strobe_0 rfl rfl rfl ?_
  refine gf_X1_19 4 h dX1_strobe_1 rfl ?_
  refine cb_iload_n 5 1 h dX1_strobe_4 rfl rfl rfl ?_
  obtain ⟨c1, ec1, hf⟩ := cb_bo_o hf
  refine cl_X1_78 8 h dX1_strobe_5 rfl (ct_Chain_portOf ec1) ⟨rfl, rfl, Nat.le_of_ble_eq_true rfl, Nat.le_of_ble_eq_true rfl⟩ rfl (Nat.le_of_ble_eq_true rfl) ?_
  cases c1 with
  | none =>
    have hf := cb_on_n hf
    refine cb_nul ?_
    refine cb_astoreN_n (lv' := [(3, .null), (0, .ref (a 0)), (1, .int v1), (2, .int v2)]) 9 h dX1_strobe_8 rfl rfl (Nat.le_of_ble_eq_true rfl) rfl ?_
    refine cb_aloadN_n 10 0 h dX1_strobe_9 rfl rfl rfl ?_
    refine cb_ifnullN 25 h dX1_strobe_10 rfl ?_
    refine cb_iconst 26 h dX1_strobe_25 rfl kc_0 ?_
    exact cb_retZ (Wf := WC a ca) h dX1_strobe_26 he cb_01_0 hf
  | some j2 =>
    have hf := cb_on_s hf
    obtain ⟨g3, hf⟩ := cb_gd_o hf
    refine cb_rfv ?_
    refine cb_astore_n (lv' := [(3, .ref (a j2)), (0, .ref (a 0)), (1, .int v1), (2, .int v2)]) 9 h dX1_strobe_8 rfl rfl (Nat.le_of_ble_eq_true rfl) rfl ?_
    refine cb_aload_n 10 0 h dX1_strobe_9 rfl rfl rfl ?_
    refine cb_ifnull 13 h dX1_strobe_10 rfl ?_
    refine cb_aload_n 14 0 h dX1_strobe_13 rfl rfl rfl ?_
    refine cb_iload_n 15 3 h dX1_strobe_14 rfl rfl rfl ?_
    obtain ⟨c4, σc4, ec4, hf⟩ := cb_b2_o hf
    refine cl_X1_82 18 h dX1_strobe_15 rfl g3 (ct_Port_takeStrobe g3 ec4) ⟨rfl, rfl, Nat.le_of_ble_eq_true rfl, Nat.le_of_ble_eq_true rfl⟩ rfl (Nat.le_of_ble_eq_true rfl) ?_
    refine cb_cut (cb_V X (WC a ca σc4) 26 [(3, .ref (a j2)), (0, .ref (a 0)), (1, .int v1), (2, .int v2)] [.int (if c4 = 0 then (0 : Int32) else (1 : Int32))]) (fun jj => ?_) ?_
    · refine cb_if_eq 25 21 h dX1_strobe_18 rfl rfl (fun q5 => ?_) (fun q5 => ?_)
      · refine cb_iconst 26 h dX1_strobe_25 rfl kc_0 ?_
        exact (cb_tt q5 jj)
      · refine cb_iconst 22 h dX1_strobe_21 rfl kc_1 ?_
        refine cb_goto 26 h dX1_strobe_22 rfl ?_
        exact (cb_tf q5 jj)
    exact cb_retZ (Wf := WC a ca) h dX1_strobe_26 he (cb_01_i cb_01_0 cb_01_1) hf
set_option maxRecDepth 100000 in
set_option maxHeartbeats 4000000 in
theorem ct_Port_takeLevels {l : Launch} {D : va_G} {a : Nat → Nat} {ca : Nat → ClassId} {j : Nat} {σ σ' : cb_S} {v1 : Int32} (hj : cb_isPort j) (hf : c_Port_takeLevels j σ v1 = some σ') : cb_C l yX8_takeLevels cX8_takeLevels 2 none { frames := 2, cells := 0, slots := 0, locals := 43 } D (EC ca) (adC a) [.ref (a j), .int v1] (WC a ca σ) none (WC a ca σ') := by
  refine cb_mk [(0, .ref (a j)), (1, .int v1)] (by decide) (Nat.le_of_ble_eq_true rfl) rfl (fun X h he => ?_) goodC
  have h : cb_ok X cX8_takeLevels RX8 (EC ca) 2 43 2 := h
  unfold c_Port_takeLevels at hf
  refine cb_aload_n 1 0 h dX8_takeLevels_0 rfl rfl rfl ?_
  refine cb_iload_n 2 1 h dX8_takeLevels_1 rfl rfl rfl ?_
  refine cb_sipush 5 h dX8_takeLevels_2 rfl ks_255 ?_
  refine cb_iand 6 h dX8_takeLevels_5 rfl ?_
  obtain ⟨σ1, e2, hf⟩ := cb_let_o hf
  refine pf_X8_25 9 h dX8_takeLevels_6 rfl hj e2 ?_
  refine cb_aload_n 10 0 h dX8_takeLevels_9 rfl rfl rfl ?_
  obtain ⟨σc3, ec3, hf⟩ := cb_bo_o hf
  refine cl_X8_56 13 h dX8_takeLevels_10 rfl hj (ct_Port_look hj ec3) ⟨rfl, rfl, Nat.le_of_ble_eq_true rfl, Nat.le_of_ble_eq_true rfl⟩ rfl (Nat.le_of_ble_eq_true rfl) ?_
  exact cb_retV (Wf := WC a ca) h dX8_takeLevels_13 he hf
