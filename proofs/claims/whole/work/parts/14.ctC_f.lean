set_option maxRecDepth 100000 in
set_option maxHeartbeats 4000000 in
theorem ct_Board_lines {l : Launch} {D : va_G} {a : Nat → Nat} {ca : Nat → ClassId} {σ σ' : cb_S} {v1 v2 : Int32} {r : Int32} (hf : c_Board_lines σ v1 v2 = some (r, σ')) : cb_C l yX1_lines cX1_lines 4 (some .boolean) { frames := 3, cells := 0, slots := 0, locals := 64 } D (EC ca) (adC a) [.ref (a 0), .int v1, .int v2] (WC a ca σ) (some (.int r)) (WC a ca σ') := by
  refine cb_mk [(0, .ref (a 0)), (1, .int v1), (2, .int v2)] (by decide) (Nat.le_of_ble_eq_true rfl) rfl (fun X h he => ?_) goodC
  have h : cb_ok X cX1_lines RX1 (EC ca) 3 64 4 := h
  unfold c_Board_lines at hf
  refine cb_aload_n 1 0 h dX1_lines_0 rfl rfl rfl ?_
  refine gf_X1_19 4 h dX1_lines_1 rfl ?_
  refine cb_iload_n 5 1 h dX1_lines_4 rfl rfl rfl ?_
  obtain ⟨c1, ec1, hf⟩ := cb_bo_o hf
  refine cl_X1_78 8 h dX1_lines_5 rfl (ct_Chain_portOf ec1) ⟨rfl, rfl, Nat.le_of_ble_eq_true rfl, Nat.le_of_ble_eq_true rfl⟩ rfl (Nat.le_of_ble_eq_true rfl) ?_
  cases c1 with
  | none =>
    have hf := cb_on_n hf
    refine cb_nul ?_
    refine cb_astoreN_n (lv' := [(3, .null), (0, .ref (a 0)), (1, .int v1), (2, .int v2)]) 9 h dX1_lines_8 rfl rfl (Nat.le_of_ble_eq_true rfl) rfl ?_
    refine cb_aloadN_n 10 0 h dX1_lines_9 rfl rfl rfl ?_
    refine cb_ifnonnullN 13 h dX1_lines_10 rfl ?_
    refine cb_iconst 14 h dX1_lines_13 rfl kc_0 ?_
    exact cb_retZ (Wf := WC a ca) h dX1_lines_14 he cb_01_0 hf
  | some j2 =>
    have hf := cb_on_s hf
    obtain ⟨g3, hf⟩ := cb_gd_o hf
    refine cb_rfv ?_
    refine cb_astore_n (lv' := [(3, .ref (a j2)), (0, .ref (a 0)), (1, .int v1), (2, .int v2)]) 9 h dX1_lines_8 rfl rfl (Nat.le_of_ble_eq_true rfl) rfl ?_
    refine cb_aload_n 10 0 h dX1_lines_9 rfl rfl rfl ?_
    refine cb_ifnonnull 15 h dX1_lines_10 rfl ?_
    refine cb_aload_n 16 0 h dX1_lines_15 rfl rfl rfl ?_
    refine cb_iload_n 17 3 h dX1_lines_16 rfl rfl rfl ?_
    obtain ⟨σc4, ec4, hf⟩ := cb_bo_o hf
    refine cl_X1_88 20 h dX1_lines_17 rfl g3 (ct_Port_takeLevels g3 ec4) ⟨rfl, rfl, Nat.le_of_ble_eq_true rfl, Nat.le_of_ble_eq_true rfl⟩ rfl (Nat.le_of_ble_eq_true rfl) ?_
    refine cb_iconst 21 h dX1_lines_20 rfl kc_1 ?_
    exact cb_retZ (Wf := WC a ca) h dX1_lines_21 he cb_01_1 hf
set_option maxRecDepth 100000 in
set_option maxHeartbeats 4000000 in
theorem ct_Channel_detail {l : Launch} {D : va_G} {a : Nat → Nat} {ca : Nat → ClassId} {j : Nat} {σ : cb_S} {v1 : Int32} {r : Int32} (hj : cb_isChannel j) (hf : c_Channel_detail j σ v1 = some r) : cb_C l yX4_detail cX4_detail 2 (some .int) { frames := 0, cells := 0, slots := 0, locals := 0 } D (EC ca) (adC a) [.ref (a j), .int v1] (WC a ca σ) (some (.int r)) (WC a ca σ) := by
  refine cb_mk [(0, .ref (a j)), (1, .int v1)] (by decide) (Nat.le_of_ble_eq_true rfl) rfl (fun X h he => ?_) goodC
  have h : cb_ok X cX4_detail RX4 (EC ca) 0 0 2 := h
  unfold c_Channel_detail at hf
  refine cb_iload_n 1 1 h dX4_detail_0 rfl rfl rfl ?_
  by_cases q1 : v1 = 3
  · have hf := cb_it q1 hf
    refine cb_tabI 28 h dX4_detail_1 q1 (by decide) (by decide) rfl rfl ?_
    refine cb_aload_n 29 0 h dX4_detail_28 rfl rfl rfl ?_
    refine gf_X4_9 32 h dX4_detail_29 rfl hj ?_
    exact cb_retJ h dX4_detail_32 he hf
  have hf := cb_if q1 hf
  by_cases q2 : v1 = 4
  · have hf := cb_it q2 hf
    refine cb_tabI 33 h dX4_detail_1 q2 (by decide) (by decide) rfl rfl ?_
    refine cb_aload_n 34 0 h dX4_detail_33 rfl rfl rfl ?_
    refine gf_X4_21 37 h dX4_detail_34 rfl hj ?_
    refine cb_cut (cb_V X (WC a ca σ) 45 [(0, .ref (a j)), (1, .int v1)] [.int (if (σ j 7) = 0 then (0 : Int32) else (1 : Int32))]) (fun jj => ?_) ?_
    · refine cb_if_eq 44 40 h dX4_detail_37 rfl rfl (fun q3 => ?_) (fun q3 => ?_)
      · refine cb_iconst 45 h dX4_detail_44 rfl kc_0 ?_
        exact (cb_tt q3 jj)
      · refine cb_iconst 41 h dX4_detail_40 rfl kc_1 ?_
        refine cb_goto 45 h dX4_detail_41 rfl ?_
        exact (cb_tf q3 jj)
    exact cb_retJ h dX4_detail_45 he hf
  have hf := cb_if q2 hf
  by_cases q4 : v1 = 5
  · have hf := cb_it q4 hf
    refine cb_tabI 46 h dX4_detail_1 q4 (by decide) (by decide) rfl rfl ?_
    refine cb_aload_n 47 0 h dX4_detail_46 rfl rfl rfl ?_
    refine gf_X4_18 50 h dX4_detail_47 rfl hj ?_
    exact cb_retJ h dX4_detail_50 he hf
  have hf := cb_if q4 hf
  refine cb_tabO 51 h dX4_detail_1 (by have t3 := lv_neT (a := 3) q1 (by decide); have t4 := lv_neT (a := 4) q2 (by decide); have t5 := lv_neT (a := 5) q4 (by decide); omega) rfl ?_
  refine cb_iconst 52 h dX4_detail_51 rfl kc_m1 ?_
  exact cb_retJ h dX4_detail_52 he hf
set_option maxRecDepth 100000 in
set_option maxHeartbeats 4000000 in
theorem ct_Port_detail {l : Launch} {D : va_G} {a : Nat → Nat} {ca : Nat → ClassId} {j : Nat} {σ : cb_S} {v1 : Int32} {r : Int32} (hj : cb_isPort j) (hf : c_Port_detail j σ v1 = some r) : cb_C l yX8_detail cX8_detail 2 (some .int) { frames := 0, cells := 0, slots := 0, locals := 0 } D (EC ca) (adC a) [.ref (a j), .int v1] (WC a ca σ) (some (.int r)) (WC a ca σ) := by
  refine cb_mk [(0, .ref (a j)), (1, .int v1)] (by decide) (Nat.le_of_ble_eq_true rfl) rfl (fun X h he => ?_) goodC
  have h : cb_ok X cX8_detail RX8 (EC ca) 0 0 2 := h
  unfold c_Port_detail at hf
  refine cb_iload_n 1 1 h dX8_detail_0 rfl rfl rfl ?_
  by_cases q1 : v1 = 3
  · have hf := cb_it q1 hf
    refine cb_tabI 28 h dX8_detail_1 q1 (by decide) (by decide) rfl rfl ?_
    refine cb_aload_n 29 0 h dX8_detail_28 rfl rfl rfl ?_
    refine gf_X8_11 32 h dX8_detail_29 rfl hj ?_
    exact cb_retJ h dX8_detail_32 he hf
  have hf := cb_if q1 hf
  by_cases q2 : v1 = 4
  · have hf := cb_it q2 hf
    refine cb_tabI 33 h dX8_detail_1 q2 (by decide) (by decide) rfl rfl ?_
    refine cb_aload_n 34 0 h dX8_detail_33 rfl rfl rfl ?_
    refine gf_X8_15 37 h dX8_detail_34 rfl hj ?_
    refine cb_cut (cb_V X (WC a ca σ) 45 [(0, .ref (a j)), (1, .int v1)] [.int (if (σ j 5) = 0 then (0 : Int32) else (1 : Int32))]) (fun jj => ?_) ?_
    · refine cb_if_eq 44 40 h dX8_detail_37 rfl rfl (fun q3 => ?_) (fun q3 => ?_)
      · refine cb_iconst 45 h dX8_detail_44 rfl kc_0 ?_
        exact (cb_tt q3 jj)
      · refine cb_iconst 41 h dX8_detail_40 rfl kc_1 ?_
        refine cb_goto 45 h dX8_detail_41 rfl ?_
        exact (cb_tf q3 jj)
    exact cb_retJ h dX8_detail_45 he hf
  have hf := cb_if q2 hf
  by_cases q4 : v1 = 5
  · have hf := cb_it q4 hf
    refine cb_tabI 46 h dX8_detail_1 q4 (by decide) (by decide) rfl rfl ?_
    refine cb_aload_n 47 0 h dX8_detail_46 rfl rfl rfl ?_
    refine gf_X8_19 50 h dX8_detail_47 rfl hj ?_
    exact cb_retJ h dX8_detail_50 he hf
  have hf := cb_if q4 hf
  refine cb_tabO 51 h dX8_detail_1 (by have t3 := lv_neT (a := 3) q1 (by decide); have t4 := lv_neT (a := 4) q2 (by decide); have t5 := lv_neT (a := 5) q4 (by decide); omega) rfl ?_
  refine cb_iconst 52 h dX8_detail_51 rfl kc_m1 ?_
  exact cb_retJ h dX8_detail_52 he hf
theorem cl_X1_106 {X : cb_X} {σ : cb_S} {a : Nat → Nat} {ca : Nat → ClassId} {pc : Nat} {lv : List (Nat × Value)} {st : List Value} {cc : ByteArray} {fr lo nL : Nat} {j : Nat} {v1 r : Int32} (nx : Nat) (h : cb_ok X cc RX1 (EC ca) fr lo nL) (hd : decode cc pc = .ok (.invokevirtual 106, 3)) (hn : pc + 3 = nx) (hj : cb_isDevice j) (hf : c_Device_detail j σ v1 = some r) (hr : 1 ≤ fr ∧ 21 ≤ lo) (hst : (st.map fun v => v.category).sum ≤ 8) (kk : cb_V X (WC a ca σ) nx lv (.int r :: st)) : cb_V X (WC a ca σ) pc lv (.int v1 :: .ref (a j) :: st) := by
  unfold c_Device_detail at hf
  rcases hj with rfl | rfl | rfl | rfl
  · have hf := cb_it (by decide) hf
    exact cb_callU (n := 1) (x := ⟨"ChainBoard$Device", "detail", "(I)I"⟩) (owner := "ChainBoard$Device") (r := []) nx 6 h hd hn (ct_Channel_detail channel_6 (ca := ca) hf) ⟨(cb_t3 143 rfl rfl), (cb_t3 145 rfl rfl), (cb_t3 146 rfl rfl), (cb_t3 147 rfl rfl), (cb_t3 148 rfl rfl), (cb_t1 5 rfl rfl), (cb_n3 144 rfl rfl), ⟨by decide, by decide⟩, by decide +kernel⟩ rfl rfl (WC_nil _ _ _) (WC_nil _ _ _) rfl rfl ⟨rfl, rfl, hr.1, hr.2⟩ rfl rfl hst kk
  · have hf := cb_it (by decide) hf
    exact cb_callU (n := 1) (x := ⟨"ChainBoard$Device", "detail", "(I)I"⟩) (owner := "ChainBoard$Device") (r := []) nx 7 h hd hn (ct_Channel_detail channel_7 (ca := ca) hf) ⟨(cb_t3 143 rfl rfl), (cb_t3 145 rfl rfl), (cb_t3 146 rfl rfl), (cb_t3 147 rfl rfl), (cb_t3 148 rfl rfl), (cb_t1 5 rfl rfl), (cb_n3 144 rfl rfl), ⟨by decide, by decide⟩, by decide +kernel⟩ rfl rfl (WC_nil _ _ _) (WC_nil _ _ _) rfl rfl ⟨rfl, rfl, hr.1, hr.2⟩ rfl rfl hst kk
  · have hf := cb_it (by decide) (cb_if (by decide) hf)
    exact cb_callU (n := 1) (x := ⟨"ChainBoard$Device", "detail", "(I)I"⟩) (owner := "ChainBoard$Device") (r := []) nx 8 h hd hn (ct_Port_detail port_8 (ca := ca) hf) ⟨(cb_t3 143 rfl rfl), (cb_t3 145 rfl rfl), (cb_t3 149 rfl rfl), (cb_t3 150 rfl rfl), (cb_t3 151 rfl rfl), (cb_t1 6 rfl rfl), (cb_n3 144 rfl rfl), ⟨by decide, by decide⟩, by decide +kernel⟩ rfl rfl (WC_nil _ _ _) (WC_nil _ _ _) rfl rfl ⟨rfl, rfl, hr.1, hr.2⟩ rfl rfl hst kk
  · have hf := cb_it (by decide) (cb_if (by decide) hf)
    exact cb_callU (n := 1) (x := ⟨"ChainBoard$Device", "detail", "(I)I"⟩) (owner := "ChainBoard$Device") (r := []) nx 9 h hd hn (ct_Port_detail port_9 (ca := ca) hf) ⟨(cb_t3 143 rfl rfl), (cb_t3 145 rfl rfl), (cb_t3 149 rfl rfl), (cb_t3 150 rfl rfl), (cb_t3 151 rfl rfl), (cb_t1 6 rfl rfl), (cb_n3 144 rfl rfl), ⟨by decide, by decide⟩, by decide +kernel⟩ rfl rfl (WC_nil _ _ _) (WC_nil _ _ _) rfl rfl ⟨rfl, rfl, hr.1, hr.2⟩ rfl rfl hst kk
set_option maxRecDepth 100000 in
set_option maxHeartbeats 4000000 in
theorem ct_Board_device {l : Launch} {D : va_G} {a : Nat → Nat} {ca : Nat → ClassId} {σ : cb_S} {v1 v2 : Int32} {r : Int32} (hf : c_Board_device σ v1 v2 = some r) : cb_C l yX1_device cX1_device 4 (some .int) { frames := 1, cells := 0, slots := 0, locals := 21 } D (EC ca) (adC a) [.ref (a 0), .int v1, .int v2] (WC a ca σ) (some (.int r)) (WC a ca σ) := by
  refine cb_mk [(0, .ref (a 0)), (1, .int v1), (2, .int v2)] (by decide) (Nat.le_of_ble_eq_true rfl) rfl (fun X h he => ?_) goodC
  have h : cb_ok X cX1_device RX1 (EC ca) 1 21 4 := h
  unfold c_Board_device at hf
  refine cb_iload_n 1 1 h dX1_device_0 rfl rfl rfl ?_
  refine cb_if_lt 16 4 h dX1_device_1 rfl rfl (fun q1 => ?_) (fun q1 => ?_)
  · have hf := cb_it q1 hf
    refine cb_iconst 17 h dX1_device_16 rfl kc_m1 ?_
    exact cb_retJ h dX1_device_17 he hf
  · have hf := cb_if q1 hf
    refine cb_iload_n 5 1 h dX1_device_4 rfl rfl rfl ?_
    refine cb_aload_n 6 0 h dX1_device_5 rfl rfl rfl ?_
    refine gf_X1_19 9 h dX1_device_6 rfl ?_
    refine gf_X1_91 12 h dX1_device_9 rfl ?_
    refine leC_5 13 h dX1_device_12 rfl ?_
    refine cb_icmp_lt 18 16 h dX1_device_13 rfl rfl (fun q2 => ?_) (fun q2 => ?_)
    · have hf := cb_it q2 hf
      refine cb_aload_n 19 0 h dX1_device_18 rfl rfl rfl ?_
      refine gf_X1_19 22 h dX1_device_19 rfl ?_
      refine gf_X1_91 25 h dX1_device_22 rfl ?_
      refine cb_iload_n 26 1 h dX1_device_25 rfl rfl rfl ?_
      obtain ⟨g3, hf⟩ := cb_gd_o hf
      have g4 := cb_dev (cb_in_v g3)
      refine laC_5 27 h dX1_device_26 rfl (cb_in_v g3) rfl ?_
      refine cb_astore_n (lv' := [(3, .ref (a (6 + v1.toNatClampNeg))), (0, .ref (a 0)), (1, .int v1), (2, .int v2)]) 28 h dX1_device_27 rfl rfl (Nat.le_of_ble_eq_true rfl) rfl ?_
      refine cb_iload_n 29 3 h dX1_device_28 rfl rfl rfl ?_
      by_cases q5 : v2 = 0
      · have hf := cb_it q5 hf
        refine cb_tabI 56 h dX1_device_29 q5 (by decide) (by decide) rfl rfl ?_
        refine cb_aload_n 57 0 h dX1_device_56 rfl rfl rfl ?_
        refine gf_X1_95 60 h dX1_device_57 rfl g4 ?_
        refine cb_cut (cb_V X (WC a ca σ) 68 [(3, .ref (a (6 + v1.toNatClampNeg))), (0, .ref (a 0)), (1, .int v1), (2, .int v2)] [.int (if (σ (6 + v1.toNatClampNeg) 1) = 0 then (0 : Int32) else (1 : Int32))]) (fun jj => ?_) ?_
        · refine cb_if_eq 67 63 h dX1_device_60 rfl rfl (fun q6 => ?_) (fun q6 => ?_)
          · refine cb_iconst 68 h dX1_device_67 rfl kc_0 ?_
            exact (cb_tt q6 jj)
          · refine cb_iconst 64 h dX1_device_63 rfl kc_1 ?_
            refine cb_goto 68 h dX1_device_64 rfl ?_
            exact (cb_tf q6 jj)
        exact cb_retJ h dX1_device_68 he hf
      have hf := cb_if q5 hf
      by_cases q7 : v2 = 1
      · have hf := cb_it q7 hf
        refine cb_tabI 69 h dX1_device_29 q7 (by decide) (by decide) rfl rfl ?_
        refine cb_aload_n 70 0 h dX1_device_69 rfl rfl rfl ?_
        refine gf_X1_100 73 h dX1_device_70 rfl g4 ?_
        refine cb_cut (cb_V X (WC a ca σ) 81 [(3, .ref (a (6 + v1.toNatClampNeg))), (0, .ref (a 0)), (1, .int v1), (2, .int v2)] [.int (if (σ (6 + v1.toNatClampNeg) 2) = 0 then (0 : Int32) else (1 : Int32))]) (fun jj => ?_) ?_
        · refine cb_if_eq 80 76 h dX1_device_73 rfl rfl (fun q8 => ?_) (fun q8 => ?_)
          · refine cb_iconst 81 h dX1_device_80 rfl kc_0 ?_
            exact (cb_tt q8 jj)
          · refine cb_iconst 77 h dX1_device_76 rfl kc_1 ?_
            refine cb_goto 81 h dX1_device_77 rfl ?_
            exact (cb_tf q8 jj)
        exact cb_retJ h dX1_device_81 he hf
      have hf := cb_if q7 hf
      by_cases q9 : v2 = 2
      · have hf := cb_it q9 hf
        refine cb_tabI 82 h dX1_device_29 q9 (by decide) (by decide) rfl rfl ?_
        refine cb_aload_n 83 0 h dX1_device_82 rfl rfl rfl ?_
        refine gf_X1_103 86 h dX1_device_83 rfl g4 ?_
        exact cb_retJ h dX1_device_86 he hf
      have hf := cb_if q9 hf
      refine cb_tabO 87 h dX1_device_29 (by have t0 := lv_neT (a := 0) q5 (by decide); have t1 := lv_neT (a := 1) q7 (by decide); have t2 := lv_neT (a := 2) q9 (by decide); omega) rfl ?_
      refine cb_aload_n 88 0 h dX1_device_87 rfl rfl rfl ?_
      refine cb_iload_n 89 3 h dX1_device_88 rfl rfl rfl ?_
      obtain ⟨c10, ec10, hf⟩ := cb_bo_o hf
      refine cl_X1_106 92 h dX1_device_89 rfl g4 ec10 ⟨Nat.le_of_ble_eq_true rfl, Nat.le_of_ble_eq_true rfl⟩ (Nat.le_of_ble_eq_true rfl) ?_
      exact cb_retJ h dX1_device_92 he hf
    · have hf := cb_if q2 hf
      refine cb_iconst 17 h dX1_device_16 rfl kc_m1 ?_
      exact cb_retJ h dX1_device_17 he hf
set_option maxRecDepth 100000 in
set_option maxHeartbeats 4000000 in
theorem ct_Board_passed {l : Launch} {D : va_G} {a : Nat → Nat} {ca : Nat → ClassId} {σ : cb_S} {v1 : Int32} {r : Int32} (hf : c_Board_passed σ v1 = some r) : cb_C l yX1_passed cX1_passed 2 (some .int) { frames := 0, cells := 0, slots := 0, locals := 0 } D (EC ca) (adC a) [.ref (a 0), .int v1] (WC a ca σ) (some (.int r)) (WC a ca σ) := by
  refine cb_mk [(0, .ref (a 0)), (1, .int v1)] (by decide) (Nat.le_of_ble_eq_true rfl) rfl (fun X h he => ?_) goodC
  have h : cb_ok X cX1_passed RX1 (EC ca) 0 0 2 := h
  unfold c_Board_passed at hf
  refine cb_iload_n 1 1 h dX1_passed_0 rfl rfl rfl ?_
  by_cases q1 : v1 = 0
  · have hf := cb_it q1 hf
    refine cb_tabI 28 h dX1_passed_1 q1 (by decide) (by decide) rfl rfl ?_
    refine cb_aload_n 29 0 h dX1_passed_28 rfl rfl rfl ?_
    refine gf_X1_28 32 h dX1_passed_29 rfl ?_
    refine gf_X1_109 35 h dX1_passed_32 rfl ?_
    exact cb_retJ h dX1_passed_35 he hf
  have hf := cb_if q1 hf
  by_cases q2 : v1 = 1
  · have hf := cb_it q2 hf
    refine cb_tabI 36 h dX1_passed_1 q2 (by decide) (by decide) rfl rfl ?_
    refine cb_aload_n 37 0 h dX1_passed_36 rfl rfl rfl ?_
    refine gf_X1_28 40 h dX1_passed_37 rfl ?_
    refine gf_X1_112 43 h dX1_passed_40 rfl ?_
    exact cb_retJ h dX1_passed_43 he hf
  have hf := cb_if q2 hf
  by_cases q3 : v1 = 2
  · have hf := cb_it q3 hf
    refine cb_tabI 44 h dX1_passed_1 q3 (by decide) (by decide) rfl rfl ?_
    refine cb_aload_n 45 0 h dX1_passed_44 rfl rfl rfl ?_
    refine gf_X1_28 48 h dX1_passed_45 rfl ?_
    refine gf_X1_115 51 h dX1_passed_48 rfl ?_
    exact cb_retJ h dX1_passed_51 he hf
  have hf := cb_if q3 hf
  refine cb_tabO 52 h dX1_passed_1 (by have t0 := lv_neT (a := 0) q1 (by decide); have t1 := lv_neT (a := 1) q2 (by decide); have t2 := lv_neT (a := 2) q3 (by decide); omega) rfl ?_
  refine cb_iconst 53 h dX1_passed_52 rfl kc_m1 ?_
  exact cb_retJ h dX1_passed_53 he hf
