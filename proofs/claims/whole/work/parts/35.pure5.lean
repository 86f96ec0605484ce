/-! loads and stores, returns, jumps, calls, pops, pushes -/
section P5
variable {g : Int32 × Int32 × Int32} {σ τ : cb_S}
theorem pe_A (h : cb_R g σ τ) : τ 2 7 = σ 12 7 := (pe_reg h (by omega)).symm
theorem pb_A (h : cb_R g σ τ) : cb_by (σ 12 7) := pb_reg h (by omega)
theorem s_stores (h : cb_R g σ τ) {y : Nat} (hy : y < 8) : cb_Sm (c_Processor_transfer σ (nI y)) (m_stores τ (nI y)) (cb_P g) := by
  rcases cb_lt8 hy with rfl | rfl | rfl | rfl | rfl | rfl | rfl | rfl
  · show cb_Sm (cb_bo (c_Bank_pair 11 σ (nI 0)) fun c => cb_bo (c_Memory_putByte σ c (σ 12 7)) fun σ => some ((7 : Int32), σ)) (cb_bo (m_pair τ (nI (2 * 0))) fun c => cb_bo (m_putByte τ c (τ 2 7)) fun τ => some ((7 : Int32), τ)) _
    rw [pe_A h]
    exact cb_Sm_be (s_pair h (by omega)) fun r _ => cb_Sm_bv (s_putByte h r _) fun σ1 τ1 h1 => s_some (n := 7) (by omega) rfl h1
  · show cb_Sm (cb_bo (c_Bank_pair 11 σ (nI 0)) fun c => cb_bo (c_Memory_byteAt σ c) fun v => some ((7 : Int32), cb_up σ 12 7 v)) (cb_bo (m_pair τ (nI (2 * 0))) fun c => cb_bo (m_byteAt τ c) fun v => some ((7 : Int32), cb_up τ 2 7 v)) _
    exact cb_Sm_be (s_pair h (by omega)) fun r _ => cb_Sm_be (s_byteAt h r) fun v hv => s_some (n := 7) (by omega) rfl (ps_reg h (by omega) hv (by omega))
  · show cb_Sm (cb_bo (c_Bank_pair 11 σ (nI 1)) fun c => cb_bo (c_Memory_putByte σ c (σ 12 7)) fun σ => some ((7 : Int32), σ)) (cb_bo (m_pair τ (nI (2 * 1))) fun c => cb_bo (m_putByte τ c (τ 2 7)) fun τ => some ((7 : Int32), τ)) _
    rw [pe_A h]
    exact cb_Sm_be (s_pair h (by omega)) fun r _ => cb_Sm_bv (s_putByte h r _) fun σ1 τ1 h1 => s_some (n := 7) (by omega) rfl h1
  · show cb_Sm (cb_bo (c_Bank_pair 11 σ (nI 1)) fun c => cb_bo (c_Memory_byteAt σ c) fun v => some ((7 : Int32), cb_up σ 12 7 v)) (cb_bo (m_pair τ (nI (2 * 1))) fun c => cb_bo (m_byteAt τ c) fun v => some ((7 : Int32), cb_up τ 2 7 v)) _
    exact cb_Sm_be (s_pair h (by omega)) fun r _ => cb_Sm_be (s_byteAt h r) fun v hv => s_some (n := 7) (by omega) rfl (ps_reg h (by omega) hv (by omega))
  · show cb_Sm (cb_b2 (c_Processor_nextWord σ) fun c σ => cb_bo (c_Bank_pair 11 σ (nI 2)) fun d => cb_bo (c_Memory_putWord σ c d) fun σ => some ((16 : Int32), σ)) (cb_b2 (m_nextWord τ) fun c τ => cb_bo (m_pair τ (nI (2 * 2))) fun d => cb_bo (m_putWord τ c d) fun τ => some ((16 : Int32), τ)) _
    exact cb_Sm_b2 (s_nextWord h) fun r σ1 τ1 h1 => cb_Sm_be (s_pair h1.2 (by omega)) fun d _ => cb_Sm_bv (s_putWord h1.2 r d) fun σ2 τ2 h2 => s_some (n := 16) (by omega) rfl h2
  · show cb_Sm (cb_b2 (c_Processor_nextWord σ) fun c σ => cb_bo (c_Memory_wordAt σ c) fun d => cb_bo (c_Bank_putPair 11 σ (nI 2) d) fun σ => some ((16 : Int32), σ)) (cb_b2 (m_nextWord τ) fun c τ => cb_bo (m_wordAt τ c) fun d => cb_bo (m_putPair τ (nI (2 * 2)) d) fun τ => some ((16 : Int32), τ)) _
    exact cb_Sm_b2 (s_nextWord h) fun r σ1 τ1 h1 => cb_Sm_be (s_wordAt h1.2 r) fun d _ => cb_Sm_bv (s_putPair h1.2 (by omega) d) fun σ2 τ2 h2 => s_some (n := 16) (by omega) rfl h2
  · show cb_Sm (cb_b2 (c_Processor_nextWord σ) fun c σ => cb_bo (c_Memory_putByte σ c (σ 12 7)) fun σ => some ((13 : Int32), σ)) (cb_b2 (m_nextWord τ) fun c τ => cb_bo (m_putByte τ c (τ 2 7)) fun τ => some ((13 : Int32), τ)) _
    exact cb_Sm_b2 (s_nextWord h) fun r σ1 τ1 h1 => by rw [pe_A h1.2]; exact cb_Sm_bv (s_putByte h1.2 r _) fun σ2 τ2 h2 => s_some (n := 13) (by omega) rfl h2
  · show cb_Sm (cb_b2 (c_Processor_nextWord σ) fun c σ => cb_bo (c_Memory_byteAt σ c) fun v => some ((13 : Int32), cb_up σ 12 7 v)) (cb_b2 (m_nextWord τ) fun c τ => cb_bo (m_byteAt τ c) fun v => some ((13 : Int32), cb_up τ 2 7 v)) _
    exact cb_Sm_b2 (s_nextWord h) fun r σ1 τ1 h1 => cb_Sm_be (s_byteAt h1.2 r) fun v hv => s_some (n := 13) (by omega) rfl (ps_reg h1.2 (by omega) hv (by omega))
theorem n01 {x : Int32} (h : cb_01 x) (e : ¬ x = 0) : x = 1 := h.resolve_left e
/-- RET cc -/
theorem s_retIf (h : cb_R g σ τ) {N : Nat} {y : Nat} (hy : y < 8) : cb_Sm (cb_b2 (c_Processor_returnIf σ (nI y)) fun c σ => some (c, σ)) (m_high N τ (nI y) (nI 0)) (cb_P g) := by
  show cb_Sm (cb_b2 (cb_bo (c_Processor_condition σ (nI y)) fun c1 => if c1 = 0 then some ((5 : Int32), σ) else cb_b2 (c_Processor_pop σ) fun c3 σ => some ((11 : Int32), cb_up σ 10 3 c3)) fun c σ => some (c, σ)) (cb_bo (m_condition τ (nI y)) fun c27 => if c27 = 0 then m_high_L22 N (nI y) (nI 0) τ c27 else cb_b2 (m_pop τ) fun c29 τ => m_high_L22 N (nI y) (nI 0) (cb_up τ 0 3 c29) c27) _
  obtain ⟨c, e1, e2, hc⟩ := s_cond h hy
  rw [cb_bo_e e1, cb_bo_e e2]
  by_cases e : c = 0
  · rw [if_pos e, if_pos e]
    unfold m_high_L22
    rw [if_pos e]
    exact ⟨5, _, _, rfl, rfl, ck_n 5 (by omega), h⟩
  · rw [if_neg e, if_neg e]
    obtain ⟨r, σ1, τ1, f1, f2, hr, h1⟩ := s_pop h
    rw [cb_b2_e f1, cb_b2_e f2]
    unfold m_high_L22
    rw [if_neg e]
    exact ⟨11, _, _, rfl, rfl, ck_n 11 (by omega), ps_pc h1 hr⟩
/-- JP cc -/
theorem s_goIf (h : cb_R g σ τ) {N : Nat} {y : Nat} (hy : y < 8) : cb_Sm (cb_b2 (c_Processor_goIf σ (nI y)) fun c σ => some (c, σ)) (m_high N τ (nI y) (nI 2)) (cb_P g) := by
  show cb_Sm (cb_b2 (cb_b2 (c_Processor_nextWord σ) fun c1 σ => cb_bo (c_Processor_condition σ (nI y)) fun c2 => if c2 = 0 then some ((10 : Int32), σ) else some ((10 : Int32), cb_up σ 10 3 c1)) fun c σ => some (c, σ)) (cb_b2 (m_nextWord τ) fun c7 τ => cb_bo (m_condition τ (nI y)) fun c8 => if c8 = 0 then m_high_L84 N (nI y) (nI 2) τ c7 c8 else m_high_L84 N (nI y) (nI 2) τ c7 c8) _
  obtain ⟨r, σ1, τ1, f1, f2, hr, h1⟩ := s_nextWord h
  rw [cb_b2_e f1, cb_b2_e f2]
  obtain ⟨c, e1, e2, hc⟩ := s_cond h1 hy
  rw [cb_bo_e e1, cb_bo_e e2]
  unfold m_high_L84
  by_cases e : c = 0
  · rw [if_pos e, if_pos e, if_pos e]
    exact ⟨10, _, _, rfl, rfl, ck_n 10 (by omega), h1⟩
  · rw [if_neg e, if_neg e, if_neg e]
    exact ⟨10, _, _, rfl, rfl, ck_n 10 (by omega), ps_pc h1 hr⟩
/-- CALL cc -/
theorem s_callIf (h : cb_R g σ τ) {N : Nat} {y : Nat} (hy : y < 8) : cb_Sm (cb_bo (c_Processor_condition σ (nI y)) fun c14 => cb_b2 (c_Processor_callIf σ c14) fun c σ => some (c, σ)) (m_high N τ (nI y) (nI 4)) (cb_P g) := by
  obtain ⟨c, e1, -, hc⟩ := s_cond h hy
  rw [cb_bo_e e1]
  show cb_Sm (cb_b2 (cb_b2 (c_Processor_nextWord σ) fun c1 σ => if c = 0 then some ((10 : Int32), σ) else cb_bo (c_Processor_push σ (σ 10 3)) fun σ => some ((17 : Int32), cb_up σ 10 3 c1)) fun c σ => some (c, σ)) (cb_b2 (m_nextWord τ) fun c7 τ => cb_bo (m_condition τ (nI y)) fun c8 => if c8 = 0 then m_high_L84 N (nI y) (nI 4) τ c7 c8 else cb_bo (m_push τ (τ 0 3)) fun τ => m_high_L84 N (nI y) (nI 4) τ c7 c8) _
  obtain ⟨r, σ1, τ1, f1, f2, hr, h1⟩ := s_nextWord h
  have e3 : m_condition τ1 (nI y) = some c := by
    obtain ⟨c', k1, k2, -⟩ := s_cond h1 hy
    have hs : c_Processor_condition σ1 (nI y) = c_Processor_condition σ (nI y) := by
      unfold c_Processor_nextWord c_Processor_nextByte at f1
      have q := (Prod.mk.inj (Option.some.inj f1)).2
      rw [← q]; rfl
    rw [hs, e1] at k1
    rw [k2, ← k1]
  rw [cb_b2_e f1, cb_b2_e f2, cb_bo_e e3]
  unfold m_high_L84
  by_cases e : c = 0
  · simp only [if_pos e]
    exact ⟨10, σ1, cb_up τ1 0 3 (τ1 0 3), rfl, rfl, ck_n 10 (by omega), h1⟩
  · simp only [if_neg e]
    rw [← pe_pc h1]
    obtain ⟨σ2, τ2, k1, k2, h2⟩ := s_push h1 (σ1 10 3)
    rw [cb_bo_e k1, cb_bo_e k2]
    exact ⟨17, cb_up σ2 10 3 r, cb_up τ2 0 3 r, rfl, rfl, ck_n 17 (by omega), ps_pc h2 hr⟩
/-- CALL -/
theorem s_call (h : cb_R g σ τ) {N : Nat} : cb_Sm (cb_b2 (c_Processor_callIf σ 1) fun c σ => some (c, σ)) (m_pushes N τ (nI 1)) (cb_P g) := by
  show cb_Sm (cb_b2 (cb_b2 (c_Processor_nextWord σ) fun c1 σ => cb_bo (c_Processor_push σ (σ 10 3)) fun σ => some ((17 : Int32), cb_up σ 10 3 c1)) fun c σ => some (c, σ)) (cb_b2 (m_nextWord τ) fun c7 τ => cb_bo (m_push τ (τ 0 3)) fun τ => some ((17 : Int32), cb_up τ 0 3 c7)) _
  obtain ⟨r, σ1, τ1, f1, f2, hr, h1⟩ := s_nextWord h
  rw [cb_b2_e f1, cb_b2_e f2, ← pe_pc h1]
  obtain ⟨σ2, τ2, k1, k2, h2⟩ := s_push h1 (σ1 10 3)
  rw [cb_bo_e k1, cb_bo_e k2]
  exact ⟨17, _, _, rfl, rfl, ck_n 17 (by omega), ps_pc h2 hr⟩
/-- RST -/
theorem s_rst (h : cb_R g σ τ) {N : Nat} {y : Nat} (hy : y < 8) : cb_Sm (cb_bo (c_Processor_push σ (σ 10 3)) fun σ => cb_let (cb_up σ 10 3 ((8 : Int32) * nI y)) fun σ => some ((11 : Int32), σ)) (m_high N τ (nI y) (nI 7)) (cb_P g) := by
  show cb_Sm (cb_bo (c_Processor_push σ (σ 10 3)) fun σ => some ((11 : Int32), cb_up σ 10 3 ((8 : Int32) * nI y))) (cb_bo (m_push τ (τ 0 3)) fun τ => some ((11 : Int32), cb_up τ 0 3 ((8 : Int32) * nI y))) _
  rw [← pe_pc h]
  refine cb_Sm_bv (s_push h _) fun σ1 τ1 h1 => s_some (n := 11) (by omega) rfl (ps_pc h1 ⟨8 * y, by omega, ?_⟩)
  rw [show (8 : Int32) = nI 8 from rfl, pk_mul]
/-- PUSH: y = 2 k -/
theorem s_pushq (h : cb_R g σ τ) {N : Nat} {k : Nat} (hk : k < 4) : cb_Sm (cb_bo (c_Bank_pair 11 σ (nI k)) fun c => cb_bo (c_Processor_push σ c) fun σ => some ((11 : Int32), σ)) (m_pushes N τ (nI (2 * k))) (cb_P g) := by
  rcases (show k = 0 ∨ k = 1 ∨ k = 2 ∨ k = 3 by omega) with rfl | rfl | rfl | rfl
  · show cb_Sm _ (cb_bo (m_pair τ (nI (2 * 0))) fun c => cb_bo (m_push τ c) fun τ => some ((11 : Int32), τ)) _
    exact cb_Sm_be (s_pair h (by omega)) fun r _ => cb_Sm_bv (s_push h r) fun σ1 τ1 h1 => s_some (n := 11) (by omega) rfl h1
  · show cb_Sm _ (cb_bo (m_pair τ (nI (2 * 1))) fun c => cb_bo (m_push τ c) fun τ => some ((11 : Int32), τ)) _
    exact cb_Sm_be (s_pair h (by omega)) fun r _ => cb_Sm_bv (s_push h r) fun σ1 τ1 h1 => s_some (n := 11) (by omega) rfl h1
  · show cb_Sm _ (cb_bo (m_pair τ (nI (2 * 2))) fun c => cb_bo (m_push τ c) fun τ => some ((11 : Int32), τ)) _
    exact cb_Sm_be (s_pair h (by omega)) fun r _ => cb_Sm_bv (s_push h r) fun σ1 τ1 h1 => s_some (n := 11) (by omega) rfl h1
  · show cb_Sm _ (cb_bo (m_af τ (nI 0)) fun c => cb_bo (m_push τ c) fun τ => some ((11 : Int32), τ)) _
    exact cb_Sm_be (s_af h) fun r _ => cb_Sm_bv (s_push h r) fun σ1 τ1 h1 => s_some (n := 11) (by omega) rfl h1
/-- POP: y = 2 k -/
theorem s_popq (h : cb_R g σ τ) {k : Nat} (hk : k < 4) : cb_Sm (cb_b2 (c_Processor_pop σ) fun c σ => cb_bo (c_Bank_putPair 11 σ (nI k) c) fun σ => some ((10 : Int32), σ)) (m_pops τ (nI (2 * k))) (cb_P g) := by
  rcases (show k = 0 ∨ k = 1 ∨ k = 2 ∨ k = 3 by omega) with rfl | rfl | rfl | rfl
  · show cb_Sm _ (cb_b2 (m_pop τ) fun c τ => cb_bo (m_putPair τ (nI (2 * 0)) c) fun τ => some ((10 : Int32), τ)) _
    exact cb_Sm_b2 (s_pop h) fun r σ1 τ1 h1 => cb_Sm_bv (s_putPair h1.2 (by omega) r) fun σ2 τ2 h2 => s_some (n := 10) (by omega) rfl h2
  · show cb_Sm _ (cb_b2 (m_pop τ) fun c τ => cb_bo (m_putPair τ (nI (2 * 1)) c) fun τ => some ((10 : Int32), τ)) _
    exact cb_Sm_b2 (s_pop h) fun r σ1 τ1 h1 => cb_Sm_bv (s_putPair h1.2 (by omega) r) fun σ2 τ2 h2 => s_some (n := 10) (by omega) rfl h2
  · show cb_Sm _ (cb_b2 (m_pop τ) fun c τ => cb_bo (m_putPair τ (nI (2 * 2)) c) fun τ => some ((10 : Int32), τ)) _
    exact cb_Sm_b2 (s_pop h) fun r σ1 τ1 h1 => cb_Sm_bv (s_putPair h1.2 (by omega) r) fun σ2 τ2 h2 => s_some (n := 10) (by omega) rfl h2
  · show cb_Sm _ (cb_b2 (m_pop τ) fun c τ => cb_bo (m_putAf τ (nI 0) c) fun τ => some ((10 : Int32), τ)) _
    exact cb_Sm_b2 (s_pop h) fun r σ1 τ1 h1 => cb_Sm_bv (s_putAf h1.2 r) fun σ2 τ2 h2 => s_some (n := 10) (by omega) rfl h2
/-- RET, EXX, JP (HL), LD SP,HL: y = 2 k + 1 -/
theorem s_leap (h : cb_R g σ τ) {v : Int32} {k : Nat} (hk : k < 4) (hv : ¬ v &&& 8 = 0) (hw : (v >>> ((4 : Int32) &&& 31)) &&& 3 = nI k) : cb_Sm (c_Processor_popOrLeap σ v) (m_pops τ (nI (2 * k + 1))) (cb_P g) := by
  unfold c_Processor_popOrLeap
  rw [cb_let_e, hw, if_neg hv]
  rcases (show k = 0 ∨ k = 1 ∨ k = 2 ∨ k = 3 by omega) with rfl | rfl | rfl | rfl
  · show cb_Sm (cb_b2 (c_Processor_pop σ) fun c σ => some ((10 : Int32), cb_up σ 10 3 c)) (cb_b2 (m_pop τ) fun c τ => some ((10 : Int32), cb_up τ 0 3 c)) _
    exact cb_Sm_b2 (s_pop h) fun r σ1 τ1 h1 => s_some (n := 10) (by omega) rfl (ps_pc h1.2 h1.1)
  · have x0 := c_x0 h
    have s0 := ps_swap (ps_swap h (k := 0) (by omega)) (k := 1) (by omega)
    have s1 := ps_swap (ps_swap s0 (k := 2) (by omega)) (k := 3) (by omega)
    have s2 := ps_swap (ps_swap s1 (k := 4) (by omega)) (k := 5) (by omega)
    have hR0 : cb_R g (cb_up (cb_up (cb_up (cb_up σ 12 0 (σ 14 0)) 12 1 (σ 14 1)) 14 0 (σ 12 0)) 14 1 (σ 12 1)) _ := s0
    have x1 := c_x1 hR0
    have hR1 : cb_R g (cb_up (cb_up (cb_up (cb_up (cb_up (cb_up (cb_up (cb_up σ 12 0 (σ 14 0)) 12 1 (σ 14 1)) 14 0 (σ 12 0)) 14 1 (σ 12 1)) 12 2 (σ 14 2)) 12 3 (σ 14 3)) 14 2 (σ 12 2)) 14 3 (σ 12 3)) _ := s1
    have x2 := c_x2 hR1
    show cb_Sm (cb_bo (c_Registers_exchange σ (nI 0)) fun σ => cb_bo (c_Registers_exchange σ (nI 1)) fun σ => cb_bo (c_Registers_exchange σ (nI 2)) fun σ => some ((4 : Int32), σ)) _ _
    rw [cb_bo_e x0, cb_bo_e x1]
    have x2' := cb_bo_e (f := fun σ => some ((4 : Int32), σ)) x2
    exact ⟨4, _, _, x2', rfl, ck_n 4 (by omega), s2⟩
  · show cb_Sm (cb_bo (c_Bank_pair 11 σ (nI 2)) fun c => some ((4 : Int32), cb_up σ 10 3 c)) (cb_bo (m_pair τ (nI (2 * 2))) fun c => some ((4 : Int32), cb_up τ 0 3 c)) _
    exact cb_Sm_be (s_pair h (by omega)) fun r hr => s_some (n := 4) (by omega) rfl (ps_pc h hr)
  · show cb_Sm (cb_bo (c_Bank_pair 11 σ (nI 2)) fun c => some ((6 : Int32), cb_up σ 10 2 c)) (cb_bo (m_pair τ (nI (2 * 2))) fun c => some ((6 : Int32), cb_up τ 0 2 c)) _
    exact cb_Sm_be (s_pair h (by omega)) fun r hr => s_some (n := 6) (by omega) rfl (ps_sp h hr)
end P5
