/-! the first quarter of the codes, moves and HALT, both sides -/
section P17
variable {g : Int32 × Int32 × Int32} {σ τ : cb_S}
theorem cb_lt4 {q : Nat} (h : q < 4) : q = 0 ∨ q = 1 ∨ q = 2 ∨ q = 3 := by omega
theorem s_st (h : cb_R g σ τ) {N : Nat} (hN : 16 < N) {y dn : Nat} (hy : y < 8) (hd : dn ≤ 1) :
    cb_Sm (cb_bo (c_Processor_read σ (nI y)) fun c14 => cb_bo (if dn = 0 then c_Flags_add c14 1 0 else c_Flags_subtract c14 1 0) fun c15 => cb_b2 (c_Processor_step σ (nI y) c15) fun c16 σc16 => some (c16, σc16))
      (cb_bo (m_get τ (nI y)) fun c2 => cb_b2 (m_step N τ c2 (nI dn)) fun c4 τ4 => cb_bo (m_put τ4 (nI y) c4) fun τ5 => some ((if nI y = (6 : Int32) then (11 : Int32) else (4 : Int32)), τ5)) (cb_P g) := by
  obtain ⟨v, r1, r2, ⟨x, hx, rfl⟩⟩ := s_read h hy
  rw [cb_bo_e r1, cb_bo_e r2]
  obtain ⟨res, er⟩ : ∃ res, (if dn = 0 then c_Flags_add (nI x) (nI 1) (nI 0) else c_Flags_subtract (nI x) (nI 1) (nI 0)) = some res := by
    rcases (show dn = 0 ∨ dn = 1 by omega) with rfl | rfl
    · rw [if_pos rfl, c_add_8 hx (by omega) (by omega)]; exact ⟨_, rfl⟩
    · rw [if_neg (by decide), c_sub_8 hx (show 1 < 256 by omega) (show 0 ≤ 1 by omega) (B := 254) (W := 1) rfl rfl]; exact ⟨_, rfl⟩
  obtain ⟨c, σ1, τ1, a1, a2, a3⟩ := s_step h hN hy hx hd er
  refine ⟨c, σ1, τ1, ?_, a2, a3⟩
  have er' : (if dn = 0 then c_Flags_add (nI x) 1 0 else c_Flags_subtract (nI x) 1 0) = some res := er
  rw [cb_bo_e er', cb_b2_e a1]
theorem s_lw0 (h : cb_R g σ τ) {N k : Nat} (hk : k < 4) : cb_Sm (c_Processor_lowQuarter σ (nI (8 * (2 * k) + 1))) (m_low N τ (nI (2 * k)) (nI 1)) (cb_P g) := by
  have w : c_Processor_lowQuarter σ (nI (8 * (2 * k) + 1)) = cb_b2 (cb_b2 (c_Processor_nextWord σ) fun c σ => cb_bo (c_Processor_putWide σ (nI k) c) fun σ => some ((10 : Int32), σ)) fun c σ => some (c, σ) := by
    rcases cb_lt4 hk with rfl | rfl | rfl | rfl <;> rfl
  have w2 : m_low N τ (nI (2 * k)) (nI 1) = cb_b2 (m_nextWord τ) fun c τ => cb_bo (m_putWide τ (nI k) c) fun τ => some ((10 : Int32), τ) := by
    rcases cb_lt4 hk with rfl | rfl | rfl | rfl <;> rfl
  rw [w, w2]
  obtain ⟨r, σ1, τ1, a1, a2, -, h1⟩ := s_nextWord h
  obtain ⟨σ2, τ2, b1, b2, h2⟩ := s_putWide h1 hk r
  rw [cb_b2_e a1, cb_b2_e a2, cb_bo_e b1, cb_bo_e b2]
  exact ⟨10, σ2, τ2, rfl, rfl, ck_n 10 (by omega), h2⟩
theorem s_lw1 (h : cb_R g σ τ) {N k : Nat} (hN : 16 < N) (hk : k < 4) : cb_Sm (c_Processor_lowQuarter σ (nI (8 * (2 * k + 1) + 1))) (m_low N τ (nI (2 * k + 1)) (nI 1)) (cb_P g) := by
  have w : c_Processor_lowQuarter σ (nI (8 * (2 * k + 1) + 1)) = cb_b2 (cb_bo (c_Bank_pair 11 σ 2) fun c2 => cb_bo (c_Processor_wide σ (nI k)) fun c3 => cb_bo (c_Flags_addWords c2 c3 0) fun c4 => cb_bo (c_Bank_putPair 11 σ 2 (c4 >>> ((8 : Int32) &&& 31))) fun σ5 => cb_bo (c_Processor_changeFlags σ5 19 c4) fun σ6 => some ((11 : Int32), σ6)) fun c σ => some (c, σ) := by
    rcases cb_lt4 hk with rfl | rfl | rfl | rfl <;> rfl
  have w2 : m_low N τ (nI (2 * k + 1)) (nI 1) = cb_bo (m_wide τ (nI k)) fun c => cb_bo (m_wideSum N τ c) fun τ => some ((11 : Int32), τ) := by
    rcases cb_lt4 hk with rfl | rfl | rfl | rfl <;> rfl
  rw [w, w2]
  obtain ⟨r1, p1, p2, ⟨a, ha, rfl⟩⟩ := s_pair h (k := 2) (by omega)
  obtain ⟨r2, w1, w2, ⟨b, hb, rfl⟩⟩ := s_wide h hk
  have p1' : c_Bank_pair 11 σ 2 = some (nI a) := p1
  have p2' : m_pair τ 4 = some (nI a) := p2
  rw [cb_bo_e p1', cb_bo_e w1, cb_bo_e w2]
  obtain ⟨σ1, τ1, a1, a2, h1⟩ := s_wsum h hN ha hb p2'
  obtain ⟨c4, b1, a1⟩ := cb_bo_o a1
  obtain ⟨σ5, b2, a1⟩ := cb_bo_o a1
  obtain ⟨σ6, b3, a1⟩ := cb_bo_o a1
  rw [cb_bo_e b1, cb_bo_e b2, cb_bo_e b3, cb_bo_e a2, Option.some.inj a1]
  exact ⟨11, σ1, τ1, rfl, rfl, ck_n 11 (by omega), h1⟩
theorem s_inc0 (h : cb_R g σ τ) {N k : Nat} (hk : k < 4) : cb_Sm (c_Processor_lowQuarter σ (nI (8 * (2 * k) + 3))) (m_low N τ (nI (2 * k)) (nI 3)) (cb_P g) := by
  have w : c_Processor_lowQuarter σ (nI (8 * (2 * k) + 3)) = cb_bo (c_Processor_wide σ (nI k)) fun c => cb_bo (c_Processor_putWide σ (nI k) (c + 1)) fun σ => some ((6 : Int32), σ) := by
    rcases cb_lt4 hk with rfl | rfl | rfl | rfl <;> rfl
  have w2 : m_low N τ (nI (2 * k)) (nI 3) = cb_bo (m_wide τ (nI k)) fun c => cb_bo (m_putWide τ (nI k) (c + 1)) fun τ => some ((6 : Int32), τ) := by
    rcases cb_lt4 hk with rfl | rfl | rfl | rfl <;> rfl
  rw [w, w2]
  exact cb_Sm_be (s_wide h hk) fun r _ => cb_Sm_bv (s_putWide h hk _) fun σ1 τ1 h1 => s_some (n := 6) (by omega) rfl h1
theorem s_inc1 (h : cb_R g σ τ) {N k : Nat} (hk : k < 4) : cb_Sm (c_Processor_lowQuarter σ (nI (8 * (2 * k + 1) + 3))) (m_low N τ (nI (2 * k + 1)) (nI 3)) (cb_P g) := by
  have w : c_Processor_lowQuarter σ (nI (8 * (2 * k + 1) + 3)) = cb_bo (c_Processor_wide σ (nI k)) fun c => cb_bo (c_Processor_putWide σ (nI k) (c + (-1))) fun σ => some ((6 : Int32), σ) := by
    rcases cb_lt4 hk with rfl | rfl | rfl | rfl <;> rfl
  have w2 : m_low N τ (nI (2 * k + 1)) (nI 3) = cb_bo (m_wide τ (nI k)) fun c => cb_bo (m_putWide τ (nI k) (c + (-1))) fun τ => some ((6 : Int32), τ) := by
    rcases cb_lt4 hk with rfl | rfl | rfl | rfl <;> rfl
  rw [w, w2]
  exact cb_Sm_be (s_wide h hk) fun r _ => cb_Sm_bv (s_putWide h hk _) fun σ1 τ1 h1 => s_some (n := 6) (by omega) rfl h1
theorem s_ldn (h : cb_R g σ τ) {N y : Nat} (hy : y < 8) : cb_Sm (c_Processor_lowQuarter σ (nI (8 * y + 6))) (m_low N τ (nI y) (nI 6)) (cb_P g) := by
  have w : c_Processor_lowQuarter σ (nI (8 * y + 6)) = cb_b2 (c_Processor_nextByte σ) fun c σ => cb_bo (c_Processor_write σ (nI y) c) fun σ => some ((if nI y = (6 : Int32) then (10 : Int32) else (7 : Int32)), σ) := by
    rcases cb_lt8 hy with rfl | rfl | rfl | rfl | rfl | rfl | rfl | rfl <;> rfl
  have w2 : m_low N τ (nI y) (nI 6) = cb_b2 (m_next τ) fun c τ => cb_bo (m_put τ (nI y) c) fun τ => some ((if nI y = (6 : Int32) then (10 : Int32) else (7 : Int32)), τ) := by
    rcases cb_lt8 hy with rfl | rfl | rfl | rfl | rfl | rfl | rfl | rfl <;> rfl
  rw [w, w2]
  exact cb_Sm_b2 (s_next h) fun r σ1 τ1 h1 => cb_Sm_bv (s_write h1.2 hy h1.1) fun σ2 τ2 h2 => ⟨_, σ2, τ2, rfl, rfl, ck_i (ck_n 10 (by omega)) (ck_n 7 (by omega)), h2⟩
theorem m_low_0 {N : Nat} {v : Int32} : m_low N τ v (nI 0) = cb_b2 (m_jumps τ v) fun c τ => some (c, τ) := rfl
theorem m_low_2 {N : Nat} {v : Int32} : m_low N τ v (nI 2) = cb_b2 (m_stores τ v) fun c τ => some (c, τ) := rfl
theorem m_low_4 {N : Nat} {v : Int32} : m_low N τ v (nI 4) = cb_bo (m_get τ v) fun c2 => cb_b2 (m_step N τ c2 (nI 0)) fun c4 τ4 => cb_bo (m_put τ4 v c4) fun τ5 => some ((if v = (6 : Int32) then (11 : Int32) else (4 : Int32)), τ5) := rfl
theorem m_low_5 {N : Nat} {v : Int32} : m_low N τ v (nI 5) = cb_bo (m_get τ v) fun c2 => cb_b2 (m_step N τ c2 (nI 1)) fun c4 τ4 => cb_bo (m_put τ4 v c4) fun τ5 => some ((if v = (6 : Int32) then (11 : Int32) else (4 : Int32)), τ5) := rfl
theorem m_low_7 {N : Nat} {v : Int32} : m_low N τ v (nI 7) = cb_b2 (m_single τ v) fun c τ => some (c, τ) := rfl
theorem s_low0 (h : cb_R g σ τ) {N : Nat} {y : Nat} (hy : y < 8) : cb_Sm (c_Processor_lowQuarter σ (nI (8 * y + 0))) (m_low N τ (nI y) (nI 0)) (cb_P g) := by
  have w : c_Processor_lowQuarter σ (nI (8 * y + 0)) = cb_b2 (c_Processor_relative σ (nI y)) fun c σ => some (c, σ) := by
    rcases cb_lt8 hy with rfl | rfl | rfl | rfl | rfl | rfl | rfl | rfl <;> rfl
  rw [w, m_low_0]
  exact s_id (s_jumps h hy)
theorem s_low2 (h : cb_R g σ τ) {N : Nat} {y : Nat} (hy : y < 8) : cb_Sm (c_Processor_lowQuarter σ (nI (8 * y + 2))) (m_low N τ (nI y) (nI 2)) (cb_P g) := by
  have w : c_Processor_lowQuarter σ (nI (8 * y + 2)) = cb_b2 (c_Processor_transfer σ (nI y)) fun c σ => some (c, σ) := by
    rcases cb_lt8 hy with rfl | rfl | rfl | rfl | rfl | rfl | rfl | rfl <;> rfl
  rw [w, m_low_2]
  exact s_id (s_stores h hy)
theorem c_low4 {y : Nat} (hy : y < 8) : c_Processor_lowQuarter σ (nI (8 * y + 4)) = cb_bo (c_Processor_read σ (nI y)) fun c14 => cb_bo (c_Flags_add c14 1 0) fun c15 => cb_b2 (c_Processor_step σ (nI y) c15) fun c16 σc16 => some (c16, σc16) := by
  have e3 : nI (8 * y + 4) >>> ((3 : Int32) &&& 31) = nI y := (shr_k (k := 3) (by omega) (by omega)).trans (congrArg nI (by omega))
  have e7 : nI (8 * y + 4) &&& 7 = nI 4 := (q_7 (by omega)).trans (congrArg nI (by omega))
  unfold c_Processor_lowQuarter
  rw [cb_let_e, e3, e7, if_neg (by decide), if_neg (by decide), if_neg (by decide), if_neg (by decide), if_pos (by decide)]
theorem c_low5 {y : Nat} (hy : y < 8) : c_Processor_lowQuarter σ (nI (8 * y + 5)) = cb_bo (c_Processor_read σ (nI y)) fun c14 => cb_bo (c_Flags_subtract c14 1 0) fun c15 => cb_b2 (c_Processor_step σ (nI y) c15) fun c16 σc16 => some (c16, σc16) := by
  have e3 : nI (8 * y + 5) >>> ((3 : Int32) &&& 31) = nI y := (shr_k (k := 3) (by omega) (by omega)).trans (congrArg nI (by omega))
  have e7 : nI (8 * y + 5) &&& 7 = nI 5 := (q_7 (by omega)).trans (congrArg nI (by omega))
  unfold c_Processor_lowQuarter
  rw [cb_let_e, e3, e7, if_neg (by decide), if_neg (by decide), if_neg (by decide), if_neg (by decide), if_neg (by decide), if_pos (by decide)]
theorem s_low4 (h : cb_R g σ τ) {N : Nat} (hN : 16 < N) {y : Nat} (hy : y < 8) : cb_Sm (c_Processor_lowQuarter σ (nI (8 * y + 4))) (m_low N τ (nI y) (nI 4)) (cb_P g) := by
  rw [c_low4 hy, m_low_4]
  have q := s_st h hN hy (dn := 0) (by omega)
  simp only [if_true] at q
  exact q
theorem s_low5 (h : cb_R g σ τ) {N : Nat} (hN : 16 < N) {y : Nat} (hy : y < 8) : cb_Sm (c_Processor_lowQuarter σ (nI (8 * y + 5))) (m_low N τ (nI y) (nI 5)) (cb_P g) := by
  rw [c_low5 hy, m_low_5]
  have q := s_st h hN hy (dn := 1) (by omega)
  simp only [Nat.one_ne_zero, if_false] at q
  exact q
theorem s_low7 (h : cb_R g σ τ) {N : Nat} {y : Nat} (hy : y < 8) : cb_Sm (c_Processor_lowQuarter σ (nI (8 * y + 7))) (m_low N τ (nI y) (nI 7)) (cb_P g) := by
  have w : c_Processor_lowQuarter σ (nI (8 * y + 7)) = cb_b2 (c_Processor_onA σ (nI y)) fun c σ => some (c, σ) := by
    rcases cb_lt8 hy with rfl | rfl | rfl | rfl | rfl | rfl | rfl | rfl <;> rfl
  rw [w, m_low_7]
  exact s_id (s_single h hy)
theorem cb_ev {y : Nat} (hy : y < 8) : ∃ k, k < 4 ∧ (y = 2 * k ∨ y = 2 * k + 1) := ⟨y / 2, by omega, by omega⟩
theorem s_low (h : cb_R g σ τ) {N : Nat} (hN : 16 < N) {y z : Nat} (hy : y < 8) (hz : z < 8) : cb_Sm (c_Processor_lowQuarter σ (nI (8 * y + z))) (m_low N τ (nI y) (nI z)) (cb_P g) := by
  obtain ⟨k, hk, ek⟩ := cb_ev hy
  rcases cb_lt8 hz with rfl | rfl | rfl | rfl | rfl | rfl | rfl | rfl
  · exact s_low0 h hy
  · rcases ek with rfl | rfl
    · exact s_lw0 h hk
    · exact s_lw1 h hN hk
  · exact s_low2 h hy
  · rcases ek with rfl | rfl
    · exact s_inc0 h hk
    · exact s_inc1 h hk
  · exact s_low4 h hN hy
  · exact s_low5 h hN hy
  · exact s_ldn h hy
  · exact s_low7 h hy
theorem cb_g3 (h : cb_R g σ τ) : g = (σ 3 9, τ 0 8, σ 3 8) := by
  obtain ⟨a, b, c⟩ := g
  have := h.2.2.2.1
  unfold cb_Rx at this
  obtain ⟨-, -, -, -, -, -, -, -, e1, e2, e3⟩ := this
  rw [e1, e2, e3]
/-- halted -/
theorem ps_halt (h : cb_R g σ τ) (h8 : σ 3 8 = 0) : cb_R g (cb_up σ 3 7 1) (cb_up τ 0 7 1) := by
  obtain ⟨h1, h2, h3, ⟨a1, a2, a3, a⟩, h5⟩ := h
  exact ⟨h1, h2, h3, ⟨a1, a2, Or.inr (Or.inl ⟨h8, rfl, rfl⟩), a⟩, h5⟩
theorem s_mov (h : cb_R g σ τ) {y z : Nat} (hy : y < 8) (hz : z < 8) (h66 : ¬ (y = 6 ∧ z = 6)) {v : Int32} (e1 : (v >>> ((3 : Int32) &&& 31)) &&& 7 = nI y) (e2 : v &&& 7 = nI z) :
    cb_Sm (c_Processor_moveOrHalt σ v) (cb_bo (m_get τ (nI z)) fun c20 => cb_bo (m_put τ (nI y) c20) fun τ21 => some ((if (if nI z = (6 : Int32) then (1 : Int32) else (if nI y = (6 : Int32) then (1 : Int32) else (0 : Int32))) = 0 then (4 : Int32) else (7 : Int32)), τ21)) (cb_P g) := by
  have w : c_Processor_moveOrHalt σ v = c_Processor_moveOrHalt_L31 v σ (nI y) (nI z) := by
    unfold c_Processor_moveOrHalt
    simp only [cb_let_e]
    rw [e1, e2]
    have d1 : (nI y = (6 : Int32)) = (y = 6) := propext (nI_eq (a := y) (b := 6) (by omega) (by omega))
    have d2 : (nI z = (6 : Int32)) = (z = 6) := propext (nI_eq (a := z) (b := 6) (by omega) (by omega))
    simp only [d1, d2]
    by_cases hy6 : y = 6
    · rw [if_pos hy6, if_neg (fun q => h66 ⟨hy6, q⟩)]
    · rw [if_neg hy6]
  rw [w]
  unfold c_Processor_moveOrHalt_L31
  refine cb_Sm_be (s_read h hz) fun r hr => cb_Sm_bv (s_write h hy hr) fun σ1 τ1 h1 => ?_
  refine ⟨(if nI y = (6 : Int32) then (7 : Int32) else (if nI z = (6 : Int32) then (7 : Int32) else (4 : Int32))), σ1, τ1, rfl, ?_, ck_i (ck_n 7 (by omega)) (ck_i (ck_n 7 (by omega)) (ck_n 4 (by omega))), h1⟩
  by_cases a : nI y = (6 : Int32) <;> by_cases b : nI z = (6 : Int32) <;> simp [a, b]
theorem s_hlt (h : cb_R g σ τ) (h8 : σ 3 8 = 0) : cb_Sm (c_Processor_moveOrHalt σ (nI 118)) (cb_let (cb_up τ 0 7 (1 : Int32)) fun σ22 => (some ((4 : Int32), σ22))) (cb_P g) := by
  have w : c_Processor_moveOrHalt σ (nI 118) = some (4, cb_up σ 3 7 1) := rfl
  rw [w]
  exact ⟨4, _, _, rfl, rfl, ck_n 4 (by omega), ps_halt h h8⟩
end P17
