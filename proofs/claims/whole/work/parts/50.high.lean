/-! the last quarter of the codes, both sides -/
section P21
variable {g : Int32 × Int32 × Int32} {σ τ : cb_S}
theorem ps_iff (h : cb_R g σ τ) {v : Int32} (hv : cb_01 v) : cb_R g (cb_up σ 3 5 v) (cb_up τ 0 5 v) := by
  obtain ⟨h1, h2, h3, ⟨a1, a2, a3, a4, a5, a6, a7, a8⟩, h5⟩ := h
  exact ⟨h1, h2, h3, ⟨rfl, a2, a3, a4, a5, a6, hv, a8⟩, h5⟩
theorem ps_ei (h : cb_R g σ τ) {v : Int32} : cb_R (v, g.2) (cb_up σ 3 9 v) τ := by
  obtain ⟨h1, h2, h3, ⟨a1, a2, a3, a4, a5, a6, a7, a8, a9, a10⟩, h5⟩ := h
  exact ⟨h1, h2, h3, ⟨a1, a2, a3, a4, a5, a6, a7, a8, rfl, a10⟩, h5⟩
theorem s_al0 (h : cb_R g σ τ) : cb_Sm (c_Processor_highAlone σ (nI 195)) (m_others τ (nI 0)) (cb_P g) := by
  unfold c_Processor_highAlone m_others
  rw [if_pos (show nI 195 = 195 by decide)]
  rw [if_pos (show nI 0 = 0 by decide)]
  simp only [cb_let_e]
  exact cb_Sm_b2 (s_nextWord h) fun r σ1 τ1 h1 => s_some (n := 10) (by omega) rfl (ps_pc h1.2 h1.1)
theorem s_al1 (h : cb_R g σ τ) : cb_Sm (c_Processor_highAlone σ (nI 203)) (m_others τ (nI 1)) (cb_P g) := by
  unfold c_Processor_highAlone m_others
  rw [if_neg (show ¬ nI 203 = 195 by decide), if_pos (show nI 203 = 203 by decide)]
  rw [if_neg (show ¬ nI 1 = 0 by decide), if_pos (show nI 1 = 1 by decide)]
  exact s_id' (s_bits h)
theorem s_al2 (h : cb_R g σ τ) : cb_Sm (c_Processor_highAlone σ (nI 211)) (m_others τ (nI 2)) (cb_P g) := by
  unfold c_Processor_highAlone m_others
  rw [if_neg (show ¬ nI 211 = 195 by decide), if_neg (show ¬ nI 211 = 203 by decide), if_neg (show ¬ nI 211 = 205 by decide), if_pos (show nI 211 = 211 by decide)]
  rw [if_neg (show ¬ nI 2 = 0 by decide), if_neg (show ¬ nI 2 = 1 by decide), if_pos (show nI 2 = 2 by decide)]
  unfold m_others_L35
  simp only [if_pos (show nI 2 = 2 by decide)]
  refine cb_Sm_b2 (s_next h) fun r σ1 τ1 h1 => ?_
  obtain ⟨⟨p, hp, rfl⟩, h1⟩ := h1
  rw [pe_A h1]
  obtain ⟨b, hb, eb⟩ := pb_A h1
  rw [eb]
  exact cb_Sm_bv (s_out h1 hp hb) fun σ2 τ2 h2 => s_some (n := 11) (by omega) rfl h2
theorem s_al3 (h : cb_R g σ τ) : cb_Sm (c_Processor_highAlone σ (nI 219)) (m_others τ (nI 3)) (cb_P g) := by
  unfold c_Processor_highAlone m_others
  rw [if_neg (show ¬ nI 219 = 195 by decide), if_neg (show ¬ nI 219 = 203 by decide), if_neg (show ¬ nI 219 = 205 by decide), if_neg (show ¬ nI 219 = 211 by decide), if_pos (show nI 219 = 219 by decide)]
  rw [if_neg (show ¬ nI 3 = 0 by decide), if_neg (show ¬ nI 3 = 1 by decide), if_neg (show ¬ nI 3 = 2 by decide), if_pos (show nI 3 = 3 by decide)]
  unfold m_others_L35
  simp only [if_neg (show ¬ nI 3 = 2 by decide), cb_let_e]
  refine cb_Sm_b2 (s_next h) fun r σ1 τ1 h1 => ?_
  obtain ⟨⟨p, hp, rfl⟩, h1⟩ := h1
  exact cb_Sm_b2 (s_inp h1 hp) fun r σ2 τ2 h2 => s_some (n := 11) (by omega) rfl (ps_reg h2.2 (by omega) h2.1 (by omega))
theorem s_al4 (h : cb_R g σ τ) : cb_Sm (c_Processor_highAlone σ (nI 227)) (m_others τ (nI 4)) (cb_P g) := by
  unfold c_Processor_highAlone m_others
  rw [if_neg (show ¬ nI 227 = 195 by decide), if_neg (show ¬ nI 227 = 203 by decide), if_neg (show ¬ nI 227 = 205 by decide), if_neg (show ¬ nI 227 = 211 by decide), if_neg (show ¬ nI 227 = 219 by decide), if_pos (show nI 227 = 227 by decide)]
  rw [if_neg (show ¬ nI 4 = 0 by decide), if_neg (show ¬ nI 4 = 1 by decide), if_neg (show ¬ nI 4 = 2 by decide), if_neg (show ¬ nI 4 = 3 by decide), if_pos (show nI 4 = 4 by decide)]
  rw [← pe_sp h]
  obtain ⟨a, p1, p2, -⟩ := s_wordAt h (σ 10 2)
  obtain ⟨b, q1, q2, -⟩ := s_pair h (k := 2) (by omega)
  obtain ⟨σ1, τ1, r1, r2, h1⟩ := s_putWord h (σ 10 2) b
  obtain ⟨σ2, τ2, t1, t2, h2⟩ := s_putPair h1 (k := 2) (by omega) a
  have q1' : c_Bank_pair 11 σ 2 = some b := q1
  have q2' : m_pair τ 4 = some b := q2
  have t1' : c_Bank_putPair 11 σ1 2 a = some σ2 := t1
  have t2' : m_putPair τ1 4 a = some τ2 := t2
  rw [cb_bo_e p1, cb_bo_e q1', cb_bo_e r1, cb_bo_e t1', cb_bo_e p2, cb_bo_e q2', cb_bo_e r2, cb_bo_e t2']
  exact s_some (n := 19) (by omega) rfl h2
theorem s_al5 (h : cb_R g σ τ) : cb_Sm (c_Processor_highAlone σ (nI 235)) (m_others τ (nI 5)) (cb_P g) := by
  unfold c_Processor_highAlone m_others
  rw [if_neg (show ¬ nI 235 = 195 by decide), if_neg (show ¬ nI 235 = 203 by decide), if_neg (show ¬ nI 235 = 205 by decide), if_neg (show ¬ nI 235 = 211 by decide), if_neg (show ¬ nI 235 = 219 by decide), if_neg (show ¬ nI 235 = 227 by decide), if_pos (show nI 235 = 235 by decide)]
  rw [if_neg (show ¬ nI 5 = 0 by decide), if_neg (show ¬ nI 5 = 1 by decide), if_neg (show ¬ nI 5 = 2 by decide), if_neg (show ¬ nI 5 = 3 by decide), if_neg (show ¬ nI 5 = 4 by decide), if_pos (show nI 5 = 5 by decide)]
  obtain ⟨a, p1, p2, -⟩ := s_pair h (k := 1) (by omega)
  obtain ⟨b, q1, q2, -⟩ := s_pair h (k := 2) (by omega)
  obtain ⟨σ1, τ1, r1, r2, h1⟩ := s_putPair h (k := 1) (by omega) b
  obtain ⟨σ2, τ2, t1, t2, h2⟩ := s_putPair h1 (k := 2) (by omega) a
  have p1' : c_Bank_pair 11 σ 1 = some a := p1
  have p2' : m_pair τ 2 = some a := p2
  have q1' : c_Bank_pair 11 σ 2 = some b := q1
  have q2' : m_pair τ 4 = some b := q2
  have r1' : c_Bank_putPair 11 σ 1 b = some σ1 := r1
  have r2' : m_putPair τ 2 b = some τ1 := r2
  have t1' : c_Bank_putPair 11 σ1 2 a = some σ2 := t1
  have t2' : m_putPair τ1 4 a = some τ2 := t2
  rw [cb_bo_e p1', cb_bo_e q1', cb_bo_e r1', cb_bo_e t1', cb_bo_e p2', cb_bo_e q2', cb_bo_e r2', cb_bo_e t2']
  exact s_some (n := 4) (by omega) rfl h2
theorem s_al6 (h : cb_R g σ τ) : cb_Sm (c_Processor_highAlone σ (nI 243)) (m_others τ (nI 6)) (cb_P g) := by
  unfold c_Processor_highAlone m_others
  rw [if_neg (show ¬ nI 243 = 195 by decide), if_neg (show ¬ nI 243 = 203 by decide), if_neg (show ¬ nI 243 = 205 by decide), if_neg (show ¬ nI 243 = 211 by decide), if_neg (show ¬ nI 243 = 219 by decide), if_neg (show ¬ nI 243 = 227 by decide), if_neg (show ¬ nI 243 = 235 by decide), if_neg (show ¬ nI 243 = 237 by decide), if_pos (show nI 243 = 243 by decide)]
  rw [if_neg (show ¬ nI 6 = 0 by decide), if_neg (show ¬ nI 6 = 1 by decide), if_neg (show ¬ nI 6 = 2 by decide), if_neg (show ¬ nI 6 = 3 by decide), if_neg (show ¬ nI 6 = 4 by decide), if_neg (show ¬ nI 6 = 5 by decide)]
  rw [if_neg (show ¬ nI 6 = 7 by decide)]
  simp only [cb_let_e]
  exact s_some (n := 4) (by omega) rfl (ps_iff h (Or.inl rfl))
theorem s_al7 (h : cb_R g σ τ) : cb_Sm (c_Processor_highAlone σ (nI 251)) (m_others τ (nI 7)) (cb_P (1, g.2)) := by
  unfold c_Processor_highAlone m_others
  rw [if_neg (show ¬ nI 251 = 195 by decide), if_neg (show ¬ nI 251 = 203 by decide), if_neg (show ¬ nI 251 = 205 by decide), if_neg (show ¬ nI 251 = 211 by decide), if_neg (show ¬ nI 251 = 219 by decide), if_neg (show ¬ nI 251 = 227 by decide), if_neg (show ¬ nI 251 = 235 by decide), if_neg (show ¬ nI 251 = 237 by decide), if_neg (show ¬ nI 251 = 243 by decide), if_pos (show nI 251 = 251 by decide)]
  rw [if_neg (show ¬ nI 7 = 0 by decide), if_neg (show ¬ nI 7 = 1 by decide), if_neg (show ¬ nI 7 = 2 by decide), if_neg (show ¬ nI 7 = 3 by decide), if_neg (show ¬ nI 7 = 4 by decide), if_neg (show ¬ nI 7 = 5 by decide)]
  rw [if_pos (show nI 7 = 7 by decide)]
  simp only [cb_let_e]
  exact s_some (n := 4) (by omega) rfl (ps_ei (ps_iff h (Or.inr rfl)))
theorem m_h3 {N : Nat} {v : Int32} : m_high N τ v (nI 3) = cb_b2 (m_others τ v) fun c τ => some (c, τ) := by
  unfold m_high
  rw [if_neg (show ¬ nI 3 = 0 by decide), if_neg (show ¬ nI 3 = 1 by decide), if_neg (show ¬ nI 3 = 2 by decide), if_neg (show ¬ nI 3 = 4 by decide), if_pos (show nI 3 = 3 by decide)]
theorem m_h5 {N : Nat} {v : Int32} : m_high N τ v (nI 5) = cb_b2 (m_pushes N τ v) fun c τ => some (c, τ) := by
  unfold m_high
  rw [if_neg (show ¬ nI 5 = 0 by decide), if_neg (show ¬ nI 5 = 1 by decide), if_neg (show ¬ nI 5 = 2 by decide), if_neg (show ¬ nI 5 = 4 by decide), if_neg (show ¬ nI 5 = 3 by decide), if_pos (show nI 5 = 5 by decide)]
theorem m_h6 {N : Nat} {v : Int32} : m_high N τ v (nI 6) = cb_b2 (m_next τ) fun c τ => cb_bo (m_operate N τ v c) fun τ => some ((7 : Int32), τ) := by
  unfold m_high
  rw [if_neg (show ¬ nI 6 = 0 by decide), if_neg (show ¬ nI 6 = 1 by decide), if_neg (show ¬ nI 6 = 2 by decide), if_neg (show ¬ nI 6 = 4 by decide), if_neg (show ¬ nI 6 = 3 by decide), if_neg (show ¬ nI 6 = 5 by decide), if_pos (show nI 6 = 6 by decide)]
theorem m_h1 {N : Nat} {v : Int32} : m_high N τ v (nI 1) = cb_b2 (m_pops τ v) fun c τ => some (c, τ) := by
  unfold m_high
  rw [if_neg (show ¬ nI 1 = 0 by decide), if_pos (show nI 1 = 1 by decide)]
theorem s_alo (h : cb_R g σ τ) {N : Nat} (hN : 16 < N) {k : Nat} (hk : k < 4) : cb_Sm (c_Processor_highAlone σ (nI (205 + 16 * k))) (m_pushes N τ (nI (2 * k + 1))) (cb_P g) := by
  rcases cb_lt4 hk with rfl | rfl | rfl | rfl
  · have q := s_call h (N := N)
    unfold c_Processor_highAlone
    rw [if_neg (show ¬ nI (205 + 16 * 0) = 195 by decide), if_neg (show ¬ nI (205 + 16 * 0) = 203 by decide), if_pos (show nI (205 + 16 * 0) = 205 by decide)]
    exact q
  · unfold c_Processor_highAlone m_pushes
    rw [if_neg (show ¬ nI (205 + 16 * 1) = 195 by decide), if_neg (show ¬ nI (205 + 16 * 1) = 203 by decide), if_neg (show ¬ nI (205 + 16 * 1) = 205 by decide), if_neg (show ¬ nI (205 + 16 * 1) = 211 by decide), if_neg (show ¬ nI (205 + 16 * 1) = 219 by decide), if_neg (show ¬ nI (205 + 16 * 1) = 227 by decide), if_neg (show ¬ nI (205 + 16 * 1) = 235 by decide), if_neg (show ¬ nI (205 + 16 * 1) = 237 by decide), if_neg (show ¬ nI (205 + 16 * 1) = 243 by decide), if_neg (show ¬ nI (205 + 16 * 1) = 251 by decide)]
    rw [if_neg (show ¬ nI (2 * 1 + 1) &&& 1 = 0 by decide), if_neg (show ¬ nI (2 * 1 + 1) = 5 by decide), if_neg (show ¬ nI (2 * 1 + 1) = 1 by decide)]
    exact s_some (n := 0) (by omega) rfl h
  · unfold c_Processor_highAlone m_pushes
    rw [if_neg (show ¬ nI (205 + 16 * 2) = 195 by decide), if_neg (show ¬ nI (205 + 16 * 2) = 203 by decide), if_neg (show ¬ nI (205 + 16 * 2) = 205 by decide), if_neg (show ¬ nI (205 + 16 * 2) = 211 by decide), if_neg (show ¬ nI (205 + 16 * 2) = 219 by decide), if_neg (show ¬ nI (205 + 16 * 2) = 227 by decide), if_neg (show ¬ nI (205 + 16 * 2) = 235 by decide), if_pos (show nI (205 + 16 * 2) = 237 by decide)]
    rw [if_neg (show ¬ nI (2 * 2 + 1) &&& 1 = 0 by decide), if_pos (show nI (2 * 2 + 1) = 5 by decide)]
    exact s_id' (s_ed h hN)
  · unfold c_Processor_highAlone m_pushes
    rw [if_neg (show ¬ nI (205 + 16 * 3) = 195 by decide), if_neg (show ¬ nI (205 + 16 * 3) = 203 by decide), if_neg (show ¬ nI (205 + 16 * 3) = 205 by decide), if_neg (show ¬ nI (205 + 16 * 3) = 211 by decide), if_neg (show ¬ nI (205 + 16 * 3) = 219 by decide), if_neg (show ¬ nI (205 + 16 * 3) = 227 by decide), if_neg (show ¬ nI (205 + 16 * 3) = 235 by decide), if_neg (show ¬ nI (205 + 16 * 3) = 237 by decide), if_neg (show ¬ nI (205 + 16 * 3) = 243 by decide), if_neg (show ¬ nI (205 + 16 * 3) = 251 by decide)]
    rw [if_neg (show ¬ nI (2 * 3 + 1) &&& 1 = 0 by decide), if_neg (show ¬ nI (2 * 3 + 1) = 5 by decide), if_neg (show ¬ nI (2 * 3 + 1) = 1 by decide)]
    exact s_some (n := 0) (by omega) rfl h
theorem s_col (h : cb_R g σ τ) {N : Nat} (hN : 16 < N) {n y z : Nat} (hn : n = 192 + 8 * y + z) (hy : y < 8) (hz : z < 8) (h3 : z ≠ 3) (h5 : z = 5 → y % 2 = 0) : cb_Sm (c_Processor_highColumns σ (nI n)) (m_high N τ (nI y) (nI z)) (cb_P g) := by
  have eb : (nI n >>> ((3 : Int32) &&& 31)) &&& 7 = nI y := (q_b (by omega)).trans (congrArg nI (by omega))
  have e7 : nI n &&& 7 = nI z := (q_7 (by omega)).trans (congrArg nI (by omega))
  unfold c_Processor_highColumns
  rw [cb_let_e, eb, e7]
  rcases cb_lt8 hz with rfl | rfl | rfl | rfl | rfl | rfl | rfl | rfl
  · rw [if_pos (show nI 0 = 0 by decide)]
    exact s_retIf h hy
  · rw [if_neg (show ¬ nI 1 = 0 by decide), if_pos (show nI 1 = 1 by decide), m_h1]
    apply s_id
    obtain ⟨k, hk, ek⟩ := cb_ev hy
    have e4 : (nI n >>> ((4 : Int32) &&& 31)) &&& 3 = nI k := by
      rw [show nI n >>> ((4 : Int32) &&& 31) = nI (n / 2 ^ 4) from shr_k (k := 4) (by omega) (by omega)]
      exact (i_mod _ 2).trans (congrArg nI (by omega))
    rcases ek with rfl | rfl
    · have e8 : nI n &&& 8 = 0 := by
        rw [show n = 193 + 16 * k by omega]
        rcases cb_lt4 hk with rfl | rfl | rfl | rfl <;> decide
      unfold c_Processor_popOrLeap
      rw [cb_let_e, if_pos e8, e4]
      exact s_popq h hk
    · have e8 : ¬ nI n &&& 8 = 0 := by
        rw [show n = 201 + 16 * k by omega]
        rcases cb_lt4 hk with rfl | rfl | rfl | rfl <;> decide
      exact s_leap h hk e8 e4
  · rw [if_neg (show ¬ nI 2 = 0 by decide), if_neg (show ¬ nI 2 = 1 by decide), if_pos (show nI 2 = 2 by decide)]
    exact s_goIf h hy
  · exact absurd rfl h3
  · rw [if_neg (show ¬ nI 4 = 0 by decide), if_neg (show ¬ nI 4 = 1 by decide), if_neg (show ¬ nI 4 = 2 by decide), if_neg (show ¬ nI 4 = 3 by decide), if_pos (show nI 4 = 4 by decide)]
    exact s_callIf h hy
  · rw [if_neg (show ¬ nI 5 = 0 by decide), if_neg (show ¬ nI 5 = 1 by decide), if_neg (show ¬ nI 5 = 2 by decide), if_neg (show ¬ nI 5 = 3 by decide), if_neg (show ¬ nI 5 = 4 by decide), if_pos (show nI 5 = 5 by decide), m_h5]
    have hy2 := h5 rfl
    obtain ⟨k, hk, rfl⟩ : ∃ k, k < 4 ∧ y = 2 * k := ⟨y / 2, by omega, by omega⟩
    rw [show nI (2 * k) >>> ((1 : Int32) &&& 31) = nI k from (shr_k (k := 1) (by omega) (by omega)).trans (congrArg nI (by omega))]
    exact s_id' (s_pushq h hk)
  · rw [if_neg (show ¬ nI 6 = 0 by decide), if_neg (show ¬ nI 6 = 1 by decide), if_neg (show ¬ nI 6 = 2 by decide), if_neg (show ¬ nI 6 = 3 by decide), if_neg (show ¬ nI 6 = 4 by decide), if_neg (show ¬ nI 6 = 5 by decide), if_pos (show nI 6 = 6 by decide), m_h6]
    refine cb_Sm_b2 (s_next h) fun r σ1 τ1 h1 => ?_
    obtain ⟨⟨v, hv, rfl⟩, h1⟩ := h1
    exact cb_Sm_bv (s_operate h1 hN hy hv) fun σ2 τ2 h2 => s_some (n := 7) (by omega) rfl h2
  · rw [if_neg (show ¬ nI 7 = 0 by decide), if_neg (show ¬ nI 7 = 1 by decide), if_neg (show ¬ nI 7 = 2 by decide), if_neg (show ¬ nI 7 = 3 by decide), if_neg (show ¬ nI 7 = 4 by decide), if_neg (show ¬ nI 7 = 5 by decide), if_neg (show ¬ nI 7 = 6 by decide)]
    exact s_rst h hy
/-- the last quarter, whole -/
theorem s_high (h : cb_R g σ τ) {N : Nat} (hN : 16 < N) {n y z : Nat} (hn : n = 192 + 8 * y + z) (hy : y < 8) (hz : z < 8) : cb_Sm (if (if nI n &&& 7 = (3 : Int32) then (1 : Int32) else (if nI n &&& 15 = (13 : Int32) then (1 : Int32) else 0)) = 0 then c_Processor_highColumns σ (nI n) else c_Processor_highAlone σ (nI n)) (m_high N τ (nI y) (nI z)) (cb_P (if n = 251 then (1, g.2) else g)) := by
  have e7 : nI n &&& 7 = nI z := (q_7 (by omega)).trans (congrArg nI (by omega))
  have e15 : nI n &&& 15 = nI (n % 16) := i_mod n 4
  have c3 : (nI z = (3 : Int32)) = (z = 3) := propext (nI_eq (a := z) (b := 3) (by omega) (by omega))
  have c13 : (nI (n % 16) = (13 : Int32)) = (n % 16 = 13) := propext (nI_eq (a := n % 16) (b := 13) (by omega) (by omega))
  rw [e7, e15]
  simp only [c3, c13]
  by_cases z3 : z = 3
  · rw [if_pos z3, if_neg (show ¬ (1 : Int32) = 0 by decide)]
    subst z3
    rw [m_h3]
    apply s_id'
    rcases cb_lt8 hy with rfl | rfl | rfl | rfl | rfl | rfl | rfl | rfl
    · subst hn; rw [if_neg (by decide)]; exact s_al0 h
    · subst hn; rw [if_neg (by decide)]; exact s_al1 h
    · subst hn; rw [if_neg (by decide)]; exact s_al2 h
    · subst hn; rw [if_neg (by decide)]; exact s_al3 h
    · subst hn; rw [if_neg (by decide)]; exact s_al4 h
    · subst hn; rw [if_neg (by decide)]; exact s_al5 h
    · subst hn; rw [if_neg (by decide)]; exact s_al6 h
    · subst hn; rw [if_pos (by decide)]; exact s_al7 h
  · rw [if_neg z3]
    by_cases x : n % 16 = 13
    · rw [if_pos x, if_neg (show ¬ (1 : Int32) = 0 by decide)]
      obtain ⟨k, hk, e1, e2, e3⟩ : ∃ k, k < 4 ∧ y = 2 * k + 1 ∧ z = 5 ∧ n = 205 + 16 * k := ⟨y / 2, by omega, by omega, by omega, by omega⟩
      subst e1 e2 e3
      rw [m_h5, if_neg (by omega)]
      exact s_id' (s_alo h hN hk)
    · rw [if_neg x, if_pos rfl, if_neg (by omega)]
      exact s_col h hN hn hy hz z3 (by omega)
end P21
