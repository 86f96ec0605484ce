/-! one instruction, both sides -/
section P24
variable {g : Int32 × Int32 × Int32} {σ τ : cb_S}
def c_disp (σ : cb_S) (v : Int32) : Option (Int32 × cb_S) := if (v >>> ((6 : Int32) &&& 31)) = 0 then c_Processor_lowQuarter σ v else if (v >>> ((6 : Int32) &&& 31)) = 1 then c_Processor_moveOrHalt σ v else if (v >>> ((6 : Int32) &&& 31)) = 2 then (cb_bo (c_Processor_read σ (v &&& (7 : Int32))) fun c20 => cb_bo (c_Processor_operate σ ((v >>> ((3 : Int32) &&& 31)) &&& (7 : Int32)) c20) fun σ21 => some ((if (v &&& (7 : Int32)) = (6 : Int32) then (7 : Int32) else (4 : Int32)), σ21)) else (if (if v &&& 7 = (3 : Int32) then (1 : Int32) else (if v &&& 15 = (13 : Int32) then (1 : Int32) else 0)) = 0 then c_Processor_highColumns σ v else c_Processor_highAlone σ v)
theorem c_car0 {N : Nat} (h7 : σ 3 7 = 0) : c_Processor_carryOut N σ = cb_b2 (c_Processor_nextByte (cb_up σ 3 9 0)) fun c14 σ14 => cb_b2 (c_disp σ14 c14) fun c σ' => c_Processor_carryOut_L154 N σ' (σ 10 3) c := by
  unfold c_Processor_carryOut
  rw [cb_let_e, cb_let_e]
  have e7 : cb_up σ 3 9 0 3 7 = σ 3 7 := rfl
  have e3 : cb_up σ 3 9 0 10 3 = σ 10 3 := rfl
  rw [e7, e3, if_pos h7]
  obtain ⟨r, hr⟩ : ∃ r, c_Processor_nextByte (cb_up σ 3 9 0) = r := ⟨_, rfl⟩
  rw [hr]
  cases r with
  | none => rfl
  | some x =>
    obtain ⟨c14, σ14⟩ := x
    rw [cb_b2_e rfl, cb_b2_e rfl]
    unfold c_disp c_Processor_carryOut_L153
    by_cases e0 : (c14 >>> ((6 : Int32) &&& 31)) = 0
    · rw [if_pos e0, if_pos e0]
    · rw [if_neg e0, if_neg e0]
      by_cases e1 : (c14 >>> ((6 : Int32) &&& 31)) = 1
      · rw [if_pos e1, if_pos e1]
      · rw [if_neg e1, if_neg e1]
        by_cases e2 : (c14 >>> ((6 : Int32) &&& 31)) = 2
        · rw [if_pos e2, if_pos e2]
          obtain ⟨x, hx⟩ : ∃ x, c_Processor_read σ14 (c14 &&& 7) = x := ⟨_, rfl⟩
          rw [hx]
          cases x with
          | none => rfl
          | some v =>
            rw [cb_bo_some, cb_bo_some]
            obtain ⟨y, hy⟩ : ∃ y, c_Processor_operate σ14 ((c14 >>> ((3 : Int32) &&& 31)) &&& 7) v = y := ⟨_, rfl⟩
            rw [hy]
            cases y with
            | none => rfl
            | some s => rfl
        · rw [if_neg e2, if_neg e2, cb_let_e]
          by_cases e3 : (if c14 &&& 7 = (3 : Int32) then (1 : Int32) else (if c14 &&& 15 = (13 : Int32) then (1 : Int32) else 0)) = 0
          · rw [if_pos e3, if_pos e3]
          · rw [if_neg e3, if_neg e3]
def m_disp (N : Nat) (τ : cb_S) (c2 : Int32) : Option (Int32 × cb_S) := cb_let (c2 >>> ((6 : Int32) &&& 31)) fun t3 => cb_let ((c2 >>> ((3 : Int32) &&& 31)) &&& (7 : Int32)) fun t5 => cb_let (c2 &&& (7 : Int32)) fun t7 => (if t3 = 0 then (cb_b2 (m_low N τ t5 t7) fun c25 σc25 => (some (c25, σc25))) else (if t3 = (3 : Int32) then (cb_b2 (m_high N τ t5 t7) fun c24 σc24 => (some (c24, σc24))) else (if c2 = (118 : Int32) then (cb_let (cb_up τ 0 7 (1 : Int32)) fun σ22 => (some ((4 : Int32), σ22))) else (cb_let (if t7 = (6 : Int32) then (1 : Int32) else (if t3 = (1 : Int32) then (if t5 = (6 : Int32) then (1 : Int32) else (0 : Int32)) else (0 : Int32))) fun t15 => (if t3 = (1 : Int32) then (cb_bo (m_get τ t7) fun c20 => (cb_bo (m_put τ t5 c20) fun σc21 => (m_carryOut_L116 N σc21 t15))) else (cb_bo (m_get τ t7) fun c18 => (cb_bo (m_operate N τ t5 c18) fun σc19 => (m_carryOut_L116 N σc19 t15))))))))
theorem m_car {N : Nat} : m_carryOut N τ = cb_b2 (m_next τ) fun c2 τ2 => m_disp N τ2 c2 := rfl
theorem s_disp (h : cb_R g σ τ) {N n : Nat} (hN : 16 < N) (hn : n < 256) (h8 : σ 3 8 = 0) : cb_Sm (c_disp σ (nI n)) (m_disp N τ (nI n)) (cb_P (if n = 251 then (1, g.2) else g)) := by
  unfold c_disp m_disp
  rw [cb_let_e, cb_let_e, cb_let_e, q_x hn, q_b hn, q_7 hn]
  have d0 : (nI (n / 64) = 0) = (n / 64 = 0) := propext (nI_eq (a := n / 64) (b := 0) (by omega) (by omega))
  have d1 : (nI (n / 64) = 1) = (n / 64 = 1) := propext (nI_eq (a := n / 64) (b := 1) (by omega) (by omega))
  have d2 : (nI (n / 64) = 2) = (n / 64 = 2) := propext (nI_eq (a := n / 64) (b := 2) (by omega) (by omega))
  have d3 : (nI (n / 64) = 3) = (n / 64 = 3) := propext (nI_eq (a := n / 64) (b := 3) (by omega) (by omega))
  have d118 : (nI n = 118) = (n = 118) := propext (nI_eq (a := n) (b := 118) (by omega) (by omega))
  simp only [d0, d1, d2, d3, d118]
  have hy : n / 8 % 8 < 8 := by omega
  have hz : n % 8 < 8 := by omega
  rcases (show n / 64 = 0 ∨ n / 64 = 1 ∨ n / 64 = 2 ∨ n / 64 = 3 by omega) with x | x | x | x
  · rw [if_pos x, if_pos x, if_neg (show ¬ n = 251 by omega)]
    apply s_id'
    have q := s_low h hN hy hz
    rw [show 8 * (n / 8 % 8) + n % 8 = n by omega] at q
    exact q
  · rw [if_neg (show ¬ n / 64 = 0 by omega), if_pos x, if_neg (show ¬ n / 64 = 0 by omega), if_neg (show ¬ n / 64 = 3 by omega), if_neg (show ¬ n = 251 by omega)]
    by_cases hh : n = 118
    · rw [if_pos hh]
      subst hh
      exact s_hlt h h8
    · rw [if_neg hh]
      have q := s_mov h hy hz (by omega) (v := nI n) (q_b hn) (q_7 hn)
      obtain ⟨r, σ1, τ1, q1, q2, q3⟩ := q
      refine ⟨r, σ1, τ1, q1, ?_, q3⟩
      rw [cb_let_e, if_pos x, if_pos x]
      exact q2
  · rw [if_neg (show ¬ n / 64 = 0 by omega), if_neg (show ¬ n / 64 = 1 by omega), if_pos x, if_neg (show ¬ n / 64 = 0 by omega), if_neg (show ¬ n / 64 = 3 by omega), if_neg (show ¬ n = 118 by omega), cb_let_e, if_neg (show ¬ n / 64 = 1 by omega), if_neg (show ¬ n / 64 = 1 by omega), if_neg (show ¬ n = 251 by omega)]
    unfold m_carryOut_L116
    refine cb_Sm_be (s_read h hz) fun r hr => ?_
    obtain ⟨v, hv, rfl⟩ := hr
    refine cb_Sm_bv (s_operate h hN hy hv) fun σ1 τ1 h1 => ?_
    refine ⟨(if nI (n % 8) = (6 : Int32) then (7 : Int32) else (4 : Int32)), σ1, τ1, rfl, ?_, ck_i (ck_n 7 (by omega)) (ck_n 4 (by omega)), h1⟩
    by_cases e6 : nI (n % 8) = (6 : Int32)
    · rw [if_pos e6, if_pos e6, if_neg (show ¬ (1 : Int32) = 0 by decide)]
    · rw [if_neg e6, if_neg e6, if_pos rfl]
  · rw [if_neg (show ¬ n / 64 = 0 by omega), if_neg (show ¬ n / 64 = 1 by omega), if_neg (show ¬ n / 64 = 2 by omega), if_neg (show ¬ n / 64 = 0 by omega), if_pos x]
    apply s_id'
    have q := s_high h hN (n := n) (y := n / 8 % 8) (z := n % 8) (by omega) hy hz
    rw [q_7 hn] at q
    exact q
theorem ps_cnt (h : cb_R g σ τ) : cb_R g (cb_up σ 3 11 (σ 3 11 + 1)) (cb_up τ 25 1 (τ 25 1 + 1)) := by
  obtain ⟨h1, h2, h3, ⟨a1, a2, a3, a4, a5, a6, a7, a8⟩, h5⟩ := h
  refine ⟨h1, h2, h3, ⟨a1, a2, a3, a4, ?_, a6, a7, a8⟩, h5⟩
  show σ 3 11 + 1 = τ 25 1 + 1
  rw [a5]
theorem ps_stop (h : cb_R g σ τ) : cb_R (g.1, g.2.1, 1) (cb_up σ 3 8 1) (cb_up τ 0 7 2) := by
  obtain ⟨h1, h2, h3, ⟨a1, a2, a3, a4, a5, a6, a7, a8, a9, a10, a11⟩, h5⟩ := h
  exact ⟨h1, h2, h3, ⟨a1, a2, Or.inl ⟨rfl, rfl⟩, a4, a5, a6, a7, a8, a9, a10, rfl⟩, h5⟩
theorem ps_g1 (h : cb_R g σ τ) : σ 3 9 = g.1 ∧ τ 0 8 = g.2.1 ∧ σ 3 8 = g.2.2 := h.2.2.2.1.2.2.2.2.2.2.2.2
theorem ps_st (h : cb_R g σ τ) : (σ 3 8 = 1 ∧ τ 0 7 = 2) ∨ (σ 3 8 = 0 ∧ σ 3 7 = 1 ∧ τ 0 7 = 1) ∨ (σ 3 8 = 0 ∧ σ 3 7 = 0 ∧ τ 0 7 = 0) := h.2.2.2.1.2.2.1
/-- what follows an instruction: counted, or stopped -/
theorem s_after (h : cb_R g σ τ) {N c : Nat} (hN : 100 < N) (hc : c < 32) {x1 : Int32} (hx : cb_wo x1) : ∃ σ' τ', c_Processor_carryOut_L154 N σ x1 (nI c) = some (nI c, σ') ∧
    ((c = 0 ∧ cb_R (g.1, g.2.1, 1) σ' τ' ∧ cb_up (cb_up τ 0 7 2) 0 3 x1 = τ') ∨ (c ≠ 0 ∧ cb_R (g.1, g.2.1 + nI c, g.2.2) σ' τ' ∧ m_pass N (cb_up τ 25 1 (τ 25 1 + 1)) (nI c) = some τ')) := by
  unfold c_Processor_carryOut_L154
  by_cases e : c = 0
  · subst e
    rw [if_pos (show nI 0 = 0 from rfl), cb_let_e, cb_let_e]
    refine ⟨_, _, rfl, Or.inl ⟨rfl, ?_, rfl⟩⟩
    rw [cb_up_cj σ 3 8 x1 1 (show 10 ≠ 3 by decide)]
    exact ps_pc (ps_stop h) hx
  · have e0 : ¬ nI c = 0 := fun q => e ((nI_eq (a := c) (b := 0) (by omega) (by omega)).mp q)
    rw [if_neg e0, cb_let_e]
    obtain ⟨σ1, τ1, q1, q2, q3⟩ := s_spend (ps_cnt h) hN hc
    rw [cb_bo_e q1]
    exact ⟨σ1, τ1, rfl, Or.inr ⟨e, q3, q2⟩⟩
/-- one turn of the loop before attention: both sides -/
theorem s_turn (h : cb_R g σ τ) {N : Nat} (hN : 100 < N) (h8 : g.2.2 = 0) {v1 : Int32} {k18 : cb_S → Option (Int32 × cb_S)} : ∃ (c : Nat) (e : Int32) (σ' τ' : cb_S), c < 32 ∧ cb_01 e ∧ c_Processor_carryOut N σ = some (nI c, σ') ∧
    ((c = 0 ∧ cb_R (e, g.2.1, 1) σ' τ' ∧ (if τ 0 7 = 0 then cb_bo (m_byteAt τ (τ 0 3)) fun c18 => m_run_L65 N v1 k18 τ (τ 0 3) (if c18 = (251 : Int32) then (1 : Int32) else 0) else m_run_L65 N v1 k18 τ (τ 0 3) 0) = k18 τ') ∨
     (c ≠ 0 ∧ cb_R (e, g.2.1 + nI c, 0) σ' τ' ∧ (if τ 0 7 = 0 then cb_bo (m_byteAt τ (τ 0 3)) fun c18 => m_run_L65 N v1 k18 τ (τ 0 3) (if c18 = (251 : Int32) then (1 : Int32) else 0) else m_run_L65 N v1 k18 τ (τ 0 3) 0) = if e = 0 then cb_bo (m_acknowledge N τ') k18 else k18 τ')) := by
  have hg := ps_g1 h
  have s8 : σ 3 8 = 0 := hg.2.2.trans h8
  have h9 : cb_R (0, g.2) (cb_up σ 3 9 0) τ := ps_ei h
  obtain ⟨pcw⟩ : Nonempty (cb_wo (τ 0 3)) := ⟨by have := h.2.2.1; obtain ⟨-, e, -, -, q, -⟩ := this; rw [← e]; exact q⟩
  rcases ps_st h with ⟨x8, -⟩ | ⟨-, x7, t7⟩ | ⟨-, x7, t7⟩
  · rw [s8] at x8; exact absurd x8 (by decide)
  · -- halted
    obtain ⟨σ', τ', q1, q2⟩ := s_after h9 (N := N) (c := 4) hN (by omega) pcw
    have cw : c_Processor_carryOut N σ = c_Processor_carryOut_L154 N (cb_up σ 3 9 0) (σ 10 3) (nI 4) := by
      unfold c_Processor_carryOut
      rw [cb_let_e, cb_let_e]
      have e7 : cb_up σ 3 9 0 3 7 = σ 3 7 := rfl
      rw [e7, x7, if_neg (show ¬ (1 : Int32) = 0 by decide)]
      rfl
    rw [pe_pc h] at cw
    refine ⟨4, 0, σ', τ', by omega, Or.inl rfl, cw.trans q1, Or.inr ?_⟩
    rcases q2 with ⟨z, -⟩ | ⟨-, q3, q4⟩
    · exact absurd z (by decide)
    · refine ⟨by decide, ?_, ?_⟩
      · have := q3; rw [h8] at this; exact this
      · rw [t7, if_neg (show ¬ (1 : Int32) = 0 by decide), if_pos rfl]
        unfold m_run_L65 m_run_L82 m_run_L126
        rw [t7, if_pos rfl, if_neg (show ¬ (4 : Int32) = 0 by decide), cb_let_e]
        have q4' : m_pass N (cb_up τ 25 1 (τ 25 1 + 1)) 4 = some τ' := q4
        rw [cb_bo_e q4', if_pos rfl]
  · -- running
    obtain ⟨r, σ1, τ1, n1, n2, ⟨n, hn, rfl⟩, h1⟩ := s_next h9
    have mb : m_byteAt τ (τ 0 3) = some (nI n) := by
      unfold m_next at n2
      obtain ⟨y, y1, y2⟩ := cb_bo_o n2
      rw [cb_let_e] at y2
      rw [y1, (Prod.mk.inj (Option.some.inj y2)).1]
    have s81 : σ1 3 8 = 0 := (ps_g1 h1).2.2.trans h8
    obtain ⟨r2, σ2, τ2, d1, d2, ⟨c, hc, rfl⟩, h2⟩ := s_disp h1 (N := N) (by omega) hn s81
    have cw : c_Processor_carryOut N σ = c_Processor_carryOut_L154 N σ2 (τ 0 3) (nI c) := by
      rw [c_car0 x7, cb_b2_e n1, cb_b2_e d1, pe_pc h]
    obtain ⟨σ', τ', q1, q2⟩ := s_after h2 (N := N) (c := c) hN hc pcw
    have e251 : (if nI n = (251 : Int32) then (1 : Int32) else 0) = if n = 251 then (1 : Int32) else 0 := by
      have : (nI n = (251 : Int32)) = (n = 251) := propext (nI_eq (a := n) (b := 251) (by omega) (by omega))
      simp only [this]
    have ge : (if n = 251 then ((1 : Int32), (0, g.2).2) else (0, g.2)) = (if n = 251 then (1 : Int32) else 0, g.2) := by
      by_cases x : n = 251
      · rw [if_pos x, if_pos x]
      · rw [if_neg x, if_neg x]
    have i01' : cb_01 (if n = 251 then (1 : Int32) else 0) := i10
    have mw : (if τ 0 7 = 0 then cb_bo (m_byteAt τ (τ 0 3)) fun c18 => m_run_L65 N v1 k18 τ (τ 0 3) (if c18 = (251 : Int32) then (1 : Int32) else 0) else m_run_L65 N v1 k18 τ (τ 0 3) 0) = m_run_L82 N v1 k18 τ2 (τ 0 3) (if n = 251 then (1 : Int32) else 0) (nI c) := by
      rw [if_pos t7, cb_bo_e mb, e251]
      unfold m_run_L65
      rw [t7, if_neg (show ¬ (0 : Int32) = 1 by decide), m_car]
      have : (cb_b2 (m_next τ) fun c2 τ2 => m_disp N τ2 c2) = some (nI c, τ2) := by rw [cb_b2_e n2]; exact d2
      rw [cb_b2_e this]
    refine ⟨c, (if n = 251 then (1 : Int32) else 0), σ', τ', hc, i01', cw.trans q1, ?_⟩
    rw [mw]
    rw [ge] at q2
    rcases q2 with ⟨z, q3, q4⟩ | ⟨z, q3, q4⟩
    · refine Or.inl ⟨z, q3, ?_⟩
      subst z
      unfold m_run_L82 m_run_L126
      rw [if_pos (show nI 0 = 0 from rfl), cb_let_e, cb_let_e, q4]
    · refine Or.inr ⟨z, ?_, ?_⟩
      · have := q3; rw [show (if n = 251 then (1 : Int32) else 0, g.2).2.2 = 0 from h8] at this; exact this
      · have e0 : ¬ nI c = 0 := fun q => z ((nI_eq (a := c) (b := 0) (by omega) (by omega)).mp q)
        unfold m_run_L82 m_run_L126
        rw [if_neg e0, cb_let_e, cb_bo_e q4]
end P24
