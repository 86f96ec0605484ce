/-! attention, both sides -/
section P25
variable {g : Int32 × Int32 × Int32} {σ τ : cb_S}
theorem ps_rq6 (h : cb_R g σ τ) {v : Int32} (hv : cb_01 v) : cb_R g (cb_up σ 6 1 v) (cb_up τ 3 0 v) := by
  obtain ⟨h1, h2, h3, h4, ⟨⟨a0, a1, a2, a4, a5, a6, a7, a8, a10, sc, b0, b1, b2, b7, b8, b10⟩, d2, d3, d4, d5⟩⟩ := h
  exact ⟨h1, h2, h3, h4, ⟨⟨a0, rfl, a2, a4, a5, a6, a7, a8, a10, sc, b0, hv, b2, b7, b8, b10⟩, d2, d3, d4, d5⟩⟩
theorem ps_rq7 (h : cb_R g σ τ) {v : Int32} (hv : cb_01 v) : cb_R g (cb_up σ 7 1 v) (cb_up τ 3 1 v) := by
  obtain ⟨h1, h2, h3, h4, ⟨d1, ⟨a0, a1, a2, a4, a5, a6, a7, a8, a10, sc, b0, b1, b2, b7, b8, b10⟩, d3, d4, d5⟩⟩ := h
  exact ⟨h1, h2, h3, h4, ⟨d1, ⟨a0, rfl, a2, a4, a5, a6, a7, a8, a10, sc, b0, hv, b2, b7, b8, b10⟩, d3, d4, d5⟩⟩
theorem ps_rq8 (h : cb_R g σ τ) {v : Int32} (hv : cb_01 v) : cb_R g (cb_up σ 8 1 v) (cb_up τ 3 2 v) := by
  obtain ⟨h1, h2, h3, h4, ⟨d1, d2, ⟨a0, a1, a2, a3, a4, a5, a6, a7, a8, a9, a10, a11, a12, a15, sc, b0, b1, b2, b⟩, d4, d5⟩⟩ := h
  exact ⟨h1, h2, h3, h4, ⟨d1, d2, ⟨a0, rfl, a2, a3, a4, a5, a6, a7, a8, a9, a10, a11, a12, a15, sc, b0, hv, b2, b⟩, d4, d5⟩⟩
theorem ps_rq9 (h : cb_R g σ τ) {v : Int32} (hv : cb_01 v) : cb_R g (cb_up σ 9 1 v) (cb_up τ 3 3 v) := by
  obtain ⟨h1, h2, h3, h4, ⟨d1, d2, d3, ⟨a0, a1, a2, a3, a4, a5, a6, a7, a8, a9, a10, a11, a12, a15, sc, b0, b1, b2, b⟩, d5⟩⟩ := h
  exact ⟨h1, h2, h3, h4, ⟨d1, d2, d3, ⟨a0, rfl, a2, a3, a4, a5, a6, a7, a8, a9, a10, a11, a12, a15, sc, b0, hv, b2, b⟩, d5⟩⟩
theorem pe_r6 (h : cb_R g σ τ) : σ 6 1 = τ 3 0 := h.2.2.2.2.1.2.1
theorem pe_r7 (h : cb_R g σ τ) : σ 7 1 = τ 3 1 := h.2.2.2.2.2.1.2.1
theorem pe_r8 (h : cb_R g σ τ) : σ 8 1 = τ 3 2 := h.2.2.2.2.2.2.1.2.1
theorem pe_r9 (h : cb_R g σ τ) : σ 9 1 = τ 3 3 := h.2.2.2.2.2.2.2.1.2.1
theorem ps_wake (h : cb_R g σ τ) (h8 : σ 3 8 = 0) : cb_R g (cb_up σ 3 7 0) (cb_up τ 0 7 0) := by
  obtain ⟨h1, h2, h3, ⟨a1, a2, a3, a4⟩, h5⟩ := h
  exact ⟨h1, h2, h3, ⟨a1, a2, Or.inr (Or.inr ⟨h8, rfl, rfl⟩), a4⟩, h5⟩
theorem ps_ack (h : cb_R g σ τ) : cb_R g (cb_up σ 3 12 (σ 3 12 + 1)) (cb_up τ 25 2 (τ 25 2 + 1)) := by
  obtain ⟨h1, h2, h3, ⟨a1, a2, a3, a4, a5, a6, a7, a8⟩, h5⟩ := h
  refine ⟨h1, h2, h3, ⟨a1, a2, a3, a4, a5, ?_, a7, a8⟩, h5⟩
  show σ 3 12 + 1 = τ 25 2 + 1
  rw [a6]
theorem c_push_x {σ1 : cb_S} {v x : Int32} (e : c_Processor_push σ v = some σ1) : c_Processor_push (cb_up σ 3 12 x) v = some (cb_up σ1 3 12 x) ∧ σ1 3 12 = σ 3 12 := by
  obtain ⟨s, hs⟩ : ∃ s, s = (σ 10 2 - 2) &&& 65535 := ⟨_, rfl⟩
  have w : ∀ ρ : cb_S, ρ 10 2 = σ 10 2 → c_Processor_push ρ v = some (cb_up (cb_up (cb_up ρ 10 2 s) 4 (s &&& 1023).toNatClampNeg (v &&& 255)) 4 ((s + 1) &&& 1023).toNatClampNeg ((v >>> ((8 : Int32) &&& 31)) &&& 255)) := by
    intro ρ hρ
    unfold c_Processor_push
    rw [hρ, ← hs]
    rfl
  rw [w σ rfl] at e
  have e := Option.some.inj e
  constructor
  · rw [w _ (show cb_up σ 3 12 x 10 2 = σ 10 2 from rfl), ← e]
    rw [cb_up_cj σ 12 2 x s (show 3 ≠ 10 by decide), cb_up_cj (cb_up σ 10 2 s) 12 _ x _ (show 3 ≠ 4 by decide), cb_up_cj _ 12 _ x _ (show 3 ≠ 4 by decide)]
  · rw [← e]; rfl
/-- what follows once a device has been chosen -/
theorem s_tail (h : cb_R g σ τ) {N j : Nat} {x1 : Int32} (hN : 100 < N) (hj : j ≠ 3) (hv : ∀ {g' : Int32 × Int32 × Int32} {σ' τ' : cb_S}, cb_R g' σ' τ' → m_vectorOf τ' x1 = some (σ' j 3)) : ∃ c σ2 τ2, c < 32 ∧
    (cb_let (cb_up σ 3 12 ((σ 3 12) + (1 : Int32))) fun σ21 => (cb_let (if (σ21 3 6) = (2 : Int32) then (1 : Int32) else (0 : Int32)) fun t24 => (cb_bo (c_Processor_push σ21 (σ21 10 3)) fun σc26 => (if t24 = 0 then (c_Processor_attend_L128 N σc26 t24 (56 : Int32)) else (cb_bo (c_Memory_wordAt σc26 (((σc26 10 4) * (256 : Int32)) + (σc26 j 3))) fun c28 => (c_Processor_attend_L128 N σc26 t24 c28)))))) = some (nI c, σ2) ∧
    (cb_bo (m_push τ (τ 0 3)) fun σc19 => (if (σc19 0 6) = (1 : Int32) then (m_acknowledge_L117 N σc19 (56 : Int32)) else (cb_bo (m_vectorOf σc19 x1) fun c21 => (cb_bo (m_wordAt σc19 (((256 : Int32) * (σc19 0 4)) + c21)) fun c22 => (m_acknowledge_L117 N σc19 c22))))) = some τ2 ∧ cb_R (g.1, g.2.1 + nI c, g.2.2) σ2 τ2 := by
  obtain ⟨σ1, τ1, p1, p2, h1⟩ := s_push h (τ 0 3)
  obtain ⟨p3, p4⟩ := c_push_x (x := σ 3 12 + 1) p1
  have fin : ∀ (y : Int32) (t : Int32) (c : Nat), cb_wo y → c < 32 → nI c = (if t = 0 then (13 : Int32) else (19 : Int32)) → nI c = (if (τ1 0 6) = (1 : Int32) then (13 : Int32) else (19 : Int32)) → ∃ σ2 τ2, c_Processor_attend_L128 N (cb_up σ1 3 12 (σ 3 12 + 1)) t y = some (nI c, σ2) ∧ m_acknowledge_L117 N τ1 y = some τ2 ∧ cb_R (g.1, g.2.1 + nI c, g.2.2) σ2 τ2 := by
    intro y t c hy hc e1 e2
    have h2 := ps_pc (ps_ack h1) hy
    rw [p4] at h2
    obtain ⟨σ2, τ2, q1, q2, q3⟩ := s_spend h2 hN hc
    refine ⟨σ2, τ2, ?_, ?_, q3⟩
    · unfold c_Processor_attend_L128
      rw [cb_let_e, cb_let_e, ← e1, cb_bo_e q1]
    · unfold m_acknowledge_L117
      rw [cb_let_e, cb_let_e]
      have e3 : cb_up τ1 0 3 y 25 2 = τ1 25 2 := rfl
      have e4 : cb_up (cb_up τ1 0 3 y) 25 2 (τ1 25 2 + 1) 0 6 = τ1 0 6 := rfl
      rw [e3, e4, ← e2, cb_up_cj τ1 3 2 y _ (show 0 ≠ 25 by decide), cb_bo_e q2]
  have m1 : σ1 3 6 = τ1 0 6 := h1.2.2.2.1.2.1
  have m0 : σ1 3 6 = σ 3 6 := by
    obtain ⟨s, hs⟩ : ∃ s, s = (σ 10 2 - 2) &&& 65535 := ⟨_, rfl⟩
    have := Option.some.inj p1
    rw [← this]; rfl
  have mm : σ 3 6 = 1 ∨ σ 3 6 = 2 := h.2.2.2.1.2.2.2.2.2.2.2.1
  rw [cb_let_e, cb_let_e]
  have e6 : cb_up σ 3 12 (σ 3 12 + 1) 3 6 = σ 3 6 := rfl
  have e3 : cb_up σ 3 12 (σ 3 12 + 1) 10 3 = τ 0 3 := show σ 10 3 = τ 0 3 from pe_pc h
  rw [e6, e3, cb_bo_e p3, cb_bo_e p2]
  rcases mm with mm | mm
  · have t6 : τ1 0 6 = 1 := by rw [← m1, m0, mm]
    obtain ⟨σ2, τ2, q⟩ := fin 56 0 13 ⟨56, by omega, rfl⟩ (by omega) rfl (by rw [t6]; rfl)
    refine ⟨13, σ2, τ2, by omega, ?_, ?_, q.2.2⟩
    · rw [mm, if_neg (show ¬ (1 : Int32) = 2 by decide), if_pos rfl]; exact q.1
    · rw [t6, if_pos rfl]; exact q.2.1
  · have t6 : τ1 0 6 = 2 := by rw [← m1, m0, mm]
    obtain ⟨w, w1, w2, w3⟩ := s_wordAt h1 ((256 : Int32) * (τ1 0 4) + σ1 j 3)
    obtain ⟨σ2, τ2, q⟩ := fin w 1 19 w3 (by omega) rfl (by rw [t6]; rfl)
    refine ⟨19, σ2, τ2, by omega, ?_, ?_, q.2.2⟩
    · rw [mm, if_pos rfl, if_neg (show ¬ (1 : Int32) = 0 by decide)]
      have e5 : cb_up σ1 3 12 (σ 3 12 + 1) j 3 = σ1 j 3 := by rw [cb_up_ne _ _ _ hj]
      have e4 : cb_up σ1 3 12 (σ 3 12 + 1) 10 4 = τ1 0 4 := show σ1 10 4 = τ1 0 4 from pe_page h1
      have e7 : ∀ x, c_Memory_wordAt (cb_up σ1 3 12 (σ 3 12 + 1)) x = c_Memory_wordAt σ1 x := fun x => rfl
      rw [e5, e4, e7, Int32.mul_comm, cb_bo_e w1]; exact q.1
    · rw [t6, if_neg (show ¬ (2 : Int32) = 1 by decide), cb_bo_e (hv h1), cb_bo_e w2]; exact q.2.1
theorem v_6 (h : cb_R g σ τ) : m_vectorOf τ 0 = some (σ 6 3) := by
  have e : σ 6 3 = τ 0 15 := h.2.2.2.2.2.2.2.2.1
  rw [e]
  show some (τ 0 15 + 2 * 0) = _
  rw [Int32.mul_zero, Int32.add_zero]
theorem v_7 (h : cb_R g σ τ) : m_vectorOf τ 1 = some (σ 7 3) := by
  have e : σ 7 3 = τ 0 15 + 2 := h.2.2.2.2.2.2.2.2.2.1
  rw [e]; rfl
theorem v_8 (h : cb_R g σ τ) : m_vectorOf τ 2 = some (σ 8 3) := by
  have e : σ 8 3 = τ 14 0 := h.2.2.2.2.2.2.1.2.2.2.1
  rw [e]; rfl
theorem v_9 (h : cb_R g σ τ) : m_vectorOf τ 3 = some (σ 9 3) := by
  have e : σ 9 3 = τ 14 1 := h.2.2.2.2.2.2.2.1.2.2.2.1
  rw [e]; rfl
theorem s_take6 (h : cb_R g σ τ) {N : Nat} (hN : 100 < N) (h8 : σ 3 8 = 0) (hq : τ 4 0 = 0) (h5 : ¬ τ 0 5 = 0) : ∃ c σ2 τ2, c < 32 ∧
    (cb_let (cb_up σ 6 1 (0 : Int32)) fun σ13 => (cb_let (cb_up σ13 6 2 (1 : Int32)) fun σ15 => (cb_let (cb_up σ15 3 5 (0 : Int32)) fun σ17 => (cb_let (cb_up σ17 3 7 (0 : Int32)) fun σ19 => (cb_let (cb_up σ19 3 12 ((σ19 3 12) + (1 : Int32))) fun σ21 => (cb_let (if (σ21 3 6) = (2 : Int32) then (1 : Int32) else (0 : Int32)) fun t24 => (cb_bo (c_Processor_push σ21 (σ21 10 3)) fun σc26 => (if t24 = 0 then (c_Processor_attend_L128 N σc26 t24 (56 : Int32)) else (cb_bo (c_Memory_wordAt σc26 (((σc26 10 4) * (256 : Int32)) + (σc26 6 3))) fun c28 => (c_Processor_attend_L128 N σc26 t24 c28)))))))))) = some (nI c, σ2) ∧
    m_acknowledge_L31 N τ (0 : Int32) = some τ2 ∧ cb_R (g.1, g.2.1 + nI c, g.2.2) σ2 τ2 := by
  have h1 := ps_wake (ps_iff (ps_srv6 (ps_rq6 h (v := 0) (Or.inl rfl)) (v := 1) (Or.inr rfl)) (v := 0) (Or.inl rfl)) h8
  obtain ⟨c, σ2, τ2, hc, q1, q2, q3⟩ := s_tail h1 (N := N) (j := 6) (x1 := 0) hN (by decide) (fun h => v_6 h)
  refine ⟨c, σ2, τ2, hc, q1, ?_, q3⟩
  unfold m_acknowledge_L31
  rw [if_neg h5, if_neg (show ¬ (0 : Int32) = 4 by decide), cb_gd_e (show cb_in (0 : Int32) 4 = true by decide)]
  have e : ((0 : Int32)).toNatClampNeg = 0 := by decide
  rw [e, if_pos hq]
  exact q2
theorem s_take7 (h : cb_R g σ τ) {N : Nat} (hN : 100 < N) (h8 : σ 3 8 = 0) (hq : τ 4 1 = 0) (h5 : ¬ τ 0 5 = 0) : ∃ c σ2 τ2, c < 32 ∧
    (cb_let (cb_up σ 7 1 (0 : Int32)) fun σ13 => (cb_let (cb_up σ13 7 2 (1 : Int32)) fun σ15 => (cb_let (cb_up σ15 3 5 (0 : Int32)) fun σ17 => (cb_let (cb_up σ17 3 7 (0 : Int32)) fun σ19 => (cb_let (cb_up σ19 3 12 ((σ19 3 12) + (1 : Int32))) fun σ21 => (cb_let (if (σ21 3 6) = (2 : Int32) then (1 : Int32) else (0 : Int32)) fun t24 => (cb_bo (c_Processor_push σ21 (σ21 10 3)) fun σc26 => (if t24 = 0 then (c_Processor_attend_L128 N σc26 t24 (56 : Int32)) else (cb_bo (c_Memory_wordAt σc26 (((σc26 10 4) * (256 : Int32)) + (σc26 7 3))) fun c28 => (c_Processor_attend_L128 N σc26 t24 c28)))))))))) = some (nI c, σ2) ∧
    m_acknowledge_L31 N τ (1 : Int32) = some τ2 ∧ cb_R (g.1, g.2.1 + nI c, g.2.2) σ2 τ2 := by
  have h1 := ps_wake (ps_iff (ps_srv7 (ps_rq7 h (v := 0) (Or.inl rfl)) (v := 1) (Or.inr rfl)) (v := 0) (Or.inl rfl)) h8
  obtain ⟨c, σ2, τ2, hc, q1, q2, q3⟩ := s_tail h1 (N := N) (j := 7) (x1 := 1) hN (by decide) (fun h => v_7 h)
  refine ⟨c, σ2, τ2, hc, q1, ?_, q3⟩
  unfold m_acknowledge_L31
  rw [if_neg h5, if_neg (show ¬ (1 : Int32) = 4 by decide), cb_gd_e (show cb_in (1 : Int32) 4 = true by decide)]
  have e : ((1 : Int32)).toNatClampNeg = 1 := by decide
  rw [e, if_pos hq]
  exact q2
theorem s_take8 (h : cb_R g σ τ) {N : Nat} (hN : 100 < N) (h8 : σ 3 8 = 0) (hq : τ 4 2 = 0) (h5 : ¬ τ 0 5 = 0) : ∃ c σ2 τ2, c < 32 ∧
    (cb_let (cb_up σ 8 1 (0 : Int32)) fun σ13 => (cb_let (cb_up σ13 8 2 (1 : Int32)) fun σ15 => (cb_let (cb_up σ15 3 5 (0 : Int32)) fun σ17 => (cb_let (cb_up σ17 3 7 (0 : Int32)) fun σ19 => (cb_let (cb_up σ19 3 12 ((σ19 3 12) + (1 : Int32))) fun σ21 => (cb_let (if (σ21 3 6) = (2 : Int32) then (1 : Int32) else (0 : Int32)) fun t24 => (cb_bo (c_Processor_push σ21 (σ21 10 3)) fun σc26 => (if t24 = 0 then (c_Processor_attend_L128 N σc26 t24 (56 : Int32)) else (cb_bo (c_Memory_wordAt σc26 (((σc26 10 4) * (256 : Int32)) + (σc26 8 3))) fun c28 => (c_Processor_attend_L128 N σc26 t24 c28)))))))))) = some (nI c, σ2) ∧
    m_acknowledge_L31 N τ (2 : Int32) = some τ2 ∧ cb_R (g.1, g.2.1 + nI c, g.2.2) σ2 τ2 := by
  have h1 := ps_wake (ps_iff (ps_srv8 (ps_rq8 h (v := 0) (Or.inl rfl)) (v := 1) (Or.inr rfl)) (v := 0) (Or.inl rfl)) h8
  obtain ⟨c, σ2, τ2, hc, q1, q2, q3⟩ := s_tail h1 (N := N) (j := 8) (x1 := 2) hN (by decide) (fun h => v_8 h)
  refine ⟨c, σ2, τ2, hc, q1, ?_, q3⟩
  unfold m_acknowledge_L31
  rw [if_neg h5, if_neg (show ¬ (2 : Int32) = 4 by decide), cb_gd_e (show cb_in (2 : Int32) 4 = true by decide)]
  have e : ((2 : Int32)).toNatClampNeg = 2 := by decide
  rw [e, if_pos hq]
  exact q2
theorem s_take9 (h : cb_R g σ τ) {N : Nat} (hN : 100 < N) (h8 : σ 3 8 = 0) (hq : τ 4 3 = 0) (h5 : ¬ τ 0 5 = 0) : ∃ c σ2 τ2, c < 32 ∧
    (cb_let (cb_up σ 9 1 (0 : Int32)) fun σ13 => (cb_let (cb_up σ13 9 2 (1 : Int32)) fun σ15 => (cb_let (cb_up σ15 3 5 (0 : Int32)) fun σ17 => (cb_let (cb_up σ17 3 7 (0 : Int32)) fun σ19 => (cb_let (cb_up σ19 3 12 ((σ19 3 12) + (1 : Int32))) fun σ21 => (cb_let (if (σ21 3 6) = (2 : Int32) then (1 : Int32) else (0 : Int32)) fun t24 => (cb_bo (c_Processor_push σ21 (σ21 10 3)) fun σc26 => (if t24 = 0 then (c_Processor_attend_L128 N σc26 t24 (56 : Int32)) else (cb_bo (c_Memory_wordAt σc26 (((σc26 10 4) * (256 : Int32)) + (σc26 9 3))) fun c28 => (c_Processor_attend_L128 N σc26 t24 c28)))))))))) = some (nI c, σ2) ∧
    m_acknowledge_L31 N τ (3 : Int32) = some τ2 ∧ cb_R (g.1, g.2.1 + nI c, g.2.2) σ2 τ2 := by
  have h1 := ps_wake (ps_iff (ps_srv9 (ps_rq9 h (v := 0) (Or.inl rfl)) (v := 1) (Or.inr rfl)) (v := 0) (Or.inl rfl)) h8
  obtain ⟨c, σ2, τ2, hc, q1, q2, q3⟩ := s_tail h1 (N := N) (j := 9) (x1 := 3) hN (by decide) (fun h => v_9 h)
  refine ⟨c, σ2, τ2, hc, q1, ?_, q3⟩
  unfold m_acknowledge_L31
  rw [if_neg h5, if_neg (show ¬ (3 : Int32) = 4 by decide), cb_gd_e (show cb_in (3 : Int32) 4 = true by decide)]
  have e : ((3 : Int32)).toNatClampNeg = 3 := by decide
  rw [e, if_pos hq]
  exact q2
theorem m_none {N : Nat} {x : Int32} (e : x = 4 ∨ (cb_in x 4 = true ∧ ¬ τ 4 x.toNatClampNeg = 0)) : m_acknowledge_L31 N τ x = some τ := by
  unfold m_acknowledge_L31
  by_cases h5 : τ 0 5 = 0
  · rw [if_pos h5]
  · rw [if_neg h5]
    by_cases h4 : x = 4
    · rw [if_pos h4]
    · rw [if_neg h4]
      rcases e with e | ⟨e1, e2⟩
      · exact absurd e h4
      · rw [cb_gd_e e1, if_neg e2]
theorem m_off {N : Nat} (e : τ 0 5 = 0) : m_acknowledge N τ = some τ := by
  have w : ∀ x, m_acknowledge_L31 N τ x = some τ := fun x => by unfold m_acknowledge_L31; rw [if_pos e]
  unfold m_acknowledge
  simp only [w]
  repeat' split
  all_goals rfl
theorem s_att (h : cb_R g σ τ) {N : Nat} (hN : 100 < N) (h8 : g.2.2 = 0) (h9 : g.1 = 0) : ∃ c σ2 τ2, c < 32 ∧ c_Processor_attend N σ = some (nI c, σ2) ∧ m_acknowledge N τ = some τ2 ∧ cb_R (g.1, g.2.1 + nI c, g.2.2) σ2 τ2 := by
  obtain ⟨x9, -, x8⟩ := ps_g1 h
  rw [h9] at x9
  rw [h8] at x8
  have x5 : σ 3 5 = τ 0 5 := h.2.2.2.1.1
  have still : cb_R (g.1, g.2.1 + nI 0, g.2.2) σ τ := by
    rw [show nI 0 = 0 from rfl, Int32.add_zero]; exact h
  unfold c_Processor_attend
  by_cases e5 : τ 0 5 = 0
  · rw [x5, if_pos e5, m_off e5]
    exact ⟨0, σ, τ, by omega, rfl, rfl, still⟩
  · rw [x5, if_neg e5, x9, if_pos rfl, x8, if_pos rfl]
    unfold c_Chain_firstToAttend m_acknowledge
    rw [pe_s6 h, pe_s7 h, pe_s8 h, pe_s9 h, pe_r6 h, pe_r7 h, pe_r8 h, pe_r9 h]
    by_cases s0 : τ 4 0 = 0
    · rw [if_pos s0]
      by_cases r0 : τ 3 0 = 0
      · rw [if_pos r0, if_pos r0, if_pos s0]
        by_cases s1 : τ 4 1 = 0
        · rw [if_pos s1]
          by_cases r1 : τ 3 1 = 0
          · rw [if_pos r1, if_pos r1, if_pos s1]
            by_cases s2 : τ 4 2 = 0
            · rw [if_pos s2]
              by_cases r2 : τ 3 2 = 0
              · rw [if_pos r2, if_pos r2, if_pos s2]
                by_cases s3 : τ 4 3 = 0
                · rw [if_pos s3]
                  by_cases r3 : τ 3 3 = 0
                  · rw [if_pos r3, if_pos r3, if_pos s3]
                    refine ⟨0, σ, τ, by omega, rfl, ?_, still⟩
                    exact m_none (Or.inl rfl)
                  · rw [if_neg r3, if_neg r3]
                    exact s_take9 h hN x8 s3 e5
                · rw [if_neg s3, if_neg s3]
                  refine ⟨0, σ, τ, by omega, rfl, ?_, still⟩
                  have w : m_acknowledge_L31 N τ (3 : Int32) = some τ := m_none (Or.inr ⟨by decide, s3⟩)
                  rw [w]
                  split <;> rfl
              · rw [if_neg r2, if_neg r2]
                exact s_take8 h hN x8 s2 e5
            · rw [if_neg s2, if_neg s2]
              refine ⟨0, σ, τ, by omega, rfl, ?_, still⟩
              have w : m_acknowledge_L31 N τ (2 : Int32) = some τ := m_none (Or.inr ⟨by decide, s2⟩)
              rw [w]
              split <;> rfl
          · rw [if_neg r1, if_neg r1]
            exact s_take7 h hN x8 s1 e5
        · rw [if_neg s1, if_neg s1]
          refine ⟨0, σ, τ, by omega, rfl, ?_, still⟩
          have w : m_acknowledge_L31 N τ (1 : Int32) = some τ := m_none (Or.inr ⟨by decide, s1⟩)
          rw [w]
          split <;> rfl
      · rw [if_neg r0, if_neg r0]
        exact s_take6 h hN x8 s0 e5
    · rw [if_neg s0, if_neg s0]
      refine ⟨0, σ, τ, by omega, rfl, ?_, still⟩
      have w : m_acknowledge_L31 N τ (0 : Int32) = some τ := m_none (Or.inr ⟨by decide, s0⟩)
      rw [w]
      split <;> rfl
theorem s_att1 {N : Nat} (h9 : σ 3 9 = 1 ∨ σ 3 8 = 1) : c_Processor_attend N σ = some (nI 0, σ) := by
  unfold c_Processor_attend
  by_cases e5 : σ 3 5 = 0
  · rw [if_pos e5]; rfl
  · rw [if_neg e5]
    by_cases e9 : σ 3 9 = 0
    · rw [if_pos e9]
      rcases h9 with x | x
      · rw [x] at e9; exact absurd e9 (by decide)
      · rw [x, if_neg (show ¬ (1 : Int32) = 0 by decide)]; rfl
    · rw [if_neg e9]; rfl
end P25
