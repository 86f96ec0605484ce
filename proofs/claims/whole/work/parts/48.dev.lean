/-! devices: requests, the ports' watch, output and input, both sides -/
section P19
variable {g : Int32 × Int32 × Int32} {σ τ : cb_S}
theorem i01 {c : Prop} [Decidable c] : cb_01 (if c then (0 : Int32) else 1) := by
  by_cases h : c
  · rw [if_pos h]; exact Or.inl rfl
  · rw [if_neg h]; exact Or.inr rfl
theorem i10 {c : Prop} [Decidable c] : cb_01 (if c then (1 : Int32) else 0) := by
  by_cases h : c
  · rw [if_pos h]; exact Or.inr rfl
  · rw [if_neg h]; exact Or.inl rfl
theorem z01 {x : Int32} (h : cb_01 x) : (if x = 0 then (0 : Int32) else 1) = x := by
  rcases h with rfl | rfl <;> rfl
theorem s127b : ∀ b, b < 256 → (if nI b ≤ (127 : Int32) then (0 : Int32) else 1) = if nI b &&& 128 = 0 then 0 else 1 := by decide +kernel
theorem md_by : ∀ b, b < 256 → cb_by (if (nI b >>> ((6 : Int32) &&& 31)) = 2 then (3 : Int32) else (nI b >>> ((6 : Int32) &&& 31))) := by
  intro b hb
  rw [q_x hb]
  by_cases h : nI (b / 64) = 2
  · rw [if_pos h]; exact ⟨3, by omega, rfl⟩
  · rw [if_neg h]; exact ⟨b / 64, by omega, rfl⟩
theorem by_and {x y : Int32} (h : cb_by x) : cb_by (x &&& y) := by
  rw [← by_255 h, Int32.and_assoc, Int32.and_comm 255, ← Int32.and_assoc]; exact cb_255 _
theorem by_m {x y : Int32} (h : cb_by x) : (x &&& y) &&& 255 = x &&& y := by_255 (by_and h)

theorem s_rq6 (h : cb_R g σ τ) : cb_Sv (c_Device_request 6 σ) (m_request τ (nI 0)) (cb_R g) := by
  obtain ⟨h1, h2, h3, h4, ⟨⟨a0, a1, a2, a4, a5, a6, a7, a8, a10, sc, b0, b1, b2, b7, b8, b10⟩, d7, d8, d9, v1, v2, v3⟩⟩ := h
  have w : m_request τ (nI 0) = if τ 5 0 = 0 then some τ else some (cb_up τ 3 0 1) := rfl
  have w2 : c_Device_request 6 σ = if σ 6 0 = 0 then some σ else some (cb_up σ 6 1 1) := rfl
  rw [w, w2, a0]
  by_cases e : τ 5 0 = 0
  · rw [if_pos e, if_pos e]
    exact ⟨σ, τ, rfl, rfl, ⟨h1, h2, h3, h4, ⟨⟨a0, a1, a2, a4, a5, a6, a7, a8, a10, sc, b0, b1, b2, b7, b8, b10⟩, d7, d8, d9, v1, v2, v3⟩⟩⟩
  · rw [if_neg e, if_neg e]
    exact ⟨_, _, rfl, rfl, ⟨h1, h2, h3, h4, ⟨⟨a0, rfl, a2, a4, a5, a6, a7, a8, a10, sc, b0, Or.inr rfl, b2, b7, b8, b10⟩, d7, d8, d9, v1, v2, v3⟩⟩⟩

theorem s_rq7 (h : cb_R g σ τ) : cb_Sv (c_Device_request 7 σ) (m_request τ (nI 1)) (cb_R g) := by
  obtain ⟨h1, h2, h3, h4, ⟨d6, ⟨a0, a1, a2, a4, a5, a6, a7, a8, a10, sc, b0, b1, b2, b7, b8, b10⟩, d8, d9, v1, v2, v3⟩⟩ := h
  have w : m_request τ (nI 1) = if τ 5 1 = 0 then some τ else some (cb_up τ 3 1 1) := rfl
  have w2 : c_Device_request 7 σ = if σ 7 0 = 0 then some σ else some (cb_up σ 7 1 1) := rfl
  rw [w, w2, a0]
  by_cases e : τ 5 1 = 0
  · rw [if_pos e, if_pos e]
    exact ⟨σ, τ, rfl, rfl, ⟨h1, h2, h3, h4, ⟨d6, ⟨a0, a1, a2, a4, a5, a6, a7, a8, a10, sc, b0, b1, b2, b7, b8, b10⟩, d8, d9, v1, v2, v3⟩⟩⟩
  · rw [if_neg e, if_neg e]
    exact ⟨_, _, rfl, rfl, ⟨h1, h2, h3, h4, ⟨d6, ⟨a0, rfl, a2, a4, a5, a6, a7, a8, a10, sc, b0, Or.inr rfl, b2, b7, b8, b10⟩, d8, d9, v1, v2, v3⟩⟩⟩

theorem s_rq8 (h : cb_R g σ τ) : cb_Sv (c_Device_request 8 σ) (m_request τ (nI 2)) (cb_R g) := by
  obtain ⟨h1, h2, h3, h4, ⟨d6, d7, ⟨a0, a1, a2, a3, a4, a5, a6, a7, a8, a9, a10, a11, a12, a15, sc, b0, b1, b2, b3, b4, b5, b6, b7, b8, b9, b10, b11, b12, b15⟩, d9, v1, v2, v3⟩⟩ := h
  have w : m_request τ (nI 2) = if τ 5 2 = 0 then some τ else some (cb_up τ 3 2 1) := rfl
  have w2 : c_Device_request 8 σ = if σ 8 0 = 0 then some σ else some (cb_up σ 8 1 1) := rfl
  rw [w, w2, a0]
  by_cases e : τ 5 2 = 0
  · rw [if_pos e, if_pos e]
    exact ⟨σ, τ, rfl, rfl, ⟨h1, h2, h3, h4, ⟨d6, d7, ⟨a0, a1, a2, a3, a4, a5, a6, a7, a8, a9, a10, a11, a12, a15, sc, b0, b1, b2, b3, b4, b5, b6, b7, b8, b9, b10, b11, b12, b15⟩, d9, v1, v2, v3⟩⟩⟩
  · rw [if_neg e, if_neg e]
    exact ⟨_, _, rfl, rfl, ⟨h1, h2, h3, h4, ⟨d6, d7, ⟨a0, rfl, a2, a3, a4, a5, a6, a7, a8, a9, a10, a11, a12, a15, sc, b0, Or.inr rfl, b2, b3, b4, b5, b6, b7, b8, b9, b10, b11, b12, b15⟩, d9, v1, v2, v3⟩⟩⟩

theorem s_rq9 (h : cb_R g σ τ) : cb_Sv (c_Device_request 9 σ) (m_request τ (nI 3)) (cb_R g) := by
  obtain ⟨h1, h2, h3, h4, ⟨d6, d7, d8, ⟨a0, a1, a2, a3, a4, a5, a6, a7, a8, a9, a10, a11, a12, a15, sc, b0, b1, b2, b3, b4, b5, b6, b7, b8, b9, b10, b11, b12, b15⟩, v1, v2, v3⟩⟩ := h
  have w : m_request τ (nI 3) = if τ 5 3 = 0 then some τ else some (cb_up τ 3 3 1) := rfl
  have w2 : c_Device_request 9 σ = if σ 9 0 = 0 then some σ else some (cb_up σ 9 1 1) := rfl
  rw [w, w2, a0]
  by_cases e : τ 5 3 = 0
  · rw [if_pos e, if_pos e]
    exact ⟨σ, τ, rfl, rfl, ⟨h1, h2, h3, h4, ⟨d6, d7, d8, ⟨a0, a1, a2, a3, a4, a5, a6, a7, a8, a9, a10, a11, a12, a15, sc, b0, b1, b2, b3, b4, b5, b6, b7, b8, b9, b10, b11, b12, b15⟩, v1, v2, v3⟩⟩⟩
  · rw [if_neg e, if_neg e]
    exact ⟨_, _, rfl, rfl, ⟨h1, h2, h3, h4, ⟨d6, d7, d8, ⟨a0, rfl, a2, a3, a4, a5, a6, a7, a8, a9, a10, a11, a12, a15, sc, b0, Or.inr rfl, b2, b3, b4, b5, b6, b7, b8, b9, b10, b11, b12, b15⟩, v1, v2, v3⟩⟩⟩

theorem s_up24_8 (h : cb_R g σ τ) {v : Int32} (hv : cb_01 v) : cb_R g (cb_up σ 8 15 v) (cb_up τ 24 0 v) := by
  obtain ⟨h1, h2, h3, h4, ⟨d6, d7, ⟨a0, a1, a2, a3, a4, a5, a6, a7, a8, a9, a10, a11, a12, a15, sc, b0, b1, b2, b3, b4, b5, b6, b7, b8, b9, b10, b11, b12, b15⟩, d9, v1, v2, v3⟩⟩ := h
  exact ⟨h1, h2, h3, h4, ⟨d6, d7, ⟨a0, a1, a2, a3, a4, a5, a6, a7, a8, a9, a10, a11, a12, rfl, sc, b0, b1, b2, b3, b4, b5, b6, b7, b8, b9, b10, b11, b12, hv⟩, d9, v1, v2, v3⟩⟩
theorem s_look8 (h : cb_R g σ τ) : cb_Sv (c_Port_look 8 σ) (m_watch τ (nI 0)) (cb_R g) := by
  have H := h
  obtain ⟨h1, h2, h3, h4, ⟨d6, d7, ⟨a0, a1, a2, a3, a4, a5, a6, a7, a8, a9, a10, a11, a12, a15, sc, b0, b1, b2, b3, b4, b5, b6, b7, b8, b9, b10, b11, b12, b15⟩, d9, v1, v2, v3⟩⟩ := h
  obtain ⟨t, ht⟩ : ∃ t, t = σ 8 9 &&& (σ 8 10 ^^^ (-1)) := ⟨_, rfl⟩
  obtain ⟨k, hk⟩ : ∃ k, k = if σ 8 4 = 3 then (if t = 0 then (0 : Int32) else (if σ 8 11 = 0 then (if ((if σ 8 12 = 0 then (σ 8 8 ^^^ (-1)) else σ 8 8) &&& t) = 0 then 0 else 1) else (if ((if σ 8 12 = 0 then (σ 8 8 ^^^ (-1)) else σ 8 8) &&& t) = t then 1 else 0))) else 0 := ⟨_, rfl⟩
  have k01 : cb_01 k := by
    rw [hk]
    split
    · split
      · exact Or.inl rfl
      · split
        · exact i01
        · exact i10
    · exact Or.inl rfl
  have eh : c_Port_holds 8 σ = some k := by
    unfold c_Port_holds
    rw [cb_let_e, ← ht, hk]
    split
    · split
      · rfl
      · rfl
    · rfl
  have et : (τ 16 0 &&& (τ 17 0 ^^^ (-1))) &&& 255 = t := by rw [← a9, ← a10, by_m b9, ht]
  have ew : m_watch τ (nI 0) = cb_let ((τ 16 0 &&& (τ 17 0 ^^^ (-1))) &&& 255) fun t6 => cb_let ((if τ 19 0 = 0 then (τ 23 0 ^^^ (-1)) else τ 23 0) &&& t6) fun t9 => cb_let (if τ 13 0 = 3 then (if t6 = 0 then (0 : Int32) else (if τ 18 0 = 0 then (if t9 = 0 then (0 : Int32) else 1) else (if t9 = t6 then (1 : Int32) else 0))) else 0) fun t16 => if t16 = 0 then m_watch_L112 (nI 0) τ t16 else (if τ 24 0 = 0 then cb_bo (m_request τ (nI 2)) fun τ20 => m_watch_L112 (nI 0) τ20 t16 else m_watch_L112 (nI 0) τ t16) := rfl
  have el : ∀ τ x, cb_01 x → m_watch_L112 (nI 0) τ x = some (cb_up τ 24 0 x) := by
    intro τ x hx
    unfold m_watch_L112
    rw [cb_gd_e (show cb_in (nI 0) 2 = true from rfl), cb_gd_e (show x = 0 ∨ x = 1 from hx)]
    rfl
  rw [ew, et]
  simp only [cb_let_e]
  rw [← a12, ← a8, ← a4, ← a11, ← hk, el _ _ k01, ← a15]
  unfold c_Port_look
  rw [cb_let_e, cb_bo_e eh, cb_gd_e (show k = 0 ∨ k = 1 from k01), cb_let_e]
  have e5 : cb_up σ 8 15 k 8 15 = k := rfl
  rw [e5]
  by_cases e : k = 0
  · rw [if_pos e, if_pos e]
    exact ⟨_, _, rfl, rfl, s_up24_8 H k01⟩
  · rw [if_neg e, if_neg e]
    by_cases e2 : σ 8 15 = 0
    · rw [if_pos e2, if_pos e2]
      obtain ⟨σ1, τ1, q1, q2, q3⟩ := s_rq8 H
      have q4 : c_Device_request 8 (cb_up σ 8 15 k) = some (cb_up σ1 8 15 k) := by
        have w2 : ∀ σ, c_Device_request 8 σ = if σ 8 0 = 0 then some σ else some (cb_up σ 8 1 1) := fun σ => rfl
        have w3 : cb_up σ 8 15 k 8 0 = σ 8 0 := rfl
        rw [w2] at q1 ⊢
        rw [w3]
        by_cases e3 : σ 8 0 = 0
        · rw [if_pos e3] at q1 ⊢
          rw [Option.some.inj q1]
        · rw [if_neg e3] at q1 ⊢
          rw [← Option.some.inj q1, cb_up_cm _ _ _ _ (by decide)]
      rw [cb_bo_e q4, cb_bo_e q2, el _ _ k01]
      exact ⟨_, _, rfl, rfl, s_up24_8 q3 k01⟩
    · rw [if_neg e2, if_neg e2]
      exact ⟨_, _, rfl, rfl, s_up24_8 H k01⟩

theorem s_up24_9 (h : cb_R g σ τ) {v : Int32} (hv : cb_01 v) : cb_R g (cb_up σ 9 15 v) (cb_up τ 24 1 v) := by
  obtain ⟨h1, h2, h3, h4, ⟨d6, d7, d8, ⟨a0, a1, a2, a3, a4, a5, a6, a7, a8, a9, a10, a11, a12, a15, sc, b0, b1, b2, b3, b4, b5, b6, b7, b8, b9, b10, b11, b12, b15⟩, v1, v2, v3⟩⟩ := h
  exact ⟨h1, h2, h3, h4, ⟨d6, d7, d8, ⟨a0, a1, a2, a3, a4, a5, a6, a7, a8, a9, a10, a11, a12, rfl, sc, b0, b1, b2, b3, b4, b5, b6, b7, b8, b9, b10, b11, b12, hv⟩, v1, v2, v3⟩⟩
theorem s_look9 (h : cb_R g σ τ) : cb_Sv (c_Port_look 9 σ) (m_watch τ (nI 1)) (cb_R g) := by
  have H := h
  obtain ⟨h1, h2, h3, h4, ⟨d6, d7, d8, ⟨a0, a1, a2, a3, a4, a5, a6, a7, a8, a9, a10, a11, a12, a15, sc, b0, b1, b2, b3, b4, b5, b6, b7, b8, b9, b10, b11, b12, b15⟩, v1, v2, v3⟩⟩ := h
  obtain ⟨t, ht⟩ : ∃ t, t = σ 9 9 &&& (σ 9 10 ^^^ (-1)) := ⟨_, rfl⟩
  obtain ⟨k, hk⟩ : ∃ k, k = if σ 9 4 = 3 then (if t = 0 then (0 : Int32) else (if σ 9 11 = 0 then (if ((if σ 9 12 = 0 then (σ 9 8 ^^^ (-1)) else σ 9 8) &&& t) = 0 then 0 else 1) else (if ((if σ 9 12 = 0 then (σ 9 8 ^^^ (-1)) else σ 9 8) &&& t) = t then 1 else 0))) else 0 := ⟨_, rfl⟩
  have k01 : cb_01 k := by
    rw [hk]
    split
    · split
      · exact Or.inl rfl
      · split
        · exact i01
        · exact i10
    · exact Or.inl rfl
  have eh : c_Port_holds 9 σ = some k := by
    unfold c_Port_holds
    rw [cb_let_e, ← ht, hk]
    split
    · split
      · rfl
      · rfl
    · rfl
  have et : (τ 16 1 &&& (τ 17 1 ^^^ (-1))) &&& 255 = t := by rw [← a9, ← a10, by_m b9, ht]
  have ew : m_watch τ (nI 1) = cb_let ((τ 16 1 &&& (τ 17 1 ^^^ (-1))) &&& 255) fun t6 => cb_let ((if τ 19 1 = 0 then (τ 23 1 ^^^ (-1)) else τ 23 1) &&& t6) fun t9 => cb_let (if τ 13 1 = 3 then (if t6 = 0 then (0 : Int32) else (if τ 18 1 = 0 then (if t9 = 0 then (0 : Int32) else 1) else (if t9 = t6 then (1 : Int32) else 0))) else 0) fun t16 => if t16 = 0 then m_watch_L112 (nI 1) τ t16 else (if τ 24 1 = 0 then cb_bo (m_request τ (nI 3)) fun τ20 => m_watch_L112 (nI 1) τ20 t16 else m_watch_L112 (nI 1) τ t16) := rfl
  have el : ∀ τ x, cb_01 x → m_watch_L112 (nI 1) τ x = some (cb_up τ 24 1 x) := by
    intro τ x hx
    unfold m_watch_L112
    rw [cb_gd_e (show cb_in (nI 1) 2 = true from rfl), cb_gd_e (show x = 0 ∨ x = 1 from hx)]
    rfl
  rw [ew, et]
  simp only [cb_let_e]
  rw [← a12, ← a8, ← a4, ← a11, ← hk, el _ _ k01, ← a15]
  unfold c_Port_look
  rw [cb_let_e, cb_bo_e eh, cb_gd_e (show k = 0 ∨ k = 1 from k01), cb_let_e]
  have e5 : cb_up σ 9 15 k 9 15 = k := rfl
  rw [e5]
  by_cases e : k = 0
  · rw [if_pos e, if_pos e]
    exact ⟨_, _, rfl, rfl, s_up24_9 H k01⟩
  · rw [if_neg e, if_neg e]
    by_cases e2 : σ 9 15 = 0
    · rw [if_pos e2, if_pos e2]
      obtain ⟨σ1, τ1, q1, q2, q3⟩ := s_rq9 H
      have q4 : c_Device_request 9 (cb_up σ 9 15 k) = some (cb_up σ1 9 15 k) := by
        have w2 : ∀ σ, c_Device_request 9 σ = if σ 9 0 = 0 then some σ else some (cb_up σ 9 1 1) := fun σ => rfl
        have w3 : cb_up σ 9 15 k 9 0 = σ 9 0 := rfl
        rw [w2] at q1 ⊢
        rw [w3]
        by_cases e3 : σ 9 0 = 0
        · rw [if_pos e3] at q1 ⊢
          rw [Option.some.inj q1]
        · rw [if_neg e3] at q1 ⊢
          rw [← Option.some.inj q1, cb_up_cm _ _ _ _ (by decide)]
      rw [cb_bo_e q4, cb_bo_e q2, el _ _ k01]
      exact ⟨_, _, rfl, rfl, s_up24_9 q3 k01⟩
    · rw [if_neg e2, if_neg e2]
      exact ⟨_, _, rfl, rfl, s_up24_9 H k01⟩

end P19
