/-! the face, both sides -/
section P27
variable {g : Int32 × Int32 × Int32} {σ τ : cb_S}
def cb_Tv (_ : Int32) : Prop := True
theorem cb_Se_id {x y : Option Int32} {P : Int32 → Prop} (h : cb_Se x y P) : cb_Se (cb_bo x fun c => some c) (cb_bo y fun c => some c) cb_Tv := by
  obtain ⟨r, h1, h2, -⟩ := h
  exact ⟨r, by rw [h1]; rfl, by rw [h2]; rfl, trivial⟩
theorem cb_E1 {x y : Option cb_S} (h : cb_Sv x y (cb_R g)) : cb_Sm (cb_bo x fun σ => some ((1 : Int32), σ)) (cb_bo y fun σ => some ((1 : Int32), σ)) cb_Ev := by
  obtain ⟨σ, τ, h1, h2, h3⟩ := h
  exact ⟨1, σ, τ, by rw [h1]; rfl, by rw [h2]; rfl, g, h3⟩
theorem q_mem {n : Nat} (h : n < 1024) : nI n &&& 1023 = nI n := by
  rw [pk_andN (by omega) 10 (m := 1023) (by decide +kernel), Nat.mod_eq_of_lt (by omega)]
theorem c_pb {n : Nat} {v : Int32} (h : n < 1024) : c_Memory_putByte σ (nI n) v = some (cb_up σ 4 (nI n).toNatClampNeg (v &&& 255)) := by
  unfold c_Memory_putByte
  rw [q_mem h, cb_let_e]
theorem s_poke (h : cb_R g σ τ) (v1 v2 : Int32) : cb_Sm (c_Board_poke σ v1 v2) (m_poke τ v1 v2) cb_Ev := by
  unfold c_Board_poke m_poke
  by_cases e : v1 < 0
  · rw [if_pos e, if_pos e]; exact ⟨_, _, _, rfl, rfl, _, h⟩
  · rw [if_neg e, if_neg e]
    obtain ⟨n, hn, rfl⟩ := nI_of e
    by_cases e1 : n < 1024
    · have a1 : nI n < 1024 := nI_lt (b := 1024) e1 (by omega)
      have a2 : nI n ≤ 1023 := nI_le (b := 1023) (by omega) (by omega)
      rw [if_pos a1, if_pos a2, cb_gd_e (cb_in_n e1 (by omega)), cb_let_e, c_pb e1, cb_bo_some]
      exact ⟨_, _, _, rfl, rfl, _, ps_mem h (cb_255 v2)⟩
    · have a1 : ¬ nI n < 1024 := nI_nlt (b := 1024) (by omega) hn
      have a2 : ¬ nI n ≤ 1023 := nI_ge (a := 1023) (by omega) hn
      rw [if_neg a1, if_neg a2]; exact ⟨_, _, _, rfl, rfl, _, h⟩
theorem s_poke4 (h : cb_R g σ τ) (v1 v2 : Int32) : cb_Sm (c_Board_poke4 σ v1 v2) (m_poke4 τ v1 v2) cb_Ev := by
  unfold c_Board_poke4 m_poke4
  by_cases e : v1 < 0
  · rw [if_pos e, if_pos e]; exact ⟨_, _, _, rfl, rfl, _, h⟩
  · rw [if_neg e, if_neg e]
    by_cases e4 : v1 ≤ 1020
    · rw [if_pos e4, if_pos e4]
      obtain ⟨n, hn, rfl⟩ := nI_of2 (M := 1020) (n := 1020) (by decide) e e4
      have t0 : nI n + 0 = nI n := Int32.add_zero _
      have t2 : nI n + 2 = nI (n + 2) := nI_add n 2
      have t3 : nI n + 3 = nI (n + 3) := nI_add n 3
      rw [t0, nI_1, t2, t3, c_pb (show n < 1024 by omega), cb_bo_some, c_pb (show n + 1 < 1024 by omega), cb_bo_some, c_pb (show n + 2 < 1024 by omega), cb_bo_some, c_pb (show n + 3 < 1024 by omega), cb_bo_some,
        cb_gd_e (cb_in_n (show n < 1024 by omega) (by omega)), cb_let_e, cb_gd_e (cb_in_n (show n + 1 < 1024 by omega) (by omega)), cb_let_e, cb_gd_e (cb_in_n (show n + 2 < 1024 by omega) (by omega)), cb_let_e, cb_gd_e (cb_in_n (show n + 3 < 1024 by omega) (by omega)), cb_let_e]
      exact ⟨_, _, _, rfl, rfl, _, ps_mem (ps_mem (ps_mem (ps_mem h (cb_255 _)) (cb_255 _)) (cb_255 _)) (cb_255 _)⟩
    · rw [if_neg e4, if_neg e4]; exact ⟨_, _, _, rfl, rfl, _, h⟩
theorem s_peek (h : cb_R g σ τ) (v1 : Int32) : cb_Se (c_Board_peek σ v1) (m_peek τ v1) cb_Tv := by
  unfold c_Board_peek m_peek
  by_cases e : v1 < 0
  · rw [if_pos e, if_pos e]; exact ⟨_, rfl, rfl, trivial⟩
  · rw [if_neg e, if_neg e]
    obtain ⟨n, hn, rfl⟩ := nI_of e
    by_cases e1 : n < 1024
    · have a1 : nI n < 1024 := nI_lt (b := 1024) e1 (by omega)
      have a2 : nI n ≤ 1023 := nI_le (b := 1023) (by omega) (by omega)
      rw [if_pos a1, if_pos a2, cb_gd_e (cb_in_n e1 (by omega))]
      unfold c_Memory_byteAt
      rw [q_mem e1, cb_bo_some, h.1.1]
      exact ⟨_, rfl, rfl, trivial⟩
    · have a1 : ¬ nI n < 1024 := nI_nlt (b := 1024) (by omega) hn
      have a2 : ¬ nI n ≤ 1023 := nI_ge (a := 1023) (by omega) hn
      rw [if_neg a1, if_neg a2]; exact ⟨_, rfl, rfl, trivial⟩
theorem cb_split (b : Nat) (hb : b < 100) (v : Int32) : (∃ n, n ≤ b ∧ v = nI n) ∨ ((v < 0 ∨ (¬ v < 0 ∧ ¬ v ≤ nI b)) ∧ ∀ k, k ≤ b → v ≠ nI k) := by
  by_cases e : v < 0
  · refine Or.inr ⟨Or.inl e, fun k hk q => ?_⟩
    rw [q] at e
    exact nI_pos (by omega) e
  · obtain ⟨n, hn, rfl⟩ := nI_of e
    by_cases e1 : n ≤ b
    · exact Or.inl ⟨n, e1, rfl⟩
    · refine Or.inr ⟨Or.inr ⟨e, nI_ge (by omega) hn⟩, fun k hk q => ?_⟩
      have := (nI_eq hn (by omega)).mp q
      omega
theorem c_reg_o {v : Int32} (hne : ∀ k, k ≤ 12 → v ≠ nI k) : c_Board_register σ v = some (-1) := by
  unfold c_Board_register c_Registers_numbered
  rw [if_neg (show ¬ v = 11 from hne 11 (by omega)), if_neg (show ¬ v = 12 from hne 12 (by omega)), if_neg (show ¬ (v = 0 ∨ v = 1 ∨ v = 2 ∨ v = 3) from fun q => by
    rcases q with q | q | q | q
    · exact hne 0 (by omega) q
    · exact hne 1 (by omega) q
    · exact hne 2 (by omega) q
    · exact hne 3 (by omega) q), if_neg (show ¬ (v = 4 ∨ v = 5 ∨ v = 6 ∨ v = 7) from fun q => by
    rcases q with q | q | q | q
    · exact hne 4 (by omega) q
    · exact hne 5 (by omega) q
    · exact hne 6 (by omega) q
    · exact hne 7 (by omega) q), if_neg (show ¬ v = 8 from hne 8 (by omega)), if_neg (show ¬ v = 9 from hne 9 (by omega)), if_neg (show ¬ v = 10 from hne 10 (by omega))]
  rfl
theorem c_set_o {v w : Int32} (hne : ∀ k, k ≤ 10 → v ≠ nI k) : c_Board_set σ v w = some (0, σ) := by
  unfold c_Board_set c_Registers_putNumbered
  rw [if_neg (show ¬ (v = 0 ∨ v = 1 ∨ v = 2 ∨ v = 3) from fun q => by
    rcases q with q | q | q | q
    · exact hne 0 (by omega) q
    · exact hne 1 (by omega) q
    · exact hne 2 (by omega) q
    · exact hne 3 (by omega) q), if_neg (show ¬ (v = 4 ∨ v = 5 ∨ v = 6 ∨ v = 7) from fun q => by
    rcases q with q | q | q | q
    · exact hne 4 (by omega) q
    · exact hne 5 (by omega) q
    · exact hne 6 (by omega) q
    · exact hne 7 (by omega) q), if_neg (show ¬ v = 8 from hne 8 (by omega)), if_neg (show ¬ v = 9 from hne 9 (by omega)), if_neg (show ¬ v = 10 from hne 10 (by omega))]
  rfl
theorem cb_Se_2 {x y : Option Int32} (h : cb_Se x y cb_wo) : cb_Se (cb_bo (cb_bo x fun c => some c) fun c => some c) (cb_bo y fun c => some c) cb_Tv := by
  obtain ⟨r, h1, h2, -⟩ := h
  exact ⟨r, by rw [h1]; rfl, by rw [h2]; rfl, trivial⟩
theorem cb_Sv_2 {x y : Option cb_S} (h : cb_Sv x y (cb_R g)) : cb_Sm (cb_b2 (cb_bo x fun σ => some ((1 : Int32), σ)) fun c1 σc1 => cb_gd (c1 = 0 ∨ c1 = 1) (some (c1, σc1))) (cb_bo y fun σ => some ((1 : Int32), σ)) cb_Ev := by
  obtain ⟨σ, τ, h1, h2, h3⟩ := h
  exact ⟨1, σ, τ, by rw [h1]; rfl, by rw [h2]; rfl, g, h3⟩
theorem s_register (h : cb_R g σ τ) (v : Int32) : cb_Se (c_Board_register σ v) (m_register τ v) cb_Tv := by
  rcases cb_split 12 (by omega) v with ⟨n, hn, rfl⟩ | ⟨h1, h2⟩
  · rcases (show n = 0 ∨ n = 1 ∨ n = 2 ∨ n = 3 ∨ n = 4 ∨ n = 5 ∨ n = 6 ∨ n = 7 ∨ n = 8 ∨ n = 9 ∨ n = 10 ∨ n = 11 ∨ n = 12 by omega) with rfl | rfl | rfl | rfl | rfl | rfl | rfl | rfl | rfl | rfl | rfl | rfl | rfl
    · have e1 : c_Board_register σ (nI 0) = cb_bo (cb_bo (c_Bank_pair 11 σ (nI 3)) fun c => some c) fun c => some c := rfl
      have e2 : m_register τ (nI 0) = cb_bo (m_af τ (nI 0)) fun c => some c := rfl
      rw [e1, e2]; exact cb_Se_2 (s_af h)
    · have e1 : c_Board_register σ (nI 1) = cb_bo (cb_bo (c_Bank_pair 11 σ (nI 0)) fun c => some c) fun c => some c := rfl
      have e2 : m_register τ (nI 1) = cb_bo (m_pair τ (nI 0)) fun c => some c := rfl
      rw [e1, e2]; exact cb_Se_2 (s_pair h (k := 0) (by omega))
    · have e1 : c_Board_register σ (nI 2) = cb_bo (cb_bo (c_Bank_pair 11 σ (nI 1)) fun c => some c) fun c => some c := rfl
      have e2 : m_register τ (nI 2) = cb_bo (m_pair τ (nI 2)) fun c => some c := rfl
      rw [e1, e2]; exact cb_Se_2 (s_pair h (k := 1) (by omega))
    · have e1 : c_Board_register σ (nI 3) = cb_bo (cb_bo (c_Bank_pair 11 σ (nI 2)) fun c => some c) fun c => some c := rfl
      have e2 : m_register τ (nI 3) = cb_bo (m_pair τ (nI 4)) fun c => some c := rfl
      rw [e1, e2]; exact cb_Se_2 (s_pair h (k := 2) (by omega))
    · have e1 : c_Board_register σ (nI 4) = cb_bo (cb_bo (c_Bank_pair 13 σ (nI 3)) fun c => some c) fun c => some c := rfl
      have e2 : m_register τ (nI 4) = cb_bo (m_af τ (nI 8)) fun c => some c := rfl
      rw [e1, e2]; exact cb_Se_2 (s_af2 h)
    · have e1 : c_Board_register σ (nI 5) = cb_bo (cb_bo (c_Bank_pair 13 σ (nI 0)) fun c => some c) fun c => some c := rfl
      have e2 : m_register τ (nI 5) = cb_bo (m_pair τ (nI 8)) fun c => some c := rfl
      rw [e1, e2]; exact cb_Se_2 (s_pair2 h (k := 0) (by omega))
    · have e1 : c_Board_register σ (nI 6) = cb_bo (cb_bo (c_Bank_pair 13 σ (nI 1)) fun c => some c) fun c => some c := rfl
      have e2 : m_register τ (nI 6) = cb_bo (m_pair τ (nI 10)) fun c => some c := rfl
      rw [e1, e2]; exact cb_Se_2 (s_pair2 h (k := 1) (by omega))
    · have e1 : c_Board_register σ (nI 7) = cb_bo (cb_bo (c_Bank_pair 13 σ (nI 2)) fun c => some c) fun c => some c := rfl
      have e2 : m_register τ (nI 7) = cb_bo (m_pair τ (nI 12)) fun c => some c := rfl
      rw [e1, e2]; exact cb_Se_2 (s_pair2 h (k := 2) (by omega))
    · have e1 : c_Board_register σ (nI 8) = some (σ 10 2) := rfl
      have e2 : m_register τ (nI 8) = some (τ 0 2) := rfl
      rw [e1, e2, (pe_sp h)]; exact ⟨_, rfl, rfl, trivial⟩
    · have e1 : c_Board_register σ (nI 9) = some (σ 10 3) := rfl
      have e2 : m_register τ (nI 9) = some (τ 0 3) := rfl
      rw [e1, e2, (pe_pc h)]; exact ⟨_, rfl, rfl, trivial⟩
    · have e1 : c_Board_register σ (nI 10) = some (σ 10 4) := rfl
      have e2 : m_register τ (nI 10) = some (τ 0 4) := rfl
      rw [e1, e2, (pe_page h)]; exact ⟨_, rfl, rfl, trivial⟩
    · have e1 : c_Board_register σ (nI 11) = some (if σ 3 5 = 0 then (0 : Int32) else 1) := rfl
      have e2 : m_register τ (nI 11) = some (if τ 0 5 = 0 then (0 : Int32) else 1) := rfl
      rw [e1, e2, (h.2.2.2.1.1)]; exact ⟨_, rfl, rfl, trivial⟩
    · have e1 : c_Board_register σ (nI 12) = some (σ 3 6) := rfl
      have e2 : m_register τ (nI 12) = some (τ 0 6) := rfl
      rw [e1, e2, (h.2.2.2.1.2.1)]; exact ⟨_, rfl, rfl, trivial⟩
  · rw [c_reg_o h2]
    unfold m_register
    rcases h1 with e | ⟨e, e1⟩
    · rw [if_pos e]; exact ⟨_, rfl, rfl, trivial⟩
    · rw [if_neg e, if_neg (show ¬ v ≤ 12 from e1)]; exact ⟨_, rfl, rfl, trivial⟩
theorem s_set (h : cb_R g σ τ) (v w : Int32) : cb_Sm (c_Board_set σ v w) (m_set τ v w) cb_Ev := by
  rcases cb_split 10 (by omega) v with ⟨n, hn, rfl⟩ | ⟨h1, h2⟩
  · rcases (show n = 0 ∨ n = 1 ∨ n = 2 ∨ n = 3 ∨ n = 4 ∨ n = 5 ∨ n = 6 ∨ n = 7 ∨ n = 8 ∨ n = 9 ∨ n = 10 by omega) with rfl | rfl | rfl | rfl | rfl | rfl | rfl | rfl | rfl | rfl | rfl
    · have e1 : c_Board_set σ (nI 0) w = cb_b2 (cb_bo (c_Bank_putPair 11 σ (nI 3) w) fun σ => some ((1 : Int32), σ)) fun c1 σc1 => cb_gd (c1 = 0 ∨ c1 = 1) (some (c1, σc1)) := rfl
      have e2 : m_set τ (nI 0) w = cb_bo (m_putAf τ (nI 0) w) fun σ => some ((1 : Int32), σ) := rfl
      rw [e1, e2]; exact cb_Sv_2 (s_putAf h w)
    · have e1 : c_Board_set σ (nI 1) w = cb_b2 (cb_bo (c_Bank_putPair 11 σ (nI 0) w) fun σ => some ((1 : Int32), σ)) fun c1 σc1 => cb_gd (c1 = 0 ∨ c1 = 1) (some (c1, σc1)) := rfl
      have e2 : m_set τ (nI 1) w = cb_bo (m_putPair τ (nI 0) w) fun σ => some ((1 : Int32), σ) := rfl
      rw [e1, e2]; exact cb_Sv_2 (s_putPair h (k := 0) (by omega) w)
    · have e1 : c_Board_set σ (nI 2) w = cb_b2 (cb_bo (c_Bank_putPair 11 σ (nI 1) w) fun σ => some ((1 : Int32), σ)) fun c1 σc1 => cb_gd (c1 = 0 ∨ c1 = 1) (some (c1, σc1)) := rfl
      have e2 : m_set τ (nI 2) w = cb_bo (m_putPair τ (nI 2) w) fun σ => some ((1 : Int32), σ) := rfl
      rw [e1, e2]; exact cb_Sv_2 (s_putPair h (k := 1) (by omega) w)
    · have e1 : c_Board_set σ (nI 3) w = cb_b2 (cb_bo (c_Bank_putPair 11 σ (nI 2) w) fun σ => some ((1 : Int32), σ)) fun c1 σc1 => cb_gd (c1 = 0 ∨ c1 = 1) (some (c1, σc1)) := rfl
      have e2 : m_set τ (nI 3) w = cb_bo (m_putPair τ (nI 4) w) fun σ => some ((1 : Int32), σ) := rfl
      rw [e1, e2]; exact cb_Sv_2 (s_putPair h (k := 2) (by omega) w)
    · have e1 : c_Board_set σ (nI 4) w = cb_b2 (cb_bo (c_Bank_putPair 13 σ (nI 3) w) fun σ => some ((1 : Int32), σ)) fun c1 σc1 => cb_gd (c1 = 0 ∨ c1 = 1) (some (c1, σc1)) := rfl
      have e2 : m_set τ (nI 4) w = cb_bo (m_putAf τ (nI 8) w) fun σ => some ((1 : Int32), σ) := rfl
      rw [e1, e2]; exact cb_Sv_2 (s_putAf2 h w)
    · have e1 : c_Board_set σ (nI 5) w = cb_b2 (cb_bo (c_Bank_putPair 13 σ (nI 0) w) fun σ => some ((1 : Int32), σ)) fun c1 σc1 => cb_gd (c1 = 0 ∨ c1 = 1) (some (c1, σc1)) := rfl
      have e2 : m_set τ (nI 5) w = cb_bo (m_putPair τ (nI 8) w) fun σ => some ((1 : Int32), σ) := rfl
      rw [e1, e2]; exact cb_Sv_2 (s_putPair2 h (k := 0) (by omega) w)
    · have e1 : c_Board_set σ (nI 6) w = cb_b2 (cb_bo (c_Bank_putPair 13 σ (nI 1) w) fun σ => some ((1 : Int32), σ)) fun c1 σc1 => cb_gd (c1 = 0 ∨ c1 = 1) (some (c1, σc1)) := rfl
      have e2 : m_set τ (nI 6) w = cb_bo (m_putPair τ (nI 10) w) fun σ => some ((1 : Int32), σ) := rfl
      rw [e1, e2]; exact cb_Sv_2 (s_putPair2 h (k := 1) (by omega) w)
    · have e1 : c_Board_set σ (nI 7) w = cb_b2 (cb_bo (c_Bank_putPair 13 σ (nI 2) w) fun σ => some ((1 : Int32), σ)) fun c1 σc1 => cb_gd (c1 = 0 ∨ c1 = 1) (some (c1, σc1)) := rfl
      have e2 : m_set τ (nI 7) w = cb_bo (m_putPair τ (nI 12) w) fun σ => some ((1 : Int32), σ) := rfl
      rw [e1, e2]; exact cb_Sv_2 (s_putPair2 h (k := 2) (by omega) w)
    · have e1 : c_Board_set σ (nI 8) w = some (1, cb_up σ 10 2 (w &&& 65535)) := rfl
      have e2 : m_set τ (nI 8) w = some (1, cb_up τ 0 2 (w &&& 65535)) := rfl
      rw [e1, e2]; exact ⟨_, _, _, rfl, rfl, g, ps_sp h (cb_65535 w)⟩
    · have e1 : c_Board_set σ (nI 9) w = some (1, cb_up σ 10 3 (w &&& 65535)) := rfl
      have e2 : m_set τ (nI 9) w = some (1, cb_up τ 0 3 (w &&& 65535)) := rfl
      rw [e1, e2]; exact ⟨_, _, _, rfl, rfl, g, ps_pc h (cb_65535 w)⟩
    · have e1 : c_Board_set σ (nI 10) w = some (1, cb_up σ 10 4 (w &&& 255)) := rfl
      have e2 : m_set τ (nI 10) w = some (1, cb_up τ 0 4 (w &&& 255)) := rfl
      rw [e1, e2]; exact ⟨_, _, _, rfl, rfl, g, ps_page h (cb_255 w)⟩
  · rw [c_set_o h2]
    unfold m_set
    rcases h1 with e | ⟨e, e1⟩
    · rw [if_pos e]; exact ⟨_, _, _, rfl, rfl, g, h⟩
    · rw [if_neg e, if_neg (show ¬ v ≤ 10 from e1)]; exact ⟨_, _, _, rfl, rfl, g, h⟩
theorem s_state (h : cb_R g σ τ) : cb_Se (c_Board_state σ) (m_state τ) cb_Tv := by
  unfold c_Board_state m_state
  rcases ps_st h with ⟨a, b⟩ | ⟨a, c, b⟩ | ⟨a, c, b⟩
  · rw [a, b, if_neg (show ¬ (1 : Int32) = 0 by decide)]; exact ⟨_, rfl, rfl, trivial⟩
  · rw [a, b, c, if_pos rfl]; exact ⟨_, rfl, rfl, trivial⟩
  · rw [a, b, c, if_pos rfl]; exact ⟨_, rfl, rfl, trivial⟩
theorem s_passed (h : cb_R g σ τ) (v : Int32) : cb_Se (c_Board_passed σ v) (m_passed τ v) cb_Tv := by
  have p0 : σ 3 10 = τ 25 0 := h.2.2.2.1.2.2.2.1
  have p1 : σ 3 11 = τ 25 1 := h.2.2.2.1.2.2.2.2.1
  have p2 : σ 3 12 = τ 25 2 := h.2.2.2.1.2.2.2.2.2.1
  rcases cb_split 2 (by omega) v with ⟨n, hn, rfl⟩ | ⟨h1, h2⟩
  · rcases (show n = 0 ∨ n = 1 ∨ n = 2 by omega) with rfl | rfl | rfl
    · exact ⟨σ 3 10, rfl, by rw [p0]; rfl, trivial⟩
    · exact ⟨σ 3 11, rfl, by rw [p1]; rfl, trivial⟩
    · exact ⟨σ 3 12, rfl, by rw [p2]; rfl, trivial⟩
  · unfold c_Board_passed m_passed
    rw [if_neg (show ¬ v = 0 from h2 0 (by omega)), if_neg (show ¬ v = 1 from h2 1 (by omega)), if_neg (show ¬ v = 2 from h2 2 (by omega))]
    rcases h1 with e | ⟨e, e1⟩
    · rw [if_pos e]; exact ⟨_, rfl, rfl, trivial⟩
    · rw [if_neg e, if_neg (show ¬ v ≤ 2 from e1)]; exact ⟨_, rfl, rfl, trivial⟩
theorem s_trg0 {a b : Nat → Int32} (h : cb_R g (P2 σ a b) τ) : cb_Sv (c_Chain_pulse (P2 σ a b) 0) (if τ 9 0 = 0 then some τ else if τ 10 0 = 0 then some τ else m_fall τ (nI 0)) (cb_R g) := by
  obtain ⟨⟨-, o7, o8⟩, e7, e8, -⟩ := ocR0 h
  unfold c_Chain_pulse
  rw [if_neg (show ¬ (0 : Int32) = 1 by decide), ← e7, ← e8]
  obtain ⟨r, q1, q2⟩ := c_trg6 (σ := σ) (a := a) (b := b)
  have q2 := q2 o7 o8
  rw [cb_b2_e q1, q2]
  unfold tr1
  by_cases x7 : a 7 = 0
  · rw [if_pos x7, if_pos x7, if_pos x7, if_pos (show nI 0 = 0 from rfl)]
    exact ⟨_, _, rfl, rfl, h⟩
  · rw [if_neg x7, if_neg x7, if_neg x7]
    by_cases x8 : a 8 = 0
    · rw [if_pos x8, if_pos x8, if_pos x8, if_pos (show nI 0 = 0 from rfl)]
      exact ⟨_, _, rfl, rfl, h⟩
    · rw [if_neg x8, if_neg x8, if_neg x8]
      obtain ⟨τ', w1, w2⟩ := f0R h
      rw [w1]
      rcases fl1_01 a with z | z
      · rw [z] at w2 ⊢
        rw [if_pos (show nI 0 = 0 from rfl)]
        exact ⟨_, _, rfl, rfl, w2⟩
      · rw [z] at w2 ⊢
        rw [if_neg (show ¬ nI 1 = 0 by decide)]
        obtain ⟨r, q3, -⟩ := c_trg7 (σ := σ) (a := (fl1 a).2) (b := b)
        unfold c_Chain_pulse_L15
        rw [cb_b2_e q3]
        exact ⟨_, _, rfl, rfl, w2⟩
theorem s_trg1 {a b : Nat → Int32} (h : cb_R g (P2 σ a b) τ) : cb_Sv (c_Chain_pulse (P2 σ a b) 1) (if τ 9 1 = 0 then some τ else if τ 10 1 = 0 then some τ else m_fall τ (nI 1)) (cb_R g) := by
  obtain ⟨-, e7, e8, -⟩ := ocR1 h
  unfold c_Chain_pulse c_Chain_pulse_L15
  rw [if_pos rfl, ← e7, ← e8]
  obtain ⟨r, q1, -⟩ := c_trg7 (σ := σ) (a := a) (b := b)
  rw [cb_b2_e q1]
  unfold tr1
  by_cases x7 : b 7 = 0
  · rw [if_pos x7, if_pos x7]
    exact ⟨_, _, rfl, rfl, h⟩
  · rw [if_neg x7, if_neg x7]
    by_cases x8 : b 8 = 0
    · rw [if_pos x8, if_pos x8]
      exact ⟨_, _, rfl, rfl, h⟩
    · rw [if_neg x8, if_neg x8]
      obtain ⟨τ', w1, w2⟩ := f1R h
      rw [w1]
      exact ⟨_, _, rfl, rfl, w2⟩
theorem cb_ifs {c d : Prop} [Decidable c] [Decidable d] {x : Option cb_S} {t : cb_S} {f : cb_S → Option (Int32 × cb_S)} : (if c then f t else if d then f t else cb_bo x f) = cb_bo (if c then some t else if d then some t else x) f := by
  by_cases hc : c
  · rw [if_pos hc, if_pos hc]; rfl
  · rw [if_neg hc, if_neg hc]
    by_cases hd : d
    · rw [if_pos hd, if_pos hd]; rfl
    · rw [if_neg hd, if_neg hd]
theorem s_trigger (h : cb_R g σ τ) (v : Int32) : cb_Sm (c_Board_trigger σ v) (m_trigger τ v) cb_Ev := by
  rcases cb_split 1 (by omega) v with ⟨n, hn, rfl⟩ | ⟨h1, h2⟩
  · have h' := h
    rw [← P2_self σ] at h'
    rcases (show n = 0 ∨ n = 1 by omega) with rfl | rfl
    · have e1 : c_Board_trigger σ (nI 0) = cb_bo (c_Chain_pulse σ 0) fun σ => some ((1 : Int32), σ) := rfl
      have e2 : m_trigger τ (nI 0) = if τ 9 0 = 0 then (fun t : cb_S => some ((1 : Int32), t)) τ else if τ 10 0 = 0 then (fun t : cb_S => some ((1 : Int32), t)) τ else cb_bo (m_fall τ (nI 0)) (fun t : cb_S => some ((1 : Int32), t)) := rfl
      rw [e1, e2.trans (cb_ifs (c := τ 9 0 = 0) (d := τ 10 0 = 0) (x := m_fall τ (nI 0)) (t := τ) (f := fun t : cb_S => some ((1 : Int32), t)))]
      have := s_trg0 h'
      rw [P2_self] at this
      exact cb_E1 this
    · have e1 : c_Board_trigger σ (nI 1) = cb_bo (c_Chain_pulse σ 1) fun σ => some ((1 : Int32), σ) := rfl
      have e2 : m_trigger τ (nI 1) = if τ 9 1 = 0 then (fun t : cb_S => some ((1 : Int32), t)) τ else if τ 10 1 = 0 then (fun t : cb_S => some ((1 : Int32), t)) τ else cb_bo (m_fall τ (nI 1)) (fun t : cb_S => some ((1 : Int32), t)) := rfl
      rw [e1, e2.trans (cb_ifs (c := τ 9 1 = 0) (d := τ 10 1 = 0) (x := m_fall τ (nI 1)) (t := τ) (f := fun t : cb_S => some ((1 : Int32), t)))]
      have := s_trg1 h'
      rw [P2_self] at this
      exact cb_E1 this
  · unfold c_Board_trigger m_trigger
    rcases h1 with e | ⟨e, e1⟩
    · rw [if_pos e, if_pos e]; exact ⟨_, _, _, rfl, rfl, g, h⟩
    · rw [if_neg e, if_neg e, if_neg (show ¬ v ≤ 1 from e1), if_neg (show ¬ v ≤ 1 from e1)]; exact ⟨_, _, _, rfl, rfl, g, h⟩
theorem ps_inl8 (h : cb_R g σ τ) {v : Int32} (hv : cb_by v) : cb_R g (cb_up σ 8 7 v) (cb_up τ 22 0 v) := by
  obtain ⟨h1, h2, h3, h4, ⟨d1, d2, ⟨a0, a1, a2, a3, a4, a5, a6, a7, a8, a9, a10, a11, a12, a15, sc, b0, b1, b2, b3, b4, b5, b6, b7, b8, b9, b10, b11, b12, b15⟩, d4, d5⟩⟩ := h
  exact ⟨h1, h2, h3, h4, ⟨d1, d2, ⟨a0, a1, a2, a3, a4, a5, a6, rfl, a8, a9, a10, a11, a12, a15, sc, b0, b1, b2, b3, b4, b5, b6, hv, b8, b9, b10, b11, b12, b15⟩, d4, d5⟩⟩
theorem ps_rdy8 (h : cb_R g σ τ) {v : Int32} (hv : cb_01 v) : cb_R g (cb_up σ 8 5 v) (cb_up τ 20 0 v) := by
  obtain ⟨h1, h2, h3, h4, ⟨d1, d2, ⟨a0, a1, a2, a3, a4, a5, a6, a7, a8, a9, a10, a11, a12, a15, sc, b0, b1, b2, b3, b4, b5, b6, b7, b8, b9, b10, b11, b12, b15⟩, d4, d5⟩⟩ := h
  exact ⟨h1, h2, h3, h4, ⟨d1, d2, ⟨a0, a1, a2, a3, a4, rfl, a6, a7, a8, a9, a10, a11, a12, a15, sc, b0, b1, b2, b3, b4, hv, b6, b7, b8, b9, b10, b11, b12, b15⟩, d4, d5⟩⟩
theorem ps_lin8 (h : cb_R g σ τ) {v : Int32} (hv : cb_by v) : cb_R g (cb_up σ 8 8 v) (cb_up τ 23 0 v) := by
  obtain ⟨h1, h2, h3, h4, ⟨d1, d2, ⟨a0, a1, a2, a3, a4, a5, a6, a7, a8, a9, a10, a11, a12, a15, sc, b0, b1, b2, b3, b4, b5, b6, b7, b8, b9, b10, b11, b12, b15⟩, d4, d5⟩⟩ := h
  exact ⟨h1, h2, h3, h4, ⟨d1, d2, ⟨a0, a1, a2, a3, a4, a5, a6, a7, rfl, a9, a10, a11, a12, a15, sc, b0, b1, b2, b3, b4, b5, b6, b7, hv, b9, b10, b11, b12, b15⟩, d4, d5⟩⟩
theorem s_stb8 (h : cb_R g σ τ) (w : Int32) : cb_Sm (c_Board_strobe σ (nI 0) w) (m_strobe τ (nI 0) w) cb_Ev := by
  have p5 : σ 8 5 = τ 20 0 := h.2.2.2.2.2.2.1.2.2.2.2.2.1
  have p4 : σ 8 4 = τ 13 0 := h.2.2.2.2.2.2.1.2.2.2.2.1
  have e1 : c_Board_strobe σ (nI 0) w = cb_b2 (c_Port_takeStrobe 8 σ w) fun c4 σc4 => some ((if c4 = 0 then (0 : Int32) else (1 : Int32)), σc4) := rfl
  have e2 : m_strobe τ (nI 0) w = if τ 20 0 = 0 then some ((0 : Int32), τ) else if τ 13 0 = 3 then some ((0 : Int32), τ) else cb_bo (m_request (cb_up (cb_up τ 22 0 (if τ 13 0 = 1 then (w &&& 255) else τ 22 0)) 20 0 0) (nI 2)) fun σc11 => some ((1 : Int32), σc11) := rfl
  have fin : ∀ {σ τ : cb_S}, cb_R g σ τ → cb_Sm (cb_b2 (c_Port_takeStrobe_L34 8 w σ) fun c4 σc4 => some ((if c4 = 0 then (0 : Int32) else (1 : Int32)), σc4)) (cb_bo (m_request (cb_up τ 20 0 0) (nI 2)) fun σc11 => some ((1 : Int32), σc11)) cb_Ev := by
    intro σ τ h
    obtain ⟨σ1, τ1, q1, q2, q3⟩ := s_rq8 (ps_rdy8 h (v := 0) (Or.inl rfl))
    unfold c_Port_takeStrobe_L34
    rw [cb_let_e, cb_bo_e q1, cb_bo_e q2]
    exact ⟨1, _, _, rfl, rfl, g, q3⟩
  rw [e1, e2]
  unfold c_Port_takeStrobe
  rw [p5, p4]
  by_cases x5 : τ 20 0 = 0
  · rw [if_pos x5, if_pos x5]; exact ⟨0, _, _, rfl, rfl, g, h⟩
  · rw [if_neg x5, if_neg x5]
    by_cases x3 : τ 13 0 = 3
    · rw [if_pos x3, if_pos x3]; exact ⟨0, _, _, rfl, rfl, g, h⟩
    · rw [if_neg x3, if_neg x3]
      by_cases x1 : τ 13 0 = 1
      · rw [if_pos x1, if_pos x1, cb_let_e]
        exact fin (ps_inl8 h (cb_255 w))
      · rw [if_neg x1, if_neg x1, cb_up_self τ 22 0 rfl]
        exact fin h
theorem s_lns8 (h : cb_R g σ τ) (w : Int32) : cb_Sm (c_Board_lines σ (nI 0) w) (m_lines τ (nI 0) w) cb_Ev := by
  have e1 : c_Board_lines σ (nI 0) w = cb_bo (cb_bo (c_Port_look 8 (cb_up σ 8 8 (w &&& 255))) fun σ => some σ) fun σ => some ((1 : Int32), σ) := rfl
  have e2 : m_lines τ (nI 0) w = cb_bo (m_watch (cb_up τ 23 0 (w &&& 255)) (nI 0)) fun σ => some ((1 : Int32), σ) := rfl
  obtain ⟨σ1, τ1, q1, q2, q3⟩ := s_look8 (ps_lin8 h (cb_255 w))
  rw [e1, e2, cb_bo_e q1, cb_bo_e q2]
  exact ⟨1, _, _, rfl, rfl, g, q3⟩
theorem ps_inl9 (h : cb_R g σ τ) {v : Int32} (hv : cb_by v) : cb_R g (cb_up σ 9 7 v) (cb_up τ 22 1 v) := by
  obtain ⟨h1, h2, h3, h4, ⟨d1, d2, d3, ⟨a0, a1, a2, a3, a4, a5, a6, a7, a8, a9, a10, a11, a12, a15, sc, b0, b1, b2, b3, b4, b5, b6, b7, b8, b9, b10, b11, b12, b15⟩, d5⟩⟩ := h
  exact ⟨h1, h2, h3, h4, ⟨d1, d2, d3, ⟨a0, a1, a2, a3, a4, a5, a6, rfl, a8, a9, a10, a11, a12, a15, sc, b0, b1, b2, b3, b4, b5, b6, hv, b8, b9, b10, b11, b12, b15⟩, d5⟩⟩
theorem ps_rdy9 (h : cb_R g σ τ) {v : Int32} (hv : cb_01 v) : cb_R g (cb_up σ 9 5 v) (cb_up τ 20 1 v) := by
  obtain ⟨h1, h2, h3, h4, ⟨d1, d2, d3, ⟨a0, a1, a2, a3, a4, a5, a6, a7, a8, a9, a10, a11, a12, a15, sc, b0, b1, b2, b3, b4, b5, b6, b7, b8, b9, b10, b11, b12, b15⟩, d5⟩⟩ := h
  exact ⟨h1, h2, h3, h4, ⟨d1, d2, d3, ⟨a0, a1, a2, a3, a4, rfl, a6, a7, a8, a9, a10, a11, a12, a15, sc, b0, b1, b2, b3, b4, hv, b6, b7, b8, b9, b10, b11, b12, b15⟩, d5⟩⟩
theorem ps_lin9 (h : cb_R g σ τ) {v : Int32} (hv : cb_by v) : cb_R g (cb_up σ 9 8 v) (cb_up τ 23 1 v) := by
  obtain ⟨h1, h2, h3, h4, ⟨d1, d2, d3, ⟨a0, a1, a2, a3, a4, a5, a6, a7, a8, a9, a10, a11, a12, a15, sc, b0, b1, b2, b3, b4, b5, b6, b7, b8, b9, b10, b11, b12, b15⟩, d5⟩⟩ := h
  exact ⟨h1, h2, h3, h4, ⟨d1, d2, d3, ⟨a0, a1, a2, a3, a4, a5, a6, a7, rfl, a9, a10, a11, a12, a15, sc, b0, b1, b2, b3, b4, b5, b6, b7, hv, b9, b10, b11, b12, b15⟩, d5⟩⟩
theorem s_stb9 (h : cb_R g σ τ) (w : Int32) : cb_Sm (c_Board_strobe σ (nI 1) w) (m_strobe τ (nI 1) w) cb_Ev := by
  have p5 : σ 9 5 = τ 20 1 := h.2.2.2.2.2.2.2.1.2.2.2.2.2.1
  have p4 : σ 9 4 = τ 13 1 := h.2.2.2.2.2.2.2.1.2.2.2.2.1
  have e1 : c_Board_strobe σ (nI 1) w = cb_b2 (c_Port_takeStrobe 9 σ w) fun c4 σc4 => some ((if c4 = 0 then (0 : Int32) else (1 : Int32)), σc4) := rfl
  have e2 : m_strobe τ (nI 1) w = if τ 20 1 = 0 then some ((0 : Int32), τ) else if τ 13 1 = 3 then some ((0 : Int32), τ) else cb_bo (m_request (cb_up (cb_up τ 22 1 (if τ 13 1 = 1 then (w &&& 255) else τ 22 1)) 20 1 0) (nI 3)) fun σc11 => some ((1 : Int32), σc11) := rfl
  have fin : ∀ {σ τ : cb_S}, cb_R g σ τ → cb_Sm (cb_b2 (c_Port_takeStrobe_L34 9 w σ) fun c4 σc4 => some ((if c4 = 0 then (0 : Int32) else (1 : Int32)), σc4)) (cb_bo (m_request (cb_up τ 20 1 0) (nI 3)) fun σc11 => some ((1 : Int32), σc11)) cb_Ev := by
    intro σ τ h
    obtain ⟨σ1, τ1, q1, q2, q3⟩ := s_rq9 (ps_rdy9 h (v := 0) (Or.inl rfl))
    unfold c_Port_takeStrobe_L34
    rw [cb_let_e, cb_bo_e q1, cb_bo_e q2]
    exact ⟨1, _, _, rfl, rfl, g, q3⟩
  rw [e1, e2]
  unfold c_Port_takeStrobe
  rw [p5, p4]
  by_cases x5 : τ 20 1 = 0
  · rw [if_pos x5, if_pos x5]; exact ⟨0, _, _, rfl, rfl, g, h⟩
  · rw [if_neg x5, if_neg x5]
    by_cases x3 : τ 13 1 = 3
    · rw [if_pos x3, if_pos x3]; exact ⟨0, _, _, rfl, rfl, g, h⟩
    · rw [if_neg x3, if_neg x3]
      by_cases x1 : τ 13 1 = 1
      · rw [if_pos x1, if_pos x1, cb_let_e]
        exact fin (ps_inl9 h (cb_255 w))
      · rw [if_neg x1, if_neg x1, cb_up_self τ 22 1 rfl]
        exact fin h
theorem s_lns9 (h : cb_R g σ τ) (w : Int32) : cb_Sm (c_Board_lines σ (nI 1) w) (m_lines τ (nI 1) w) cb_Ev := by
  have e1 : c_Board_lines σ (nI 1) w = cb_bo (cb_bo (c_Port_look 9 (cb_up σ 9 8 (w &&& 255))) fun σ => some σ) fun σ => some ((1 : Int32), σ) := rfl
  have e2 : m_lines τ (nI 1) w = cb_bo (m_watch (cb_up τ 23 1 (w &&& 255)) (nI 1)) fun σ => some ((1 : Int32), σ) := rfl
  obtain ⟨σ1, τ1, q1, q2, q3⟩ := s_look9 (ps_lin9 h (cb_255 w))
  rw [e1, e2, cb_bo_e q1, cb_bo_e q2]
  exact ⟨1, _, _, rfl, rfl, g, q3⟩
theorem s_strobe (h : cb_R g σ τ) (v w : Int32) : cb_Sm (c_Board_strobe σ v w) (m_strobe τ v w) cb_Ev := by
  rcases cb_split 1 (by omega) v with ⟨n, hn, rfl⟩ | ⟨h1, h2⟩
  · rcases (show n = 0 ∨ n = 1 by omega) with rfl | rfl
    · exact s_stb8 h w
    · exact s_stb9 h w
  · unfold c_Board_strobe c_Chain_portOf m_strobe
    rw [if_neg (show ¬ v = 0 from h2 0 (by omega)), if_neg (show ¬ v = 1 from h2 1 (by omega))]
    rcases h1 with e | ⟨e, e1⟩
    · rw [if_pos e]; exact ⟨_, _, _, rfl, rfl, g, h⟩
    · rw [if_neg e, if_neg (show ¬ v ≤ 1 from e1)]; exact ⟨_, _, _, rfl, rfl, g, h⟩
theorem s_lines (h : cb_R g σ τ) (v w : Int32) : cb_Sm (c_Board_lines σ v w) (m_lines τ v w) cb_Ev := by
  rcases cb_split 1 (by omega) v with ⟨n, hn, rfl⟩ | ⟨h1, h2⟩
  · rcases (show n = 0 ∨ n = 1 by omega) with rfl | rfl
    · exact s_lns8 h w
    · exact s_lns9 h w
  · unfold c_Board_lines c_Chain_portOf m_lines
    rw [if_neg (show ¬ v = 0 from h2 0 (by omega)), if_neg (show ¬ v = 1 from h2 1 (by omega))]
    rcases h1 with e | ⟨e, e1⟩
    · rw [if_pos e]; exact ⟨_, _, _, rfl, rfl, g, h⟩
    · rw [if_neg e, if_neg (show ¬ v ≤ 1 from e1)]; exact ⟨_, _, _, rfl, rfl, g, h⟩
theorem s_dev6 (h : cb_R g σ τ) (v : Int32) : cb_Se (c_Board_device σ (nI 0) v) (m_device τ (nI 0) v) cb_Tv := by
  rcases cb_split 5 (by omega) v with ⟨n, hn, rfl⟩ | ⟨h1, h2⟩
  · rcases (show n = 0 ∨ n = 1 ∨ n = 2 ∨ n = 3 ∨ n = 4 ∨ n = 5 by omega) with rfl | rfl | rfl | rfl | rfl | rfl
    · have e1 : c_Board_device σ (nI 0) (nI 0) = some (if σ 6 1 = 0 then (0 : Int32) else 1) := rfl
      have e2 : m_device τ (nI 0) (nI 0) = some (if τ 3 0 = 0 then (0 : Int32) else 1) := rfl
      rw [e1, e2, show σ 6 1 = τ 3 0 from pe_r6 h]; exact ⟨_, rfl, rfl, trivial⟩
    · have e1 : c_Board_device σ (nI 0) (nI 1) = some (if σ 6 2 = 0 then (0 : Int32) else 1) := rfl
      have e2 : m_device τ (nI 0) (nI 1) = some (if τ 4 0 = 0 then (0 : Int32) else 1) := rfl
      rw [e1, e2, show σ 6 2 = τ 4 0 from pe_s6 h]; exact ⟨_, rfl, rfl, trivial⟩
    · have e1 : c_Board_device σ (nI 0) (nI 2) = some (σ 6 3) := rfl
      have e2 : m_device τ (nI 0) (nI 2) = cb_bo (m_vectorOf τ 0) fun c => some c := rfl
      rw [e1, e2, v_6 h]; exact ⟨_, rfl, rfl, trivial⟩
    · have e1 : c_Board_device σ (nI 0) (nI 3) = some (σ 6 4) := rfl
      have e2 : m_device τ (nI 0) (nI 3) = some (τ 7 0) := rfl
      rw [e1, e2, show σ 6 4 = τ 7 0 from h.2.2.2.2.1.2.2.2.1]; exact ⟨_, rfl, rfl, trivial⟩
    · have e1 : c_Board_device σ (nI 0) (nI 4) = some (if σ 6 7 = 0 then (0 : Int32) else 1) := rfl
      have e2 : m_device τ (nI 0) (nI 4) = some (if τ 9 0 = 0 then (0 : Int32) else 1) := rfl
      rw [e1, e2, show σ 6 7 = τ 9 0 from h.2.2.2.2.1.2.2.2.2.2.2.1]; exact ⟨_, rfl, rfl, trivial⟩
    · have e1 : c_Board_device σ (nI 0) (nI 5) = some (σ 6 6) := rfl
      have e2 : m_device τ (nI 0) (nI 5) = some (τ 8 0) := rfl
      rw [e1, e2, show σ 6 6 = τ 8 0 from h.2.2.2.2.1.2.2.2.2.2.1]; exact ⟨_, rfl, rfl, trivial⟩
  · have e1 : c_Board_device σ (nI 0) v = if v = 0 then some (if σ 6 1 = 0 then (0 : Int32) else 1) else if v = 1 then some (if σ 6 2 = 0 then (0 : Int32) else 1) else if v = 2 then some (σ 6 3) else cb_bo (c_Channel_detail 6 σ v) fun c => some c := rfl
    have e2 : m_device τ (nI 0) v = some (-1) := by
      unfold m_device
      rw [if_neg (show ¬ nI 0 < 0 by decide), if_neg (show ¬ (3 : Int32) < nI 0 by decide)]
      rcases h1 with e | ⟨e, e1⟩
      · rw [if_pos e]
      · rw [if_neg e, if_neg (show ¬ v ≤ 5 from e1)]
    rw [e1, e2, if_neg (show ¬ v = 0 from h2 0 (by omega)), if_neg (show ¬ v = 1 from h2 1 (by omega)), if_neg (show ¬ v = 2 from h2 2 (by omega))]
    unfold c_Channel_detail
    rw [if_neg (show ¬ v = 3 from h2 3 (by omega)), if_neg (show ¬ v = 4 from h2 4 (by omega)), if_neg (show ¬ v = 5 from h2 5 (by omega))]
    exact ⟨_, rfl, rfl, trivial⟩
theorem s_dev7 (h : cb_R g σ τ) (v : Int32) : cb_Se (c_Board_device σ (nI 1) v) (m_device τ (nI 1) v) cb_Tv := by
  rcases cb_split 5 (by omega) v with ⟨n, hn, rfl⟩ | ⟨h1, h2⟩
  · rcases (show n = 0 ∨ n = 1 ∨ n = 2 ∨ n = 3 ∨ n = 4 ∨ n = 5 by omega) with rfl | rfl | rfl | rfl | rfl | rfl
    · have e1 : c_Board_device σ (nI 1) (nI 0) = some (if σ 7 1 = 0 then (0 : Int32) else 1) := rfl
      have e2 : m_device τ (nI 1) (nI 0) = some (if τ 3 1 = 0 then (0 : Int32) else 1) := rfl
      rw [e1, e2, show σ 7 1 = τ 3 1 from pe_r7 h]; exact ⟨_, rfl, rfl, trivial⟩
    · have e1 : c_Board_device σ (nI 1) (nI 1) = some (if σ 7 2 = 0 then (0 : Int32) else 1) := rfl
      have e2 : m_device τ (nI 1) (nI 1) = some (if τ 4 1 = 0 then (0 : Int32) else 1) := rfl
      rw [e1, e2, show σ 7 2 = τ 4 1 from pe_s7 h]; exact ⟨_, rfl, rfl, trivial⟩
    · have e1 : c_Board_device σ (nI 1) (nI 2) = some (σ 7 3) := rfl
      have e2 : m_device τ (nI 1) (nI 2) = cb_bo (m_vectorOf τ 1) fun c => some c := rfl
      rw [e1, e2, v_7 h]; exact ⟨_, rfl, rfl, trivial⟩
    · have e1 : c_Board_device σ (nI 1) (nI 3) = some (σ 7 4) := rfl
      have e2 : m_device τ (nI 1) (nI 3) = some (τ 7 1) := rfl
      rw [e1, e2, show σ 7 4 = τ 7 1 from h.2.2.2.2.2.1.2.2.2.1]; exact ⟨_, rfl, rfl, trivial⟩
    · have e1 : c_Board_device σ (nI 1) (nI 4) = some (if σ 7 7 = 0 then (0 : Int32) else 1) := rfl
      have e2 : m_device τ (nI 1) (nI 4) = some (if τ 9 1 = 0 then (0 : Int32) else 1) := rfl
      rw [e1, e2, show σ 7 7 = τ 9 1 from h.2.2.2.2.2.1.2.2.2.2.2.2.1]; exact ⟨_, rfl, rfl, trivial⟩
    · have e1 : c_Board_device σ (nI 1) (nI 5) = some (σ 7 6) := rfl
      have e2 : m_device τ (nI 1) (nI 5) = some (τ 8 1) := rfl
      rw [e1, e2, show σ 7 6 = τ 8 1 from h.2.2.2.2.2.1.2.2.2.2.2.1]; exact ⟨_, rfl, rfl, trivial⟩
  · have e1 : c_Board_device σ (nI 1) v = if v = 0 then some (if σ 7 1 = 0 then (0 : Int32) else 1) else if v = 1 then some (if σ 7 2 = 0 then (0 : Int32) else 1) else if v = 2 then some (σ 7 3) else cb_bo (c_Channel_detail 7 σ v) fun c => some c := rfl
    have e2 : m_device τ (nI 1) v = some (-1) := by
      unfold m_device
      rw [if_neg (show ¬ nI 1 < 0 by decide), if_neg (show ¬ (3 : Int32) < nI 1 by decide)]
      rcases h1 with e | ⟨e, e1⟩
      · rw [if_pos e]
      · rw [if_neg e, if_neg (show ¬ v ≤ 5 from e1)]
    rw [e1, e2, if_neg (show ¬ v = 0 from h2 0 (by omega)), if_neg (show ¬ v = 1 from h2 1 (by omega)), if_neg (show ¬ v = 2 from h2 2 (by omega))]
    unfold c_Channel_detail
    rw [if_neg (show ¬ v = 3 from h2 3 (by omega)), if_neg (show ¬ v = 4 from h2 4 (by omega)), if_neg (show ¬ v = 5 from h2 5 (by omega))]
    exact ⟨_, rfl, rfl, trivial⟩
theorem s_dev8 (h : cb_R g σ τ) (v : Int32) : cb_Se (c_Board_device σ (nI 2) v) (m_device τ (nI 2) v) cb_Tv := by
  rcases cb_split 5 (by omega) v with ⟨n, hn, rfl⟩ | ⟨h1, h2⟩
  · rcases (show n = 0 ∨ n = 1 ∨ n = 2 ∨ n = 3 ∨ n = 4 ∨ n = 5 by omega) with rfl | rfl | rfl | rfl | rfl | rfl
    · have e1 : c_Board_device σ (nI 2) (nI 0) = some (if σ 8 1 = 0 then (0 : Int32) else 1) := rfl
      have e2 : m_device τ (nI 2) (nI 0) = some (if τ 3 2 = 0 then (0 : Int32) else 1) := rfl
      rw [e1, e2, show σ 8 1 = τ 3 2 from pe_r8 h]; exact ⟨_, rfl, rfl, trivial⟩
    · have e1 : c_Board_device σ (nI 2) (nI 1) = some (if σ 8 2 = 0 then (0 : Int32) else 1) := rfl
      have e2 : m_device τ (nI 2) (nI 1) = some (if τ 4 2 = 0 then (0 : Int32) else 1) := rfl
      rw [e1, e2, show σ 8 2 = τ 4 2 from pe_s8 h]; exact ⟨_, rfl, rfl, trivial⟩
    · have e1 : c_Board_device σ (nI 2) (nI 2) = some (σ 8 3) := rfl
      have e2 : m_device τ (nI 2) (nI 2) = cb_bo (m_vectorOf τ 2) fun c => some c := rfl
      rw [e1, e2, v_8 h]; exact ⟨_, rfl, rfl, trivial⟩
    · have e1 : c_Board_device σ (nI 2) (nI 3) = some (σ 8 4) := rfl
      have e2 : m_device τ (nI 2) (nI 3) = some (τ 13 0) := rfl
      rw [e1, e2, show σ 8 4 = τ 13 0 from h.2.2.2.2.2.2.1.2.2.2.2.1]; exact ⟨_, rfl, rfl, trivial⟩
    · have e1 : c_Board_device σ (nI 2) (nI 4) = some (if σ 8 5 = 0 then (0 : Int32) else 1) := rfl
      have e2 : m_device τ (nI 2) (nI 4) = some (if τ 20 0 = 0 then (0 : Int32) else 1) := rfl
      rw [e1, e2, show σ 8 5 = τ 20 0 from h.2.2.2.2.2.2.1.2.2.2.2.2.1]; exact ⟨_, rfl, rfl, trivial⟩
    · have e1 : c_Board_device σ (nI 2) (nI 5) = some (σ 8 6) := rfl
      have e2 : m_device τ (nI 2) (nI 5) = some (τ 21 0) := rfl
      rw [e1, e2, show σ 8 6 = τ 21 0 from h.2.2.2.2.2.2.1.2.2.2.2.2.2.1]; exact ⟨_, rfl, rfl, trivial⟩
  · have e1 : c_Board_device σ (nI 2) v = if v = 0 then some (if σ 8 1 = 0 then (0 : Int32) else 1) else if v = 1 then some (if σ 8 2 = 0 then (0 : Int32) else 1) else if v = 2 then some (σ 8 3) else cb_bo (c_Port_detail 8 σ v) fun c => some c := rfl
    have e2 : m_device τ (nI 2) v = some (-1) := by
      unfold m_device
      rw [if_neg (show ¬ nI 2 < 0 by decide), if_neg (show ¬ (3 : Int32) < nI 2 by decide)]
      rcases h1 with e | ⟨e, e1⟩
      · rw [if_pos e]
      · rw [if_neg e, if_neg (show ¬ v ≤ 5 from e1)]
    rw [e1, e2, if_neg (show ¬ v = 0 from h2 0 (by omega)), if_neg (show ¬ v = 1 from h2 1 (by omega)), if_neg (show ¬ v = 2 from h2 2 (by omega))]
    unfold c_Port_detail
    rw [if_neg (show ¬ v = 3 from h2 3 (by omega)), if_neg (show ¬ v = 4 from h2 4 (by omega)), if_neg (show ¬ v = 5 from h2 5 (by omega))]
    exact ⟨_, rfl, rfl, trivial⟩
theorem s_dev9 (h : cb_R g σ τ) (v : Int32) : cb_Se (c_Board_device σ (nI 3) v) (m_device τ (nI 3) v) cb_Tv := by
  rcases cb_split 5 (by omega) v with ⟨n, hn, rfl⟩ | ⟨h1, h2⟩
  · rcases (show n = 0 ∨ n = 1 ∨ n = 2 ∨ n = 3 ∨ n = 4 ∨ n = 5 by omega) with rfl | rfl | rfl | rfl | rfl | rfl
    · have e1 : c_Board_device σ (nI 3) (nI 0) = some (if σ 9 1 = 0 then (0 : Int32) else 1) := rfl
      have e2 : m_device τ (nI 3) (nI 0) = some (if τ 3 3 = 0 then (0 : Int32) else 1) := rfl
      rw [e1, e2, show σ 9 1 = τ 3 3 from pe_r9 h]; exact ⟨_, rfl, rfl, trivial⟩
    · have e1 : c_Board_device σ (nI 3) (nI 1) = some (if σ 9 2 = 0 then (0 : Int32) else 1) := rfl
      have e2 : m_device τ (nI 3) (nI 1) = some (if τ 4 3 = 0 then (0 : Int32) else 1) := rfl
      rw [e1, e2, show σ 9 2 = τ 4 3 from pe_s9 h]; exact ⟨_, rfl, rfl, trivial⟩
    · have e1 : c_Board_device σ (nI 3) (nI 2) = some (σ 9 3) := rfl
      have e2 : m_device τ (nI 3) (nI 2) = cb_bo (m_vectorOf τ 3) fun c => some c := rfl
      rw [e1, e2, v_9 h]; exact ⟨_, rfl, rfl, trivial⟩
    · have e1 : c_Board_device σ (nI 3) (nI 3) = some (σ 9 4) := rfl
      have e2 : m_device τ (nI 3) (nI 3) = some (τ 13 1) := rfl
      rw [e1, e2, show σ 9 4 = τ 13 1 from h.2.2.2.2.2.2.2.1.2.2.2.2.1]; exact ⟨_, rfl, rfl, trivial⟩
    · have e1 : c_Board_device σ (nI 3) (nI 4) = some (if σ 9 5 = 0 then (0 : Int32) else 1) := rfl
      have e2 : m_device τ (nI 3) (nI 4) = some (if τ 20 1 = 0 then (0 : Int32) else 1) := rfl
      rw [e1, e2, show σ 9 5 = τ 20 1 from h.2.2.2.2.2.2.2.1.2.2.2.2.2.1]; exact ⟨_, rfl, rfl, trivial⟩
    · have e1 : c_Board_device σ (nI 3) (nI 5) = some (σ 9 6) := rfl
      have e2 : m_device τ (nI 3) (nI 5) = some (τ 21 1) := rfl
      rw [e1, e2, show σ 9 6 = τ 21 1 from h.2.2.2.2.2.2.2.1.2.2.2.2.2.2.1]; exact ⟨_, rfl, rfl, trivial⟩
  · have e1 : c_Board_device σ (nI 3) v = if v = 0 then some (if σ 9 1 = 0 then (0 : Int32) else 1) else if v = 1 then some (if σ 9 2 = 0 then (0 : Int32) else 1) else if v = 2 then some (σ 9 3) else cb_bo (c_Port_detail 9 σ v) fun c => some c := rfl
    have e2 : m_device τ (nI 3) v = some (-1) := by
      unfold m_device
      rw [if_neg (show ¬ nI 3 < 0 by decide), if_neg (show ¬ (3 : Int32) < nI 3 by decide)]
      rcases h1 with e | ⟨e, e1⟩
      · rw [if_pos e]
      · rw [if_neg e, if_neg (show ¬ v ≤ 5 from e1)]
    rw [e1, e2, if_neg (show ¬ v = 0 from h2 0 (by omega)), if_neg (show ¬ v = 1 from h2 1 (by omega)), if_neg (show ¬ v = 2 from h2 2 (by omega))]
    unfold c_Port_detail
    rw [if_neg (show ¬ v = 3 from h2 3 (by omega)), if_neg (show ¬ v = 4 from h2 4 (by omega)), if_neg (show ¬ v = 5 from h2 5 (by omega))]
    exact ⟨_, rfl, rfl, trivial⟩
theorem s_device (h : cb_R g σ τ) (v w : Int32) : cb_Se (c_Board_device σ v w) (m_device τ v w) cb_Tv := by
  rcases cb_split 3 (by omega) v with ⟨n, hn, rfl⟩ | ⟨h1, h2⟩
  · rcases (show n = 0 ∨ n = 1 ∨ n = 2 ∨ n = 3 by omega) with rfl | rfl | rfl | rfl
    · exact s_dev6 h w
    · exact s_dev7 h w
    · exact s_dev8 h w
    · exact s_dev9 h w
  · unfold c_Board_device m_device
    rcases h1 with e | ⟨e, e1⟩
    · rw [if_pos e, if_pos e]; exact ⟨_, rfl, rfl, trivial⟩
    · obtain ⟨n, hn, rfl⟩ := nI_of e
      have e1 : 3 < n := by
        apply Nat.lt_of_not_le
        intro q
        exact e1 (nI_le q (by omega))
      have a1 : ¬ nI n < 4 := nI_nlt (b := 4) (by omega) hn
      have a2 : (3 : Int32) < nI n := nI_lt (a := 3) e1 hn
      rw [if_neg e, if_neg e, if_neg a1, if_pos a2]; exact ⟨_, rfl, rfl, trivial⟩
end P27
