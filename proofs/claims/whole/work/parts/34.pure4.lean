/-! jumps, loads and stores, calls, pops: groups of instructions that do the same steps on both sides -/
section P4
variable {g : Int32 × Int32 × Int32} {σ τ : cb_S}
/-- a number of clocks -/
def cb_ck (r : Int32) : Prop := ∃ n : Nat, n < 32 ∧ r = nI n
theorem ck_n (n : Nat) (h : n < 32) : cb_ck (nI n) := ⟨n, h, rfl⟩
theorem ck_i {c : Prop} [Decidable c] {x y : Int32} (h : cb_ck x) (k : cb_ck y) : cb_ck (if c then x else y) := by
  by_cases hc : c
  · rw [if_pos hc]; exact h
  · rw [if_neg hc]; exact k
/-- an instruction's end -/
def cb_P (g : Int32 × Int32 × Int32) : Int32 → cb_S → cb_S → Prop := fun r σ τ => cb_ck r ∧ cb_R g σ τ
theorem s_some {r : Int32} {n : Nat} (hn : n < 32) (e : r = nI n) (h : cb_R g σ τ) : cb_Sm (some (r, σ)) (some (r, τ)) (cb_P g) := ⟨r, σ, τ, rfl, rfl, ⟨n, hn, e⟩, h⟩
theorem s_id {x y : Option (Int32 × cb_S)} {P : Int32 → cb_S → cb_S → Prop} (h : cb_Sm x y P) : cb_Sm (cb_b2 x fun c σ => some (c, σ)) (cb_b2 y fun c σ => some (c, σ)) P := by
  obtain ⟨r, σ, τ, h1, h2, h3⟩ := h
  exact ⟨r, σ, τ, by rw [h1]; rfl, by rw [h2]; rfl, h3⟩
theorem j_off : ∀ n, n < 256 → (nI n).toInt8.toInt32 = if nI n ≤ (127 : Int32) then nI n else nI n - (256 : Int32) := by decide +kernel
theorem m_L144 (v1 x3 y0 : Int32) : m_jumps_L144 v1 τ x3 y0 = some ((if v1 = (2 : Int32) then (if x3 = 0 then (8 : Int32) else (13 : Int32)) else (if x3 = 0 then (7 : Int32) else (12 : Int32))), cb_up τ 0 3 y0) := rfl
/-- the end of a relative jump, its offset read -/
theorem s_goes (h : cb_R g σ τ) {v1 x3 t : Int32} (hv : ¬ v1 = 2) : cb_Sm (if x3 = 0 then (some ((7 : Int32), σ)) else (cb_let (cb_up σ 10 3 (((σ 10 3) + t) &&& (65535 : Int32))) fun σ5 => (some ((12 : Int32), σ5)))) (m_jumps_L123 v1 τ t x3) (cb_P g) := by
  unfold m_jumps_L123
  by_cases e : x3 = 0
  · rw [if_pos e, if_pos e, m_L144, if_neg hv, if_pos e]
    exact ⟨7, _, _, rfl, rfl, ck_n 7 (by omega), h⟩
  · rw [if_neg e, if_neg e, m_L144, if_neg hv, if_neg e, ← pe_pc h]
    exact ⟨12, _, _, rfl, rfl, ck_n 12 (by omega), ps_pc h (cb_65535 _)⟩
theorem s_goOn (h : cb_R g σ τ) {v1 x3 : Int32} (hv : ¬ v1 = 2) : cb_Sm (c_Processor_goOn σ x3) (cb_b2 (m_next τ) fun c9 τ9 => cb_let (if c9 ≤ (127 : Int32) then c9 else (c9 - (256 : Int32))) fun t11 => m_jumps_L123 v1 τ9 t11 x3) (cb_P g) := by
  unfold c_Processor_goOn
  refine cb_Sm_b2 (s_next h) fun r σ1 τ1 h1 => ?_
  obtain ⟨⟨n, hn, rfl⟩, h1⟩ := h1
  rw [cb_let_e, cb_let_e, j_off n hn]
  exact s_goes h1 hv
theorem s_jumps (h : cb_R g σ τ) {y : Nat} (hy : y < 8) : cb_Sm (c_Processor_relative σ (nI y)) (m_jumps τ (nI y)) (cb_P g) := by
  have e1 : cb_Sm (c_Processor_relative σ (nI 1)) (m_jumps τ (nI 1)) (cb_P g) := by
    obtain ⟨a, ea1, ea2, -⟩ := s_af h
    obtain ⟨b, eb1, eb2, -⟩ := s_af2 h
    obtain ⟨σ1, τ1, f1, f2, h1⟩ := s_putAf h b
    obtain ⟨σ2, τ2, g1, g2, h2⟩ := s_putAf2 h1 a
    have ex : c_Registers_exchange σ (nI 3) = some σ2 := (cb_bo_e ea1).trans ((cb_bo_e eb1).trans ((cb_bo_e f1).trans (cb_bo_e g1)))
    have w : c_Processor_relative σ (nI 1) = cb_bo (c_Registers_exchange σ (nI 3)) fun σ => some ((4 : Int32), σ) := rfl
    have w2 : m_jumps τ (nI 1) = cb_bo (m_af τ (nI 0)) fun a => cb_bo (m_af τ (nI 8)) fun b => cb_bo (m_putAf τ (nI 0) b) fun τ1 => cb_bo (m_putAf τ1 (nI 8) a) fun τ2 => some ((4 : Int32), τ2) := rfl
    rw [w, w2, cb_bo_e ex, cb_bo_e ea2, cb_bo_e eb2, cb_bo_e f2, cb_bo_e g2]
    exact ⟨4, σ2, τ2, rfl, rfl, ck_n 4 (by omega), h2⟩
  have e2 : cb_Sm (c_Processor_relative σ (nI 2)) (m_jumps τ (nI 2)) (cb_P g) := by
    obtain ⟨r, σ1, τ1, a1, a2, ⟨n, hn, rfl⟩, h1⟩ := s_next (ps_reg h (k := 0) (v := (σ 12 0 - 1) &&& 255) (by omega) (cb_255 _) (by omega))
    have b0 : σ 12 0 = τ 2 0 := pe_reg h (by omega)
    -- the reference reads the offset first
    have a3 : m_next τ = some (nI n, cb_up τ 0 3 ((τ 0 3 + 1) &&& 65535)) := by
      unfold m_next m_byteAt at a2 ⊢
      have q := Option.some.inj a2
      have q1 : τ 1 ((τ 0 3) &&& 1023).toNatClampNeg = nI n := (Prod.mk.inj q).1
      show some (τ 1 ((τ 0 3) &&& 1023).toNatClampNeg, cb_up τ 0 3 ((τ 0 3 + 1) &&& 65535)) = _
      rw [q1]
    have a4 : c_Processor_nextByte (cb_up σ 12 0 ((σ 12 0 - 1) &&& 255)) = some (nI n, cb_up (cb_up σ 12 0 ((σ 12 0 - 1) &&& 255)) 10 3 ((σ 10 3 + 1) &&& 65535)) := by
      rw [a1]
      unfold c_Processor_nextByte at a1
      have q := (Prod.mk.inj (Option.some.inj a1)).2
      rw [← q]
      rfl
    have hR : cb_R g (cb_up (cb_up σ 12 0 ((σ 12 0 - 1) &&& 255)) 10 3 ((σ 10 3 + 1) &&& 65535)) (cb_up (cb_up τ 0 3 ((τ 0 3 + 1) &&& 65535)) 2 0 ((τ 2 0 - 1) &&& 255)) := by
      have := ps_pc (ps_reg h (k := 0) (v := (σ 12 0 - 1) &&& 255) (by omega) (cb_255 _) (by omega)) (cb_65535 (σ 10 3 + 1))
      rw [b0, pe_pc h] at this
      rw [b0, pe_pc h]
      exact this
    have w : m_jumps τ (nI 2) = cb_b2 (m_next τ) fun c9 τ9 => cb_let (if c9 ≤ (127 : Int32) then c9 else (c9 - (256 : Int32))) fun t11 => cb_let (cb_up τ9 2 0 (((τ9 2 0) - (1 : Int32)) &&& (255 : Int32))) fun τ19 => cb_let (if (τ19 2 0) = 0 then (0 : Int32) else (1 : Int32)) fun t22 => m_jumps_L123 2 τ19 t11 t22 := rfl
    have w2 : c_Processor_relative σ (nI 2) = cb_b2 (c_Processor_goOn (cb_up σ 12 0 ((σ 12 0 - 1) &&& 255)) (if ((σ 12 0 - 1) &&& 255) = 0 then (0 : Int32) else (1 : Int32))) fun c8 σc8 => (some ((c8 + (1 : Int32)), σc8)) := rfl
    rw [w, w2, cb_b2_e a3]
    unfold c_Processor_goOn
    rw [cb_b2_e a4]
    rw [cb_let_e, cb_let_e, cb_let_e, cb_let_e, j_off n hn]
    generalize (if nI n ≤ (127 : Int32) then nI n else nI n - (256 : Int32)) = t
    show cb_Sm (cb_b2 (if (if ((σ 12 0 - 1) &&& 255) = 0 then (0 : Int32) else 1) = 0 then _ else _) _) (m_jumps_L123 2 (cb_up (cb_up τ 0 3 ((τ 0 3 + 1) &&& 65535)) 2 0 ((τ 2 0 - 1) &&& 255)) t (if ((τ 2 0 - 1) &&& 255) = 0 then 0 else 1)) _
    rw [b0] at hR ⊢
    unfold m_jumps_L123
    by_cases e : ((τ 2 0 - 1) &&& 255) = 0
    · rw [if_pos e, if_pos rfl, if_pos rfl, m_L144]
      exact ⟨8, _, _, rfl, rfl, ck_n 8 (by omega), hR⟩
    · rw [if_neg e, if_neg (show ¬ (1 : Int32) = 0 by decide), if_neg (show ¬ (1 : Int32) = 0 by decide), m_L144]
      refine ⟨13, _, _, rfl, rfl, ck_n 13 (by omega), ?_⟩
      have := ps_pc hR (cb_65535 (((σ 10 3 + 1) &&& 65535) + t))
      rw [pe_pc h] at this ⊢
      exact this
  have e4 : ∀ y, 4 ≤ y → y < 8 → cb_Sm (c_Processor_relative σ (nI y)) (m_jumps τ (nI y)) (cb_P g) := by
    intro y h4 h8
    obtain ⟨c, d1, -, hc⟩ := s_cond h (q := y - 4) (by omega)
    have w : c_Processor_relative σ (nI y) = cb_b2 (c_Processor_goOn σ c) fun c σ => some (c, σ) := by
      have w0 : c_Processor_relative σ (nI y) = cb_bo (c_Processor_condition σ (nI (y - 4))) fun c => cb_b2 (c_Processor_goOn σ c) fun c σ => some (c, σ) := by
        rcases (show y = 4 ∨ y = 5 ∨ y = 6 ∨ y = 7 by omega) with rfl | rfl | rfl | rfl <;> rfl
      rw [w0, cb_bo_e d1]
    have w2 : m_jumps τ (nI y) = cb_b2 (cb_b2 (m_next τ) fun c9 τ9 => cb_let (if c9 ≤ (127 : Int32) then c9 else (c9 - (256 : Int32))) fun t11 => m_jumps_L123 (nI y) τ9 t11 c) fun c σ => some (c, σ) := by
      obtain ⟨r, σ1, τ1, f1, f2, -, h1⟩ := s_next h
      have d2 : m_condition τ1 (nI (y - 4)) = some c := by
        obtain ⟨c', k1, k2, -⟩ := s_cond h1 (q := y - 4) (by omega)
        have : c_Processor_condition σ1 (nI (y - 4)) = c_Processor_condition σ (nI (y - 4)) := by
          unfold c_Processor_nextByte at f1
          have q := (Prod.mk.inj (Option.some.inj f1)).2
          rw [← q]; rfl
        rw [this, d1] at k1
        rw [k2, ← k1]
      have w3 : m_jumps τ (nI y) = cb_b2 (m_next τ) fun c9 τ9 => cb_let (if c9 ≤ (127 : Int32) then c9 else (c9 - (256 : Int32))) fun t11 => cb_bo (m_condition τ9 (nI (y - 4))) fun c18 => m_jumps_L123 (nI y) τ9 t11 c18 := by
        rcases (show y = 4 ∨ y = 5 ∨ y = 6 ∨ y = 7 by omega) with rfl | rfl | rfl | rfl <;> rfl
      rw [w3, f2]
      show (cb_bo (m_condition τ1 (nI (y - 4))) fun c18 => m_jumps_L123 (nI y) τ1 _ c18) = cb_b2 (m_jumps_L123 (nI y) τ1 _ c) _
      rw [cb_bo_e d2]
      unfold m_jumps_L123
      by_cases e : c = 0
      · rw [if_pos e, m_L144]; rfl
      · rw [if_neg e, m_L144]; rfl
    rw [w, w2]
    exact s_id (s_goOn h (by rcases (show y = 4 ∨ y = 5 ∨ y = 6 ∨ y = 7 by omega) with rfl | rfl | rfl | rfl <;> decide))
  have e3 : cb_Sm (c_Processor_relative σ (nI 3)) (m_jumps τ (nI 3)) (cb_P g) := by
    have w : c_Processor_relative σ (nI 3) = cb_b2 (c_Processor_goOn σ 1) fun c σ => some (c, σ) := rfl
    have w2 : m_jumps τ (nI 3) = cb_b2 (m_next τ) fun c9 τ9 => cb_let (if c9 ≤ (127 : Int32) then c9 else (c9 - (256 : Int32))) fun t11 => m_jumps_L123 (nI 3) τ9 t11 1 := rfl
    have k := s_goOn (v1 := nI 3) (x3 := 1) h (by decide)
    rw [w, w2]
    obtain ⟨r, σ1, τ1, h1, h2, h3⟩ := k
    exact ⟨r, σ1, τ1, by rw [h1]; rfl, h2, h3⟩
  rcases cb_lt8 hy with rfl | rfl | rfl | rfl | rfl | rfl | rfl | rfl
  · exact ⟨4, σ, τ, rfl, rfl, ck_n 4 (by omega), h⟩
  · exact e1
  · exact e2
  · exact e3
  · exact e4 4 (by omega) (by omega)
  · exact e4 5 (by omega) (by omega)
  · exact e4 6 (by omega) (by omega)
  · exact e4 7 (by omega) (by omega)
end P4
