/-! memory, next, words, the stack, pairs of registers, single registers: the two systems do the same -/
section P2
variable {g : Int32 × Int32 × Int32} {σ τ : cb_S}
theorem pu_hit (f : Nat → Int32) (k : Nat) (v : Int32) : upd f k v k = v := by simp [upd]
theorem pu_ne (f : Nat → Int32) {i k : Nat} (v : Int32) (h : i ≠ k) : upd f k v i = f i := by simp [upd, h]
theorem pu_by {f : Nat → Int32} {k : Nat} {v : Int32} (h : ∀ i, cb_by (f i)) (hv : cb_by v) : ∀ i, cb_by (upd f k v i) := by
  intro i
  by_cases hi : i = k
  · subst hi; rw [pu_hit]; exact hv
  · rw [pu_ne f v hi]; exact h i
theorem ps_mem (h : cb_R g σ τ) {i : Nat} {v : Int32} (hv : cb_by v) : cb_R g (cb_up σ 4 i v) (cb_up τ 1 i v) :=
  ⟨⟨show upd (σ 4) i v = upd (τ 1) i v by rw [h.1.1], pu_by (f := σ 4) h.1.2 hv⟩, h.2⟩
theorem ps_reg (h : cb_R g σ τ) {k : Nat} {v : Int32} (hk : k < 8) (hv : cb_by v) (h6 : k = 6 → v &&& 215 = v) : cb_R g (cb_up σ 12 k v) (cb_up τ 2 k v) := by
  refine ⟨h.1, ⟨fun i hi => ?_, fun i hi => ?_, ?_, h.2.1.2.2.2⟩, h.2.2⟩
  · show upd (σ 12) k v i = upd (τ 2) k v i ∧ cb_by (upd (σ 12) k v i)
    by_cases e : i = k
    · subst e; rw [pu_hit, pu_hit]; exact ⟨rfl, hv⟩
    · rw [pu_ne _ _ e, pu_ne _ _ e]; exact h.2.1.1 i hi
  · show σ 14 i = upd (τ 2) k v (8 + i) ∧ cb_by (σ 14 i)
    rw [pu_ne _ _ (show 8 + i ≠ k by omega)]; exact h.2.1.2.1 i hi
  · show upd (σ 12) k v 6 &&& 215 = upd (σ 12) k v 6
    by_cases e : 6 = k
    · subst e; rw [pu_hit]; exact h6 rfl
    · rw [pu_ne _ _ e]; exact h.2.1.2.2.1
theorem ps_reg2 (h : cb_R g σ τ) {k : Nat} {v : Int32} (hk : k < 8) (hv : cb_by v) (h6 : k = 6 → v &&& 215 = v) : cb_R g (cb_up σ 14 k v) (cb_up τ 2 (8 + k) v) := by
  refine ⟨h.1, ⟨fun i hi => ?_, fun i hi => ?_, h.2.1.2.2.1, ?_⟩, h.2.2⟩
  · show σ 12 i = upd (τ 2) (8 + k) v i ∧ cb_by (σ 12 i)
    rw [pu_ne _ _ (show i ≠ 8 + k by omega)]; exact h.2.1.1 i hi
  · show upd (σ 14) k v i = upd (τ 2) (8 + k) v (8 + i) ∧ cb_by (upd (σ 14) k v i)
    by_cases e : i = k
    · subst e; rw [pu_hit, pu_hit]; exact ⟨rfl, hv⟩
    · rw [pu_ne _ _ e, pu_ne _ _ (show 8 + i ≠ 8 + k by omega)]; exact h.2.1.2.1 i hi
  · show upd (σ 14) k v 6 &&& 215 = upd (σ 14) k v 6
    by_cases e : 6 = k
    · subst e; rw [pu_hit]; exact h6 rfl
    · rw [pu_ne _ _ e]; exact h.2.1.2.2.2
theorem ps_sp (h : cb_R g σ τ) {v : Int32} (hv : cb_wo v) : cb_R g (cb_up σ 10 2 v) (cb_up τ 0 2 v) :=
  ⟨h.1, h.2.1, ⟨rfl, h.2.2.1.2.1, h.2.2.1.2.2.1, hv, h.2.2.1.2.2.2.2⟩, h.2.2.2⟩
theorem ps_pc (h : cb_R g σ τ) {v : Int32} (hv : cb_wo v) : cb_R g (cb_up σ 10 3 v) (cb_up τ 0 3 v) :=
  ⟨h.1, h.2.1, ⟨h.2.2.1.1, rfl, h.2.2.1.2.2.1, h.2.2.1.2.2.2.1, hv, h.2.2.1.2.2.2.2.2⟩, h.2.2.2⟩
theorem ps_page (h : cb_R g σ τ) {v : Int32} (hv : cb_by v) : cb_R g (cb_up σ 10 4 v) (cb_up τ 0 4 v) :=
  ⟨h.1, h.2.1, ⟨h.2.2.1.1, h.2.2.1.2.1, rfl, h.2.2.1.2.2.2.1, h.2.2.1.2.2.2.2.1, hv⟩, h.2.2.2⟩
theorem pe_sp (h : cb_R g σ τ) : σ 10 2 = τ 0 2 := h.2.2.1.1
theorem pe_pc (h : cb_R g σ τ) : σ 10 3 = τ 0 3 := h.2.2.1.2.1
theorem pe_page (h : cb_R g σ τ) : σ 10 4 = τ 0 4 := h.2.2.1.2.2.1
theorem pe_reg (h : cb_R g σ τ) {k : Nat} (hk : k < 8) : σ 12 k = τ 2 k := (h.2.1.1 k hk).1
theorem pe_reg2 (h : cb_R g σ τ) {k : Nat} (hk : k < 8) : σ 14 k = τ 2 (8 + k) := (h.2.1.2.1 k hk).1
theorem pb_reg (h : cb_R g σ τ) {k : Nat} (hk : k < 8) : cb_by (σ 12 k) := (h.2.1.1 k hk).2
theorem pb_reg2 (h : cb_R g σ τ) {k : Nat} (hk : k < 8) : cb_by (σ 14 k) := (h.2.1.2.1 k hk).2
theorem cb_word2 {a b : Nat} : (256 : Int32) * nI a + nI b = nI (b + 256 * a) := by
  rw [show (256 : Int32) = nI 256 from rfl, pk_mul, nI_add, Nat.add_comm]
theorem cb_word3 {a b : Nat} : nI a + (256 : Int32) * nI b = nI (a + 256 * b) := by
  rw [show (256 : Int32) = nI 256 from rfl, pk_mul, nI_add]
theorem s_byteAt (h : cb_R g σ τ) (x : Int32) : cb_Se (c_Memory_byteAt σ x) (m_byteAt τ x) cb_by :=
  ⟨σ 4 (x &&& 1023).toNatClampNeg, rfl, by unfold m_byteAt; rw [h.1.1], h.1.2 _⟩
theorem s_putByte (h : cb_R g σ τ) (x v : Int32) : cb_Sv (c_Memory_putByte σ x v) (m_putByte τ x v) (cb_R g) :=
  ⟨_, _, rfl, rfl, ps_mem h (cb_255 v)⟩
theorem s_next (h : cb_R g σ τ) : cb_Sm (c_Processor_nextByte σ) (m_next τ) (fun r σ' τ' => cb_by r ∧ cb_R g σ' τ') := by
  unfold c_Processor_nextByte m_next
  rw [← pe_pc h]
  refine cb_Sm_be (s_byteAt h _) fun r hr => ⟨_, _, _, rfl, rfl, hr, ps_pc h (cb_65535 _)⟩
theorem s_nextWord (h : cb_R g σ τ) : cb_Sm (c_Processor_nextWord σ) (m_nextWord τ) (fun r σ' τ' => cb_wo r ∧ cb_R g σ' τ') := by
  unfold c_Processor_nextWord m_nextWord
  refine cb_Sm_b2 (s_next h) fun r1 σ1 τ1 h1 => cb_Sm_b2 (s_next h1.2) fun r2 σ2 τ2 h2 => ?_
  obtain ⟨⟨a, ha, rfl⟩, -⟩ := h1
  obtain ⟨⟨b, hb, rfl⟩, h2⟩ := h2
  exact ⟨nI (a + 256 * b), _, _, by rw [cb_word ha hb], by rw [cb_word3], ⟨_, by omega, rfl⟩, h2⟩
theorem s_wordAt (h : cb_R g σ τ) (x : Int32) : cb_Se (c_Memory_wordAt σ x) (m_wordAt τ x) cb_wo := by
  unfold c_Memory_wordAt m_wordAt
  refine cb_Se_be (s_byteAt h _) fun r1 h1 => cb_Se_be (s_byteAt h _) fun r2 h2 => ?_
  obtain ⟨a, ha, rfl⟩ := h1
  obtain ⟨b, hb, rfl⟩ := h2
  exact ⟨nI (a + 256 * b), by rw [cb_word ha hb], by rw [cb_word3], ⟨_, by omega, rfl⟩⟩
theorem s_putWord (h : cb_R g σ τ) (x v : Int32) : cb_Sv (c_Memory_putWord σ x v) (m_putWord τ x v) (cb_R g) := by
  unfold c_Memory_putWord m_putWord
  exact cb_Sv_bv (s_putByte h _ _) fun σ1 τ1 h1 => cb_Sv_bv (s_putByte h1 _ _) fun σ2 τ2 h2 => ⟨_, _, rfl, rfl, h2⟩
theorem s_push (h : cb_R g σ τ) (v : Int32) : cb_Sv (c_Processor_push σ v) (m_push τ v) (cb_R g) := by
  unfold c_Processor_push m_push
  rw [← pe_sp h]
  have h1 := ps_sp h (cb_65535 (σ 10 2 - 2))
  exact cb_Sv_bv (s_putWord h1 _ _) fun σ2 τ2 h2 => ⟨_, _, rfl, rfl, h2⟩
theorem s_pop (h : cb_R g σ τ) : cb_Sm (c_Processor_pop σ) (m_pop τ) (fun r σ' τ' => cb_wo r ∧ cb_R g σ' τ') := by
  unfold c_Processor_pop m_pop
  rw [← pe_sp h]
  exact cb_Sm_be (s_wordAt h _) fun r hr => ⟨_, _, _, rfl, rfl, hr, ps_sp h (cb_65535 _)⟩
theorem cp_0 : c_Bank_pair 11 σ (nI 0) = some ((σ 12 0 <<< ((8 : Int32) &&& 31)) ||| σ 12 1) := rfl
theorem cp_1 : c_Bank_pair 11 σ (nI 1) = some ((σ 12 2 <<< ((8 : Int32) &&& 31)) ||| σ 12 3) := rfl
theorem cp_2 : c_Bank_pair 11 σ (nI 2) = some ((σ 12 4 <<< ((8 : Int32) &&& 31)) ||| σ 12 5) := rfl
theorem cp_3 : c_Bank_pair 11 σ (nI 3) = some ((σ 12 7 <<< ((8 : Int32) &&& 31)) ||| σ 12 6) := rfl
theorem mp_0 : m_pair τ (nI 0) = some ((256 : Int32) * τ 2 0 + τ 2 1) := rfl
theorem mp_1 : m_pair τ (nI 2) = some ((256 : Int32) * τ 2 2 + τ 2 3) := rfl
theorem mp_2 : m_pair τ (nI 4) = some ((256 : Int32) * τ 2 4 + τ 2 5) := rfl
theorem mp_3 : m_af τ (nI 0) = some ((256 : Int32) * τ 2 7 + τ 2 6) := rfl
theorem s_two {x y : Int32} (hx : cb_by x) (hy : cb_by y) : cb_Se (some ((x <<< ((8 : Int32) &&& 31)) ||| y)) (some ((256 : Int32) * x + y)) cb_wo := by
  obtain ⟨a, ha, rfl⟩ := hx
  obtain ⟨b, hb, rfl⟩ := hy
  exact ⟨nI (b + 256 * a), by rw [cb_word' hb ha], by rw [cb_word2], ⟨_, by omega, rfl⟩⟩
theorem s_pair (h : cb_R g σ τ) {k : Nat} (hk : k < 3) : cb_Se (c_Bank_pair 11 σ (nI k)) (m_pair τ (nI (2 * k))) cb_wo := by
  rcases (show k = 0 ∨ k = 1 ∨ k = 2 by omega) with rfl | rfl | rfl
  · rw [cp_0, show nI (2 * 0) = nI 0 from rfl, mp_0, ← pe_reg h (show 0 < 8 by omega), ← pe_reg h (show 1 < 8 by omega)]
    exact s_two (pb_reg h (by omega)) (pb_reg h (by omega))
  · rw [cp_1, show nI (2 * 1) = nI 2 from rfl, mp_1, ← pe_reg h (show 2 < 8 by omega), ← pe_reg h (show 3 < 8 by omega)]
    exact s_two (pb_reg h (by omega)) (pb_reg h (by omega))
  · rw [cp_2, show nI (2 * 2) = nI 4 from rfl, mp_2, ← pe_reg h (show 4 < 8 by omega), ← pe_reg h (show 5 < 8 by omega)]
    exact s_two (pb_reg h (by omega)) (pb_reg h (by omega))
theorem s_af (h : cb_R g σ τ) : cb_Se (c_Bank_pair 11 σ (nI 3)) (m_af τ (nI 0)) cb_wo := by
  rw [cp_3, mp_3, ← pe_reg h (show 7 < 8 by omega), ← pe_reg h (show 6 < 8 by omega)]
  exact s_two (pb_reg h (by omega)) (pb_reg h (by omega))
theorem s_put2 (h : cb_R g σ τ) {i : Nat} (hi : i < 5) (v : Int32) : cb_R g (cb_up (cb_up σ 12 i (v >>> ((8 : Int32) &&& 31) &&& 255)) 12 (i + 1) (v &&& 255)) (cb_up (cb_up τ 2 i (v >>> ((8 : Int32) &&& 31) &&& 255)) 2 (i + 1) (v &&& 255)) :=
  ps_reg (ps_reg h (by omega) (cb_255 _) (by omega)) (by omega) (cb_255 _) (by omega)
theorem s_putPair (h : cb_R g σ τ) {k : Nat} (hk : k < 3) (v : Int32) : cb_Sv (c_Bank_putPair 11 σ (nI k) v) (m_putPair τ (nI (2 * k)) v) (cb_R g) := by
  rcases (show k = 0 ∨ k = 1 ∨ k = 2 by omega) with rfl | rfl | rfl
  · exact ⟨_, _, rfl, rfl, s_put2 h (i := 0) (by omega) v⟩
  · exact ⟨_, _, rfl, rfl, s_put2 h (i := 2) (by omega) v⟩
  · exact ⟨_, _, rfl, rfl, s_put2 h (i := 4) (by omega) v⟩
theorem pf_215 (v : Int32) : (v &&& 255) &&& 215 = v &&& 215 := by
  rw [Int32.and_assoc, show (255 : Int32) &&& 215 = 215 by decide +kernel]
theorem pf_215' (v : Int32) : (v &&& 215) &&& 215 = v &&& 215 := by
  rw [Int32.and_assoc, show (215 : Int32) &&& 215 = 215 by decide +kernel]
theorem pf_by (v : Int32) : cb_by (v &&& 215) := by
  rw [← pf_215', Int32.and_assoc]
  obtain ⟨n, hn, e⟩ := cb_255 (v &&& 215)
  rw [Int32.and_assoc, show (215 : Int32) &&& 255 = 215 by decide +kernel] at e
  rw [show (215 : Int32) &&& 215 = 215 by decide +kernel]
  exact ⟨n, hn, e⟩
theorem s_putAf (h : cb_R g σ τ) (v : Int32) : cb_Sv (c_Bank_putPair 11 σ (nI 3) v) (m_putAf τ (nI 0) v) (cb_R g) := by
  refine ⟨cb_up (cb_up σ 12 7 (v >>> ((8 : Int32) &&& 31) &&& 255)) 12 6 ((v &&& 255) &&& 215), cb_up (cb_up τ 2 7 (v >>> ((8 : Int32) &&& 31) &&& 255)) 2 6 (v &&& 215), rfl, rfl, ?_⟩
  rw [pf_215]
  exact ps_reg (ps_reg h (by omega) (cb_255 _) (by omega)) (by omega) (pf_by _) (fun _ => pf_215' _)
end P2
