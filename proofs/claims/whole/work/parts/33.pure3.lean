/-! single registers, wide ones, conditions, exchanges, relative jumps -/
section P3
variable {g : Int32 × Int32 × Int32} {σ τ : cb_S}
theorem by_255 {v : Int32} (h : cb_by v) : v &&& 255 = v := by
  obtain ⟨n, hn, rfl⟩ := h
  rw [pk_andN (by omega) 8 (m := 255) (by decide +kernel), Nat.mod_eq_of_lt hn]
theorem by_lt {n : Nat} (h : n < 256) : cb_by (nI n) := ⟨n, h, rfl⟩
theorem cb_lt8 {q : Nat} (h : q < 8) : q = 0 ∨ q = 1 ∨ q = 2 ∨ q = 3 ∨ q = 4 ∨ q = 5 ∨ q = 6 ∨ q = 7 := by omega
theorem s_Se (x y : Int32) {P : Int32 → Prop} (e : x = y) (h : P x) : cb_Se (some x) (some y) P := ⟨x, rfl, by rw [e], h⟩
theorem s_read (h : cb_R g σ τ) {q : Nat} (hq : q < 8) : cb_Se (c_Processor_read σ (nI q)) (m_get τ (nI q)) cb_by := by
  have hM : cb_Se (c_Processor_read σ (nI 6)) (m_get τ (nI 6)) cb_by :=
    cb_Se_be (s_pair h (k := 2) (by omega)) fun r _ => cb_Se_be (s_byteAt h r) fun r hr => ⟨_, rfl, rfl, hr⟩
  rcases cb_lt8 hq with rfl | rfl | rfl | rfl | rfl | rfl | rfl | rfl
  · exact s_Se (σ 12 0) (τ 2 0) (pe_reg h hq) (pb_reg h hq)
  · exact s_Se (σ 12 1) (τ 2 1) (pe_reg h hq) (pb_reg h hq)
  · exact s_Se (σ 12 2) (τ 2 2) (pe_reg h hq) (pb_reg h hq)
  · exact s_Se (σ 12 3) (τ 2 3) (pe_reg h hq) (pb_reg h hq)
  · exact s_Se (σ 12 4) (τ 2 4) (pe_reg h hq) (pb_reg h hq)
  · exact s_Se (σ 12 5) (τ 2 5) (pe_reg h hq) (pb_reg h hq)
  · exact hM
  · exact s_Se (σ 12 7) (τ 2 7) (pe_reg h hq) (pb_reg h hq)
theorem s_write (h : cb_R g σ τ) {q : Nat} (hq : q < 8) {v : Int32} (hv : cb_by v) : cb_Sv (c_Processor_write σ (nI q) v) (m_put τ (nI q) v) (cb_R g) := by
  have hM : cb_Sv (c_Processor_write σ (nI 6) v) (m_put τ (nI 6) v) (cb_R g) :=
    cb_Sv_be (s_pair h (k := 2) (by omega)) fun r _ => cb_Sv_bv (s_putByte h r v) fun σ1 τ1 h1 => ⟨_, _, rfl, rfl, h1⟩
  have hR : ∀ k, k < 8 → k ≠ 6 → cb_R g (cb_up σ 12 k v) (cb_up τ 2 k (v &&& 255)) := fun k h1 h2 => by rw [by_255 hv]; exact ps_reg h h1 hv (fun q => absurd q h2)
  rcases cb_lt8 hq with rfl | rfl | rfl | rfl | rfl | rfl | rfl | rfl
  · exact ⟨_, _, rfl, rfl, hR 0 hq (by decide)⟩
  · exact ⟨_, _, rfl, rfl, hR 1 hq (by decide)⟩
  · exact ⟨_, _, rfl, rfl, hR 2 hq (by decide)⟩
  · exact ⟨_, _, rfl, rfl, hR 3 hq (by decide)⟩
  · exact ⟨_, _, rfl, rfl, hR 4 hq (by decide)⟩
  · exact ⟨_, _, rfl, rfl, hR 5 hq (by decide)⟩
  · exact hM
  · exact ⟨_, _, rfl, rfl, hR 7 hq (by decide)⟩
theorem s_wide (h : cb_R g σ τ) {k : Nat} (hk : k < 4) : cb_Se (c_Processor_wide σ (nI k)) (m_wide τ (nI k)) cb_wo := by
  rcases (show k = 0 ∨ k = 1 ∨ k = 2 ∨ k = 3 by omega) with rfl | rfl | rfl | rfl
  · exact cb_Se_be (s_pair h (k := 0) (by omega)) fun r hr => ⟨_, rfl, rfl, hr⟩
  · exact cb_Se_be (s_pair h (k := 1) (by omega)) fun r hr => ⟨_, rfl, rfl, hr⟩
  · exact cb_Se_be (s_pair h (k := 2) (by omega)) fun r hr => ⟨_, rfl, rfl, hr⟩
  · exact s_Se (σ 10 2) (τ 0 2) (pe_sp h) h.2.2.1.2.2.2.1
theorem s_putWide (h : cb_R g σ τ) {k : Nat} (hk : k < 4) (v : Int32) : cb_Sv (c_Processor_putWide σ (nI k) v) (m_putWide τ (nI k) v) (cb_R g) := by
  rcases (show k = 0 ∨ k = 1 ∨ k = 2 ∨ k = 3 by omega) with rfl | rfl | rfl | rfl
  · exact cb_Sv_bv (s_putPair h (k := 0) (by omega) v) fun σ1 τ1 h1 => ⟨_, _, rfl, rfl, h1⟩
  · exact cb_Sv_bv (s_putPair h (k := 1) (by omega) v) fun σ1 τ1 h1 => ⟨_, _, rfl, rfl, h1⟩
  · exact cb_Sv_bv (s_putPair h (k := 2) (by omega) v) fun σ1 τ1 h1 => ⟨_, _, rfl, rfl, h1⟩
  · exact ⟨_, _, rfl, rfl, ps_sp h (cb_65535 v)⟩
theorem s_cond (h : cb_R g σ τ) {q : Nat} (hq : q < 8) : cb_Se (c_Processor_condition σ (nI q)) (m_condition τ (nI q)) cb_01 := by
  have e6 : τ 2 6 = σ 12 6 := (pe_reg h (by omega)).symm
  have key : ∀ q, q < 8 → ∀ f : Int32, m_condition τ (nI q) = c_Processor_condition σ (nI q) := by
    intro q hq f
    unfold m_condition m_flag
    rw [e6]
    rcases cb_lt8 hq with rfl | rfl | rfl | rfl | rfl | rfl | rfl | rfl <;> rfl
  rw [key q hq 0]
  have key2 : ∃ r, c_Processor_condition σ (nI q) = some r ∧ cb_01 r := by
    rcases cb_lt8 hq with rfl | rfl | rfl | rfl | rfl | rfl | rfl | rfl <;> exact ⟨_, rfl, cb_01_i cb_01_1 cb_01_0⟩
  obtain ⟨r, e, hr⟩ := key2
  exact ⟨r, e, e, hr⟩
/-- the second bank -/
theorem cq_0 : c_Bank_pair 13 σ (nI 0) = some ((σ 14 0 <<< ((8 : Int32) &&& 31)) ||| σ 14 1) := rfl
theorem cq_1 : c_Bank_pair 13 σ (nI 1) = some ((σ 14 2 <<< ((8 : Int32) &&& 31)) ||| σ 14 3) := rfl
theorem cq_2 : c_Bank_pair 13 σ (nI 2) = some ((σ 14 4 <<< ((8 : Int32) &&& 31)) ||| σ 14 5) := rfl
theorem cq_3 : c_Bank_pair 13 σ (nI 3) = some ((σ 14 7 <<< ((8 : Int32) &&& 31)) ||| σ 14 6) := rfl
theorem mq_0 : m_pair τ (nI 8) = some ((256 : Int32) * τ 2 (8 + 0) + τ 2 (8 + 1)) := rfl
theorem mq_1 : m_pair τ (nI 10) = some ((256 : Int32) * τ 2 (8 + 2) + τ 2 (8 + 3)) := rfl
theorem mq_2 : m_pair τ (nI 12) = some ((256 : Int32) * τ 2 (8 + 4) + τ 2 (8 + 5)) := rfl
theorem mq_3 : m_af τ (nI 8) = some ((256 : Int32) * τ 2 (8 + 7) + τ 2 (8 + 6)) := rfl
theorem s_pair2 (h : cb_R g σ τ) {k : Nat} (hk : k < 3) : cb_Se (c_Bank_pair 13 σ (nI k)) (m_pair τ (nI (8 + 2 * k))) cb_wo := by
  rcases (show k = 0 ∨ k = 1 ∨ k = 2 by omega) with rfl | rfl | rfl
  · rw [cq_0, show nI (8 + 2 * 0) = nI 8 from rfl, mq_0, ← pe_reg2 h (show 0 < 8 by omega), ← pe_reg2 h (show 1 < 8 by omega)]
    exact s_two (pb_reg2 h (by omega)) (pb_reg2 h (by omega))
  · rw [cq_1, show nI (8 + 2 * 1) = nI 10 from rfl, mq_1, ← pe_reg2 h (show 2 < 8 by omega), ← pe_reg2 h (show 3 < 8 by omega)]
    exact s_two (pb_reg2 h (by omega)) (pb_reg2 h (by omega))
  · rw [cq_2, show nI (8 + 2 * 2) = nI 12 from rfl, mq_2, ← pe_reg2 h (show 4 < 8 by omega), ← pe_reg2 h (show 5 < 8 by omega)]
    exact s_two (pb_reg2 h (by omega)) (pb_reg2 h (by omega))
theorem s_af2 (h : cb_R g σ τ) : cb_Se (c_Bank_pair 13 σ (nI 3)) (m_af τ (nI 8)) cb_wo := by
  rw [cq_3, mq_3, ← pe_reg2 h (show 7 < 8 by omega), ← pe_reg2 h (show 6 < 8 by omega)]
  exact s_two (pb_reg2 h (by omega)) (pb_reg2 h (by omega))
theorem s_put22 (h : cb_R g σ τ) {i : Nat} (hi : i < 5) (v : Int32) : cb_R g (cb_up (cb_up σ 14 i (v >>> ((8 : Int32) &&& 31) &&& 255)) 14 (i + 1) (v &&& 255)) (cb_up (cb_up τ 2 (8 + i) (v >>> ((8 : Int32) &&& 31) &&& 255)) 2 (8 + (i + 1)) (v &&& 255)) :=
  ps_reg2 (ps_reg2 h (by omega) (cb_255 _) (by omega)) (by omega) (cb_255 _) (by omega)
theorem s_putPair2 (h : cb_R g σ τ) {k : Nat} (hk : k < 3) (v : Int32) : cb_Sv (c_Bank_putPair 13 σ (nI k) v) (m_putPair τ (nI (8 + 2 * k)) v) (cb_R g) := by
  rcases (show k = 0 ∨ k = 1 ∨ k = 2 by omega) with rfl | rfl | rfl
  · exact ⟨_, _, rfl, rfl, s_put22 h (i := 0) (by omega) v⟩
  · exact ⟨_, _, rfl, rfl, s_put22 h (i := 2) (by omega) v⟩
  · exact ⟨_, _, rfl, rfl, s_put22 h (i := 4) (by omega) v⟩
theorem s_putAf2 (h : cb_R g σ τ) (v : Int32) : cb_Sv (c_Bank_putPair 13 σ (nI 3) v) (m_putAf τ (nI 8) v) (cb_R g) := by
  refine ⟨cb_up (cb_up σ 14 7 (v >>> ((8 : Int32) &&& 31) &&& 255)) 14 6 ((v &&& 255) &&& 215), cb_up (cb_up τ 2 (8 + 7) (v >>> ((8 : Int32) &&& 31) &&& 255)) 2 (8 + 6) (v &&& 215), rfl, rfl, ?_⟩
  rw [pf_215]
  exact ps_reg2 (ps_reg2 h (by omega) (cb_255 _) (by omega)) (by omega) (pf_by _) (fun _ => pf_215' _)
theorem hi_two {a b : Nat} (ha : a < 256) (hb : b < 256) : nI (b + 256 * a) >>> ((8 : Int32) &&& 31) &&& 255 = nI a := by
  rw [cb_shr8 (by omega), pk_andN (by omega) 8 (m := 255) (by decide +kernel), show (b + 256 * a) / 256 % 2 ^ 8 = a by omega]
theorem lo_two {a b : Nat} (hb : b < 256) (ha : a < 256) : nI (b + 256 * a) &&& 255 = nI b := by
  rw [pk_andN (by omega) 8 (m := 255) (by decide +kernel), show (b + 256 * a) % 2 ^ 8 = b by omega]
/-- a pair that goes from one bank to the other -/
theorem c_xch {x0 x1 y0 y1 : Int32} {i k : Nat} (hx0 : cb_by x0) (hx1 : cb_by x1) (hy0 : cb_by y0) (hy1 : cb_by y1)
    (e1 : c_Bank_pair 11 σ (nI k) = some ((x0 <<< ((8 : Int32) &&& 31)) ||| x1)) (e2 : c_Bank_pair 13 σ (nI k) = some ((y0 <<< ((8 : Int32) &&& 31)) ||| y1))
    (e3 : ∀ σ v, c_Bank_putPair 11 σ (nI k) v = some (cb_up (cb_up σ 12 i (v >>> ((8 : Int32) &&& 31) &&& 255)) 12 (i + 1) (v &&& 255)))
    (e4 : ∀ σ v, c_Bank_putPair 13 σ (nI k) v = some (cb_up (cb_up σ 14 i (v >>> ((8 : Int32) &&& 31) &&& 255)) 14 (i + 1) (v &&& 255))) :
    c_Registers_exchange σ (nI k) = some (cb_up (cb_up (cb_up (cb_up σ 12 i y0) 12 (i + 1) y1) 14 i x0) 14 (i + 1) x1) := by
  unfold c_Registers_exchange
  rw [cb_bo_e e1, cb_bo_e e2, cb_bo_e (e3 _ _), cb_bo_e (e4 _ _)]
  obtain ⟨a0, h0, rfl⟩ := hx0
  obtain ⟨a1, h1, rfl⟩ := hx1
  obtain ⟨b0, g0, rfl⟩ := hy0
  obtain ⟨b1, g1, rfl⟩ := hy1
  rw [cb_word' h1 h0, cb_word' g1 g0, hi_two h0 h1, lo_two h1 h0, hi_two g0 g1, lo_two g1 g0]
theorem c_x0 (h : cb_R g σ τ) : c_Registers_exchange σ (nI 0) = some (cb_up (cb_up (cb_up (cb_up σ 12 0 (σ 14 0)) 12 1 (σ 14 1)) 14 0 (σ 12 0)) 14 1 (σ 12 1)) :=
  c_xch (pb_reg h (by omega)) (pb_reg h (by omega)) (pb_reg2 h (by omega)) (pb_reg2 h (by omega)) cp_0 cq_0 (fun _ _ => rfl) (fun _ _ => rfl)
theorem c_x1 (h : cb_R g σ τ) : c_Registers_exchange σ (nI 1) = some (cb_up (cb_up (cb_up (cb_up σ 12 2 (σ 14 2)) 12 3 (σ 14 3)) 14 2 (σ 12 2)) 14 3 (σ 12 3)) :=
  c_xch (pb_reg h (by omega)) (pb_reg h (by omega)) (pb_reg2 h (by omega)) (pb_reg2 h (by omega)) cp_1 cq_1 (fun _ _ => rfl) (fun _ _ => rfl)
theorem c_x2 (h : cb_R g σ τ) : c_Registers_exchange σ (nI 2) = some (cb_up (cb_up (cb_up (cb_up σ 12 4 (σ 14 4)) 12 5 (σ 14 5)) 14 4 (σ 12 4)) 14 5 (σ 12 5)) :=
  c_xch (pb_reg h (by omega)) (pb_reg h (by omega)) (pb_reg2 h (by omega)) (pb_reg2 h (by omega)) cp_2 cq_2 (fun _ _ => rfl) (fun _ _ => rfl)
/-- one place of the two banks is exchanged -/
theorem ps_swap (h : cb_R g σ τ) {k : Nat} (hk : k < 6) : cb_R g (cb_up (cb_up σ 12 k (σ 14 k)) 14 k (σ 12 k)) (cb_up (cb_up τ 2 k (τ 2 (8 + k))) 2 (8 + k) (τ 2 k)) := by
  rw [← pe_reg h (show k < 8 by omega), ← pe_reg2 h (show k < 8 by omega)]
  exact ps_reg2 (ps_reg h (by omega) (pb_reg2 h (by omega)) (by omega)) (by omega) (pb_reg h (by omega)) (by omega)
theorem s_exAf (h : cb_R g σ τ) : cb_Sv (c_Registers_exchange σ (nI 3)) (cb_bo (m_af τ (nI 0)) fun a => cb_bo (m_af τ (nI 8)) fun b => cb_bo (m_putAf τ (nI 0) b) fun τ1 => cb_bo (m_putAf τ1 (nI 8) a) fun τ2 => some τ2) (cb_R g) := by
  unfold c_Registers_exchange
  exact cb_Sv_be (s_af h) fun a _ => cb_Sv_be (s_af2 h) fun b _ => cb_Sv_bv (s_putAf h b) fun σ1 τ1 h1 => cb_Sv_bv (s_putAf2 h1 a) fun σ2 τ2 h2 => ⟨_, _, rfl, rfl, h2⟩
end P3
