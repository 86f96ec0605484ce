/-! flags set one by one and at once; the operations on A -/
section P8
variable {g : Int32 × Int32 × Int32} {σ τ : cb_S}
theorem cb_up_up (σ : cb_S) (j k : Nat) (x y : Int32) : cb_up (cb_up σ j k x) j k y = cb_up σ j k y := by
  funext i
  by_cases h : i = j
  · subst h
    rw [cb_up_eq, cb_up_eq, cb_up_eq]
    funext m
    unfold upd
    by_cases hm : m = k
    · rw [if_pos hm, if_pos hm]
    · rw [if_neg hm, if_neg hm, if_neg hm]
  · rw [cb_up_ne _ _ _ h, cb_up_ne _ _ _ h, cb_up_ne _ _ _ h]
theorem cb_up_cm (σ : cb_S) (j : Nat) {k m : Nat} (x y : Int32) (h : k ≠ m) : cb_up (cb_up σ j k x) j m y = cb_up (cb_up σ j m y) j k x := by
  funext i
  by_cases hi : i = j
  · subst hi
    rw [cb_up_eq, cb_up_eq, cb_up_eq, cb_up_eq]
    funext n
    unfold upd
    by_cases h1 : n = m
    · rw [if_pos h1, if_neg (by omega), if_pos h1]
    · by_cases h2 : n = k
      · rw [if_neg h1, if_pos h2, if_pos h2]
      · rw [if_neg h1, if_neg h2, if_neg h2, if_neg h1]
  · rw [cb_up_ne _ _ _ hi, cb_up_ne _ _ _ hi, cb_up_ne _ _ _ hi, cb_up_ne _ _ _ hi]
/-- one flag -/
def sf (F f v : Int32) : Int32 := if v = 0 then F &&& (f ^^^ (-1)) else F ||| f
theorem m_sf (τ : cb_S) (f v : Int32) : m_setFlag τ f v = some (cb_up τ 2 6 (sf (τ 2 6) f v)) := rfl
theorem c_cf (σ : cb_S) (w v : Int32) : c_Processor_changeFlags σ w v = some (cb_up σ 12 6 ((σ 12 6 &&& (w ^^^ (-1))) ||| (v &&& w))) := rfl
theorem m_sum_c (τ : cb_S) (v bits n : Int32) : m_sumFlags τ v bits n = some (cb_up τ 2 6 (sf (sf (sf (sf (sf (τ 2 6) 128 (if ((v >>> ((bits - 1) &&& 31)) &&& 1) = 1 then 1 else 0)) 64 (if v = 0 then 1 else 0)) 16 (τ 0 9)) 4 (if τ 0 10 = (if n = 0 then τ 0 11 else (if τ 0 11 = 0 then 1 else 0)) then 0 else 1)) 2 n)) := by
  unfold m_sumFlags
  rw [cb_bo_e (m_sf _ _ _), cb_bo_e (m_sf _ _ _), cb_bo_e (m_sf _ _ _), cb_bo_e (m_sf _ _ _), cb_bo_e (m_sf _ _ _), cb_up_up, cb_up_up, cb_up_up, cb_up_up]
  rfl
def okF (f : Nat) : Bool := f &&& 215 == f
theorem okF_lt : ∀ f, f < 256 → okF f = true → nI f &&& 215 = nI f := by decide +kernel
theorem okF_of : ∀ f, f < 256 → nI f &&& 215 = nI f → okF f = true := by decide +kernel
theorem fl_allx : ∀ f, f < 256 → okF f = true → ∀ x, x < 64 → sf (sf (sf (sf (sf (sf (nI f) 128 (nI (x / 32 % 2))) 64 (nI (x / 16 % 2))) 16 (nI (x / 8 % 2))) 4 (nI (x / 4 % 2))) 2 (nI (x / 2 % 2))) 1 (nI (x % 2)) = nI (fl (x / 32 % 2) (x / 16 % 2) (x / 8 % 2) (x / 4 % 2) (x / 2 % 2) (x % 2)) := by decide +kernel
theorem fl_all : ∀ f, f < 256 → okF f = true → ∀ s, s < 2 → ∀ z, z < 2 → ∀ h, h < 2 → ∀ p, p < 2 → ∀ n, n < 2 → ∀ c, c < 2 → sf (sf (sf (sf (sf (sf (nI f) 128 (nI s)) 64 (nI z)) 16 (nI h)) 4 (nI p)) 2 (nI n)) 1 (nI c) = nI (fl s z h p n c) := by
  intro f hf ho s hs9 z hz9 h hh9 p hp9 n hn9 c hc9
  have q := fl_allx f hf ho (32 * s + 16 * z + 8 * h + 4 * p + 2 * n + c) (by omega)
  rw [show (32 * s + 16 * z + 8 * h + 4 * p + 2 * n + c) / 32 % 2 = s by omega, show (32 * s + 16 * z + 8 * h + 4 * p + 2 * n + c) / 16 % 2 = z by omega, show (32 * s + 16 * z + 8 * h + 4 * p + 2 * n + c) / 8 % 2 = h by omega, show (32 * s + 16 * z + 8 * h + 4 * p + 2 * n + c) / 4 % 2 = p by omega, show (32 * s + 16 * z + 8 * h + 4 * p + 2 * n + c) / 2 % 2 = n by omega, show (32 * s + 16 * z + 8 * h + 4 * p + 2 * n + c) % 2 = c by omega] at q
  exact q
theorem fl_215x : ∀ f, f < 256 → okF f = true → ∀ x, x < 64 → (nI f &&& ((215 : Int32) ^^^ (-1))) ||| (nI (fl (x / 32 % 2) (x / 16 % 2) (x / 8 % 2) (x / 4 % 2) (x / 2 % 2) (x % 2)) &&& 215) = nI (fl (x / 32 % 2) (x / 16 % 2) (x / 8 % 2) (x / 4 % 2) (x / 2 % 2) (x % 2)) := by decide +kernel
theorem fl_215 : ∀ f, f < 256 → okF f = true → ∀ s, s < 2 → ∀ z, z < 2 → ∀ h, h < 2 → ∀ p, p < 2 → ∀ n, n < 2 → ∀ c, c < 2 → (nI f &&& ((215 : Int32) ^^^ (-1))) ||| (nI (fl s z h p n c) &&& 215) = nI (fl s z h p n c) := by
  intro f hf ho s hs9 z hz9 h hh9 p hp9 n hn9 c hc9
  have q := fl_215x f hf ho (32 * s + 16 * z + 8 * h + 4 * p + 2 * n + c) (by omega)
  rw [show (32 * s + 16 * z + 8 * h + 4 * p + 2 * n + c) / 32 % 2 = s by omega, show (32 * s + 16 * z + 8 * h + 4 * p + 2 * n + c) / 16 % 2 = z by omega, show (32 * s + 16 * z + 8 * h + 4 * p + 2 * n + c) / 8 % 2 = h by omega, show (32 * s + 16 * z + 8 * h + 4 * p + 2 * n + c) / 4 % 2 = p by omega, show (32 * s + 16 * z + 8 * h + 4 * p + 2 * n + c) / 2 % 2 = n by omega, show (32 * s + 16 * z + 8 * h + 4 * p + 2 * n + c) % 2 = c by omega] at q
  exact q
theorem fl_214x : ∀ f, f < 256 → okF f = true → ∀ x, x < 64 → (nI f &&& ((214 : Int32) ^^^ (-1))) ||| (nI (fl (x / 32 % 2) (x / 16 % 2) (x / 8 % 2) (x / 4 % 2) (x / 2 % 2) (x % 2)) &&& 214) = sf (sf (sf (sf (sf (nI f) 128 (nI (x / 32 % 2))) 64 (nI (x / 16 % 2))) 16 (nI (x / 8 % 2))) 4 (nI (x / 4 % 2))) 2 (nI (x / 2 % 2)) := by decide +kernel
theorem fl_214 : ∀ f, f < 256 → okF f = true → ∀ s, s < 2 → ∀ z, z < 2 → ∀ h, h < 2 → ∀ p, p < 2 → ∀ n, n < 2 → ∀ c, c < 2 → (nI f &&& ((214 : Int32) ^^^ (-1))) ||| (nI (fl s z h p n c) &&& 214) = sf (sf (sf (sf (sf (nI f) 128 (nI s)) 64 (nI z)) 16 (nI h)) 4 (nI p)) 2 (nI n) := by
  intro f hf ho s hs9 z hz9 h hh9 p hp9 n hn9 c hc9
  have q := fl_214x f hf ho (32 * s + 16 * z + 8 * h + 4 * p + 2 * n + c) (by omega)
  rw [show (32 * s + 16 * z + 8 * h + 4 * p + 2 * n + c) / 32 % 2 = s by omega, show (32 * s + 16 * z + 8 * h + 4 * p + 2 * n + c) / 16 % 2 = z by omega, show (32 * s + 16 * z + 8 * h + 4 * p + 2 * n + c) / 8 % 2 = h by omega, show (32 * s + 16 * z + 8 * h + 4 * p + 2 * n + c) / 4 % 2 = p by omega, show (32 * s + 16 * z + 8 * h + 4 * p + 2 * n + c) / 2 % 2 = n by omega, show (32 * s + 16 * z + 8 * h + 4 * p + 2 * n + c) % 2 = c by omega] at q
  exact q
theorem fl_19x : ∀ f, f < 256 → okF f = true → ∀ x, x < 64 → (nI f &&& ((19 : Int32) ^^^ (-1))) ||| (nI (fl (x / 32 % 2) (x / 16 % 2) (x / 8 % 2) (x / 4 % 2) (x / 2 % 2) (x % 2)) &&& 19) = sf (sf (sf (nI f) 16 (nI (x / 8 % 2))) 2 (nI (x / 2 % 2))) 1 (nI (x % 2)) := by decide +kernel
theorem fl_19 : ∀ f, f < 256 → okF f = true → ∀ s, s < 2 → ∀ z, z < 2 → ∀ h, h < 2 → ∀ p, p < 2 → ∀ n, n < 2 → ∀ c, c < 2 → (nI f &&& ((19 : Int32) ^^^ (-1))) ||| (nI (fl s z h p n c) &&& 19) = sf (sf (sf (nI f) 16 (nI h)) 2 (nI n)) 1 (nI c) := by
  intro f hf ho s hs9 z hz9 h hh9 p hp9 n hn9 c hc9
  have q := fl_19x f hf ho (32 * s + 16 * z + 8 * h + 4 * p + 2 * n + c) (by omega)
  rw [show (32 * s + 16 * z + 8 * h + 4 * p + 2 * n + c) / 32 % 2 = s by omega, show (32 * s + 16 * z + 8 * h + 4 * p + 2 * n + c) / 16 % 2 = z by omega, show (32 * s + 16 * z + 8 * h + 4 * p + 2 * n + c) / 8 % 2 = h by omega, show (32 * s + 16 * z + 8 * h + 4 * p + 2 * n + c) / 4 % 2 = p by omega, show (32 * s + 16 * z + 8 * h + 4 * p + 2 * n + c) / 2 % 2 = n by omega, show (32 * s + 16 * z + 8 * h + 4 * p + 2 * n + c) % 2 = c by omega] at q
  exact q
theorem fl_sfx : ∀ f, f < 256 → okF f = true → ∀ x, x < 64 → sf (sf (sf (sf (sf (nI f) 128 (nI (x / 32 % 2))) 64 (nI (x / 16 % 2))) 16 (nI (x / 8 % 2))) 4 (nI (x / 4 % 2))) 2 (nI (x / 2 % 2)) = nI (fl (x / 32 % 2) (x / 16 % 2) (x / 8 % 2) (x / 4 % 2) (x / 2 % 2) (f % 2)) := by decide +kernel
theorem fl_sf : ∀ f, f < 256 → okF f = true → ∀ s, s < 2 → ∀ z, z < 2 → ∀ h, h < 2 → ∀ p, p < 2 → ∀ n, n < 2 → sf (sf (sf (sf (sf (nI f) 128 (nI s)) 64 (nI z)) 16 (nI h)) 4 (nI p)) 2 (nI n) = nI (fl s z h p n (f % 2)) := by
  intro f hf ho s hs9 z hz9 h hh9 p hp9 n hn9
  have q := fl_sfx f hf ho (32 * s + 16 * z + 8 * h + 4 * p + 2 * n) (by omega)
  rw [show (32 * s + 16 * z + 8 * h + 4 * p + 2 * n) / 32 % 2 = s by omega, show (32 * s + 16 * z + 8 * h + 4 * p + 2 * n) / 16 % 2 = z by omega, show (32 * s + 16 * z + 8 * h + 4 * p + 2 * n) / 8 % 2 = h by omega, show (32 * s + 16 * z + 8 * h + 4 * p + 2 * n) / 4 % 2 = p by omega, show (32 * s + 16 * z + 8 * h + 4 * p + 2 * n) / 2 % 2 = n by omega] at q
  exact q
theorem fl_sf3 : ∀ f, f < 256 → okF f = true → ∀ h, h < 2 → ∀ n, n < 2 → ∀ c, c < 2 → sf (sf (sf (nI f) 16 (nI h)) 2 (nI n)) 1 (nI c) = nI (fl (f / 128) (f / 64 % 2) h (f / 4 % 2) n c) := by decide +kernel
theorem fl_okx : ∀ x, x < 64 → okF (fl (x / 32 % 2) (x / 16 % 2) (x / 8 % 2) (x / 4 % 2) (x / 2 % 2) (x % 2)) = true := by decide +kernel
theorem fl_ok : ∀ s, s < 2 → ∀ z, z < 2 → ∀ h, h < 2 → ∀ p, p < 2 → ∀ n, n < 2 → ∀ c, c < 2 → okF (fl s z h p n c) = true := by
  intro s hs9 z hz9 h hh9 p hp9 n hn9 c hc9
  have q := fl_okx (32 * s + 16 * z + 8 * h + 4 * p + 2 * n + c) (by omega)
  rw [show (32 * s + 16 * z + 8 * h + 4 * p + 2 * n + c) / 32 % 2 = s by omega, show (32 * s + 16 * z + 8 * h + 4 * p + 2 * n + c) / 16 % 2 = z by omega, show (32 * s + 16 * z + 8 * h + 4 * p + 2 * n + c) / 8 % 2 = h by omega, show (32 * s + 16 * z + 8 * h + 4 * p + 2 * n + c) / 4 % 2 = p by omega, show (32 * s + 16 * z + 8 * h + 4 * p + 2 * n + c) / 2 % 2 = n by omega, show (32 * s + 16 * z + 8 * h + 4 * p + 2 * n + c) % 2 = c by omega] at q
  exact q
/-- the low byte of a result -/
theorem low_and {R x : Nat} (hx : x < 256) {w : Int32} (hw : w &&& 255 = w) : nI (R * 256 + x) &&& w = nI x &&& w := by
  have e : ∀ y : Int32, y &&& w = (y &&& 255) &&& w := fun y => by rw [Int32.and_assoc, Int32.and_comm 255 w, hw]
  rw [e (nI (R * 256 + x)), e (nI x), show (255 : Int32) = nI (2 ^ 8 - 1) from rfl, i_mod, i_mod]
  congr 2
  omega
theorem hi_res {R x : Nat} (hx : x < 256) (hR : R < 65536) : nI (R * 256 + x) >>> ((8 : Int32) &&& 31) = nI R := by
  rw [cb_shr8 (by omega)]
  congr 1
  omega
/-- A and F of a state -/
theorem pAF (h : cb_R g σ τ) : ∃ a f : Nat, a < 256 ∧ f < 256 ∧ okF f = true ∧ σ 12 7 = nI a ∧ τ 2 7 = nI a ∧ σ 12 6 = nI f ∧ τ 2 6 = nI f := by
  obtain ⟨a, ha, ea⟩ := pb_reg h (k := 7) (by omega)
  obtain ⟨f, hf, ef⟩ := pb_reg h (k := 6) (by omega)
  have h5 := h.2.1.2.2.1
  rw [ef] at h5
  exact ⟨a, f, ha, hf, okF_of f hf h5, ea, by rw [← pe_reg h (by omega), ea], ef, by rw [← pe_reg h (by omega), ef]⟩
/-- new A and F -/
theorem ps_AF (h : cb_R g σ τ) {a f : Nat} (ha : a < 256) (hf : f < 256) (ho : okF f = true) : cb_R g (cb_up (cb_up σ 12 7 (nI a)) 12 6 (nI f)) (cb_up (cb_up τ 2 7 (nI a)) 2 6 (nI f)) :=
  ps_reg (ps_reg h (by omega) (by_lt ha) (by omega)) (by omega) (by_lt hf) (fun _ => okF_lt f hf ho)
theorem ps_F (h : cb_R g σ τ) {f : Nat} (hf : f < 256) (ho : okF f = true) : cb_R g (cb_up σ 12 6 (nI f)) (cb_up τ 2 6 (nI f)) :=
  ps_reg h (by omega) (by_lt hf) (fun _ => okF_lt f hf ho)
theorem m_sub_c {N a b w n : Nat} (hN : n < N) (ha : a < 2 ^ n) (hb : b < 2 ^ n) (hw : w ≤ 1) (hn : n = 8 ∨ n = 16) {B W : Nat} (eB : B = 2 ^ n - 1 - b) (eW : W = 1 - w) :
    m_subtract N τ (nI a) (nI b) (nI w) (nI n) = some (nI (aS a B W n), cb_up (cb_up (cb_up (cb_up (cb_up τ 0 9 (nI (aC a B W (n - 4)))) 0 10 (nI (aC a B W (n - 1)))) 0 11 (nI (aC a B W n))) 0 9 (nI (1 - aC a B W (n - 4)))) 0 11 (nI (1 - aC a B W n))) := by
  have hW : W ≤ 1 := by rw [eW]; exact m1_le w
  have x0 : ((1 : Int32) <<< (nI n &&& 31)) - 1 = nI (2 ^ n - 1) := by rcases hn with rfl | rfl <;> decide
  have x1 : nI b ^^^ nI (2 ^ n - 1) = nI B := by
    rw [cb_xor_n, eB]
    congr 1
    apply Nat.eq_of_testBit_eq
    intro i
    rw [Nat.testBit_xor, Nat.testBit_two_pow_sub_one, show 2 ^ n - 1 - b = 2 ^ n - (b + 1) by omega, Nat.testBit_two_pow_sub_succ hb]
    by_cases hi : i < n
    · rw [decide_eq_true hi]; simp
    · rw [decide_eq_false hi, Nat.testBit_lt_two_pow (Nat.lt_of_lt_of_le hb (Nat.pow_le_pow_right (by omega) (by omega)))]; rfl
  have x2 : (if nI w = 0 then (1 : Int32) else 0) = nI W := by
    rw [eW]
    rcases (show w = 0 ∨ w = 1 by omega) with rfl | rfl <;> decide
  have hB : B < 65536 := by
    have : 2 ^ n ≤ 65536 := by rcases hn with rfl | rfl <;> decide
    omega
  have ha' : a < 65536 := by
    have : 2 ^ n ≤ 65536 := by rcases hn with rfl | rfl <;> decide
    omega
  have neg : ∀ k : Nat, k ≤ 1 → (if nI k = 0 then (1 : Int32) else 0) = nI (1 - k) := by
    intro k hk
    rcases (show k = 0 ∨ k = 1 by omega) with rfl | rfl <;> decide
  unfold m_subtract
  rw [x0, cb_let_e, x1, x2, cb_b2_e (m_add_c hN ha' hB hW hn)]
  show some (nI (aS a B W n), cb_up (cb_up (cb_up (cb_up (cb_up τ 0 9 (nI (aC a B W (n - 4)))) 0 10 (nI (aC a B W (n - 1)))) 0 11 (nI (aC a B W n))) 0 9 (if nI (aC a B W (n - 4)) = 0 then 1 else 0)) 0 11 (if nI (aC a B W n) = 0 then 1 else 0)) = _
  rw [neg _ (aC_le hW _), neg _ (aC_le hW _)]
end P8
