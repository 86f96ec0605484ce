/-! shifts: tables -/
section P14
def mvL (o : Int32) : Int32 := if o = 0 then (1 : Int32) else (if o = (2 : Int32) then (1 : Int32) else (if o = (4 : Int32) then (1 : Int32) else (0 : Int32)))
def mvG (o v : Int32) : Int32 := if mvL o = 0 then (v &&& (1 : Int32)) else (v >>> ((7 : Int32) &&& 31))
def mvC (o v c : Int32) : Int32 := if (2 : Int32) ≤ o then (if (4 : Int32) ≤ o then (if o = (5 : Int32) then (v >>> ((7 : Int32) &&& 31)) else (0 : Int32)) else c) else mvG o v
def mvD (o v c : Int32) : Int32 := if mvL o = 0 then ((v >>> ((1 : Int32) &&& 31)) ||| (mvC o v c <<< ((7 : Int32) &&& 31))) else (((v <<< ((1 : Int32) &&& 31)) &&& (255 : Int32)) ||| mvC o v c)
theorem m_mv (τ : cb_S) (o v : Int32) : m_move τ o v = some (mvD o v (τ 2 6 &&& 1), cb_up τ 2 6 (sf (sf (sf (τ 2 6) 1 (if mvG o v = 1 then 1 else 0)) 16 0) 2 0)) := by
  have e : m_move τ o v = cb_bo (m_setFlag τ 1 (if mvG o v = 1 then 1 else 0)) fun τ18 => cb_bo (m_setFlag τ18 16 0) fun τ19 => cb_bo (m_setFlag τ19 2 0) fun τ20 => some (mvD o v (τ 2 6 &&& 1), τ20) := rfl
  rw [e, cb_bo_e (m_sf _ _ _), cb_bo_e (m_sf _ _ _), cb_bo_e (m_sf _ _ _), cb_up_up, cb_up_up]
  rfl
def dN (o v c : Nat) : Nat := (mvD (nI o) (nI v) (nI c)).toNatClampNeg
def gN (o v : Nat) : Nat := (mvG (nI o) (nI v)).toNatClampNeg
theorem sh_t1 : ∀ o, o < 8 → ∀ v, v < 256 → ∀ c, c < 2 → mvD (nI o) (nI v) (nI c) = nI (dN o v c) ∧ dN o v c < 256 := by decide +kernel
theorem sh_t2 : ∀ o, o < 8 → ∀ v, v < 256 → (if mvG (nI o) (nI v) = 1 then (1 : Int32) else 0) = nI (gN o v) ∧ gN o v < 2 := by decide +kernel
theorem sh_t3 : ∀ o, o < 8 → ¬ o = 6 → ∀ v, v < 256 → ∀ c, c < 2 → c_Flags_shift (nI o) (nI v) (nI c) = some (nI (dN o v c * 256 + fl (dN o v c / 128) (zf (dN o v c)) 0 (ev (dN o v c)) 0 (gN o v))) := by decide +kernel
theorem sf_mv : ∀ f, f < 256 → okF f = true → ∀ c, c < 2 → sf (sf (sf (nI f) 1 (nI c)) 16 0) 2 0 = nI (fl (f / 128) (f / 64 % 2) 0 (f / 4 % 2) 0 c) := by decide +kernel
theorem sf_19 (f : Nat) (hf : f < 256) (hk : okF f = true) (s : Nat) (hs : s < 2) (z : Nat) (hz : z < 2) (p : Nat) (hp : p < 2) (c : Nat) (hc : c < 2) : (nI f &&& ((19 : Int32) ^^^ (-1))) ||| (nI (fl s z 0 p 0 c) &&& 19) = nI (fl (f / 128) (f / 64 % 2) 0 (f / 4 % 2) 0 c) := by
  rw [fl_19 f hf hk s hs z hz 0 (by omega) p hp 0 (by omega) c hc, fl_sf3 f hf hk 0 (by omega) 0 (by omega) c hc]
theorem sf_shown : ∀ f, f < 256 → okF f = true → ∀ s, s < 2 → ∀ z, z < 2 → ∀ p, p < 2 → sf (sf (sf (nI f) 128 (nI s)) 64 (nI z)) 4 (nI p) = nI (fl s z (f / 16 % 2) p (f / 2 % 2) (f % 2)) := by decide +kernel
theorem fl_d16 : ∀ s, s < 2 → ∀ z, z < 2 → ∀ p, p < 2 → ∀ c, c < 2 → fl s z 0 p 0 c / 16 % 2 = 0 ∧ fl s z 0 p 0 c / 2 % 2 = 0 ∧ fl s z 0 p 0 c % 2 = c := by decide +kernel
/-- BIT -/
def bN (v b : Nat) : Nat := v / 2 ^ b % 2
theorem bt_c : ∀ v, v < 256 → ∀ b, b < 8 → (if (nI v &&& ((1 : Int32) <<< (nI b &&& 31))) = 0 then (68 : Int32) else ((nI v &&& ((1 : Int32) <<< (nI b &&& 31))) &&& (128 : Int32))) ||| 16 = nI (fl (if b = 7 then bN v b else 0) (1 - bN v b) 1 (1 - bN v b) 0 0) := by decide +kernel
theorem bt_m : ∀ v, v < 256 → ∀ b, b < 8 → (if ((nI v >>> (nI b &&& 31)) &&& (1 : Int32)) = (1 : Int32) then (1 : Int32) else (0 : Int32)) = nI (bN v b) := by decide +kernel
theorem bN_lt (v b : Nat) : bN v b ≤ 1 := m2_le _
theorem bt_7 : ∀ b, b < 8 → ∀ t, t < 2 → (if nI b = (7 : Int32) then (if nI t = 0 then (0 : Int32) else (1 : Int32)) else (0 : Int32)) = nI (if b = 7 then t else 0) := by decide +kernel
theorem bt_n : ∀ t, t < 2 → (if nI t = 0 then (1 : Int32) else 0) = nI (1 - t) := by decide +kernel
theorem bt_F : ∀ f, f < 256 → okF f = true → ∀ s, s < 2 → ∀ z, z < 2 → sf (sf (sf (sf (sf (nI f) 64 (nI z)) 4 (nI z)) 16 1) 2 0) 128 (nI s) = nI (fl s z 1 z 0 (f % 2)) := by decide +kernel
theorem rs_by : ∀ v, v < 256 → ∀ b, b < 8 → cb_in (nI v &&& (((1 : Int32) <<< (nI b &&& 31)) ^^^ (-1 : Int32))) 256 = true ∧ cb_in (nI v ||| ((1 : Int32) <<< (nI b &&& 31))) 256 = true := by decide +kernel
theorem in_by {x : Int32} (h : cb_in x 256 = true) : cb_by x := by
  obtain ⟨n, hn, e⟩ := vp_in_of (cb_in_v h) (by omega)
  exact ⟨n, hn, e⟩
end P14
