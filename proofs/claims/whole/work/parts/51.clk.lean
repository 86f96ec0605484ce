/-! the timers: one side falls and counts, the other clock by clock -/
section P22
variable {g : Int32 × Int32 × Int32} {σ τ : cb_S} {a b c : Nat → Int32}
def P2 (σ : cb_S) (a b : Nat → Int32) : cb_S := fun i => if i = 6 then a else if i = 7 then b else σ i
theorem P2_self (σ : cb_S) : P2 σ (σ 6) (σ 7) = σ := by
  funext i
  by_cases h : i = 6
  · subst h; rfl
  · by_cases h7 : i = 7
    · subst h7; rfl
    · simp [P2, h, h7]
theorem up6 (σ : cb_S) (a b : Nat → Int32) (k : Nat) (v : Int32) : cb_up (P2 σ a b) 6 k v = P2 σ (upd a k v) b := by
  funext i
  by_cases h : i = 6
  · subst h; rfl
  · by_cases h7 : i = 7
    · subst h7; rfl
    · simp [cb_up, P2, h, h7]
theorem up7 (σ : cb_S) (a b : Nat → Int32) (k : Nat) (v : Int32) : cb_up (P2 σ a b) 7 k v = P2 σ a (upd b k v) := by
  funext i
  by_cases h : i = 6
  · subst h; rfl
  · by_cases h7 : i = 7
    · subst h7; rfl
    · simp [cb_up, P2, h, h7]
theorem ud_ud (c : Nat → Int32) (k : Nat) (x y : Int32) : upd (upd c k x) k y = upd c k y := by
  funext i
  by_cases h : i = k
  · subst h; simp [upd]
  · simp [upd, h]
theorem ud_cm (c : Nat → Int32) {k m : Nat} (x y : Int32) (h : k ≠ m) : upd (upd c k x) m y = upd (upd c m y) k x := by
  funext i
  by_cases h1 : i = k
  · subst h1; simp [upd, h]
  · by_cases h2 : i = m
    · subst h2; simp [upd, h1]
    · simp [upd, h1, h2]
theorem ud_id (c : Nat → Int32) (k : Nat) {x : Int32} (h : c k = x) : upd c k x = c := by
  funext i
  by_cases h1 : i = k
  · subst h1; simp [upd, h]
  · simp [upd, h1]
/-- one fall of a channel's cell -/
def fl1 (c : Nat → Int32) : Nat × (Nat → Int32) := if c 4 - 1 ≤ 0 then (1, if c 0 = 0 then upd (upd c 4 (c 4 - 1)) 4 (c 5) else upd (upd (upd c 4 (c 4 - 1)) 4 (c 5)) 1 1) else (0, upd c 4 (c 4 - 1))
theorem fl1_01 (c : Nat → Int32) : (fl1 c).1 = 0 ∨ (fl1 c).1 = 1 := by
  unfold fl1
  by_cases e : c 4 - 1 ≤ 0
  · rw [if_pos e]; exact Or.inr rfl
  · rw [if_neg e]; exact Or.inl rfl
theorem fl1_6 (c : Nat → Int32) (x : Int32) : fl1 (upd c 6 x) = ((fl1 c).1, upd (fl1 c).2 6 x) := by
  have e4 : upd c 6 x 4 = c 4 := rfl
  have e5 : upd c 6 x 5 = c 5 := rfl
  have e0 : upd c 6 x 0 = c 0 := rfl
  unfold fl1
  rw [e4, e5, e0]
  by_cases e : c 4 - 1 ≤ 0
  · rw [if_pos e, if_pos e]
    by_cases e0 : c 0 = 0
    · rw [if_pos e0, if_pos e0, ud_ud, ud_ud, ud_cm c _ _ (show 4 ≠ 6 by decide)]
    · rw [if_neg e0, if_neg e0, ud_ud, ud_ud, ud_cm _ _ _ (show 1 ≠ 6 by decide), ud_cm c _ _ (show 4 ≠ 6 by decide)]
  · rw [if_neg e, if_neg e, ud_cm c _ _ (show 4 ≠ 6 by decide)]
theorem fl1_k {k : Nat} (h4 : k ≠ 4) (h1 : k ≠ 1) (c : Nat → Int32) : (fl1 c).2 k = c k := by
  unfold fl1
  by_cases e : c 4 - 1 ≤ 0
  · rw [if_pos e]
    show (if c 0 = 0 then upd (upd c 4 (c 4 - 1)) 4 (c 5) else upd (upd (upd c 4 (c 4 - 1)) 4 (c 5)) 1 1) k = c k
    by_cases e0 : c 0 = 0
    · rw [if_pos e0, pu_ne _ _ h4, pu_ne _ _ h4]
    · rw [if_neg e0, pu_ne _ _ h1, pu_ne _ _ h4, pu_ne _ _ h4]
  · rw [if_neg e]
    exact pu_ne _ _ h4
def fln : Nat → (Nat → Int32) → Nat × (Nat → Int32)
  | 0, c => (0, c)
  | d + 1, c => ((fl1 c).1 + (fln d (fl1 c).2).1, (fln d (fl1 c).2).2)
theorem fln_le (d : Nat) : ∀ c, (fln d c).1 ≤ d := by
  induction d with
  | zero => intro c; exact Nat.le_refl 0
  | succ d ih =>
    intro c
    show (fl1 c).1 + (fln d (fl1 c).2).1 ≤ d + 1
    have h1 := ih (fl1 c).2
    rcases fl1_01 c with h | h <;> omega
/-- one trigger of a channel's cell, and several -/
def tr1 (c : Nat → Int32) : Nat → Int32 := if c 7 = 0 then c else if c 8 = 0 then c else (fl1 c).2
def trn : Nat → (Nat → Int32) → (Nat → Int32)
  | 0, c => c
  | p + 1, c => trn p (tr1 c)
theorem trn_add (p q : Nat) : ∀ c, trn (p + q) c = trn q (trn p c) := by
  induction p with
  | zero => intro c; rw [Nat.zero_add]; rfl
  | succ p ih => intro c; rw [show p + 1 + q = (p + q) + 1 by omega]; exact ih (tr1 c)
/-- clock by clock -/
def ckn (M : Nat) : Nat → Nat → (Nat → Int32) → Nat × (Nat → Int32)
  | 0, _, c => (0, c)
  | n + 1, s, c => if s + 1 < M then ckn M n (s + 1) (upd c 6 (nI (s + 1))) else ((fl1 (upd c 6 0)).1 + (ckn M n 0 (fl1 (upd c 6 0)).2).1, (ckn M n 0 (fl1 (upd c 6 0)).2).2)
theorem dv1 {M s n : Nat} (h : s + 1 = M) : (s + (n + 1)) / M = n / M + 1 ∧ (s + (n + 1)) % M = n % M := by
  subst h
  have e : s + (n + 1) = n + (s + 1) := by omega
  rw [e]
  exact ⟨Nat.add_div_right n (Nat.succ_pos s), Nat.add_mod_right n (s + 1)⟩
theorem ckn_c {M : Nat} (n : Nat) : ∀ (s : Nat) (c : Nat → Int32), s < M → c 6 = nI s → ckn M n s c = fln ((s + n) / M) (upd c 6 (nI ((s + n) % M))) := by
  induction n with
  | zero =>
    intro s c hs hc
    rw [Nat.add_zero, Nat.div_eq_of_lt hs, Nat.mod_eq_of_lt hs, ud_id c 6 hc]
    rfl
  | succ n ih =>
    intro s c hs hc
    unfold ckn
    by_cases h : s + 1 < M
    · rw [if_pos h, ih (s + 1) _ h (pu_hit _ _ _), ud_ud, show s + 1 + n = s + (n + 1) by omega]
    · have hM : s + 1 = M := by omega
      rw [if_neg h, (dv1 hM).1, (dv1 hM).2, ih 0 _ (by omega) (by rw [fl1_6]; rfl), Nat.zero_add, fl1_6]
      show _ = ((fl1 (upd c 6 (nI (n % M)))).1 + (fln (n / M) (fl1 (upd c 6 (nI (n % M)))).2).1, (fln (n / M) (fl1 (upd c 6 (nI (n % M)))).2).2)
      rw [fl1_6, ud_ud]
def moc (c : Nat → Int32) : Nat := if c 9 = 0 then 16 else 256
/-- clocks given to a channel's cell -/
def tcl (n : Nat) (c : Nat → Int32) : Nat × (Nat → Int32) := if c 7 = 0 then (0, c) else if c 8 = 0 then ckn (moc c) n (c 6).toNatClampNeg c else (0, c)
def ocs (c : Nat → Int32) : Prop := ((c 9 = 0 ∧ ∃ n : Nat, n < 16 ∧ c 6 = nI n) ∨ (c 9 = 1 ∧ ∃ n : Nat, n < 256 ∧ c 6 = nI n)) ∧ cb_01 (c 7) ∧ cb_01 (c 8)
theorem t_mask4 : ((1 : Int32) <<< ((4 : Int32) &&& 31)) - 1 = nI (2 ^ 4 - 1) := by decide
theorem t_mask8 : ((1 : Int32) <<< ((8 : Int32) &&& 31)) - 1 = nI (2 ^ 8 - 1) := by decide

theorem c_fall6 : c_Channel_fall 6 (P2 σ a b) = some (nI (fl1 a).1, P2 σ ((fl1 a).2) b) := by
  unfold c_Channel_fall c_Device_request fl1
  rw [cb_let_e, up6]
  show (if a 4 - 1 ≤ 0 then cb_let (cb_up (P2 σ (upd a 4 (a 4 - 1)) b) 6 4 (a 5)) fun σ4 => cb_bo (if σ4 6 0 = 0 then some σ4 else cb_let (cb_up σ4 6 1 1) fun σ2 => some σ2) fun σ6 => some ((1 : Int32), σ6) else some ((0 : Int32), P2 σ (upd a 4 (a 4 - 1)) b)) = _
  by_cases e : a 4 - 1 ≤ 0
  · rw [if_pos e, if_pos e, cb_let_e, up6]
    show (cb_bo (if a 0 = 0 then some (P2 σ (upd (upd a 4 (a 4 - 1)) 4 (a 5)) b) else cb_let (cb_up (P2 σ (upd (upd a 4 (a 4 - 1)) 4 (a 5)) b) 6 1 1) fun σ2 => some σ2) fun σ6 => some ((1 : Int32), σ6)) = some (nI 1, P2 σ (if a 0 = 0 then upd (upd a 4 (a 4 - 1)) 4 (a 5) else upd (upd (upd a 4 (a 4 - 1)) 4 (a 5)) 1 1) b)
    by_cases e0 : a 0 = 0
    · rw [if_pos e0, if_pos e0]; rfl
    · rw [if_neg e0, if_neg e0, cb_let_e, up6]; rfl
  · rw [if_neg e, if_neg e]; rfl
theorem c_trg6 : ∃ r, c_Channel_takeTrigger 6 (P2 σ a b) = some (r, P2 σ (tr1 a) b) ∧ (cb_01 (a 7) → cb_01 (a 8) → r = nI (if a 7 = 0 then 0 else if a 8 = 0 then 0 else (fl1 a).1)) := by
  have w : c_Channel_takeTrigger 6 (P2 σ a b) = if a 7 = 0 then some ((0 : Int32), P2 σ a b) else (if a 8 = 0 then some ((0 : Int32), P2 σ a b) else cb_b2 (c_Channel_fall 6 (P2 σ a b)) fun c3 σc3 => some ((if c3 = 0 then (0 : Int32) else 1), σc3)) := rfl
  rw [w]
  unfold tr1
  by_cases e7 : a 7 = 0
  · rw [if_pos e7, if_pos e7]; exact ⟨0, rfl, fun _ _ => by rw [if_pos e7]; rfl⟩
  · rw [if_neg e7, if_neg e7]
    by_cases e8 : a 8 = 0
    · rw [if_pos e8, if_pos e8]; exact ⟨0, rfl, fun _ _ => by rw [if_neg e7, if_pos e8]; rfl⟩
    · rw [if_neg e8, if_neg e8, cb_b2_e c_fall6]
      refine ⟨_, rfl, fun _ _ => ?_⟩
      rw [if_neg e7, if_neg e8]
      rcases fl1_01 a with h | h <;> rw [h] <;> rfl
theorem c_loop6 {N : Nat} {v : Int32} (d : Nat) : ∀ (f m p i : Nat) (a : Nat → Int32), i + d = m → m < 1000 → c_Channel_takeClocks_H59 N 6 v (d + 1 + f) (P2 σ a b) (nI m) (nI p) (nI i) = some (nI (p + (fln d a).1), P2 σ ((fln d a).2) b) := by
  induction d with
  | zero =>
    intro f m p i a hm hl
    rw [show 0 + 1 + f = f + 1 by omega]
    show c_Channel_takeClocks_B59 N 6 v _ (P2 σ a b) (nI m) (nI p) (nI i) = _
    unfold c_Channel_takeClocks_B59
    rw [if_pos ((nI_leI (by omega) (by omega)).mpr (by omega))]
    rfl
  | succ d ih =>
    intro f m p i a hm hl
    rw [show d + 1 + 1 + f = (d + 1 + f) + 1 by omega]
    show c_Channel_takeClocks_B59 N 6 v (c_Channel_takeClocks_H59 N 6 v (d + 1 + f)) (P2 σ a b) (nI m) (nI p) (nI i) = _
    unfold c_Channel_takeClocks_B59 c_Channel_takeClocks_L76
    rw [if_neg (fun q => by have := (nI_leI (a := m) (b := i) (by omega) (by omega)).mp q; omega), cb_b2_e c_fall6]
    simp only [cb_let_e, nI_1]
    have e0 : (fln (d + 1) a).1 = (fl1 a).1 + (fln d (fl1 a).2).1 := rfl
    have e2 : (fln (d + 1) a).2 = (fln d (fl1 a).2).2 := rfl
    rw [e0, e2]
    rcases fl1_01 a with h | h
    · rw [h, if_pos (show nI 0 = 0 from rfl), ih f m p (i + 1) (fl1 a).2 (by omega) hl, Nat.zero_add]
    · rw [h, if_neg (show ¬ nI 1 = 0 by decide), ih f m (p + 1) (i + 1) (fl1 a).2 (by omega) hl, Nat.add_assoc]
theorem c_tc6 {N n : Nat} (hN : 100 < N) (hn : n < 32) (hc : ocs a) : c_Channel_takeClocks N 6 (P2 σ a b) (nI n) = some (nI (tcl n a).1, P2 σ ((tcl n a).2) b) := by
  have w : c_Channel_takeClocks N 6 (P2 σ a b) (nI n) = if a 7 = 0 then some ((0 : Int32), P2 σ a b) else (if a 8 = 0 then cb_let (a 6 + nI n) fun t10 => cb_let (if a 9 = 0 then (4 : Int32) else 8) fun t13 => cb_let (t10 >>> (t13 &&& 31)) fun t15 => cb_let (cb_up (P2 σ a b) 6 6 (t10 &&& (((1 : Int32) <<< (t13 &&& 31)) - 1))) fun σ17 => c_Channel_takeClocks_H59 N 6 (nI n) N σ17 t15 0 0 else some ((0 : Int32), P2 σ a b)) := rfl
  rw [w]
  unfold tcl moc
  by_cases e7 : a 7 = 0
  · rw [if_pos e7, if_pos e7]; rfl
  · rw [if_neg e7, if_neg e7]
    by_cases e8 : a 8 = 0
    · rw [if_pos e8, if_pos e8]
      obtain ⟨hc, -, -⟩ := hc
      rcases hc with ⟨e9, s, hs, e6⟩ | ⟨e9, s, hs, e6⟩
      · rw [if_pos e9, if_pos e9, e6, nI_clamp (by omega), cb_let_e, cb_let_e, cb_let_e, cb_let_e, nI_add, t_mask4, i_mod, show nI (s + n) >>> ((4 : Int32) &&& 31) = nI ((s + n) / 2 ^ 4) from shr_k (k := 4) (by omega) (by omega), up6, ckn_c n s a hs e6]
        obtain ⟨f, hf⟩ : ∃ f, N = (s + n) / 2 ^ 4 + 1 + f := ⟨N - ((s + n) / 2 ^ 4 + 1), by omega⟩
        have q := c_loop6 (σ := σ) (b := b) (N := N) (v := nI n) ((s + n) / 2 ^ 4) f ((s + n) / 2 ^ 4) 0 0 (upd a 6 (nI ((s + n) % 2 ^ 4))) (by omega) (by omega)
        rw [Nat.zero_add] at q
        rw [← hf] at q
        exact q
      · rw [if_neg (show ¬ a 9 = 0 by rw [e9]; decide), if_neg (show ¬ a 9 = 0 by rw [e9]; decide), e6, nI_clamp (by omega), cb_let_e, cb_let_e, cb_let_e, cb_let_e, nI_add, t_mask8, i_mod, show nI (s + n) >>> ((8 : Int32) &&& 31) = nI ((s + n) / 2 ^ 8) from shr_k (k := 8) (by omega) (by omega), up6, ckn_c n s a hs e6]
        obtain ⟨f, hf⟩ : ∃ f, N = (s + n) / 2 ^ 8 + 1 + f := ⟨N - ((s + n) / 2 ^ 8 + 1), by omega⟩
        have q := c_loop6 (σ := σ) (b := b) (N := N) (v := nI n) ((s + n) / 2 ^ 8) f ((s + n) / 2 ^ 8) 0 0 (upd a 6 (nI ((s + n) % 2 ^ 8))) (by omega) (by omega)
        rw [Nat.zero_add] at q
        rw [← hf] at q
        exact q
    · rw [if_neg e8, if_neg e8]; rfl
theorem c_fall7 : c_Channel_fall 7 (P2 σ a b) = some (nI (fl1 b).1, P2 σ a ((fl1 b).2)) := by
  unfold c_Channel_fall c_Device_request fl1
  rw [cb_let_e, up7]
  show (if b 4 - 1 ≤ 0 then cb_let (cb_up (P2 σ a (upd b 4 (b 4 - 1))) 7 4 (b 5)) fun σ4 => cb_bo (if σ4 7 0 = 0 then some σ4 else cb_let (cb_up σ4 7 1 1) fun σ2 => some σ2) fun σ6 => some ((1 : Int32), σ6) else some ((0 : Int32), P2 σ a (upd b 4 (b 4 - 1)))) = _
  by_cases e : b 4 - 1 ≤ 0
  · rw [if_pos e, if_pos e, cb_let_e, up7]
    show (cb_bo (if b 0 = 0 then some (P2 σ a (upd (upd b 4 (b 4 - 1)) 4 (b 5))) else cb_let (cb_up (P2 σ a (upd (upd b 4 (b 4 - 1)) 4 (b 5))) 7 1 1) fun σ2 => some σ2) fun σ6 => some ((1 : Int32), σ6)) = some (nI 1, P2 σ a (if b 0 = 0 then upd (upd b 4 (b 4 - 1)) 4 (b 5) else upd (upd (upd b 4 (b 4 - 1)) 4 (b 5)) 1 1))
    by_cases e0 : b 0 = 0
    · rw [if_pos e0, if_pos e0]; rfl
    · rw [if_neg e0, if_neg e0, cb_let_e, up7]; rfl
  · rw [if_neg e, if_neg e]; rfl
theorem c_trg7 : ∃ r, c_Channel_takeTrigger 7 (P2 σ a b) = some (r, P2 σ a (tr1 b)) ∧ (cb_01 (b 7) → cb_01 (b 8) → r = nI (if b 7 = 0 then 0 else if b 8 = 0 then 0 else (fl1 b).1)) := by
  have w : c_Channel_takeTrigger 7 (P2 σ a b) = if b 7 = 0 then some ((0 : Int32), P2 σ a b) else (if b 8 = 0 then some ((0 : Int32), P2 σ a b) else cb_b2 (c_Channel_fall 7 (P2 σ a b)) fun c3 σc3 => some ((if c3 = 0 then (0 : Int32) else 1), σc3)) := rfl
  rw [w]
  unfold tr1
  by_cases e7 : b 7 = 0
  · rw [if_pos e7, if_pos e7]; exact ⟨0, rfl, fun _ _ => by rw [if_pos e7]; rfl⟩
  · rw [if_neg e7, if_neg e7]
    by_cases e8 : b 8 = 0
    · rw [if_pos e8, if_pos e8]; exact ⟨0, rfl, fun _ _ => by rw [if_neg e7, if_pos e8]; rfl⟩
    · rw [if_neg e8, if_neg e8, cb_b2_e c_fall7]
      refine ⟨_, rfl, fun _ _ => ?_⟩
      rw [if_neg e7, if_neg e8]
      rcases fl1_01 b with h | h <;> rw [h] <;> rfl
theorem c_loop7 {N : Nat} {v : Int32} (d : Nat) : ∀ (f m p i : Nat) (b : Nat → Int32), i + d = m → m < 1000 → c_Channel_takeClocks_H59 N 7 v (d + 1 + f) (P2 σ a b) (nI m) (nI p) (nI i) = some (nI (p + (fln d b).1), P2 σ a ((fln d b).2)) := by
  induction d with
  | zero =>
    intro f m p i b hm hl
    rw [show 0 + 1 + f = f + 1 by omega]
    show c_Channel_takeClocks_B59 N 7 v _ (P2 σ a b) (nI m) (nI p) (nI i) = _
    unfold c_Channel_takeClocks_B59
    rw [if_pos ((nI_leI (by omega) (by omega)).mpr (by omega))]
    rfl
  | succ d ih =>
    intro f m p i b hm hl
    rw [show d + 1 + 1 + f = (d + 1 + f) + 1 by omega]
    show c_Channel_takeClocks_B59 N 7 v (c_Channel_takeClocks_H59 N 7 v (d + 1 + f)) (P2 σ a b) (nI m) (nI p) (nI i) = _
    unfold c_Channel_takeClocks_B59 c_Channel_takeClocks_L76
    rw [if_neg (fun q => by have := (nI_leI (a := m) (b := i) (by omega) (by omega)).mp q; omega), cb_b2_e c_fall7]
    simp only [cb_let_e, nI_1]
    have e0 : (fln (d + 1) b).1 = (fl1 b).1 + (fln d (fl1 b).2).1 := rfl
    have e2 : (fln (d + 1) b).2 = (fln d (fl1 b).2).2 := rfl
    rw [e0, e2]
    rcases fl1_01 b with h | h
    · rw [h, if_pos (show nI 0 = 0 from rfl), ih f m p (i + 1) (fl1 b).2 (by omega) hl, Nat.zero_add]
    · rw [h, if_neg (show ¬ nI 1 = 0 by decide), ih f m (p + 1) (i + 1) (fl1 b).2 (by omega) hl, Nat.add_assoc]
theorem c_tc7 {N n : Nat} (hN : 100 < N) (hn : n < 32) (hc : ocs b) : c_Channel_takeClocks N 7 (P2 σ a b) (nI n) = some (nI (tcl n b).1, P2 σ a ((tcl n b).2)) := by
  have w : c_Channel_takeClocks N 7 (P2 σ a b) (nI n) = if b 7 = 0 then some ((0 : Int32), P2 σ a b) else (if b 8 = 0 then cb_let (b 6 + nI n) fun t10 => cb_let (if b 9 = 0 then (4 : Int32) else 8) fun t13 => cb_let (t10 >>> (t13 &&& 31)) fun t15 => cb_let (cb_up (P2 σ a b) 7 6 (t10 &&& (((1 : Int32) <<< (t13 &&& 31)) - 1))) fun σ17 => c_Channel_takeClocks_H59 N 7 (nI n) N σ17 t15 0 0 else some ((0 : Int32), P2 σ a b)) := rfl
  rw [w]
  unfold tcl moc
  by_cases e7 : b 7 = 0
  · rw [if_pos e7, if_pos e7]; rfl
  · rw [if_neg e7, if_neg e7]
    by_cases e8 : b 8 = 0
    · rw [if_pos e8, if_pos e8]
      obtain ⟨hc, -, -⟩ := hc
      rcases hc with ⟨e9, s, hs, e6⟩ | ⟨e9, s, hs, e6⟩
      · rw [if_pos e9, if_pos e9, e6, nI_clamp (by omega), cb_let_e, cb_let_e, cb_let_e, cb_let_e, nI_add, t_mask4, i_mod, show nI (s + n) >>> ((4 : Int32) &&& 31) = nI ((s + n) / 2 ^ 4) from shr_k (k := 4) (by omega) (by omega), up7, ckn_c n s b hs e6]
        obtain ⟨f, hf⟩ : ∃ f, N = (s + n) / 2 ^ 4 + 1 + f := ⟨N - ((s + n) / 2 ^ 4 + 1), by omega⟩
        have q := c_loop7 (σ := σ) (a := a) (N := N) (v := nI n) ((s + n) / 2 ^ 4) f ((s + n) / 2 ^ 4) 0 0 (upd b 6 (nI ((s + n) % 2 ^ 4))) (by omega) (by omega)
        rw [Nat.zero_add] at q
        rw [← hf] at q
        exact q
      · rw [if_neg (show ¬ b 9 = 0 by rw [e9]; decide), if_neg (show ¬ b 9 = 0 by rw [e9]; decide), e6, nI_clamp (by omega), cb_let_e, cb_let_e, cb_let_e, cb_let_e, nI_add, t_mask8, i_mod, show nI (s + n) >>> ((8 : Int32) &&& 31) = nI ((s + n) / 2 ^ 8) from shr_k (k := 8) (by omega) (by omega), up7, ckn_c n s b hs e6]
        obtain ⟨f, hf⟩ : ∃ f, N = (s + n) / 2 ^ 8 + 1 + f := ⟨N - ((s + n) / 2 ^ 8 + 1), by omega⟩
        have q := c_loop7 (σ := σ) (a := a) (N := N) (v := nI n) ((s + n) / 2 ^ 8) f ((s + n) / 2 ^ 8) 0 0 (upd b 6 (nI ((s + n) % 2 ^ 8))) (by omega) (by omega)
        rw [Nat.zero_add] at q
        rw [← hf] at q
        exact q
    · rw [if_neg e8, if_neg e8]; rfl
theorem ckn_le {M : Nat} (n : Nat) : ∀ s c, (ckn M n s c).1 ≤ n := by
  induction n with
  | zero => intro s c; exact Nat.le_refl 0
  | succ n ih =>
    intro s c
    unfold ckn
    by_cases h : s + 1 < M
    · rw [if_pos h]; exact Nat.le_succ_of_le (ih _ _)
    · rw [if_neg h]
      have h1 := ih 0 (fl1 (upd c 6 0)).2
      show (fl1 (upd c 6 0)).1 + (ckn M n 0 (fl1 (upd c 6 0)).2).1 ≤ n + 1
      rcases fl1_01 (upd c 6 0) with h | h <;> omega
theorem tcl_le (n : Nat) (c : Nat → Int32) : (tcl n c).1 ≤ n := by
  unfold tcl
  by_cases e7 : c 7 = 0
  · rw [if_pos e7]; exact Nat.zero_le n
  · rw [if_neg e7]
    by_cases e8 : c 8 = 0
    · rw [if_pos e8]; exact ckn_le n _ _
    · rw [if_neg e8]; exact Nat.zero_le n
theorem tr1_k {k : Nat} (h4 : k ≠ 4) (h1 : k ≠ 1) (c : Nat → Int32) : tr1 c k = c k := by
  unfold tr1
  by_cases e7 : c 7 = 0
  · rw [if_pos e7]
  · rw [if_neg e7]
    by_cases e8 : c 8 = 0
    · rw [if_pos e8]
    · rw [if_neg e8]; exact fl1_k h4 h1 c
theorem ocs_tr {c : Nat → Int32} (h : ocs c) : ocs (tr1 c) := by
  unfold ocs at h ⊢
  rw [tr1_k (by decide) (by decide), tr1_k (by decide) (by decide), tr1_k (by decide) (by decide), tr1_k (by decide) (by decide)]
  exact h
theorem ocs_trn (p : Nat) : ∀ c, ocs c → ocs (trn p c) := by
  induction p with
  | zero => intro c h; exact h
  | succ p ih => intro c h; exact ih _ (ocs_tr h)
theorem c_tloop {N n : Nat} (hN : 100 < N) (hn : n < 32) (d : Nat) : ∀ (f m i : Nat) (b : Nat → Int32), i + d = m → m < 1000 → ocs b → c_Chain_takeClocks_H11 N (nI n) (d + 1 + f) (P2 σ a b) (nI m) (nI i) = some (P2 σ a (tcl n (trn d b)).2) := by
  induction d with
  | zero =>
    intro f m i b hm hl hb
    rw [show 0 + 1 + f = f + 1 by omega]
    show c_Chain_takeClocks_B11 N (nI n) _ (P2 σ a b) (nI m) (nI i) = _
    unfold c_Chain_takeClocks_B11
    rw [if_pos ((nI_leI (by omega) (by omega)).mpr (by omega)), cb_b2_e (c_tc7 hN hn hb)]
    rfl
  | succ d ih =>
    intro f m i b hm hl hb
    rw [show d + 1 + 1 + f = (d + 1 + f) + 1 by omega]
    show c_Chain_takeClocks_B11 N (nI n) (c_Chain_takeClocks_H11 N (nI n) (d + 1 + f)) (P2 σ a b) (nI m) (nI i) = _
    unfold c_Chain_takeClocks_B11
    obtain ⟨r, er, -⟩ := c_trg7 (σ := σ) (a := a) (b := b)
    rw [if_neg (fun q => by have := (nI_leI (a := m) (b := i) (by omega) (by omega)).mp q; omega), cb_b2_e er]
    simp only [cb_let_e, nI_1]
    exact ih f m (i + 1) (tr1 b) (by omega) hl (ocs_tr hb)
theorem c_tcs {N n : Nat} (hN : 100 < N) (hn : n < 32) (ha : ocs a) (hb : ocs b) : c_Chain_takeClocks N (P2 σ a b) (nI n) = some (P2 σ (tcl n a).2 (tcl n (trn (tcl n a).1 b)).2) := by
  unfold c_Chain_takeClocks
  rw [cb_b2_e (c_tc6 hN hn ha)]
  have hl := tcl_le n a
  obtain ⟨f, hf⟩ : ∃ f, N = (tcl n a).1 + 1 + f := ⟨N - ((tcl n a).1 + 1), by omega⟩
  have q := c_tloop (σ := σ) (a := (tcl n a).2) hN hn (tcl n a).1 f (tcl n a).1 0 b (by omega) (by omega) hb
  rw [← hf] at q
  exact q
end P22
