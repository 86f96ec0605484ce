/-! The law's own rows. -/
section CBL
variable {X : cb_X} {w : va_W} {pc : Nat} {lv : List (Nat × Value)} {st : List Value} {cc : ByteArray} {own : String} {E : cb_E} {fr lo nL : Nat}
/-- the law's script -/
def cb_scr (X : cb_X) (b L : Nat) (xs : Nat → Int32) : Prop := match X with
  | (_, _, _, _, s, _, _, _, _, _, _, A, _, _, _) => va_X b L xs s s.heap ∧ b < s.heap.size ∧ ¬ A b
theorem cb_sld {b L : Nat} {xs : Nat → Int32} {i : Int32} (nx : Nat) (h : cb_ok X cc own E fr lo nL) (hs : cb_scr X b L xs) (hd : decode cc pc = .ok (.iaload, 1)) (hn : pc + 1 = nx) (hi : vp_in i L) (kk : cb_V X w nx lv (.int (xs i.toNatClampNeg) :: st)) : cb_V X w pc lv (.int i :: .ref b :: st) := by
  subst hn
  obtain ⟨p, l, e, R, s, m, args, below, meth, c, D, A, kX, nX, Q⟩ := X
  exact fun H locs ls hP hD hS hl0 => va_sld h.1 h.2.1 hs.1 hs.2.1 hs.2.2 hS hi hd (kk H locs ls hP hD hS hl0)
theorem cb_slen {b L : Nat} {xs : Nat → Int32} (nx : Nat) (h : cb_ok X cc own E fr lo nL) (hs : cb_scr X b L xs) (hd : decode cc pc = .ok (.arraylength, 1)) (hn : pc + 1 = nx) (kk : cb_V X w nx lv (.int (nI L) :: st)) : cb_V X w pc lv (.ref b :: st) := by
  subst hn
  obtain ⟨p, l, e, R, s, m, args, below, meth, c, D, A, kX, nX, Q⟩ := X
  exact fun H locs ls hP hD hS hl0 => va_slen h.1 h.2.1 hs.1 hs.2.1 hs.2.2 hS hd (kk H locs ls hP hD hS hl0)
theorem cb_app_l {w1 w2 : va_W} {k : Nat} {q : Nat × va_E} (h : w1[k]? = some q) : (w1 ++ w2)[k]? = some q := by
  rw [List.getElem?_append_left (List.getElem?_eq_some_iff.mp h).1]; exact h
theorem cb_app_r {w1 w2 : va_W} {k : Nat} {q : Nat × va_E} (h : w2[k]? = some q) : (w1 ++ w2)[w1.length + k]? = some q := by
  rw [List.getElem?_append_right (Nat.le_add_right _ _), Nat.add_sub_cancel_left]; exact h
theorem cb_app {w1 w2 : va_W} {k : Nat} {q : Nat × va_E} (h : (w1 ++ w2)[k]? = some q) : w1[k]? = some q ∨ ∃ j, k = w1.length + j ∧ w2[j]? = some q := by
  by_cases e : k < w1.length
  · rw [List.getElem?_append_left e] at h; exact Or.inl h
  · rw [List.getElem?_append_right (Nat.le_of_not_lt e)] at h
    exact Or.inr ⟨k - w1.length, by omega, h⟩
theorem cb_swap {w1 w2 : va_W} (kk : cb_V X (w2 ++ w1) pc lv st) : cb_V X (w1 ++ w2) pc lv st := by
  obtain ⟨p, l, e, R, s, m, args, below, meth, c, D, A, kX, nX, Q⟩ := X
  refine fun H locs ls hP hD hS hl0 => kk H locs ls (fun k q hq => ?_) ⟨fun i j x y hx hy hxy => ?_, fun k q hq => ?_⟩ hS hl0
  · rcases cb_app hq with g | ⟨j, -, g⟩
    · exact hP _ q (cb_app_r g)
    · exact hP _ q (cb_app_l g)
  · rcases cb_app hx with g | ⟨i', rfl, g⟩ <;> rcases cb_app hy with g2 | ⟨j', rfl, g2⟩
    · have := hD.1 _ _ x y (cb_app_r (w1 := w1) g) (cb_app_r (w1 := w1) g2) hxy; omega
    · have h1 := hD.1 _ _ x y (cb_app_r (w1 := w1) g) (cb_app_l g2) hxy
      have h2 := (List.getElem?_eq_some_iff.mp g2).1
      omega
    · have h1 := hD.1 _ _ x y (cb_app_l g) (cb_app_r (w1 := w1) g2) hxy
      have h2 := (List.getElem?_eq_some_iff.mp g).1
      omega
    · have := hD.1 _ _ x y (cb_app_l g) (cb_app_l g2) hxy; omega
  · rcases cb_app hq with g | ⟨j, -, g⟩
    · exact hD.2 _ q (cb_app_r g)
    · exact hD.2 _ q (cb_app_l g)
end CBL
/-- a contract under more words -/
theorem cb_C_mono {l : Launch} {y : MethodName} {bytes : ByteArray} {maxL : Nat} {rt : Option FieldType} {rm : Room} {D : va_G} {E E' : cb_E} {as : List Nat} {av : List Value} {w w' : va_W} {ret : Option Value} (h : cb_C l y bytes maxL rt rm D E as av w ret w') (h1 : E.1 = E'.1) (h2 : ∀ x ∈ E.2.1, x ∈ E'.2.1) (h3 : ∀ U : State, va_K D vwCl E'.2.2 U → va_K D vwCl E.2.2 U) : cb_C l y bytes maxL rt rm D E' as av w ret w' := by
  obtain ⟨T, N, K⟩ := E
  obtain ⟨T', N', K'⟩ := E'
  cases h1
  intro p e ha hc hk s m args below hf happ hP ht
  obtain ⟨g0, gP, gK, gN, gD⟩ := hP
  exact h p e ha hc hk s m args below hf happ ⟨g0, gP, h3 s gK, fun x hx => gN x (h2 x hx), gD⟩ ht
theorem cb_N_sub : ∀ x ∈ cb_N, x ∈ cb_NK := by
  intro x hx
  obtain ⟨h1, h2⟩ := List.mem_filter.mp hx
  refine List.mem_filter.mpr ⟨h1, ?_⟩
  cases x <;> first | rfl | exact h2
def caM (c : Nat → ClassId) : Nat → ClassId := fun k => if k = 0 then c 0 else c 2
theorem cb_CK {c : Nat → ClassId} {l : Launch} {y : MethodName} {bytes : ByteArray} {maxL : Nat} {rt : Option FieldType} {rm : Room} {D : va_G} {as : List Nat} {av : List Value} {w w' : va_W} {ret : Option Value} (h : cb_C l y bytes maxL rt rm D (EC c) as av w ret w') : cb_C l y bytes maxL rt rm D (EK c) as av w ret w' :=
  cb_C_mono h rfl cb_N_sub (fun U hK => hK.sub [0, 1] rfl)
theorem cb_MK {c : Nat → ClassId} {l : Launch} {y : MethodName} {bytes : ByteArray} {maxL : Nat} {rt : Option FieldType} {rm : Room} {D : va_G} {as : List Nat} {av : List Value} {w w' : va_W} {ret : Option Value} (h : cb_C l y bytes maxL rt rm D (EM (caM c)) as av w ret w') : cb_C l y bytes maxL rt rm D (EK c) as av w ret w' :=
  cb_C_mono h rfl cb_N_sub (fun U hK => hK.sub [0, 2] rfl)
section LW
variable {X : cb_X} {a b2 : Nat → Nat} {c : Nat → ClassId} {b L i : Nat} {xs : Nat → Int32} {g : Int32 × Int32 × Int32} {σ τ : cb_S}
def lwL (a b2 : Nat → Nat) (b i : Nat) : List (Nat × Value) := [(3, .int (nI i)), (2, .ref (b2 0)), (1, .ref (a 0)), (0, .ref b)]
theorem vi1 (hi : i + 3 ≤ L) (hL : L ≤ 1536) : vp_in (nI i + 1) L := by rw [nI_1]; exact vp_in_nI (by omega) (by omega)
theorem vi2 (hi : i + 3 ≤ L) (hL : L ≤ 1536) : vp_in (nI i + 2) L := by rw [show nI i + 2 = nI (i + 2) from nI_add i 2]; exact vp_in_nI (by omega) (by omega)
set_option maxRecDepth 100000 in
set_option maxHeartbeats 4000000 in
theorem lw_poke (h : cb_ok X code R_law (EK c) 11 418 4) (hs : cb_scr X b L xs) (hR : cb_R g σ τ) (hi : i + 3 ≤ L) (hL : L ≤ 1536) (kk : ∀ (g' : Int32 × Int32 × Int32) (σ' τ' : cb_S), cb_R g' σ' τ' → cb_V X (WC a c σ' ++ WM b2 (caM c) τ') 422 (lwL a b2 b i) []) : cb_V X (WC a c σ ++ WM b2 (caM c) τ) 96 (lwL a b2 b i) [] := by
  obtain ⟨r, σ', τ', q1, q2, g', h'⟩ := s_poke hR (xs (nI i + 1).toNatClampNeg) (xs (nI i + 2).toNatClampNeg)
  refine cb_aload_n 97 2 h dL_96 rfl rfl rfl ?_
  refine cb_aload_n 98 3 h dL_97 rfl rfl rfl ?_
  refine cb_iload_n 99 0 h dL_98 rfl rfl rfl ?_
  refine cb_iconst (v := 1) 100 h dL_99 rfl (by decide +kernel) ?_
  refine cb_iadd 101 h dL_100 rfl ?_
  refine cb_sld 102 h hs dL_101 rfl (vi1 hi hL) ?_
  refine cb_aload_n 103 3 h dL_102 rfl rfl rfl ?_
  refine cb_iload_n 104 0 h dL_103 rfl rfl rfl ?_
  refine cb_iconst (v := 2) 105 h dL_104 rfl (by decide +kernel) ?_
  refine cb_iadd 106 h dL_105 rfl ?_
  refine cb_sld 107 h hs dL_106 rfl (vi2 hi hL) ?_
  refine cb_callV (n := 2) (r := WM b2 (caM c) τ) (As := [.int (xs (nI i + 1).toNatClampNeg), .int (xs (nI i + 2).toNatClampNeg)]) 110 0 h dL_107 rfl (cb_CK (ct_Board_poke q1)) ⟨(cb_t2 31 rfl rfl), (cb_t2 34 rfl rfl), (cb_t1 1 rfl rfl), ⟨by decide, by decide⟩, by decide +kernel⟩ ⟨(cb_t2 32 rfl rfl), (cb_t2 33 rfl rfl)⟩ rfl rfl rfl rfl rfl rfl ⟨rfl, rfl, Nat.le_of_ble_eq_true rfl, Nat.le_of_ble_eq_true rfl⟩ rfl rfl (Nat.le_of_ble_eq_true rfl) ?_
  show cb_V X (WC a c σ' ++ WM b2 (caM c) τ) 110 (lwL a b2 b i) [.int r]
  refine cb_aload_n 111 1 h dL_110 rfl rfl rfl ?_
  refine cb_aload_n 112 3 h dL_111 rfl rfl rfl ?_
  refine cb_iload_n 113 0 h dL_112 rfl rfl rfl ?_
  refine cb_iconst (v := 1) 114 h dL_113 rfl (by decide +kernel) ?_
  refine cb_iadd 115 h dL_114 rfl ?_
  refine cb_sld 116 h hs dL_115 rfl (vi1 hi hL) ?_
  refine cb_aload_n 117 3 h dL_116 rfl rfl rfl ?_
  refine cb_iload_n 118 0 h dL_117 rfl rfl rfl ?_
  refine cb_iconst (v := 2) 119 h dL_118 rfl (by decide +kernel) ?_
  refine cb_iadd 120 h dL_119 rfl ?_
  refine cb_sld 121 h hs dL_120 rfl (vi2 hi hL) ?_
  refine cb_swap ?_
  refine cb_callV (n := 2) (r := WC a c σ') (As := [.int (xs (nI i + 1).toNatClampNeg), .int (xs (nI i + 2).toNatClampNeg)]) 124 0 h dL_121 rfl (cb_MK (mt_poke q2)) ⟨(cb_t4 33 rfl rfl), (cb_t4 36 rfl rfl), (cb_t1 10 rfl rfl), ⟨by decide, by decide⟩, by decide +kernel⟩ ⟨(cb_t4 34 rfl rfl), (cb_t4 35 rfl rfl)⟩ rfl rfl rfl rfl rfl rfl ⟨rfl, rfl, Nat.le_of_ble_eq_true rfl, Nat.le_of_ble_eq_true rfl⟩ rfl rfl (Nat.le_of_ble_eq_true rfl) ?_
  show cb_V X (WM b2 (caM c) τ' ++ WC a c σ') 124 (lwL a b2 b i) [.int r, .int r]
  refine cb_swap ?_
  refine cb_icmp_eq 422 127 h dL_124 rfl rfl (fun _ => ?_) (fun q => absurd rfl q)
  exact kk _ _ _ h'
set_option maxRecDepth 100000 in
set_option maxHeartbeats 4000000 in
theorem lw_poke4 (h : cb_ok X code R_law (EK c) 11 418 4) (hs : cb_scr X b L xs) (hR : cb_R g σ τ) (hi : i + 3 ≤ L) (hL : L ≤ 1536) (kk : ∀ (g' : Int32 × Int32 × Int32) (σ' τ' : cb_S), cb_R g' σ' τ' → cb_V X (WC a c σ' ++ WM b2 (caM c) τ') 422 (lwL a b2 b i) []) : cb_V X (WC a c σ ++ WM b2 (caM c) τ) 129 (lwL a b2 b i) [] := by
  obtain ⟨r, σ', τ', q1, q2, g', h'⟩ := s_poke4 hR (xs (nI i + 1).toNatClampNeg) (xs (nI i + 2).toNatClampNeg)
  refine cb_aload_n 130 2 h dL_129 rfl rfl rfl ?_
  refine cb_aload_n 131 3 h dL_130 rfl rfl rfl ?_
  refine cb_iload_n 132 0 h dL_131 rfl rfl rfl ?_
  refine cb_iconst (v := 1) 133 h dL_132 rfl (by decide +kernel) ?_
  refine cb_iadd 134 h dL_133 rfl ?_
  refine cb_sld 135 h hs dL_134 rfl (vi1 hi hL) ?_
  refine cb_aload_n 136 3 h dL_135 rfl rfl rfl ?_
  refine cb_iload_n 137 0 h dL_136 rfl rfl rfl ?_
  refine cb_iconst (v := 2) 138 h dL_137 rfl (by decide +kernel) ?_
  refine cb_iadd 139 h dL_138 rfl ?_
  refine cb_sld 140 h hs dL_139 rfl (vi2 hi hL) ?_
  refine cb_callV (n := 2) (r := WM b2 (caM c) τ) (As := [.int (xs (nI i + 1).toNatClampNeg), .int (xs (nI i + 2).toNatClampNeg)]) 143 0 h dL_140 rfl (cb_CK (ct_Board_poke4 q1)) ⟨(cb_t2 39 rfl rfl), (cb_t2 42 rfl rfl), (cb_t1 1 rfl rfl), ⟨by decide, by decide⟩, by decide +kernel⟩ ⟨(cb_t2 40 rfl rfl), (cb_t2 41 rfl rfl)⟩ rfl rfl rfl rfl rfl rfl ⟨rfl, rfl, Nat.le_of_ble_eq_true rfl, Nat.le_of_ble_eq_true rfl⟩ rfl rfl (Nat.le_of_ble_eq_true rfl) ?_
  show cb_V X (WC a c σ' ++ WM b2 (caM c) τ) 143 (lwL a b2 b i) [.int r]
  refine cb_aload_n 144 1 h dL_143 rfl rfl rfl ?_
  refine cb_aload_n 145 3 h dL_144 rfl rfl rfl ?_
  refine cb_iload_n 146 0 h dL_145 rfl rfl rfl ?_
  refine cb_iconst (v := 1) 147 h dL_146 rfl (by decide +kernel) ?_
  refine cb_iadd 148 h dL_147 rfl ?_
  refine cb_sld 149 h hs dL_148 rfl (vi1 hi hL) ?_
  refine cb_aload_n 150 3 h dL_149 rfl rfl rfl ?_
  refine cb_iload_n 151 0 h dL_150 rfl rfl rfl ?_
  refine cb_iconst (v := 2) 152 h dL_151 rfl (by decide +kernel) ?_
  refine cb_iadd 153 h dL_152 rfl ?_
  refine cb_sld 154 h hs dL_153 rfl (vi2 hi hL) ?_
  refine cb_swap ?_
  refine cb_callV (n := 2) (r := WC a c σ') (As := [.int (xs (nI i + 1).toNatClampNeg), .int (xs (nI i + 2).toNatClampNeg)]) 157 0 h dL_154 rfl (cb_MK (mt_poke4 q2)) ⟨(cb_t4 37 rfl rfl), (cb_t4 40 rfl rfl), (cb_t1 10 rfl rfl), ⟨by decide, by decide⟩, by decide +kernel⟩ ⟨(cb_t4 38 rfl rfl), (cb_t4 39 rfl rfl)⟩ rfl rfl rfl rfl rfl rfl ⟨rfl, rfl, Nat.le_of_ble_eq_true rfl, Nat.le_of_ble_eq_true rfl⟩ rfl rfl (Nat.le_of_ble_eq_true rfl) ?_
  show cb_V X (WM b2 (caM c) τ' ++ WC a c σ') 157 (lwL a b2 b i) [.int r, .int r]
  refine cb_swap ?_
  refine cb_icmp_eq 422 160 h dL_157 rfl rfl (fun _ => ?_) (fun q => absurd rfl q)
  exact kk _ _ _ h'
set_option maxRecDepth 100000 in
set_option maxHeartbeats 4000000 in
theorem lw_peek (h : cb_ok X code R_law (EK c) 11 418 4) (hs : cb_scr X b L xs) (hR : cb_R g σ τ) (hi : i + 3 ≤ L) (hL : L ≤ 1536) (kk : ∀ (g' : Int32 × Int32 × Int32) (σ' τ' : cb_S), cb_R g' σ' τ' → cb_V X (WC a c σ' ++ WM b2 (caM c) τ') 422 (lwL a b2 b i) []) : cb_V X (WC a c σ ++ WM b2 (caM c) τ) 162 (lwL a b2 b i) [] := by
  obtain ⟨r, q1, q2, -⟩ := s_peek hR (xs (nI i + 1).toNatClampNeg)
  refine cb_aload_n 163 2 h dL_162 rfl rfl rfl ?_
  refine cb_aload_n 164 3 h dL_163 rfl rfl rfl ?_
  refine cb_iload_n 165 0 h dL_164 rfl rfl rfl ?_
  refine cb_iconst (v := 1) 166 h dL_165 rfl (by decide +kernel) ?_
  refine cb_iadd 167 h dL_166 rfl ?_
  refine cb_sld 168 h hs dL_167 rfl (vi1 hi hL) ?_
  refine cb_callV (n := 1) (r := WM b2 (caM c) τ) (As := [.int (xs (nI i + 1).toNatClampNeg)]) 171 0 h dL_168 rfl (cb_CK (ct_Board_peek q1)) ⟨(cb_t2 43 rfl rfl), (cb_t2 46 rfl rfl), (cb_t1 1 rfl rfl), ⟨by decide, by decide⟩, by decide +kernel⟩ ⟨(cb_t2 44 rfl rfl), (cb_t2 45 rfl rfl)⟩ rfl rfl rfl rfl rfl rfl ⟨rfl, rfl, Nat.le_of_ble_eq_true rfl, Nat.le_of_ble_eq_true rfl⟩ rfl rfl (Nat.le_of_ble_eq_true rfl) ?_
  show cb_V X (WC a c σ ++ WM b2 (caM c) τ) 171 (lwL a b2 b i) [.int r]
  refine cb_aload_n 172 1 h dL_171 rfl rfl rfl ?_
  refine cb_aload_n 173 3 h dL_172 rfl rfl rfl ?_
  refine cb_iload_n 174 0 h dL_173 rfl rfl rfl ?_
  refine cb_iconst (v := 1) 175 h dL_174 rfl (by decide +kernel) ?_
  refine cb_iadd 176 h dL_175 rfl ?_
  refine cb_sld 177 h hs dL_176 rfl (vi1 hi hL) ?_
  refine cb_swap ?_
  refine cb_callV (n := 1) (r := WC a c σ) (As := [.int (xs (nI i + 1).toNatClampNeg)]) 180 0 h dL_177 rfl (cb_MK (mt_peek q2)) ⟨(cb_t4 41 rfl rfl), (cb_t4 44 rfl rfl), (cb_t1 10 rfl rfl), ⟨by decide, by decide⟩, by decide +kernel⟩ ⟨(cb_t4 42 rfl rfl), (cb_t4 43 rfl rfl)⟩ rfl rfl rfl rfl rfl rfl ⟨rfl, rfl, Nat.le_of_ble_eq_true rfl, Nat.le_of_ble_eq_true rfl⟩ rfl rfl (Nat.le_of_ble_eq_true rfl) ?_
  show cb_V X (WM b2 (caM c) τ ++ WC a c σ) 180 (lwL a b2 b i) [.int r, .int r]
  refine cb_swap ?_
  refine cb_icmp_eq 422 183 h dL_180 rfl rfl (fun _ => ?_) (fun q => absurd rfl q)
  exact kk _ _ _ hR
set_option maxRecDepth 100000 in
set_option maxHeartbeats 4000000 in
theorem lw_register (h : cb_ok X code R_law (EK c) 11 418 4) (hs : cb_scr X b L xs) (hR : cb_R g σ τ) (hi : i + 3 ≤ L) (hL : L ≤ 1536) (kk : ∀ (g' : Int32 × Int32 × Int32) (σ' τ' : cb_S), cb_R g' σ' τ' → cb_V X (WC a c σ' ++ WM b2 (caM c) τ') 422 (lwL a b2 b i) []) : cb_V X (WC a c σ ++ WM b2 (caM c) τ) 185 (lwL a b2 b i) [] := by
  obtain ⟨r, q1, q2, -⟩ := s_register hR (xs (nI i + 1).toNatClampNeg)
  refine cb_aload_n 186 2 h dL_185 rfl rfl rfl ?_
  refine cb_aload_n 187 3 h dL_186 rfl rfl rfl ?_
  refine cb_iload_n 188 0 h dL_187 rfl rfl rfl ?_
  refine cb_iconst (v := 1) 189 h dL_188 rfl (by decide +kernel) ?_
  refine cb_iadd 190 h dL_189 rfl ?_
  refine cb_sld 191 h hs dL_190 rfl (vi1 hi hL) ?_
  refine cb_callV (n := 1) (r := WM b2 (caM c) τ) (As := [.int (xs (nI i + 1).toNatClampNeg)]) 194 0 h dL_191 rfl (cb_CK (ct_Board_register q1)) ⟨(cb_t2 51 rfl rfl), (cb_t2 54 rfl rfl), (cb_t1 1 rfl rfl), ⟨by decide, by decide⟩, by decide +kernel⟩ ⟨(cb_t2 52 rfl rfl), (cb_t2 53 rfl rfl)⟩ rfl rfl rfl rfl rfl rfl ⟨rfl, rfl, Nat.le_of_ble_eq_true rfl, Nat.le_of_ble_eq_true rfl⟩ rfl rfl (Nat.le_of_ble_eq_true rfl) ?_
  show cb_V X (WC a c σ ++ WM b2 (caM c) τ) 194 (lwL a b2 b i) [.int r]
  refine cb_aload_n 195 1 h dL_194 rfl rfl rfl ?_
  refine cb_aload_n 196 3 h dL_195 rfl rfl rfl ?_
  refine cb_iload_n 197 0 h dL_196 rfl rfl rfl ?_
  refine cb_iconst (v := 1) 198 h dL_197 rfl (by decide +kernel) ?_
  refine cb_iadd 199 h dL_198 rfl ?_
  refine cb_sld 200 h hs dL_199 rfl (vi1 hi hL) ?_
  refine cb_swap ?_
  refine cb_callV (n := 1) (r := WC a c σ) (As := [.int (xs (nI i + 1).toNatClampNeg)]) 203 0 h dL_200 rfl (cb_MK (mt_register q2)) ⟨(cb_t4 45 rfl rfl), (cb_t4 48 rfl rfl), (cb_t1 10 rfl rfl), ⟨by decide, by decide⟩, by decide +kernel⟩ ⟨(cb_t4 46 rfl rfl), (cb_t4 47 rfl rfl)⟩ rfl rfl rfl rfl rfl rfl ⟨rfl, rfl, Nat.le_of_ble_eq_true rfl, Nat.le_of_ble_eq_true rfl⟩ rfl rfl (Nat.le_of_ble_eq_true rfl) ?_
  show cb_V X (WM b2 (caM c) τ ++ WC a c σ) 203 (lwL a b2 b i) [.int r, .int r]
  refine cb_swap ?_
  refine cb_icmp_eq 422 206 h dL_203 rfl rfl (fun _ => ?_) (fun q => absurd rfl q)
  exact kk _ _ _ hR
set_option maxRecDepth 100000 in
set_option maxHeartbeats 4000000 in
theorem lw_set (h : cb_ok X code R_law (EK c) 11 418 4) (hs : cb_scr X b L xs) (hR : cb_R g σ τ) (hi : i + 3 ≤ L) (hL : L ≤ 1536) (kk : ∀ (g' : Int32 × Int32 × Int32) (σ' τ' : cb_S), cb_R g' σ' τ' → cb_V X (WC a c σ' ++ WM b2 (caM c) τ') 422 (lwL a b2 b i) []) : cb_V X (WC a c σ ++ WM b2 (caM c) τ) 208 (lwL a b2 b i) [] := by
  obtain ⟨r, σ', τ', q1, q2, g', h'⟩ := s_set hR (xs (nI i + 1).toNatClampNeg) (xs (nI i + 2).toNatClampNeg)
  refine cb_aload_n 209 2 h dL_208 rfl rfl rfl ?_
  refine cb_aload_n 210 3 h dL_209 rfl rfl rfl ?_
  refine cb_iload_n 211 0 h dL_210 rfl rfl rfl ?_
  refine cb_iconst (v := 1) 212 h dL_211 rfl (by decide +kernel) ?_
  refine cb_iadd 213 h dL_212 rfl ?_
  refine cb_sld 214 h hs dL_213 rfl (vi1 hi hL) ?_
  refine cb_aload_n 215 3 h dL_214 rfl rfl rfl ?_
  refine cb_iload_n 216 0 h dL_215 rfl rfl rfl ?_
  refine cb_iconst (v := 2) 217 h dL_216 rfl (by decide +kernel) ?_
  refine cb_iadd 218 h dL_217 rfl ?_
  refine cb_sld 219 h hs dL_218 rfl (vi2 hi hL) ?_
  refine cb_callV (n := 2) (r := WM b2 (caM c) τ) (As := [.int (xs (nI i + 1).toNatClampNeg), .int (xs (nI i + 2).toNatClampNeg)]) 222 0 h dL_219 rfl (cb_CK (ct_Board_set q1)) ⟨(cb_t2 66 rfl rfl), (cb_t2 69 rfl rfl), (cb_t1 1 rfl rfl), ⟨by decide, by decide⟩, by decide +kernel⟩ ⟨(cb_t2 67 rfl rfl), (cb_t2 68 rfl rfl)⟩ rfl rfl rfl rfl rfl rfl ⟨rfl, rfl, Nat.le_of_ble_eq_true rfl, Nat.le_of_ble_eq_true rfl⟩ rfl rfl (Nat.le_of_ble_eq_true rfl) ?_
  show cb_V X (WC a c σ' ++ WM b2 (caM c) τ) 222 (lwL a b2 b i) [.int r]
  refine cb_aload_n 223 1 h dL_222 rfl rfl rfl ?_
  refine cb_aload_n 224 3 h dL_223 rfl rfl rfl ?_
  refine cb_iload_n 225 0 h dL_224 rfl rfl rfl ?_
  refine cb_iconst (v := 1) 226 h dL_225 rfl (by decide +kernel) ?_
  refine cb_iadd 227 h dL_226 rfl ?_
  refine cb_sld 228 h hs dL_227 rfl (vi1 hi hL) ?_
  refine cb_aload_n 229 3 h dL_228 rfl rfl rfl ?_
  refine cb_iload_n 230 0 h dL_229 rfl rfl rfl ?_
  refine cb_iconst (v := 2) 231 h dL_230 rfl (by decide +kernel) ?_
  refine cb_iadd 232 h dL_231 rfl ?_
  refine cb_sld 233 h hs dL_232 rfl (vi2 hi hL) ?_
  refine cb_swap ?_
  refine cb_callV (n := 2) (r := WC a c σ') (As := [.int (xs (nI i + 1).toNatClampNeg), .int (xs (nI i + 2).toNatClampNeg)]) 236 0 h dL_233 rfl (cb_MK (mt_set q2)) ⟨(cb_t4 57 rfl rfl), (cb_t4 60 rfl rfl), (cb_t1 10 rfl rfl), ⟨by decide, by decide⟩, by decide +kernel⟩ ⟨(cb_t4 58 rfl rfl), (cb_t4 59 rfl rfl)⟩ rfl rfl rfl rfl rfl rfl ⟨rfl, rfl, Nat.le_of_ble_eq_true rfl, Nat.le_of_ble_eq_true rfl⟩ rfl rfl (Nat.le_of_ble_eq_true rfl) ?_
  show cb_V X (WM b2 (caM c) τ' ++ WC a c σ') 236 (lwL a b2 b i) [.int r, .int r]
  refine cb_swap ?_
  refine cb_icmp_eq 422 239 h dL_236 rfl rfl (fun _ => ?_) (fun q => absurd rfl q)
  exact kk _ _ _ h'
set_option maxRecDepth 100000 in
set_option maxHeartbeats 4000000 in
theorem lw_run (h : cb_ok X code R_law (EK c) 11 418 4) (hs : cb_scr X b L xs) (hR : cb_R g σ τ) (hi : i + 3 ≤ L) (hL : L ≤ 1536) (kk : ∀ (g' : Int32 × Int32 × Int32) (σ' τ' : cb_S), cb_R g' σ' τ' → cb_V X (WC a c σ' ++ WM b2 (caM c) τ') 422 (lwL a b2 b i) []) : cb_V X (WC a c σ ++ WM b2 (caM c) τ) 241 (lwL a b2 b i) [] := by
  obtain ⟨r, σ', τ', q1, q2, g', h'⟩ := s_run hR (N := 6000) (by omega) (xs (nI i + 1).toNatClampNeg)
  refine cb_aload_n 242 2 h dL_241 rfl rfl rfl ?_
  refine cb_aload_n 243 3 h dL_242 rfl rfl rfl ?_
  refine cb_iload_n 244 0 h dL_243 rfl rfl rfl ?_
  refine cb_iconst (v := 1) 245 h dL_244 rfl (by decide +kernel) ?_
  refine cb_iadd 246 h dL_245 rfl ?_
  refine cb_sld 247 h hs dL_246 rfl (vi1 hi hL) ?_
  refine cb_callV (n := 1) (r := WM b2 (caM c) τ) (As := [.int (xs (nI i + 1).toNatClampNeg)]) 250 0 h dL_247 rfl (cb_CK (ct_Board_run q1)) ⟨(cb_t2 78 rfl rfl), (cb_t2 81 rfl rfl), (cb_t1 1 rfl rfl), ⟨by decide, by decide⟩, by decide +kernel⟩ ⟨(cb_t2 79 rfl rfl), (cb_t2 80 rfl rfl)⟩ rfl rfl rfl rfl rfl rfl ⟨rfl, rfl, Nat.le_of_ble_eq_true rfl, Nat.le_of_ble_eq_true rfl⟩ rfl rfl (Nat.le_of_ble_eq_true rfl) ?_
  show cb_V X (WC a c σ' ++ WM b2 (caM c) τ) 250 (lwL a b2 b i) [.int r]
  refine cb_aload_n 251 1 h dL_250 rfl rfl rfl ?_
  refine cb_aload_n 252 3 h dL_251 rfl rfl rfl ?_
  refine cb_iload_n 253 0 h dL_252 rfl rfl rfl ?_
  refine cb_iconst (v := 1) 254 h dL_253 rfl (by decide +kernel) ?_
  refine cb_iadd 255 h dL_254 rfl ?_
  refine cb_sld 256 h hs dL_255 rfl (vi1 hi hL) ?_
  refine cb_swap ?_
  refine cb_callV (n := 1) (r := WC a c σ') (As := [.int (xs (nI i + 1).toNatClampNeg)]) 259 0 h dL_256 rfl (cb_MK (mt_run q2)) ⟨(cb_t4 69 rfl rfl), (cb_t4 72 rfl rfl), (cb_t1 10 rfl rfl), ⟨by decide, by decide⟩, by decide +kernel⟩ ⟨(cb_t4 70 rfl rfl), (cb_t4 71 rfl rfl)⟩ rfl rfl rfl rfl rfl rfl ⟨rfl, rfl, Nat.le_of_ble_eq_true rfl, Nat.le_of_ble_eq_true rfl⟩ rfl rfl (Nat.le_of_ble_eq_true rfl) ?_
  show cb_V X (WM b2 (caM c) τ' ++ WC a c σ') 259 (lwL a b2 b i) [.int r, .int r]
  refine cb_swap ?_
  refine cb_icmp_eq 422 262 h dL_259 rfl rfl (fun _ => ?_) (fun q => absurd rfl q)
  exact kk _ _ _ h'
set_option maxRecDepth 100000 in
set_option maxHeartbeats 4000000 in
theorem lw_state (h : cb_ok X code R_law (EK c) 11 418 4) (hs : cb_scr X b L xs) (hR : cb_R g σ τ) (hi : i + 3 ≤ L) (hL : L ≤ 1536) (kk : ∀ (g' : Int32 × Int32 × Int32) (σ' τ' : cb_S), cb_R g' σ' τ' → cb_V X (WC a c σ' ++ WM b2 (caM c) τ') 422 (lwL a b2 b i) []) : cb_V X (WC a c σ ++ WM b2 (caM c) τ) 264 (lwL a b2 b i) [] := by
  obtain ⟨r, q1, q2, -⟩ := s_state hR
  refine cb_aload_n 265 2 h dL_264 rfl rfl rfl ?_
  refine cb_callV (n := 0) (r := WM b2 (caM c) τ) (As := []) 268 0 h dL_265 rfl (cb_CK (ct_Board_state q1)) ⟨(cb_t3 107 rfl rfl), (cb_t3 110 rfl rfl), (cb_t1 1 rfl rfl), ⟨by decide, by decide⟩, by decide +kernel⟩ ⟨(cb_t3 108 rfl rfl), (cb_t3 109 rfl rfl)⟩ rfl rfl rfl rfl rfl rfl ⟨rfl, rfl, Nat.le_of_ble_eq_true rfl, Nat.le_of_ble_eq_true rfl⟩ rfl rfl (Nat.le_of_ble_eq_true rfl) ?_
  show cb_V X (WC a c σ ++ WM b2 (caM c) τ) 268 (lwL a b2 b i) [.int r]
  refine cb_aload_n 269 1 h dL_268 rfl rfl rfl ?_
  refine cb_swap ?_
  refine cb_callV (n := 0) (r := WC a c σ) (As := []) 272 0 h dL_269 rfl (cb_MK (mt_state q2)) ⟨(cb_t5 24 rfl rfl), (cb_t5 27 rfl rfl), (cb_t1 10 rfl rfl), ⟨by decide, by decide⟩, by decide +kernel⟩ ⟨(cb_t5 25 rfl rfl), (cb_t5 26 rfl rfl)⟩ rfl rfl rfl rfl rfl rfl ⟨rfl, rfl, Nat.le_of_ble_eq_true rfl, Nat.le_of_ble_eq_true rfl⟩ rfl rfl (Nat.le_of_ble_eq_true rfl) ?_
  show cb_V X (WM b2 (caM c) τ ++ WC a c σ) 272 (lwL a b2 b i) [.int r, .int r]
  refine cb_swap ?_
  refine cb_icmp_eq 422 275 h dL_272 rfl rfl (fun _ => ?_) (fun q => absurd rfl q)
  exact kk _ _ _ hR
set_option maxRecDepth 100000 in
set_option maxHeartbeats 4000000 in
theorem lw_trigger (h : cb_ok X code R_law (EK c) 11 418 4) (hs : cb_scr X b L xs) (hR : cb_R g σ τ) (hi : i + 3 ≤ L) (hL : L ≤ 1536) (kk : ∀ (g' : Int32 × Int32 × Int32) (σ' τ' : cb_S), cb_R g' σ' τ' → cb_V X (WC a c σ' ++ WM b2 (caM c) τ') 422 (lwL a b2 b i) []) : cb_V X (WC a c σ ++ WM b2 (caM c) τ) 277 (lwL a b2 b i) [] := by
  obtain ⟨r, σ', τ', q1, q2, g', h'⟩ := s_trigger hR (xs (nI i + 1).toNatClampNeg)
  refine cb_aload_n 278 2 h dL_277 rfl rfl rfl ?_
  refine cb_aload_n 279 3 h dL_278 rfl rfl rfl ?_
  refine cb_iload_n 280 0 h dL_279 rfl rfl rfl ?_
  refine cb_iconst (v := 1) 281 h dL_280 rfl (by decide +kernel) ?_
  refine cb_iadd 282 h dL_281 rfl ?_
  refine cb_sld 283 h hs dL_282 rfl (vi1 hi hL) ?_
  refine cb_callV (n := 1) (r := WM b2 (caM c) τ) (As := [.int (xs (nI i + 1).toNatClampNeg)]) 286 0 h dL_283 rfl (cb_CK (ct_Board_trigger q1)) ⟨(cb_t3 111 rfl rfl), (cb_t3 114 rfl rfl), (cb_t1 1 rfl rfl), ⟨by decide, by decide⟩, by decide +kernel⟩ ⟨(cb_t3 112 rfl rfl), (cb_t3 113 rfl rfl)⟩ rfl rfl rfl rfl rfl rfl ⟨rfl, rfl, Nat.le_of_ble_eq_true rfl, Nat.le_of_ble_eq_true rfl⟩ rfl rfl (Nat.le_of_ble_eq_true rfl) ?_
  show cb_V X (WC a c σ' ++ WM b2 (caM c) τ) 286 (lwL a b2 b i) [.int r]
  refine cb_aload_n 287 1 h dL_286 rfl rfl rfl ?_
  refine cb_aload_n 288 3 h dL_287 rfl rfl rfl ?_
  refine cb_iload_n 289 0 h dL_288 rfl rfl rfl ?_
  refine cb_iconst (v := 1) 290 h dL_289 rfl (by decide +kernel) ?_
  refine cb_iadd 291 h dL_290 rfl ?_
  refine cb_sld 292 h hs dL_291 rfl (vi1 hi hL) ?_
  refine cb_swap ?_
  refine cb_callV (n := 1) (r := WC a c σ') (As := [.int (xs (nI i + 1).toNatClampNeg)]) 295 0 h dL_292 rfl (cb_MK (mt_trigger q2)) ⟨(cb_t5 28 rfl rfl), (cb_t5 31 rfl rfl), (cb_t1 10 rfl rfl), ⟨by decide, by decide⟩, by decide +kernel⟩ ⟨(cb_t5 29 rfl rfl), (cb_t5 30 rfl rfl)⟩ rfl rfl rfl rfl rfl rfl ⟨rfl, rfl, Nat.le_of_ble_eq_true rfl, Nat.le_of_ble_eq_true rfl⟩ rfl rfl (Nat.le_of_ble_eq_true rfl) ?_
  show cb_V X (WM b2 (caM c) τ' ++ WC a c σ') 295 (lwL a b2 b i) [.int r, .int r]
  refine cb_swap ?_
  refine cb_icmp_eq 422 298 h dL_295 rfl rfl (fun _ => ?_) (fun q => absurd rfl q)
  exact kk _ _ _ h'
set_option maxRecDepth 100000 in
set_option maxHeartbeats 4000000 in
theorem lw_strobe (h : cb_ok X code R_law (EK c) 11 418 4) (hs : cb_scr X b L xs) (hR : cb_R g σ τ) (hi : i + 3 ≤ L) (hL : L ≤ 1536) (kk : ∀ (g' : Int32 × Int32 × Int32) (σ' τ' : cb_S), cb_R g' σ' τ' → cb_V X (WC a c σ' ++ WM b2 (caM c) τ') 422 (lwL a b2 b i) []) : cb_V X (WC a c σ ++ WM b2 (caM c) τ) 300 (lwL a b2 b i) [] := by
  obtain ⟨r, σ', τ', q1, q2, g', h'⟩ := s_strobe hR (xs (nI i + 1).toNatClampNeg) (xs (nI i + 2).toNatClampNeg)
  refine cb_aload_n 301 2 h dL_300 rfl rfl rfl ?_
  refine cb_aload_n 302 3 h dL_301 rfl rfl rfl ?_
  refine cb_iload_n 303 0 h dL_302 rfl rfl rfl ?_
  refine cb_iconst (v := 1) 304 h dL_303 rfl (by decide +kernel) ?_
  refine cb_iadd 305 h dL_304 rfl ?_
  refine cb_sld 306 h hs dL_305 rfl (vi1 hi hL) ?_
  refine cb_aload_n 307 3 h dL_306 rfl rfl rfl ?_
  refine cb_iload_n 308 0 h dL_307 rfl rfl rfl ?_
  refine cb_iconst (v := 2) 309 h dL_308 rfl (by decide +kernel) ?_
  refine cb_iadd 310 h dL_309 rfl ?_
  refine cb_sld 311 h hs dL_310 rfl (vi2 hi hL) ?_
  refine cb_callV (n := 2) (r := WM b2 (caM c) τ) (As := [.int (xs (nI i + 1).toNatClampNeg), .int (xs (nI i + 2).toNatClampNeg)]) 314 0 h dL_311 rfl (cb_CK (ct_Board_strobe q1)) ⟨(cb_t3 119 rfl rfl), (cb_t3 122 rfl rfl), (cb_t1 1 rfl rfl), ⟨by decide, by decide⟩, by decide +kernel⟩ ⟨(cb_t3 120 rfl rfl), (cb_t3 121 rfl rfl)⟩ rfl rfl rfl rfl rfl rfl ⟨rfl, rfl, Nat.le_of_ble_eq_true rfl, Nat.le_of_ble_eq_true rfl⟩ rfl rfl (Nat.le_of_ble_eq_true rfl) ?_
  show cb_V X (WC a c σ' ++ WM b2 (caM c) τ) 314 (lwL a b2 b i) [.int r]
  refine cb_aload_n 315 1 h dL_314 rfl rfl rfl ?_
  refine cb_aload_n 316 3 h dL_315 rfl rfl rfl ?_
  refine cb_iload_n 317 0 h dL_316 rfl rfl rfl ?_
  refine cb_iconst (v := 1) 318 h dL_317 rfl (by decide +kernel) ?_
  refine cb_iadd 319 h dL_318 rfl ?_
  refine cb_sld 320 h hs dL_319 rfl (vi1 hi hL) ?_
  refine cb_aload_n 321 3 h dL_320 rfl rfl rfl ?_
  refine cb_iload_n 322 0 h dL_321 rfl rfl rfl ?_
  refine cb_iconst (v := 2) 323 h dL_322 rfl (by decide +kernel) ?_
  refine cb_iadd 324 h dL_323 rfl ?_
  refine cb_sld 325 h hs dL_324 rfl (vi2 hi hL) ?_
  refine cb_swap ?_
  refine cb_callV (n := 2) (r := WC a c σ') (As := [.int (xs (nI i + 1).toNatClampNeg), .int (xs (nI i + 2).toNatClampNeg)]) 328 0 h dL_325 rfl (cb_MK (mt_strobe q2)) ⟨(cb_t5 32 rfl rfl), (cb_t5 35 rfl rfl), (cb_t1 10 rfl rfl), ⟨by decide, by decide⟩, by decide +kernel⟩ ⟨(cb_t5 33 rfl rfl), (cb_t5 34 rfl rfl)⟩ rfl rfl rfl rfl rfl rfl ⟨rfl, rfl, Nat.le_of_ble_eq_true rfl, Nat.le_of_ble_eq_true rfl⟩ rfl rfl (Nat.le_of_ble_eq_true rfl) ?_
  show cb_V X (WM b2 (caM c) τ' ++ WC a c σ') 328 (lwL a b2 b i) [.int r, .int r]
  refine cb_swap ?_
  refine cb_icmp_eq 422 331 h dL_328 rfl rfl (fun _ => ?_) (fun q => absurd rfl q)
  exact kk _ _ _ h'
set_option maxRecDepth 100000 in
set_option maxHeartbeats 4000000 in
theorem lw_lines (h : cb_ok X code R_law (EK c) 11 418 4) (hs : cb_scr X b L xs) (hR : cb_R g σ τ) (hi : i + 3 ≤ L) (hL : L ≤ 1536) (kk : ∀ (g' : Int32 × Int32 × Int32) (σ' τ' : cb_S), cb_R g' σ' τ' → cb_V X (WC a c σ' ++ WM b2 (caM c) τ') 422 (lwL a b2 b i) []) : cb_V X (WC a c σ ++ WM b2 (caM c) τ) 333 (lwL a b2 b i) [] := by
  obtain ⟨r, σ', τ', q1, q2, g', h'⟩ := s_lines hR (xs (nI i + 1).toNatClampNeg) (xs (nI i + 2).toNatClampNeg)
  refine cb_aload_n 334 2 h dL_333 rfl rfl rfl ?_
  refine cb_aload_n 335 3 h dL_334 rfl rfl rfl ?_
  refine cb_iload_n 336 0 h dL_335 rfl rfl rfl ?_
  refine cb_iconst (v := 1) 337 h dL_336 rfl (by decide +kernel) ?_
  refine cb_iadd 338 h dL_337 rfl ?_
  refine cb_sld 339 h hs dL_338 rfl (vi1 hi hL) ?_
  refine cb_aload_n 340 3 h dL_339 rfl rfl rfl ?_
  refine cb_iload_n 341 0 h dL_340 rfl rfl rfl ?_
  refine cb_iconst (v := 2) 342 h dL_341 rfl (by decide +kernel) ?_
  refine cb_iadd 343 h dL_342 rfl ?_
  refine cb_sld 344 h hs dL_343 rfl (vi2 hi hL) ?_
  refine cb_callV (n := 2) (r := WM b2 (caM c) τ) (As := [.int (xs (nI i + 1).toNatClampNeg), .int (xs (nI i + 2).toNatClampNeg)]) 347 0 h dL_344 rfl (cb_CK (ct_Board_lines q1)) ⟨(cb_t3 131 rfl rfl), (cb_t3 134 rfl rfl), (cb_t1 1 rfl rfl), ⟨by decide, by decide⟩, by decide +kernel⟩ ⟨(cb_t3 132 rfl rfl), (cb_t3 133 rfl rfl)⟩ rfl rfl rfl rfl rfl rfl ⟨rfl, rfl, Nat.le_of_ble_eq_true rfl, Nat.le_of_ble_eq_true rfl⟩ rfl rfl (Nat.le_of_ble_eq_true rfl) ?_
  show cb_V X (WC a c σ' ++ WM b2 (caM c) τ) 347 (lwL a b2 b i) [.int r]
  refine cb_aload_n 348 1 h dL_347 rfl rfl rfl ?_
  refine cb_aload_n 349 3 h dL_348 rfl rfl rfl ?_
  refine cb_iload_n 350 0 h dL_349 rfl rfl rfl ?_
  refine cb_iconst (v := 1) 351 h dL_350 rfl (by decide +kernel) ?_
  refine cb_iadd 352 h dL_351 rfl ?_
  refine cb_sld 353 h hs dL_352 rfl (vi1 hi hL) ?_
  refine cb_aload_n 354 3 h dL_353 rfl rfl rfl ?_
  refine cb_iload_n 355 0 h dL_354 rfl rfl rfl ?_
  refine cb_iconst (v := 2) 356 h dL_355 rfl (by decide +kernel) ?_
  refine cb_iadd 357 h dL_356 rfl ?_
  refine cb_sld 358 h hs dL_357 rfl (vi2 hi hL) ?_
  refine cb_swap ?_
  refine cb_callV (n := 2) (r := WC a c σ') (As := [.int (xs (nI i + 1).toNatClampNeg), .int (xs (nI i + 2).toNatClampNeg)]) 361 0 h dL_358 rfl (cb_MK (mt_lines q2)) ⟨(cb_t5 36 rfl rfl), (cb_t5 39 rfl rfl), (cb_t1 10 rfl rfl), ⟨by decide, by decide⟩, by decide +kernel⟩ ⟨(cb_t5 37 rfl rfl), (cb_t5 38 rfl rfl)⟩ rfl rfl rfl rfl rfl rfl ⟨rfl, rfl, Nat.le_of_ble_eq_true rfl, Nat.le_of_ble_eq_true rfl⟩ rfl rfl (Nat.le_of_ble_eq_true rfl) ?_
  show cb_V X (WM b2 (caM c) τ' ++ WC a c σ') 361 (lwL a b2 b i) [.int r, .int r]
  refine cb_swap ?_
  refine cb_icmp_eq 422 364 h dL_361 rfl rfl (fun _ => ?_) (fun q => absurd rfl q)
  exact kk _ _ _ h'
set_option maxRecDepth 100000 in
set_option maxHeartbeats 4000000 in
theorem lw_device (h : cb_ok X code R_law (EK c) 11 418 4) (hs : cb_scr X b L xs) (hR : cb_R g σ τ) (hi : i + 3 ≤ L) (hL : L ≤ 1536) (kk : ∀ (g' : Int32 × Int32 × Int32) (σ' τ' : cb_S), cb_R g' σ' τ' → cb_V X (WC a c σ' ++ WM b2 (caM c) τ') 422 (lwL a b2 b i) []) : cb_V X (WC a c σ ++ WM b2 (caM c) τ) 366 (lwL a b2 b i) [] := by
  obtain ⟨r, q1, q2, -⟩ := s_device hR (xs (nI i + 1).toNatClampNeg) (xs (nI i + 2).toNatClampNeg)
  refine cb_aload_n 367 2 h dL_366 rfl rfl rfl ?_
  refine cb_aload_n 368 3 h dL_367 rfl rfl rfl ?_
  refine cb_iload_n 369 0 h dL_368 rfl rfl rfl ?_
  refine cb_iconst (v := 1) 370 h dL_369 rfl (by decide +kernel) ?_
  refine cb_iadd 371 h dL_370 rfl ?_
  refine cb_sld 372 h hs dL_371 rfl (vi1 hi hL) ?_
  refine cb_aload_n 373 3 h dL_372 rfl rfl rfl ?_
  refine cb_iload_n 374 0 h dL_373 rfl rfl rfl ?_
  refine cb_iconst (v := 2) 375 h dL_374 rfl (by decide +kernel) ?_
  refine cb_iadd 376 h dL_375 rfl ?_
  refine cb_sld 377 h hs dL_376 rfl (vi2 hi hL) ?_
  refine cb_callV (n := 2) (r := WM b2 (caM c) τ) (As := [.int (xs (nI i + 1).toNatClampNeg), .int (xs (nI i + 2).toNatClampNeg)]) 380 0 h dL_377 rfl (cb_CK (ct_Board_device q1)) ⟨(cb_t3 139 rfl rfl), (cb_t3 142 rfl rfl), (cb_t1 1 rfl rfl), ⟨by decide, by decide⟩, by decide +kernel⟩ ⟨(cb_t3 140 rfl rfl), (cb_t3 141 rfl rfl)⟩ rfl rfl rfl rfl rfl rfl ⟨rfl, rfl, Nat.le_of_ble_eq_true rfl, Nat.le_of_ble_eq_true rfl⟩ rfl rfl (Nat.le_of_ble_eq_true rfl) ?_
  show cb_V X (WC a c σ ++ WM b2 (caM c) τ) 380 (lwL a b2 b i) [.int r]
  refine cb_aload_n 381 1 h dL_380 rfl rfl rfl ?_
  refine cb_aload_n 382 3 h dL_381 rfl rfl rfl ?_
  refine cb_iload_n 383 0 h dL_382 rfl rfl rfl ?_
  refine cb_iconst (v := 1) 384 h dL_383 rfl (by decide +kernel) ?_
  refine cb_iadd 385 h dL_384 rfl ?_
  refine cb_sld 386 h hs dL_385 rfl (vi1 hi hL) ?_
  refine cb_aload_n 387 3 h dL_386 rfl rfl rfl ?_
  refine cb_iload_n 388 0 h dL_387 rfl rfl rfl ?_
  refine cb_iconst (v := 2) 389 h dL_388 rfl (by decide +kernel) ?_
  refine cb_iadd 390 h dL_389 rfl ?_
  refine cb_sld 391 h hs dL_390 rfl (vi2 hi hL) ?_
  refine cb_swap ?_
  refine cb_callV (n := 2) (r := WC a c σ) (As := [.int (xs (nI i + 1).toNatClampNeg), .int (xs (nI i + 2).toNatClampNeg)]) 394 0 h dL_391 rfl (cb_MK (mt_device q2)) ⟨(cb_t5 40 rfl rfl), (cb_t5 43 rfl rfl), (cb_t1 10 rfl rfl), ⟨by decide, by decide⟩, by decide +kernel⟩ ⟨(cb_t5 41 rfl rfl), (cb_t5 42 rfl rfl)⟩ rfl rfl rfl rfl rfl rfl ⟨rfl, rfl, Nat.le_of_ble_eq_true rfl, Nat.le_of_ble_eq_true rfl⟩ rfl rfl (Nat.le_of_ble_eq_true rfl) ?_
  show cb_V X (WM b2 (caM c) τ ++ WC a c σ) 394 (lwL a b2 b i) [.int r, .int r]
  refine cb_swap ?_
  refine cb_icmp_eq 422 397 h dL_394 rfl rfl (fun _ => ?_) (fun q => absurd rfl q)
  exact kk _ _ _ hR
set_option maxRecDepth 100000 in
set_option maxHeartbeats 4000000 in
theorem lw_passed (h : cb_ok X code R_law (EK c) 11 418 4) (hs : cb_scr X b L xs) (hR : cb_R g σ τ) (hi : i + 3 ≤ L) (hL : L ≤ 1536) (kk : ∀ (g' : Int32 × Int32 × Int32) (σ' τ' : cb_S), cb_R g' σ' τ' → cb_V X (WC a c σ' ++ WM b2 (caM c) τ') 422 (lwL a b2 b i) []) : cb_V X (WC a c σ ++ WM b2 (caM c) τ) 399 (lwL a b2 b i) [] := by
  obtain ⟨r, q1, q2, -⟩ := s_passed hR (xs (nI i + 1).toNatClampNeg)
  refine cb_aload_n 400 2 h dL_399 rfl rfl rfl ?_
  refine cb_aload_n 401 3 h dL_400 rfl rfl rfl ?_
  refine cb_iload_n 402 0 h dL_401 rfl rfl rfl ?_
  refine cb_iconst (v := 1) 403 h dL_402 rfl (by decide +kernel) ?_
  refine cb_iadd 404 h dL_403 rfl ?_
  refine cb_sld 405 h hs dL_404 rfl (vi1 hi hL) ?_
  refine cb_callV (n := 1) (r := WM b2 (caM c) τ) (As := [.int (xs (nI i + 1).toNatClampNeg)]) 408 0 h dL_405 rfl (cb_CK (ct_Board_passed q1)) ⟨(cb_t3 152 rfl rfl), (cb_t3 155 rfl rfl), (cb_t1 1 rfl rfl), ⟨by decide, by decide⟩, by decide +kernel⟩ ⟨(cb_t3 153 rfl rfl), (cb_t3 154 rfl rfl)⟩ rfl rfl rfl rfl rfl rfl ⟨rfl, rfl, Nat.le_of_ble_eq_true rfl, Nat.le_of_ble_eq_true rfl⟩ rfl rfl (Nat.le_of_ble_eq_true rfl) ?_
  show cb_V X (WC a c σ ++ WM b2 (caM c) τ) 408 (lwL a b2 b i) [.int r]
  refine cb_aload_n 409 1 h dL_408 rfl rfl rfl ?_
  refine cb_aload_n 410 3 h dL_409 rfl rfl rfl ?_
  refine cb_iload_n 411 0 h dL_410 rfl rfl rfl ?_
  refine cb_iconst (v := 1) 412 h dL_411 rfl (by decide +kernel) ?_
  refine cb_iadd 413 h dL_412 rfl ?_
  refine cb_sld 414 h hs dL_413 rfl (vi1 hi hL) ?_
  refine cb_swap ?_
  refine cb_callV (n := 1) (r := WC a c σ) (As := [.int (xs (nI i + 1).toNatClampNeg)]) 417 0 h dL_414 rfl (cb_MK (mt_passed q2)) ⟨(cb_t5 44 rfl rfl), (cb_t5 47 rfl rfl), (cb_t1 10 rfl rfl), ⟨by decide, by decide⟩, by decide +kernel⟩ ⟨(cb_t5 45 rfl rfl), (cb_t5 46 rfl rfl)⟩ rfl rfl rfl rfl rfl rfl ⟨rfl, rfl, Nat.le_of_ble_eq_true rfl, Nat.le_of_ble_eq_true rfl⟩ rfl rfl (Nat.le_of_ble_eq_true rfl) ?_
  show cb_V X (WM b2 (caM c) τ ++ WC a c σ) 417 (lwL a b2 b i) [.int r, .int r]
  refine cb_swap ?_
  refine cb_icmp_eq 422 420 h dL_417 rfl rfl (fun _ => ?_) (fun q => absurd rfl q)
  exact kk _ _ _ hR
theorem lw_step (h : cb_ok X code R_law (EK c) 11 418 4) {w : va_W} (kk : cb_V X w 18 (lwL a b2 b (i + 3)) []) : cb_V X w 422 (lwL a b2 b i) [] := by
  refine cb_iinc (v := nI (i + 3)) 0 425 h dL_422 rfl rfl (by rw [show Int32.ofInt 3 = nI 3 by decide]; exact nI_add i 3) (by decide) rfl ?_
  exact cb_goto 18 h dL_425 rfl kk
theorem lw_and15 (x : Int32) : ∃ v : Nat, v < 16 ∧ x &&& 15 = nI v := by
  obtain ⟨j, h1, h2⟩ := pk_andE x 4 (m := 15) (by decide +kernel)
  exact ⟨j, h1, h2⟩
set_option maxRecDepth 100000 in
set_option maxHeartbeats 4000000 in
theorem lw_loop (h : cb_ok X code R_law (EK c) 11 418 4) (hs : cb_scr X b L xs) (hL : L ≤ 1536) (fin : ∀ (w : va_W) (lv : List (Nat × Value)), cb_V X w 428 lv []) : ∀ (n i : Nat) (g : Int32 × Int32 × Int32) (σ τ : cb_S), cb_R g σ τ → i ≤ L → L - i < n → cb_V X (WC a c σ ++ WM b2 (caM c) τ) 18 (lwL a b2 b i) [] := by
  intro n
  induction n with
  | zero => intro i g σ τ hR h1 h2; omega
  | succ n ih =>
    intro i g σ τ hR h1 h2
    refine cb_iload_n 19 0 h dL_18 rfl rfl rfl ?_
    refine cb_aload_n 20 3 h dL_19 rfl rfl rfl ?_
    refine cb_slen 21 h hs dL_20 rfl ?_
    refine cb_iconst (v := 3) 22 h dL_21 rfl (by decide +kernel) ?_
    refine cb_isub 23 h dL_22 rfl ?_
    refine cb_icmp_gt 428 26 h dL_23 rfl rfl (fun _ => fin _ _) (fun q => ?_)
    have hi : i + 3 ≤ L := by
      have e1 : (nI L - nI 3).toInt = (L : Int) - (3 : Nat) := pk_sub_toInt (by omega) (by omega)
      have e2 : (nI i).toInt = (i : Int) := nI_toInt (by omega)
      have e3 : ¬ (nI L - nI 3).toInt < (nI i).toInt := fun z => q (Int32.lt_iff_toInt_lt.mpr z)
      omega
    have kk : ∀ (g' : Int32 × Int32 × Int32) (σ' τ' : cb_S), cb_R g' σ' τ' → cb_V X (WC a c σ' ++ WM b2 (caM c) τ') 422 (lwL a b2 b i) [] := fun g' σ' τ' hR' => lw_step h (ih (i + 3) g' σ' τ' hR' hi (by omega))
    refine cb_aload_n 27 3 h dL_26 rfl rfl rfl ?_
    refine cb_iload_n 28 0 h dL_27 rfl rfl rfl ?_
    refine cb_sld 29 h hs dL_28 rfl (vp_in_nI (by omega) (by omega)) ?_
    refine cb_bipush (v := 15) 31 h dL_29 rfl (by decide +kernel) ?_
    refine cb_iand 32 h dL_31 rfl ?_
    obtain ⟨v, hv, ev⟩ := lw_and15 (xs (nI i).toNatClampNeg)
    rcases (show v = 0 ∨ v = 1 ∨ v = 2 ∨ v = 3 ∨ v = 4 ∨ v = 5 ∨ v = 6 ∨ v = 7 ∨ v = 8 ∨ v = 9 ∨ v = 10 ∨ v = 11 ∨ 12 ≤ v by omega) with rfl | rfl | rfl | rfl | rfl | rfl | rfl | rfl | rfl | rfl | rfl | rfl | hv2
    · refine cb_tabI (y := nI 0) 96 h dL_32 ev (by decide) (by decide) rfl rfl ?_
      exact lw_poke h hs hR hi hL kk
    · refine cb_tabI (y := nI 1) 129 h dL_32 ev (by decide) (by decide) rfl rfl ?_
      exact lw_poke4 h hs hR hi hL kk
    · refine cb_tabI (y := nI 2) 162 h dL_32 ev (by decide) (by decide) rfl rfl ?_
      exact lw_peek h hs hR hi hL kk
    · refine cb_tabI (y := nI 3) 185 h dL_32 ev (by decide) (by decide) rfl rfl ?_
      exact lw_register h hs hR hi hL kk
    · refine cb_tabI (y := nI 4) 208 h dL_32 ev (by decide) (by decide) rfl rfl ?_
      exact lw_set h hs hR hi hL kk
    · refine cb_tabI (y := nI 5) 241 h dL_32 ev (by decide) (by decide) rfl rfl ?_
      exact lw_run h hs hR hi hL kk
    · refine cb_tabI (y := nI 6) 264 h dL_32 ev (by decide) (by decide) rfl rfl ?_
      exact lw_state h hs hR hi hL kk
    · refine cb_tabI (y := nI 7) 277 h dL_32 ev (by decide) (by decide) rfl rfl ?_
      exact lw_trigger h hs hR hi hL kk
    · refine cb_tabI (y := nI 8) 300 h dL_32 ev (by decide) (by decide) rfl rfl ?_
      exact lw_strobe h hs hR hi hL kk
    · refine cb_tabI (y := nI 9) 333 h dL_32 ev (by decide) (by decide) rfl rfl ?_
      exact lw_lines h hs hR hi hL kk
    · refine cb_tabI (y := nI 10) 366 h dL_32 ev (by decide) (by decide) rfl rfl ?_
      exact lw_device h hs hR hi hL kk
    · refine cb_tabI (y := nI 11) 399 h dL_32 ev (by decide) (by decide) rfl rfl ?_
      exact lw_passed h hs hR hi hL kk
    · refine cb_tabO 422 h dL_32 (Or.inr ?_) rfl ?_
      · rw [ev, nI_toInt (by omega)]; omega
      · exact kk g σ τ hR
end LW
def σ0 : cb_S := fun i k => if i = 3 then (if k = 6 then 1 else 0) else if i = 7 then (if k = 3 then 2 else 0) else if i = 8 then (if k = 10 then 255 else 0) else if i = 9 then (if k = 10 then 255 else 0) else if i = 10 then (if k = 2 then 65535 else 0) else 0
def τ0 : cb_S := fun i k => if i = 0 then (if k = 2 then 65535 else if k = 6 then 1 else 0) else if i = 11 then upd (upd (fun _ => 0) 0 16) 1 16 k else if i = 17 then upd (upd (fun _ => 0) 0 255) 1 255 k else 0
theorem by_0 : cb_by 0 := ⟨0, by omega, rfl⟩
theorem by_255' : cb_by 255 := ⟨255, by omega, rfl⟩
theorem R_start : cb_R (0, 0, 0) σ0 τ0 := by
  refine ⟨⟨rfl, fun k => by_0⟩, ⟨fun k _ => ⟨rfl, by_0⟩, fun k _ => ⟨?_, by_0⟩, by decide +kernel, by decide +kernel⟩, ⟨rfl, rfl, rfl, ⟨65535, by omega, rfl⟩, ⟨0, by omega, rfl⟩, by_0⟩, ⟨rfl, rfl, Or.inr (Or.inr ⟨rfl, rfl, rfl⟩), rfl, rfl, rfl, Or.inl rfl, Or.inl rfl, rfl, rfl, rfl⟩, ?_, ?_, ?_, ?_, rfl, by decide +kernel, ⟨0, by omega, rfl⟩⟩
  · show (0 : Int32) = τ0 2 _
    rfl
  · exact ⟨rfl, rfl, rfl, rfl, rfl, rfl, rfl, rfl, rfl, Or.inl ⟨rfl, rfl, 0, by omega, rfl⟩, Or.inl rfl, Or.inl rfl, Or.inl rfl, Or.inl rfl, Or.inl rfl, Or.inl rfl⟩
  · exact ⟨rfl, rfl, rfl, rfl, rfl, rfl, rfl, rfl, rfl, Or.inl ⟨rfl, rfl, 0, by omega, rfl⟩, Or.inl rfl, Or.inl rfl, Or.inl rfl, Or.inl rfl, Or.inl rfl, Or.inl rfl⟩
  · exact ⟨rfl, rfl, rfl, rfl, rfl, rfl, rfl, rfl, rfl, rfl, rfl, rfl, rfl, rfl, Or.inl ⟨rfl, rfl, rfl⟩, Or.inl rfl, Or.inl rfl, Or.inl rfl, by_0, by_0, Or.inl rfl, by_0, by_0, by_0, by_0, by_255', Or.inl rfl, Or.inl rfl, Or.inl rfl⟩
  · exact ⟨rfl, rfl, rfl, rfl, rfl, rfl, rfl, rfl, rfl, rfl, rfl, rfl, rfl, rfl, Or.inl ⟨rfl, rfl, rfl⟩, Or.inl rfl, Or.inl rfl, Or.inl rfl, by_0, by_0, Or.inl rfl, by_0, by_0, by_0, by_0, by_255', Or.inl rfl, Or.inl rfl, Or.inl rfl⟩
theorem lw_K {args : Array Value} {s : State} (hts : ∀ w ∈ cb_T, w.before args s = true) : ∃ D : va_G, ∀ (k : Nat) (q : vw_C), vwCl[k]? = some q → u_Kn s q.1 q.2.1 q.2.2 (D.1 k) (D.2 k) := by
  have one : ∀ k : Nat, ∃ x : ClassId × (Nat → Nat), ∀ q : vw_C, vwCl[k]? = some q → u_Kn s q.1 q.2.1 q.2.2 x.1 x.2 := by
    intro k
    rcases (show k = 0 ∨ k = 1 ∨ k = 2 ∨ k = 3 ∨ k = 4 ∨ k = 5 ∨ k = 6 ∨ k = 7 ∨ k = 8 ∨ 9 ≤ k by omega) with rfl | rfl | rfl | rfl | rfl | rfl | rfl | rfl | rfl | hk
    · obtain ⟨cC, iS, hk⟩ := u_known (C := RX2) (T := TX2) (N := 1) (n := 1) hts uCX2 (hts _ (cb_t1 182 rfl rfl))
      exact ⟨(cC, iS), fun q hq => by cases hq; exact hk⟩
    · obtain ⟨cC, iS, hk⟩ := u_known (C := RX3) (T := TX3) (N := 5) (n := 5) hts uCX3 (hts _ (cb_t1 33 rfl rfl))
      exact ⟨(cC, iS), fun q hq => by cases hq; exact hk⟩
    · obtain ⟨cC, iS, hk⟩ := u_known (C := RX4) (T := TX4) (N := 11) (n := 11) hts uCX4 (hts _ (cb_t1 39 rfl rfl))
      exact ⟨(cC, iS), fun q hq => by cases hq; exact hk⟩
    · obtain ⟨cC, iS, hk⟩ := u_known (C := RX7) (T := TX7) (N := 1) (n := 1) hts uCX7 (hts _ (cb_t1 22 rfl rfl))
      exact ⟨(cC, iS), fun q hq => by cases hq; exact hk⟩
    · obtain ⟨cC, iS, hk⟩ := u_known (C := RX8) (T := TX8) (N := 16) (n := 16) hts uCX8 (hts _ (cb_t1 104 rfl rfl))
      exact ⟨(cC, iS), fun q hq => by cases hq; exact hk⟩
    · obtain ⟨cC, iS, hk⟩ := u_known (C := RX9) (T := TX9) (N := 13) (n := 13) hts uCX9 (hts _ (cb_t1 170 rfl rfl))
      exact ⟨(cC, iS), fun q hq => by cases hq; exact hk⟩
    · obtain ⟨cC, iS, hk⟩ := u_known (C := RX10) (T := TX10) (N := 5) (n := 5) hts uCX10 (hts _ (cb_t1 176 rfl rfl))
      exact ⟨(cC, iS), fun q hq => by cases hq; exact hk⟩
    · obtain ⟨cC, iS, hk⟩ := u_known (C := RX1) (T := TX1) (N := 3) (n := 3) hts uCX1 (hts _ (cb_t1 14 rfl rfl))
      exact ⟨(cC, iS), fun q hq => by cases hq; exact hk⟩
    · obtain ⟨cC, iS, hk⟩ := u_known (C := RX12) (T := TX12) (N := 36) (n := 36) hts uMX12 (hts _ (cb_t3 157 rfl rfl))
      exact ⟨(cC, iS), fun q hq => by cases hq; exact hk⟩
    · exact ⟨(0, fun _ => 0), fun q hq => by
        have := (List.getElem?_eq_some_iff.mp hq).1
        have e : vwCl.length = 9 := rfl
        omega⟩
  exact ⟨(fun k => (Classical.choose (one k)).1, fun k => (Classical.choose (one k)).2), fun k q hq => Classical.choose_spec (one k) q hq⟩
theorem lw_mem {w : Cond} (h : w ∈ tables_1) : w ∈ lw_tbl := List.mem_append_right _ h
set_option maxRecDepth 100000 in
set_option maxHeartbeats 4000000 in
theorem lw_start {X : cb_X} {c : Nat → ClassId} {b L : Nat} {xs : Nat → Int32} {Z : cb_X → Prop} (h : cb_o X code R_law (EK c) 11 418 4 41 2256 Z) (hL : L ≤ 1536) (hs : ∀ X : cb_X, Z X → cb_scr X b L xs) (fin : ∀ (X : cb_X), cb_o X code R_law (EK c) 11 418 4 0 0 Z → ∀ (w : va_W) (lv : List (Nat × Value)), cb_V X w 428 lv []) : cb_V X [] 0 [(0, .ref b)] [] := by
  refine cb_new (ci := 7) (fs := [.null, .null, .null]) (C := RX1) (T := TX1) (N := 3) (ty0 := tyX1) (k := 40) (n := 2253) 3 h dL_0 rfl uCX1 tyX1_ok ⟨(cb_t1 13 rfl rfl), (cb_t1 14 rfl rfl), (cb_t1 1 rfl rfl)⟩ rfl fs_X1 (fun q1 X h => ?_)
  show cb_V X [(q1, .inr (7, [.null, .null, .null]))] 3 [(0, .ref b)] [.ref q1]
  refine cb_dup 4 h.1 dL_3 rfl rfl ?_
  refine cb_callN (n := 0) (As := []) (k0 := 26) (n0 := 1129) (wr := []) 7 [0] [] h dL_4 rfl (kt_Board (l := cb_l X) (D := cb_D X) (c := c) (h0 := q1)) rfl (Or.inl (cb_t1 15 rfl rfl)) ⟨(cb_t1 17 rfl rfl), (cb_t1 1 rfl rfl), (cb_t1 16 rfl rfl), ⟨by decide, by decide⟩, by decide +kernel⟩ rfl rfl (by decide) (by decide) (by decide) ⟨Nat.le_of_ble_eq_true rfl, Nat.le_of_ble_eq_true rfl⟩ rfl rfl (Nat.le_of_ble_eq_true rfl) (fun u1 X h => ?_)
  refine cb_wd (w' := WC (fun i => if i = 0 then q1 else u1 i) c σ0) (fun D H hP => cb_pcell 5 hP rfl (cb_arr4 (fun j hj => by rcases (show j = 0 ∨ j = 1 ∨ j = 2 ∨ j = 3 by omega) with rfl | rfl | rfl | rfl <;> rfl)) rfl) rfl ?_
  generalize ha : (fun i => if i = 0 then q1 else u1 i) = a
  have ha0 : q1 = a 0 := by rw [← ha]; rfl
  rw [ha0]
  refine cb_astore_n 8 h.1 dL_7 rfl rfl (by decide) rfl ?_
  refine cb_new (ci := 8) (fs := [.null, .null, .int 0, .int 0, .int 0, .int 0, .int 0, .int 0, .int 0, .int 0, .int 0, .int 0, .null, .null, .null, .int 0, .null, .null, .null, .null, .null, .null, .null, .null, .null, .null, .null, .null, .null, .null, .null, .null, .null, .null, .null, .null]) (C := RX12) (T := TX12) (N := 36) (ty0 := tyX12) (k := 25) (n := 1093) 11 h dL_8 rfl uMX12 tyX12_ok ⟨(cb_t3 156 rfl rfl), (cb_t3 157 rfl rfl), (cb_t1 10 rfl rfl)⟩ rfl fs_X12 (fun q2 X h => ?_)
  refine cb_dup 12 h.1 dL_11 rfl rfl ?_
  refine cb_callN (n := 0) (As := []) (k0 := 0) (n0 := 0) (wr := WC a c σ0) 15 [15] [0, 1, 2, 3, 4, 5, 6, 7, 8, 9, 10, 11, 12, 13, 14] h dL_12 rfl (kt_Model (l := cb_l X) (D := cb_D X) (c := c) (h0 := q2)) rfl (Or.inl (cb_t3 158 rfl rfl)) ⟨(cb_t3 160 rfl rfl), (cb_t1 10 rfl rfl), (cb_t3 159 rfl rfl), ⟨by decide, by decide⟩, by decide +kernel⟩ rfl rfl (by decide) (by decide) (by decide) ⟨Nat.le_of_ble_eq_true rfl, Nat.le_of_ble_eq_true rfl⟩ rfl rfl (Nat.le_of_ble_eq_true rfl) (fun u2 X h => ?_)
  show cb_V X (WC a c σ0 ++ WM (fun i => if i = 0 then q2 else u2 i) (caM c) τ0) 15 [(1, .ref (a 0)), (0, .ref b)] [.ref q2]
  generalize hb : (fun i => if i = 0 then q2 else u2 i) = b2
  have hb0 : q2 = b2 0 := by rw [← hb]; rfl
  rw [hb0]
  refine cb_astore_n 16 h.1 dL_15 rfl rfl (by decide) rfl ?_
  refine cb_iconst (v := 0) 17 h.1 dL_16 rfl (by decide +kernel) ?_
  refine cb_istore_n (y := nI 0) 18 h.1 dL_17 rfl rfl rfl (by decide) rfl ?_
  exact lw_loop h.1 (hs X h.2.2.1) hL (fin X h) (L + 1) 0 _ σ0 τ0 R_start (Nat.zero_le _) (by omega)
set_option maxHeartbeats 4000000 in
theorem whole_start {p : Program} {e : Env} {s : State} {m : MethodId} {below : List Frame} {meth : Method} {c : Code} (l : Launch) {b L : Nat} {xs : Nat → Int32} (hL : L ≤ 1536) (C0 : lw_At p s m meth c b L xs) : W p l e room_1 s m #[Value.ref b] below meth c s.heap [] 0 0 (lw_Z below #[Value.ref b] s) (entryFrame m ([Value.ref b] : List Value).toArray 4) := by
  obtain ⟨hx, hb, hr, hml, hown, hts, hX0, hbl, hlocks, -⟩ := C0
  have htT : ∀ w ∈ cb_T, w.before #[Value.ref b] s = true := fun w hw => hts w (List.mem_filter.mp hw).1
  have htN : ∀ w ∈ cb_NK, va_Nw w s := fun w hw => va_Nw.of (cb_NK_ok w hw).1 (hts w (lw_mem (List.mem_filter.mp hw).1))
  obtain ⟨D, hD⟩ := lw_K htT
  have hAO : va_AO "ChainBoard$Device" s := va_AO.of (hts _ (lw_mem (cb_m1 (i := 151) rfl)))
  obtain ⟨c0, k0, m0, e1, e2, e3⟩ := Cond.arrayClass_spec (type := .int) (hts _ (lw_mem (cb_m1 (i := 31) rfl)))
  obtain ⟨c2, k2, m2, f1, f2, f3⟩ := Cond.arrayClass_spec (type := .boolean) (hts _ (lw_mem (cb_m4 (i := 32) rfl)))
  obtain ⟨m1, c1, k1, g1, g2, g3, g4, g5⟩ := Cond.arrayOver_spec hAO
  obtain ⟨ct, hct⟩ : ∃ ct : Nat → ClassId, ct = fun k => if k = 0 then c0 else if k = 1 then c1 else c2 := ⟨_, rfl⟩
  have t0 : ct 0 = c0 := by rw [hct]; rfl
  have t1 : ct 1 = c1 := by rw [hct]; rfl
  have t2 : ct 2 = c2 := by rw [hct]; rfl
  have hK : va_K D vwCl (EK ct).2.2 s := by
    refine ⟨hD, fun k q hq => ?_⟩
    have hk3 : k < 3 := (List.getElem?_eq_some_iff.mp hq).1
    rcases (show k = 0 ∨ k = 1 ∨ k = 2 by omega) with rfl | rfl | rfl
    · cases hq
      rw [t0]
      exact ⟨fun n z => ⟨fun k h => (by cases h), k0, e2, m0, e3⟩, e1⟩
    · cases hq
      rw [t1]
      exact ⟨fun n z => ⟨fun k h => (by cases h), k1, g3, m1, g4⟩, k1, m1, g3, g4, g1, g5⟩
    · cases hq
      rw [t2]
      exact ⟨fun n z => ⟨fun k h => (by cases h), k2, f2, m2, f3⟩, f1⟩
  have hl := lv_entry [Value.ref b] (n := 4) (Nat.le_of_ble_eq_true rfl)
  rw [lg_entry_eq]
  have K := lw_start (X := (p, l, e, room_1, s, m, #[Value.ref b], below, meth, c, D, (fun q => s.heap.size ≤ q), 0, 0, lw_Z below #[Value.ref b] s)) (c := ct) (b := b) (L := L) (xs := xs) (Z := fun X => ∃ k n, X = (p, l, e, room_1, s, m, #[Value.ref b], below, meth, c, D, (fun q => s.heap.size ≤ q), k, n, lw_Z below #[Value.ref b] s))
    ⟨⟨hx, hb, hml, hown, htT, htN, hK, Nat.le_refl _, Nat.le_refl _, Nat.zero_le _, Nat.zero_le _, goodK⟩, ⟨Nat.le_of_ble_eq_true rfl, Nat.le_of_ble_eq_true rfl, fun q h => h, hAO⟩, ⟨0, 0, rfl⟩, fun X i j hX => by obtain ⟨k, n, rfl⟩ := hX; exact ⟨k + i, n + j, rfl⟩⟩ hL
    (fun X hX => by obtain ⟨k, n, rfl⟩ := hX; exact ⟨hX0, hbl, Nat.not_le_of_lt hbl⟩)
    (fun X h w lv => by
      obtain ⟨h1, h2, ⟨k, n, rfl⟩, -⟩ := h
      obtain ⟨z1, z2, -⟩ := h2
      refine cb_iconst (v := 1) 429 h1 dL_428 rfl (by decide +kernel) ?_
      exact fun H locs ls hP hD hS hl => va_forget (fun q hq => hS.2.2 q hq) (W.widen (k := 41) (n := 2256) z1 z2 (lw_ret hx hb hr hlocks dL_429)))
  exact K s.heap [] _ (fun k q hq => (by cases hq)) ⟨fun i j p q hp => (by cases hp), fun k q hq => (by cases hq)⟩ va_S.rf (by rw [hml]; exact hl)
