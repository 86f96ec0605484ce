/-! Making cells: constructors over cb_V. -/
def cb_gr (X : cb_X) (a b : Nat) : cb_X := match X with
  | (p, l, e, R, s, m, args, below, meth, c, D, A, k, n, Q) => (p, l, e, R, s, m, args, below, meth, c, D, A, k + a, n + b, Q)
/-- so many cells and slots may still be made; what is made is its own -/
def cb_al (X : cb_X) (k n : Nat) : Prop := match X with
  | (_, _, _, R, s, _, _, _, _, _, _, A, k0, n0, _) => k0 + k ≤ R.cells ∧ n0 + n ≤ R.slots ∧ (∀ q, s.heap.size ≤ q → A q) ∧ va_AO "ChainBoard$Device" s
/-- what stands while cells are made -/
def cb_o (X : cb_X) (cc : ByteArray) (own : String) (E : cb_E) (fr lo nL k n : Nat) (Z : cb_X → Prop) : Prop := cb_ok X cc own E fr lo nL ∧ cb_al X k n ∧ Z X ∧ ∀ (X : cb_X) (a b : Nat), Z X → Z (cb_gr X a b)
theorem cb_o_gr {X : cb_X} {cc : ByteArray} {own : String} {E : cb_E} {fr lo nL k n a b : Nat} {Z : cb_X → Prop} (h : cb_o X cc own E fr lo nL (a + k) (b + n) Z) : cb_o (cb_gr X a b) cc own E fr lo nL k n Z := by
  obtain ⟨h1, h2, h3, h4⟩ := h
  obtain ⟨p, l, e, R, s, m, args, below, meth, c, D, A, kX, nX, Q⟩ := X
  obtain ⟨hx0, hb, hml, hown, hts, hN, hK, hfr, hlo, hce, hsl, hg⟩ := h1
  obtain ⟨g1, g2, g3⟩ := h2
  exact ⟨⟨hx0, hb, hml, hown, hts, hN, hK, hfr, hlo, by omega, by omega, hg⟩, ⟨by omega, by omega, g3⟩, h4 _ _ _ h3, h4⟩
/-- a constructor's contract: from the world w it comes to Wf u for some new addresses u -/
def cb_Qn (D : va_G) (A : Nat → Prop) (Wf : (Nat → Nat) → va_W) : Array Value → State → Outcome → State → Prop := va_Qv (S := Nat → Nat) (fun _ => True) (fun u t => va_P D vwCl (Wf u) t.heap ∧ va_D A (Wf u)) A
def cb_Nc (l : Launch) (y : MethodName) (bytes : ByteArray) (maxL : Nat) (rm : Room) (D : va_G) (E : cb_E) (av : List Value) (w : va_W) (Wf : (Nat → Nat) → va_W) : Prop := ∀ sz : Nat, Met l y (Cond.code y bytes maxL none :: E.1) rm (va_Pc av (fun U => U.heap.size = sz ∧ va_P D vwCl w U.heap ∧ va_K D vwCl E.2.2 U ∧ (∀ x ∈ E.2.1, va_Nw x U) ∧ va_AO "ChainBoard$Device" U ∧ va_D (fun _ => True) w)) (cb_Qn D (va_A w sz) Wf) rm.cells rm.slots (va_A w sz)
def cb_nd (Wf : (Nat → Nat) → va_W) (X : cb_X) : Prop := match X with
  | (_, _, _, R, s, _, args, below, meth, _, D, A, _, _, Q) => Q = MQ below (cb_Qn D A Wf) args s R.cells R.slots A ∧ meth.sig.returnType = none ∧ meth.locks = false ∧ meth.name = "<init>"
theorem cb_nd_gr {Wf : (Nat → Nat) → va_W} : ∀ (X : cb_X) (a b : Nat), cb_nd Wf X → cb_nd Wf (cb_gr X a b) := by
  intro X a b h
  obtain ⟨p, l, e, R, s, m, args, below, meth, c, D, A, kX, nX, Q⟩ := X
  exact h
theorem cb_mkN {l : Launch} {y : MethodName} {cc : ByteArray} {maxL : Nat} {rm : Room} {D : va_G} {E : cb_E} {av : List Value} {w : va_W} {Wf : (Nat → Nat) → va_W} (lv : List (Nat × Value)) (hy : plainName y.cls = true) (hi : y.name = "<init>") (hav : (lg_sl av).length ≤ maxL) (hlv : lv_args 0 av = lv) (hg : cb_good E)
    (body : ∀ X : cb_X, cb_o X cc y.cls E rm.frames rm.locals maxL rm.cells rm.slots (cb_nd Wf) → cb_V X w 0 lv []) : cb_Nc l y cc maxL rm D E av w Wf := by
  intro sz
  refine Met.ofW hy rfl ?_
  intro p e s m args below meth c s₁ B hml hv
  obtain ⟨rfl, hsz, hP, hK, hN, hAO, hD⟩ := hv
  subst hsz
  have hts := atoms_spec B.pre
  have hl := lv_entry av (n := maxL) hav
  rw [lg_entry_eq]
  have hown : s.vm.findClass y.cls = some m.cls := findClass_of_methodNamed B.named
  have hin : meth.name = "<init>" := (name_of_methodNamed B.named B.method).1.trans hi
  have K := body (p, l, e, (headSpec (Cond.code y cc maxL none :: E.1) rm).room, s, m, av.toArray, below, meth, c, D, va_A w s.heap.size, 0, 0, MQ below (cb_Qn D (va_A w s.heap.size) Wf) av.toArray s rm.cells rm.slots (va_A w s.heap.size))
    ⟨⟨B.exec, B.bytes, hml, hown, fun w h => hts w (List.mem_cons_of_mem _ h), hN, hK, Nat.le_refl _, Nat.le_refl _, Nat.zero_le _, Nat.zero_le _, hg⟩, ⟨by rw [Nat.zero_add]; exact Nat.le_refl _, by rw [Nat.zero_add]; exact Nat.le_refl _, fun q h => Or.inr h, hAO⟩, ⟨rfl, B.returns, B.notSynchronized, hin⟩, cb_nd_gr⟩
  exact K s.heap [] _ hP hD.self va_S.rf (by rw [hml, ← hlv]; exact hl)
theorem cb_fm {w w' : va_W} {is : List Nat} (h : is.map (fun i => w[i]?) = w'.map some) : is.filterMap (fun i => w[i]?) = w' := by
  have h1 : is.filterMap (fun i => w[i]?) = (is.map (fun i => w[i]?)).filterMap id := by rw [List.filterMap_map]; rfl
  rw [h1, h, List.filterMap_map]
  exact List.filterMap_some
section CBN
variable {X : cb_X} {w : va_W} {pc : Nat} {lv : List (Nat × Value)} {st : List Value} {cc : ByteArray} {own : String} {E : cb_E} {fr lo nL : Nat} {Z : cb_X → Prop}
theorem cb_new {C : String} {T : u_T} {N ci index k n : Nat} {fs : List Value} {ty0 : Nat → FieldType} (nx : Nat) (h : cb_o X cc own E fr lo nL (1 + k) (N + n) Z) (hd : decode cc pc = .ok (.new index, 3)) (hn : pc + 3 = nx) (hin : ∀ w ∈ u_ws C T N, w ∈ E.1) (hty : ∀ k, k < N → parseFieldDescriptor (T k).2.2.1 = some (ty0 k)) (hl : Cond.classLink own index C ∈ E.1 ∧ Cond.instantiable C N ∈ E.1 ∧ Cond.initialized C ∈ E.1) (hc : vwCl[ci]? = some (C, T, N)) (hfs : ∀ j, j < N → defaultValue (ty0 j) = vp_V fs j)
    (kk : ∀ (q : Nat) (X : cb_X), cb_o X cc own E fr lo nL k n Z → cb_V X (w ++ [(q, .inr (ci, fs))]) nx lv (.ref q :: st)) : cb_V X w pc lv st := by
  subst hn
  have hg' := cb_o_gr h
  obtain ⟨h, ha, -, -⟩ := h
  obtain ⟨p, l, e, R, s, m, args, below, meth, c, D, A, kX, nX, Q⟩ := X
  obtain ⟨hx0, hb, hml, hown, hts, hN, hK, hfr, hlo, hce, hsl, hg⟩ := h
  obtain ⟨g1, g2, g3, g4⟩ := ha
  intro H locs ls hP hD hS hl0
  exact va_new hx0 hb hts hin ty0 hty hown (hts _ hl.1) (hts _ hl.2.1) (hts _ hl.2.2) hK hP hD hS g3 hc hfs (by omega) (by omega) hd (fun q H1 hP1 hD1 hS1 => kk q _ hg' H1 locs ls hP1 hD1 hS1 hl0)
theorem cb_newa {atype : ArrayType} {ty : FieldType} {a0 : vp_A} {N' k n : Nat} {x : Int32} {cA0 : ClassId} (nx t : Nat) (h : cb_o X cc own E fr lo nL (1 + k) (N' + n) Z) (hd : decode cc pc = .ok (.newarray atype, 2)) (hn : pc + 2 = nx) (harr : Cond.arrayClass (newarray.typeOf atype) ∈ E.1) (hty : newarray.typeOf atype = ty) (ht : E.2.2[t]? = some (cA0, ty)) (hra : ∀ (U : State) (cA : ClassId), va_RA U cA ty → U.vm.findClass ("[" ++ ty.toString) = some cA) (ha0 : ∀ cA : ClassId, vp_cell cA a0 = arrV cA N' (fun _ => defaultValue ty)) (hx : ¬ x < 0) (hN' : x.toNatClampNeg = N') (hby : N' * componentBytes ty ≤ 536870912)
    (kk : ∀ (q : Nat) (X : cb_X), cb_o X cc own E fr lo nL k n Z → cb_V X (w ++ [(q, .inl (cA0, a0))]) nx lv (.ref q :: st)) : cb_V X w pc lv (.int x :: st) := by
  subst hn
  have hg' := cb_o_gr h
  obtain ⟨h, ha, -, -⟩ := h
  obtain ⟨p, l, e, R, s, m, args, below, meth, c, D, A, kX, nX, Q⟩ := X
  obtain ⟨hx0, hb, hml, hown, hts, hN, hK, hfr, hlo, hce, hsl, hg⟩ := h
  obtain ⟨g1, g2, g3, g4⟩ := ha
  intro H locs ls hP hD hS hl0
  refine va_newa hx0 hb (hts _ harr) hty hK hP hD hS g3 ha0 hx hN' hby (by omega) (by omega) hd (fun q cA H1 hK1 hP1 hD1 hS1 => ?_)
  have e1 := hra s cA (hK1.2 E.2.2.length (cA, ty) (by rw [List.getElem?_append_right (Nat.le_refl _), Nat.sub_self]; rfl)).2
  have e2 := hra s cA0 (hK.2 t _ ht).2
  have e3 : cA = cA0 := Option.some.inj (e1.symm.trans e2)
  subst e3
  exact kk q _ hg' H1 locs ls hP1 hD1 hS1 hl0
theorem cb_newq {C : String} {index N' k n : Nat} {x : Int32} {cA0 : ClassId} (nx t : Nat) (h : cb_o X cc own E fr lo nL (1 + k) (N' + n) Z) (hd : decode cc pc = .ok (.anewarray index, 3)) (hn : pc + 3 = nx) (hcl : Cond.classLink own index C ∈ E.1) (hov : C = "ChainBoard$Device") (ht : E.2.2[t]? = some (cA0, .object C)) (hx : ¬ x < 0) (hN' : x.toNatClampNeg = N') (hby : N' * 4 ≤ 536870912)
    (kk : ∀ (q : Nat) (X : cb_X), cb_o X cc own E fr lo nL k n Z → cb_V X (w ++ [(q, .inl (cA0, N', .inr (.inr (.inr (.inr (fun _ => none))))))]) nx lv (.ref q :: st)) : cb_V X w pc lv (.int x :: st) := by
  subst hn
  have hg' := cb_o_gr h
  obtain ⟨h, ha, -, -⟩ := h
  obtain ⟨p, l, e, R, s, m, args, below, meth, c, D, A, kX, nX, Q⟩ := X
  obtain ⟨hx0, hb, hml, hown, hts, hN, hK, hfr, hlo, hce, hsl, hg⟩ := h
  obtain ⟨g1, g2, g3, g4⟩ := ha
  intro H locs ls hP hD hS hl0
  refine va_newq hx0 hb hown (hts _ hcl) (hov ▸ g4) hK hP hD hS g3 hx hN' hby (by omega) (by omega) hd (fun q cA H1 hK1 hP1 hD1 hS1 => ?_)
  obtain ⟨_, _, -, -, -, e1⟩ := (hK1.2 E.2.2.length (cA, .object C) (by rw [List.getElem?_append_right (Nat.le_refl _), Nat.sub_self]; rfl)).2
  obtain ⟨_, _, -, -, -, e2⟩ := (hK.2 t _ ht).2
  have e3 : cA = cA0 := Option.some.inj (e1.symm.trans e2)
  subst e3
  exact kk q _ hg' H1 locs ls hP1 hD1 hS1 hl0
theorem cb_astq {Ec : String} {cA : ClassId} {r : vw_C} {ci N v a : Nat} {vs : List Value} {f : Nat → Option Nat} {i : Int32} {w' : va_W} (nx q t qk : Nat) (h : cb_ok X cc own E fr lo nL) (hd : decode cc pc = .ok (.aastore, 1)) (hn : pc + 1 = nx) (hq : w[q]? = some (a, .inl (cA, N, .inr (.inr (.inr (.inr f)))))) (ht : E.2.2[t]? = some (cA, .object Ec)) (hca : Cond.castable r.1 Ec ∈ E.2.1) (hv : w[qk]? = some (v, .inr (ci, vs))) (hc : vwCl[ci]? = some r) (hin : vp_in i N) (hw : w.set q (a, .inl (cA, N, .inr (.inr (.inr (.inr (va_up f i.toNatClampNeg (some v))))))) = w')
    (kk : cb_V X w' nx lv st) : cb_V X w pc lv (.ref v :: .int i :: .ref a :: st) := by
  subst hn; subst hw
  obtain ⟨p, l, e, R, s, m, args, below, meth, c, D, A, kX, nX, Q⟩ := X
  exact fun H locs ls hP hD hS hl0 => va_astqO h.1 h.2.1 h.2.2.2.2.2.2.1 hP hD hS q t qk ci hq ht (h.2.2.2.2.2.1 _ hca) hv hc hin hd (fun H1 locs1 hP hD hS => kk H1 locs1 ls hP hD hS hl0)
theorem cb_putF {ref C : String} {T : u_T} {N ci index a k0 n0 : Nat} {fs : List Value} {v : Value} {ty0 : Nat → FieldType} {ty : FieldType} {w' : va_W} {Wf : (Nat → Nat) → va_W} (nx q k : Nat) (h : cb_o X cc own E fr lo nL k0 n0 (cb_nd Wf)) (hd : decode cc pc = .ok (.putfield index, 3)) (hn : pc + 3 = nx) (hin : ∀ w ∈ u_ws C T N, w ∈ E.1) (hty : ∀ k, k < N → parseFieldDescriptor (T k).2.2.1 = some (ty0 k)) (hnm : ∀ a, a < N → ∀ b, b < N → a ≠ b → (T a).2.1 ≠ (T b).2.1) (hq : w[q]? = some (a, .inr (ci, fs))) (hc : vwCl[ci]? = some (C, T, N)) (hk : k < N) (hl : Cond.fieldLink own index ref (T k).2.1 (T k).2.2.1 ∈ E.1) (hs : ref = (T k).1) (hfin : (T k).2.2.2 = true) (hdecl : (T k).1 = own) (hdd : parseFieldDescriptor (T k).2.2.1 = some ty) (hnn : narrow ty v = v) (hfit : fits ty v = true) (hlen : k < fs.length) (hw : w.set q (a, .inr (ci, fs.set k v)) = w') (kk : cb_V X w' nx lv st) : cb_V X w pc lv (v :: .ref a :: st) := by
  subst hn; subst hw; subst hs
  obtain ⟨h, -, hnd, -⟩ := h
  obtain ⟨p, l, e, R, s, m, args, below, meth, c, D, A, kX, nX, Q⟩ := X
  exact fun H locs ls hP hD hS hl0 => va_putF h.1 h.2.1 h.2.2.2.2.1 hin ty0 hty hnm h.2.2.2.1 h.2.2.2.2.2.2.1 hP hD hS q hq hc k hk (h.2.2.2.2.1 _ hl) (fun x hx => hx) hfin hnd.2.2.2 hdecl hdd hnn hfit hlen hd (fun H1 locs1 hP hD hS => kk H1 locs1 ls hP hD hS hl0)
theorem cb_obj {index a : Nat} (nx : Nat) (h : cb_ok X cc own E fr lo nL) (hd : decode cc pc = .ok (.invokespecial index, 3)) (hn : pc + 3 = nx) (hl : Cond.methodLink own index Lib.objectInit ∈ E.1 ∧ Cond.instanceMethod Lib.objectInit ∈ E.1 ∧ Cond.code Lib.objectInit ⟨#[0xb1]⟩ 1 none ∈ E.1) (hfr : 1 ≤ fr) (hlo : (st.map fun v => v.category).sum + 12 ≤ lo) (kk : cb_V X w nx lv st) : cb_V X w pc lv (.ref a :: st) := by
  subst hn
  obtain ⟨p, l, e, R, s, m, args, below, meth, c, D, A, kX, nX, Q⟩ := X
  obtain ⟨hx0, hb, hml, hown, hts, hN, hK, hfr', hlo', hce, hsl, hg⟩ := h
  intro H locs ls hP hD hS hl0
  refine W.objInit hx0 hb hown (hts _ hl.1) (hts _ hl.2.1) (hts _ hl.2.2) rfl hl0.1 rfl hd (Nat.le_trans hfr hfr') ?_ (kk H locs ls hP hD hS hl0)
  refine Nat.le_trans (Nat.le_trans (Nat.le_of_eq ?_) hlo) hlo'
  show 2 * 0 + _ + 12 = _
  omega
/-- invokespecial of a constructor -/
theorem cb_callN {y : MethodName} {bytes : ByteArray} {maxL n index b k0 n0 : Nat} {rm : Room} {As st0 : List Value} {wc wr : va_W} {Wf : (Nat → Nat) → va_W} (nx : Nat) (isC isR : List Nat) (h : cb_o X cc own E fr lo nL (rm.cells + k0) (rm.slots + n0) Z) (hd : decode cc pc = .ok (.invokespecial index, 3)) (hn : pc + 3 = nx)
    (hM : cb_Nc (cb_l X) y bytes maxL rm (cb_D X) E (.ref b :: As) wc Wf) (hy : y.name = "<init>") (hl : Cond.methodLink own index y ∈ E.1 ∨ ∃ host, Cond.methodLinkNest own index y host ∈ E.2.1) (hx : Cond.code y bytes maxL none ∈ E.1 ∧ Cond.initialized y.cls ∈ E.1 ∧ Cond.instanceMethod y ∈ E.1 ∧ (y.cls ≠ "java/lang/invoke/MethodHandle" ∧ y.cls ≠ "java/lang/invoke/VarHandle") ∧ (parseMethodDescriptor y.desc).map (fun d => d.parameters.length) = some n)
    (hC : isC.map (fun i => w[i]?) = wc.map some) (hR : isR.map (fun i => w[i]?) = wr.map some) (hnc : va_nd isC = true) (hnr : va_nd isR = true) (hdis : ∀ i ∈ isR, i ∉ isC)
    (hr : rm.frames + 1 ≤ fr ∧ 8 + (maxL + 11) + rm.locals ≤ lo) (hs : st0 = As.reverse ++ .ref b :: st) (hsz : As.length = n) (hst : (st.map fun v => v.category).sum ≤ 8) (kk : ∀ (u : Nat → Nat) (X : cb_X), cb_o X cc own E fr lo nL k0 n0 Z → cb_V X (wr ++ Wf u) nx lv st) : cb_V X w pc lv st0 := by
  subst hn; subst hs
  have hg' := cb_o_gr h
  obtain ⟨h, ha, -, -⟩ := h
  obtain ⟨p, l, e, R, s, m, args, below, meth, c, D, A, kX, nX, Q⟩ := X
  obtain ⟨hx0, hb, hml, hown, hts, hN, hK, hfr, hlo, hce, hsl, hg⟩ := h
  obtain ⟨g1, g2, g3, g4⟩ := ha
  obtain ⟨x1, x2, x3, x4, x5⟩ := hx
  intro H locs ls hP hD hS hl0
  have hFc := va_free (wc := wc) hD hS g3 isC hC
  have hPc := hP.sub (ws' := wc) isC (cb_fm hC)
  have hDc := hD.sub (ws' := wc) isC hnc hC
  have blind : FrameBlind (va_Pc (.ref b :: As) (fun U => U.heap.size = H.size ∧ va_P D vwCl wc U.heap ∧ va_K D vwCl E.2.2 U ∧ (∀ x ∈ E.2.1, va_Nw x U) ∧ va_AO "ChainBoard$Device" U ∧ va_D (fun _ => True) wc)) := by
    intro a U g mk q
    obtain ⟨q0, q1, qP, qK, qN, qA, qD⟩ := q
    exact ⟨q0, q1, qP, va_K.moved (u := U) (U := U.calling g mk a) (Vm.Alike.refl U.vm) qK, fun x hx => va_Nw.same (hg.2 x hx).1 (u := U) (U := U.calling g mk a) rfl (qN x hx), va_AO.moved (u := U) (U := U.calling g mk a) (Vm.Alike.refl U.vm) qA, qD⟩
  have pre : ∀ U : State, U.heap = H → s.WarmedH U.vm → va_Pc (.ref b :: As) (fun U => U.heap.size = H.size ∧ va_P D vwCl wc U.heap ∧ va_K D vwCl E.2.2 U ∧ (∀ x ∈ E.2.1, va_Nw x U) ∧ va_AO "ChainBoard$Device" U ∧ va_D (fun _ => True) wc) (Value.ref b :: As).toArray U := by
    intro U hU hW
    exact ⟨rfl, by rw [hU], by rw [hU]; exact hPc, va_K.moved hW.alike hK, fun x hx => (hg.2 x hx).2 s U hW (hN x hx), va_AO.moved hW.alike g4, hDc.weaken (fun _ _ _ _ => trivial)⟩
  have sgn : ∀ sig, parseMethodDescriptor y.desc = some sig → As.length = sig.parameters.length := fun sig hsig => by rw [hsig] at x5; rw [hsz]; exact (Option.some.inj x5).symm
  have hrun : va_Run p l e R s m args below meth c H locs kX nX rm.cells rm.slots (F0 m pc ls (As.reverse ++ .ref b :: st)) st (cb_Qn D (va_A wc H.size) Wf (Value.ref b :: As).toArray) (va_A wc H.size) := by
    rcases hl with hl | ⟨host, hl⟩
    · exact va_runI (As := As) (rest := st) (n := As.length) (bytes := bytes) (maxL := maxL) ⟨hx0, hb, hml, hown, hts⟩ (hM H.size)
        ⟨⟨rfl, rfl, Nat.le_trans hr.1 hfr, Nat.le_trans hr.2 hlo, pay_in hts (cb_goodIn hg x1), List.mem_cons_self, hts _ x1, hts _ x2, x4, sgn, hts _ hl⟩, hy, hts _ x3⟩
        ⟨blind, pre⟩ rfl rfl (hml ▸ hl0.1) rfl (lv_room hst) hd ⟨by omega, by omega⟩
    · exact va_runIN (As := As) (rest := st) (n := As.length) (bytes := bytes) (maxL := maxL) (host := host) ⟨hx0, hb, hml, hown, hts⟩ (hM H.size)
        ⟨⟨⟨rfl, rfl, Nat.le_trans hr.1 hfr, Nat.le_trans hr.2 hlo, pay_in hts (cb_goodIn hg x1), List.mem_cons_self⟩, hts _ x1, hts _ x2, x4, sgn, va_Nw.use rfl (hN _ hl)⟩, hy, hts _ x3⟩
        ⟨blind, pre⟩ rfl rfl (hml ▸ hl0.1) rfl (lv_room hst) hd ⟨by omega, by omega⟩
  refine va_callv hrun hS (fun q _ h => hFc q h) hFc (fun u t H1 locs1 ht hvm _ hB hz1 hk1 hS1 => ?_)
  obtain ⟨hP1, hD1⟩ := hB
  rw [ht] at hP1
  obtain ⟨hP', hD'⟩ := va_join (wr := wr) (w1 := Wf u) hP hD isC isR hC hR hnr hdis hk1 hFc hP1 hD1
  exact kk u _ hg' H1 locs1 ls hP' hD' hS1 hl0
theorem cb_retN {k0 n0 : Nat} {Wf : (Nat → Nat) → va_W} (u : Nat → Nat) (is : List Nat) (h : cb_o X cc own E fr lo nL k0 n0 (cb_nd Wf)) (hd : decode cc pc = .ok (.return_, 1)) (hs : is.map (fun i => w[i]?) = (Wf u).map some) (hn : va_nd is = true) : cb_V X w pc lv [] := by
  obtain ⟨h, ha, hnd, -⟩ := h
  obtain ⟨p, l, e, R, s, m, args, below, meth, c, D, A, kX, nX, Q⟩ := X
  obtain ⟨rfl, hr, hk, -⟩ := hnd
  obtain ⟨g1, g2, g3, g4⟩ := ha
  exact fun H locs ls hP hD hS hl => W.widen (k := R.cells) (n := R.slots) (by omega) (by omega) (W.vret h.1 h.2.1 hr (fun t ht hW => ⟨⟨u, rfl, trivial, by rw [ht]; exact hP.sub is (cb_fm hs), hD.sub is hn hs⟩, hS.F ht⟩) hS.2.2 hd (hlocks := hk))
/-- the same world in other words -/
theorem cb_wd {w' : va_W} (hp : ∀ (D : va_G) (H : Heap), va_P D vwCl w H → va_P D vwCl w' H) (hf : w'.map Prod.fst = w.map Prod.fst) (kk : cb_V X w' pc lv st) : cb_V X w pc lv st := by
  obtain ⟨p, l, e, R, s, m, args, below, meth, c, D, A, kX, nX, Q⟩ := X
  exact fun H locs ls hP hD hS hl => kk H locs ls (hp D H hP) (cb_D_congr hD hf) hS hl
/-- the cells in another order -/
theorem cb_or {w' : va_W} (is : List Nat) (hs : is.map (fun i => w[i]?) = w'.map some) (hn : va_nd is = true) (kk : cb_V X w' pc lv st) : cb_V X w pc lv st := by
  obtain ⟨p, l, e, R, s, m, args, below, meth, c, D, A, kX, nX, Q⟩ := X
  exact fun H locs ls hP hD hS hl => kk H locs ls (hP.sub is (cb_fm hs)) (hD.sub is hn hs) hS hl
end CBN
