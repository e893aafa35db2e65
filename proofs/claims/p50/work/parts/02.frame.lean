/-! A CONTRACT OF A WORLD: what a method's cells are before and behind it, what lies outside and stays; calls and ends by one row each. -/
/-- what lies outside a method's own cells, and stays when the heap changes inside them alone -/
def zz_St (X : (Nat → Prop) → State → Prop) : Prop := ∀ (A A1 : Nat → Prop) (s U : State) (H : Heap) (locs : List Loc), X A s → va_S A s.heap H locs → U.heap = H → s.WarmedH U.vm → (∀ q, A1 q → A q) → X A1 U
/-- a text that lies outside: the object q, its bytes b, n of them, f -/
def zz_S (q b n : Nat) (f : Nat → Int32) (A : Nat → Prop) (U : State) : Prop :=
  va_O "java/lang/String" q A U U.heap ∧ va_OF "java/lang/String" "coder" "B" (.int 0) q A U U.heap ∧ va_OF "java/lang/String" "value" "[B" (.ref b) q A U U.heap ∧ va_T .byte b n (fun j => .int (f j)) A U U.heap ∧ n ≤ 65536 ∧ ∀ j, fits .byte (.int (f j)) = true
/-- String.COMPACT_STRINGS, and Integer's two tables of digits -/
def zz_G (A : Nat → Prop) (U : State) : Prop :=
  va_Z "java/lang/String" "COMPACT_STRINGS" "Z" (.int 1) A U U.heap ∧ ∃ (t1 t2 : Nat) (g1 g2 : Nat → Int32), va_Z "java/lang/Integer" "DigitOnes" "[B" (.ref t1) A U U.heap ∧ va_T .byte t1 100 (fun j => .int (g1 j)) A U U.heap ∧ (∀ j, j < 100 → fits .byte (.int (g1 j)) = true) ∧ va_Z "java/lang/Integer" "DigitTens" "[B" (.ref t2) A U U.heap ∧ va_T .byte t2 100 (fun j => .int (g2 j)) A U U.heap ∧ ∀ j, j < 100 → fits .byte (.int (g2 j)) = true
theorem zz_Tn {ty : FieldType} {t N : Nat} {f : Nat → Value} {A B : Nat → Prop} {U : State} {H : Heap} (h : va_T ty t N f A U H) (hAB : ∀ q, B q → A q) : va_T ty t N f B U H := by
  obtain ⟨cell, h1, h2, h3, h4, h5, h6, h7⟩ := h
  exact ⟨cell, h1, h2, h3, h4, h5, h6, fun z => h7 (hAB _ z)⟩
theorem zz_On {E : String} {t : Nat} {A B : Nat → Prop} {U : State} {H : Heap} (h : va_O E t A U H) (hAB : ∀ q, B q → A q) : va_O E t B U H := by
  obtain ⟨cell, h1, h2, h3, h4⟩ := h
  exact ⟨cell, h1, h2, h3, fun z => h4 (hAB _ z)⟩
theorem zz_St_Z (C n d : String) (v : Value) : zz_St (fun A U => va_Z C n d v A U U.heap) := by
  intro A A1 s U H locs h hS hU hW hA
  have h1 := (va_Z.moved hW.alike h).kept (H1 := U.heap) (by rw [hU]; exact hS.2.1)
  exact h1.narrow hA
theorem zz_St_T (ty : FieldType) (t N : Nat) (f : Nat → Value) : zz_St (fun A U => va_T ty t N f A U U.heap) := by
  intro A A1 s U H locs h hS hU hW hA
  have h1 := (va_T.moved hW.alike h).kept (H1 := U.heap) (by rw [hU]; exact hS.2.1)
  exact zz_Tn h1 hA
theorem zz_St_O (E : String) (t : Nat) : zz_St (fun A U => va_O E t A U U.heap) := by
  intro A A1 s U H locs h hS hU hW hA
  have h1 := (va_O.moved hW.alike h).kept (H1 := U.heap) (by rw [hU]; exact hS.2.1)
  exact zz_On h1 hA
theorem zz_St_OF (o n d : String) (v : Value) (t : Nat) : zz_St (fun A U => va_OF o n d v t A U U.heap) := by
  intro A A1 s U H locs h hS hU hW hA
  have h1 := (va_OF.moved hW.alike h).kept (H1 := U.heap) (by rw [hU]; exact hS.2.1)
  exact h1.narrow hA
theorem zz_St_and {X Y : (Nat → Prop) → State → Prop} (hX : zz_St X) (hY : zz_St Y) : zz_St (fun A U => X A U ∧ Y A U) :=
  fun A A1 s U H locs h hS hU hW hA => ⟨hX A A1 s U H locs h.1 hS hU hW hA, hY A A1 s U H locs h.2 hS hU hW hA⟩
theorem zz_St_S (q b n : Nat) (f : Nat → Int32) : zz_St (zz_S q b n f) := by
  intro A A1 s U H locs ⟨h1, h2, h3, h4, h5⟩ hS hU hW hA
  exact ⟨zz_St_O _ _ A A1 s U H locs h1 hS hU hW hA, zz_St_OF _ _ _ _ _ A A1 s U H locs h2 hS hU hW hA, zz_St_OF _ _ _ _ _ A A1 s U H locs h3 hS hU hW hA, zz_St_T _ _ _ _ A A1 s U H locs h4 hS hU hW hA, h5⟩
theorem zz_St_G : zz_St zz_G := by
  intro A A1 s U H locs ⟨h1, t1, t2, g1, g2, h2, h3, h4, h5, h6, h7⟩ hS hU hW hA
  exact ⟨zz_St_Z _ _ _ _ A A1 s U H locs h1 hS hU hW hA, t1, t2, g1, g2, zz_St_Z _ _ _ _ A A1 s U H locs h2 hS hU hW hA, zz_St_T _ _ _ _ A A1 s U H locs h3 hS hU hW hA, h4, zz_St_Z _ _ _ _ A A1 s U H locs h5 hS hU hW hA, zz_St_T _ _ _ _ A A1 s U H locs h6 hS hU hW hA, h7⟩
theorem zz_St_tt : zz_St (fun _ _ => True) := fun _ _ _ _ _ _ _ _ _ _ _ => trivial
theorem zz_St_R (own tx : String) (k a : Nat) : zz_St (fun _ U => vk_R own k tx a U) := fun _ _ _ _ _ _ h _ _ hW _ => h.warm hW
theorem zz_St_NM (own : String) (i : Nat) (x : MethodName) (h : String) : zz_St (fun _ U => va_Nw (.methodLinkNest own i x h) U) := fun _ _ _ _ _ _ hx _ _ hW _ => va_Nw.warmM hW hx
theorem zz_St_FN (a : String) (i : Nat) (b n d h : String) : zz_St (fun _ U => va_Nw (.fieldLinkNest a i b n d h) U) := fun _ _ _ _ _ _ hx _ _ hW _ => va_Nw.warmF hW hx
theorem zz_St_AO (C : String) : zz_St (fun _ U => va_AO C U) := fun _ _ _ _ _ _ hx _ _ hW _ => va_AO.moved hW.alike hx
theorem va_AOA.moved {t : FieldType} {u U : State} (hvm : u.vm.Alike U.vm) (h : va_AOA t u) : va_AOA t U := Jvm.Stand.arrayOver_alikeB hvm h
theorem zz_St_AOA (ty : FieldType) : zz_St (fun _ U => va_AOA ty U) := fun _ _ _ _ _ _ hx _ _ hW _ => va_AOA.moved hW.alike hx
/-- a method's end: its answer v, its cells W', their array classes ty' -/
def zz_Q (D : va_G) (A : Nat → Prop) (post : Heap → Heap → Option Value → va_W → List (ClassId × FieldType) → Prop) : State → Outcome → State → Prop := fun st oc t =>
  (∃ (v : Option Value) (W' : va_W) (ty' : List (ClassId × FieldType)), oc = .returned v ∧ post st.heap t.heap v W' ty' ∧ va_P D vwCl W' t.heap ∧ va_K D vwCl ty' t ∧ va_D A W') ∧ va_F A st t
abbrev zz_Pc (D : va_G) (av : List Value) (ty : List (ClassId × FieldType)) (ws : va_W) (X : (Nat → Prop) → State → Prop) (sz : Nat) : Array Value → State → Prop :=
  va_Pc av (fun U => U.heap.size = sz ∧ va_P D vwCl ws U.heap ∧ va_K D vwCl ty U ∧ va_D (fun _ => True) ws ∧ X (va_A ws sz) U)
/-- THE CONTRACT -/
def zz_M (l : Launch) (y : MethodName) (wds : List Cond) (rm : Room) (D : va_G) (av : List Value) (ty : List (ClassId × FieldType)) (ws : va_W) (X : (Nat → Prop) → State → Prop) (post : Heap → Heap → Option Value → va_W → List (ClassId × FieldType) → Prop) : Prop :=
  ∀ sz : Nat, Met l y wds rm (zz_Pc D av ty ws X sz) (fun _ => zz_Q D (va_A ws sz) post) rm.cells rm.slots (va_A ws sz)
/-- what is known at a body's entry -/
def zz_C (p : Program) (s : State) (m : MethodId) (meth : Method) (c : Code) (args : Array Value) (own : String) (cc : ByteArray) (maxL : Nat) (ret : Option FieldType) (wds : List Cond) : Prop :=
  p.tables.exec = Jvm.exec ∧ c.code = cc ∧ c.maxLocals = maxL ∧ meth.sig.returnType = ret ∧ s.vm.findClass own = some m.cls ∧ (∀ w ∈ wds, w.before args s = true) ∧ meth.locks = false
theorem zz_M.mk {l : Launch} {y : MethodName} {wds ws' : List Cond} {rm : Room} {D : va_G} {av : List Value} {ty : List (ClassId × FieldType)} {ws : va_W} {X : (Nat → Prop) → State → Prop} {post : Heap → Heap → Option Value → va_W → List (ClassId × FieldType) → Prop} {cc : ByteArray} {maxL : Nat} {ret : Option FieldType}
    (hy : plainName y.cls = true) (hw : wds = Cond.code y cc maxL ret :: ws') (hn : (lg_sl av).length ≤ maxL)
    (body : ∀ (p : Program) (e : Env) (s : State) (m : MethodId) (below : List Frame) (meth : Method) (c : Code) (ls : Array Slot), zz_C p s m meth c av.toArray y.cls cc maxL ret wds → meth.name = y.name → va_P D vwCl ws s.heap → va_K D vwCl ty s → va_D (va_A ws s.heap.size) ws → X (va_A ws s.heap.size) s → lv_has ls maxL (lv_args 0 av) →
      W p l e rm s m av.toArray below meth c s.heap [] 0 0 (MQ below (fun _ => zz_Q D (va_A ws s.heap.size) post) av.toArray s rm.cells rm.slots (va_A ws s.heap.size)) (F0 m 0 ls [])) : zz_M l y wds rm D av ty ws X post := by
  intro sz
  refine Met.ofW (cc := cc) (maxL := maxL) (ret := ret) hy hw ?_
  intro p e s m args below meth c s₁ B hml hv
  obtain ⟨rfl, hsz, hP, hK, hD0, hX⟩ := hv
  subst hsz
  have hl := lv_entry av (n := maxL) hn
  rw [lg_entry_eq]
  exact body p e s m below meth c _ ⟨B.exec, B.bytes, hml, B.returns, findClass_of_methodNamed B.named, atoms_spec (ws := wds) B.pre, B.notSynchronized⟩ (name_of_methodNamed B.named B.method).1 hP hK hD0.self hX hl
section ZZ
variable {p : Program} {l : Launch} {e : Env} {R : Room} {s : State} {m : MethodId} {args : Array Value} {below : List Frame} {meth : Method} {c : Code} {H : Heap} {locs : List Loc} {cells slots : Nat} {Q : State → Prop}
variable {pc : Nat} {ls : Array Slot} {rest st0 : List Value} {A : Nat → Prop} {H0 : Heap} {D : va_G} {ty ty' tyc : List (ClassId × FieldType)} {ws wc wr W' : va_W}
/-- what a callee is given -/
theorem zz_pre {X Xc : (Nat → Prop) → State → Prop} {av : List Value} (hP : va_P D vwCl ws H) (hD : va_D A ws) (hK : va_K D vwCl ty s) (hS : va_S A s.heap H locs) (isC isT : List Nat) (hC : isC.map (fun i => ws[i]?) = wc.map some) (hn : va_nd isC = true) (hT : isT.filterMap (fun i => ty[i]?) = tyc)
    (hXst : zz_St Xc) (hXc : ∀ U : State, U.heap = H → s.WarmedH U.vm → Xc (va_A wc H.size) U) :
    FrameBlind (zz_Pc D av tyc wc Xc H.size) ∧ ∀ U : State, U.heap = H → s.WarmedH U.vm → zz_Pc D av tyc wc Xc H.size av.toArray U := by
  refine ⟨?_, ?_⟩
  · intro a U g mk q
    obtain ⟨q0, q1, qP, qK, qD, qX⟩ := q
    exact ⟨q0, q1, qP, va_K.moved (u := U) (U := U.calling g mk a) (Vm.Alike.refl U.vm) qK, qD, hXst _ _ U (U.calling g mk a) _ [] qX va_S.rf rfl (State.WarmedH.refl U) (fun _ h => h)⟩
  · intro U hU hW
    have hD' := hD.sub isC hn hC
    refine ⟨rfl, by rw [hU], ?_, va_K.moved hW.alike (hK.sub isT hT), hD'.weaken (fun _ _ _ _ => trivial), hXc U hU hW⟩
    rw [hU]
    intro k q hq
    have h1 : (isC.map (fun i => ws[i]?))[k]? = some (some q) := by rw [hC, List.getElem?_map, hq]; rfl
    rw [List.getElem?_map] at h1
    cases hi : isC[k]? with
    | none => rw [hi] at h1; cases h1
    | some i => rw [hi] at h1; exact hP i q (Option.some.inj h1)
/-- the facts outside, handed on -/
theorem zz_out {X : (Nat → Prop) → State → Prop} (hX : zz_St X) (hx : X A s) (hS : va_S A s.heap H locs) (hF : ∀ q, va_A wc H.size q → A q) : ∀ U : State, U.heap = H → s.WarmedH U.vm → X (va_A wc H.size) U :=
  fun U hU hW => hX _ _ s U H locs hx hS hU hW hF
/-- behind a call -/
theorem zz_after {mc ms : Nat} {post : Heap → Heap → Option Value → va_W → List (ClassId × FieldType) → Prop} (hr : va_Run p l e R s m args below meth c H locs cells slots mc ms (F0 m pc ls st0) rest (zz_Q D (va_A wc H.size) post) (va_A wc H.size)) (hP : va_P D vwCl ws H) (hD : va_D A ws) (hK : va_K D vwCl ty s) (hS : va_S A H0 H locs) (hF : ∀ q, va_A wc H.size q → A q) (isC isR : List Nat) (hC : isC.map (fun i => ws[i]?) = wc.map some) (hR : isR.map (fun i => ws[i]?) = wr.map some) (hn : va_nd isR = true) (hdis : ∀ i ∈ isR, i ∉ isC)
    (kk : ∀ (v : Option Value) (w1 : va_W) (ty1 : List (ClassId × FieldType)) (H1 : Heap) (locs1 : List Loc), post H H1 v w1 ty1 → H.size ≤ H1.size → (∀ q : Nat, q < H.size → ¬ va_A wc H.size q → H1[q]? = H[q]?) → va_P D vwCl (wr ++ w1) H1 → va_D A (wr ++ w1) → va_K D vwCl (ty ++ ty1) s → va_S A H0 H1 locs1 →
      W p l e R s m args below meth c H1 locs1 (cells + mc) (slots + ms) Q (F0 m (pc + 3) ls (v.toList ++ rest))) : W p l e R s m args below meth c H locs cells slots Q (F0 m pc ls st0) := by
  intro T hT X
  obtain ⟨v, st₀, t, T', L, h0, X', hL, e1, e2, ⟨⟨v', w1, ty1, hv, hp, hP1, hK1, hD1⟩, hz, hk⟩, st⟩ := hr T hT X
  cases hv
  rw [h0] at hz hk hp
  rw [← e1] at hp hz hk hP1
  have hvm : s.vm.Alike t.vm := by rw [← e2]; exact X'.warmed.alike
  obtain ⟨hPn, hDn⟩ := va_join hP hD isC isR hC hR hn hdis hk hF hP1 hD1
  obtain ⟨t2, a1, b1⟩ := kk v w1 ty1 T'.heap (locs ++ L) hp hz hk hPn hDn (hK.app (va_K.moved hvm.symm hK1))
    ⟨Nat.le_trans hS.1 hz, fun q h1 h2 => by rw [hk q (Nat.lt_of_lt_of_le h1 hS.1) (fun z => h2 (hF q z))]; exact hS.2.1 q h1 h2, fun q hq => by
      rcases List.mem_append.mp hq with h | h
      · exact hS.2.2 q h
      · exact hF _ (hL q h)⟩ T' rfl X'
  exact ⟨t2, st t2 a1, b1⟩
theorem zz_pV {C : String} {b : Addr} {Pc : Array Value → State → Prop} {As : List Value} (h : FrameBlind Pc ∧ ∀ U : State, U.heap = H → s.WarmedH U.vm → Pc (Value.ref b :: As).toArray U) (hr : ∃ cellB : Cell, H[b]? = some cellB ∧ cellB.vm.isStatics = false ∧ s.vm.findClass C = some cellB.cls) : PreV s H C b Pc As := ⟨h.1, hr, h.2⟩
/-- ends -/
theorem zz_end {v : Option Value} {post : Heap → Heap → Option Value → va_W → List (ClassId × FieldType) → Prop} (hP : va_P D vwCl ws H) (hD : va_D A ws) (hK : va_K D vwCl ty s) (hS : va_S A s.heap H locs) (hq : post s.heap H v ws ty) : ∀ t : State, t.heap = H → s.WarmedH t.vm → zz_Q D A post s (.returned v) t :=
  fun t ht hW => ⟨⟨v, ws, ty, rfl, by rw [ht]; exact hq, by rw [ht]; exact hP, va_K.moved hW.alike hK, hD⟩, hS.F ht⟩
end ZZ
/-! numbers -/
theorem zz_max {a b : Nat} (ha : a < 2 ^ 31) (hb : b < 2 ^ 31) : (if nI a < nI b then nI b else nI a) = nI (max a b) := by
  by_cases h : a < b
  · rw [if_pos (nI_lt h hb), Nat.max_eq_right (by omega)]
  · rw [if_neg (nI_nlt (by omega) ha), Nat.max_eq_left (by omega)]
theorem zz_min {a b : Nat} (ha : a < 2 ^ 31) (hb : b < 2 ^ 31) : (if nI b < nI a then nI b else nI a) = nI (min a b) := by
  by_cases h : b < a
  · rw [if_pos (nI_lt h ha), Nat.min_eq_right (by omega)]
  · rw [if_neg (nI_nlt (by omega) hb), Nat.min_eq_left (by omega)]
/-- the capacity behind ensureCapacityInternal q, at capacity k -/
def zz_cap (q k : Nat) : Nat := if q ≤ k then k else k + max (q - k) (k + 2)
theorem zz_cap_ge (q k : Nat) : q ≤ zz_cap q k := by unfold zz_cap; split <;> omega
theorem zz_cap_le {q k : Nat} (hq : q ≤ 400) (hk : k ≤ 1500) : zz_cap q k ≤ 1500 := by unfold zz_cap; split <;> omega
theorem zz_neg {x c : Nat} (hx : x < 2 ^ 31) (hc : c < 2 ^ 31) : -nI x ≤ -nI c ↔ c ≤ x := sb_nle hx hc
theorem zz_nn (x : Nat) : -(-nI x) = nI x := by simp
theorem zz_fitN (x : Int32) : fits .byte (.int (vp_nar .byte x)) = true := by rw [vp_nar_byte]; exact pk_fb x
theorem zz_cap_or (q k : Nat) : (q ≤ k ∧ zz_cap q k = k) ∨ (k < q ∧ zz_cap q k = k + max (q - k) (k + 2)) := by
  by_cases h : q ≤ k
  · exact Or.inl ⟨h, if_pos h⟩
  · exact Or.inr ⟨by omega, if_neg h⟩
