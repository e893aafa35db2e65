/-- a contract of a method with an exception table, none of whose rows is walked -/
theorem zz_M.mkW {l : Launch} {y : MethodName} {wds ws' : List Cond} {rm : Room} {D : va_G} {av : List Value} {ty : List (ClassId × FieldType)} {ws : va_W} {X : (Nat → Prop) → State → Prop} {post : Heap → Heap → Option Value → va_W → List (ClassId × FieldType) → Prop} {cc : ByteArray} {maxL : Nat} {ret : Option FieldType} {hh : List (Nat × Nat × Nat × Nat)}
    (hy : plainName y.cls = true) (hw : wds = Cond.codeWith y cc maxL ret hh :: ws') (hn : (lg_sl av).length ≤ maxL)
    (body : ∀ (p : Program) (e : Env) (s : State) (m : MethodId) (below : List Frame) (meth : Method) (c : Code) (ls : Array Slot), zz_C p s m meth c av.toArray y.cls cc maxL ret wds → meth.name = y.name → va_P D vwCl ws s.heap → va_K D vwCl ty s → va_D (va_A ws s.heap.size) ws → X (va_A ws s.heap.size) s → lv_has ls maxL (lv_args 0 av) →
      W p l e rm s m av.toArray below meth c s.heap [] 0 0 (MQ below (fun _ => zz_Q D (va_A ws s.heap.size) post) av.toArray s rm.cells rm.slots (va_A ws s.heap.size)) (F0 m 0 ls [])) : zz_M l y wds rm D av ty ws X post := by
  intro sz
  refine MetFree.of_bodyS (code := cc) (maxLocals := maxL) (ret := ret) hy ?_ ?_
  · intro args s m h hn
    obtain ⟨m9, meth, c, hn9, h1, h2, h3, h4, -, h5, h6, -⟩ := Cond.codeWith_spec (atoms_spec (ws := wds) h _ (by rw [hw]; exact List.mem_cons_self))
    cases hn.symm.trans hn9
    exact ⟨meth, c, h1, h2, h3, h4, h5, h6⟩
  · intro p e s m args below meth c s₁ B hml hv _
    have hh0 : s₁.heap = s.heap := by rw [B.state]; rfl
    obtain ⟨rfl, hsz, hP, hK, hD0, hX⟩ := hv
    subst hsz
    have hl := lv_entry av (n := maxL) hn
    have K : W p l e rm s m av.toArray below meth c s.heap [] 0 0 (MQ below (fun _ => zz_Q D (va_A ws s.heap.size) post) av.toArray s rm.cells rm.slots (va_A ws s.heap.size)) (entryFrame m av.toArray maxL) := by
      rw [lg_entry_eq]
      exact body p e s m below meth c _ ⟨B.exec, B.bytes, hml, B.returns, findClass_of_methodNamed B.named, atoms_spec (ws := wds) B.pre, B.notSynchronized⟩ (name_of_methodNamed B.named B.method).1 hP hK hD0.self hX hl
    obtain ⟨t, a1, o, b1, b2, b3⟩ := K s₁ hh0 (Stand.of_body B)
    exact ⟨t, o, a1, b1, b2, b3⟩
set_option maxHeartbeats 4000000 in
set_option maxRecDepth 100000 in
theorem k_L_put (l : Launch) (D : va_G) (hh : Nat) (tA : Nat) (kn : Int32) (sp : Value) (rx : Value) (pb : Value) (pg : Value) (cB : ClassId) (T0 : Nat → Option Nat) (tb : Nat) (wo : Nat) (ti : Nat) (pn : Nat) (wk : Nat) (vw : Int32) (cW : ClassId) (g : Nat → Int32) (cT : ClassId) (tm : Nat → Int32) (wi : Int32) (w1 : Int32) (w2 : Int32) (w3 : Int32) (w4 : Int32) (oo : Nat) (on : Int64) (os : Value) (n : Nat) (hT : T0 0 = some tb) (hn : n < 64) (hg : g n = -1) (hp : pn < 1000) : zz_M l yL_put wsL_put ({ frames := 5, cells := 0, slots := 0, locals := 300 }) D [.ref hh, .int 0, .int (nI n), .int 99, .ref oo] [(cB, .object "Hashladder$Table"), (cW, .int), (cT, .int)] [(hh, .inr (7, [.ref tA, .int kn, sp, rx, pb, pg])), (tA, .inl (cB, 4, .inr (.inr (.inr (.inr T0))))), (tb, .inr (5, [.ref wo, .ref ti, .int (nI pn), .ref wk, .int vw])), (wo, .inl (cW, 64, .inl g)), (ti, .inl (cT, 100, .inl tm)), (wk, .inr (6, [.int wi, .int w1, .int w2, .int w3, .int w4])), (oo, .inr (8, [.long on, os]))] (fun A U => va_Nw (.fieldLinkNest RL 13 "HashladderLaw$Out" "n" "J" "HashladderLaw") U) (fun H0 H1 v w t => ∃ tm2 : Nat → Int32, ∃ on2 : Int64, v = some (.int 0) ∧ w = [(hh, .inr (7, [.ref tA, .int kn, sp, rx, pb, pg])), (tA, .inl (cB, 4, .inr (.inr (.inr (.inr T0))))), (tb, .inr (5, [.ref wo, .ref ti, .int (nI (pn + 1)), .ref wk, .int vw])), (wo, .inl (cW, 64, .inl (upd g n 99))), (ti, .inl (cT, 100, .inl tm2)), (wk, .inr (6, [.int 0, .int w1, .int w2, .int w3, .int w4])), (oo, .inr (8, [.long on2, os]))] ∧ t = [(cB, .object "Hashladder$Table"), (cW, .int), (cT, .int)]) := by
  refine zz_M.mkW (cc := cL_put) (maxL := 6) (ret := (some .int)) (by decide) rfl (Nat.le_of_ble_eq_true rfl) ?_
  intro p0 e0 s mt0 bl0 meth0 cd0 ls hC hname hP hK hD hX hl
  obtain ⟨hx, hb, hml, hr, hown, hts, hlocks⟩ := hC
  have hX0 := hX
  generalize hAe : va_A [(hh, .inr (7, [.ref tA, .int kn, sp, rx, pb, pg])), (tA, .inl (cB, 4, .inr (.inr (.inr (.inr T0))))), (tb, .inr (5, [.ref wo, .ref ti, .int (nI pn), .ref wk, .int vw])), (wo, .inl (cW, 64, .inl g)), (ti, .inl (cT, 100, .inl tm)), (wk, .inr (6, [.int wi, .int w1, .int w2, .int w3, .int w4])), (oo, .inr (8, [.long on, os]))] s.heap.size = A at *
  have hA : ∀ q : Nat, s.heap.size ≤ q → A q := fun q h => by rw [← hAe]; exact Or.inr h
  obtain ⟨H, hHs⟩ : ∃ z : Heap, z = s.heap := ⟨_, rfl⟩
  rw [← hHs] at hP ⊢
  have hS : va_S A s.heap H [] := by rw [hHs]; exact va_S.rf
  have hl : lv_has ls 6 [(0, .ref hh), (1, .int 0), (2, .int (nI n)), (3, .int 99), (4, .ref oo)] := hl
  refine lv_aload hx hb dL_put_0 (lv_at hl 4 rfl) ?_
  refine lv_aload_n hx hb dL_put_2 rfl (lv_at hl 0 rfl) ?_
  refine lv_iload_n hx hb dL_put_3 rfl (lv_at hl 1 rfl) ?_
  refine lv_iload_n hx hb dL_put_4 rfl (lv_at hl 2 rfl) ?_
  refine lv_iload_n hx hb dL_put_5 rfl (lv_at hl 3 rfl) ?_
  have hFc := va_free (wc := [(hh, .inr (7, [.ref tA, .int kn, sp, rx, pb, pg])), (tA, .inl (cB, 4, .inr (.inr (.inr (.inr T0))))), (tb, .inr (5, [.ref wo, .ref ti, .int (nI pn), .ref wk, .int vw])), (wo, .inl (cW, 64, .inl g)), (ti, .inl (cT, 100, .inl tm)), (wk, .inr (6, [.int wi, .int w1, .int w2, .int w3, .int w4]))]) hD hS hA [0, 1, 2, 3, 4, 5] rfl
  refine zz_after (wr := [(oo, .inr (8, [.long on, os]))]) (va_runV (As := [.int 0, .int (nI n), .int 99]) (rest := [.ref oo]) ⟨hx, hb, hml, hown, hts⟩ ((k_X3_put l D hh tA kn sp rx pb pg cB T0 tb wo ti pn wk vw cW g cT tm wi w1 w2 w3 w4 n (hT) (hn) (hg) (hp)) H.size) (cwV 3 hts gL_put_X3_put rfl rfl rfl (by decide +kernel) ⟨Nat.le_of_ble_eq_true rfl, Nat.le_of_ble_eq_true rfl⟩) (zz_pV (zz_pre (av := [.ref hh, .int 0, .int (nI n), .int 99]) (tyc := [(cB, .object "Hashladder$Table"), (cW, .int), (cT, .int)]) (wc := [(hh, .inr (7, [.ref tA, .int kn, sp, rx, pb, pg])), (tA, .inl (cB, 4, .inr (.inr (.inr (.inr T0))))), (tb, .inr (5, [.ref wo, .ref ti, .int (nI pn), .ref wk, .int vw])), (wo, .inl (cW, 64, .inl g)), (ti, .inl (cT, 100, .inl tm)), (wk, .inr (6, [.int wi, .int w1, .int w2, .int w3, .int w4]))]) (X := fun _ _ => True) (Xc := (fun _ _ => True)) hP hD hK hS [0, 1, 2, 3, 4, 5] [0, 1, 2] rfl (by decide) rfl zz_St_tt (fun _ _ _ => trivial)) (va_recv hK hP (ci := 7) (q0 := 0) rfl rfl)) rfl rfl hl.1 rfl (lv_room (Nat.le_of_ble_eq_true rfl)) dL_put_6 ⟨by show 0 + 0 ≤ 0; omega, by show 0 + 0 ≤ 0; omega⟩) hP hD hK hS hFc [0, 1, 2, 3, 4, 5] [6] rfl rfl (by decide) (by decide) (fun v w1 ty1 H1 locs hq9 hz9 hk9 hP1 hD1 hK1 hS1 => ?_)
  obtain ⟨tm2_1, rfl, rfl, rfl⟩ := hq9
  clear hS hP hD hK hFc
  have hP : va_P D vwCl [(oo, .inr (8, [.long on, os])), (hh, .inr (7, [.ref tA, .int kn, sp, rx, pb, pg])), (tA, .inl (cB, 4, .inr (.inr (.inr (.inr T0))))), (tb, .inr (5, [.ref wo, .ref ti, .int (nI (pn + 1)), .ref wk, .int vw])), (wo, .inl (cW, 64, .inl (upd g n 99))), (ti, .inl (cT, 100, .inl tm2_1)), (wk, .inr (6, [.int 0, .int w1, .int w2, .int w3, .int w4]))] H1 := hP1
  have hD : va_D A [(oo, .inr (8, [.long on, os])), (hh, .inr (7, [.ref tA, .int kn, sp, rx, pb, pg])), (tA, .inl (cB, 4, .inr (.inr (.inr (.inr T0))))), (tb, .inr (5, [.ref wo, .ref ti, .int (nI (pn + 1)), .ref wk, .int vw])), (wo, .inl (cW, 64, .inl (upd g n 99))), (ti, .inl (cT, 100, .inl tm2_1)), (wk, .inr (6, [.int 0, .int w1, .int w2, .int w3, .int w4]))] := hD1
  have hK : va_K D vwCl [(cB, .object "Hashladder$Table"), (cW, .int), (cT, .int), (cB, .object "Hashladder$Table"), (cW, .int), (cT, .int)] s := hK1
  have hS := hS1
  clear hP1 hD1 hK1 hS1
  obtain ⟨H, rfl⟩ : ∃ z, z = H1 := ⟨_, rfl⟩
  refine W.eq (g2 := F0 mt0 9 ls [.int (-1), .ref oo]) rfl ?_
  obtain ⟨z_2, ez_2⟩ : ∃ y : Int64, (-1 : Int32).toInt64 = y := ⟨_, rfl⟩
  refine lv_i2l (v := z_2) hx hb dL_put_9 ez_2 ?_
  refine va_putN (D := D) (ci := 8) (v := .long z_2) (ty := .long) (C := RX4) (T := TX4) (N := 2) hx hb hts (by decide +kernel) tyX4 tyX4_ok nmX4 hown hK hP hD hS 0 rfl rfl 0 (by decide) (va_Nw.use rfl hX0) (fun _ h9 => h9) rfl (by decide +kernel) rfl rfl (Nat.le_of_ble_eq_true rfl) dL_put_10 (fun H locs hP hD hS => ?_)
  have hP : va_P D vwCl [(oo, .inr (8, [.long z_2, os])), (hh, .inr (7, [.ref tA, .int kn, sp, rx, pb, pg])), (tA, .inl (cB, 4, .inr (.inr (.inr (.inr T0))))), (tb, .inr (5, [.ref wo, .ref ti, .int (nI (pn + 1)), .ref wk, .int vw])), (wo, .inl (cW, 64, .inl (upd g n 99))), (ti, .inl (cT, 100, .inl tm2_1)), (wk, .inr (6, [.int 0, .int w1, .int w2, .int w3, .int w4]))] H := hP
  have hD : va_D A [(oo, .inr (8, [.long z_2, os])), (hh, .inr (7, [.ref tA, .int kn, sp, rx, pb, pg])), (tA, .inl (cB, 4, .inr (.inr (.inr (.inr T0))))), (tb, .inr (5, [.ref wo, .ref ti, .int (nI (pn + 1)), .ref wk, .int vw])), (wo, .inl (cW, 64, .inl (upd g n 99))), (ti, .inl (cT, 100, .inl tm2_1)), (wk, .inr (6, [.int 0, .int w1, .int w2, .int w3, .int w4]))] := hD
  refine lv_goto (tgt := 24) hx hb dL_put_13 (by decide) ?_
  refine lv_iconst (v := 0) hx hb dL_put_24 (by decide) ?_
  have hP9 := hP.sub (ws' := [(hh, .inr (7, [.ref tA, .int kn, sp, rx, pb, pg])), (tA, .inl (cB, 4, .inr (.inr (.inr (.inr T0))))), (tb, .inr (5, [.ref wo, .ref ti, .int (nI (pn + 1)), .ref wk, .int vw])), (wo, .inl (cW, 64, .inl (upd g n 99))), (ti, .inl (cT, 100, .inl tm2_1)), (wk, .inr (6, [.int 0, .int w1, .int w2, .int w3, .int w4])), (oo, .inr (8, [.long z_2, os]))]) [1, 2, 3, 4, 5, 6, 0] rfl
  have hD9 := hD.sub (ws' := [(hh, .inr (7, [.ref tA, .int kn, sp, rx, pb, pg])), (tA, .inl (cB, 4, .inr (.inr (.inr (.inr T0))))), (tb, .inr (5, [.ref wo, .ref ti, .int (nI (pn + 1)), .ref wk, .int vw])), (wo, .inl (cW, 64, .inl (upd g n 99))), (ti, .inl (cT, 100, .inl tm2_1)), (wk, .inr (6, [.int 0, .int w1, .int w2, .int w3, .int w4])), (oo, .inr (8, [.long z_2, os]))]) [1, 2, 3, 4, 5, 6, 0] (by decide) rfl
  have hK9 := hK.sub (tys' := [(cB, .object "Hashladder$Table"), (cW, .int), (cT, .int)]) [0, 1, 2] rfl
  refine W.widen (k := 0) (n := 0) (by show 0 + 0 ≤ 0; omega) (by show 0 + 0 ≤ 0; omega) ?_
  exact W.iret (v := 0) hx hb hr (zz_end hP9 hD9 hK9 hS (⟨_, _, rfl, rfl, rfl⟩)) hS.2.2 dL_put_25
set_option maxHeartbeats 4000000 in
set_option maxRecDepth 100000 in
theorem k_L_width (l : Launch) (D : va_G) (hh : Nat) (tA : Nat) (kn : Int32) (sp : Value) (rx : Value) (pb : Value) (pg : Value) (cB : ClassId) (T0 : Nat → Option Nat) (tb : Nat) (wo : Nat) (ti : Nat) (wk : Nat) (vw : Int32) (cW : ClassId) (g : Nat → Int32) (oo : Nat) (on : Int64) (os : Value) (hT : T0 0 = some tb) (hg1 : ∀ n, n < 10 → g n = -1) (hg2 : ∀ n, 10 ≤ n → n < 64 → g n = 99) : zz_M l yL_width wsL_width ({ frames := 4, cells := 0, slots := 0, locals := 260 }) D [.ref hh, .int 0, .ref oo] [(cB, .object "Hashladder$Table"), (cW, .int)] [(hh, .inr (7, [.ref tA, .int kn, sp, rx, pb, pg])), (tA, .inl (cB, 4, .inr (.inr (.inr (.inr T0))))), (tb, .inr (5, [.ref wo, .ref ti, .int (nI 54), .ref wk, .int vw])), (wo, .inl (cW, 64, .inl g)), (oo, .inr (8, [.long on, os]))] (fun A U => va_Nw (.fieldLinkNest RL 13 "HashladderLaw$Out" "n" "J" "HashladderLaw") U) (fun H0 H1 v w t => ∃ on2 : Int64, v = some (.int 0) ∧ w = [(hh, .inr (7, [.ref tA, .int kn, sp, rx, pb, pg])), (tA, .inl (cB, 4, .inr (.inr (.inr (.inr T0))))), (tb, .inr (5, [.ref wo, .ref ti, .int (nI 54), .ref wk, .int vw])), (wo, .inl (cW, 64, .inl g)), (oo, .inr (8, [.long on2, os]))] ∧ t = [(cB, .object "Hashladder$Table"), (cW, .int)]) := by
  refine zz_M.mkW (cc := cL_width) (maxL := 4) (ret := (some .int)) (by decide) rfl (Nat.le_of_ble_eq_true rfl) ?_
  intro p0 e0 s mt0 bl0 meth0 cd0 ls hC hname hP hK hD hX hl
  obtain ⟨hx, hb, hml, hr, hown, hts, hlocks⟩ := hC
  have hX0 := hX
  generalize hAe : va_A [(hh, .inr (7, [.ref tA, .int kn, sp, rx, pb, pg])), (tA, .inl (cB, 4, .inr (.inr (.inr (.inr T0))))), (tb, .inr (5, [.ref wo, .ref ti, .int (nI 54), .ref wk, .int vw])), (wo, .inl (cW, 64, .inl g)), (oo, .inr (8, [.long on, os]))] s.heap.size = A at *
  have hA : ∀ q : Nat, s.heap.size ≤ q → A q := fun q h => by rw [← hAe]; exact Or.inr h
  obtain ⟨H, hHs⟩ : ∃ z : Heap, z = s.heap := ⟨_, rfl⟩
  rw [← hHs] at hP ⊢
  have hS : va_S A s.heap H [] := by rw [hHs]; exact va_S.rf
  have hl : lv_has ls 4 [(0, .ref hh), (1, .int 0), (2, .ref oo)] := hl
  refine lv_aload_n hx hb dL_width_0 rfl (lv_at hl 2 rfl) ?_
  refine lv_aload_n hx hb dL_width_1 rfl (lv_at hl 0 rfl) ?_
  refine lv_iload_n hx hb dL_width_2 rfl (lv_at hl 1 rfl) ?_
  have hFc := va_free (wc := [(hh, .inr (7, [.ref tA, .int kn, sp, rx, pb, pg])), (tA, .inl (cB, 4, .inr (.inr (.inr (.inr T0))))), (tb, .inr (5, [.ref wo, .ref ti, .int (nI 54), .ref wk, .int vw])), (wo, .inl (cW, 64, .inl g))]) hD hS hA [0, 1, 2, 3] rfl
  refine zz_after (wr := [(oo, .inr (8, [.long on, os]))]) (va_runV (As := [.int 0]) (rest := [.ref oo]) ⟨hx, hb, hml, hown, hts⟩ ((k_X3_width l D hh tA kn sp rx pb pg cB T0 tb wo ti wk vw cW g (hT) (hg1) (hg2)) H.size) (cwV 1 hts gL_width_X3_width rfl rfl rfl (by decide +kernel) ⟨Nat.le_of_ble_eq_true rfl, Nat.le_of_ble_eq_true rfl⟩) (zz_pV (zz_pre (av := [.ref hh, .int 0]) (tyc := [(cB, .object "Hashladder$Table"), (cW, .int)]) (wc := [(hh, .inr (7, [.ref tA, .int kn, sp, rx, pb, pg])), (tA, .inl (cB, 4, .inr (.inr (.inr (.inr T0))))), (tb, .inr (5, [.ref wo, .ref ti, .int (nI 54), .ref wk, .int vw])), (wo, .inl (cW, 64, .inl g))]) (X := fun _ _ => True) (Xc := (fun _ _ => True)) hP hD hK hS [0, 1, 2, 3] [0, 1] rfl (by decide) rfl zz_St_tt (fun _ _ _ => trivial)) (va_recv hK hP (ci := 7) (q0 := 0) rfl rfl)) rfl rfl hl.1 rfl (lv_room (Nat.le_of_ble_eq_true rfl)) dL_width_3 ⟨by show 0 + 0 ≤ 0; omega, by show 0 + 0 ≤ 0; omega⟩) hP hD hK hS hFc [0, 1, 2, 3] [4] rfl rfl (by decide) (by decide) (fun v w1 ty1 H1 locs hq9 hz9 hk9 hP1 hD1 hK1 hS1 => ?_)
  obtain ⟨rfl, rfl, rfl⟩ := hq9
  clear hS hP hD hK hFc
  have hP : va_P D vwCl [(oo, .inr (8, [.long on, os])), (hh, .inr (7, [.ref tA, .int kn, sp, rx, pb, pg])), (tA, .inl (cB, 4, .inr (.inr (.inr (.inr T0))))), (tb, .inr (5, [.ref wo, .ref ti, .int (nI 54), .ref wk, .int vw])), (wo, .inl (cW, 64, .inl g))] H1 := hP1
  have hD : va_D A [(oo, .inr (8, [.long on, os])), (hh, .inr (7, [.ref tA, .int kn, sp, rx, pb, pg])), (tA, .inl (cB, 4, .inr (.inr (.inr (.inr T0))))), (tb, .inr (5, [.ref wo, .ref ti, .int (nI 54), .ref wk, .int vw])), (wo, .inl (cW, 64, .inl g))] := hD1
  have hK : va_K D vwCl [(cB, .object "Hashladder$Table"), (cW, .int), (cB, .object "Hashladder$Table"), (cW, .int)] s := hK1
  have hS := hS1
  clear hP1 hD1 hK1 hS1
  obtain ⟨H, rfl⟩ : ∃ z, z = H1 := ⟨_, rfl⟩
  refine W.eq (g2 := F0 mt0 6 ls [.int (nI 378), .ref oo]) rfl ?_
  obtain ⟨z_1, ez_1⟩ : ∃ y : Int64, (nI 378 : Int32).toInt64 = y := ⟨_, rfl⟩
  refine lv_i2l (v := z_1) hx hb dL_width_6 ez_1 ?_
  refine va_putN (D := D) (ci := 8) (v := .long z_1) (ty := .long) (C := RX4) (T := TX4) (N := 2) hx hb hts (by decide +kernel) tyX4 tyX4_ok nmX4 hown hK hP hD hS 0 rfl rfl 0 (by decide) (va_Nw.use rfl hX0) (fun _ h9 => h9) rfl (by decide +kernel) rfl rfl (Nat.le_of_ble_eq_true rfl) dL_width_7 (fun H locs hP hD hS => ?_)
  have hP : va_P D vwCl [(oo, .inr (8, [.long z_1, os])), (hh, .inr (7, [.ref tA, .int kn, sp, rx, pb, pg])), (tA, .inl (cB, 4, .inr (.inr (.inr (.inr T0))))), (tb, .inr (5, [.ref wo, .ref ti, .int (nI 54), .ref wk, .int vw])), (wo, .inl (cW, 64, .inl g))] H := hP
  have hD : va_D A [(oo, .inr (8, [.long z_1, os])), (hh, .inr (7, [.ref tA, .int kn, sp, rx, pb, pg])), (tA, .inl (cB, 4, .inr (.inr (.inr (.inr T0))))), (tb, .inr (5, [.ref wo, .ref ti, .int (nI 54), .ref wk, .int vw])), (wo, .inl (cW, 64, .inl g))] := hD
  refine lv_goto (tgt := 16) hx hb dL_width_10 (by decide) ?_
  refine lv_iconst (v := 0) hx hb dL_width_16 (by decide) ?_
  have hP9 := hP.sub (ws' := [(hh, .inr (7, [.ref tA, .int kn, sp, rx, pb, pg])), (tA, .inl (cB, 4, .inr (.inr (.inr (.inr T0))))), (tb, .inr (5, [.ref wo, .ref ti, .int (nI 54), .ref wk, .int vw])), (wo, .inl (cW, 64, .inl g)), (oo, .inr (8, [.long z_1, os]))]) [1, 2, 3, 4, 0] rfl
  have hD9 := hD.sub (ws' := [(hh, .inr (7, [.ref tA, .int kn, sp, rx, pb, pg])), (tA, .inl (cB, 4, .inr (.inr (.inr (.inr T0))))), (tb, .inr (5, [.ref wo, .ref ti, .int (nI 54), .ref wk, .int vw])), (wo, .inl (cW, 64, .inl g)), (oo, .inr (8, [.long z_1, os]))]) [1, 2, 3, 4, 0] (by decide) rfl
  have hK9 := hK.sub (tys' := [(cB, .object "Hashladder$Table"), (cW, .int)]) [0, 1] rfl
  refine W.widen (k := 0) (n := 0) (by show 0 + 0 ≤ 0; omega) (by show 0 + 0 ≤ 0; omega) ?_
  exact W.iret (v := 0) hx hb hr (zz_end hP9 hD9 hK9 hS (⟨_, rfl, rfl, rfl⟩)) hS.2.2 dL_width_17
