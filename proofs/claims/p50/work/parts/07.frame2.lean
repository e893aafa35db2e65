/-! THE FRAME SINCE AN EARLIER HEAP; GARBAGE THAT STAYS -/
def zz_T (B : Nat → Prop) (H0 H : Heap) : Prop := H0.size ≤ H.size ∧ ∀ q : Nat, q < H0.size → ¬ B q → H[q]? = H0[q]?
theorem zz_T.rf {B : Nat → Prop} {H0 : Heap} : zz_T B H0 H0 := ⟨Nat.le_refl _, fun _ _ _ => rfl⟩
theorem zz_T.go {B C : Nat → Prop} {H0 H H1 : Heap} (h : zz_T B H0 H) (hz : H.size ≤ H1.size) (hk : ∀ q : Nat, q < H.size → ¬ C q → H1[q]? = H[q]?) (hC : ∀ q, C q → B q) : zz_T B H0 H1 :=
  ⟨Nat.le_trans h.1 hz, fun q h1 h2 => (hk q (Nat.lt_of_lt_of_le h1 h.1) (fun z => h2 (hC q z))).trans (h.2 q h1 h2)⟩
theorem zz_S1 {A C : Nat → Prop} {H0 H H1 : Heap} {locs L : List Loc} (h : va_S A H0 H locs) (hz : H.size ≤ H1.size) (hk : ∀ q : Nat, q < H.size → ¬ C q → H1[q]? = H[q]?) (hC : ∀ q, C q → A q) (hL : ∀ l ∈ L, C l.base) : va_S A H0 H1 (locs ++ L) :=
  ⟨Nat.le_trans h.1 hz, fun q h1 h2 => (hk q (Nat.lt_of_lt_of_le h1 h.1) (fun z => h2 (hC q z))).trans (h.2.1 q h1 h2), fun q hq => by
    rcases List.mem_append.mp hq with h9 | h9
    · exact h.2.2 q h9
    · exact hC _ (hL q h9)⟩
theorem zz_S2 {A : Nat → Prop} {H0 H H1 : Heap} {locs : List Loc} (h : va_S A H0 H locs) (hz : H1.size = H.size + 1) (hk : ∀ q : Nat, q < H.size → H1[q]? = H[q]?) : va_S A H0 H1 locs :=
  ⟨Nat.le_trans h.1 (by omega), fun q h1 h2 => (hk q (Nat.lt_of_lt_of_le h1 h.1)).trans (h.2.1 q h1 h2), h.2.2⟩
theorem zz_free {A0 : Nat → Prop} {ws wc : va_W} {H : Heap} (hD : va_D A0 ws) (hA : ∀ q, H.size ≤ q → A0 q) (isC : List Nat) (hC : isC.map (fun i => ws[i]?) = wc.map some) : ∀ q, va_A wc H.size q → A0 q :=
  va_free (H0 := H) (locs := []) hD va_S.rf hA isC hC
section ZT
variable {p : Program} {l : Launch} {e : Env} {R : Room} {s : State} {m : MethodId} {args : Array Value} {below : List Frame} {meth : Method} {c : Code} {H : Heap} {locs : List Loc} {cells slots : Nat} {Q : State → Prop}
variable {pc : Nat} {ls : Array Slot} {rest st0 : List Value} {A : Nat → Prop} {D : va_G} {ty ty' tyc : List (ClassId × FieldType)} {ws wc wr W' : va_W}
theorem zz_after0 {mc ms : Nat} {post : Heap → Heap → Option Value → va_W → List (ClassId × FieldType) → Prop} (hr : va_Run p l e R s m args below meth c H locs cells slots mc ms (F0 m pc ls st0) rest (zz_Q D (va_A wc H.size) post) (va_A wc H.size)) (hP : va_P D vwCl ws H) (hD : va_D A ws) (hK : va_K D vwCl ty s) (hF : ∀ q, va_A wc H.size q → A q) (isC isR : List Nat) (hC : isC.map (fun i => ws[i]?) = wc.map some) (hR : isR.map (fun i => ws[i]?) = wr.map some) (hn : va_nd isR = true) (hdis : ∀ i ∈ isR, i ∉ isC)
    (kk : ∀ (v : Option Value) (w1 : va_W) (ty1 : List (ClassId × FieldType)) (H1 : Heap) (L : List Loc), post H H1 v w1 ty1 → H.size ≤ H1.size → (∀ q : Nat, q < H.size → ¬ va_A wc H.size q → H1[q]? = H[q]?) → (∀ l ∈ L, va_A wc H.size l.base) → va_P D vwCl (wr ++ w1) H1 → (∀ A0 : Nat → Prop, va_D A0 ws → (∀ q, va_A wc H.size q → A0 q) → va_D A0 (wr ++ w1)) → va_K D vwCl (ty ++ ty1) s →
      W p l e R s m args below meth c H1 (locs ++ L) (cells + mc) (slots + ms) Q (F0 m (pc + 3) ls (v.toList ++ rest))) : W p l e R s m args below meth c H locs cells slots Q (F0 m pc ls st0) := by
  intro T hT X
  obtain ⟨v, st₀, t, T', L, h0, X', hL, e1, e2, ⟨⟨v', w1, ty1, hv, hp, hP1, hK1, hD1⟩, hz, hk⟩, st⟩ := hr T hT X
  cases hv
  rw [h0] at hz hk hp
  rw [← e1] at hp hz hk hP1
  have hvm : s.vm.Alike t.vm := by rw [← e2]; exact X'.warmed.alike
  have hj := fun (A0 : Nat → Prop) (hD0 : va_D A0 ws) (hF0 : ∀ q, va_A wc H.size q → A0 q) => va_join hP hD0 isC isR hC hR hn hdis hk hF0 hP1 hD1
  obtain ⟨t2, a1, b1⟩ := kk v w1 ty1 T'.heap L hp hz hk hL (hj A hD hF).1 (fun A0 h1 h2 => (hj A0 h1 h2).2) (hK.app (va_K.moved hvm.symm hK1)) T' rfl X'
  exact ⟨t2, st t2 a1, b1⟩
theorem zz_new0 {cc : ByteArray} (hexec : p.tables.exec = Jvm.exec) (hb : c.code = cc) {own C : String} {T : u_T} {N ci index : Nat} {Ts : List Cond} (hts : ∀ w ∈ Ts, w.before args s = true) (hin : ∀ w ∈ u_ws C T N, w ∈ Ts) (tyf : Nat → FieldType) (hty : ∀ k, k < N → parseFieldDescriptor (T k).2.2.1 = some (tyf k)) (hown : s.vm.findClass own = some m.cls) (hcl : (Cond.classLink own index C).before args s = true) (hinst : (Cond.instantiable C N).before args s = true) (hini : (Cond.initialized C).before args s = true)
    (hK : va_K D vwCl ty s) (hP : va_P D vwCl ws H) (hc : vwCl[ci]? = some (C, T, N)) {fs : List Value} (hfs : ∀ j, j < N → defaultValue (tyf j) = vp_V fs j) (hcells : cells + 1 ≤ R.cells) (hslots : slots + N ≤ R.slots) (hdg : decode cc pc = .ok (.new index, 3))
    (kk : ∀ (q : Nat) (H1 : Heap), q = H.size → H1.size = H.size + 1 → (∀ x : Nat, x < H.size → H1[x]? = H[x]?) → va_P D vwCl (ws ++ [(q, .inr (ci, fs))]) H1 → (∀ A0 : Nat → Prop, va_D A0 ws → A0 q → va_D A0 (ws ++ [(q, .inr (ci, fs))])) →
      W p l e R s m args below meth c H1 locs (cells + 1) (slots + N) Q (F0 m (pc + 3) ls (.ref q :: rest))) : W p l e R s m args below meth c H locs cells slots Q (F0 m pc ls rest) := by
  have hKn := hK.1 ci _ hc
  refine W.newcK hexec hb hown hcl hinst hini rfl hdg hcells hslots hKn.2.1 rfl fun H1 kC hkC e1 z1 o1 => ?_
  have hk : ∀ (k : Nat) (x : Nat × va_E), ws[k]? = some x → H1[x.1]? = H[x.1]? := fun k x hx => o1 x.1 ((hP k x hx).lt)
  refine kk H.size H1 rfl z1 o1 ((hP.kept hk).app (fun k x hx => ?_)) (fun A0 hD hA => hD.push hP rfl hA)
  have hz : k < 1 := (List.getElem?_eq_some_iff.mp hx).1
  rw [show k = 0 by omega] at hx
  cases hx
  exact ⟨_, hc, (u_born tyf hts hin hKn hkC e1 hty).to hfs⟩
/-- a text of the method's own cells, seen from a callee that doesn't have it -/
theorem zz_ofW {Ts : List Cond} (hts : ∀ w ∈ Ts, w.before args s = true) (hin : ∀ w ∈ u_ws RJ0 TJ0 4, w ∈ Ts) (hP : va_P D vwCl ws H) (hD : va_D A ws) (hK : va_K D vwCl ty s) (isC : List Nat) (hC : isC.map (fun i => ws[i]?) = wc.map some) (i j t0 : Nat) (hni : i ∉ isC) (hnj : j ∉ isC) {q b n : Nat} {f : Nat → Int32} {cB : ClassId} {h1 h2 : Value} (hi : ws[i]? = some (q, .inr (0, [.ref b, .int 0, h1, h2]))) (hj : ws[j]? = some (b, .inl (cB, n, .inl f))) (ht : ty[t0]? = some (cB, .byte)) (hn : n ≤ 65536) (hf : sb_Fit f) : ∀ U : State, U.heap = H → s.WarmedH U.vm → zz_S q b n f (va_A wc H.size) U := by
  intro U hU hW
  have apart : ∀ (k : Nat) (x : Nat × va_E), ws[k]? = some x → k ∉ isC → ¬ va_A wc H.size x.1 := by
    intro k x hk hkn h
    rcases h with ⟨k2, e, h⟩ | h
    · have h9 : (isC.map (fun i => ws[i]?))[k2]? = some (some (x.1, e)) := by rw [hC, List.getElem?_map, h]; rfl
      rw [List.getElem?_map] at h9
      cases hz : isC[k2]? with
      | none => rw [hz] at h9; cases h9
      | some i9 =>
        rw [hz] at h9
        have hw : ws[i9]? = some (x.1, e) := Option.some.inj h9
        have := hD.1 k i9 x (x.1, e) hk hw rfl
        subst this
        exact hkn (List.mem_of_getElem? hz)
    · have := (hP k x hk).lt
      omega
  obtain ⟨r, hr, cell, c1, c2, c3, c4⟩ := hP i _ hi
  cases hr
  have hq : q < H.size := (hP i _ hi).lt
  obtain ⟨hSl, hfc, kC, hkC, hkd⟩ := hK.1 0 _ rfl
  have hal := hW.alike
  have fld : ∀ k, k < 4 → ∀ v, vp_V [.ref b, .int 0, h1, h2] k = v → va_OF (TJ0 k).1 (TJ0 k).2.1 (TJ0 k).2.2.1 v q (va_A wc H.size) s H := by
    intro k hk v hv
    obtain ⟨cf, kf, fi, fd, e1, e2⟩ := hSl k hk
    have hst := (u_facts hfc hkC (u_lays hts hin hk) e1).1
    refine ⟨cf, kf, fi, fd, cell, e1, hst, c1, (by rw [c3]; intro z; cases z), ?_, apart i _ hi hni⟩
    rw [e2, c4 k hk, hv]
  obtain ⟨hAr, -⟩ := hK.2 t0 _ ht
  have hT : va_T .byte b n (fun j => .int (f j)) (va_A wc H.size) s H := by
    refine ⟨vp_cell cB (n, .inl f), hP j _ hj, hAr n (fun j => .int (f j)), (fun z => by cases z), ?_, ?_, ?_, apart j _ hj hnj⟩
    · show n ≤ (arrV _ _ _).slots.size; rw [arrV_size]; exact Nat.le_refl _
    · show (arrV _ _ _).slots.size.toInt32 = _; rw [arrV_size]
    · intro k hk; show (arrV _ _ _).slots[k]? = _; rw [arrV_read _ _ hk]
  refine ⟨?_, ?_, ?_, ?_, hn, hf⟩
  · have : va_O "java/lang/String" q (va_A wc H.size) s H := ⟨cell, c1, by rw [c3]; rfl, by rw [c2]; exact hfc, apart i _ hi hni⟩
    rw [hU]; exact va_O.moved hal this
  · rw [hU]; exact va_OF.moved hal (fld 1 (by decide) (.int 0) rfl)
  · rw [hU]; exact va_OF.moved hal (fld 0 (by decide) (.ref b) rfl)
  · rw [hU]; exact va_T.moved hal hT
/-- a reference out of an array of arrays -/
theorem zz_aldA {cc : ByteArray} {a : Nat} (hexec : p.tables.exec = Jvm.exec) (hb : c.code = cc) (hK : va_K D vwCl ty s) (hP : va_P D vwCl ws H) (q0 t0 : Nat) {cA : ClassId} {et : FieldType} {n : Nat} {f : Nat → Option Nat} (ha : ws[q0]? = some (a, .inl (cA, n, .inr (.inr (.inr (.inr f)))))) (ht : ty[t0]? = some (cA, et)) (het : et.isReference = true) {i : Int32} (hin : vp_in i n) {v : Value} (hv : va_rf (f i.toNatClampNeg) = v) (hdg : decode cc pc = .ok (.aaload, 1))
    (kk : W p l e R s m args below meth c H locs cells slots Q (F0 m (pc + 1) ls (v :: rest))) : W p l e R s m args below meth c H locs cells slots Q (F0 m pc ls (.int i :: .ref a :: rest)) := by
  subst hv
  have hlt : i.toNatClampNeg < n := Nat.not_le.mp fun q => hin (Or.inr q)
  exact W.aald (v := va_rf (f i.toNatClampNeg)) (ty := et) hexec hb (hP q0 _ ha) ((hK.2 t0 _ ht).1 n (fun j => va_rf (f j))) het (fun q => by cases q) (by show ¬ (i < 0 ∨ (arrV _ _ _).slots.size ≤ _); rw [arrV_size]; exact hin) (by show (arrV _ _ _).slots[_]? = _; rw [arrV_read _ _ hlt]) rfl rfl hdg kk
end ZT
/-- how many slots the cell a has -/
def zz_sz (H : Heap) (a : Nat) : Nat := match H[a]? with
  | some c => c.slots.size
  | none => 0
/-- GARBAGE: the cells L, apart, from lo on, with K slots at least -/
def zz_L (L : List Nat) (lo : Nat) (H : Heap) (K : Nat) : Prop := L.Nodup ∧ (∀ a ∈ L, lo ≤ a ∧ a < H.size) ∧ K ≤ (L.map (zz_sz H)).sum
/-- none of a world's -/
def zz_d (L : List Nat) (ws : va_W) : Prop := ∀ a ∈ L, ∀ (k : Nat) (q : Nat × va_E), ws[k]? = some q → q.1 ≠ a
theorem zz_L0 (lo : Nat) (H : Heap) : zz_L [] lo H 0 := ⟨List.nodup_nil, fun a h => (by cases h), Nat.le_refl _⟩
theorem zz_d0 (ws : va_W) : zz_d [] ws := fun a h => (by cases h)
/-- it stays -/
theorem zz_L.kept {L : List Nat} {lo K : Nat} {Hk H : Heap} {wk ws : va_W} (h : zz_L L lo Hk K) (hd : zz_d L wk) (hT : zz_T (va_A wk Hk.size) Hk H) (hD : va_D (va_A wk Hk.size) ws) : zz_L L lo H K ∧ zz_d L ws := by
  have hn : ∀ a ∈ L, ¬ va_A wk Hk.size a := by
    intro a ha z
    rcases z with ⟨k, e, z⟩ | z
    · exact hd a ha k _ z rfl
    · have := (h.2.1 a ha).2
      omega
  refine ⟨⟨h.1, fun a ha => ⟨(h.2.1 a ha).1, Nat.lt_of_lt_of_le (h.2.1 a ha).2 hT.1⟩, ?_⟩, fun a ha k q hq z => hn a ha (by rw [← z]; exact hD.2 k q hq)⟩
  have he : L.map (zz_sz H) = L.map (zz_sz Hk) := List.map_congr_left (fun a ha => by
    unfold zz_sz
    rw [hT.2 a (h.2.1 a ha).2 (hn a ha)])
  rw [he]
  exact h.2.2
/-- one cell of a world becomes garbage -/
theorem zz_L.add {L : List Nat} {lo K : Nat} {H : Heap} {D : va_G} {ws ws' : va_W} (h : zz_L L lo H K) (hd : zz_d L ws) {A : Nat → Prop} (hD : va_D A ws) (hP : va_P D vwCl ws H) (i : Nat) {a : Nat} {cA : ClassId} {n : Nat} {f : Nat → Int32} (hi : ws[i]? = some (a, .inl (cA, n, .inl f))) (hlo : lo ≤ a) (isR : List Nat) (hR : isR.map (fun i => ws[i]?) = ws'.map some) (hni : i ∉ isR) : zz_L (a :: L) lo H (K + n) ∧ zz_d (a :: L) ws' := by
  have hc : H[a]? = some (vp_cell cA (n, .inl f)) := hP i _ hi
  have hs : zz_sz H a = n := by unfold zz_sz; rw [hc]; show (arrV _ _ _).slots.size = n; rw [arrV_size]
  refine ⟨⟨List.nodup_cons.mpr ⟨fun z => hd a z i _ hi rfl, h.1⟩, fun x hx => ?_, ?_⟩, fun x hx k q hq z => ?_⟩
  · rcases List.mem_cons.mp hx with rfl | hx
    · exact ⟨hlo, (hP i _ hi).lt⟩
    · exact h.2.1 x hx
  · rw [List.map_cons, List.sum_cons, hs]
    have := h.2.2
    omega
  · have h1 : (isR.map (fun i => ws[i]?))[k]? = some (some q) := by rw [hR, List.getElem?_map, hq]; rfl
    rw [List.getElem?_map] at h1
    cases hz : isR[k]? with
    | none => rw [hz] at h1; cases h1
    | some j =>
      rw [hz] at h1
      have hj : ws[j]? = some q := Option.some.inj h1
      rcases List.mem_cons.mp hx with rfl | hx
      · have := hD.1 i j _ q hi hj z.symm
        subst this
        exact hni (List.mem_of_getElem? hz)
      · exact hd x hx j q hj z
theorem zz_d.sub {L : List Nat} {ws ws' : va_W} (hd : zz_d L ws) (isR : List Nat) (hR : isR.map (fun i => ws[i]?) = ws'.map some) : zz_d L ws' := by
  intro x hx k q hq z
  have h1 : (isR.map (fun i => ws[i]?))[k]? = some (some q) := by rw [hR, List.getElem?_map, hq]; rfl
  rw [List.getElem?_map] at h1
  cases hz : isR[k]? with
  | none => rw [hz] at h1; cases h1
  | some j => rw [hz] at h1; exact hd x hx j q (Option.some.inj h1) z
/-- a world's cell that isn't one of those at the start lies behind them -/
theorem zz_lo {A : Nat → Prop} {w0 ws : va_W} {lo : Nat} (hA : va_A w0 lo = A) (hD : va_D A ws) (is : List Nat) (h0 : is.map (fun i => (ws[i]?).map (·.1)) = w0.map (fun q => some q.1)) (i : Nat) (hni : i ∉ is) {q : Nat × va_E} (hi : ws[i]? = some q) : lo ≤ q.1 := by
  have h := hD.2 i q hi
  rw [← hA] at h
  rcases h with ⟨k, e, h⟩ | h
  · have h1 : (is.map (fun i => (ws[i]?).map (·.1)))[k]? = some (some q.1) := by rw [h0, List.getElem?_map, h]; rfl
    rw [List.getElem?_map] at h1
    cases hz : is[k]? with
    | none => rw [hz] at h1; cases h1
    | some j =>
      rw [hz] at h1
      have h2 : (ws[j]?).map (·.1) = some q.1 := Option.some.inj h1
      cases hj : ws[j]? with
      | none => rw [hj] at h2; cases h2
      | some x =>
        rw [hj] at h2
        have h3 : x.1 = q.1 := Option.some.inj h2
        have := hD.1 i j q x hi hj h3.symm
        subst this
        exact absurd (List.mem_of_getElem? hz) hni
  · exact h
/-- the whole heap's new slots are no fewer -/
theorem zz_L.sum {L : List Nat} {lo K : Nat} {H : Heap} (h : zz_L L lo H K) : K ≤ ((H.toList.drop lo).map (·.slots.size)).sum := by
  have key : ∀ (l : List Cell) (L : List Nat), L.Nodup → (∀ a ∈ L, a < l.length) → (L.map (fun a => match l[a]? with | some c => c.slots.size | none => 0)).sum ≤ (l.map (·.slots.size)).sum := by
    intro l
    induction l with
    | nil =>
      intro L _ hl
      cases L with
      | nil => exact Nat.le_refl _
      | cons a L => exact absurd (hl a List.mem_cons_self) (Nat.not_lt_zero _)
    | cons c l ih =>
      intro L hn hl
      have hs : ∀ M : List Nat, M.Nodup → (∀ a ∈ M, a < l.length + 1) → (M.map (fun a => match (c :: l)[a]? with | some c => c.slots.size | none => 0)).sum ≤ (if 0 ∈ M then c.slots.size else 0) + (((M.filter (· ≠ 0)).map (· - 1)).map (fun a => match l[a]? with | some c => c.slots.size | none => 0)).sum := by
        intro M
        induction M with
        | nil => intro _ _; simp
        | cons a M ihM =>
          intro hM hMl
          have h1 := ihM (List.nodup_cons.mp hM).2 (fun x hx => hMl x (List.mem_cons_of_mem _ hx))
          cases a with
          | zero =>
            have h0 : 0 ∉ M := (List.nodup_cons.mp hM).1
            rw [if_neg h0] at h1
            simp only [List.map_cons, List.sum_cons, List.getElem?_cons_zero, List.mem_cons, true_or, if_true]
            have hf : ((0 :: M).filter (· ≠ 0)) = M.filter (· ≠ 0) := by simp
            rw [hf]
            omega
          | succ a =>
            have hf : ((a + 1) :: M).filter (· ≠ 0) = (a + 1) :: M.filter (· ≠ 0) := by simp
            rw [hf]
            simp only [List.map_cons, List.sum_cons, List.getElem?_cons_succ, Nat.add_sub_cancel]
            have h00 : (0 ∈ (a + 1) :: M) ↔ 0 ∈ M := by simp
            by_cases hm : 0 ∈ M
            · rw [if_pos (h00.mpr hm)]; rw [if_pos hm] at h1; omega
            · rw [if_neg (fun z => hm (h00.mp z))]; rw [if_neg hm] at h1; omega
      have h2 := hs L hn (by simpa using hl)
      have h3 := ih ((L.filter (· ≠ 0)).map (· - 1)) ?_ ?_
      · have h4 : (if 0 ∈ L then c.slots.size else 0) ≤ c.slots.size := by split <;> omega
        simp only [List.map_cons, List.sum_cons]
        exact Nat.le_trans h2 (Nat.add_le_add h4 h3)
      · have hf := hn.filter (fun x => decide (x ≠ 0))
        show List.Pairwise (· ≠ ·) _
        rw [List.pairwise_map]
        refine List.Pairwise.imp_of_mem ?_ hf
        intro a b ha hb hab
        have ha0 : a ≠ 0 := by simpa using (List.mem_filter.mp ha).2
        have hb0 : b ≠ 0 := by simpa using (List.mem_filter.mp hb).2
        omega
      · intro a ha
        obtain ⟨b, hb, rfl⟩ := List.mem_map.mp ha
        have hb0 : b ≠ 0 := by simpa using (List.mem_filter.mp hb).2
        have := hl b (List.mem_filter.mp hb).1
        simp only [List.length_cons] at this
        omega
  refine Nat.le_trans h.2.2 ?_
  have h1 := key (H.toList.drop lo) (L.map (· - lo)) ?_ ?_
  · refine Nat.le_trans (Nat.le_of_eq ?_) h1
    rw [List.map_map]
    congr 1
    refine List.map_congr_left (fun a ha => ?_)
    have h2 := (h.2.1 a ha).1
    unfold zz_sz
    simp only [Function.comp]
    rw [List.getElem?_drop, show lo + (a - lo) = a by omega, Array.getElem?_toList]
  · show List.Pairwise (· ≠ ·) _
    rw [List.pairwise_map]
    refine List.Pairwise.imp_of_mem ?_ h.1
    intro a b ha hb hab
    have h2 := (h.2.1 a ha).1
    have h3 := (h.2.1 b hb).1
    omega
  · intro a ha
    obtain ⟨b, hb, rfl⟩ := List.mem_map.mp ha
    have h2 := h.2.1 b hb
    rw [List.length_drop, Array.length_toList]
    omega
theorem zz_L.le {L : List Nat} {lo K K' : Nat} {H : Heap} (h : zz_L L lo H K) (hk : K' ≤ K) : zz_L L lo H K' := ⟨h.1, h.2.1, Nat.le_trans hk h.2.2⟩
theorem zz_L.low {L : List Nat} {lo lo' K : Nat} {H : Heap} (h : zz_L L lo H K) (hk : lo' ≤ lo) : zz_L L lo' H K := ⟨h.1, fun a ha => ⟨Nat.le_trans hk (h.2.1 a ha).1, (h.2.1 a ha).2⟩, h.2.2⟩

/-- four rows of an array of arrays -/
def zz_r4 (a b c d : Nat) : Nat → Option Nat := fun i => if i < 4 then some (if i = 0 then a else if i = 1 then b else if i = 2 then c else d) else none
section ZM
variable {p : Program} {l : Launch} {e : Env} {R : Room} {s : State} {m : MethodId} {args : Array Value} {below : List Frame} {meth : Method} {c : Code} {H H0 : Heap} {locs : List Loc} {cells slots : Nat} {Q : State → Prop}
variable {pc : Nat} {ls : Array Slot} {rest st0 : List Value} {A : Nat → Prop} {D : va_G} {ty : List (ClassId × FieldType)} {ws : va_W}
theorem zz_mna4 {cc : ByteArray} (hexec : p.tables.exec = Jvm.exec) (hb : c.code = cc) {own : String} {index : Nat} (hown : s.vm.findClass own = some m.cls) (hclink : (Cond.classLink own index "[[I").before args s = true) (hover : va_AOA .int s) (harr : (Cond.arrayClass .int).before args s = true)
    (hK : va_K D vwCl ty s) (hP : va_P D vwCl ws H) (hD : va_D A ws) (hS : va_S A H0 H locs) (hA : ∀ q, H0.size ≤ q → A q) (hcells : cells + 5 ≤ R.cells) (hslots : slots + 260 ≤ R.slots) (hdg : decode cc pc = .ok (.multianewarray index 2, 4))
    (kk : ∀ (q r0 r1 r2 r3 : Nat) (cA cy : ClassId) (H1 : Heap), va_K D vwCl (ty ++ [(cA, .array .int), (cy, .int)]) s →
      va_P D vwCl (ws ++ [(q, .inl (cA, 4, .inr (.inr (.inr (.inr (zz_r4 r0 r1 r2 r3)))))), (r0, .inl (cy, 64, .inl (fun _ => 0))), (r1, .inl (cy, 64, .inl (fun _ => 0))), (r2, .inl (cy, 64, .inl (fun _ => 0))), (r3, .inl (cy, 64, .inl (fun _ => 0)))]) H1 →
      va_D A (ws ++ [(q, .inl (cA, 4, .inr (.inr (.inr (.inr (zz_r4 r0 r1 r2 r3)))))), (r0, .inl (cy, 64, .inl (fun _ => 0))), (r1, .inl (cy, 64, .inl (fun _ => 0))), (r2, .inl (cy, 64, .inl (fun _ => 0))), (r3, .inl (cy, 64, .inl (fun _ => 0)))]) → va_S A H0 H1 locs →
      W p l e R s m args below meth c H1 locs (cells + 5) (slots + 260) Q (F0 m (pc + 4) ls (.ref q :: rest))) : W p l e R s m args below meth c H locs cells slots Q (F0 m pc ls (.int 64 :: .int 4 :: rest)) := by
  obtain ⟨cy, ky, comp, y1, y2, y3⟩ := Cond.arrayClass_spec harr
  have e0 : ws ++ va_pl [] (fun _ => (.inl (cy, 64, .inl (fun _ => 0)) : va_E)) = ws := List.append_nil ws
  refine va_mna (X := ws) (L := []) (f := fun _ => .inl (cy, 64, .inl (fun _ => 0))) (cy := cy) (N' := 4) (K' := 64) (z := (64, .inl (fun _ => 0))) hexec hb hown hclink hover harr y1 hK (by rw [e0]; exact hP) (by rw [e0]; exact hD) hS hA (by decide) (by decide) (by decide) (by decide) (by decide) (by decide) (by decide) rfl rfl hcells hslots (fun c9 => ?_) hdg ?_
  · show ({ cls := c9, slots := Array.replicate 64 (.int 0), vm := .none } : Cell) = _
    rw [arrV_new]
    rfl
  · intro q r cA H1 _ _ hK1 hP1 hD1 hS1
    have er : (fun i => if i < 4 then some (r i) else none) = zz_r4 (r 0) (r 1) (r 2) (r 3) := by
      funext i
      unfold zz_r4
      by_cases h : i < 4
      · rw [if_pos h, if_pos h]
        rcases (show i = 0 ∨ i = 1 ∨ i = 2 ∨ i = 3 by omega) with rfl | rfl | rfl | rfl <;> rfl
      · rw [if_neg h, if_neg h]
    rw [er, ← vr_rows (fun a _ h => by cases h)] at hP1 hD1
    have hw : ws ++ [(q, .inl (cA, 4, .inr (.inr (.inr (.inr (zz_r4 (r 0) (r 1) (r 2) (r 3)))))))] ++ (va_pl [] (fun _ => (.inl (cy, 64, .inl (fun _ => 0)) : va_E)) ++ ((List.range 4).map r).map (fun a => (a, (.inl (cy, 64, .inl (fun _ => 0)) : va_E)))) = ws ++ [(q, .inl (cA, 4, .inr (.inr (.inr (.inr (zz_r4 (r 0) (r 1) (r 2) (r 3))))))), (r 0, .inl (cy, 64, .inl (fun _ => 0))), (r 1, .inl (cy, 64, .inl (fun _ => 0))), (r 2, .inl (cy, 64, .inl (fun _ => 0))), (r 3, .inl (cy, 64, .inl (fun _ => 0)))] := by
      rw [List.append_assoc]; rfl
    rw [hw] at hP1 hD1
    have hK2 : va_K D vwCl (ty ++ [(cA, .array .int), (cy, .int)]) s := by
      have h9 : va_K D vwCl [(cy, .int)] s := ⟨hK.1, fun k x hx => by
        have h0 : k < 1 := (List.getElem?_eq_some_iff.mp hx).1
        rw [show k = 0 by omega] at hx
        cases hx
        exact ⟨fun n z => ⟨fun k h => (by cases h), ky, y2, comp, y3⟩, y1⟩⟩
      have h8 := hK1.app h9
      rw [List.append_assoc] at h8
      exact h8
    exact kk q (r 0) (r 1) (r 2) (r 3) cA cy H1 hK2 hP1 hD1 hS1
end ZM
