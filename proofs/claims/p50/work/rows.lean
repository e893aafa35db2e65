section
/-! the tables' word on arrays of arrays, as va_AO is for objects' (NAMES names it, the kit hasn't it) -/
def va_AOA (ty : FieldType) (U : State) : Prop := (Cond.arrayOver (.array ty)).before #[] U = true
theorem va_AOA.of {ty : FieldType} {A : Array Value} {U : State} (h : (Cond.arrayOver (.array ty)).before A U = true) : va_AOA ty U := h
theorem va_AOA.use {ty : FieldType} {A : Array Value} {U : State} (h : va_AOA ty U) : (Cond.arrayOver (.array ty)).before A U = true := h
/-! ===== BEGIN words of one list among another's, by their places ===== -/
theorem goodIn_r {big : List Cond} (ws : List Cond) (ps : List Nat) (hp : ws = ps.filterMap (fun i => big[i]?)) (h : ws.all goodWord = true) : GoodIn big ws := by
  intro w hw
  have h1 := List.all_eq_true.mp h w hw
  rw [hp] at hw
  obtain ⟨i, -, hi⟩ := List.mem_filterMap.mp hw
  have hm : w ∈ big := by first | exact List.mem_of_getElem? hi | exact List.getElem?_mem hi
  exact ⟨hm, good_of_word h1⟩
theorem goodIn_app {big a b : List Cond} (ha : GoodIn big a) (hb : GoodIn big b) : GoodIn big (a ++ b) := fun w h => (List.mem_append.mp h).elim (ha w) (hb w)
theorem goodIn_ca {big a b : List Cond} {c : Cond} (ha : GoodIn big (c :: a)) (hb : GoodIn big b) : GoodIn big (c :: (a ++ b)) := fun w h => (List.mem_cons.mp h).elim (fun e => ha w (List.mem_cons.mpr (Or.inl e))) (fun h => (List.mem_append.mp h).elim (fun h => ha w (List.mem_cons.mpr (Or.inr h))) (hb w))
theorem goodIn_sub {big ws : List Cond} (hm : ∀ w ∈ ws, w ∈ big) (h : ws.all goodWord = true) : GoodIn big ws := fun w hw => ⟨hm w hw, good_of_word (List.all_eq_true.mp h w hw)⟩
/-! ===== END ===== -/

/-! ===== BEGIN new T[n][m]: the outer array a place, the inner ones among the pooled ===== -/
/-- f, but v at every address of l -/
def vr_up {α : Type} (f : Nat → α) (l : List Nat) (v : α) : Nat → α := fun a => if a ∈ l then v else f a
theorem vr_up_in {α : Type} {f : Nat → α} {l : List Nat} {v : α} {a : Nat} (h : a ∈ l) : vr_up f l v a = v := if_pos h
theorem vr_up_ne {α : Type} {f : Nat → α} {l : List Nat} {v : α} {a : Nat} (h : a ∉ l) : vr_up f l v a = f a := if_neg h
theorem vr_rows {L l : List Nat} {f : Nat → va_E} {e : va_E} (h : ∀ a, a ∈ l → a ∉ L) : va_pl L f ++ l.map (fun a => (a, e)) = va_pl (L ++ l) (vr_up f l e) := by
  unfold va_pl
  rw [List.map_append]
  congr 1
  · apply List.map_congr_left
    intro a ha
    rw [vr_up_ne (fun q => h a q ha)]
  · apply List.map_congr_left
    intro a ha
    rw [vr_up_in ha]
theorem vr_lay {X rows : va_W} {x : Nat × va_E} {pl : va_W} {D : va_G} {cl : List vw_C} {H : Heap} (hP : va_P D cl (((X ++ pl) ++ [x]) ++ rows) H) : va_P D cl ((X ++ [x]) ++ (pl ++ rows)) H := by
  rw [List.append_assoc (X ++ pl)] at hP
  have h := va_P.swap hP
  rw [← List.append_assoc X] at h
  have h2 := va_P.swap h
  rw [List.append_assoc (X ++ [x])] at h2
  exact h2
theorem vr_layD {X rows : va_W} {x : Nat × va_E} {pl : va_W} {A : Nat → Prop} (hD : va_D A (((X ++ pl) ++ [x]) ++ rows)) : va_D A ((X ++ [x]) ++ (pl ++ rows)) := by
  rw [List.append_assoc (X ++ pl)] at hD
  have h := va_D.swap hD
  rw [← List.append_assoc X] at h
  have h2 := va_D.swap h
  rw [List.append_assoc (X ++ [x])] at h2
  exact h2
theorem vr_outer (c : ClassId) (N h0 : Nat) : ∀ i : Nat, Jvm.Free.Multi.outerC c N h0 i = arrV c N (fun j => va_rf (if j < i then some (h0 + 1 + j) else none))
  | 0 => by
    show ({ cls := c, slots := Array.replicate N .null, vm := .none } : Cell) = _
    rw [arrV_new]
    refine congrArg (arrV c N) (funext fun j => ?_)
    simp [va_rf]
  | i + 1 => by
    show (Jvm.Free.Multi.outerC c N h0 i).setSlot i (.ref (h0 + 1 + i)) = _
    rw [vr_outer c N h0 i, arrV_store]
    refine congrArg (arrV c N) (funext fun j => ?_)
    by_cases e : j = i
    · subst e
      simp [updV, va_rf]
    · by_cases h : j < i
      · simp [updV, e, h, Nat.lt_succ_of_lt h]
      · simp [updV, e, h, show ¬ j < i + 1 by omega]
section VGM
variable {p : Program} {l : Launch} {e : Env} {R : Room} {s : State} {m : MethodId} {args : Array Value} {below : List Frame} {meth : Method} {c : Code} {H : Heap} {locs : List Loc} {cells slots : Nat} {Q : State → Prop}
variable {cc : ByteArray} {pc : Nat} {ls : Array Slot} {rest : List Value} {D : va_G} {cl : List vw_C} {A : Nat → Prop} {a : Nat} {tys : List (ClassId × FieldType)} {ws : va_W} {H0 : Heap}
theorem va_mna {X : va_W} {L : List Nat} {f : Nat → va_E} {cc : ByteArray} (hexec : p.tables.exec = Jvm.exec) (hb : c.code = cc) {own : String} {index : Nat} {ty : FieldType} {cy : ClassId} (hown : s.vm.findClass own = some m.cls) (hclink : (Cond.classLink own index ("[" ++ (FieldType.array ty).toString)).before args s = true) (hover : va_AOA ty s) (harr : (Cond.arrayClass ty).before args s = true) (hcy : s.vm.findClass (FieldType.array ty).toString = some cy)
    (hK : va_K D cl tys s) (hP : va_P D cl (X ++ va_pl L f) H) (hD : va_D A (X ++ va_pl L f)) (hS : va_S A H0 H locs) (hA : ∀ q, H0.size ≤ q → A q) {n k : Int32} {N' K' : Nat} {z : vp_A} (hn : ¬ n < 0) (hk : ¬ k < 0) (hN : n.toNatClampNeg = N') (hM : k.toNatClampNeg = K')
    (hb1 : N' * 4 ≤ 536870912) (hb2 : K' * componentBytes ty ≤ 536870912) (hb3 : K' ≤ 536870912) (hdf : fits ty (defaultValue ty) = true) (hdd : (defaultValue ty).isDefault = true) (hcells : cells + (1 + N') ≤ R.cells) (hslots : slots + (N' + N' * K') ≤ R.slots) (hz : ∀ c : ClassId, Jvm.Free.Multi.innerC c K' (defaultValue ty) = vp_cell c z) (hdg : decode cc pc = .ok (.multianewarray index 2, 4))
    (kk : ∀ (q : Nat) (r : Nat → Nat) (cA : ClassId) (H1 : Heap), (∀ i j : Nat, i < N' → j < N' → r i = r j → i = j) → (∀ i : Nat, i < N' → r i ∉ L) → va_K D cl (tys ++ [(cA, .array ty)]) s →
      va_P D cl ((X ++ [(q, .inl (cA, N', .inr (.inr (.inr (.inr (fun i => if i < N' then some (r i) else none))))))]) ++ va_pl (L ++ (List.range N').map r) (vr_up f ((List.range N').map r) (.inl (cy, z)))) H1 → va_D A ((X ++ [(q, .inl (cA, N', .inr (.inr (.inr (.inr (fun i => if i < N' then some (r i) else none))))))]) ++ va_pl (L ++ (List.range N').map r) (vr_up f ((List.range N').map r) (.inl (cy, z)))) → va_S A H0 H1 locs →
      W p l e R s m args below meth c H1 locs (cells + 1 + N') (slots + N' + N' * K') Q (F0 m (pc + 4) ls (.ref q :: rest))) : W p l e R s m args below meth c H locs cells slots Q (F0 m pc ls (.int k :: .int n :: rest)) := by
  subst hN
  subst hM
  intro T hT Xs
  obtain ⟨vm₁, cA, comp, -, fA, fC, hO, -, X', step⟩ := Xs.multianewarray2F hexec hown hclink (va_AOA.use hover) harr (g := F0 m pc ls (.int k :: .int n :: rest)) rfl (by rw [hb]; exact hdg) rfl hn hk hb1 hb2 hb3 hdf hdd hcells hslots
  have ec : some cy = some comp := hcy.symm.trans fC
  cases ec
  generalize hF : Jvm.Free.Multi.fill (T.setVm vm₁) cA cy n.toNatClampNeg k.toNatClampNeg (defaultValue ty) n.toNatClampNeg = F at X' step
  have hTh : (T.setVm vm₁).heap = H := hT
  obtain ⟨f1, f2, -, -⟩ := Jvm.Free.Multi.fill_facts (T.setVm vm₁) cA cy n.toNatClampNeg k.toNatClampNeg (defaultValue ty) n.toNatClampNeg
  rw [hF, hTh] at f1 f2
  have hold : ∀ x : Nat, x < H.size → F.heap[x]? = H[x]? := fun x hx => by
    have := Jvm.Free.Multi.fill_old (T.setVm vm₁) cA cy n.toNatClampNeg k.toNatClampNeg (defaultValue ty) (a := x) (by rw [hTh]; exact hx) n.toNatClampNeg
    rw [hF, hTh] at this
    exact this
  have hrow : ∀ j : Nat, j < n.toNatClampNeg → F.heap[H.size + 1 + j]? = some (vp_cell cy z) := fun j hj => by
    have := Jvm.Free.Multi.fill_inner (T.setVm vm₁) cA cy n.toNatClampNeg k.toNatClampNeg (defaultValue ty) n.toNatClampNeg j hj
    rw [hF, hTh, hz] at this
    exact this
  have hout : Jvm.Free.Multi.outerC cA n.toNatClampNeg H.size n.toNatClampNeg = vp_cell cA (n.toNatClampNeg, .inr (.inr (.inr (.inr (fun i => if i < n.toNatClampNeg then some (H.size + 1 + i) else none))))) := by
    rw [vp_cell_q]
    exact vr_outer cA n.toNatClampNeg H.size n.toNatClampNeg
  rw [hout] at f2
  have hlt : ∀ a, a ∈ L → a < H.size := fun a ha => by
    obtain ⟨k9, hk9⟩ := va_pl_get (X := X) (f := f) ha
    exact (hP k9 _ hk9).lt
  have hnl : ∀ i : Nat, i < n.toNatClampNeg → H.size + 1 + i ∉ L := fun i _ h => by
    have := hlt _ h
    omega
  have hnm : ∀ a, a ∈ (List.range n.toNatClampNeg).map (fun i => H.size + 1 + i) → a ∉ L := fun a ha h => by
    obtain ⟨i, -, rfl⟩ := List.mem_map.mp ha
    have := hlt _ h
    omega
  have hP0 : va_P D cl (X ++ va_pl L f) F.heap := hP.kept (fun k9 x hx => hold x.1 ((hP k9 x hx).lt))
  have hP1 : va_P D cl ((X ++ va_pl L f) ++ [(H.size, .inl (cA, n.toNatClampNeg, .inr (.inr (.inr (.inr (fun i => if i < n.toNatClampNeg then some (H.size + 1 + i) else none))))))]) F.heap := hP0.app (fun k9 x hx => by
    have h0 : k9 < 1 := (List.getElem?_eq_some_iff.mp hx).1
    rw [show k9 = 0 by omega] at hx
    cases hx
    exact f2)
  have hP2 : va_P D cl (((X ++ va_pl L f) ++ [(H.size, .inl (cA, n.toNatClampNeg, .inr (.inr (.inr (.inr (fun i => if i < n.toNatClampNeg then some (H.size + 1 + i) else none))))))]) ++ ((List.range n.toNatClampNeg).map (fun i => H.size + 1 + i)).map (fun a => (a, .inl (cy, z)))) F.heap := hP1.app (fun k9 x hx => by
    obtain ⟨a, ha, rfl⟩ := List.mem_map.mp (List.mem_of_getElem? hx)
    obtain ⟨i, hi, rfl⟩ := List.mem_map.mp ha
    exact hrow i (List.mem_range.mp hi))
  have hD2 : va_D A (((X ++ va_pl L f) ++ [(H.size, .inl (cA, n.toNatClampNeg, .inr (.inr (.inr (.inr (fun i => if i < n.toNatClampNeg then some (H.size + 1 + i) else none))))))]) ++ ((List.range n.toNatClampNeg).map (fun i => H.size + 1 + i)).map (fun a => (a, .inl (cy, z)))) := by
    have hD1 := hD.push (e := .inl (cA, n.toNatClampNeg, .inr (.inr (.inr (.inr (fun i => if i < n.toNatClampNeg then some (H.size + 1 + i) else none)))))) hP rfl (hA _ hS.1)
    generalize hW1 : (X ++ va_pl L f) ++ [(H.size, .inl (cA, n.toNatClampNeg, .inr (.inr (.inr (.inr (fun i => if i < n.toNatClampNeg then some (H.size + 1 + i) else none))))))] = W1 at hD1 hP1 ⊢
    have hle : ∀ (k9 : Nat) (x : Nat × va_E), W1[k9]? = some x → x.1 ≤ H.size := fun k9 x hx => by
      rw [← hW1] at hx
      by_cases hl : k9 < (X ++ va_pl L f).length
      · rw [List.getElem?_append_left hl] at hx
        exact Nat.le_of_lt ((hP k9 x hx).lt)
      · rw [List.getElem?_append_right (by omega)] at hx
        have h0 : k9 - (X ++ va_pl L f).length < 1 := (List.getElem?_eq_some_iff.mp hx).1
        rw [show k9 - (X ++ va_pl L f).length = 0 by omega] at hx
        cases hx
        exact Nat.le_refl _
    have hr : ∀ (k9 : Nat) (x : Nat × va_E), (((List.range n.toNatClampNeg).map (fun i => H.size + 1 + i)).map (fun a => ((a, .inl (cy, z)) : Nat × va_E)))[k9]? = some x → x.1 = H.size + 1 + k9 := fun k9 x hx => by
      rw [List.getElem?_map, List.getElem?_map] at hx
      by_cases h9 : k9 < n.toNatClampNeg
      · rw [List.getElem?_range h9] at hx
        cases hx
        rfl
      · have hn0 : (List.range n.toNatClampNeg)[k9]? = none := List.getElem?_eq_none (by rw [List.length_range]; omega)
        rw [hn0] at hx
        cases hx
    refine ⟨fun i j x y hi hj hxy => ?_, fun k9 x hx => ?_⟩
    · by_cases h1 : i < W1.length <;> by_cases h2 : j < W1.length
      · rw [List.getElem?_append_left h1] at hi
        rw [List.getElem?_append_left h2] at hj
        exact hD1.1 i j x y hi hj hxy
      · rw [List.getElem?_append_left h1] at hi
        rw [List.getElem?_append_right (by omega)] at hj
        have := hle _ _ hi
        have := hr _ _ hj
        omega
      · rw [List.getElem?_append_right (by omega)] at hi
        rw [List.getElem?_append_left h2] at hj
        have := hle _ _ hj
        have := hr _ _ hi
        omega
      · rw [List.getElem?_append_right (by omega)] at hi hj
        have := hr _ _ hi
        have := hr _ _ hj
        omega
    · by_cases h1 : k9 < W1.length
      · rw [List.getElem?_append_left h1] at hx
        exact hD1.2 k9 x hx
      · rw [List.getElem?_append_right (by omega)] at hx
        have := hr _ _ hx
        exact hA _ (by have := hS.1; omega)
  have hAr : ArrOfT s cA (.array ty) := fun N9 z9 => by
    obtain ⟨-, k9, hk9, cm9, hkk9⟩ := (hO 0 0 0).1
    exact ⟨(fun q hq => by cases hq), k9, hk9, cm9, hkk9⟩
  have hK2 : va_K D cl (tys ++ [(cA, .array ty)]) s := ⟨hK.1, fun k9 x hx => by
    by_cases hl : k9 < tys.length
    · rw [List.getElem?_append_left hl] at hx
      exact hK.2 k9 x hx
    · rw [List.getElem?_append_right (by omega)] at hx
      have h0 : k9 - tys.length < 1 := (List.getElem?_eq_some_iff.mp hx).1
      rw [show k9 - tys.length = 0 by omega] at hx
      cases hx
      exact ⟨hAr, fA⟩⟩
  obtain ⟨t, a1, b1⟩ := kk H.size (fun i => H.size + 1 + i) cA F.heap (fun i j _ _ h => by have h9 : H.size + 1 + i = H.size + 1 + j := h; omega) hnl hK2 (by rw [← vr_rows hnm]; exact vr_lay hP2) (by rw [← vr_rows hnm]; exact vr_layD hD2) ⟨by rw [f1]; have := hS.1; omega, fun x h1 h2 => (hold x (Nat.lt_of_lt_of_le h1 hS.1)).trans (hS.2.1 x h1 h2), hS.2.2⟩ F rfl X'
  refine ⟨t, step t ?_, b1⟩
  have e : T.heap.size = H.size := by rw [hT]
  rw [e]
  exact a1
end VGM
/-! ===== END ===== -/

/-! ===== BEGIN exceptions that leave a method, and their catching by the caller (launches without stack traces) ===== -/
section VXA
/-! The laws vx_back, vx_callV, vx_callS, vx_callSW, vx_throw0, vx_throwS follow proofs of the library, with one case more: JvmDerived/Free/Laws.lean (Back.of_free), Shelf42/LK1.lean (callV, callS), Shelf/KitTraced.lean (throwNew0V, throwNewS). -/
/-- where a method has thrown q: the class by its name, the cell, what was written, the world -/
def vx_T (XC : String → State → State → Prop) (st : State) (q : Addr) (t : State) (mc ms : Nat) (free : Addr → Prop) : Prop :=
  ∃ (E : String) (ce : Cell) (L : List Loc), XC E st t ∧ t.heap[q]? = some ce ∧ ce.vm = .none ∧ st.vm.findClass E = some ce.cls ∧ st.WarmedH t.vm ∧ st.sameButNew ({ t with vm := st.vm } : State) L mc ms ∧ ∀ z ∈ L, free z.base
def vx_Q (Qc : Array Value → State → Outcome → State → Prop) (XC : String → State → State → Prop) (mc ms : Nat) (free : Addr → Prop) : Array Value → State → Outcome → State → Prop := fun a st o t =>
  (Qc a st o t ∧ ∃ L, FrameEnd st o t L mc ms ∧ ∀ q ∈ L, free q.base) ∨ ∃ q, o = .threw q ∧ vx_T XC st q t mc ms free
/-- a callee that returns or throws -/
def vx_Met (l : Launch) (y : MethodName) (ws : List Cond) (rm : Room) (Pc : Array Value → State → Prop) (Qc : Array Value → State → Outcome → State → Prop) (XC : String → State → State → Prop) (mc ms : Nat) (free : Addr → Prop) : Prop :=
  MetFree l y (headSpec ws rm) Pc (fun _ _ _ _ _ => True) (vx_Q Qc XC mc ms free)
def vx_Post (XC : String → State → State → Prop) (mc ms : Nat) (free : Addr → Prop) : Pt → Array Value → Addr → Pt → Prop := fun A a q B =>
  ∃ (g : JFrame) (mk : MethodId) (t : State) (L : List Loc) (E : String) (ce : Cell), B.U.heap = t.heap ∧ B.U.vm = t.vm ∧ XC E (A.U.calling g mk a) t ∧ t.heap[q]? = some ce ∧ ce.vm = .none ∧ A.U.vm.findClass E = some ce.cls ∧ B.locs = A.locs ++ L ∧ (∀ z ∈ L, free z.base) ∧ B.cells = A.cells + mc ∧ B.slots = A.slots + ms
def vx_Back (l : Launch) (R : Room) (p : Program) (e : Env) (below : List Frame) (s : State) (sargs : Array Value) (y : MethodName) (len W9 : Nat)
    (Pre : Pt → Array Value → Prop) (Post : Pt → Array Value → Option Value → Pt → Prop) (PostX : Pt → Array Value → Addr → Pt → Prop) : Prop :=
  ∀ (m : MethodId) (meth : Method) (c : Code) (A : Pt) (g : JFrame) (ig : Instr) (mk : MethodId) (a : Array Value),
    Stand p l e R s m sargs below meth c A.U A.locs A.cells A.slots → g.method = m → g.locals.size = c.maxLocals → decode c.code g.pc = .ok (ig, len) →
    2 * g.monitorRoom + (g.stack.map fun v => v.category).sum ≤ W9 → A.U.methodNamed? y = some mk → Pre A a →
    (∃ (v : Option Value) (B : Pt), Stand p l e R s m sargs below meth c B.U B.locs B.cells B.slots ∧ Post A a v B ∧
      Steps p.tables e below (doInvoke e (A.U.setTop g) [] mk a).1 (B.U.setTop { g with pc := g.pc + len, stack := v.toList ++ g.stack })) ∨
    (∃ (q : Addr) (B : Pt), Stand p l e R s m sargs below meth c B.U B.locs B.cells B.slots ∧ PostX A a q B ∧
      Steps p.tables e below (doInvoke e (A.U.setTop g) [] mk a).1 ((B.U.setTop g).pushFrame (.throwing q)))
section Payer
variable {l : Launch} {R : Room} {p : Program} {e : Env} {below : List Frame} {s : State} {sargs : Array Value} {y : MethodName} {len W9 : Nat}
theorem vx_back {ws : List Cond} {rm : Room} {Pc : Array Value → State → Prop} {Qc : Array Value → State → Outcome → State → Prop} {XC : String → State → State → Prop} {mc ms : Nat} {free : Addr → Prop} {bytes : ByteArray} {maxL : Nat} {ret : Option FieldType}
    (hM : vx_Met l y ws rm Pc Qc XC mc ms free) (hblind : FrameBlind Pc) (hrc : rm.cells = mc) (hrs : rm.slots = ms)
    (hframes : rm.frames + 1 ≤ R.frames) (hlocals : W9 + (maxL + 11) + rm.locals ≤ R.locals)
    (hws : ∀ w ∈ ws, ∀ a' U, s.WarmedH U.vm → w.before a' U = true) (hcode : Cond.code y bytes maxL ret ∈ ws) (hinit : ∀ a' U, s.WarmedH U.vm → (Cond.initialized y.cls).before a' U = true) :
    vx_Back l R p e below s sargs y len W9 (PreOf R mc ms Pc) (PostOf Qc mc ms free) (vx_Post XC mc ms free) := by
  intro m meth c A g ig mk a X hg hsize hdg hW hn hp
  have h1 : (headSpec ws rm).pre.before a A.U = true := atoms_intro fun w hw => hws w hw _ _ X.warmed
  have h2 : (Cond.code y bytes maxL ret).before a A.U = true := hws _ hcode _ _ X.warmed
  have h3 : (Cond.initialized y.cls).before a A.U = true := hinit _ _ X.warmed
  have h4 : A.cells + (headSpec ws rm).room.cells ≤ R.cells := by rw [show (headSpec ws rm).room.cells = mc from hrc]; exact hp.1
  have h5 : A.slots + (headSpec ws rm).room.slots ≤ R.slots := by rw [show (headSpec ws rm).room.slots = ms from hrs]; exact hp.2.1
  have hPc : Pc a (A.U.calling g mk a) := hblind _ _ _ _ hp.2.2
  obtain ⟨U, Ls, c0, s0⟩ := A
  dsimp only [Pt.U, Pt.locs, Pt.cells, Pt.slots] at h1 h2 h3 h4 h5 X hn hPc ⊢
  obtain ⟨methY, cY, hmY, hcY, -, hlY, -, -, -, -⟩ := Cond.code_spec hn h2
  obtain ⟨kY, hkY, -⟩ := className_of_methodNamed hn
  have hinitY : kY.init = .initialized := Cond.initialized_spec (findClass_of_methodNamed hn) hkY h3
  have h : At U g.method c below := by rw [hg]; exact X.here
  have hlocals9 : W9 + (maxL + 11) + (headSpec ws rm).room.locals ≤ R.locals := hlocals
  have happ : (headSpec ws rm).appliesLoose y e.platform (U.calling g mk a) = true :=
    Spec.appliesLoose_calling (g := g) h hdg hn hkY hinitY
      (X.room_calling (g := g) (R' := (headSpec ws rm).room) hsize hmY hcY hframes (by rw [hlY]; omega) h4 h5) h1
  obtain ⟨mid, hmid⟩ := h.above
  have hfr : (U.setTop g).frames = (.java g :: mid) ++ below := by rw [State.frames_setTop' g h.top, hmid]; rfl
  obtain ⟨o, s₂, hsteps, -, hend, hq⟩ := Steps.callFree hM p X.admits X.cas X.clock (acts := []) hfr happ hPc trivial
  have hq' : vx_Q Qc XC mc ms free a (U.calling g mk a) o s₂ := hq
  rw [State.frames_setTop' g h.top] at hend
  obtain ⟨g₀, hg0⟩ := Option.isSome_iff_exists.mp h.top
  obtain ⟨r, hr⟩ := State.topJava?_eq_some.mp hg0
  have hr' : (({ U with heap := s₂.heap, slotsUsed := s₂.slotsUsed } : State).setVm s₂.vm).frames = .java g₀ :: r := hr
  rcases hq' with ⟨hqc, L, hfe, hL⟩ | ⟨q, rfl, E, ce, L, hx, hce, hcv, hcl, hW₂, hsm, hL⟩
  · obtain ⟨⟨v, rfl⟩, hW₂, e2, q2, q3, q4, q5, q6⟩ := id hfe
    have e3 : s₂ = ({ (U.calling g mk a).setFrames s₂.frames with heap := s₂.heap, slotsUsed := s₂.slotsUsed } : State).setVm s₂.vm := by
      have : s₂ = ({ s₂ with vm := (U.calling g mk a).vm } : State).setVm s₂.vm := rfl
      rw [e2] at this
      exact this
    obtain ⟨c₂, i₂, len₂, hc₂, hd₂, hf₂⟩ := hend
    have hW' : U.WarmedH s₂.vm := hW₂
    have hcc : c₂ = c := by
      have h1 : s₂.code? g.method = U.code? g.method := by
        rw [State.code?_eq, State.code?_eq, hW'.alike.method?]
      exact Option.some.inj (hc₂.symm.trans (h1.trans h.code))
    subst hcc
    have hlen : len₂ = len := by rw [hdg] at hd₂; cases hd₂; rfl
    subst hlen
    have hs₂ : s₂ = (({ U with heap := s₂.heap, slotsUsed := s₂.slotsUsed } : State).setVm s₂.vm).setTop { g with pc := g.pc + len₂, stack := v.toList ++ g.stack } := by
      refine e3.trans ?_
      rw [hf₂, State.calling_eq h.top, State.setFrames_setFrames, State.setTop_of_frames _ hr', hr]
      rfl
    have hsame : U.sameButNew ({ U with heap := s₂.heap, slotsUsed := s₂.slotsUsed } : State) L mc ms := by
      refine ⟨?_, q2, q3, q4, q5, q6⟩
      obtain ⟨t, ht, -⟩ := State.frames_cons hr
      show ({ U with heap := s₂.heap, slotsUsed := s₂.slotsUsed } : State) = { U.setFrames U.frames with heap := s₂.heap, slotsUsed := s₂.slotsUsed }
      rw [State.setFrames_self ht]
    subst hg
    refine Or.inl ⟨v, ⟨(({ U with heap := s₂.heap, slotsUsed := s₂.slotsUsed } : State).setVm s₂.vm), Ls ++ L, c0 + mc, s0 + ms⟩,
      ⟨X.admits, X.cas, X.clock, X.frames, X.room, X.hears, X.method, X.code, (X.here.setHeapUsed s₂.heap s₂.slotsUsed).setVm hW'.alike, X.tail, State.WarmedH.trans X.warmed hW', X.limits, X.bytes, X.same.trans (hsame.setVm s.vm)⟩,
      ⟨g, mk, s₂, L, rfl, rfl, hqc, rfl, hL, rfl, rfl⟩, ?_⟩
    show Steps p.tables e below _ ((({ U with heap := s₂.heap, slotsUsed := s₂.slotsUsed } : State).setVm s₂.vm).setTop { g with pc := g.pc + len₂, stack := v.toList ++ g.stack })
    rw [← hs₂]
    exact hsteps
  · obtain ⟨e2, q2, q3, q4, q5, q6⟩ := id hsm
    have e3 : s₂ = ({ (U.calling g mk a).setFrames s₂.frames with heap := s₂.heap, slotsUsed := s₂.slotsUsed } : State).setVm s₂.vm := by
      have : s₂ = ({ s₂ with vm := (U.calling g mk a).vm } : State).setVm s₂.vm := rfl
      rw [e2] at this
      exact this
    have hf₂ : s₂.frames = .throwing q :: .java g :: U.frames.tail := hend
    have hW' : U.WarmedH s₂.vm := hW₂
    have hs₂ : s₂ = ((({ U with heap := s₂.heap, slotsUsed := s₂.slotsUsed } : State).setVm s₂.vm).setTop g).pushFrame (.throwing q) := by
      refine e3.trans ?_
      rw [hf₂, State.calling_eq h.top, State.setFrames_setFrames, State.pushFrame, State.frames_setTop _ hr', State.setTop_of_frames _ hr', State.setFrames_setFrames, hr]
      rfl
    have hsame : U.sameButNew ({ U with heap := s₂.heap, slotsUsed := s₂.slotsUsed } : State) L mc ms := by
      refine ⟨?_, q2, q3, q4, q5, q6⟩
      obtain ⟨t, ht, -⟩ := State.frames_cons hr
      show ({ U with heap := s₂.heap, slotsUsed := s₂.slotsUsed } : State) = { U.setFrames U.frames with heap := s₂.heap, slotsUsed := s₂.slotsUsed }
      rw [State.setFrames_self ht]
    subst hg
    refine Or.inr ⟨q, ⟨(({ U with heap := s₂.heap, slotsUsed := s₂.slotsUsed } : State).setVm s₂.vm), Ls ++ L, c0 + mc, s0 + ms⟩,
      ⟨X.admits, X.cas, X.clock, X.frames, X.room, X.hears, X.method, X.code, (X.here.setHeapUsed s₂.heap s₂.slotsUsed).setVm hW'.alike, X.tail, State.WarmedH.trans X.warmed hW', X.limits, X.bytes, X.same.trans (hsame.setVm s.vm)⟩,
      ⟨g, mk, s₂, L, E, ce, rfl, rfl, hx, hce, hcv, hcl, rfl, hL, rfl, rfl⟩, ?_⟩
    show Steps p.tables e below _ (((({ U with heap := s₂.heap, slotsUsed := s₂.slotsUsed } : State).setVm s₂.vm).setTop g).pushFrame (.throwing q))
    rw [← hs₂]
    exact hsteps
end Payer
section Calls
variable {p : Program} {l : Launch} {e : Env} {R : Room} {s : State} {m : MethodId} {args : Array Value} {below : List Frame} {meth : Method} {c : Code} {T : State} {locs : List Loc} {cells slots : Nat}
theorem vx_callV (X : Stand p l e R s m args below meth c T locs cells slots) (hexec : p.tables.exec = Jvm.exec) {own C : String} {index : Nat} {y : MethodName} {bytes : ByteArray} {maxL : Nat} {ret : Option FieldType}
    (hown : s.vm.findClass own = some m.cls) (hlink : (Cond.methodLink own index y).before args s = true) (hinst : (Cond.instanceMethod y).before args s = true) (hsel : (Cond.selects C y y).before args s = true)
    (hcode : (Cond.code y bytes maxL ret).before args s = true) (hy : y.cls ≠ "java/lang/invoke/MethodHandle" ∧ y.cls ≠ "java/lang/invoke/VarHandle")
    {W9 : Nat} {Pre : Pt → Array Value → Prop} {Post : Pt → Array Value → Option Value → Pt → Prop} {PostX : Pt → Array Value → Addr → Pt → Prop} (hK : vx_Back l R p e below s args y 3 W9 Pre Post PostX)
    {b : Addr} {cellB : Cell} (hcell : T.heap[b]? = some cellB) (hobj : cellB.vm.isStatics = false) (hcls : s.vm.findClass C = some cellB.cls)
    {g : JFrame} (hg : g.method = m) (hsize : g.locals.size = c.maxLocals) {argsL rest : List Value} (hlen : ∀ sig, parseMethodDescriptor y.desc = some sig → argsL.length = sig.parameters.length)
    (hstack : g.stack = argsL.reverse ++ .ref b :: rest) (hW : 2 * g.monitorRoom + (rest.map fun v => v.category).sum ≤ W9) (hdg : decode c.code g.pc = .ok (.invokevirtual index, 3))
    (hpre : ∀ vm₁, s.WarmedH vm₁ → Pre ⟨T.setVm vm₁, locs, cells, slots⟩ (Value.ref b :: argsL).toArray) :
    (∃ (v : Option Value) (vm₁ : Vm) (B : Pt), s.WarmedH vm₁ ∧ Stand p l e R s m args below meth c B.U B.locs B.cells B.slots ∧ Post ⟨T.setVm vm₁, locs, cells, slots⟩ (Value.ref b :: argsL).toArray v B ∧
      ∀ target, Steps p.tables e below (B.U.setTop { g with pc := g.pc + 3, stack := v.toList ++ rest }) target → Steps p.tables e below (T.setTop g) target) ∨
    (∃ (q : Addr) (vm₁ : Vm) (B : Pt), s.WarmedH vm₁ ∧ Stand p l e R s m args below meth c B.U B.locs B.cells B.slots ∧ PostX ⟨T.setVm vm₁, locs, cells, slots⟩ (Value.ref b :: argsL).toArray q B ∧
      Steps p.tables e below (T.setTop g) ((B.U.setTop { g with stack := rest }).pushFrame (.throwing q))) := by
  obtain ⟨mk, methM, hnamed, hmethM, hstM, habM⟩ := Cond.instanceMethod_spec hinst
  obtain ⟨methM', cM, hmethM', -, -, -, -, -, -, hsigM⟩ := Cond.code_spec hnamed hcode
  cases hmethM.symm.trans hmethM'
  obtain ⟨c2, r2, m2, q1, q2, q3, q4, kP, hkP, hkPi⟩ := Cond.selects_spec hsel
  cases hcls.symm.trans q1
  cases (State.methodFound?_of_named hnamed hy).symm.trans q2
  cases hnamed.symm.trans q3
  have hselP : selectMethod e.platform s.vm cellB.cls mk = .method mk := by rw [Launch.admits_selectMethod X.admits]; exact q4
  obtain ⟨vm₁, X₁, hstep₁⟩ := X.invokevirtual hexec hown hlink hnamed hmethM hstM hkP hkPi hy (a := b) (cell := cellB) hcell
    (fun z h => by rw [h] at hobj; cases hobj) hselP hmethM habM hkP hkPi (g := g) hg (argsL := argsL) (rest := rest) (hlen _ hsigM) hstack hdg
  rcases hK m meth c ⟨T.setVm vm₁, locs, cells, slots⟩ { g with stack := rest } (.invokevirtual index) mk (Value.ref b :: argsL).toArray X₁ hg hsize hdg hW (X₁.named hnamed) (hpre vm₁ X₁.warmed) with ⟨v, B, X', hpost, hsteps⟩ | ⟨q, B, X', hpost, hsteps⟩
  · exact Or.inl ⟨v, vm₁, B, X₁.warmed, X', hpost, fun target h => hstep₁ _ fun acts => by rw [doInvoke_state]; exact hsteps.trans h⟩
  · exact Or.inr ⟨q, vm₁, B, X₁.warmed, X', hpost, hstep₁ _ fun acts => by rw [doInvoke_state]; exact hsteps⟩
theorem vx_callS (X : Stand p l e R s m args below meth c T locs cells slots) (hexec : p.tables.exec = Jvm.exec) {own : String} {index : Nat} {y : MethodName} {bytes : ByteArray} {maxL : Nat} {ret : Option FieldType}
    (hown : s.vm.findClass own = some m.cls) (hlink : (Cond.methodLink own index y).before args s = true) (hstat : (Cond.static y).before args s = true) (hinit : (Cond.initialized y.cls).before args s = true)
    (hcode : (Cond.code y bytes maxL ret).before args s = true) (hy : y.cls ≠ "java/lang/invoke/MethodHandle" ∧ y.cls ≠ "java/lang/invoke/VarHandle")
    {W9 : Nat} {Pre : Pt → Array Value → Prop} {Post : Pt → Array Value → Option Value → Pt → Prop} {PostX : Pt → Array Value → Addr → Pt → Prop} (hK : vx_Back l R p e below s args y 3 W9 Pre Post PostX)
    {g : JFrame} (hg : g.method = m) (hsize : g.locals.size = c.maxLocals) {argsL rest : List Value} (hlen : ∀ sig, parseMethodDescriptor y.desc = some sig → argsL.length = sig.parameters.length)
    (hstack : g.stack = argsL.reverse ++ rest) (hW : 2 * g.monitorRoom + (rest.map fun v => v.category).sum ≤ W9) (hdg : decode c.code g.pc = .ok (.invokestatic index, 3))
    (hpre : ∀ vm₁, s.WarmedH vm₁ → Pre ⟨T.setVm vm₁, locs, cells, slots⟩ argsL.toArray) :
    (∃ (v : Option Value) (vm₁ : Vm) (B : Pt), s.WarmedH vm₁ ∧ Stand p l e R s m args below meth c B.U B.locs B.cells B.slots ∧ Post ⟨T.setVm vm₁, locs, cells, slots⟩ argsL.toArray v B ∧
      ∀ target, Steps p.tables e below (B.U.setTop { g with pc := g.pc + 3, stack := v.toList ++ rest }) target → Steps p.tables e below (T.setTop g) target) ∨
    (∃ (q : Addr) (vm₁ : Vm) (B : Pt), s.WarmedH vm₁ ∧ Stand p l e R s m args below meth c B.U B.locs B.cells B.slots ∧ PostX ⟨T.setVm vm₁, locs, cells, slots⟩ argsL.toArray q B ∧
      Steps p.tables e below (T.setTop g) ((B.U.setTop { g with stack := rest }).pushFrame (.throwing q))) := by
  obtain ⟨mk, hnamed⟩ := Cond.code_named hcode
  obtain ⟨methM, cM, hmethM, -, -, -, -, -, -, hsigM⟩ := Cond.code_spec hnamed hcode
  have hstatic : methM.isStatic = true := Cond.static_spec hnamed hmethM hstat
  obtain ⟨kP, hkP, -⟩ := className_of_methodNamed hnamed
  have hinitP : kP.init = .initialized := Cond.initialized_spec (findClass_of_methodNamed hnamed) hkP hinit
  obtain ⟨vm₁, X₁, hstep₁⟩ := X.invokestatic hexec hown hlink hnamed hmethM hstatic hkP hinitP hy (g := g) hg (argsL := argsL) (rest := rest) (hlen _ hsigM) hstack hdg
  rcases hK m meth c ⟨T.setVm vm₁, locs, cells, slots⟩ { g with stack := rest } (.invokestatic index) mk argsL.toArray X₁ hg hsize hdg hW (X₁.named hnamed) (hpre vm₁ X₁.warmed) with ⟨v, B, X', hpost, hsteps⟩ | ⟨q, B, X', hpost, hsteps⟩
  · exact Or.inl ⟨v, vm₁, B, X₁.warmed, X', hpost, fun target h => hstep₁ _ fun acts => by rw [doInvoke_state]; exact hsteps.trans h⟩
  · exact Or.inr ⟨q, vm₁, B, X₁.warmed, X', hpost, hstep₁ _ fun acts => by rw [doInvoke_state]; exact hsteps⟩
end Calls
theorem vx_cls {s : State} {T : State} {vm₁ : Vm} {E : String} {k : ClassId} (hW : s.WarmedH vm₁) (h : (T.setVm vm₁).vm.findClass E = some k) : s.vm.findClass E = some k := by
  have h1 : vm₁.findClass E = some k := h
  rw [hW.alike.findClass] at h1
  exact h1
/-- the method's frame g, with q thrown over it -/
def vx_W (p : Program) (l : Launch) (e : Env) (R : Room) (s : State) (m : MethodId) (args : Array Value) (below : List Frame) (meth : Method) (c : Code) (H : Heap) (locs : List Loc) (cells slots : Nat) (Q : State → Prop) (g : JFrame) (q : Addr) : Prop :=
  ∀ T : State, T.heap = H → Stand p l e R s m args below meth c T locs cells slots → ∃ t, Steps p.tables e below ((T.setTop g).pushFrame (.throwing q)) t ∧ Q t
def vx_Run (p : Program) (l : Launch) (e : Env) (R : Room) (s : State) (m : MethodId) (args : Array Value) (below : List Frame) (meth : Method) (c : Code) (H : Heap) (locs : List Loc) (cells slots mc ms : Nat) (g : JFrame) (rest : List Value) (Qa : State → Outcome → State → Prop) (XC : String → State → State → Prop) (free : Addr → Prop) : Prop :=
  ∀ T : State, T.heap = H → Stand p l e R s m args below meth c T locs cells slots →
    (∃ (v : Option Value) (st₀ t T' : State) (L : List Loc), st₀.heap = H ∧ Stand p l e R s m args below meth c T' (locs ++ L) (cells + mc) (slots + ms) ∧ (∀ q ∈ L, free q.base) ∧ T'.heap = t.heap ∧ T'.vm = t.vm ∧ Qa st₀ (.returned v) t ∧
      Goes p e below T g T' { g with pc := g.pc + 3, stack := v.toList ++ rest }) ∨
    (∃ (q : Addr) (st₀ t T' : State) (L : List Loc) (E : String) (ce : Cell), st₀.heap = H ∧ Stand p l e R s m args below meth c T' (locs ++ L) (cells + mc) (slots + ms) ∧ (∀ z ∈ L, free z.base) ∧ T'.heap = t.heap ∧ T'.vm = t.vm ∧ XC E st₀ t ∧ t.heap[q]? = some ce ∧ ce.vm = .none ∧ s.vm.findClass E = some ce.cls ∧
      Steps p.tables e below (T.setTop g) ((T'.setTop { g with stack := rest }).pushFrame (.throwing q)))
def vx_X {S : Type} (px : S → Prop) (B : String → S → State → Prop) (A : Nat → Prop) : String → State → State → Prop := fun E st t => ∃ u : S, px u ∧ B E u t ∧ va_F A st t
section Runs
variable {p : Program} {l : Launch} {e : Env} {R : Room} {s : State} {m : MethodId} {args : Array Value} {below : List Frame} {meth : Method} {c : Code} {H : Heap} {locs : List Loc} {cells slots : Nat}
variable {y : MethodName} {bytes cc : ByteArray} {maxL nL mc ms n index : Nat} {ret : Option FieldType} {ws : List Cond} {rm : Room} {Pc : Array Value → State → Prop} {Qc : Array Value → State → Outcome → State → Prop} {XC : String → State → State → Prop} {free : Addr → Prop} {Ts : List Cond} {own C : String} {b : Addr} {As rest : List Value} {g : JFrame}
theorem vx_callBack (cb : CallB R s args own index y bytes maxL ret ws rm mc ms n) (hM : vx_Met l y ws rm Pc Qc XC mc ms free) (hbl : FrameBlind Pc) : vx_Back l R p e below s args y 3 8 (PreOf R mc ms Pc) (PostOf Qc mc ms free) (vx_Post XC mc ms free) := by
  obtain ⟨hrc, hrs, hfr, hlo, hws, hcw, -, hini, -⟩ := cb
  exact vx_back (bytes := bytes) (maxL := maxL) (ret := ret) hM hbl hrc hrs hfr hlo hws hcw (fun a' U hW => word_at hW (Or.inl (by first | rfl | simp [Cond.onTables, Cond.keeps, Cond.steady])) hini)
theorem vx_runV (S : CallFix p m c cc nL s args Ts own) (hM : vx_Met l y ws rm Pc Qc XC mc ms free) (cw : CallW R s args own C index y bytes maxL ret ws rm mc ms n) (hp : PreV s H C b Pc As)
    (hg : g.method = m) (hn : As.length = n) (hsize : g.locals.size = nL) (hstack : g.stack = As.reverse ++ .ref b :: rest) (hW : 2 * g.monitorRoom + (rest.map fun v => v.category).sum ≤ 8) (hdg : decode cc g.pc = .ok (.invokevirtual index, 3)) (hf : cells + mc ≤ R.cells ∧ slots + ms ≤ R.slots) :
    vx_Run p l e R s m args below meth c H locs cells slots mc ms g rest (Qc (Value.ref b :: As).toArray) XC free := by
  have hK : vx_Back l R p e below s args y 3 8 (PreOf R mc ms Pc) (PostOf Qc mc ms free) (vx_Post XC mc ms free) := vx_callBack cw.1 hM hp.1
  obtain ⟨⟨-, -, -, -, -, -, hcode, -, hy, hlen, hl⟩, hin, hse⟩ := cw
  obtain ⟨hx, hb, hml, ho, -⟩ := S
  obtain ⟨-, ⟨cellB, hcB, hoB, hclB⟩, hPc⟩ := hp
  intro T hT X
  rcases vx_callV X hx (C := C) (bytes := bytes) (maxL := maxL) (ret := ret) ho hl hin hse hcode hy hK (by rw [hT]; exact hcB) hoB hclB hg (hsize.trans hml.symm) (argsL := As) (rest := rest) (fun sig h => hn.trans (hlen sig h)) hstack hW (by rw [hb]; exact hdg)
    (fun vm₁ hW₁ => ⟨hf.1, hf.2, hPc (T.setVm vm₁) hT hW₁⟩) with ⟨v, vm₁, ⟨U', l2, c2, s2⟩, hW₁, X', ⟨g', mk, t, L, e1, e2, hq, h1, hL, h2, h3⟩, st⟩ | ⟨q, vm₁, ⟨U', l2, c2, s2⟩, hW₁, X', ⟨g', mk, t, L, E, ce, e1, e2, hq, hce, hcv, hcl, h1, hL, h2, h3⟩, st⟩
  · dsimp only [Pt.U, Pt.locs, Pt.cells, Pt.slots] at X' e1 e2 h1 h2 h3 st
    subst h1; subst h2; subst h3
    exact Or.inl ⟨v, (T.setVm vm₁).calling g' mk (Value.ref b :: As).toArray, t, U', L, hT, X', hL, e1, e2, hq, st⟩
  · dsimp only [Pt.U, Pt.locs, Pt.cells, Pt.slots] at X' e1 e2 h1 h2 h3 st hcl
    subst h1; subst h2; subst h3
    exact Or.inr ⟨q, (T.setVm vm₁).calling g' mk (Value.ref b :: As).toArray, t, U', L, E, ce, hT, X', hL, e1, e2, hq, hce, hcv, vx_cls hW₁ hcl, st⟩
theorem vx_runS (S : CallFix p m c cc nL s args Ts own) (hM : vx_Met l y ws rm Pc Qc XC mc ms free) (cw : CallB R s args own index y bytes maxL ret ws rm mc ms n ∧ (Cond.static y).before args s = true) (hp : PreS s H Pc As)
    (hg : g.method = m) (hn : As.length = n) (hsize : g.locals.size = nL) (hstack : g.stack = As.reverse ++ rest) (hW : 2 * g.monitorRoom + (rest.map fun v => v.category).sum ≤ 8) (hdg : decode cc g.pc = .ok (.invokestatic index, 3)) (hf : cells + mc ≤ R.cells ∧ slots + ms ≤ R.slots) :
    vx_Run p l e R s m args below meth c H locs cells slots mc ms g rest (Qc As.toArray) XC free := by
  have hK : vx_Back l R p e below s args y 3 8 (PreOf R mc ms Pc) (PostOf Qc mc ms free) (vx_Post XC mc ms free) := vx_callBack cw.1 hM hp.1
  obtain ⟨⟨-, -, -, -, -, -, hcode, hini, hy, hlen, hl⟩, hstt⟩ := cw
  obtain ⟨hx, hb, hml, ho, -⟩ := S
  intro T hT X
  rcases vx_callS X hx (bytes := bytes) (maxL := maxL) (ret := ret) ho hl hstt hini hcode hy hK hg (hsize.trans hml.symm) (argsL := As) (rest := rest) (fun sig h => hn.trans (hlen sig h)) hstack hW (by rw [hb]; exact hdg)
    (fun vm₁ hW₁ => ⟨hf.1, hf.2, hp.2 (T.setVm vm₁) hT hW₁⟩) with ⟨v, vm₁, ⟨U', l2, c2, s2⟩, hW₁, X', ⟨g', mk, t, L, e1, e2, hq, h1, hL, h2, h3⟩, st⟩ | ⟨q, vm₁, ⟨U', l2, c2, s2⟩, hW₁, X', ⟨g', mk, t, L, E, ce, e1, e2, hq, hce, hcv, hcl, h1, hL, h2, h3⟩, st⟩
  · dsimp only [Pt.U, Pt.locs, Pt.cells, Pt.slots] at X' e1 e2 h1 h2 h3 st
    subst h1; subst h2; subst h3
    exact Or.inl ⟨v, (T.setVm vm₁).calling g' mk As.toArray, t, U', L, hT, X', hL, e1, e2, hq, st⟩
  · dsimp only [Pt.U, Pt.locs, Pt.cells, Pt.slots] at X' e1 e2 h1 h2 h3 st hcl
    subst h1; subst h2; subst h3
    exact Or.inr ⟨q, (T.setVm vm₁).calling g' mk As.toArray, t, U', L, E, ce, hT, X', hL, e1, e2, hq, hce, hcv, vx_cls hW₁ hcl, st⟩
end Runs
section Rows
variable {p : Program} {l : Launch} {e : Env} {R : Room} {s : State} {m : MethodId} {args : Array Value} {below : List Frame} {meth : Method} {c : Code} {H : Heap} {locs : List Loc} {cells slots : Nat} {Q : State → Prop}
variable {mc ms : Nat} {free : Addr → Prop} {A0 A1 : Nat → Prop} {H0 : Heap} {a : Array Value} {pc : Nat} {ls : Array Slot} {st0 rest : List Value}
theorem vx_keep {st₀ t T' : State} {L : List Loc} (h0 : st₀.heap = H) (e1 : T'.heap = t.heap) (hS : va_S A0 H0 H locs) (hA : ∀ q, q < H.size → A1 q → A0 q) (hf : ∀ q, free q → A0 q) (hL : ∀ q ∈ L, free q.base) (hF : va_F A1 st₀ t) :
    H.size ≤ T'.heap.size ∧ (∀ q : Nat, q < H.size → ¬ A1 q → T'.heap[q]? = H[q]?) ∧ va_S A0 H0 T'.heap (locs ++ L) := by
  obtain ⟨hz, hk⟩ := hF
  rw [h0] at hz hk
  exact ⟨by rw [e1]; exact hz, fun q h1 h2 => by rw [e1]; exact hk q h1 h2,
    ⟨Nat.le_trans hS.1 (by rw [e1]; exact hz), fun q h1 h2 => by rw [e1, hk q (Nat.lt_of_lt_of_le h1 hS.1) (fun z => h2 (hA q (Nat.lt_of_lt_of_le h1 hS.1) z))]; exact hS.2.1 q h1 h2, fun q hq => by
      rcases List.mem_append.mp hq with h | h
      · exact hS.2.2 q h
      · exact hf _ (hL q h)⟩⟩
theorem vx_calli {S SX : Type} {post : Int32 → S → Prop} {px : SX → Prop} {B : S → State → Prop} {BX : String → SX → State → Prop} {AX : Nat → Prop} (hr : vx_Run p l e R s m args below meth c H locs cells slots mc ms (F0 m pc ls st0) rest (va_Qi post B A1 a) (vx_X px BX AX) free) (hS : va_S A0 H0 H locs) (hA : ∀ q, q < H.size → A1 q → A0 q) (hf : ∀ q, free q → A0 q) (hAX : ∀ q, q < H.size → AX q → A0 q)
    (kx : ∀ (E : String) (ce : Cell) (q9 : Addr) (u : SX) (t : State) (H1 : Heap) (locs1 : List Loc), t.heap = H1 → s.vm.Alike t.vm → px u → BX E u t → H.size ≤ H1.size → (∀ q : Nat, q < H.size → ¬ AX q → H1[q]? = H[q]?) → va_S A0 H0 H1 locs1 → H1[q9]? = some ce → ce.vm = .none → s.vm.findClass E = some ce.cls → vx_W p l e R s m args below meth c H1 locs1 (cells + mc) (slots + ms) Q (F0 m pc ls rest) q9)
    (kk : ∀ (r : Int32) (u : S) (t : State) (H1 : Heap) (locs1 : List Loc), t.heap = H1 → s.vm.Alike t.vm → post r u → B u t → H.size ≤ H1.size → (∀ q : Nat, q < H.size → ¬ A1 q → H1[q]? = H[q]?) → va_S A0 H0 H1 locs1 → W p l e R s m args below meth c H1 locs1 (cells + mc) (slots + ms) Q (F0 m (pc + 3) ls (.int r :: rest))) : W p l e R s m args below meth c H locs cells slots Q (F0 m pc ls st0) := by
  intro T hT X
  rcases hr T hT X with ⟨v, st₀, t, T', L, h0, X', hL, e1, e2, ⟨⟨r, u, hv, hp, hb⟩, hF⟩, st⟩ | ⟨q, st₀, t, T', L, E, ce, h0, X', hL, e1, e2, ⟨u, hp, hb, hF⟩, hce, hcv, hcl, st⟩
  · cases hv
    obtain ⟨k1, k2, k3⟩ := vx_keep h0 e1 hS hA hf hL hF
    obtain ⟨t2, a1, b1⟩ := kk r u t T'.heap (locs ++ L) e1.symm (by rw [← e2]; exact X'.warmed.alike) hp hb k1 k2 k3 T' rfl X'
    exact ⟨t2, st t2 a1, b1⟩
  · obtain ⟨k1, k2, k3⟩ := vx_keep h0 e1 hS hAX hf hL hF
    obtain ⟨t2, a1, b1⟩ := kx E ce q u t T'.heap (locs ++ L) e1.symm (by rw [← e2]; exact X'.warmed.alike) hp hb k1 k2 k3 (by rw [e1]; exact hce) hcv hcl T' rfl X'
    exact ⟨t2, st.trans a1, b1⟩
theorem vx_calll {S SX : Type} {post : Int64 → S → Prop} {px : SX → Prop} {B : S → State → Prop} {BX : String → SX → State → Prop} {AX : Nat → Prop} (hr : vx_Run p l e R s m args below meth c H locs cells slots mc ms (F0 m pc ls st0) rest (va_Ql post B A1 a) (vx_X px BX AX) free) (hS : va_S A0 H0 H locs) (hA : ∀ q, q < H.size → A1 q → A0 q) (hf : ∀ q, free q → A0 q) (hAX : ∀ q, q < H.size → AX q → A0 q)
    (kx : ∀ (E : String) (ce : Cell) (q9 : Addr) (u : SX) (t : State) (H1 : Heap) (locs1 : List Loc), t.heap = H1 → s.vm.Alike t.vm → px u → BX E u t → H.size ≤ H1.size → (∀ q : Nat, q < H.size → ¬ AX q → H1[q]? = H[q]?) → va_S A0 H0 H1 locs1 → H1[q9]? = some ce → ce.vm = .none → s.vm.findClass E = some ce.cls → vx_W p l e R s m args below meth c H1 locs1 (cells + mc) (slots + ms) Q (F0 m pc ls rest) q9)
    (kk : ∀ (r : Int64) (u : S) (t : State) (H1 : Heap) (locs1 : List Loc), t.heap = H1 → s.vm.Alike t.vm → post r u → B u t → H.size ≤ H1.size → (∀ q : Nat, q < H.size → ¬ A1 q → H1[q]? = H[q]?) → va_S A0 H0 H1 locs1 → W p l e R s m args below meth c H1 locs1 (cells + mc) (slots + ms) Q (F0 m (pc + 3) ls (.long r :: rest))) : W p l e R s m args below meth c H locs cells slots Q (F0 m pc ls st0) := by
  intro T hT X
  rcases hr T hT X with ⟨v, st₀, t, T', L, h0, X', hL, e1, e2, ⟨⟨r, u, hv, hp, hb⟩, hF⟩, st⟩ | ⟨q, st₀, t, T', L, E, ce, h0, X', hL, e1, e2, ⟨u, hp, hb, hF⟩, hce, hcv, hcl, st⟩
  · cases hv
    obtain ⟨k1, k2, k3⟩ := vx_keep h0 e1 hS hA hf hL hF
    obtain ⟨t2, a1, b1⟩ := kk r u t T'.heap (locs ++ L) e1.symm (by rw [← e2]; exact X'.warmed.alike) hp hb k1 k2 k3 T' rfl X'
    exact ⟨t2, st t2 a1, b1⟩
  · obtain ⟨k1, k2, k3⟩ := vx_keep h0 e1 hS hAX hf hL hF
    obtain ⟨t2, a1, b1⟩ := kx E ce q u t T'.heap (locs ++ L) e1.symm (by rw [← e2]; exact X'.warmed.alike) hp hb k1 k2 k3 (by rw [e1]; exact hce) hcv hcl T' rfl X'
    exact ⟨t2, st.trans a1, b1⟩
theorem vx_callf {S SX : Type} {post : UInt32 → S → Prop} {px : SX → Prop} {B : S → State → Prop} {BX : String → SX → State → Prop} {AX : Nat → Prop} (hr : vx_Run p l e R s m args below meth c H locs cells slots mc ms (F0 m pc ls st0) rest (va_Qf post B A1 a) (vx_X px BX AX) free) (hS : va_S A0 H0 H locs) (hA : ∀ q, q < H.size → A1 q → A0 q) (hf : ∀ q, free q → A0 q) (hAX : ∀ q, q < H.size → AX q → A0 q)
    (kx : ∀ (E : String) (ce : Cell) (q9 : Addr) (u : SX) (t : State) (H1 : Heap) (locs1 : List Loc), t.heap = H1 → s.vm.Alike t.vm → px u → BX E u t → H.size ≤ H1.size → (∀ q : Nat, q < H.size → ¬ AX q → H1[q]? = H[q]?) → va_S A0 H0 H1 locs1 → H1[q9]? = some ce → ce.vm = .none → s.vm.findClass E = some ce.cls → vx_W p l e R s m args below meth c H1 locs1 (cells + mc) (slots + ms) Q (F0 m pc ls rest) q9)
    (kk : ∀ (r : UInt32) (u : S) (t : State) (H1 : Heap) (locs1 : List Loc), t.heap = H1 → s.vm.Alike t.vm → post r u → B u t → H.size ≤ H1.size → (∀ q : Nat, q < H.size → ¬ A1 q → H1[q]? = H[q]?) → va_S A0 H0 H1 locs1 → W p l e R s m args below meth c H1 locs1 (cells + mc) (slots + ms) Q (F0 m (pc + 3) ls (.float r :: rest))) : W p l e R s m args below meth c H locs cells slots Q (F0 m pc ls st0) := by
  intro T hT X
  rcases hr T hT X with ⟨v, st₀, t, T', L, h0, X', hL, e1, e2, ⟨⟨r, u, hv, hp, hb⟩, hF⟩, st⟩ | ⟨q, st₀, t, T', L, E, ce, h0, X', hL, e1, e2, ⟨u, hp, hb, hF⟩, hce, hcv, hcl, st⟩
  · cases hv
    obtain ⟨k1, k2, k3⟩ := vx_keep h0 e1 hS hA hf hL hF
    obtain ⟨t2, a1, b1⟩ := kk r u t T'.heap (locs ++ L) e1.symm (by rw [← e2]; exact X'.warmed.alike) hp hb k1 k2 k3 T' rfl X'
    exact ⟨t2, st t2 a1, b1⟩
  · obtain ⟨k1, k2, k3⟩ := vx_keep h0 e1 hS hAX hf hL hF
    obtain ⟨t2, a1, b1⟩ := kx E ce q u t T'.heap (locs ++ L) e1.symm (by rw [← e2]; exact X'.warmed.alike) hp hb k1 k2 k3 (by rw [e1]; exact hce) hcv hcl T' rfl X'
    exact ⟨t2, st.trans a1, b1⟩
theorem vx_calld {S SX : Type} {post : UInt64 → S → Prop} {px : SX → Prop} {B : S → State → Prop} {BX : String → SX → State → Prop} {AX : Nat → Prop} (hr : vx_Run p l e R s m args below meth c H locs cells slots mc ms (F0 m pc ls st0) rest (va_Qd post B A1 a) (vx_X px BX AX) free) (hS : va_S A0 H0 H locs) (hA : ∀ q, q < H.size → A1 q → A0 q) (hf : ∀ q, free q → A0 q) (hAX : ∀ q, q < H.size → AX q → A0 q)
    (kx : ∀ (E : String) (ce : Cell) (q9 : Addr) (u : SX) (t : State) (H1 : Heap) (locs1 : List Loc), t.heap = H1 → s.vm.Alike t.vm → px u → BX E u t → H.size ≤ H1.size → (∀ q : Nat, q < H.size → ¬ AX q → H1[q]? = H[q]?) → va_S A0 H0 H1 locs1 → H1[q9]? = some ce → ce.vm = .none → s.vm.findClass E = some ce.cls → vx_W p l e R s m args below meth c H1 locs1 (cells + mc) (slots + ms) Q (F0 m pc ls rest) q9)
    (kk : ∀ (r : UInt64) (u : S) (t : State) (H1 : Heap) (locs1 : List Loc), t.heap = H1 → s.vm.Alike t.vm → post r u → B u t → H.size ≤ H1.size → (∀ q : Nat, q < H.size → ¬ A1 q → H1[q]? = H[q]?) → va_S A0 H0 H1 locs1 → W p l e R s m args below meth c H1 locs1 (cells + mc) (slots + ms) Q (F0 m (pc + 3) ls (.double r :: rest))) : W p l e R s m args below meth c H locs cells slots Q (F0 m pc ls st0) := by
  intro T hT X
  rcases hr T hT X with ⟨v, st₀, t, T', L, h0, X', hL, e1, e2, ⟨⟨r, u, hv, hp, hb⟩, hF⟩, st⟩ | ⟨q, st₀, t, T', L, E, ce, h0, X', hL, e1, e2, ⟨u, hp, hb, hF⟩, hce, hcv, hcl, st⟩
  · cases hv
    obtain ⟨k1, k2, k3⟩ := vx_keep h0 e1 hS hA hf hL hF
    obtain ⟨t2, a1, b1⟩ := kk r u t T'.heap (locs ++ L) e1.symm (by rw [← e2]; exact X'.warmed.alike) hp hb k1 k2 k3 T' rfl X'
    exact ⟨t2, st t2 a1, b1⟩
  · obtain ⟨k1, k2, k3⟩ := vx_keep h0 e1 hS hAX hf hL hF
    obtain ⟨t2, a1, b1⟩ := kx E ce q u t T'.heap (locs ++ L) e1.symm (by rw [← e2]; exact X'.warmed.alike) hp hb k1 k2 k3 (by rw [e1]; exact hce) hcv hcl T' rfl X'
    exact ⟨t2, st.trans a1, b1⟩
theorem vx_callv {S SX : Type} {post : S → Prop} {px : SX → Prop} {B : S → State → Prop} {BX : String → SX → State → Prop} {AX : Nat → Prop} (hr : vx_Run p l e R s m args below meth c H locs cells slots mc ms (F0 m pc ls st0) rest (va_Qv post B A1 a) (vx_X px BX AX) free) (hS : va_S A0 H0 H locs) (hA : ∀ q, q < H.size → A1 q → A0 q) (hf : ∀ q, free q → A0 q) (hAX : ∀ q, q < H.size → AX q → A0 q)
    (kx : ∀ (E : String) (ce : Cell) (q9 : Addr) (u : SX) (t : State) (H1 : Heap) (locs1 : List Loc), t.heap = H1 → s.vm.Alike t.vm → px u → BX E u t → H.size ≤ H1.size → (∀ q : Nat, q < H.size → ¬ AX q → H1[q]? = H[q]?) → va_S A0 H0 H1 locs1 → H1[q9]? = some ce → ce.vm = .none → s.vm.findClass E = some ce.cls → vx_W p l e R s m args below meth c H1 locs1 (cells + mc) (slots + ms) Q (F0 m pc ls rest) q9)
    (kk : ∀ (u : S) (t : State) (H1 : Heap) (locs1 : List Loc), t.heap = H1 → s.vm.Alike t.vm → post u → B u t → H.size ≤ H1.size → (∀ q : Nat, q < H.size → ¬ A1 q → H1[q]? = H[q]?) → va_S A0 H0 H1 locs1 → W p l e R s m args below meth c H1 locs1 (cells + mc) (slots + ms) Q (F0 m (pc + 3) ls (rest))) : W p l e R s m args below meth c H locs cells slots Q (F0 m pc ls st0) := by
  intro T hT X
  rcases hr T hT X with ⟨v, st₀, t, T', L, h0, X', hL, e1, e2, ⟨⟨u, hv, hp, hb⟩, hF⟩, st⟩ | ⟨q, st₀, t, T', L, E, ce, h0, X', hL, e1, e2, ⟨u, hp, hb, hF⟩, hce, hcv, hcl, st⟩
  · cases hv
    obtain ⟨k1, k2, k3⟩ := vx_keep h0 e1 hS hA hf hL hF
    obtain ⟨t2, a1, b1⟩ := kk u t T'.heap (locs ++ L) e1.symm (by rw [← e2]; exact X'.warmed.alike) hp hb k1 k2 k3 T' rfl X'
    exact ⟨t2, st t2 a1, b1⟩
  · obtain ⟨k1, k2, k3⟩ := vx_keep h0 e1 hS hAX hf hL hF
    obtain ⟨t2, a1, b1⟩ := kx E ce q u t T'.heap (locs ++ L) e1.symm (by rw [← e2]; exact X'.warmed.alike) hp hb k1 k2 k3 (by rw [e1]; exact hce) hcv hcl T' rfl X'
    exact ⟨t2, st.trans a1, b1⟩
/-- caught by the row x of this method's table; the rows ahead don't take it -/
theorem vx_catch {own name : String} {E : String} {ce : Cell} {q : Addr} (hown : s.vm.findClass own = some m.cls) (pre : List ExceptionTableEntry) (x : ExceptionTableEntry) (suf : List ExceptionTableEntry) (hsplit : c.exceptionTable.toList = pre ++ x :: suf)
    (hpass : ∀ z ∈ pre, covers z pc = false ∨ (z.catchType ≠ 0 ∧ ∃ nm : String, (Cond.classLink own z.catchType nm).before args s = true ∧ va_Nc E nm s)) (hx : covers x pc = true) (h0 : x.catchType ≠ 0)
    (hlink : (Cond.classLink own x.catchType name).before args s = true) (hcast : (Cond.castable E name).before args s = true) (hcell : H[q]? = some ce) (hv : ce.vm = .none) (hcl : s.vm.findClass E = some ce.cls)
    (kk : W p l e R s m args below meth c H locs cells slots Q (F0 m x.handlerPc ls [.ref q])) : vx_W p l e R s m args below meth c H locs cells slots Q (F0 m pc ls rest) q := by
  intro T hT X
  have hpl : e.platform.magicAccessors = ({} : Platform).magicAccessors := by rw [X.admits.platform]
  obtain ⟨c3, c4, hc3, hc4, hasg⟩ := Cond.castable_spec hcast
  cases Option.some.inj (hc3.symm.trans hcl)
  obtain ⟨c5, hc5, hcl5⟩ := Cond.classLink_spec hown hlink e.platform hpl
  cases Option.some.inj (hc4.symm.trans hc5)
  obtain ⟨vm', X', st⟩ := X.thenCaughtThrough q (g := F0 m pc ls rest) rfl (Steps.refl _) (by rw [hT]; exact hcell) (by rw [hv]; rfl) (by obtain ⟨k9, h9, -⟩ := Vm.findClass_spec hcl; exact ⟨k9, h9⟩) pre x suf hsplit
    (fun z hz => by
      rcases hpass z hz with h | ⟨hz0, nm, hl1, hn1⟩
      · exact Or.inl h
      · obtain ⟨c6, hc6, hcl6⟩ := Cond.classLink_spec hown hl1 e.platform hpl
        obtain ⟨a8, b8, h1, h2, h3⟩ := hn1
        cases Option.some.inj (h1.symm.trans hcl)
        cases Option.some.inj (h2.symm.trans hc6)
        exact Or.inr ⟨hz0, _, hcl6, h3⟩) hx (Or.inr ⟨h0, c4, hcl5, hasg⟩)
  obtain ⟨t, a1, b1⟩ := kk (T.setVm vm') hT X'
  exact ⟨t, st.trans a1, b1⟩
end Rows
section Ends
variable {p : Program} {l : Launch} {e : Env} {R : Room} {s : State} {m : MethodId} {args : Array Value} {below : List Frame} {meth : Method} {c : Code} {H : Heap} {locs : List Loc} {cells slots : Nat} {Q : State → Prop}
variable {mc ms : Nat} {free : Addr → Prop} {A0 A1 : Nat → Prop} {H0 : Heap} {a : Array Value} {ls : Array Slot} {st0 rest : List Value}
variable {Qc : Array Value → State → Outcome → State → Prop} {XC : String → State → State → Prop}
/-- what a body that may throw owes at its end -/
def vx_MQ (below : List Frame) (Qc : Array Value → State → Outcome → State → Prop) (XC : String → State → State → Prop) (a : Array Value) (s : State) (mc ms : Nat) (free : Addr → Prop) : State → Prop := fun t =>
  ∃ o, t.status = .running ∧ Ended t below o ∧ vx_Q Qc XC mc ms free a s o t
theorem vx_ret {g : JFrame} {mc ms : Nat} (k : W p l e R s m args below meth c H locs cells slots (MQ below Qc args s mc ms free) g) : W p l e R s m args below meth c H locs cells slots (vx_MQ below Qc XC args s mc ms free) g := by
  intro T hT X
  obtain ⟨t, a1, o, b1, b2, b3, b4⟩ := k T hT X
  exact ⟨t, a1, o, b1, b2, Or.inl ⟨b3, b4⟩⟩
/-- not caught here: it goes on to the caller -/
theorem vx_widen {g : JFrame} {q : Addr} {k n : Nat} (h1 : cells ≤ k) (h2 : slots ≤ n) (kk : vx_W p l e R s m args below meth c H locs k n Q g q) : vx_W p l e R s m args below meth c H locs cells slots Q g q := fun T hT X => kk T hT (stand_widen X h1 h2)
theorem vx_out {pc : Nat} {E : String} {ce : Cell} {q : Addr} {mc ms : Nat} (hout : ∀ x ∈ c.exceptionTable.toList, covers x pc = false) (hlocks : meth.locks = false) (hcell : H[q]? = some ce) (hv : ce.vm = .none) (hcl : s.vm.findClass E = some ce.cls)
    (hx : ∀ t : State, t.heap = H → s.vm.Alike t.vm → XC E s t) (hf : ∀ z ∈ locs, free z.base) (hc : cells ≤ mc) (hs : slots ≤ ms) :
    vx_W p l e R s m args below meth c H locs cells slots (vx_MQ below Qc XC args s mc ms free) (F0 m pc ls rest) q := by
  intro T hT X
  obtain ⟨st1, hrun, hend, hW, hsm⟩ := X.leaveThrown q (g := F0 m pc ls rest) rfl rfl rfl hout hlocks
  have hcell9 : (T.setFrames (.throwing q :: below)).heap[q]? = some ce := by
    show T.heap[q]? = some ce
    rw [hT]; exact hcell
  exact ⟨_, st1, .threw q, hrun, hend, Or.inr ⟨q, rfl, E, ce, locs, hx _ hT hW.alike, hcell9, hv, hcl, hW, hsm.mono hc hs, hf⟩⟩
theorem vx_frame {U : State} {k n : Nat} (h : s.sameButNew ({ U with vm := s.vm } : State) locs k n) : s.heap.size ≤ U.heap.size ∧ ∀ q : Nat, q < s.heap.size → (∀ z ∈ locs, z.base ≠ q) → U.heap[q]? = s.heap[q]? := by
  obtain ⟨-, h2, -, -, -, h6⟩ := h
  refine ⟨h2, fun q hq hz => ?_⟩
  obtain ⟨c9, e1, e2, e3, e4⟩ := h6 q _ (Array.getElem?_eq_getElem hq)
  have hs : c9.slots = (s.heap[q]).slots := Array.ext_getElem? fun i => e4 i fun hm => hz _ hm rfl
  have h9 : c9 = s.heap[q] := by
    rw [hs] at e2
    exact e2
  have e5 : U.heap[q]? = some c9 := e1
  rw [e5, h9, Array.getElem?_eq_getElem hq]
/-- the words of a throw but the four that speak of the heap -/
def vx_no (w : Cond) : Bool := decide (w ≠ .isRef (.static Bundle.tN "UNASSIGNED_STACK" Bundle.steD)) && decide (w ≠ .isRef (.static Bundle.tN "SUPPRESSED_SENTINEL" Bundle.listD)) && decide (w ≠ .laysStatic Bundle.tN "UNASSIGNED_STACK" Bundle.steD) && decide (w ≠ .laysStatic Bundle.tN "SUPPRESSED_SENTINEL" Bundle.listD)
def vx_at0 (own : String) (ic : Nat) (X : String) (names : List String) : List Cond := (Bundle.ownAtoms0 own ic X names).filter vx_no
def vx_atS (own : String) (ic : Nat) (X : String) (names : List String) : List Cond := (Bundle.ownAtoms own ic X names).filter vx_no
/-- a word that the tables alone decide, or a good one -/
def vx_ot (w : Cond) : Bool := w.onTables || goodWord w
theorem vx_ot_at {args a' : Array Value} {s U : State} {w : Cond} (hW : s.WarmedH U.vm) (hvm : s.vm = U.vm) (hg : vx_ot w = true) (h : w.before args s = true) : w.before a' U = true := by
  simp only [vx_ot, Bool.or_eq_true] at hg
  rcases hg with hg | hg
  · exact va_tabs hg hvm h
  · exact word_at hW (good_of_word hg) h
/-- a list's words: the good ones out of the method's own list, the others by premises of their own -/
theorem vx_hat {args : Array Value} {s : State} {L B : List Cond} (h1 : ∀ w ∈ L.filter goodWord, w.before args s = true) (h2 : ∀ w ∈ L.filter (fun w => !goodWord w), w ∈ B) (h3 : ∀ w ∈ B, w.before args s = true) : ∀ w ∈ L, w.before args s = true := by
  intro w hw
  by_cases g : goodWord w = true
  · exact h1 w (List.mem_filter.mpr ⟨hw, g⟩)
  · refine h3 w (h2 w (List.mem_filter.mpr ⟨hw, ?_⟩))
    show (!goodWord w) = true
    cases hgw : goodWord w
    · rfl
    · exact absurd hgw g
theorem vx_c {args : Array Value} {s : State} {w : Cond} {B : List Cond} (h : w.before args s = true) (t : ∀ w ∈ B, w.before args s = true) : ∀ w' ∈ w :: B, w'.before args s = true := fun w' h' => (List.mem_cons.mp h').elim (fun e => by rw [e]; exact h) (t w')
theorem vx_n {args : Array Value} {s : State} : ∀ w ∈ ([] : List Cond), w.before args s = true := fun _ h => nomatch h
theorem vx_own {args : Array Value} {s : State} {L : List Cond} (h1 : ∀ w ∈ L.filter vx_no, w.before args s = true)
    (hU : (Cond.isRef (.static Bundle.tN "UNASSIGNED_STACK" Bundle.steD)).before args s = true) (hN : (Cond.isRef (.static Bundle.tN "SUPPRESSED_SENTINEL" Bundle.listD)).before args s = true)
    (lU : (Cond.laysStatic Bundle.tN "UNASSIGNED_STACK" Bundle.steD).before args s = true) (lN : (Cond.laysStatic Bundle.tN "SUPPRESSED_SENTINEL" Bundle.listD).before args s = true) : ∀ w ∈ L, w.before args s = true := by
  intro w hw
  by_cases e1 : w = .isRef (.static Bundle.tN "UNASSIGNED_STACK" Bundle.steD)
  · rw [e1]; exact hU
  · by_cases e2 : w = .isRef (.static Bundle.tN "SUPPRESSED_SENTINEL" Bundle.listD)
    · rw [e2]; exact hN
    · by_cases e3 : w = .laysStatic Bundle.tN "UNASSIGNED_STACK" Bundle.steD
      · rw [e3]; exact lU
      · by_cases e4 : w = .laysStatic Bundle.tN "SUPPRESSED_SENTINEL" Bundle.listD
        · rw [e4]; exact lN
        · exact h1 w (List.mem_filter.mpr ⟨hw, by unfold vx_no; rw [decide_eq_true e1, decide_eq_true e2, decide_eq_true e3, decide_eq_true e4]; rfl⟩)
/-- where a static field lies, its class's statics cell in H -/
def vx_L (C n d : String) (A : Nat → Prop) (U : State) (H : Heap) : Prop := ∃ (c : ClassId) (k : Class) (i : Nat) (f : Field) (a : Nat) (cell : Cell), U.vm.findClass C = some c ∧ U.fieldFound? C n d = some (c, k, i, f) ∧ f.isStatic = true ∧ k.statics = some a ∧ H[a]? = some cell ∧ cell.vm.isStatics = true ∧ cell.cls = c ∧ f.slot < cell.slots.size ∧ k.staticTypes[f.slot]? = some f.type ∧ ¬ A a
theorem vx_L.moved {C n d : String} {A : Nat → Prop} {u U : State} {H : Heap} (hvm : u.vm.Alike U.vm) (h : vx_L C n d A u H) : vx_L C n d A U H := by
  obtain ⟨c, k, i, f, a, cell, h1, h2, h3, h4, h5, h6, h7, h8, h9, h10⟩ := h
  obtain ⟨k', hi', he⟩ := State.fieldFound?_setVm hvm h2
  exact ⟨c, k', i, f, a, cell, by rw [hvm.findClass]; exact h1, hi', h3, by rw [he]; exact h4, h5, h6, h7, h8, by rw [he]; exact h9, h10⟩
theorem vx_L.kept {C n d : String} {A : Nat → Prop} {U : State} {H H1 : Heap} (h : vx_L C n d A U H) (hq : ∀ a : Nat, a < H.size → ¬ A a → H1[a]? = H[a]?) : vx_L C n d A U H1 := by
  obtain ⟨c, k, i, f, a, cell, h1, h2, h3, h4, h5, h6, h7, h8, h9, h10⟩ := h
  exact ⟨c, k, i, f, a, cell, h1, h2, h3, h4, by rw [hq a (Array.getElem?_eq_some_iff.mp h5).1 h10]; exact h5, h6, h7, h8, h9, h10⟩
theorem vx_L.narrow {C n d : String} {A B : Nat → Prop} {U : State} {H : Heap} (h : vx_L C n d A U H) (hAB : ∀ q, B q → A q) : vx_L C n d B U H := by
  obtain ⟨c, k, i, f, a, cell, h1, h2, h3, h4, h5, h6, h7, h8, h9, h10⟩ := h
  exact ⟨c, k, i, f, a, cell, h1, h2, h3, h4, h5, h6, h7, h8, h9, fun z => h10 (hAB _ z)⟩
theorem vx_L.word {C n d : String} {A : Nat → Prop} {s : State} {args : Array Value} (h : vx_L C n d A s s.heap) : (Cond.laysStatic C n d).before args s = true := by
  obtain ⟨c, k, i, f, a, cell, h1, h2, h3, h4, h5, h6, h7, h8, h9, -⟩ := h
  show (Cond.laysStatic C n d).holds args s none s [] = true
  exact Cond.laysStatic_of h1 h2 h3 h4 h5 h6 h7 h8 h9
/-- .. and what it holds: null or some reference -/
def vx_Zq (C n d : String) (A : Nat → Prop) (U : State) (H : Heap) : Prop := va_Zq C n d A U H ∧ vx_L C n d A U H
theorem vx_Zq.moved {C n d : String} {A : Nat → Prop} {u U : State} {H : Heap} (hvm : u.vm.Alike U.vm) (h : vx_Zq C n d A u H) : vx_Zq C n d A U H := ⟨va_Zq.moved hvm h.1, vx_L.moved hvm h.2⟩
theorem vx_Zq.kept {C n d : String} {A : Nat → Prop} {U : State} {H H1 : Heap} (h : vx_Zq C n d A U H) (hq : ∀ a : Nat, a < H.size → ¬ A a → H1[a]? = H[a]?) : vx_Zq C n d A U H1 := ⟨va_Zq.kept h.1 hq, vx_L.kept h.2 hq⟩
theorem vx_Zq.narrow {C n d : String} {A B : Nat → Prop} {U : State} {H : Heap} (h : vx_Zq C n d A U H) (hAB : ∀ q, B q → A q) : vx_Zq C n d B U H := ⟨va_Zq.narrow h.1 hAB, vx_L.narrow h.2 hAB⟩
theorem vx_Zqof {args : Array Value} {s : State} {C n d : String} {A : Nat → Prop} (hl : (Cond.laysStatic C n d).before args s = true) (hini : (Cond.initialized C).before args s = true) (h : (Cond.isRef (.static C n d)).before args s = true) (hA : ∀ a : Nat, a < s.heap.size → ¬ A a) : vx_Zq C n d A s s.heap := by
  refine ⟨va_Zqof hl hini h hA, ?_⟩
  obtain ⟨c, k, i, f, a, cell, h1, h2, h3, h4, h5, h6, h7, h8, h9⟩ := Cond.laysStatic_spec hl
  exact ⟨c, k, i, f, a, cell, h1, h2, h3, h4, h5, h6, h7, h8, h9, hA a (Array.getElem?_eq_some_iff.mp h5).1⟩
theorem vx_isRef {C n d : String} {v : Value} {A : Nat → Prop} {s : State} {args : Array Value} (h : va_Z C n d v A s s.heap) (hv : v.isRef = true) : (Cond.isRef (.static C n d)).before args s = true := by
  obtain ⟨cf, kf, fi, f, a, cell, h1, h2, h3, h4, h5, h6, h7, -⟩ := h
  have he : (Term.static C n d).eval args s none [] s = some v := by
    simp [Term.eval, State.fieldNamed?, h1, h2, h4, h5, h6, h7]
  simp only [Cond.before, Cond.holds, Cond.value, he]
  cases v <;> simp_all [Value.isRef]
theorem vx_isRefq {C n d : String} {A : Nat → Prop} {s : State} {args : Array Value} (h : va_Zq C n d A s s.heap) : (Cond.isRef (.static C n d)).before args s = true := by
  rcases h with h | ⟨t, h⟩
  · exact vx_isRef h rfl
  · exact vx_isRef h rfl
/-- the same frame, seen from here: as if the method were called anew in this heap -/
theorem vx_rebase {T : State} (X : Stand p l e R s m args below meth c T locs cells slots) {R' : Room} (hf : R'.frames ≤ R.frames) (hl : R'.locals ≤ R.locals) (hc : cells + R'.cells ≤ R.cells) (hs : slots + R'.slots ≤ R.slots) :
    Stand p l e R' ((T.setVm s.vm).setFrames (.invoking m args :: below)) m args below meth c T [] 0 0 := by
  have htop : (T.setVm s.vm).topJava?.isSome := X.here.top
  have hF : ((T.setVm s.vm).setFrames (.invoking m args :: below)).frames = .invoking m args :: below := State.frames_setFrames _ (State.cur_lt_of_top htop)
  obtain ⟨g₀, hg0⟩ := Option.isSome_iff_exists.mp htop
  obtain ⟨r, hr⟩ := State.topJava?_eq_some.mp hg0
  have hl9 : e.platform.stackLimits (T.setVm s.vm).me = e.platform.stackLimits s.me := X.limits
  have hb9 : (T.setVm s.vm).me.stackBytes = s.me.stackBytes := X.bytes
  refine ⟨X.admits, X.cas, X.clock, hF, ?_, X.hears, X.method, X.code, X.here, X.tail, X.warmed, ?_, ?_, ?_⟩
  · have h := X.room
    have hU : ((T.setVm s.vm).setFrames (.invoking m args :: below)).localsInUse = s.localsInUse := by
      rw [State.localsInUse_invoking hF (meth := meth) (c := c) X.method X.code, State.localsInUse_invoking X.frames X.method X.code]
    simp only [State.hasRoom, Bool.and_eq_true, decide_eq_true_eq] at h ⊢
    obtain ⟨⟨⟨⟨h1, h2, h3, h4, h5, h6⟩, h7⟩, h8⟩, h9⟩ := h
    rw [X.frames, List.length_cons] at h2 h3
    have q1 := X.heapSize
    have q2 := X.used
    simp only [hF, hU, List.length_cons, State.stackLimits_setFrames, State.stackBytes_setFrames, hl9, hb9]
    refine ⟨⟨⟨⟨by omega, by omega, by omega, by omega, by omega, h6⟩, ?_⟩, ?_⟩, X.book⟩
    · show T.heap.size + R'.cells ≤ e.platform.maxCells
      omega
    · show T.slotsUsed + R'.slots ≤ e.platform.maxSlots
      omega
  · rw [State.stackLimits_setFrames]; rfl
  · rw [State.stackBytes_setFrames]; rfl
  · refine ⟨?_, Nat.le_refl _, Nat.le_refl _, ?_, ?_, fun a c9 h9 => ⟨c9, h9, rfl, rfl, fun _ _ => rfl⟩⟩
    · obtain ⟨t, ht, -⟩ := State.frames_cons hr
      show T.setVm s.vm = { ((T.setVm s.vm).setFrames (.invoking m args :: below)).setFrames (T.setVm s.vm).frames with heap := T.heap, slotsUsed := T.slotsUsed }
      rw [State.setFrames_setFrames, State.setFrames_self ht]
      rfl
    · show T.slotsUsed = T.slotsUsed + ((T.heap.toList.drop T.heap.size).map (·.slots.size)).sum
      rw [List.drop_eq_nil_of_le (Nat.le_of_eq Array.length_toList)]
      rfl
    · show ((T.heap.toList.drop T.heap.size).map (·.slots.size)).sum ≤ 0
      rw [List.drop_eq_nil_of_le (Nat.le_of_eq Array.length_toList)]
      exact Nat.le_refl _
/-- 'throw new E()': new; dup; invokespecial; athrow -/
theorem vx_throw0 {cc : ByteArray} {pc : Nat} (hexec : p.tables.exec = Jvm.exec) (hb : c.code = cc) (hl : l.stackTraces = false) {own cls : String} {names : List String} {ik ic mc ms : Nat} {A : Nat → Prop}
    (hown : s.vm.findClass own = some m.cls) (hcls : Bundle.fit cls = true) (hnames : ∀ n ∈ names, Bundle.fit n = true)
    (hk : (Cond.classLink own ik cls).before args s = true) (hini : (Cond.initialized cls).before args s = true) (hat : ∀ w ∈ vx_at0 own ic cls names, w.before args s = true)
    (hgood : ∀ w ∈ Cond.classLink own ik cls :: Cond.initialized cls :: vx_at0 own ic cls names, vx_ot w = true)
    (hU : vx_Zq Bundle.tN "UNASSIGNED_STACK" Bundle.steD A s s.heap) (hN : vx_Zq Bundle.tN "SUPPRESSED_SENTINEL" Bundle.listD A s s.heap) (hS : va_S A s.heap H locs) (hsize : ls.size = c.maxLocals)
    (d0 : decode cc pc = .ok (.new ik, 3)) (d3 : decode cc (pc + 3) = .ok (.dup, 1)) (d4 : decode cc (pc + 4) = .ok (.invokespecial ic, 3)) (d7 : decode cc (pc + 7) = .ok (.athrow, 1))
    (hout : ∀ x ∈ c.exceptionTable.toList, covers x (pc + 7) = false)
    (hRframes : names.length + 3 < R.frames) (hRlocals : (rest.map fun v => v.category).sum + (13 * (names.length + 1) + 42) ≤ R.locals) (hRcells : cells + 1 ≤ R.cells) (hRslots : slots + 6 ≤ R.slots) (hlocks : meth.locks = false)
    (hx : ∀ t : State, s.vm.Alike t.vm → H.size ≤ t.heap.size → (∀ q : Nat, q < H.size → t.heap[q]? = H[q]?) → XC cls s t)
    (hf : ∀ z ∈ locs, free z.base) (hc : cells + 1 ≤ mc) (hs : slots + 6 ≤ ms) :
    W p l e R s m args below meth c H locs cells slots (vx_MQ below Qc XC args s mc ms free) (F0 m pc ls rest) := by
  intro T hT X
  have htr : e.platform.stackTraces = false := (show e.platform.stackTraces = l.stackTraces by rw [X.admits.platform]).trans hl
  have Y := vx_rebase X (R' := { frames := R.frames, locals := R.locals, cells := 1, slots := 6 }) (Nat.le_refl _) (Nat.le_refl _) hRcells hRslots
  obtain ⟨s', hA⟩ : ∃ z, z = (T.setVm s.vm).setFrames (.invoking m args :: below) := ⟨_, rfl⟩
  rw [← hA] at Y
  have hvm : s'.vm = s.vm := by rw [hA]; rfl
  have hhp : s'.heap = H := by rw [hA]; exact hT
  have hW0 : s.WarmedH s'.vm := by rw [hvm]; exact State.WarmedH.refl s
  have hat' : ∀ w ∈ vx_at0 own ic cls names, w.before args s' = true := fun w hw => vx_ot_at hW0 hvm.symm (hgood w (List.mem_cons_of_mem _ (List.mem_cons_of_mem _ hw))) (hat w hw)
  have hk' : (Cond.classLink own ik cls).before args s' = true := vx_ot_at hW0 hvm.symm (hgood _ List.mem_cons_self) hk
  have hini' : (Cond.initialized cls).before args s' = true := vx_ot_at hW0 hvm.symm (hgood _ (List.mem_cons_of_mem _ List.mem_cons_self)) hini
  have hU' : vx_Zq Bundle.tN "UNASSIGNED_STACK" Bundle.steD A s' s'.heap := by rw [hhp]; exact vx_Zq.moved hW0.alike (hU.kept hS.2.1)
  have hN' : vx_Zq Bundle.tN "SUPPRESSED_SENTINEL" Bundle.listD A s' s'.heap := by rw [hhp]; exact vx_Zq.moved hW0.alike (hN.kept hS.2.1)
  have h : ∀ w ∈ Bundle.ownAtoms0 own ic cls names, w.before args s' = true := vx_own hat' (vx_isRefq hU'.1) (vx_isRefq hN'.1) hU'.2.word hN'.2.word
  have hown' : s'.vm.findClass own = some m.cls := by rw [hvm]; exact hown
  have hins : (Cond.instantiable cls 6).before args s' = true := h _ (by simp [Bundle.ownAtoms0])
  obtain ⟨vm₁, cX, kX, hfX, hkX, -, -, X₁, st1⟩ := Y.newCold hexec (own := own) (C := cls) (index := ik) (n := 6) hown' hk' hins hini'
    (g := F0 m pc ls rest) rfl (by rw [hb]; exact d0) (Nat.le_refl _) (Nat.le_refl _)
  generalize hT1 : (T.setVm vm₁).pushCell { cls := cX, slots := kX.instanceTypes.map defaultValue, vm := .none } = T1 at X₁ st1
  have hcat : (Value.ref T.heap.size).category = 1 := rfl
  have hcellA : T1.heap[T.heap.size]? = some (freshCell cX kX) := by rw [← hT1]; exact State.heap_pushCell_size _ _
  have d3' : decode c.code (pc + 3) = .ok (.dup, 1) := by rw [hb]; exact d3
  obtain ⟨U, hsteps, hrun, hend, hW, hsame, ce, hce, hO⟩ := X₁.ctorThrow0 hexec htr (own := own) (cls := cls) (names := names) (ic := ic) hown' hcls hnames h (fun x hx => nomatch hx) hfX hkX hcellA (by rw [hhp, hT]; exact Nat.le_refl _)
    (g := { method := m, pc := pc + 4, locals := ls, stack := .ref T.heap.size :: .ref T.heap.size :: rest, locked := none }) rfl hsize rfl rfl (rest := rest) rfl
    (by rw [hb]; exact d4) (by rw [hb]; exact d7) hout hRframes (by simp only [List.map_cons, List.sum_cons, hcat]; omega) hlocks
  obtain ⟨f1, f2⟩ := vx_frame hsame
  rw [hhp] at f1 f2
  have hWs : s.WarmedH U.vm := State.WarmedH.trans hW0 hW
  have hcl : s.vm.findClass cls = some ce.cls := by
    have h9 := hO.cls
    rw [hvm] at h9
    exact h9
  have hall : s.sameButNew ({ U with vm := s.vm } : State) locs mc ms := by
    subst hA
    obtain ⟨e1, e2⟩ := hsame
    rw [State.setFrames_setFrames] at e1
    have h2 : (T.setVm s.vm).sameButNew ({ U with vm := s.vm } : State) [] (0 + 1) (0 + 6) := ⟨e1, e2⟩
    have h3 := X.same.trans h2
    rw [List.append_nil] at h3
    exact h3.mono hc hs
  refine ⟨U, ?_, .threw T.heap.size, hrun, hend, Or.inr ⟨T.heap.size, rfl, cls, ce, locs, hx U hWs.alike f1 (fun q hq => f2 q hq (fun z hz => nomatch hz)), hce, hO.vm, hcl, hWs, hall, hf⟩⟩
  refine st1 _ ?_
  show Steps p.tables e below (T1.setTop { method := m, pc := pc + 3, locals := ls, stack := .ref T.heap.size :: rest, locked := none }) _
  jvm_step X₁.here [X₁.here.top, hexec, d3', Value.category]
  exact hsteps
/-- 'throw new E("text")': new; dup; ldc; invokespecial; athrow -/
theorem vx_throwS {cc : ByteArray} {pc : Nat} (hexec : p.tables.exec = Jvm.exec) (hb : c.code = cc) (hl : l.stackTraces = false) {own cls text : String} {names : List String} {ik is ic mc ms sa : Nat} {A : Nat → Prop}
    (hown : s.vm.findClass own = some m.cls) (hcls : Bundle.fit cls = true) (hnames : ∀ n ∈ names, Bundle.fit n = true)
    (hk : (Cond.classLink own ik cls).before args s = true) (hini : (Cond.initialized cls).before args s = true) (hstr : vk_R own is text sa s) (hat : ∀ w ∈ vx_atS own ic cls names, w.before args s = true)
    (hgood : ∀ w ∈ Cond.classLink own ik cls :: Cond.initialized cls :: vx_atS own ic cls names, vx_ot w = true)
    (hU : vx_Zq Bundle.tN "UNASSIGNED_STACK" Bundle.steD A s s.heap) (hN : vx_Zq Bundle.tN "SUPPRESSED_SENTINEL" Bundle.listD A s s.heap) (hS : va_S A s.heap H locs) (hsize : ls.size = c.maxLocals)
    (d0 : decode cc pc = .ok (.new ik, 3)) (d3 : decode cc (pc + 3) = .ok (.dup, 1)) (d4 : decode cc (pc + 4) = .ok (.ldc is, 2)) (d6 : decode cc (pc + 6) = .ok (.invokespecial ic, 3)) (d9 : decode cc (pc + 9) = .ok (.athrow, 1))
    (hout : ∀ x ∈ c.exceptionTable.toList, covers x (pc + 9) = false)
    (hRframes : names.length + 3 < R.frames) (hRlocals : (rest.map fun v => v.category).sum + (13 * (names.length + 1) + 43) ≤ R.locals) (hRcells : cells + 1 ≤ R.cells) (hRslots : slots + 6 ≤ R.slots) (hlocks : meth.locks = false)
    (hx : ∀ t : State, s.vm.Alike t.vm → H.size ≤ t.heap.size → (∀ q : Nat, q < H.size → t.heap[q]? = H[q]?) → XC cls s t)
    (hf : ∀ z ∈ locs, free z.base) (hc : cells + 1 ≤ mc) (hs : slots + 6 ≤ ms) :
    W p l e R s m args below meth c H locs cells slots (vx_MQ below Qc XC args s mc ms free) (F0 m pc ls rest) := by
  intro T hT X
  have htr : e.platform.stackTraces = false := (show e.platform.stackTraces = l.stackTraces by rw [X.admits.platform]).trans hl
  have Y := vx_rebase X (R' := { frames := R.frames, locals := R.locals, cells := 1, slots := 6 }) (Nat.le_refl _) (Nat.le_refl _) hRcells hRslots
  obtain ⟨s', hA⟩ : ∃ z, z = (T.setVm s.vm).setFrames (.invoking m args :: below) := ⟨_, rfl⟩
  rw [← hA] at Y
  have hvm : s'.vm = s.vm := by rw [hA]; rfl
  have hhp : s'.heap = H := by rw [hA]; exact hT
  have hW0 : s.WarmedH s'.vm := by rw [hvm]; exact State.WarmedH.refl s
  have hat' : ∀ w ∈ vx_atS own ic cls names, w.before args s' = true := fun w hw => vx_ot_at hW0 hvm.symm (hgood w (List.mem_cons_of_mem _ (List.mem_cons_of_mem _ hw))) (hat w hw)
  have hk' : (Cond.classLink own ik cls).before args s' = true := vx_ot_at hW0 hvm.symm (hgood _ List.mem_cons_self) hk
  have hini' : (Cond.initialized cls).before args s' = true := vx_ot_at hW0 hvm.symm (hgood _ (List.mem_cons_of_mem _ List.mem_cons_self)) hini
  have hU' : vx_Zq Bundle.tN "UNASSIGNED_STACK" Bundle.steD A s' s'.heap := by rw [hhp]; exact vx_Zq.moved hW0.alike (hU.kept hS.2.1)
  have hN' : vx_Zq Bundle.tN "SUPPRESSED_SENTINEL" Bundle.listD A s' s'.heap := by rw [hhp]; exact vx_Zq.moved hW0.alike (hN.kept hS.2.1)
  have h : ∀ w ∈ Bundle.ownAtoms own ic cls names, w.before args s' = true := vx_own hat' (vx_isRefq hU'.1) (vx_isRefq hN'.1) hU'.2.word hN'.2.word
  have hown' : s'.vm.findClass own = some m.cls := by rw [hvm]; exact hown
  have hins : (Cond.instantiable cls 6).before args s' = true := h _ (by simp [Bundle.ownAtoms])
  obtain ⟨vm₁, cX, kX, hfX, hkX, -, -, X₁, st1⟩ := Y.newCold hexec (own := own) (C := cls) (index := ik) (n := 6) hown' hk' hins hini'
    (g := F0 m pc ls rest) rfl (by rw [hb]; exact d0) (Nat.le_refl _) (Nat.le_refl _)
  generalize hT1 : (T.setVm vm₁).pushCell { cls := cX, slots := kX.instanceTypes.map defaultValue, vm := .none } = T1 at X₁ st1
  have hcat : (Value.ref T.heap.size).category = 1 := rfl
  have hcellA : T1.heap[T.heap.size]? = some (freshCell cX kX) := by rw [← hT1]; exact State.heap_pushCell_size _ _
  have d3' : decode c.code (pc + 3) = .ok (.dup, 1) := by rw [hb]; exact d3
  have d4' : decode c.code (pc + 4) = .ok (.ldc is, 2) := by rw [hb]; exact d4
  have hstr' : vk_R own is text sa s' := vk_R.warm hW0 hstr
  obtain ⟨U, hsteps, hrun, hend, hW, hsame, ce, hce, hO⟩ := X₁.ctorThrowS hexec htr (own := own) (cls := cls) (names := names) (ic := ic) hown' hcls hnames h (fun x hx => nomatch hx) hfX hkX hcellA (by rw [hhp, hT]; exact Nat.le_refl _) (msg := .ref sa) rfl
    (g := { method := m, pc := pc + 6, locals := ls, stack := .ref sa :: .ref T.heap.size :: .ref T.heap.size :: rest, locked := none }) rfl hsize rfl rfl (rest := rest) rfl
    (by rw [hb]; exact d6) (by rw [hb]; exact d9) hout hRframes (by simp only [List.map_cons, List.sum_cons, hcat]; omega) hlocks
  obtain ⟨f1, f2⟩ := vx_frame hsame
  rw [hhp] at f1 f2
  have hWs : s.WarmedH U.vm := State.WarmedH.trans hW0 hW
  have hcl : s.vm.findClass cls = some ce.cls := by
    have h9 := hO.cls
    rw [hvm] at h9
    exact h9
  have hall : s.sameButNew ({ U with vm := s.vm } : State) locs mc ms := by
    subst hA
    obtain ⟨e1, e2⟩ := hsame
    rw [State.setFrames_setFrames] at e1
    have h2 : (T.setVm s.vm).sameButNew ({ U with vm := s.vm } : State) [] (0 + 1) (0 + 6) := ⟨e1, e2⟩
    have h3 := X.same.trans h2
    rw [List.append_nil] at h3
    exact h3.mono hc hs
  refine ⟨U, ?_, .threw T.heap.size, hrun, hend, Or.inr ⟨T.heap.size, rfl, cls, ce, locs, hx U hWs.alike f1 (fun q hq => f2 q hq (fun z hz => nomatch hz)), hce, hO.vm, hcl, hWs, hall, hf⟩⟩
  refine st1 _ ?_
  show Steps p.tables e below (T1.setTop { method := m, pc := pc + 3, locals := ls, stack := .ref T.heap.size :: rest, locked := none }) _
  jvm_step X₁.here [X₁.here.top, hexec, d3', Value.category]
  exact X₁.ldcString hexec (own := own) (text := text) (index := is) (a := sa) hown' hstr'.1 hstr'.2
    (g := { method := m, pc := pc + 4, locals := ls, stack := .ref T.heap.size :: .ref T.heap.size :: rest, locked := none }) rfl d4' _ hsteps
/-- 'throw new E("text")', the text by a wide index -/
theorem vx_throwSW {cc : ByteArray} {pc : Nat} (hexec : p.tables.exec = Jvm.exec) (hb : c.code = cc) (hl : l.stackTraces = false) {own cls text : String} {names : List String} {ik is ic mc ms sa : Nat} {A : Nat → Prop}
    (hown : s.vm.findClass own = some m.cls) (hcls : Bundle.fit cls = true) (hnames : ∀ n ∈ names, Bundle.fit n = true)
    (hk : (Cond.classLink own ik cls).before args s = true) (hini : (Cond.initialized cls).before args s = true) (hstr : vk_R own is text sa s) (hat : ∀ w ∈ vx_atS own ic cls names, w.before args s = true)
    (hgood : ∀ w ∈ Cond.classLink own ik cls :: Cond.initialized cls :: vx_atS own ic cls names, vx_ot w = true)
    (hU : vx_Zq Bundle.tN "UNASSIGNED_STACK" Bundle.steD A s s.heap) (hN : vx_Zq Bundle.tN "SUPPRESSED_SENTINEL" Bundle.listD A s s.heap) (hS : va_S A s.heap H locs) (hsize : ls.size = c.maxLocals)
    (d0 : decode cc pc = .ok (.new ik, 3)) (d3 : decode cc (pc + 3) = .ok (.dup, 1)) (d4 : decode cc (pc + 4) = .ok (.ldc_w is, 3)) (d7 : decode cc (pc + 7) = .ok (.invokespecial ic, 3)) (d10 : decode cc (pc + 10) = .ok (.athrow, 1))
    (hout : ∀ x ∈ c.exceptionTable.toList, covers x (pc + 10) = false)
    (hRframes : names.length + 3 < R.frames) (hRlocals : (rest.map fun v => v.category).sum + (13 * (names.length + 1) + 43) ≤ R.locals) (hRcells : cells + 1 ≤ R.cells) (hRslots : slots + 6 ≤ R.slots) (hlocks : meth.locks = false)
    (hx : ∀ t : State, s.vm.Alike t.vm → H.size ≤ t.heap.size → (∀ q : Nat, q < H.size → t.heap[q]? = H[q]?) → XC cls s t)
    (hf : ∀ z ∈ locs, free z.base) (hc : cells + 1 ≤ mc) (hs : slots + 6 ≤ ms) :
    W p l e R s m args below meth c H locs cells slots (vx_MQ below Qc XC args s mc ms free) (F0 m pc ls rest) := by
  intro T hT X
  have htr : e.platform.stackTraces = false := (show e.platform.stackTraces = l.stackTraces by rw [X.admits.platform]).trans hl
  have Y := vx_rebase X (R' := { frames := R.frames, locals := R.locals, cells := 1, slots := 6 }) (Nat.le_refl _) (Nat.le_refl _) hRcells hRslots
  obtain ⟨s', hA⟩ : ∃ z, z = (T.setVm s.vm).setFrames (.invoking m args :: below) := ⟨_, rfl⟩
  rw [← hA] at Y
  have hvm : s'.vm = s.vm := by rw [hA]; rfl
  have hhp : s'.heap = H := by rw [hA]; exact hT
  have hW0 : s.WarmedH s'.vm := by rw [hvm]; exact State.WarmedH.refl s
  have hat' : ∀ w ∈ vx_atS own ic cls names, w.before args s' = true := fun w hw => vx_ot_at hW0 hvm.symm (hgood w (List.mem_cons_of_mem _ (List.mem_cons_of_mem _ hw))) (hat w hw)
  have hk' : (Cond.classLink own ik cls).before args s' = true := vx_ot_at hW0 hvm.symm (hgood _ List.mem_cons_self) hk
  have hini' : (Cond.initialized cls).before args s' = true := vx_ot_at hW0 hvm.symm (hgood _ (List.mem_cons_of_mem _ List.mem_cons_self)) hini
  have hU' : vx_Zq Bundle.tN "UNASSIGNED_STACK" Bundle.steD A s' s'.heap := by rw [hhp]; exact vx_Zq.moved hW0.alike (hU.kept hS.2.1)
  have hN' : vx_Zq Bundle.tN "SUPPRESSED_SENTINEL" Bundle.listD A s' s'.heap := by rw [hhp]; exact vx_Zq.moved hW0.alike (hN.kept hS.2.1)
  have h : ∀ w ∈ Bundle.ownAtoms own ic cls names, w.before args s' = true := vx_own hat' (vx_isRefq hU'.1) (vx_isRefq hN'.1) hU'.2.word hN'.2.word
  have hown' : s'.vm.findClass own = some m.cls := by rw [hvm]; exact hown
  have hins : (Cond.instantiable cls 6).before args s' = true := h _ (by simp [Bundle.ownAtoms])
  obtain ⟨vm₁, cX, kX, hfX, hkX, -, -, X₁, st1⟩ := Y.newCold hexec (own := own) (C := cls) (index := ik) (n := 6) hown' hk' hins hini'
    (g := F0 m pc ls rest) rfl (by rw [hb]; exact d0) (Nat.le_refl _) (Nat.le_refl _)
  generalize hT1 : (T.setVm vm₁).pushCell { cls := cX, slots := kX.instanceTypes.map defaultValue, vm := .none } = T1 at X₁ st1
  have hcat : (Value.ref T.heap.size).category = 1 := rfl
  have hcellA : T1.heap[T.heap.size]? = some (freshCell cX kX) := by rw [← hT1]; exact State.heap_pushCell_size _ _
  have d3' : decode c.code (pc + 3) = .ok (.dup, 1) := by rw [hb]; exact d3
  have d4' : decode c.code (pc + 4) = .ok (.ldc_w is, 3) := by rw [hb]; exact d4
  have hstr' : vk_R own is text sa s' := vk_R.warm hW0 hstr
  obtain ⟨U, hsteps, hrun, hend, hW, hsame, ce, hce, hO⟩ := X₁.ctorThrowS hexec htr (own := own) (cls := cls) (names := names) (ic := ic) hown' hcls hnames h (fun x hx => nomatch hx) hfX hkX hcellA (by rw [hhp, hT]; exact Nat.le_refl _) (msg := .ref sa) rfl
    (g := { method := m, pc := pc + 7, locals := ls, stack := .ref sa :: .ref T.heap.size :: .ref T.heap.size :: rest, locked := none }) rfl hsize rfl rfl (rest := rest) rfl
    (by rw [hb]; exact d7) (by rw [hb]; exact d10) hout hRframes (by simp only [List.map_cons, List.sum_cons, hcat]; omega) hlocks
  obtain ⟨f1, f2⟩ := vx_frame hsame
  rw [hhp] at f1 f2
  have hWs : s.WarmedH U.vm := State.WarmedH.trans hW0 hW
  have hcl : s.vm.findClass cls = some ce.cls := by
    have h9 := hO.cls
    rw [hvm] at h9
    exact h9
  have hall : s.sameButNew ({ U with vm := s.vm } : State) locs mc ms := by
    subst hA
    obtain ⟨e1, e2⟩ := hsame
    rw [State.setFrames_setFrames] at e1
    have h2 : (T.setVm s.vm).sameButNew ({ U with vm := s.vm } : State) [] (0 + 1) (0 + 6) := ⟨e1, e2⟩
    have h3 := X.same.trans h2
    rw [List.append_nil] at h3
    exact h3.mono hc hs
  refine ⟨U, ?_, .threw T.heap.size, hrun, hend, Or.inr ⟨T.heap.size, rfl, cls, ce, locs, hx U hWs.alike f1 (fun q hq => f2 q hq (fun z hz => nomatch hz)), hce, hO.vm, hcl, hWs, hall, hf⟩⟩
  refine st1 _ ?_
  show Steps p.tables e below (T1.setTop { method := m, pc := pc + 3, locals := ls, stack := .ref T.heap.size :: rest, locked := none }) _
  jvm_step X₁.here [X₁.here.top, hexec, d3', Value.category]
  exact X₁.ldcStringW hexec (own := own) (text := text) (index := is) (a := sa) hown' hstr'.1 hstr'.2
    (g := { method := m, pc := pc + 4, locals := ls, stack := .ref T.heap.size :: .ref T.heap.size :: rest, locked := none }) rfl d4' _ hsteps
end Ends
section Bodies
variable {l : Launch}
theorem vx_ofW {y : MethodName} {ws ws' : List Cond} {rm : Room} {Pc : Array Value → State → Prop} {Qc : Array Value → State → Outcome → State → Prop} {XC : String → State → State → Prop} {mc ms : Nat} {free : Addr → Prop} {cc : ByteArray} {maxL : Nat} {ret : Option FieldType}
    (hy : plainName y.cls = true) (hw : ws = Cond.code y cc maxL ret :: ws')
    (body : ∀ p e s m args below meth c s₁, BodyLoose p l y (headSpec ws rm) cc maxL ret e s m args below meth c s₁ → c.maxLocals = maxL → (∀ x ∈ c.exceptionTable.toList, False) → Pc args s →
      W p l e (headSpec ws rm).room s m args below meth c s.heap [] 0 0 (vx_MQ below Qc XC args s mc ms free) (entryFrame m args maxL)) : vx_Met l y ws rm Pc Qc XC mc ms free := by
  refine MetFree.of_bodyS (code := cc) (maxLocals := maxL) (ret := ret) hy ?_ ?_
  · intro args s m h hn
    obtain ⟨meth, c, h1, h2, h3, h4, h5, h6, -, -⟩ := Cond.code_spec hn (atoms_spec (ws := ws) h _ (by rw [hw]; exact List.mem_cons_self))
    exact ⟨meth, c, h1, h2, h3, h4, h5, h6⟩
  · intro p e s m args below meth c s₁ B hml hP _
    have hh0 : s₁.heap = s.heap := by rw [B.state]; rfl
    have ht : ∀ x ∈ c.exceptionTable.toList, False := by
      obtain ⟨meth9, c9, h1, h2, -, -, -, -, h7, -⟩ := Cond.code_spec B.named (atoms_spec (ws := ws) B.pre _ (by rw [hw]; exact List.mem_cons_self))
      cases Option.some.inj (h1.symm.trans B.method)
      cases Option.some.inj (h2.symm.trans (Stand.of_body B).code)
      intro x hx
      rw [Array.isEmpty_iff.mp h7] at hx
      cases hx
    obtain ⟨t, a1, o, b1, b2, b3⟩ := body p e s m args below meth c s₁ B hml ht hP s₁ hh0 (Stand.of_body B)
    exact ⟨t, o, a1, b1, b2, b3⟩
/-- the table of a body with handlers -/
theorem vx_table {p : Program} {x y : MethodName} {S : Spec} {cc bytes : ByteArray} {maxL maxL' : Nat} {ret ret' : Option FieldType} {e : Env} {s s₁ : State} {m : MethodId} {args : Array Value} {below : List Frame} {meth : Method} {c : Code} {hh : List (Nat × Nat × Nat × Nat)}
    (B : BodyLoose p l y S cc maxL ret e s m args below meth c s₁) (h : (Cond.codeWith y bytes maxL' ret' hh).before args s = true) : c.exceptionTable.toList = tableOf hh := by
  obtain ⟨m9, meth9, c9, hn9, h1, h2, -, -, h6, -⟩ := Cond.codeWith_spec h
  cases Option.some.inj (hn9.symm.trans B.named)
  cases Option.some.inj (h1.symm.trans B.method)
  cases Option.some.inj (h2.symm.trans (Stand.of_body B).code)
  rw [← h6, table_eq]
end Bodies
end VXA
/-! ===== END ===== -/
/-! ===== BEGIN a static call of a method with an exception table ===== -/
section VXS
variable {p : Program} {l : Launch} {e : Env} {R : Room} {s : State} {m : MethodId} {args : Array Value} {below : List Frame} {meth : Method} {c : Code} {T : State} {H : Heap} {locs : List Loc} {cells slots : Nat}
abbrev vx_CSW (R : Room) (s : State) (args : Array Value) (own : String) (index : Nat) (y : MethodName) (bytes : ByteArray) (maxL : Nat) (ret : Option FieldType) (hh : List (Nat × Nat × Nat × Nat)) (ws : List Cond) (rm : Room) (mc ms n : Nat) : Prop :=
  (rm.cells = mc ∧ rm.slots = ms ∧ rm.frames + 1 ≤ R.frames ∧ 8 + (maxL + 11) + rm.locals ≤ R.locals ∧ (∀ w ∈ ws, ∀ (a' : Array Value) (U : State), s.WarmedH U.vm → w.before a' U = true) ∧ Cond.codeWith y bytes maxL ret hh ∈ ws) ∧
  (Cond.codeWith y bytes maxL ret hh).before args s = true ∧ (Cond.initialized y.cls).before args s = true ∧ (y.cls ≠ "java/lang/invoke/MethodHandle" ∧ y.cls ≠ "java/lang/invoke/VarHandle") ∧
  (∀ sig, parseMethodDescriptor y.desc = some sig → n = sig.parameters.length) ∧ (Cond.methodLink own index y).before args s = true ∧ (Cond.static y).before args s = true
theorem vx_cwSW {own : String} {index maxL mc ms : Nat} {y : MethodName} {bytes : ByteArray} {ret : Option FieldType} {hh : List (Nat × Nat × Nat × Nat)} {Ts ws ws' : List Cond} {rm : Room} (n : Nat) (ht : ∀ w ∈ Ts, w.before args s = true) (hT : GoodIn Ts (va_wsS own index y ws)) (hw : ws = Cond.codeWith y bytes maxL ret hh :: ws') (hrc : rm.cells = mc) (hrs : rm.slots = ms)
    (hd : y.cls ≠ "java/lang/invoke/MethodHandle" ∧ y.cls ≠ "java/lang/invoke/VarHandle" ∧ (parseMethodDescriptor y.desc).map (fun d => d.parameters.length) = some n) (hR : rm.frames + 1 ≤ R.frames ∧ 8 + (maxL + 11) + rm.locals ≤ R.locals) :
    vx_CSW R s args own index y bytes maxL ret hh ws rm mc ms n := by
  have ok : ∀ w ∈ va_wsS own index y ws, w.before args s = true := fun w h => ht w (hT w h).1
  have hG : GoodIn Ts ws := fun w h => hT w (by unfold va_wsS; exact List.mem_append_right _ h)
  have hc : Cond.codeWith y bytes maxL ret hh ∈ ws := by rw [hw]; exact List.mem_cons_self
  refine ⟨⟨hrc, hrs, hR.1, hR.2, pay_in ht hG, hc⟩, ht _ (hG _ hc).1, ok _ (by simp [va_wsS]), ⟨hd.1, hd.2.1⟩, fun sig h => ?_, ok _ (by simp [va_wsS]), ok _ (by simp [va_wsS])⟩
  have h2 := hd.2.2
  rw [h] at h2
  exact (Option.some.inj h2).symm
theorem vx_callSW (X : Stand p l e R s m args below meth c T locs cells slots) (hexec : p.tables.exec = Jvm.exec) {own : String} {index : Nat} {y : MethodName} {bytes : ByteArray} {maxL : Nat} {ret : Option FieldType} {hh : List (Nat × Nat × Nat × Nat)}
    (hown : s.vm.findClass own = some m.cls) (hlink : (Cond.methodLink own index y).before args s = true) (hstat : (Cond.static y).before args s = true) (hinit : (Cond.initialized y.cls).before args s = true)
    (hcode : (Cond.codeWith y bytes maxL ret hh).before args s = true) (hy : y.cls ≠ "java/lang/invoke/MethodHandle" ∧ y.cls ≠ "java/lang/invoke/VarHandle")
    {W9 : Nat} {Pre : Pt → Array Value → Prop} {Post : Pt → Array Value → Option Value → Pt → Prop} (hK : Back l R p e below s args y 3 W9 Pre Post)
    {g : JFrame} (hg : g.method = m) (hsize : g.locals.size = c.maxLocals) {argsL rest : List Value} (hlen : ∀ sig, parseMethodDescriptor y.desc = some sig → argsL.length = sig.parameters.length)
    (hstack : g.stack = argsL.reverse ++ rest) (hW : 2 * g.monitorRoom + (rest.map fun v => v.category).sum ≤ W9) (hdg : decode c.code g.pc = .ok (.invokestatic index, 3))
    (hpre : ∀ vm₁, s.WarmedH vm₁ → Pre ⟨T.setVm vm₁, locs, cells, slots⟩ argsL.toArray) :
    ∃ (v : Option Value) (vm₁ : Vm) (B : Pt), s.WarmedH vm₁ ∧ Stand p l e R s m args below meth c B.U B.locs B.cells B.slots ∧ Post ⟨T.setVm vm₁, locs, cells, slots⟩ argsL.toArray v B ∧
      ∀ target, Steps p.tables e below (B.U.setTop { g with pc := g.pc + 3, stack := v.toList ++ rest }) target → Steps p.tables e below (T.setTop g) target := by
  obtain ⟨mk, methM, cM, hnamed, hmethM, -, -, -, -, -, -, hsigM⟩ := Cond.codeWith_spec hcode
  have hstatic : methM.isStatic = true := Cond.static_spec hnamed hmethM hstat
  obtain ⟨kP, hkP, -⟩ := className_of_methodNamed hnamed
  have hinitP : kP.init = .initialized := Cond.initialized_spec (findClass_of_methodNamed hnamed) hkP hinit
  obtain ⟨vm₁, X₁, hstep₁⟩ := X.invokestatic hexec hown hlink hnamed hmethM hstatic hkP hinitP hy (g := g) hg (argsL := argsL) (rest := rest) (hlen _ hsigM) hstack hdg
  obtain ⟨v, B, X', hpost, hsteps⟩ := hK m meth c ⟨T.setVm vm₁, locs, cells, slots⟩ { g with stack := rest } (.invokestatic index) mk argsL.toArray X₁ hg hsize hdg hW (X₁.named hnamed) (hpre vm₁ X₁.warmed)
  exact ⟨v, vm₁, B, X₁.warmed, X', hpost, fun target h => hstep₁ _ fun acts => by rw [doInvoke_state]; exact hsteps.trans h⟩
theorem vx_runSW {y : MethodName} {bytes cc : ByteArray} {maxL nL mc ms n index : Nat} {ret : Option FieldType} {hh : List (Nat × Nat × Nat × Nat)} {ws : List Cond} {rm : Room} {Pc : Array Value → State → Prop} {Qc : Array Value → State → Outcome → State → Prop} {free : Addr → Prop} {Ts : List Cond} {own : String} {As rest : List Value} {g : JFrame}
    (S : CallFix p m c cc nL s args Ts own) (hM : Met l y ws rm Pc Qc mc ms free) (cw : vx_CSW R s args own index y bytes maxL ret hh ws rm mc ms n) (hp : PreS s H Pc As)
    (hg : g.method = m) (hn : As.length = n) (hsize : g.locals.size = nL) (hstack : g.stack = As.reverse ++ rest) (hW : 2 * g.monitorRoom + (rest.map fun v => v.category).sum ≤ 8) (hdg : decode cc g.pc = .ok (.invokestatic index, 3)) (hf : cells + mc ≤ R.cells ∧ slots + ms ≤ R.slots) :
    va_Run p l e R s m args below meth c H locs cells slots mc ms g rest (Qc As.toArray) (free) := by
  obtain ⟨⟨hrc, hrs, hfr, hlo, hws, hcw⟩, hcode, hini, hy, hlen, hl, hstt⟩ := cw
  have hK : Back l R p e below s args y 3 8 (PreOf R mc ms Pc) (PostOf Qc mc ms free) := va_backW (hh := hh) (bytes := bytes) (maxL := maxL) (ret := ret) hM hp.1 hrc hrs hfr hlo hws hcw (fun a' U hW => word_at hW (Or.inl (by first | rfl | simp [Cond.onTables, Cond.keeps, Cond.steady])) hini)
  obtain ⟨hx, hb, hml, ho, -⟩ := S
  intro T hT X
  obtain ⟨v, vm₁, ⟨U', l2, c2, s2⟩, hW₁, X', ⟨g', mk, t, L, e1, e2, hq, h1, hL, h2, h3⟩, st⟩ := vx_callSW X hx (hh := hh) (bytes := bytes) (maxL := maxL) (ret := ret) ho hl hstt hini hcode hy hK hg (hsize.trans hml.symm) (argsL := As) (rest := rest) (fun sig h => hn.trans (hlen sig h)) hstack hW (by rw [hb]; exact hdg)
    (fun vm₁ hW₁ => ⟨hf.1, hf.2, hp.2 (T.setVm vm₁) hT hW₁⟩)
  dsimp only [Pt.U, Pt.locs, Pt.cells, Pt.slots] at X' e1 e2 h1 h2 h3 st
  subst h1; subst h2; subst h3
  exact ⟨v, (T.setVm vm₁).calling g' mk As.toArray, t, U', L, hT, X', hL, e1, e2, hq, st⟩
/-- not caught here, past rows that name other classes: it goes on to the caller -/
theorem vx_outP {p : Program} {l : Launch} {e : Env} {R : Room} {s : State} {m : MethodId} {args : Array Value} {below : List Frame} {meth : Method} {c : Code} {H : Heap} {locs : List Loc} {cells slots : Nat} {free : Addr → Prop} {ls : Array Slot} {rest : List Value} {Qc : Array Value → State → Outcome → State → Prop} {XC : String → State → State → Prop}
    {pc : Nat} {own E : String} {ce : Cell} {q : Addr} {mc ms : Nat} (hown : s.vm.findClass own = some m.cls) (hlocks : meth.locks = false)
    (hpass : ∀ z ∈ c.exceptionTable.toList, covers z pc = false ∨ (z.catchType ≠ 0 ∧ ∃ nm : String, (Cond.classLink own z.catchType nm).before args s = true ∧ va_Nc E nm s)) (hcell : H[q]? = some ce) (hv : ce.vm = .none) (hcl : s.vm.findClass E = some ce.cls)
    (hx : ∀ t : State, t.heap = H → s.vm.Alike t.vm → XC E s t) (hf : ∀ z ∈ locs, free z.base) (hc : cells ≤ mc) (hs : slots ≤ ms) :
    vx_W p l e R s m args below meth c H locs cells slots (vx_MQ below Qc XC args s mc ms free) (F0 m pc ls rest) q := by
  intro T hT X
  have hpl : e.platform.magicAccessors = ({} : Platform).magicAccessors := by rw [X.admits.platform]
  obtain ⟨vm', hW', X', st⟩ := X.outThrough hlocks q (g := F0 m pc ls rest) rfl rfl rfl (cell := ce) (by rw [hT]; exact hcell) (by rw [hv]; rfl)
    (by obtain ⟨k9, h9, -⟩ := Vm.findClass_spec hcl; exact ⟨k9, h9⟩) (fun z hz => by
      rcases hpass z hz with h | ⟨hz0, nm, hl1, hn1⟩
      · exact Or.inl h
      · obtain ⟨c6, hc6, hcl6⟩ := Cond.classLink_spec hown hl1 e.platform hpl
        obtain ⟨a8, b8, h1, h2, h3⟩ := hn1
        cases Option.some.inj (h1.symm.trans hcl)
        cases Option.some.inj (h2.symm.trans hc6)
        exact Or.inr ⟨hz0, _, hcl6, h3⟩)
  obtain ⟨g₀, hfr⟩ := X'.frames_eq
  have hcell9 : ((T.setVm vm').setFrames (.throwing q :: below)).heap[q]? = some ce := by
    show T.heap[q]? = some ce
    rw [hT]; exact hcell
  have hend : Ended ((T.setVm vm').setFrames (.throwing q :: below)) below (.threw q) := State.frames_setFrames _ (State.cur_lt_of_frames hfr)
  refine ⟨(T.setVm vm').setFrames (.throwing q :: below), ?_, .threw q, X'.here.running, hend, Or.inr ⟨q, rfl, E, ce, locs, hx _ hT (X'.ends _).1.alike, hcell9, hv, hcl, (X'.ends _).1, (X'.ends _).2.mono hc hs, hf⟩⟩
  rw [X.pushThrowing_eq]
  exact st
/-- a thing of a world lies in the heap -/
theorem vx_lt {D : va_G} {cl : List vw_C} {ws : va_W} {H1 : Heap} (h : va_P D cl ws H1) {k : Nat} {q : Nat × va_E} (hk : ws[k]? = some q) : q.1 < H1.size := (h k q hk).lt
end VXS
/-! ===== END ===== -/
/-! ===== BEGIN methods with a table of their own: called by a name, returning or throwing ===== -/
section VXH
/-! vx_backW, vx_callVX, vx_callSX, vx_callVW, vx_runVW, vx_runVX, vx_runSX, vx_ofWH follow the same proofs as their sisters above (Free/Laws.lean, Shelf42/LK1.lean); vx_outP calls Shelf42/NT130.lean (outThrough). -/
section
variable {l : Launch} {R : Room} {p : Program} {e : Env} {below : List Frame} {s : State} {sargs : Array Value} {y : MethodName} {len W9 : Nat}
theorem vx_backW {ws : List Cond} {rm : Room} {Pc : Array Value → State → Prop} {Qc : Array Value → State → Outcome → State → Prop} {XC : String → State → State → Prop} {mc ms : Nat} {free : Addr → Prop} {bytes : ByteArray} {maxL : Nat} {ret : Option FieldType} {hh : List (Nat × Nat × Nat × Nat)}
    (hM : vx_Met l y ws rm Pc Qc XC mc ms free) (hblind : FrameBlind Pc) (hrc : rm.cells = mc) (hrs : rm.slots = ms)
    (hframes : rm.frames + 1 ≤ R.frames) (hlocals : W9 + (maxL + 11) + rm.locals ≤ R.locals)
    (hws : ∀ w ∈ ws, ∀ a' U, s.WarmedH U.vm → w.before a' U = true) (hcode : Cond.codeWith y bytes maxL ret hh ∈ ws) (hinit : ∀ a' U, s.WarmedH U.vm → (Cond.initialized y.cls).before a' U = true) :
    vx_Back l R p e below s sargs y len W9 (PreOf R mc ms Pc) (PostOf Qc mc ms free) (vx_Post XC mc ms free) := by
  intro m meth c A g ig mk a X hg hsize hdg hW hn hp
  have h1 : (headSpec ws rm).pre.before a A.U = true := atoms_intro fun w hw => hws w hw _ _ X.warmed
  have h2 : (Cond.codeWith y bytes maxL ret hh).before a A.U = true := hws _ hcode _ _ X.warmed
  have h3 : (Cond.initialized y.cls).before a A.U = true := hinit _ _ X.warmed
  have h4 : A.cells + (headSpec ws rm).room.cells ≤ R.cells := by rw [show (headSpec ws rm).room.cells = mc from hrc]; exact hp.1
  have h5 : A.slots + (headSpec ws rm).room.slots ≤ R.slots := by rw [show (headSpec ws rm).room.slots = ms from hrs]; exact hp.2.1
  have hPc : Pc a (A.U.calling g mk a) := hblind _ _ _ _ hp.2.2
  obtain ⟨U, Ls, c0, s0⟩ := A
  dsimp only [Pt.U, Pt.locs, Pt.cells, Pt.slots] at h1 h2 h3 h4 h5 X hn hPc ⊢
  obtain ⟨m9, methY, cY, hn9, hmY, hcY, -, hlY, -⟩ := Cond.codeWith_spec h2
  cases Option.some.inj (hn9.symm.trans hn)
  obtain ⟨kY, hkY, -⟩ := className_of_methodNamed hn
  have hinitY : kY.init = .initialized := Cond.initialized_spec (findClass_of_methodNamed hn) hkY h3
  have h : At U g.method c below := by rw [hg]; exact X.here
  have hlocals9 : W9 + (maxL + 11) + (headSpec ws rm).room.locals ≤ R.locals := hlocals
  have happ : (headSpec ws rm).appliesLoose y e.platform (U.calling g mk a) = true :=
    Spec.appliesLoose_calling (g := g) h hdg hn hkY hinitY
      (X.room_calling (g := g) (R' := (headSpec ws rm).room) hsize hmY hcY hframes (by rw [hlY]; omega) h4 h5) h1
  obtain ⟨mid, hmid⟩ := h.above
  have hfr : (U.setTop g).frames = (.java g :: mid) ++ below := by rw [State.frames_setTop' g h.top, hmid]; rfl
  obtain ⟨o, s₂, hsteps, -, hend, hq⟩ := Steps.callFree hM p X.admits X.cas X.clock (acts := []) hfr happ hPc trivial
  have hq' : vx_Q Qc XC mc ms free a (U.calling g mk a) o s₂ := hq
  rw [State.frames_setTop' g h.top] at hend
  obtain ⟨g₀, hg0⟩ := Option.isSome_iff_exists.mp h.top
  obtain ⟨r, hr⟩ := State.topJava?_eq_some.mp hg0
  have hr' : (({ U with heap := s₂.heap, slotsUsed := s₂.slotsUsed } : State).setVm s₂.vm).frames = .java g₀ :: r := hr
  rcases hq' with ⟨hqc, L, hfe, hL⟩ | ⟨q, rfl, E, ce, L, hx, hce, hcv, hcl, hW₂, hsm, hL⟩
  · obtain ⟨⟨v, rfl⟩, hW₂, e2, q2, q3, q4, q5, q6⟩ := id hfe
    have e3 : s₂ = ({ (U.calling g mk a).setFrames s₂.frames with heap := s₂.heap, slotsUsed := s₂.slotsUsed } : State).setVm s₂.vm := by
      have : s₂ = ({ s₂ with vm := (U.calling g mk a).vm } : State).setVm s₂.vm := rfl
      rw [e2] at this
      exact this
    obtain ⟨c₂, i₂, len₂, hc₂, hd₂, hf₂⟩ := hend
    have hW' : U.WarmedH s₂.vm := hW₂
    have hcc : c₂ = c := by
      have h1 : s₂.code? g.method = U.code? g.method := by
        rw [State.code?_eq, State.code?_eq, hW'.alike.method?]
      exact Option.some.inj (hc₂.symm.trans (h1.trans h.code))
    subst hcc
    have hlen : len₂ = len := by rw [hdg] at hd₂; cases hd₂; rfl
    subst hlen
    have hs₂ : s₂ = (({ U with heap := s₂.heap, slotsUsed := s₂.slotsUsed } : State).setVm s₂.vm).setTop { g with pc := g.pc + len₂, stack := v.toList ++ g.stack } := by
      refine e3.trans ?_
      rw [hf₂, State.calling_eq h.top, State.setFrames_setFrames, State.setTop_of_frames _ hr', hr]
      rfl
    have hsame : U.sameButNew ({ U with heap := s₂.heap, slotsUsed := s₂.slotsUsed } : State) L mc ms := by
      refine ⟨?_, q2, q3, q4, q5, q6⟩
      obtain ⟨t, ht, -⟩ := State.frames_cons hr
      show ({ U with heap := s₂.heap, slotsUsed := s₂.slotsUsed } : State) = { U.setFrames U.frames with heap := s₂.heap, slotsUsed := s₂.slotsUsed }
      rw [State.setFrames_self ht]
    subst hg
    refine Or.inl ⟨v, ⟨(({ U with heap := s₂.heap, slotsUsed := s₂.slotsUsed } : State).setVm s₂.vm), Ls ++ L, c0 + mc, s0 + ms⟩,
      ⟨X.admits, X.cas, X.clock, X.frames, X.room, X.hears, X.method, X.code, (X.here.setHeapUsed s₂.heap s₂.slotsUsed).setVm hW'.alike, X.tail, State.WarmedH.trans X.warmed hW', X.limits, X.bytes, X.same.trans (hsame.setVm s.vm)⟩,
      ⟨g, mk, s₂, L, rfl, rfl, hqc, rfl, hL, rfl, rfl⟩, ?_⟩
    show Steps p.tables e below _ ((({ U with heap := s₂.heap, slotsUsed := s₂.slotsUsed } : State).setVm s₂.vm).setTop { g with pc := g.pc + len₂, stack := v.toList ++ g.stack })
    rw [← hs₂]
    exact hsteps
  · obtain ⟨e2, q2, q3, q4, q5, q6⟩ := id hsm
    have e3 : s₂ = ({ (U.calling g mk a).setFrames s₂.frames with heap := s₂.heap, slotsUsed := s₂.slotsUsed } : State).setVm s₂.vm := by
      have : s₂ = ({ s₂ with vm := (U.calling g mk a).vm } : State).setVm s₂.vm := rfl
      rw [e2] at this
      exact this
    have hf₂ : s₂.frames = .throwing q :: .java g :: U.frames.tail := hend
    have hW' : U.WarmedH s₂.vm := hW₂
    have hs₂ : s₂ = ((({ U with heap := s₂.heap, slotsUsed := s₂.slotsUsed } : State).setVm s₂.vm).setTop g).pushFrame (.throwing q) := by
      refine e3.trans ?_
      rw [hf₂, State.calling_eq h.top, State.setFrames_setFrames, State.pushFrame, State.frames_setTop _ hr', State.setTop_of_frames _ hr', State.setFrames_setFrames, hr]
      rfl
    have hsame : U.sameButNew ({ U with heap := s₂.heap, slotsUsed := s₂.slotsUsed } : State) L mc ms := by
      refine ⟨?_, q2, q3, q4, q5, q6⟩
      obtain ⟨t, ht, -⟩ := State.frames_cons hr
      show ({ U with heap := s₂.heap, slotsUsed := s₂.slotsUsed } : State) = { U.setFrames U.frames with heap := s₂.heap, slotsUsed := s₂.slotsUsed }
      rw [State.setFrames_self ht]
    subst hg
    refine Or.inr ⟨q, ⟨(({ U with heap := s₂.heap, slotsUsed := s₂.slotsUsed } : State).setVm s₂.vm), Ls ++ L, c0 + mc, s0 + ms⟩,
      ⟨X.admits, X.cas, X.clock, X.frames, X.room, X.hears, X.method, X.code, (X.here.setHeapUsed s₂.heap s₂.slotsUsed).setVm hW'.alike, X.tail, State.WarmedH.trans X.warmed hW', X.limits, X.bytes, X.same.trans (hsame.setVm s.vm)⟩,
      ⟨g, mk, s₂, L, E, ce, rfl, rfl, hx, hce, hcv, hcl, rfl, hL, rfl, rfl⟩, ?_⟩
    show Steps p.tables e below _ (((({ U with heap := s₂.heap, slotsUsed := s₂.slotsUsed } : State).setVm s₂.vm).setTop g).pushFrame (.throwing q))
    rw [← hs₂]
    exact hsteps
end
variable {p : Program} {l : Launch} {e : Env} {R : Room} {s : State} {m : MethodId} {args : Array Value} {below : List Frame} {meth : Method} {c : Code} {T : State} {H : Heap} {locs : List Loc} {cells slots : Nat}
theorem vx_callVX (X : Stand p l e R s m args below meth c T locs cells slots) (hexec : p.tables.exec = Jvm.exec) {own C : String} {index : Nat} {y : MethodName} {bytes : ByteArray} {maxL : Nat} {ret : Option FieldType} {hh : List (Nat × Nat × Nat × Nat)}
    (hown : s.vm.findClass own = some m.cls) (hlink : (Cond.methodLink own index y).before args s = true) (hinst : (Cond.instanceMethod y).before args s = true) (hsel : (Cond.selects C y y).before args s = true)
    (hcode : (Cond.codeWith y bytes maxL ret hh).before args s = true) (hy : y.cls ≠ "java/lang/invoke/MethodHandle" ∧ y.cls ≠ "java/lang/invoke/VarHandle")
    {W9 : Nat} {Pre : Pt → Array Value → Prop} {Post : Pt → Array Value → Option Value → Pt → Prop} {PostX : Pt → Array Value → Addr → Pt → Prop} (hK : vx_Back l R p e below s args y 3 W9 Pre Post PostX)
    {b : Addr} {cellB : Cell} (hcell : T.heap[b]? = some cellB) (hobj : cellB.vm.isStatics = false) (hcls : s.vm.findClass C = some cellB.cls)
    {g : JFrame} (hg : g.method = m) (hsize : g.locals.size = c.maxLocals) {argsL rest : List Value} (hlen : ∀ sig, parseMethodDescriptor y.desc = some sig → argsL.length = sig.parameters.length)
    (hstack : g.stack = argsL.reverse ++ .ref b :: rest) (hW : 2 * g.monitorRoom + (rest.map fun v => v.category).sum ≤ W9) (hdg : decode c.code g.pc = .ok (.invokevirtual index, 3))
    (hpre : ∀ vm₁, s.WarmedH vm₁ → Pre ⟨T.setVm vm₁, locs, cells, slots⟩ (Value.ref b :: argsL).toArray) :
    (∃ (v : Option Value) (vm₁ : Vm) (B : Pt), s.WarmedH vm₁ ∧ Stand p l e R s m args below meth c B.U B.locs B.cells B.slots ∧ Post ⟨T.setVm vm₁, locs, cells, slots⟩ (Value.ref b :: argsL).toArray v B ∧
      ∀ target, Steps p.tables e below (B.U.setTop { g with pc := g.pc + 3, stack := v.toList ++ rest }) target → Steps p.tables e below (T.setTop g) target) ∨
    (∃ (q : Addr) (vm₁ : Vm) (B : Pt), s.WarmedH vm₁ ∧ Stand p l e R s m args below meth c B.U B.locs B.cells B.slots ∧ PostX ⟨T.setVm vm₁, locs, cells, slots⟩ (Value.ref b :: argsL).toArray q B ∧
      Steps p.tables e below (T.setTop g) ((B.U.setTop { g with stack := rest }).pushFrame (.throwing q))) := by
  obtain ⟨mk, methM, hnamed, hmethM, hstM, habM⟩ := Cond.instanceMethod_spec hinst
  obtain ⟨m8, methM', cM, hn8, hmethM', -, -, -, -, -, -, hsigM⟩ := Cond.codeWith_spec hcode
  cases Option.some.inj (hn8.symm.trans hnamed)
  cases hmethM.symm.trans hmethM'
  obtain ⟨c2, r2, m2, q1, q2, q3, q4, kP, hkP, hkPi⟩ := Cond.selects_spec hsel
  cases hcls.symm.trans q1
  cases (State.methodFound?_of_named hnamed hy).symm.trans q2
  cases hnamed.symm.trans q3
  have hselP : selectMethod e.platform s.vm cellB.cls mk = .method mk := by rw [Launch.admits_selectMethod X.admits]; exact q4
  obtain ⟨vm₁, X₁, hstep₁⟩ := X.invokevirtual hexec hown hlink hnamed hmethM hstM hkP hkPi hy (a := b) (cell := cellB) hcell
    (fun z h => by rw [h] at hobj; cases hobj) hselP hmethM habM hkP hkPi (g := g) hg (argsL := argsL) (rest := rest) (hlen _ hsigM) hstack hdg
  rcases hK m meth c ⟨T.setVm vm₁, locs, cells, slots⟩ { g with stack := rest } (.invokevirtual index) mk (Value.ref b :: argsL).toArray X₁ hg hsize hdg hW (X₁.named hnamed) (hpre vm₁ X₁.warmed) with ⟨v, B, X', hpost, hsteps⟩ | ⟨q, B, X', hpost, hsteps⟩
  · exact Or.inl ⟨v, vm₁, B, X₁.warmed, X', hpost, fun target h => hstep₁ _ fun acts => by rw [doInvoke_state]; exact hsteps.trans h⟩
  · exact Or.inr ⟨q, vm₁, B, X₁.warmed, X', hpost, hstep₁ _ fun acts => by rw [doInvoke_state]; exact hsteps⟩
theorem vx_callSX (X : Stand p l e R s m args below meth c T locs cells slots) (hexec : p.tables.exec = Jvm.exec) {own : String} {index : Nat} {y : MethodName} {bytes : ByteArray} {maxL : Nat} {ret : Option FieldType} {hh : List (Nat × Nat × Nat × Nat)}
    (hown : s.vm.findClass own = some m.cls) (hlink : (Cond.methodLink own index y).before args s = true) (hstat : (Cond.static y).before args s = true) (hinit : (Cond.initialized y.cls).before args s = true)
    (hcode : (Cond.codeWith y bytes maxL ret hh).before args s = true) (hy : y.cls ≠ "java/lang/invoke/MethodHandle" ∧ y.cls ≠ "java/lang/invoke/VarHandle")
    {W9 : Nat} {Pre : Pt → Array Value → Prop} {Post : Pt → Array Value → Option Value → Pt → Prop} {PostX : Pt → Array Value → Addr → Pt → Prop} (hK : vx_Back l R p e below s args y 3 W9 Pre Post PostX)
    {g : JFrame} (hg : g.method = m) (hsize : g.locals.size = c.maxLocals) {argsL rest : List Value} (hlen : ∀ sig, parseMethodDescriptor y.desc = some sig → argsL.length = sig.parameters.length)
    (hstack : g.stack = argsL.reverse ++ rest) (hW : 2 * g.monitorRoom + (rest.map fun v => v.category).sum ≤ W9) (hdg : decode c.code g.pc = .ok (.invokestatic index, 3))
    (hpre : ∀ vm₁, s.WarmedH vm₁ → Pre ⟨T.setVm vm₁, locs, cells, slots⟩ argsL.toArray) :
    (∃ (v : Option Value) (vm₁ : Vm) (B : Pt), s.WarmedH vm₁ ∧ Stand p l e R s m args below meth c B.U B.locs B.cells B.slots ∧ Post ⟨T.setVm vm₁, locs, cells, slots⟩ argsL.toArray v B ∧
      ∀ target, Steps p.tables e below (B.U.setTop { g with pc := g.pc + 3, stack := v.toList ++ rest }) target → Steps p.tables e below (T.setTop g) target) ∨
    (∃ (q : Addr) (vm₁ : Vm) (B : Pt), s.WarmedH vm₁ ∧ Stand p l e R s m args below meth c B.U B.locs B.cells B.slots ∧ PostX ⟨T.setVm vm₁, locs, cells, slots⟩ argsL.toArray q B ∧
      Steps p.tables e below (T.setTop g) ((B.U.setTop { g with stack := rest }).pushFrame (.throwing q))) := by
  obtain ⟨mk, methM, cM, hnamed, hmethM, -, -, -, -, -, -, hsigM⟩ := Cond.codeWith_spec hcode
  have hstatic : methM.isStatic = true := Cond.static_spec hnamed hmethM hstat
  obtain ⟨kP, hkP, -⟩ := className_of_methodNamed hnamed
  have hinitP : kP.init = .initialized := Cond.initialized_spec (findClass_of_methodNamed hnamed) hkP hinit
  obtain ⟨vm₁, X₁, hstep₁⟩ := X.invokestatic hexec hown hlink hnamed hmethM hstatic hkP hinitP hy (g := g) hg (argsL := argsL) (rest := rest) (hlen _ hsigM) hstack hdg
  rcases hK m meth c ⟨T.setVm vm₁, locs, cells, slots⟩ { g with stack := rest } (.invokestatic index) mk argsL.toArray X₁ hg hsize hdg hW (X₁.named hnamed) (hpre vm₁ X₁.warmed) with ⟨v, B, X', hpost, hsteps⟩ | ⟨q, B, X', hpost, hsteps⟩
  · exact Or.inl ⟨v, vm₁, B, X₁.warmed, X', hpost, fun target h => hstep₁ _ fun acts => by rw [doInvoke_state]; exact hsteps.trans h⟩
  · exact Or.inr ⟨q, vm₁, B, X₁.warmed, X', hpost, hstep₁ _ fun acts => by rw [doInvoke_state]; exact hsteps⟩
theorem vx_callVW (X : Stand p l e R s m args below meth c T locs cells slots) (hexec : p.tables.exec = Jvm.exec) {own C : String} {index : Nat} {y : MethodName} {bytes : ByteArray} {maxL : Nat} {ret : Option FieldType} {hh : List (Nat × Nat × Nat × Nat)}
    (hown : s.vm.findClass own = some m.cls) (hlink : (Cond.methodLink own index y).before args s = true) (hinst : (Cond.instanceMethod y).before args s = true) (hsel : (Cond.selects C y y).before args s = true)
    (hcode : (Cond.codeWith y bytes maxL ret hh).before args s = true) (hy : y.cls ≠ "java/lang/invoke/MethodHandle" ∧ y.cls ≠ "java/lang/invoke/VarHandle")
    {W9 : Nat} {Pre : Pt → Array Value → Prop} {Post : Pt → Array Value → Option Value → Pt → Prop} (hK : Back l R p e below s args y 3 W9 Pre Post)
    {b : Addr} {cellB : Cell} (hcell : T.heap[b]? = some cellB) (hobj : cellB.vm.isStatics = false) (hcls : s.vm.findClass C = some cellB.cls)
    {g : JFrame} (hg : g.method = m) (hsize : g.locals.size = c.maxLocals) {argsL rest : List Value} (hlen : ∀ sig, parseMethodDescriptor y.desc = some sig → argsL.length = sig.parameters.length)
    (hstack : g.stack = argsL.reverse ++ .ref b :: rest) (hW : 2 * g.monitorRoom + (rest.map fun v => v.category).sum ≤ W9) (hdg : decode c.code g.pc = .ok (.invokevirtual index, 3))
    (hpre : ∀ vm₁, s.WarmedH vm₁ → Pre ⟨T.setVm vm₁, locs, cells, slots⟩ (Value.ref b :: argsL).toArray) :
    ∃ (v : Option Value) (vm₁ : Vm) (B : Pt), s.WarmedH vm₁ ∧ Stand p l e R s m args below meth c B.U B.locs B.cells B.slots ∧ Post ⟨T.setVm vm₁, locs, cells, slots⟩ (Value.ref b :: argsL).toArray v B ∧
      ∀ target, Steps p.tables e below (B.U.setTop { g with pc := g.pc + 3, stack := v.toList ++ rest }) target → Steps p.tables e below (T.setTop g) target := by
  obtain ⟨mk, methM, hnamed, hmethM, hstM, habM⟩ := Cond.instanceMethod_spec hinst
  obtain ⟨m8, methM', cM, hn8, hmethM', -, -, -, -, -, -, hsigM⟩ := Cond.codeWith_spec hcode
  cases Option.some.inj (hn8.symm.trans hnamed)
  cases hmethM.symm.trans hmethM'
  obtain ⟨c2, r2, m2, q1, q2, q3, q4, kP, hkP, hkPi⟩ := Cond.selects_spec hsel
  cases hcls.symm.trans q1
  cases (State.methodFound?_of_named hnamed hy).symm.trans q2
  cases hnamed.symm.trans q3
  have hselP : selectMethod e.platform s.vm cellB.cls mk = .method mk := by rw [Launch.admits_selectMethod X.admits]; exact q4
  obtain ⟨vm₁, X₁, hstep₁⟩ := X.invokevirtual hexec hown hlink hnamed hmethM hstM hkP hkPi hy (a := b) (cell := cellB) hcell
    (fun z h => by rw [h] at hobj; cases hobj) hselP hmethM habM hkP hkPi (g := g) hg (argsL := argsL) (rest := rest) (hlen _ hsigM) hstack hdg
  obtain ⟨v, B, X', hpost, hsteps⟩ := hK m meth c ⟨T.setVm vm₁, locs, cells, slots⟩ { g with stack := rest } (.invokevirtual index) mk (Value.ref b :: argsL).toArray X₁ hg hsize hdg hW (X₁.named hnamed) (hpre vm₁ X₁.warmed)
  exact ⟨v, vm₁, B, X₁.warmed, X', hpost, fun target h => hstep₁ _ fun acts => by rw [doInvoke_state]; exact hsteps.trans h⟩
abbrev vx_CVW (R : Room) (s : State) (args : Array Value) (own C : String) (index : Nat) (y : MethodName) (bytes : ByteArray) (maxL : Nat) (ret : Option FieldType) (hh : List (Nat × Nat × Nat × Nat)) (ws : List Cond) (rm : Room) (mc ms n : Nat) : Prop :=
  (rm.cells = mc ∧ rm.slots = ms ∧ rm.frames + 1 ≤ R.frames ∧ 8 + (maxL + 11) + rm.locals ≤ R.locals ∧ (∀ w ∈ ws, ∀ (a' : Array Value) (U : State), s.WarmedH U.vm → w.before a' U = true) ∧ Cond.codeWith y bytes maxL ret hh ∈ ws) ∧
  (Cond.codeWith y bytes maxL ret hh).before args s = true ∧ (Cond.initialized y.cls).before args s = true ∧ (y.cls ≠ "java/lang/invoke/MethodHandle" ∧ y.cls ≠ "java/lang/invoke/VarHandle") ∧
  (∀ sig, parseMethodDescriptor y.desc = some sig → n = sig.parameters.length) ∧ (Cond.methodLink own index y).before args s = true ∧ (Cond.instanceMethod y).before args s = true ∧ (Cond.selects C y y).before args s = true
theorem vx_cwVW {own C : String} {index maxL mc ms : Nat} {y : MethodName} {bytes : ByteArray} {ret : Option FieldType} {hh : List (Nat × Nat × Nat × Nat)} {Ts ws ws' : List Cond} {rm : Room} (n : Nat) (ht : ∀ w ∈ Ts, w.before args s = true) (hT : GoodIn Ts (wsV own index C y ws)) (hw : ws = Cond.codeWith y bytes maxL ret hh :: ws') (hrc : rm.cells = mc) (hrs : rm.slots = ms)
    (hd : y.cls = C ∧ y.cls ≠ "java/lang/invoke/MethodHandle" ∧ y.cls ≠ "java/lang/invoke/VarHandle" ∧ (parseMethodDescriptor y.desc).map (fun d => d.parameters.length) = some n) (hR : rm.frames + 1 ≤ R.frames ∧ 8 + (maxL + 11) + rm.locals ≤ R.locals) :
    vx_CVW R s args own C index y bytes maxL ret hh ws rm mc ms n := by
  obtain ⟨hC, hd⟩ := hd
  subst hC
  have ok : ∀ w ∈ wsV own index y.cls y ws, w.before args s = true := fun w h => ht w (hT w h).1
  have hG : GoodIn Ts ws := fun w h => hT w (by unfold wsV; exact List.mem_append_right _ h)
  have hc : Cond.codeWith y bytes maxL ret hh ∈ ws := by rw [hw]; exact List.mem_cons_self
  refine ⟨⟨hrc, hrs, hR.1, hR.2, pay_in ht hG, hc⟩, ht _ (hG _ hc).1, ok _ (by simp [wsV]), ⟨hd.1, hd.2.1⟩, fun sig h => ?_, ok _ (by simp [wsV]), ok _ (by simp [wsV]), ok _ (by simp [wsV])⟩
  have h2 := hd.2.2
  rw [h] at h2
  exact (Option.some.inj h2).symm
theorem vx_runVW {y : MethodName} {bytes cc : ByteArray} {maxL nL mc ms n index : Nat} {ret : Option FieldType} {hh : List (Nat × Nat × Nat × Nat)} {ws : List Cond} {rm : Room} {Pc : Array Value → State → Prop} {Qc : Array Value → State → Outcome → State → Prop} {free : Addr → Prop} {Ts : List Cond} {own C : String} {b : Addr} {As rest : List Value} {g : JFrame}
    (S : CallFix p m c cc nL s args Ts own) (hM : Met l y ws rm Pc Qc mc ms free) (cw : vx_CVW R s args own C index y bytes maxL ret hh ws rm mc ms n) (hp : PreV s H C b Pc As)
    (hg : g.method = m) (hn : As.length = n) (hsize : g.locals.size = nL) (hstack : g.stack = As.reverse ++ .ref b :: rest) (hW : 2 * g.monitorRoom + (rest.map fun v => v.category).sum ≤ 8) (hdg : decode cc g.pc = .ok (.invokevirtual index, 3)) (hf : cells + mc ≤ R.cells ∧ slots + ms ≤ R.slots) :
    va_Run p l e R s m args below meth c H locs cells slots mc ms g rest (Qc (Value.ref b :: As).toArray) free := by
  obtain ⟨⟨hrc, hrs, hfr, hlo, hws, hcw⟩, hcode, hini, hy, hlen, hl, hin, hse⟩ := cw
  have hK : Back l R p e below s args y 3 8 (PreOf R mc ms Pc) (PostOf Qc mc ms free) := va_backW (hh := hh) (bytes := bytes) (maxL := maxL) (ret := ret) hM hp.1 hrc hrs hfr hlo hws hcw (fun a' U hW => word_at hW (Or.inl (by first | rfl | simp [Cond.onTables, Cond.keeps, Cond.steady])) hini)
  obtain ⟨hx, hb, hml, ho, -⟩ := S
  obtain ⟨-, ⟨cellB, hcB, hoB, hclB⟩, hPc⟩ := hp
  intro T hT X
  obtain ⟨v, vm₁, ⟨U', l2, c2, s2⟩, hW₁, X', ⟨g', mk, t, L, e1, e2, hq, h1, hL, h2, h3⟩, st⟩ := vx_callVW X hx (C := C) (hh := hh) (bytes := bytes) (maxL := maxL) (ret := ret) ho hl hin hse hcode hy hK (by rw [hT]; exact hcB) hoB hclB hg (hsize.trans hml.symm) (argsL := As) (rest := rest) (fun sig h => hn.trans (hlen sig h)) hstack hW (by rw [hb]; exact hdg)
    (fun vm₁ hW₁ => ⟨hf.1, hf.2, hPc (T.setVm vm₁) hT hW₁⟩)
  dsimp only [Pt.U, Pt.locs, Pt.cells, Pt.slots] at X' e1 e2 h1 h2 h3 st
  subst h1; subst h2; subst h3
  exact ⟨v, (T.setVm vm₁).calling g' mk (Value.ref b :: As).toArray, t, U', L, hT, X', hL, e1, e2, hq, st⟩
section
variable {y : MethodName} {bytes cc : ByteArray} {maxL nL mc ms n index : Nat} {ret : Option FieldType} {ws : List Cond} {rm : Room} {Pc : Array Value → State → Prop} {Qc : Array Value → State → Outcome → State → Prop} {XC : String → State → State → Prop} {free : Addr → Prop} {Ts : List Cond} {own C : String} {b : Addr} {As rest : List Value} {g : JFrame}
theorem vx_runVX {hh : List (Nat × Nat × Nat × Nat)} (S : CallFix p m c cc nL s args Ts own) (hM : vx_Met l y ws rm Pc Qc XC mc ms free) (cw : vx_CVW R s args own C index y bytes maxL ret hh ws rm mc ms n) (hp : PreV s H C b Pc As)
    (hg : g.method = m) (hn : As.length = n) (hsize : g.locals.size = nL) (hstack : g.stack = As.reverse ++ .ref b :: rest) (hW : 2 * g.monitorRoom + (rest.map fun v => v.category).sum ≤ 8) (hdg : decode cc g.pc = .ok (.invokevirtual index, 3)) (hf : cells + mc ≤ R.cells ∧ slots + ms ≤ R.slots) :
    vx_Run p l e R s m args below meth c H locs cells slots mc ms g rest (Qc (Value.ref b :: As).toArray) XC free := by
  obtain ⟨⟨hrc, hrs, hfr, hlo, hws, hcw⟩, hcode, hini, hy, hlen, hl, hin, hse⟩ := cw
  have hK : vx_Back l R p e below s args y 3 8 (PreOf R mc ms Pc) (PostOf Qc mc ms free) (vx_Post XC mc ms free) := vx_backW (hh := hh) (bytes := bytes) (maxL := maxL) (ret := ret) hM hp.1 hrc hrs hfr hlo hws hcw (fun a' U hW => word_at hW (Or.inl (by first | rfl | simp [Cond.onTables, Cond.keeps, Cond.steady])) hini)
  obtain ⟨hx, hb, hml, ho, -⟩ := S
  obtain ⟨-, ⟨cellB, hcB, hoB, hclB⟩, hPc⟩ := hp
  intro T hT X
  rcases vx_callVX X hx (C := C) (hh := hh) (bytes := bytes) (maxL := maxL) (ret := ret) ho hl hin hse hcode hy hK (by rw [hT]; exact hcB) hoB hclB hg (hsize.trans hml.symm) (argsL := As) (rest := rest) (fun sig h => hn.trans (hlen sig h)) hstack hW (by rw [hb]; exact hdg)
    (fun vm₁ hW₁ => ⟨hf.1, hf.2, hPc (T.setVm vm₁) hT hW₁⟩) with ⟨v, vm₁, ⟨U', l2, c2, s2⟩, hW₁, X', ⟨g', mk, t, L, e1, e2, hq, h1, hL, h2, h3⟩, st⟩ | ⟨q, vm₁, ⟨U', l2, c2, s2⟩, hW₁, X', ⟨g', mk, t, L, E, ce, e1, e2, hq, hce, hcv, hcl, h1, hL, h2, h3⟩, st⟩
  · dsimp only [Pt.U, Pt.locs, Pt.cells, Pt.slots] at X' e1 e2 h1 h2 h3 st
    subst h1; subst h2; subst h3
    exact Or.inl ⟨v, (T.setVm vm₁).calling g' mk (Value.ref b :: As).toArray, t, U', L, hT, X', hL, e1, e2, hq, st⟩
  · dsimp only [Pt.U, Pt.locs, Pt.cells, Pt.slots] at X' e1 e2 h1 h2 h3 st hcl
    subst h1; subst h2; subst h3
    exact Or.inr ⟨q, (T.setVm vm₁).calling g' mk (Value.ref b :: As).toArray, t, U', L, E, ce, hT, X', hL, e1, e2, hq, hce, hcv, vx_cls hW₁ hcl, st⟩
theorem vx_runSX {hh : List (Nat × Nat × Nat × Nat)} (S : CallFix p m c cc nL s args Ts own) (hM : vx_Met l y ws rm Pc Qc XC mc ms free) (cw : vx_CSW R s args own index y bytes maxL ret hh ws rm mc ms n) (hp : PreS s H Pc As)
    (hg : g.method = m) (hn : As.length = n) (hsize : g.locals.size = nL) (hstack : g.stack = As.reverse ++ rest) (hW : 2 * g.monitorRoom + (rest.map fun v => v.category).sum ≤ 8) (hdg : decode cc g.pc = .ok (.invokestatic index, 3)) (hf : cells + mc ≤ R.cells ∧ slots + ms ≤ R.slots) :
    vx_Run p l e R s m args below meth c H locs cells slots mc ms g rest (Qc As.toArray) XC free := by
  obtain ⟨⟨hrc, hrs, hfr, hlo, hws, hcw⟩, hcode, hini, hy, hlen, hl, hstt⟩ := cw
  have hK : vx_Back l R p e below s args y 3 8 (PreOf R mc ms Pc) (PostOf Qc mc ms free) (vx_Post XC mc ms free) := vx_backW (hh := hh) (bytes := bytes) (maxL := maxL) (ret := ret) hM hp.1 hrc hrs hfr hlo hws hcw (fun a' U hW => word_at hW (Or.inl (by first | rfl | simp [Cond.onTables, Cond.keeps, Cond.steady])) hini)
  obtain ⟨hx, hb, hml, ho, -⟩ := S
  intro T hT X
  rcases vx_callSX X hx (hh := hh) (bytes := bytes) (maxL := maxL) (ret := ret) ho hl hstt hini hcode hy hK hg (hsize.trans hml.symm) (argsL := As) (rest := rest) (fun sig h => hn.trans (hlen sig h)) hstack hW (by rw [hb]; exact hdg)
    (fun vm₁ hW₁ => ⟨hf.1, hf.2, hp.2 (T.setVm vm₁) hT hW₁⟩) with ⟨v, vm₁, ⟨U', l2, c2, s2⟩, hW₁, X', ⟨g', mk, t, L, e1, e2, hq, h1, hL, h2, h3⟩, st⟩ | ⟨q, vm₁, ⟨U', l2, c2, s2⟩, hW₁, X', ⟨g', mk, t, L, E, ce, e1, e2, hq, hce, hcv, hcl, h1, hL, h2, h3⟩, st⟩
  · dsimp only [Pt.U, Pt.locs, Pt.cells, Pt.slots] at X' e1 e2 h1 h2 h3 st
    subst h1; subst h2; subst h3
    exact Or.inl ⟨v, (T.setVm vm₁).calling g' mk As.toArray, t, U', L, hT, X', hL, e1, e2, hq, st⟩
  · dsimp only [Pt.U, Pt.locs, Pt.cells, Pt.slots] at X' e1 e2 h1 h2 h3 st hcl
    subst h1; subst h2; subst h3
    exact Or.inr ⟨q, (T.setVm vm₁).calling g' mk As.toArray, t, U', L, E, ce, hT, X', hL, e1, e2, hq, hce, hcv, vx_cls hW₁ hcl, st⟩
end
end VXH
theorem vx_ofWH {l : Launch} {y : MethodName} {ws ws' : List Cond} {rm : Room} {Pc : Array Value → State → Prop} {Qc : Array Value → State → Outcome → State → Prop} {XC : String → State → State → Prop} {mc ms : Nat} {free : Addr → Prop} {cc : ByteArray} {maxL : Nat} {ret : Option FieldType} {hh : List (Nat × Nat × Nat × Nat)}
    (hy : plainName y.cls = true) (hw : ws = Cond.codeWith y cc maxL ret hh :: ws')
    (body : ∀ p e s m args below meth c s₁, BodyLoose p l y (headSpec ws rm) cc maxL ret e s m args below meth c s₁ → c.maxLocals = maxL → Pc args s →
      W p l e (headSpec ws rm).room s m args below meth c s.heap [] 0 0 (vx_MQ below Qc XC args s mc ms free) (entryFrame m args maxL)) : vx_Met l y ws rm Pc Qc XC mc ms free := by
  refine MetFree.of_bodyS (code := cc) (maxLocals := maxL) (ret := ret) hy ?_ ?_
  · intro args s m h hn
    obtain ⟨m9, meth, c, hn9, h1, h2, h3, h4, -, h5, h6, -⟩ := Cond.codeWith_spec (atoms_spec (ws := ws) h _ (by rw [hw]; exact List.mem_cons_self))
    cases hn.symm.trans hn9
    exact ⟨meth, c, h1, h2, h3, h4, h5, h6⟩
  · intro p e s m args below meth c s₁ B hml hP _
    have hh0 : s₁.heap = s.heap := by rw [B.state]; rfl
    obtain ⟨t, a1, o, b1, b2, b3⟩ := body p e s m args below meth c s₁ B hml hP s₁ hh0 (Stand.of_body B)
    exact ⟨t, o, a1, b1, b2, b3⟩
/-! ===== END ===== -/

/-! ===== BEGIN what the machine throws by itself, no traces kept ===== -/
section VXM
set_option maxHeartbeats 1000000 in
/-- the machine throws cls with the message text, no traces kept: from its note over the frame g to 'throwing' over the same frame (follows the proofs of Stand.vmThrowsMessage, Shelf/KitTracedVmS.lean, and Stand.throwsMessageColdBareV, StandMessageColdV.lean, without the step out of the frame) -/
theorem vx_vmAt {p : Program} {l : Launch} {e : Env} {R : Room} {s : State} {m₀ : MethodId} {args : Array Value} {below : List Frame} {meth : Method} {c : Code} {W : State} {locs : List Loc} {cells slots : Nat}
    (X : Stand p l e R s m₀ args below meth c W locs cells slots) (hexec : p.tables.exec = Jvm.exec) (htr : e.platform.stackTraces = false) {cls : String} {names : List String} {text : String}
    (hcls : Bundle.fit cls = true) (hnames : ∀ n ∈ names, Bundle.fit n = true) (hsoe : (cls == "java/lang/StackOverflowError") = false) (hoom : (cls == "java/lang/OutOfMemoryError") = false)
    (h : ∀ a ∈ Bundle.messageArmAtoms cls names, a.before args s = true)
    (hlocs : ∀ x ∈ locs, ∀ cell, s.heap[x.base]? = some cell → cell.vm.isStatics = false)
    (htext : (text == notModelled) = false) (hlimit : ¬ (stringBytes (stringToUtf16 text)).size > e.platform.arrayLengthLimit) (hheap : ¬ (stringBytes (stringToUtf16 text)).size * componentBytes .byte > e.platform.maxHeapBytes)
    {g : JFrame} (hg : g.method = m₀) (hsize : g.locals.size = c.maxLocals)
    (hRframes : names.length + 4 < R.frames) (hRlocals : 2 * g.monitorRoom + (g.stack.map fun v => v.category).sum + 10240 ≤ R.locals) (hshort : 13 * names.length + 55 ≤ 10240)
    (hRcells : cells + 3 ≤ R.cells) (hRslots : slots + ((stringBytes (stringToUtf16 text)).size + 4 + 6) ≤ R.slots) (hlocks : meth.locks = false) :
    ∃ (S : State) (q : Addr) (ce : Cell), (∀ target, Steps p.tables e below ((S.setTop g).pushFrame (.throwing q)) target → Steps p.tables e below ((W.setTop g).pushFrame (.throwNew cls (some text) none)) target) ∧
      Stand p l e R s m₀ args below meth c S locs (cells + 3) (slots + ((stringBytes (stringToUtf16 text)).size + 4 + 6)) ∧ S.heap[q]? = some ce ∧ s.vm.findClass cls = some ce.cls ∧ ce.vm = .none := by
  have howns : e.platform.frameOwnsMonitors = true := by rw [X.admits.platform]
  have hfin : e.platform.finalization = false := by rw [X.admits.platform]
  have hpl : e.platform.magicAccessors = ({} : Platform).magicAccessors := by rw [X.admits.platform]
  have a : ∀ x, x ∈ Bundle.messageArmAtoms cls names → x.holds args s none s [] = true := fun x hx => h x hx
  obtain ⟨T, Z0, L, -, Y⟩ := ThrowableC.of_atoms (args := args) howns hfin hpl (fun x hx => h x (by simp [Bundle.messageArmAtoms, hx]))
  obtain ⟨Z, M, LZ, LM, hnZ⟩ := Init0T.ofS_atoms (args := args) hpl L Y (fun x hx => h x (by simp [Bundle.messageArmAtoms, hx]))
  obtain ⟨P1, Ps, hlen, L1, hL, hP1m, hlink1, hlink⟩ := Bundle.chainS (args := args) hpl hnZ names cls hcls hnames (fun x hx => h x (by simp [Bundle.messageArmAtoms, hx]))
  obtain ⟨Zs, LZs, hn4, hfitv, hfitc⟩ := StringT.of_atoms (args := args) (fun x hx => h x (by simp [Bundle.messageArmAtoms, hx]))
  have hfound : s.vm.findClass cls = some P1.m.cls := findClass_of_methodNamed hP1m
  obtain ⟨c1, kX, hc1, hk, hord, -, -, hn6⟩ := Cond.instantiable_spec (a (.instantiable cls 6) (by simp [Bundle.messageArmAtoms]))
  cases Option.some.inj (hc1.symm.trans hfound)
  have hinit := Cond.initialized_spec hfound hk (a (.initialized cls) (by simp [Bundle.messageArmAtoms]))
  have hctor : kX.findMethod "<init>" "(Ljava/lang/String;)V" = some P1.m.idx := findMethod_of_methodNamed hP1m hk
  have hsel0 : selectMethod e.platform s.vm P1.m.cls T.fill0 = .method T.fill0 := by
    obtain ⟨c2, r2, m2, q1, q2, q3, q4, -⟩ := Cond.selects_spec (a (.selects cls Bundle.tFill0 Bundle.tFill0) (by simp [Bundle.messageArmAtoms]))
    cases Option.some.inj (q1.symm.trans hfound)
    cases Option.some.inj (q2.symm.trans (State.methodFound?_of_named Y.fill0 (by decide)))
    cases Option.some.inj (q3.symm.trans Y.fill0)
    rw [Launch.admits_selectMethod X.admits]; exact q4
  have hselF : selectMethod e.platform s.vm P1.m.cls T.fill = .method T.fill := by
    obtain ⟨c2, r2, m2, q1, q2, q3, q4, -⟩ := Cond.selects_spec (a (.selects cls Bundle.tFill Bundle.tFill) (by simp [Bundle.messageArmAtoms]))
    cases Option.some.inj (q1.symm.trans hfound)
    cases Option.some.inj (q2.symm.trans (State.methodFound?_of_named Y.fill (by decide)))
    cases Option.some.inj (q3.symm.trans Y.fill)
    rw [Launch.admits_selectMethod X.admits]; exact q4
  obtain ⟨cellS0, hcS0, hiss⟩ := Y.statics
  obtain ⟨u0, hu0⟩ := Cond.staticRefV Y.unassigned L.unassignedStatic L.statics hcS0 hiss (a (.isRef (.static Bundle.tN "UNASSIGNED_STACK" Bundle.steD)) (by simp [Bundle.messageArmAtoms]))
  obtain ⟨sen, hsen⟩ := Cond.staticRefV Y.sentinel L.sentinelStatic L.statics hcS0 hiss (a (.isRef (.static Bundle.tN "SUPPRESSED_SENTINEL" Bundle.listD)) (by simp [Bundle.messageArmAtoms]))
  obtain ⟨ci198, i198, fB, hk198, hg198, ha198, hsB, -, hnB, htB, hffB⟩ := Cond.ownField (t := .object "java/lang/Object") Y.found L.cls (by decide +kernel) (a (.fieldLink Bundle.tN 198 Bundle.tN "backtrace" "Ljava/lang/Object;") (by simp [Bundle.messageArmAtoms])) (a (.lays Bundle.tN Bundle.tN "backtrace" "Ljava/lang/Object;") (by simp [Bundle.messageArmAtoms])) e.platform hpl
  obtain ⟨cellS, hcS', heS, -, hkeep⟩ := X.same.2.2.2.2.2 T.aS cellS0 hcS0
  have hcellS : W.heap[T.aS]? = some cellS := hcS'
  have hout' : ∀ i, (⟨T.aS, i⟩ : Loc) ∉ locs := fun i hmem => by
    have := hlocs _ hmem cellS0 hcS0
    rw [hiss] at this; cases this
  have hknownS : cellS.vm ≠ .unknown := by
    rw [heS]; intro hu
    rw [show cellS0.vm = .unknown from hu] at hiss
    cases hiss
  have hvU : cellS.slots[T.fUnassigned.slot]? = some u0.v := by rw [hkeep _ (hout' _)]; exact hu0
  have hvSen : cellS.slots[T.fSentinel.slot]? = some sen.v := by rw [hkeep _ (hout' _)]; exact hsen
  obtain ⟨iM, hffM⟩ := Y.msg
  obtain ⟨tyC, dC, hdC, hdnC⟩ := Cond.laysAt hfound hk Y.cause (a (.lays cls Bundle.tN "cause" "Ljava/lang/Throwable;") (by simp [Bundle.messageArmAtoms]))
  obtain ⟨tyS, dS, hdS, hdnS⟩ := Cond.laysAt hfound hk Y.stack (a (.lays cls Bundle.tN "stackTrace" Bundle.steD) (by simp [Bundle.messageArmAtoms]))
  obtain ⟨tyP, dP, hdP, hdnP⟩ := Cond.laysAt hfound hk Y.supp (a (.lays cls Bundle.tN "suppressedExceptions" Bundle.listD) (by simp [Bundle.messageArmAtoms]))
  obtain ⟨tyM, dM, hdM, hdnM⟩ := Cond.laysAt hfound hk hffM (a (.lays cls Bundle.tN "detailMessage" "Ljava/lang/String;") (by simp [Bundle.messageArmAtoms]))
  obtain ⟨tyB, dB, hdB, hdnB⟩ := Cond.laysAt hfound hk hffB (a (.lays cls Bundle.tN "backtrace" "Ljava/lang/Object;") (by simp [Bundle.messageArmAtoms]))
  have bC := Cond.laysApart hdB hdC hdnB hdnC (by rw [hnB, Y.causeName]; decide)
  have bS := Cond.laysApart hdB hdS hdnB hdnS (by rw [hnB, Y.stackName]; decide)
  have bP := Cond.laysApart hdB hdP hdnB hdnP (by rw [hnB, Y.suppName]; decide)
  have hbk : ((preparedCellV T.toThrowableT (freshCell P1.m.cls kX) (W.heap.size + 2) u0 sen).withEntry W.cur).slots[fB.slot]? = some .null := by
    have := fresh_default (c := P1.m.cls) tyB
    rw [htB] at this
    simpa [preparedCellV, Cell.setSlot, Cell.withEntry, Array.getElem?_setIfInBounds, bC, bS, bP, bC.symm, bS.symm, bP.symm, defaultValue] using this
  have tkC := Takes.of_laid (v := .ref (W.heap.size + 2)) hk hord tyC (by rw [Y.causeType]; rfl)
  have tkS := Takes.of_laid (v := u0.v) hk hord tyS (by rw [Y.stackType]; exact fits_refV_array _ u0)
  have tkP := Takes.of_laid (v := sen.v) hk hord tyP (by rw [Y.suppType]; exact fits_refV_object _ sen)
  have tkM := Takes.of_laid (v := .ref (W.heap.size + 1)) hk hord tyM (by rw [Y.msgType]; rfl)
  have hskip : SkipFacts T e.platform s (fun u => u) u0 ((preparedCellV T.toThrowableT (freshCell P1.m.cls kX) (W.heap.size + 2) u0 sen).withEntry W.cur) := ⟨{ ci198 := ci198, i198 := i198, fBack := fB }, ⟨hk198, hg198, ha198, hsB⟩, hbk, fun _ _ => rfl⟩
  have h0 : At W g.method c below := by rw [hg]; exact X.here
  obtain ⟨hbeyond, hfreeW⟩ := X.vmMayThrow hsize (.throwNew cls (some text) none) (fun f hf => by cases hf) rfl hRlocals
  have hfr' : W.frames.length + Ps.length + 4 < (e.platform.stackLimits W.me).1 := by have := X.framesAbove hRframes; omega
  have hwd' : (stackUse (.java g :: W.frames.tail)).2 + 13 * Ps.length + 55 ≤ (e.platform.stackLimits W.me).2 := by have := X.stackAbove hsize (K := 13 * Ps.length + 55) (by omega); omega
  have hslots : W.slotsUsed + (stringBytes (stringToUtf16 text)).size + Zs.kS.instanceTypes.size + kX.instanceTypes.size ≤ e.platform.maxSlots := by
    have := X.slotsAbove hRslots
    rw [hn4, hn6]
    omega
  obtain ⟨vm', hW', st⟩ := Steps.vmThrowsMessageColdByV p (s₀ := s) (S := W) (g := g) h0 hexec T L Z LZ M LM X.warmed (t := W.cur) rfl Zs LZs P1 L1 Ps hL hlink1 hlink hsoe hoom hfound hk hinit hord hctor
    (Launch.admits_hotImplicitExceptions X.admits) hbeyond hfreeW htext hlimit hheap (X.cellsAbove hRcells) hslots (hfitv _) (hfitc _)
    (Nn := fun u => u) heapOnly_id (fun _ _ => rfl) (fun _ => rfl) (fun u x y => setCell_twice _ _ _ _) (fun _ => Nat.le_refl _) (cN := ((preparedCellV T.toThrowableT (freshCell P1.m.cls kX) (W.heap.size + 2) u0 sen).withEntry W.cur))
    hsel0 hcellS hknownS hvU tkS (fun _ hu => hu) (fun _ hu => hu) rfl rfl rfl (by simp [preparedCellV, Cell.setSlot, Cell.withEntry]) hskip (fun _ _ hA hW _ hroom _ hrest => L.nativeOff p htr hA hW hroom hrest) hselF hvSen tkC tkP tkM Y.objLocals rfl hfr' hwd'
  rw [plainBareV_eq T.toThrowableT (W.heap.size + 2) u0 sen (.ref (W.heap.size + 1)) W.cur rfl rfl] at st
  obtain ⟨-, -, w3, w4, -, -, -⟩ := withThrown_facts e.platform W Zs text P1.m.cls kX
  have X3 := ((X.pushed (bytesOf Zs.cB (stringToUtf16 text))).pushed (stringAt Zs.cS Zs.kS Zs.fv Zs.fc (stringToUtf16 text) W.heap.size)).pushed (freshCell P1.m.cls kX)
  rw [← withString_eq] at X3
  have X4 := X3.noted hW'
  have ha : (W.heap.size + 2) < ((withThrown W Zs text P1.m.cls kX).setVm vm').heap.size := by show _ < (withThrown W Zs text P1.m.cls kX).heap.size; rw [w3]; omega
  have hcell : ((withThrown W Zs text P1.m.cls kX).setVm vm').heap[(W.heap.size + 2)]? = some (freshCell P1.m.cls kX) := w4
  have X5 := ((((X4.stored hcell T.fCause.slot (.ref (W.heap.size + 2))).storedAgain ha T.fStack.slot u0.v).storedAgain ha T.fSupp.slot sen.v).storedAgain ha T.fStack.slot u0.v).storedAgain ha T.fMsg.slot (.ref (W.heap.size + 1))
  obtain ⟨g₁, hfrM⟩ := X5.frames_eq
  have hU : ((((withThrown W Zs text P1.m.cls kX).setVm vm').setCell (W.heap.size + 2) (plainBareV T.toThrowableT (freshCell P1.m.cls kX) (W.heap.size + 2) u0 sen (.ref (W.heap.size + 1)))).setTop g).pushFrame (.throwing (W.heap.size + 2)) = (((withThrown W Zs text P1.m.cls kX).setVm vm').setCell (W.heap.size + 2) (plainBareV T.toThrowableT (freshCell P1.m.cls kX) (W.heap.size + 2) u0 sen (.ref (W.heap.size + 1)))).setFrames (.throwing (W.heap.size + 2) :: .java g :: below) := by
    rw [State.pushFrame, State.frames_setTop _ hfrM, State.setTop_of_frames _ hfrM, State.setFrames_setFrames]
  have b1 : (bytesOf Zs.cB (stringToUtf16 text)).slots.size = (stringBytes (stringToUtf16 text)).size := by
    rw [(Cell.writeAll_facts _ _).2.2]; simp [bytes0]
  have b2 : (stringAt Zs.cS Zs.kS Zs.fv Zs.fc (stringToUtf16 text) W.heap.size).slots.size = 4 := by simp [string0, Cell.setSlot, hn4]
  have b3 : (freshCell P1.m.cls kX).slots.size = 6 := by simp [hn6]
  rw [b1, b2, b3] at X5
  have e9 : slots + (stringBytes (stringToUtf16 text)).size + 4 + 6 = slots + ((stringBytes (stringToUtf16 text)).size + 4 + 6) := by omega
  rw [e9] at X5
  simp only [List.append_assoc, List.cons_append, List.nil_append] at X5
  refine ⟨((withThrown W Zs text P1.m.cls kX).setVm vm').setCell (W.heap.size + 2) (plainBareV T.toThrowableT (freshCell P1.m.cls kX) (W.heap.size + 2) u0 sen (.ref (W.heap.size + 1))), W.heap.size + 2, _, fun target ht => st _ (by rw [X.tail, ← hU]; exact ht),
    X5.forget (fun y hy => ?_), heapAt_setCell_self _ ha, hfound, rfl⟩
  simp only [List.mem_cons, List.not_mem_nil, or_false] at hy
  have hge : s.heap.size ≤ W.heap.size := X.same.2.1
  rcases hy with rfl | rfl | rfl | rfl | rfl <;> exact Nat.le_trans hge (Nat.le_add_right _ 2)
set_option maxHeartbeats 1000000 in
/-- the machine throws NullPointerException, no traces kept: from its note over the frame g to 'throwing' over the same frame (follows the proof of Stand.vmThrowsNpe, Shelf42/KT2.lean; throwsNpeColdBareVAt, Shelf42/NT91.lean, called) -/
theorem vx_npeAt {p : Program} {l : Launch} {e : Env} {R : Room} {s : State} {m₀ : MethodId} {args : Array Value} {below : List Frame} {meth : Method} {c : Code} {W : State} {locs : List Loc} {cells slots : Nat}
    (X : Stand p l e R s m₀ args below meth c W locs cells slots) (hexec : p.tables.exec = Jvm.exec) (htr : e.platform.stackTraces = false) {n : Nat}
    (h : ∀ a ∈ Bundle.npeArmAtoms n, a.before args s = true)
    (hlocs : ∀ x ∈ locs, ∀ cell, s.heap[x.base]? = some cell → cell.vm.isStatics = false)
    {g : JFrame} (hg : g.method = m₀) (hsize : g.locals.size = c.maxLocals)
    (hRframes : 7 < R.frames) (hRlocals : 2 * g.monitorRoom + (g.stack.map fun v => v.category).sum + 10240 ≤ R.locals)
    (hRcells : cells + 1 ≤ R.cells) (hRslots : slots + n ≤ R.slots) (hlocks : meth.locks = false) :
    ∃ (S : State) (q : Addr) (ce : Cell), (∀ target, Steps p.tables e below ((S.setTop g).pushFrame (.throwing q)) target → Steps p.tables e below ((W.setTop g).pushFrame (.throwNew "java/lang/NullPointerException" none none)) target) ∧
      Stand p l e R s m₀ args below meth c S locs (cells + 1) (slots + n) ∧ S.heap[q]? = some ce ∧ s.vm.findClass "java/lang/NullPointerException" = some ce.cls ∧ ce.vm = .none := by
  have howns : e.platform.frameOwnsMonitors = true := by rw [X.admits.platform]
  have hfin : e.platform.finalization = false := by rw [X.admits.platform]
  have hpl : e.platform.magicAccessors = ({} : Platform).magicAccessors := by rw [X.admits.platform]
  have hpl2 : e.platform.arrayCloneIsPublic = true := by rw [X.admits.platform]
  have a' : ∀ x, x ∈ Bundle.npeArmAtoms n → x.holds args s none s [] = true := fun x hx => h x hx
  obtain ⟨T, Z, L, LZ, Y⟩ := ThrowableC.of_atoms (args := args) howns hfin hpl (fun x hx => h x (by simp [Bundle.npeArmAtoms, hx]))
  obtain ⟨N, LN, hcN, hnNF, hordN, hffS⟩ := NpeC.of_atoms (args := args) hpl hpl2 L Y (fun x hx => h x (by simp [Bundle.npeArmAtoms, hx]))
  obtain ⟨P1, L1, hP1m, hP1s⟩ := PassC.of_atoms (args := args) (s := s) hpl (X := Bundle.nN) (Y := Bundle.rN) (by decide) (by decide) LibCode.NullPointerException.Init0.at_0 LibCode.NullPointerException.Init0.at_1 LibCode.NullPointerException.Init0.at_4 (fun x hx => h x (by simp [Bundle.npeArmAtoms, hx]))
  obtain ⟨PR, LR, hPRm, hPRs⟩ := PassC.of_atoms (args := args) (s := s) hpl (X := Bundle.rN) (Y := Bundle.eN) (by decide) (by decide) LibCode.RuntimeException.Init0.at_0 LibCode.RuntimeException.Init0.at_1 LibCode.RuntimeException.Init0.at_4 (fun x hx => h x (by simp [Bundle.npeArmAtoms, hx]))
  obtain ⟨PE, LEx, hPEm, hPEs⟩ := PassC.of_atoms (args := args) (s := s) hpl (X := Bundle.eN) (Y := Bundle.tN) (by decide) (by decide) LibCode.Exception.Init0.at_0 LibCode.Exception.Init0.at_1 LibCode.Exception.Init0.at_4 (fun x hx => h x (by simp [Bundle.npeArmAtoms, hx]))
  have hfound : s.vm.findClass Bundle.nN = some P1.m.cls := findClass_of_methodNamed hP1m
  have ecls : N.cN = P1.m.cls := Option.some.inj (hcN.symm.trans hfound)
  have hk : s.vm.classes[P1.m.cls]? = some N.kN := by rw [← ecls]; exact LN.cls
  have hinit := Cond.initialized_spec hfound hk (a' (.initialized Bundle.nN) (by simp [Bundle.npeArmAtoms]))
  have hctor : N.kN.findMethod "<init>" "()V" = some P1.m.idx := findMethod_of_methodNamed hP1m hk
  obtain ⟨c1, k1, hc1, hk1, -, -, -, hn⟩ := Cond.instantiable_spec (a' (.instantiable Bundle.nN n) (by simp [Bundle.npeArmAtoms]))
  cases Option.some.inj (hc1.symm.trans hfound)
  cases Option.some.inj (hk1.symm.trans hk)
  have hfsz : (freshCell P1.m.cls N.kN).slots.size = n := by simp [hn]
  have hlink1 : P1.sup = PR.m := Option.some.inj (hP1s.symm.trans hPRm)
  have hlinkR : PR.sup = PE.m := Option.some.inj (hPRs.symm.trans hPEm)
  have hlinkE : PE.sup = Z.m T.toThrowableT := Option.some.inj (hPEs.symm.trans Y.init0)
  have hLs : ∀ P, P ∈ [PR, PE] → P.Links0 e.platform s := fun P hP => by
    simp only [List.mem_cons, List.not_mem_nil, or_false] at hP
    rcases hP with rfl | rfl
    · exact LR
    · exact LEx
  have hsel0 : selectMethod e.platform s.vm P1.m.cls T.fill0 = .method T.fill0 := by
    obtain ⟨c2, r2, m2, q1, q2, q3, q4, -⟩ := Cond.selects_spec (a' (.selects Bundle.nN Bundle.tFill0 Bundle.tFill0) (by simp [Bundle.npeArmAtoms]))
    cases Option.some.inj (q1.symm.trans hfound)
    cases Option.some.inj (q2.symm.trans (State.methodFound?_of_named Y.fill0 (by decide)))
    cases Option.some.inj (q3.symm.trans Y.fill0)
    rw [Launch.admits_selectMethod X.admits]; exact q4
  have hselF : selectMethod e.platform s.vm P1.m.cls T.fill = .method N.fill := by
    obtain ⟨c2, r2, m2, q1, q2, q3, q4, -⟩ := Cond.selects_spec (a' (.selects Bundle.nN Bundle.tFill Bundle.nFill) (by simp [Bundle.npeArmAtoms]))
    cases Option.some.inj (q1.symm.trans hfound)
    cases Option.some.inj (q2.symm.trans (State.methodFound?_of_named Y.fill (by decide)))
    cases Option.some.inj (q3.symm.trans hnNF)
    rw [Launch.admits_selectMethod X.admits]; exact q4
  obtain ⟨cellS0, hcS0, hiss⟩ := Y.statics
  obtain ⟨u0, hu0⟩ := Cond.staticRefV Y.unassigned L.unassignedStatic L.statics hcS0 hiss (a' (.isRef (.static Bundle.tN "UNASSIGNED_STACK" Bundle.steD)) (by simp [Bundle.npeArmAtoms]))
  obtain ⟨sen, hsen⟩ := Cond.staticRefV Y.sentinel L.sentinelStatic L.statics hcS0 hiss (a' (.isRef (.static Bundle.tN "SUPPRESSED_SENTINEL" Bundle.listD)) (by simp [Bundle.npeArmAtoms]))
  obtain ⟨ci198, i198, fB, hk198, hg198, ha198, hsB, -, hnB, htB, hffB⟩ := Cond.ownField (t := .object "java/lang/Object") Y.found L.cls (by decide +kernel) (a' (.fieldLink Bundle.tN 198 Bundle.tN "backtrace" Bundle.objD) (by simp [Bundle.npeArmAtoms])) (a' (.lays Bundle.tN Bundle.tN "backtrace" Bundle.objD) (by simp [Bundle.npeArmAtoms])) e.platform hpl
  obtain ⟨cellS, hcS', heS, -, hkeep⟩ := X.same.2.2.2.2.2 T.aS cellS0 hcS0
  have hcellS : W.heap[T.aS]? = some cellS := hcS'
  have hout' : ∀ i, (⟨T.aS, i⟩ : Loc) ∉ locs := fun i hmem => by
    have := hlocs _ hmem cellS0 hcS0
    rw [hiss] at this; cases this
  have hknownS : cellS.vm ≠ .unknown := by
    rw [heS]; intro hu
    rw [show cellS0.vm = .unknown from hu] at hiss
    cases hiss
  have hvU : cellS.slots[T.fUnassigned.slot]? = some u0.v := by rw [hkeep _ (hout' _)]; exact hu0
  have hvSen : cellS.slots[T.fSentinel.slot]? = some sen.v := by rw [hkeep _ (hout' _)]; exact hsen
  obtain ⟨tyC, dC, hdC, hdnC⟩ := Cond.laysAt hfound hk Y.cause (a' (.lays Bundle.nN Bundle.tN "cause" "Ljava/lang/Throwable;") (by simp [Bundle.npeArmAtoms]))
  obtain ⟨tyS, dS, hdS, hdnS⟩ := Cond.laysAt hfound hk Y.stack (a' (.lays Bundle.nN Bundle.tN "stackTrace" Bundle.steD) (by simp [Bundle.npeArmAtoms]))
  obtain ⟨tyP, dP, hdP, hdnP⟩ := Cond.laysAt hfound hk Y.supp (a' (.lays Bundle.nN Bundle.tN "suppressedExceptions" Bundle.listD) (by simp [Bundle.npeArmAtoms]))
  obtain ⟨tyX, dX, hdX, hdnX⟩ := Cond.laysAt hfound hk hffS (a' (.lays Bundle.nN Bundle.nN "extendedMessageState" "I") (by simp [Bundle.npeArmAtoms, Bundle.npeAtoms]))
  obtain ⟨hnX, htX⟩ := State.fieldFound?_type hffS (t := .int) (by decide +kernel)
  have xC := Cond.laysApart hdC hdX hdnC hdnX (by rw [hnX, Y.causeName]; decide)
  have xS := Cond.laysApart hdS hdX hdnS hdnX (by rw [hnX, Y.stackName]; decide)
  have xP := Cond.laysApart hdP hdX hdnP hdnX (by rw [hnX, Y.suppName]; decide)
  have hv0 : (freshCell P1.m.cls N.kN).slots[N.fState.slot]? = some (.int 0) := by
    have := fresh_default (c := P1.m.cls) tyX
    rw [htX] at this; exact this
  obtain ⟨tyB, dB, hdB, hdnB⟩ := Cond.laysAt hfound hk hffB (a' (.lays Bundle.nN Bundle.tN "backtrace" Bundle.objD) (by simp [Bundle.npeArmAtoms]))
  have bC := Cond.laysApart hdB hdC hdnB hdnC (by rw [hnB, Y.causeName]; decide)
  have bS := Cond.laysApart hdB hdS hdnB hdnS (by rw [hnB, Y.stackName]; decide)
  have bP := Cond.laysApart hdB hdP hdnB hdnP (by rw [hnB, Y.suppName]; decide)
  have bX := Cond.laysApart hdB hdX hdnB hdnX (by rw [hnB, hnX]; decide)
  have hbk : ((npeCell N.toNpeT (preparedCellV T.toThrowableT (freshCell P1.m.cls N.kN) W.heap.size u0 sen) W.cur).withEntry W.cur).slots[fB.slot]? = some .null := by
    have := fresh_default (c := P1.m.cls) tyB
    rw [htB] at this
    simpa [npeCell, preparedCellV, Cell.setSlot, Cell.withEntry, Array.getElem?_setIfInBounds, bC, bS, bP, bX, bC.symm, bS.symm, bP.symm, bX.symm, defaultValue] using this
  have tkC := Takes.of_laid (v := .ref W.heap.size) hk hordN tyC (by rw [Y.causeType]; rfl)
  have tkS := Takes.of_laid (v := u0.v) hk hordN tyS (by rw [Y.stackType]; exact fits_refV_array _ u0)
  have tkP := Takes.of_laid (v := sen.v) hk hordN tyP (by rw [Y.suppType]; exact fits_refV_object _ sen)
  have tkX := Takes.of_laid (v := .int 1) hk hordN tyX (by rw [htX]; rfl)
  have hskip : SkipFacts T e.platform s (fun u => u) u0 ((npeCell N.toNpeT (preparedCellV T.toThrowableT (freshCell P1.m.cls N.kN) W.heap.size u0 sen) W.cur).withEntry W.cur) := ⟨{ ci198 := ci198, i198 := i198, fBack := fB }, ⟨hk198, hg198, ha198, hsB⟩, hbk, fun _ _ => rfl⟩
  obtain ⟨vm', X3, st, -⟩ := X.throwsNpeColdBareVAt hexec hg hsize T L Z LZ N LN P1 L1 [PR, PE] hLs hlink1 ⟨hlinkR, hlinkE, trivial⟩ hfound hk hinit hordN hctor hsel0 hselF hcellS hknownS hvU hvSen
    hv0 xC xS xP tkC tkS tkP tkX Y.objLocals hskip (fun _ _ hA hW _ hroom _ hrest => L.nativeOff p htr hA hW hroom hrest) (by simpa using hRframes) hRlocals (by simp) hRcells (by rw [hn]; exact hRslots)
  have hlt : W.heap.size < ((W.pushCell (freshCell P1.m.cls N.kN)).setVm vm').heap.size := by
    show W.heap.size < (W.pushCell (freshCell P1.m.cls N.kN)).heap.size
    rw [State.heap_size_pushCell]; omega
  rw [hfsz] at X3
  obtain ⟨g₁, hfrM⟩ := X3.frames_eq
  have hU : ((((W.pushCell (freshCell P1.m.cls N.kN)).setVm vm').setCell W.heap.size (npeBareV T.toThrowableT N.toNpeT (freshCell P1.m.cls N.kN) W.heap.size u0 sen)).setTop g).pushFrame (.throwing W.heap.size) = (((W.pushCell (freshCell P1.m.cls N.kN)).setVm vm').setCell W.heap.size (npeBareV T.toThrowableT N.toNpeT (freshCell P1.m.cls N.kN) W.heap.size u0 sen)).setFrames (.throwing W.heap.size :: .java g :: below) := by
    rw [State.pushFrame, State.frames_setTop _ hfrM, State.setTop_of_frames _ hfrM, State.setFrames_setFrames]
  refine ⟨_, W.heap.size, _, fun target ht => st.trans (by rw [← hU]; exact ht), X3.forget (fun y hy => ?_), heapAt_setCell_self _ hlt, hfound, rfl⟩
  simp only [List.mem_cons, List.not_mem_nil, or_false] at hy
  have hge : s.heap.size ≤ W.heap.size := X.same.2.1
  rcases hy with rfl | rfl | rfl | rfl | rfl <;> exact hge
/-- the words of a machine's NullPointerException, but the four that speak of the heap -/
def vx_atN (n : Nat) : List Cond := (Bundle.npeArmAtoms n).filter vx_no
/-- the words of a machine's throw with a message, but the four that speak of the heap -/
def vx_atM (X : String) (names : List String) : List Cond := (Bundle.messageArmAtoms X names).filter vx_no
section
variable {p : Program} {l : Launch} {e : Env} {R : Room} {s : State} {m : MethodId} {args : Array Value} {below : List Frame} {meth : Method} {c : Code} {H : Heap} {locs : List Loc} {cells slots : Nat}
/-- a frame seen from a rebased start, seen from the first start again -/
theorem vx_back9 {T S : State} {R' : Room} {k n : Nat} (X : Stand p l e R s m args below meth c T locs cells slots) (Y : Stand p l e R' ((T.setVm s.vm).setFrames (.invoking m args :: below)) m args below meth c T [] 0 0) (Z : Stand p l e R' ((T.setVm s.vm).setFrames (.invoking m args :: below)) m args below meth c S [] k n) :
    Stand p l e R s m args below meth c S locs (cells + k) (slots + n) := by
  have hW0 : s.WarmedH ((T.setVm s.vm).setFrames (.invoking m args :: below)).vm := State.WarmedH.refl s
  refine { admits := X.admits, cas := X.cas, clock := X.clock, frames := X.frames, room := X.room, hears := X.hears, method := X.method, code := X.code, here := Z.here, tail := Z.tail, warmed := State.WarmedH.trans hW0 Z.warmed, limits := Z.limits.trans (Y.limits.symm.trans X.limits), bytes := Z.bytes.trans (Y.bytes.symm.trans X.bytes), same := ?_ }
  obtain ⟨e1, e2⟩ := Z.same
  rw [State.setFrames_setFrames] at e1
  have h2 : (T.setVm s.vm).sameButNew (S.setVm s.vm) [] k n := ⟨e1, e2⟩
  have h3 := X.same.trans h2
  rw [List.append_nil] at h3
  exact h3
/-- from the machine's note that E is thrown here with this text -/
def vx_Note (p : Program) (l : Launch) (e : Env) (R : Room) (s : State) (m : MethodId) (args : Array Value) (below : List Frame) (meth : Method) (c : Code) (H : Heap) (locs : List Loc) (cells slots : Nat) (Q : State → Prop) (g : JFrame) (E text : String) : Prop :=
  ∀ T : State, T.heap = H → Stand p l e R s m args below meth c T locs cells slots → ∃ t, Steps p.tables e below ((T.setTop g).pushFrame (.throwNew E (some text) none)) t ∧ Q t
theorem vx_vm {pc : Nat} {ls : Array Slot} {rest : List Value} {Q : State → Prop} (hexec : p.tables.exec = Jvm.exec) (hl : l.stackTraces = false) {cls text : String} {names : List String} {nb : Nat} {A : Nat → Prop}
    (hcls : Bundle.fit cls = true) (hnames : ∀ n ∈ names, Bundle.fit n = true) (hsoe : (cls == "java/lang/StackOverflowError") = false) (hoom : (cls == "java/lang/OutOfMemoryError") = false)
    (hat : ∀ w ∈ vx_atM cls names, w.before args s = true) (hgood : ∀ w ∈ vx_atM cls names, vx_ot w = true)
    (hU : vx_Zq Bundle.tN "UNASSIGNED_STACK" Bundle.steD A s s.heap) (hN : vx_Zq Bundle.tN "SUPPRESSED_SENTINEL" Bundle.listD A s s.heap) (hS : va_S A s.heap H locs) (hsize : ls.size = c.maxLocals)
    (htext : (text == notModelled) = false) (hnb : (stringBytes (stringToUtf16 text)).size ≤ nb) (hnb1 : nb ≤ 1000)
    (hRframes : names.length + 4 < R.frames) (hRlocals : (rest.map fun v => v.category).sum + 10240 ≤ R.locals) (hshort : 13 * names.length + 55 ≤ 10240) (hRcells : cells + 3 ≤ R.cells) (hRslots : slots + (nb + 10) ≤ R.slots) (hlocks : meth.locks = false)
    (k : ∀ (H1 : Heap) (q9 : Addr) (ce : Cell), H.size ≤ H1.size → (∀ q : Nat, q < H.size → H1[q]? = H[q]?) → va_S A s.heap H1 locs → H1[q9]? = some ce → ce.vm = .none → s.vm.findClass cls = some ce.cls → vx_W p l e R s m args below meth c H1 locs (cells + 3) (slots + (nb + 10)) Q (F0 m pc ls rest) q9) :
    vx_Note p l e R s m args below meth c H locs cells slots Q (F0 m pc ls rest) cls text := by
  intro T hT X
  have htr : e.platform.stackTraces = false := (show e.platform.stackTraces = l.stackTraces by rw [X.admits.platform]).trans hl
  have Y := vx_rebase X (R' := { frames := R.frames, locals := R.locals, cells := 3, slots := nb + 10 }) (Nat.le_refl _) (Nat.le_refl _) hRcells hRslots
  have hhp : ((T.setVm s.vm).setFrames (.invoking m args :: below)).heap = H := hT
  have hW0 : s.WarmedH ((T.setVm s.vm).setFrames (.invoking m args :: below)).vm := State.WarmedH.refl s
  have hat' : ∀ w ∈ vx_atM cls names, w.before args ((T.setVm s.vm).setFrames (.invoking m args :: below)) = true := fun w hw => vx_ot_at hW0 rfl (hgood w hw) (hat w hw)
  have hU' : vx_Zq Bundle.tN "UNASSIGNED_STACK" Bundle.steD A ((T.setVm s.vm).setFrames (.invoking m args :: below)) ((T.setVm s.vm).setFrames (.invoking m args :: below)).heap := by rw [hhp]; exact vx_Zq.moved hW0.alike (hU.kept hS.2.1)
  have hN' : vx_Zq Bundle.tN "SUPPRESSED_SENTINEL" Bundle.listD A ((T.setVm s.vm).setFrames (.invoking m args :: below)) ((T.setVm s.vm).setFrames (.invoking m args :: below)).heap := by rw [hhp]; exact vx_Zq.moved hW0.alike (hN.kept hS.2.1)
  obtain ⟨S, q, ce, st, Z, hce, hcl', hv⟩ := vx_vmAt Y hexec htr (cls := cls) (names := names) (text := text) hcls hnames hsoe hoom (vx_own hat' (vx_isRefq hU'.1) (vx_isRefq hN'.1) hU'.2.word hN'.2.word) (fun x hx => nomatch hx) htext
    (by rw [Launch.admits_arrayLengthLimit X.admits]; omega) (by rw [Launch.admits_maxHeapBytes X.admits]; simp only [componentBytes]; omega)
    (g := F0 m pc ls rest) rfl hsize hRframes (by show 2 * 0 + (rest.map fun v => v.category).sum + 10240 ≤ R.locals; omega) hshort (by show 0 + 3 ≤ 3; omega) (by show 0 + (_ + 4 + 6) ≤ nb + 10; omega) hlocks
  obtain ⟨f1, f2⟩ := vx_frame Z.same
  have f1' : H.size ≤ S.heap.size := by rw [← hT]; exact f1
  have f2' : ∀ q : Nat, q < H.size → S.heap[q]? = H[q]? := fun q hq => by
    rw [← hT]
    exact f2 q (by rw [← hT] at hq; exact hq) (fun z hz => nomatch hz)
  have X5 := vx_back9 X Y Z
  have X6 : Stand p l e R s m args below meth c S locs (cells + 3) (slots + (nb + 10)) := { X5 with same := X5.same.mono (by omega) (by omega) }
  obtain ⟨t, a1, b1⟩ := k S.heap q ce f1' f2' ⟨Nat.le_trans hS.1 f1', fun q h1 h2 => (f2' q (Nat.lt_of_lt_of_le h1 hS.1)).trans (hS.2.1 q h1 h2), hS.2.2⟩ hce hv hcl' S rfl X6
  exact ⟨t, st t a1, b1⟩
/-- from the machine's note that NullPointerException is thrown here -/
def vx_NoteN (p : Program) (l : Launch) (e : Env) (R : Room) (s : State) (m : MethodId) (args : Array Value) (below : List Frame) (meth : Method) (c : Code) (H : Heap) (locs : List Loc) (cells slots : Nat) (Q : State → Prop) (g : JFrame) : Prop :=
  ∀ T : State, T.heap = H → Stand p l e R s m args below meth c T locs cells slots → ∃ t, Steps p.tables e below ((T.setTop g).pushFrame (.throwNew "java/lang/NullPointerException" none none)) t ∧ Q t
theorem vx_npe {pc : Nat} {ls : Array Slot} {rest : List Value} {Q : State → Prop} (hexec : p.tables.exec = Jvm.exec) (hl : l.stackTraces = false) {nb : Nat} {A : Nat → Prop}
    (hat : ∀ w ∈ vx_atN nb, w.before args s = true) (hgood : ∀ w ∈ vx_atN nb, vx_ot w = true)
    (hU : vx_Zq Bundle.tN "UNASSIGNED_STACK" Bundle.steD A s s.heap) (hN : vx_Zq Bundle.tN "SUPPRESSED_SENTINEL" Bundle.listD A s s.heap) (hS : va_S A s.heap H locs) (hsize : ls.size = c.maxLocals)
    (hRframes : 7 < R.frames) (hRlocals : (rest.map fun v => v.category).sum + 10240 ≤ R.locals) (hRcells : cells + 1 ≤ R.cells) (hRslots : slots + nb ≤ R.slots) (hlocks : meth.locks = false)
    (k : ∀ (H1 : Heap) (q9 : Addr) (ce : Cell), H.size ≤ H1.size → (∀ q : Nat, q < H.size → H1[q]? = H[q]?) → va_S A s.heap H1 locs → H1[q9]? = some ce → ce.vm = .none → s.vm.findClass "java/lang/NullPointerException" = some ce.cls → vx_W p l e R s m args below meth c H1 locs (cells + 1) (slots + nb) Q (F0 m pc ls rest) q9) :
    vx_NoteN p l e R s m args below meth c H locs cells slots Q (F0 m pc ls rest) := by
  intro T hT X
  have htr : e.platform.stackTraces = false := (show e.platform.stackTraces = l.stackTraces by rw [X.admits.platform]).trans hl
  have Y := vx_rebase X (R' := { frames := R.frames, locals := R.locals, cells := 1, slots := nb }) (Nat.le_refl _) (Nat.le_refl _) hRcells hRslots
  have hhp : ((T.setVm s.vm).setFrames (.invoking m args :: below)).heap = H := hT
  have hW0 : s.WarmedH ((T.setVm s.vm).setFrames (.invoking m args :: below)).vm := State.WarmedH.refl s
  have hat' : ∀ w ∈ vx_atN nb, w.before args ((T.setVm s.vm).setFrames (.invoking m args :: below)) = true := fun w hw => vx_ot_at hW0 rfl (hgood w hw) (hat w hw)
  have hU' : vx_Zq Bundle.tN "UNASSIGNED_STACK" Bundle.steD A ((T.setVm s.vm).setFrames (.invoking m args :: below)) ((T.setVm s.vm).setFrames (.invoking m args :: below)).heap := by rw [hhp]; exact vx_Zq.moved hW0.alike (hU.kept hS.2.1)
  have hN' : vx_Zq Bundle.tN "SUPPRESSED_SENTINEL" Bundle.listD A ((T.setVm s.vm).setFrames (.invoking m args :: below)) ((T.setVm s.vm).setFrames (.invoking m args :: below)).heap := by rw [hhp]; exact vx_Zq.moved hW0.alike (hN.kept hS.2.1)
  obtain ⟨S, q, ce, st, Z, hce, hcl', hv⟩ := vx_npeAt Y hexec htr (n := nb) (vx_own hat' (vx_isRefq hU'.1) (vx_isRefq hN'.1) hU'.2.word hN'.2.word) (fun x hx => nomatch hx)
    (g := F0 m pc ls rest) rfl hsize hRframes (by show 2 * 0 + (rest.map fun v => v.category).sum + 10240 ≤ R.locals; omega) (by show 0 + 1 ≤ 1; omega) (by show 0 + nb ≤ nb; omega) hlocks
  obtain ⟨f1, f2⟩ := vx_frame Z.same
  have f1' : H.size ≤ S.heap.size := by rw [← hT]; exact f1
  have f2' : ∀ q : Nat, q < H.size → S.heap[q]? = H[q]? := fun q hq => by
    rw [← hT]
    exact f2 q (by rw [← hT] at hq; exact hq) (fun z hz => nomatch hz)
  have X5 := vx_back9 X Y Z
  have X6 : Stand p l e R s m args below meth c S locs (cells + 1) (slots + nb) := { X5 with same := X5.same.mono (by omega) (by omega) }
  obtain ⟨t, a1, b1⟩ := k S.heap q ce f1' f2' ⟨Nat.le_trans hS.1 f1', fun q h1 h2 => (f2' q (Nat.lt_of_lt_of_le h1 hS.1)).trans (hS.2.1 q h1 h2), hS.2.2⟩ hce hv hcl' S rfl X6
  exact ⟨t, st t a1, b1⟩
variable {Q : State → Prop} {cc : ByteArray} {pc : Nat} {ls : Array Slot} {rest : List Value}
theorem vx_idivZ (hexec : p.tables.exec = Jvm.exec) (hb : c.code = cc) {a b : Int32} (h0 : b = 0) (d : decode cc pc = .ok (.idiv, 1)) (k : vx_Note p l e R s m args below meth c H locs cells slots Q (F0 m pc ls rest) "java/lang/ArithmeticException" "/ by zero") :
    W p l e R s m args below meth c H locs cells slots Q (F0 m pc ls (.int b :: .int a :: rest)) := by
  intro T hT X
  obtain ⟨t, st, q⟩ := k T hT X
  exact ⟨t, X.idivZero hexec (g := F0 m pc ls (.int b :: .int a :: rest)) rfl (a := a) (rest := rest) (by rw [h0]) (by rw [hb]; exact d) t st, q⟩
theorem vx_iremZ (hexec : p.tables.exec = Jvm.exec) (hb : c.code = cc) {a b : Int32} (h0 : b = 0) (d : decode cc pc = .ok (.irem, 1)) (k : vx_Note p l e R s m args below meth c H locs cells slots Q (F0 m pc ls rest) "java/lang/ArithmeticException" "/ by zero") :
    W p l e R s m args below meth c H locs cells slots Q (F0 m pc ls (.int b :: .int a :: rest)) := by
  intro T hT X
  obtain ⟨t, st, q⟩ := k T hT X
  exact ⟨t, X.iremZero hexec (g := F0 m pc ls (.int b :: .int a :: rest)) rfl (a := a) (rest := rest) (by rw [h0]) (by rw [hb]; exact d) t st, q⟩
theorem vx_ldivZ (hexec : p.tables.exec = Jvm.exec) (hb : c.code = cc) {a b : Int64} (h0 : b = 0) (d : decode cc pc = .ok (.ldiv, 1)) (k : vx_Note p l e R s m args below meth c H locs cells slots Q (F0 m pc ls rest) "java/lang/ArithmeticException" "/ by zero") :
    W p l e R s m args below meth c H locs cells slots Q (F0 m pc ls (.long b :: .long a :: rest)) := by
  intro T hT X
  obtain ⟨t, st, q⟩ := k T hT X
  exact ⟨t, X.ldivZero hexec (g := F0 m pc ls (.long b :: .long a :: rest)) rfl (a := a) (rest := rest) (by rw [h0]) (by rw [hb]; exact d) t st, q⟩
theorem vx_lremZ (hexec : p.tables.exec = Jvm.exec) (hb : c.code = cc) {a b : Int64} (h0 : b = 0) (d : decode cc pc = .ok (.lrem, 1)) (k : vx_Note p l e R s m args below meth c H locs cells slots Q (F0 m pc ls rest) "java/lang/ArithmeticException" "/ by zero") :
    W p l e R s m args below meth c H locs cells slots Q (F0 m pc ls (.long b :: .long a :: rest)) := by
  intro T hT X
  obtain ⟨t, st, q⟩ := k T hT X
  exact ⟨t, X.lremZero hexec (g := F0 m pc ls (.long b :: .long a :: rest)) rfl (a := a) (rest := rest) (by rw [h0]) (by rw [hb]; exact d) t st, q⟩
theorem vx_ialdZ {D : va_G} {cl : List vw_C} {ws : va_W} {tys : List (ClassId × FieldType)} {a : Nat} (hexec : p.tables.exec = Jvm.exec) (hb : c.code = cc) (hK : va_K D cl tys s) (hP : va_P D cl ws H) (q0 t0 : Nat) {cA : ClassId} {n : Nat} {f : Nat → Int32} (ha : ws[q0]? = some (a, .inl (cA, n, .inl f))) (ht : tys[t0]? = some (cA, .int)) {i : Int32} (hout : ¬ vp_in i n) (hdg : decode cc pc = .ok (.iaload, 1))
    (k : ∀ tx : String, tx = (toString "Index " ++ toString i ++ toString " out of bounds for length " ++ toString n : String) → vx_Note p l e R s m args below meth c H locs cells slots Q (F0 m pc ls rest) "java/lang/ArrayIndexOutOfBoundsException" tx) : W p l e R s m args below meth c H locs cells slots Q (F0 m pc ls (.int i :: .ref a :: rest)) := by
  intro T hT X
  obtain ⟨t, st, q⟩ := k _ rfl T hT X
  refine ⟨t, ?_, q⟩
  have h1 := X.ialoadOut hexec (by rw [hT]; exact hP q0 _ ha) ((hK.2 t0 _ ht).1 n (fun j => .int (f j))) (j := i) (by show (i < 0 ∨ (arrV _ _ _).slots.size ≤ _); rw [arrV_size]; exact Classical.byContradiction hout) (g := F0 m pc ls (.int i :: .ref a :: rest)) rfl (rest := rest) rfl (by rw [hb]; exact hdg) t
  simp only [arrV_size] at h1
  exact h1 st
theorem vx_iastZ {D : va_G} {cl : List vw_C} {ws : va_W} {tys : List (ClassId × FieldType)} {a : Nat} (hexec : p.tables.exec = Jvm.exec) (hb : c.code = cc) (hK : va_K D cl tys s) (hP : va_P D cl ws H) (q0 t0 : Nat) {cA : ClassId} {n : Nat} {f : Nat → Int32} (ha : ws[q0]? = some (a, .inl (cA, n, .inl f))) (ht : tys[t0]? = some (cA, .int)) {i : Int32} {x : Int32} (hout : ¬ vp_in i n) (hdg : decode cc pc = .ok (.iastore, 1))
    (k : ∀ tx : String, tx = (toString "Index " ++ toString i ++ toString " out of bounds for length " ++ toString n : String) → vx_Note p l e R s m args below meth c H locs cells slots Q (F0 m pc ls rest) "java/lang/ArrayIndexOutOfBoundsException" tx) : W p l e R s m args below meth c H locs cells slots Q (F0 m pc ls (.int x :: .int i :: .ref a :: rest)) := by
  intro T hT X
  obtain ⟨t, st, q⟩ := k _ rfl T hT X
  refine ⟨t, ?_, q⟩
  have h1 := X.iastoreOut hexec (by rw [hT]; exact hP q0 _ ha) ((hK.2 t0 _ ht).1 n (fun j => .int (f j))) (j := i) (by show (i < 0 ∨ (arrV _ _ _).slots.size ≤ _); rw [arrV_size]; exact Classical.byContradiction hout) (g := F0 m pc ls (.int x :: .int i :: .ref a :: rest)) rfl (rest := rest) rfl (by rw [hb]; exact hdg) t
  simp only [arrV_size] at h1
  exact h1 st
theorem vx_baldZ {D : va_G} {cl : List vw_C} {ws : va_W} {tys : List (ClassId × FieldType)} {a : Nat} (hexec : p.tables.exec = Jvm.exec) (hb : c.code = cc) (hK : va_K D cl tys s) (hP : va_P D cl ws H) (q0 t0 : Nat) {cA : ClassId} {n : Nat} {f : Nat → Int32} (ha : ws[q0]? = some (a, .inl (cA, n, .inl f))) (ht : tys[t0]? = some (cA, .byte)) {i : Int32} (hout : ¬ vp_in i n) (hdg : decode cc pc = .ok (.baload, 1))
    (k : ∀ tx : String, tx = (toString "Index " ++ toString i ++ toString " out of bounds for length " ++ toString n : String) → vx_Note p l e R s m args below meth c H locs cells slots Q (F0 m pc ls rest) "java/lang/ArrayIndexOutOfBoundsException" tx) : W p l e R s m args below meth c H locs cells slots Q (F0 m pc ls (.int i :: .ref a :: rest)) := by
  intro T hT X
  obtain ⟨t, st, q⟩ := k _ rfl T hT X
  refine ⟨t, ?_, q⟩
  have h1 := X.baloadOut hexec (by rw [hT]; exact hP q0 _ ha) ((hK.2 t0 _ ht).1 n (fun j => .int (f j))) (j := i) (by show (i < 0 ∨ (arrV _ _ _).slots.size ≤ _); rw [arrV_size]; exact Classical.byContradiction hout) (g := F0 m pc ls (.int i :: .ref a :: rest)) rfl (rest := rest) rfl (by rw [hb]; exact hdg) t
  simp only [arrV_size] at h1
  exact h1 st
theorem vx_bastZ {D : va_G} {cl : List vw_C} {ws : va_W} {tys : List (ClassId × FieldType)} {a : Nat} (hexec : p.tables.exec = Jvm.exec) (hb : c.code = cc) (hK : va_K D cl tys s) (hP : va_P D cl ws H) (q0 t0 : Nat) {cA : ClassId} {n : Nat} {f : Nat → Int32} (ha : ws[q0]? = some (a, .inl (cA, n, .inl f))) (ht : tys[t0]? = some (cA, .byte)) {i : Int32} {x : Int32} (hout : ¬ vp_in i n) (hdg : decode cc pc = .ok (.bastore, 1))
    (k : ∀ tx : String, tx = (toString "Index " ++ toString i ++ toString " out of bounds for length " ++ toString n : String) → vx_Note p l e R s m args below meth c H locs cells slots Q (F0 m pc ls rest) "java/lang/ArrayIndexOutOfBoundsException" tx) : W p l e R s m args below meth c H locs cells slots Q (F0 m pc ls (.int x :: .int i :: .ref a :: rest)) := by
  intro T hT X
  obtain ⟨t, st, q⟩ := k _ rfl T hT X
  refine ⟨t, ?_, q⟩
  have h1 := X.bastoreOut hexec (by rw [hT]; exact hP q0 _ ha) ((hK.2 t0 _ ht).1 n (fun j => .int (f j))) (j := i) (by show (i < 0 ∨ (arrV _ _ _).slots.size ≤ _); rw [arrV_size]; exact Classical.byContradiction hout) (g := F0 m pc ls (.int x :: .int i :: .ref a :: rest)) rfl (rest := rest) rfl (by rw [hb]; exact hdg) t
  simp only [arrV_size] at h1
  exact h1 st
theorem vx_zaldZ {D : va_G} {cl : List vw_C} {ws : va_W} {tys : List (ClassId × FieldType)} {a : Nat} (hexec : p.tables.exec = Jvm.exec) (hb : c.code = cc) (hK : va_K D cl tys s) (hP : va_P D cl ws H) (q0 t0 : Nat) {cA : ClassId} {n : Nat} {f : Nat → Int32} (ha : ws[q0]? = some (a, .inl (cA, n, .inl f))) (ht : tys[t0]? = some (cA, .boolean)) {i : Int32} (hout : ¬ vp_in i n) (hdg : decode cc pc = .ok (.baload, 1))
    (k : ∀ tx : String, tx = (toString "Index " ++ toString i ++ toString " out of bounds for length " ++ toString n : String) → vx_Note p l e R s m args below meth c H locs cells slots Q (F0 m pc ls rest) "java/lang/ArrayIndexOutOfBoundsException" tx) : W p l e R s m args below meth c H locs cells slots Q (F0 m pc ls (.int i :: .ref a :: rest)) := by
  intro T hT X
  obtain ⟨t, st, q⟩ := k _ rfl T hT X
  refine ⟨t, ?_, q⟩
  have h1 := X.baloadOut hexec (by rw [hT]; exact hP q0 _ ha) ((hK.2 t0 _ ht).1 n (fun j => .int (f j))) (j := i) (by show (i < 0 ∨ (arrV _ _ _).slots.size ≤ _); rw [arrV_size]; exact Classical.byContradiction hout) (g := F0 m pc ls (.int i :: .ref a :: rest)) rfl (rest := rest) rfl (by rw [hb]; exact hdg) t
  simp only [arrV_size] at h1
  exact h1 st
theorem vx_zastZ {D : va_G} {cl : List vw_C} {ws : va_W} {tys : List (ClassId × FieldType)} {a : Nat} (hexec : p.tables.exec = Jvm.exec) (hb : c.code = cc) (hK : va_K D cl tys s) (hP : va_P D cl ws H) (q0 t0 : Nat) {cA : ClassId} {n : Nat} {f : Nat → Int32} (ha : ws[q0]? = some (a, .inl (cA, n, .inl f))) (ht : tys[t0]? = some (cA, .boolean)) {i : Int32} {x : Int32} (hout : ¬ vp_in i n) (hdg : decode cc pc = .ok (.bastore, 1))
    (k : ∀ tx : String, tx = (toString "Index " ++ toString i ++ toString " out of bounds for length " ++ toString n : String) → vx_Note p l e R s m args below meth c H locs cells slots Q (F0 m pc ls rest) "java/lang/ArrayIndexOutOfBoundsException" tx) : W p l e R s m args below meth c H locs cells slots Q (F0 m pc ls (.int x :: .int i :: .ref a :: rest)) := by
  intro T hT X
  obtain ⟨t, st, q⟩ := k _ rfl T hT X
  refine ⟨t, ?_, q⟩
  have h1 := X.bastoreOut hexec (by rw [hT]; exact hP q0 _ ha) ((hK.2 t0 _ ht).1 n (fun j => .int (f j))) (j := i) (by show (i < 0 ∨ (arrV _ _ _).slots.size ≤ _); rw [arrV_size]; exact Classical.byContradiction hout) (g := F0 m pc ls (.int x :: .int i :: .ref a :: rest)) rfl (rest := rest) rfl (by rw [hb]; exact hdg) t
  simp only [arrV_size] at h1
  exact h1 st
theorem vx_caldZ {D : va_G} {cl : List vw_C} {ws : va_W} {tys : List (ClassId × FieldType)} {a : Nat} (hexec : p.tables.exec = Jvm.exec) (hb : c.code = cc) (hK : va_K D cl tys s) (hP : va_P D cl ws H) (q0 t0 : Nat) {cA : ClassId} {n : Nat} {f : Nat → Int32} (ha : ws[q0]? = some (a, .inl (cA, n, .inl f))) (ht : tys[t0]? = some (cA, .char)) {i : Int32} (hout : ¬ vp_in i n) (hdg : decode cc pc = .ok (.caload, 1))
    (k : ∀ tx : String, tx = (toString "Index " ++ toString i ++ toString " out of bounds for length " ++ toString n : String) → vx_Note p l e R s m args below meth c H locs cells slots Q (F0 m pc ls rest) "java/lang/ArrayIndexOutOfBoundsException" tx) : W p l e R s m args below meth c H locs cells slots Q (F0 m pc ls (.int i :: .ref a :: rest)) := by
  intro T hT X
  obtain ⟨t, st, q⟩ := k _ rfl T hT X
  refine ⟨t, ?_, q⟩
  have h1 := X.caloadOut hexec (by rw [hT]; exact hP q0 _ ha) ((hK.2 t0 _ ht).1 n (fun j => .int (f j))) (j := i) (by show (i < 0 ∨ (arrV _ _ _).slots.size ≤ _); rw [arrV_size]; exact Classical.byContradiction hout) (g := F0 m pc ls (.int i :: .ref a :: rest)) rfl (rest := rest) rfl (by rw [hb]; exact hdg) t
  simp only [arrV_size] at h1
  exact h1 st
theorem vx_castZ {D : va_G} {cl : List vw_C} {ws : va_W} {tys : List (ClassId × FieldType)} {a : Nat} (hexec : p.tables.exec = Jvm.exec) (hb : c.code = cc) (hK : va_K D cl tys s) (hP : va_P D cl ws H) (q0 t0 : Nat) {cA : ClassId} {n : Nat} {f : Nat → Int32} (ha : ws[q0]? = some (a, .inl (cA, n, .inl f))) (ht : tys[t0]? = some (cA, .char)) {i : Int32} {x : Int32} (hout : ¬ vp_in i n) (hdg : decode cc pc = .ok (.castore, 1))
    (k : ∀ tx : String, tx = (toString "Index " ++ toString i ++ toString " out of bounds for length " ++ toString n : String) → vx_Note p l e R s m args below meth c H locs cells slots Q (F0 m pc ls rest) "java/lang/ArrayIndexOutOfBoundsException" tx) : W p l e R s m args below meth c H locs cells slots Q (F0 m pc ls (.int x :: .int i :: .ref a :: rest)) := by
  intro T hT X
  obtain ⟨t, st, q⟩ := k _ rfl T hT X
  refine ⟨t, ?_, q⟩
  have h1 := X.castoreOut hexec (by rw [hT]; exact hP q0 _ ha) ((hK.2 t0 _ ht).1 n (fun j => .int (f j))) (j := i) (by show (i < 0 ∨ (arrV _ _ _).slots.size ≤ _); rw [arrV_size]; exact Classical.byContradiction hout) (g := F0 m pc ls (.int x :: .int i :: .ref a :: rest)) rfl (rest := rest) rfl (by rw [hb]; exact hdg) t
  simp only [arrV_size] at h1
  exact h1 st
theorem vx_saldZ {D : va_G} {cl : List vw_C} {ws : va_W} {tys : List (ClassId × FieldType)} {a : Nat} (hexec : p.tables.exec = Jvm.exec) (hb : c.code = cc) (hK : va_K D cl tys s) (hP : va_P D cl ws H) (q0 t0 : Nat) {cA : ClassId} {n : Nat} {f : Nat → Int32} (ha : ws[q0]? = some (a, .inl (cA, n, .inl f))) (ht : tys[t0]? = some (cA, .short)) {i : Int32} (hout : ¬ vp_in i n) (hdg : decode cc pc = .ok (.saload, 1))
    (k : ∀ tx : String, tx = (toString "Index " ++ toString i ++ toString " out of bounds for length " ++ toString n : String) → vx_Note p l e R s m args below meth c H locs cells slots Q (F0 m pc ls rest) "java/lang/ArrayIndexOutOfBoundsException" tx) : W p l e R s m args below meth c H locs cells slots Q (F0 m pc ls (.int i :: .ref a :: rest)) := by
  intro T hT X
  obtain ⟨t, st, q⟩ := k _ rfl T hT X
  refine ⟨t, ?_, q⟩
  have h1 := X.saloadOut hexec (by rw [hT]; exact hP q0 _ ha) ((hK.2 t0 _ ht).1 n (fun j => .int (f j))) (j := i) (by show (i < 0 ∨ (arrV _ _ _).slots.size ≤ _); rw [arrV_size]; exact Classical.byContradiction hout) (g := F0 m pc ls (.int i :: .ref a :: rest)) rfl (rest := rest) rfl (by rw [hb]; exact hdg) t
  simp only [arrV_size] at h1
  exact h1 st
theorem vx_sastZ {D : va_G} {cl : List vw_C} {ws : va_W} {tys : List (ClassId × FieldType)} {a : Nat} (hexec : p.tables.exec = Jvm.exec) (hb : c.code = cc) (hK : va_K D cl tys s) (hP : va_P D cl ws H) (q0 t0 : Nat) {cA : ClassId} {n : Nat} {f : Nat → Int32} (ha : ws[q0]? = some (a, .inl (cA, n, .inl f))) (ht : tys[t0]? = some (cA, .short)) {i : Int32} {x : Int32} (hout : ¬ vp_in i n) (hdg : decode cc pc = .ok (.sastore, 1))
    (k : ∀ tx : String, tx = (toString "Index " ++ toString i ++ toString " out of bounds for length " ++ toString n : String) → vx_Note p l e R s m args below meth c H locs cells slots Q (F0 m pc ls rest) "java/lang/ArrayIndexOutOfBoundsException" tx) : W p l e R s m args below meth c H locs cells slots Q (F0 m pc ls (.int x :: .int i :: .ref a :: rest)) := by
  intro T hT X
  obtain ⟨t, st, q⟩ := k _ rfl T hT X
  refine ⟨t, ?_, q⟩
  have h1 := X.sastoreOut hexec (by rw [hT]; exact hP q0 _ ha) ((hK.2 t0 _ ht).1 n (fun j => .int (f j))) (j := i) (by show (i < 0 ∨ (arrV _ _ _).slots.size ≤ _); rw [arrV_size]; exact Classical.byContradiction hout) (g := F0 m pc ls (.int x :: .int i :: .ref a :: rest)) rfl (rest := rest) rfl (by rw [hb]; exact hdg) t
  simp only [arrV_size] at h1
  exact h1 st
theorem vx_laldZ {D : va_G} {cl : List vw_C} {ws : va_W} {tys : List (ClassId × FieldType)} {a : Nat} (hexec : p.tables.exec = Jvm.exec) (hb : c.code = cc) (hK : va_K D cl tys s) (hP : va_P D cl ws H) (q0 t0 : Nat) {cA : ClassId} {n : Nat} {f : Nat → Int64} (ha : ws[q0]? = some (a, .inl (cA, n, .inr (.inl f)))) (ht : tys[t0]? = some (cA, .long)) {i : Int32} (hout : ¬ vp_in i n) (hdg : decode cc pc = .ok (.laload, 1))
    (k : ∀ tx : String, tx = (toString "Index " ++ toString i ++ toString " out of bounds for length " ++ toString n : String) → vx_Note p l e R s m args below meth c H locs cells slots Q (F0 m pc ls rest) "java/lang/ArrayIndexOutOfBoundsException" tx) : W p l e R s m args below meth c H locs cells slots Q (F0 m pc ls (.int i :: .ref a :: rest)) := by
  intro T hT X
  obtain ⟨t, st, q⟩ := k _ rfl T hT X
  refine ⟨t, ?_, q⟩
  have h1 := X.laloadOut hexec (by rw [hT]; exact hP q0 _ ha) ((hK.2 t0 _ ht).1 n (fun j => .long (f j))) (j := i) (by show (i < 0 ∨ (arrV _ _ _).slots.size ≤ _); rw [arrV_size]; exact Classical.byContradiction hout) (g := F0 m pc ls (.int i :: .ref a :: rest)) rfl (rest := rest) rfl (by rw [hb]; exact hdg) t
  simp only [arrV_size] at h1
  exact h1 st
theorem vx_lastZ {D : va_G} {cl : List vw_C} {ws : va_W} {tys : List (ClassId × FieldType)} {a : Nat} (hexec : p.tables.exec = Jvm.exec) (hb : c.code = cc) (hK : va_K D cl tys s) (hP : va_P D cl ws H) (q0 t0 : Nat) {cA : ClassId} {n : Nat} {f : Nat → Int64} (ha : ws[q0]? = some (a, .inl (cA, n, .inr (.inl f)))) (ht : tys[t0]? = some (cA, .long)) {i : Int32} {x : Int64} (hout : ¬ vp_in i n) (hdg : decode cc pc = .ok (.lastore, 1))
    (k : ∀ tx : String, tx = (toString "Index " ++ toString i ++ toString " out of bounds for length " ++ toString n : String) → vx_Note p l e R s m args below meth c H locs cells slots Q (F0 m pc ls rest) "java/lang/ArrayIndexOutOfBoundsException" tx) : W p l e R s m args below meth c H locs cells slots Q (F0 m pc ls (.long x :: .int i :: .ref a :: rest)) := by
  intro T hT X
  obtain ⟨t, st, q⟩ := k _ rfl T hT X
  refine ⟨t, ?_, q⟩
  have h1 := X.lastoreOut hexec (by rw [hT]; exact hP q0 _ ha) ((hK.2 t0 _ ht).1 n (fun j => .long (f j))) (j := i) (by show (i < 0 ∨ (arrV _ _ _).slots.size ≤ _); rw [arrV_size]; exact Classical.byContradiction hout) (g := F0 m pc ls (.long x :: .int i :: .ref a :: rest)) rfl (rest := rest) rfl (by rw [hb]; exact hdg) t
  simp only [arrV_size] at h1
  exact h1 st
theorem vx_faldZ {D : va_G} {cl : List vw_C} {ws : va_W} {tys : List (ClassId × FieldType)} {a : Nat} (hexec : p.tables.exec = Jvm.exec) (hb : c.code = cc) (hK : va_K D cl tys s) (hP : va_P D cl ws H) (q0 t0 : Nat) {cA : ClassId} {n : Nat} {f : Nat → UInt32} (ha : ws[q0]? = some (a, .inl (cA, n, .inr (.inr (.inl f))))) (ht : tys[t0]? = some (cA, .float)) {i : Int32} (hout : ¬ vp_in i n) (hdg : decode cc pc = .ok (.faload, 1))
    (k : ∀ tx : String, tx = (toString "Index " ++ toString i ++ toString " out of bounds for length " ++ toString n : String) → vx_Note p l e R s m args below meth c H locs cells slots Q (F0 m pc ls rest) "java/lang/ArrayIndexOutOfBoundsException" tx) : W p l e R s m args below meth c H locs cells slots Q (F0 m pc ls (.int i :: .ref a :: rest)) := by
  intro T hT X
  obtain ⟨t, st, q⟩ := k _ rfl T hT X
  refine ⟨t, ?_, q⟩
  have h1 := X.faloadOut hexec (by rw [hT]; exact hP q0 _ ha) ((hK.2 t0 _ ht).1 n (fun j => .float (f j))) (j := i) (by show (i < 0 ∨ (arrV _ _ _).slots.size ≤ _); rw [arrV_size]; exact Classical.byContradiction hout) (g := F0 m pc ls (.int i :: .ref a :: rest)) rfl (rest := rest) rfl (by rw [hb]; exact hdg) t
  simp only [arrV_size] at h1
  exact h1 st
theorem vx_fastZ {D : va_G} {cl : List vw_C} {ws : va_W} {tys : List (ClassId × FieldType)} {a : Nat} (hexec : p.tables.exec = Jvm.exec) (hb : c.code = cc) (hK : va_K D cl tys s) (hP : va_P D cl ws H) (q0 t0 : Nat) {cA : ClassId} {n : Nat} {f : Nat → UInt32} (ha : ws[q0]? = some (a, .inl (cA, n, .inr (.inr (.inl f))))) (ht : tys[t0]? = some (cA, .float)) {i : Int32} {x : UInt32} (hout : ¬ vp_in i n) (hdg : decode cc pc = .ok (.fastore, 1))
    (k : ∀ tx : String, tx = (toString "Index " ++ toString i ++ toString " out of bounds for length " ++ toString n : String) → vx_Note p l e R s m args below meth c H locs cells slots Q (F0 m pc ls rest) "java/lang/ArrayIndexOutOfBoundsException" tx) : W p l e R s m args below meth c H locs cells slots Q (F0 m pc ls (.float x :: .int i :: .ref a :: rest)) := by
  intro T hT X
  obtain ⟨t, st, q⟩ := k _ rfl T hT X
  refine ⟨t, ?_, q⟩
  have h1 := X.fastoreOut hexec (by rw [hT]; exact hP q0 _ ha) ((hK.2 t0 _ ht).1 n (fun j => .float (f j))) (j := i) (by show (i < 0 ∨ (arrV _ _ _).slots.size ≤ _); rw [arrV_size]; exact Classical.byContradiction hout) (g := F0 m pc ls (.float x :: .int i :: .ref a :: rest)) rfl (rest := rest) rfl (by rw [hb]; exact hdg) t
  simp only [arrV_size] at h1
  exact h1 st
theorem vx_daldZ {D : va_G} {cl : List vw_C} {ws : va_W} {tys : List (ClassId × FieldType)} {a : Nat} (hexec : p.tables.exec = Jvm.exec) (hb : c.code = cc) (hK : va_K D cl tys s) (hP : va_P D cl ws H) (q0 t0 : Nat) {cA : ClassId} {n : Nat} {f : Nat → UInt64} (ha : ws[q0]? = some (a, .inl (cA, n, .inr (.inr (.inr (.inl f)))))) (ht : tys[t0]? = some (cA, .double)) {i : Int32} (hout : ¬ vp_in i n) (hdg : decode cc pc = .ok (.daload, 1))
    (k : ∀ tx : String, tx = (toString "Index " ++ toString i ++ toString " out of bounds for length " ++ toString n : String) → vx_Note p l e R s m args below meth c H locs cells slots Q (F0 m pc ls rest) "java/lang/ArrayIndexOutOfBoundsException" tx) : W p l e R s m args below meth c H locs cells slots Q (F0 m pc ls (.int i :: .ref a :: rest)) := by
  intro T hT X
  obtain ⟨t, st, q⟩ := k _ rfl T hT X
  refine ⟨t, ?_, q⟩
  have h1 := X.daloadOut hexec (by rw [hT]; exact hP q0 _ ha) ((hK.2 t0 _ ht).1 n (fun j => .double (f j))) (j := i) (by show (i < 0 ∨ (arrV _ _ _).slots.size ≤ _); rw [arrV_size]; exact Classical.byContradiction hout) (g := F0 m pc ls (.int i :: .ref a :: rest)) rfl (rest := rest) rfl (by rw [hb]; exact hdg) t
  simp only [arrV_size] at h1
  exact h1 st
theorem vx_dastZ {D : va_G} {cl : List vw_C} {ws : va_W} {tys : List (ClassId × FieldType)} {a : Nat} (hexec : p.tables.exec = Jvm.exec) (hb : c.code = cc) (hK : va_K D cl tys s) (hP : va_P D cl ws H) (q0 t0 : Nat) {cA : ClassId} {n : Nat} {f : Nat → UInt64} (ha : ws[q0]? = some (a, .inl (cA, n, .inr (.inr (.inr (.inl f)))))) (ht : tys[t0]? = some (cA, .double)) {i : Int32} {x : UInt64} (hout : ¬ vp_in i n) (hdg : decode cc pc = .ok (.dastore, 1))
    (k : ∀ tx : String, tx = (toString "Index " ++ toString i ++ toString " out of bounds for length " ++ toString n : String) → vx_Note p l e R s m args below meth c H locs cells slots Q (F0 m pc ls rest) "java/lang/ArrayIndexOutOfBoundsException" tx) : W p l e R s m args below meth c H locs cells slots Q (F0 m pc ls (.double x :: .int i :: .ref a :: rest)) := by
  intro T hT X
  obtain ⟨t, st, q⟩ := k _ rfl T hT X
  refine ⟨t, ?_, q⟩
  have h1 := X.dastoreOut hexec (by rw [hT]; exact hP q0 _ ha) ((hK.2 t0 _ ht).1 n (fun j => .double (f j))) (j := i) (by show (i < 0 ∨ (arrV _ _ _).slots.size ≤ _); rw [arrV_size]; exact Classical.byContradiction hout) (g := F0 m pc ls (.double x :: .int i :: .ref a :: rest)) rfl (rest := rest) rfl (by rw [hb]; exact hdg) t
  simp only [arrV_size] at h1
  exact h1 st
theorem vx_arraylengthN (hexec : p.tables.exec = Jvm.exec) (hb : c.code = cc) (hdg : decode cc pc = .ok (.arraylength, 1)) (k : vx_NoteN p l e R s m args below meth c H locs cells slots Q (F0 m pc ls rest)) : W p l e R s m args below meth c H locs cells slots Q (F0 m pc ls (.null :: rest)) := by
  intro T hT X
  obtain ⟨t, st, q⟩ := k T hT X
  exact ⟨t, X.arraylengthNull hexec (g := F0 m pc ls (.null :: rest)) rfl (rest := rest) rfl (by rw [hb]; exact hdg) t st, q⟩
theorem vx_ialoadN (hexec : p.tables.exec = Jvm.exec) (hb : c.code = cc) {i : Int32} (hdg : decode cc pc = .ok (.iaload, 1)) (k : vx_NoteN p l e R s m args below meth c H locs cells slots Q (F0 m pc ls rest)) : W p l e R s m args below meth c H locs cells slots Q (F0 m pc ls (.int i :: .null :: rest)) := by
  intro T hT X
  obtain ⟨t, st, q⟩ := k T hT X
  exact ⟨t, X.ialoadNull hexec (g := F0 m pc ls (.int i :: .null :: rest)) rfl (rest := rest) rfl (by rw [hb]; exact hdg) t st, q⟩
theorem vx_laloadN (hexec : p.tables.exec = Jvm.exec) (hb : c.code = cc) {i : Int32} (hdg : decode cc pc = .ok (.laload, 1)) (k : vx_NoteN p l e R s m args below meth c H locs cells slots Q (F0 m pc ls rest)) : W p l e R s m args below meth c H locs cells slots Q (F0 m pc ls (.int i :: .null :: rest)) := by
  intro T hT X
  obtain ⟨t, st, q⟩ := k T hT X
  exact ⟨t, X.laloadNull hexec (g := F0 m pc ls (.int i :: .null :: rest)) rfl (rest := rest) rfl (by rw [hb]; exact hdg) t st, q⟩
theorem vx_faloadN (hexec : p.tables.exec = Jvm.exec) (hb : c.code = cc) {i : Int32} (hdg : decode cc pc = .ok (.faload, 1)) (k : vx_NoteN p l e R s m args below meth c H locs cells slots Q (F0 m pc ls rest)) : W p l e R s m args below meth c H locs cells slots Q (F0 m pc ls (.int i :: .null :: rest)) := by
  intro T hT X
  obtain ⟨t, st, q⟩ := k T hT X
  exact ⟨t, X.faloadNull hexec (g := F0 m pc ls (.int i :: .null :: rest)) rfl (rest := rest) rfl (by rw [hb]; exact hdg) t st, q⟩
theorem vx_daloadN (hexec : p.tables.exec = Jvm.exec) (hb : c.code = cc) {i : Int32} (hdg : decode cc pc = .ok (.daload, 1)) (k : vx_NoteN p l e R s m args below meth c H locs cells slots Q (F0 m pc ls rest)) : W p l e R s m args below meth c H locs cells slots Q (F0 m pc ls (.int i :: .null :: rest)) := by
  intro T hT X
  obtain ⟨t, st, q⟩ := k T hT X
  exact ⟨t, X.daloadNull hexec (g := F0 m pc ls (.int i :: .null :: rest)) rfl (rest := rest) rfl (by rw [hb]; exact hdg) t st, q⟩
theorem vx_aaloadN (hexec : p.tables.exec = Jvm.exec) (hb : c.code = cc) {i : Int32} (hdg : decode cc pc = .ok (.aaload, 1)) (k : vx_NoteN p l e R s m args below meth c H locs cells slots Q (F0 m pc ls rest)) : W p l e R s m args below meth c H locs cells slots Q (F0 m pc ls (.int i :: .null :: rest)) := by
  intro T hT X
  obtain ⟨t, st, q⟩ := k T hT X
  exact ⟨t, X.aaloadNull hexec (g := F0 m pc ls (.int i :: .null :: rest)) rfl (rest := rest) rfl (by rw [hb]; exact hdg) t st, q⟩
theorem vx_baloadN (hexec : p.tables.exec = Jvm.exec) (hb : c.code = cc) {i : Int32} (hdg : decode cc pc = .ok (.baload, 1)) (k : vx_NoteN p l e R s m args below meth c H locs cells slots Q (F0 m pc ls rest)) : W p l e R s m args below meth c H locs cells slots Q (F0 m pc ls (.int i :: .null :: rest)) := by
  intro T hT X
  obtain ⟨t, st, q⟩ := k T hT X
  exact ⟨t, X.baloadNull hexec (g := F0 m pc ls (.int i :: .null :: rest)) rfl (rest := rest) rfl (by rw [hb]; exact hdg) t st, q⟩
theorem vx_caloadN (hexec : p.tables.exec = Jvm.exec) (hb : c.code = cc) {i : Int32} (hdg : decode cc pc = .ok (.caload, 1)) (k : vx_NoteN p l e R s m args below meth c H locs cells slots Q (F0 m pc ls rest)) : W p l e R s m args below meth c H locs cells slots Q (F0 m pc ls (.int i :: .null :: rest)) := by
  intro T hT X
  obtain ⟨t, st, q⟩ := k T hT X
  exact ⟨t, X.caloadNull hexec (g := F0 m pc ls (.int i :: .null :: rest)) rfl (rest := rest) rfl (by rw [hb]; exact hdg) t st, q⟩
theorem vx_saloadN (hexec : p.tables.exec = Jvm.exec) (hb : c.code = cc) {i : Int32} (hdg : decode cc pc = .ok (.saload, 1)) (k : vx_NoteN p l e R s m args below meth c H locs cells slots Q (F0 m pc ls rest)) : W p l e R s m args below meth c H locs cells slots Q (F0 m pc ls (.int i :: .null :: rest)) := by
  intro T hT X
  obtain ⟨t, st, q⟩ := k T hT X
  exact ⟨t, X.saloadNull hexec (g := F0 m pc ls (.int i :: .null :: rest)) rfl (rest := rest) rfl (by rw [hb]; exact hdg) t st, q⟩
theorem vx_iastoreN (hexec : p.tables.exec = Jvm.exec) (hb : c.code = cc) {x : Int32} {i : Int32} (hdg : decode cc pc = .ok (.iastore, 1)) (k : vx_NoteN p l e R s m args below meth c H locs cells slots Q (F0 m pc ls rest)) : W p l e R s m args below meth c H locs cells slots Q (F0 m pc ls (.int x :: .int i :: .null :: rest)) := by
  intro T hT X
  obtain ⟨t, st, q⟩ := k T hT X
  exact ⟨t, X.iastoreNull hexec (g := F0 m pc ls (.int x :: .int i :: .null :: rest)) rfl (rest := rest) rfl (by rw [hb]; exact hdg) t st, q⟩
theorem vx_lastoreN (hexec : p.tables.exec = Jvm.exec) (hb : c.code = cc) {x : Int64} {i : Int32} (hdg : decode cc pc = .ok (.lastore, 1)) (k : vx_NoteN p l e R s m args below meth c H locs cells slots Q (F0 m pc ls rest)) : W p l e R s m args below meth c H locs cells slots Q (F0 m pc ls (.long x :: .int i :: .null :: rest)) := by
  intro T hT X
  obtain ⟨t, st, q⟩ := k T hT X
  exact ⟨t, X.lastoreNull hexec (g := F0 m pc ls (.long x :: .int i :: .null :: rest)) rfl (rest := rest) rfl (by rw [hb]; exact hdg) t st, q⟩
theorem vx_fastoreN (hexec : p.tables.exec = Jvm.exec) (hb : c.code = cc) {x : UInt32} {i : Int32} (hdg : decode cc pc = .ok (.fastore, 1)) (k : vx_NoteN p l e R s m args below meth c H locs cells slots Q (F0 m pc ls rest)) : W p l e R s m args below meth c H locs cells slots Q (F0 m pc ls (.float x :: .int i :: .null :: rest)) := by
  intro T hT X
  obtain ⟨t, st, q⟩ := k T hT X
  exact ⟨t, X.fastoreNull hexec (g := F0 m pc ls (.float x :: .int i :: .null :: rest)) rfl (rest := rest) rfl (by rw [hb]; exact hdg) t st, q⟩
theorem vx_dastoreN (hexec : p.tables.exec = Jvm.exec) (hb : c.code = cc) {x : UInt64} {i : Int32} (hdg : decode cc pc = .ok (.dastore, 1)) (k : vx_NoteN p l e R s m args below meth c H locs cells slots Q (F0 m pc ls rest)) : W p l e R s m args below meth c H locs cells slots Q (F0 m pc ls (.double x :: .int i :: .null :: rest)) := by
  intro T hT X
  obtain ⟨t, st, q⟩ := k T hT X
  exact ⟨t, X.dastoreNull hexec (g := F0 m pc ls (.double x :: .int i :: .null :: rest)) rfl (rest := rest) rfl (by rw [hb]; exact hdg) t st, q⟩
theorem vx_bastoreN (hexec : p.tables.exec = Jvm.exec) (hb : c.code = cc) {x : Int32} {i : Int32} (hdg : decode cc pc = .ok (.bastore, 1)) (k : vx_NoteN p l e R s m args below meth c H locs cells slots Q (F0 m pc ls rest)) : W p l e R s m args below meth c H locs cells slots Q (F0 m pc ls (.int x :: .int i :: .null :: rest)) := by
  intro T hT X
  obtain ⟨t, st, q⟩ := k T hT X
  exact ⟨t, X.bastoreNull hexec (g := F0 m pc ls (.int x :: .int i :: .null :: rest)) rfl (rest := rest) rfl (by rw [hb]; exact hdg) t st, q⟩
theorem vx_castoreN (hexec : p.tables.exec = Jvm.exec) (hb : c.code = cc) {x : Int32} {i : Int32} (hdg : decode cc pc = .ok (.castore, 1)) (k : vx_NoteN p l e R s m args below meth c H locs cells slots Q (F0 m pc ls rest)) : W p l e R s m args below meth c H locs cells slots Q (F0 m pc ls (.int x :: .int i :: .null :: rest)) := by
  intro T hT X
  obtain ⟨t, st, q⟩ := k T hT X
  exact ⟨t, X.castoreNull hexec (g := F0 m pc ls (.int x :: .int i :: .null :: rest)) rfl (rest := rest) rfl (by rw [hb]; exact hdg) t st, q⟩
theorem vx_sastoreN (hexec : p.tables.exec = Jvm.exec) (hb : c.code = cc) {x : Int32} {i : Int32} (hdg : decode cc pc = .ok (.sastore, 1)) (k : vx_NoteN p l e R s m args below meth c H locs cells slots Q (F0 m pc ls rest)) : W p l e R s m args below meth c H locs cells slots Q (F0 m pc ls (.int x :: .int i :: .null :: rest)) := by
  intro T hT X
  obtain ⟨t, st, q⟩ := k T hT X
  exact ⟨t, X.sastoreNull hexec (g := F0 m pc ls (.int x :: .int i :: .null :: rest)) rfl (rest := rest) rfl (by rw [hb]; exact hdg) t st, q⟩
theorem vx_invokeN {own C : String} {index maxL : Nat} {y : MethodName} {bytes : ByteArray} {ret : Option FieldType} (hexec : p.tables.exec = Jvm.exec) (hb : c.code = cc) (hown : s.vm.findClass own = some m.cls) (hlink : (Cond.methodLink own index y).before args s = true) (hinst : (Cond.instanceMethod y).before args s = true) (hcode : (Cond.code y bytes maxL ret).before args s = true) (hsel : (Cond.selects C y y).before args s = true)
    (hx : y.cls ≠ "java/lang/invoke/MethodHandle" ∧ y.cls ≠ "java/lang/invoke/VarHandle") {As : List Value} (hlen : (parseMethodDescriptor y.desc).map (fun d => d.parameters.length) = some As.length) (hdg : decode cc pc = .ok (.invokevirtual index, 3))
    (k : vx_NoteN p l e R s m args below meth c H locs cells slots Q (F0 m pc ls rest)) {st0 : List Value} (hst : st0 = As.reverse ++ .null :: rest) : W p l e R s m args below meth c H locs cells slots Q (F0 m pc ls st0) := by
  intro T hT X
  obtain ⟨r0, r, hn, hrm, hstR, hsigR⟩ := va_Decl.of hinst hcode
  obtain ⟨c2, r2, m2, q1, q2, q3, q4, kP, hkP, hkPi⟩ := Cond.selects_spec hsel
  cases hn.symm.trans q3
  have hl9 : As.length = r.sig.parameters.length := by
    rw [hsigR] at hlen
    exact (Option.some.inj hlen).symm
  obtain ⟨vm', X1, st1⟩ := X.invokevirtualNull hexec hown hlink hn hrm hstR hkP hkPi hx (g := F0 m pc ls st0) rfl (argsL := As) (rest := rest) hl9 hst (by rw [hb]; exact hdg)
  obtain ⟨t, st, q⟩ := k (T.setVm vm') hT X1
  exact ⟨t, st1 t st, q⟩
theorem vx_newarrayZ {atype : ArrayType} (hexec : p.tables.exec = Jvm.exec) (hb : c.code = cc) {n : Int32} (h0 : n < 0) (hdg : decode cc pc = .ok (.newarray atype, 2)) (k : ∀ tx : String, tx = toString n → vx_Note p l e R s m args below meth c H locs cells slots Q (F0 m pc ls rest) "java/lang/NegativeArraySizeException" tx) : W p l e R s m args below meth c H locs cells slots Q (F0 m pc ls (.int n :: rest)) := by
  intro T hT X
  obtain ⟨t, st, q⟩ := k _ rfl T hT X
  exact ⟨t, X.newarrayNegative hexec (g := F0 m pc ls (.int n :: rest)) rfl h0 (rest := rest) rfl (by rw [hb]; exact hdg) t st, q⟩
end
end VXM
/-! ===== END ===== -/
end
section
def RX0 : String := "Hashladder$PairRow"
def TX0 : u_T := fun k => match k with
  | 0 => ("Hashladder$PairRow", "names", "[I", true)
  | 1 => ("Hashladder$PairRow", "worths", "[I", true)
  | _ => ("Hashladder$PairRow", "count", "I", false)
def tyX0 : Nat → FieldType := fun k => match k with
  | 0 => .array .int
  | 1 => .array .int
  | _ => .int
abbrev wsX00 : List Cond := u_ws RX0 TX0 3
theorem nmX0 : ∀ a, a < 3 → ∀ b, b < 3 → a ≠ b → (TX0 a).2.1 ≠ (TX0 b).2.1 := by decide +kernel
theorem tyX0_ok : ∀ k, k < 3 → parseFieldDescriptor (TX0 k).2.2.1 = some (tyX0 k) := by decide +kernel
abbrev cX0_init : ByteArray := prog_2_method_1_code
def yX0_init : MethodName := ⟨RX0, "<init>", "()V"⟩
def RX1 : String := "Hashladder$Table"
def TX1 : u_T := fun k => match k with
  | 0 => ("Hashladder$Table", "worthOf", "[I", true)
  | 1 => ("Hashladder$Table", "times", "[I", true)
  | 2 => ("Hashladder$Table", "pairs", "I", false)
  | 3 => ("Hashladder$Table", "walk", "LHashladder$Walk;", true)
  | _ => ("Hashladder$Table", "view", "I", false)
def tyX1 : Nat → FieldType := fun k => match k with
  | 0 => .array .int
  | 1 => .array .int
  | 2 => .int
  | 3 => .object "Hashladder$Walk"
  | _ => .int
abbrev wsX10 : List Cond := u_ws RX1 TX1 5
theorem nmX1 : ∀ a, a < 5 → ∀ b, b < 5 → a ≠ b → (TX1 a).2.1 ≠ (TX1 b).2.1 := by decide +kernel
theorem tyX1_ok : ∀ k, k < 5 → parseFieldDescriptor (TX1 k).2.2.1 = some (tyX1 k) := by decide +kernel
abbrev cX1_init : ByteArray := prog_3_method_1_code
def yX1_init : MethodName := ⟨RX1, "<init>", "()V"⟩
abbrev cX1_worthAt : ByteArray := prog_3_method_3_code
def yX1_worthAt : MethodName := ⟨RX1, "worthAt", "(I)I"⟩
abbrev cX1_tell : ByteArray := prog_3_method_5_code
def yX1_tell : MethodName := ⟨RX1, "tell", "()V"⟩
abbrev cX1_lay : ByteArray := prog_3_method_7_code
def yX1_lay : MethodName := ⟨RX1, "lay", "(II)I"⟩
abbrev cX1_lift : ByteArray := prog_3_method_9_code
def yX1_lift : MethodName := ⟨RX1, "lift", "(I)I"⟩
abbrev cX1_reckonWidth : ByteArray := prog_3_method_22_code
def yX1_reckonWidth : MethodName := ⟨RX1, "reckonWidth", "()I"⟩
abbrev cX1_signsOf : ByteArray := prog_3_method_23_code
def yX1_signsOf : MethodName := ⟨RX1, "signsOf", "(I)I"⟩
def RX2 : String := "Hashladder$Walk"
def TX2 : u_T := fun k => match k with
  | 0 => ("Hashladder$Walk", "isThere", "Z", false)
  | 1 => ("Hashladder$Walk", "kind", "I", false)
  | 2 => ("Hashladder$Walk", "place", "I", false)
  | 3 => ("Hashladder$Walk", "done", "I", false)
  | _ => ("Hashladder$Walk", "total", "I", false)
def tyX2 : Nat → FieldType := fun k => match k with
  | 0 => .boolean
  | 1 => .int
  | 2 => .int
  | 3 => .int
  | _ => .int
abbrev wsX20 : List Cond := u_ws RX2 TX2 5
theorem nmX2 : ∀ a, a < 5 → ∀ b, b < 5 → a ≠ b → (TX2 a).2.1 ≠ (TX2 b).2.1 := by decide +kernel
theorem tyX2_ok : ∀ k, k < 5 → parseFieldDescriptor (TX2 k).2.2.1 = some (tyX2 k) := by decide +kernel
abbrev cX2_init : ByteArray := prog_4_method_1_code
def yX2_init : MethodName := ⟨RX2, "<init>", "()V"⟩
abbrev cX2_end : ByteArray := prog_4_method_3_code
def yX2_end : MethodName := ⟨RX2, "end", "()V"⟩
def RX3 : String := "Hashladder"
def TX3 : u_T := fun k => match k with
  | 0 => ("Hashladder", "tables", "[LHashladder$Table;", true)
  | 1 => ("Hashladder", "knocks", "I", false)
  | 2 => ("Hashladder", "spare", "LHashladder$Table;", true)
  | 3 => ("Hashladder", "row", "LHashladder$PairRow;", true)
  | 4 => ("Hashladder", "probe", "LHashladder$Walk;", true)
  | _ => ("Hashladder", "page", "Ljava/lang/StringBuilder;", true)
def tyX3 : Nat → FieldType := fun k => match k with
  | 0 => .array (.object "Hashladder$Table")
  | 1 => .int
  | 2 => .object "Hashladder$Table"
  | 3 => .object "Hashladder$PairRow"
  | 4 => .object "Hashladder$Walk"
  | _ => .object "java/lang/StringBuilder"
abbrev wsX30 : List Cond := u_ws RX3 TX3 6
theorem nmX3 : ∀ a, a < 6 → ∀ b, b < 6 → a ≠ b → (TX3 a).2.1 ≠ (TX3 b).2.1 := by decide +kernel
theorem tyX3_ok : ∀ k, k < 6 → parseFieldDescriptor (TX3 k).2.2.1 = some (tyX3 k) := by decide +kernel
abbrev cX3_init : ByteArray := prog_1_method_1_code
def yX3_init : MethodName := ⟨RX3, "<init>", "()V"⟩
abbrev cX3_put : ByteArray := prog_1_method_2_code
def yX3_put : MethodName := ⟨RX3, "put", "(III)I"⟩
abbrev cX3_width : ByteArray := prog_1_method_35_code
def yX3_width : MethodName := ⟨RX3, "width", "(I)I"⟩
abbrev cX3_tableAt : ByteArray := prog_1_method_53_code
def yX3_tableAt : MethodName := ⟨RX3, "tableAt", "(I)LHashladder$Table;"⟩
abbrev cX3_needIn : ByteArray := prog_1_method_54_code
def yX3_needIn : MethodName := ⟨RX3, "needIn", "(III)V"⟩
abbrev cX3_needName : ByteArray := prog_1_method_55_code
def yX3_needName : MethodName := ⟨RX3, "needName", "(I)V"⟩
abbrev cX3_needWorth : ByteArray := prog_1_method_56_code
def yX3_needWorth : MethodName := ⟨RX3, "needWorth", "(I)V"⟩
def RX4 : String := "HashladderLaw$Out"
def TX4 : u_T := fun k => match k with
  | 0 => ("HashladderLaw$Out", "n", "J", false)
  | _ => ("HashladderLaw$Out", "s", "Ljava/lang/String;", false)
def tyX4 : Nat → FieldType := fun k => match k with
  | 0 => .long
  | _ => .object "java/lang/String"
abbrev wsX40 : List Cond := u_ws RX4 TX4 2
theorem nmX4 : ∀ a, a < 2 → ∀ b, b < 2 → a ≠ b → (TX4 a).2.1 ≠ (TX4 b).2.1 := by decide +kernel
theorem tyX4_ok : ∀ k, k < 2 → parseFieldDescriptor (TX4 k).2.2.1 = some (tyX4 k) := by decide +kernel
abbrev cX4_init : ByteArray := prog_6_method_1_code
def yX4_init : MethodName := ⟨RX4, "<init>", "()V"⟩
def RX5 : String := "HashladderModel"
def TX5 : u_T := fun k => match k with
  | 0 => ("HashladderModel", "thrown", "I", false)
  | 1 => ("HashladderModel", "rows", "[[I", false)
  | 2 => ("HashladderModel", "done", "[I", true)
  | 3 => ("HashladderModel", "steps", "[I", true)
  | 4 => ("HashladderModel", "sums", "[I", true)
  | 5 => ("HashladderModel", "views", "[I", true)
  | _ => ("HashladderModel", "knocks", "I", false)
def tyX5 : Nat → FieldType := fun k => match k with
  | 0 => .int
  | 1 => .array (.array .int)
  | 2 => .array .int
  | 3 => .array .int
  | 4 => .array .int
  | 5 => .array .int
  | _ => .int
abbrev wsX50 : List Cond := u_ws RX5 TX5 7
theorem nmX5 : ∀ a, a < 7 → ∀ b, b < 7 → a ≠ b → (TX5 a).2.1 ≠ (TX5 b).2.1 := by decide +kernel
theorem tyX5_ok : ∀ k, k < 7 → parseFieldDescriptor (TX5 k).2.2.1 = some (tyX5 k) := by decide +kernel
abbrev cX5_init : ByteArray := prog_7_method_1_code
def yX5_init : MethodName := ⟨RX5, "<init>", "()V"⟩
abbrev cX5_fails : ByteArray := prog_7_method_3_code
def yX5_fails : MethodName := ⟨RX5, "fails", "(ZZZ)Z"⟩
abbrev cX5_fails_ : ByteArray := prog_7_method_4_code
def yX5_fails_ : MethodName := ⟨RX5, "fails", "(ZZ)Z"⟩
abbrev cX5_isIn : ByteArray := prog_7_method_5_code
def yX5_isIn : MethodName := ⟨RX5, "isIn", "(III)Z"⟩
abbrev cX5_isNo : ByteArray := prog_7_method_7_code
def yX5_isNo : MethodName := ⟨RX5, "isNo", "(I)Z"⟩
abbrev cX5_isNoName : ByteArray := prog_7_method_8_code
def yX5_isNoName : MethodName := ⟨RX5, "isNoName", "(I)Z"⟩
abbrev cX5_isNoWorth : ByteArray := prog_7_method_9_code
def yX5_isNoWorth : MethodName := ⟨RX5, "isNoWorth", "(I)Z"⟩
abbrev cX5_empty : ByteArray := prog_7_method_10_code
def yX5_empty : MethodName := ⟨RX5, "empty", "(I)V"⟩
abbrev cX5_tell : ByteArray := prog_7_method_12_code
def yX5_tell : MethodName := ⟨RX5, "tell", "(I)V"⟩
abbrev cX5_set : ByteArray := prog_7_method_13_code
def yX5_set : MethodName := ⟨RX5, "set", "(III)I"⟩
abbrev cX5_put : ByteArray := prog_7_method_14_code
def yX5_put : MethodName := ⟨RX5, "put", "(III)I"⟩
abbrev cX5_textOf : ByteArray := prog_7_method_56_code
def yX5_textOf : MethodName := ⟨RX5, "textOf", "(ILjava/lang/String;)Ljava/lang/String;"⟩
abbrev cX5_width : ByteArray := prog_7_method_61_code
def yX5_width : MethodName := ⟨RX5, "width", "(I)I"⟩
def RJ5 : String := "java/lang/AbstractStringBuilder"
abbrev cJ5_init_d00df : ByteArray := prog_8_method_2_code
def yJ5_init_d00df : MethodName := ⟨RJ5, "<init>", "(I)V"⟩
abbrev cJ5_length_8abf5 : ByteArray := prog_8_method_6_code
def yJ5_length_8abf5 : MethodName := ⟨RJ5, "length", "()I"⟩
abbrev cJ5_ensureCapacityInternal_d00df : ByteArray := prog_8_method_9_code
def yJ5_ensureCapacityInternal_d00df : MethodName := ⟨RJ5, "ensureCapacityInternal", "(I)V"⟩
abbrev cJ5_newCapacity_0f7a4 : ByteArray := prog_8_method_10_code
def yJ5_newCapacity_0f7a4 : MethodName := ⟨RJ5, "newCapacity", "(I)I"⟩
abbrev cJ5_inflate_da8c8 : ByteArray := prog_8_method_11_code
def yJ5_inflate_da8c8 : MethodName := ⟨RJ5, "inflate", "()V"⟩
abbrev cJ5_append_cf1ce : ByteArray := prog_8_method_22_code
def yJ5_append_cf1ce : MethodName := ⟨RJ5, "append", "(Ljava/lang/String;)Ljava/lang/AbstractStringBuilder;"⟩
abbrev cJ5_appendNull_278bc : ByteArray := prog_8_method_26_code
def yJ5_appendNull_278bc : MethodName := ⟨RJ5, "appendNull", "()Ljava/lang/AbstractStringBuilder;"⟩
abbrev cJ5_append_c97b9 : ByteArray := prog_8_method_32_code
def yJ5_append_c97b9 : MethodName := ⟨RJ5, "append", "(I)Ljava/lang/AbstractStringBuilder;"⟩
abbrev cJ5_getValue_6d5f1 : ByteArray := prog_8_method_64_code
def yJ5_getValue_6d5f1 : MethodName := ⟨RJ5, "getValue", "()[B"⟩
abbrev cJ5_isLatin1_aae02 : ByteArray := prog_8_method_68_code
def yJ5_isLatin1_aae02 : MethodName := ⟨RJ5, "isLatin1", "()Z"⟩
abbrev cJ5_inflateIfNeededFor_a7421 : ByteArray := prog_8_method_71_code
def yJ5_inflateIfNeededFor_a7421 : MethodName := ⟨RJ5, "inflateIfNeededFor", "(Ljava/lang/String;)V"⟩
abbrev cJ5_putStringAt_47b60 : ByteArray := prog_8_method_73_code
def yJ5_putStringAt_47b60 : MethodName := ⟨RJ5, "putStringAt", "(ILjava/lang/String;)V"⟩
def RJx00060 : String := "java/lang/ArrayIndexOutOfBoundsException"
def TJx00060 : u_T := fun k => match k with
  | 0 => ("java/lang/Throwable", "cause", "Ljava/lang/Throwable;", false)
  | 1 => ("java/lang/Throwable", "stackTrace", "[Ljava/lang/StackTraceElement;", false)
  | 2 => ("java/lang/Throwable", "suppressedExceptions", "Ljava/util/List;", false)
  | 3 => ("java/lang/Throwable", "detailMessage", "Ljava/lang/String;", false)
  | 4 => ("java/lang/Throwable", "backtrace", "Ljava/lang/Object;", false)
  | _ => ("java/lang/Throwable", "depth", "I", false)
def RJ6 : String := "java/lang/Integer"
abbrev cJ6_getChars_ba4f3 : ByteArray := prog_15_method_12_code
def yJ6_getChars_ba4f3 : MethodName := ⟨RJ6, "getChars", "(II[B)I"⟩
abbrev cJ6_stringSize_0f7a4 : ByteArray := prog_15_method_13_code
def yJ6_stringSize_0f7a4 : MethodName := ⟨RJ6, "stringSize", "(I)I"⟩
def RJ0 : String := "java/lang/String"
def TJ0 : u_T := fun k => match k with
  | 0 => ("java/lang/String", "value", "[B", true)
  | 1 => ("java/lang/String", "coder", "B", true)
  | 2 => ("java/lang/String", "hash", "I", false)
  | _ => ("java/lang/String", "hashIsZero", "Z", false)
def tyJ0 : Nat → FieldType := fun k => match k with
  | 0 => .array .byte
  | 1 => .byte
  | 2 => .int
  | _ => .boolean
abbrev wsJ00 : List Cond := u_ws RJ0 TJ0 4
theorem nmJ0 : ∀ a, a < 4 → ∀ b, b < 4 → a ≠ b → (TJ0 a).2.1 ≠ (TJ0 b).2.1 := by decide +kernel
theorem tyJ0_ok : ∀ k, k < 4 → parseFieldDescriptor (TJ0 k).2.2.1 = some (tyJ0 k) := by decide +kernel
abbrev cJ0_init_81219 : ByteArray := prog_18_method_53_code
def yJ0_init_81219 : MethodName := ⟨RJ0, "<init>", "(Ljava/lang/StringBuilder;)V"⟩
abbrev cJ0_length_8abf5 : ByteArray := prog_18_method_54_code
def yJ0_length_8abf5 : MethodName := ⟨RJ0, "length", "()I"⟩
abbrev cJ0_isEmpty_aae02 : ByteArray := prog_18_method_55_code
def yJ0_isEmpty_aae02 : MethodName := ⟨RJ0, "isEmpty", "()Z"⟩
abbrev cJ0_getBytes_840e7 : ByteArray := prog_18_method_147_code
def yJ0_getBytes_840e7 : MethodName := ⟨RJ0, "getBytes", "([BIB)V"⟩
abbrev cJ0_init_db425 : ByteArray := prog_18_method_150_code
def yJ0_init_db425 : MethodName := ⟨RJ0, "<init>", "(Ljava/lang/AbstractStringBuilder;Ljava/lang/Void;)V"⟩
abbrev cJ0_coder_7d493 : ByteArray := prog_18_method_152_code
def yJ0_coder_7d493 : MethodName := ⟨RJ0, "coder", "()B"⟩
abbrev cJ0_checkBoundsOffCount_cabcc : ByteArray := prog_18_method_157_code
def yJ0_checkBoundsOffCount_cabcc : MethodName := ⟨RJ0, "checkBoundsOffCount", "(III)I"⟩
abbrev cJ0_checkBoundsBeginEnd_23922 : ByteArray := prog_18_method_158_code
def yJ0_checkBoundsBeginEnd_23922 : MethodName := ⟨RJ0, "checkBoundsBeginEnd", "(III)V"⟩
def RJ4 : String := "java/lang/StringBuilder"
def TJ4 : u_T := fun k => match k with
  | 0 => ("java/lang/AbstractStringBuilder", "value", "[B", false)
  | 1 => ("java/lang/AbstractStringBuilder", "coder", "B", false)
  | 2 => ("java/lang/AbstractStringBuilder", "maybeLatin1", "Z", false)
  | _ => ("java/lang/AbstractStringBuilder", "count", "I", false)
def tyJ4 : Nat → FieldType := fun k => match k with
  | 0 => .array .byte
  | 1 => .byte
  | 2 => .boolean
  | _ => .int
abbrev wsJ40 : List Cond := u_ws RJ4 TJ4 4
theorem nmJ4 : ∀ a, a < 4 → ∀ b, b < 4 → a ≠ b → (TJ4 a).2.1 ≠ (TJ4 b).2.1 := by decide +kernel
theorem tyJ4_ok : ∀ k, k < 4 → parseFieldDescriptor (TJ4 k).2.2.1 = some (tyJ4 k) := by decide +kernel
abbrev cJ4_init_da8c8 : ByteArray := prog_19_method_1_code
def yJ4_init_da8c8 : MethodName := ⟨RJ4, "<init>", "()V"⟩
abbrev cJ4_append_15ec4 : ByteArray := prog_19_method_7_code
def yJ4_append_15ec4 : MethodName := ⟨RJ4, "append", "(Ljava/lang/String;)Ljava/lang/StringBuilder;"⟩
abbrev cJ4_append_bf812 : ByteArray := prog_19_method_15_code
def yJ4_append_bf812 : MethodName := ⟨RJ4, "append", "(I)Ljava/lang/StringBuilder;"⟩
abbrev cJ4_toString_0e30d : ByteArray := prog_19_method_42_code
def yJ4_toString_0e30d : MethodName := ⟨RJ4, "toString", "()Ljava/lang/String;"⟩
abbrev cJ4_length_8abf5 : ByteArray := prog_19_method_93_code
def yJ4_length_8abf5 : MethodName := ⟨RJ4, "length", "()I"⟩
def RJx7c733 : String := "java/lang/StringIndexOutOfBoundsException"
def TJx7c733 : u_T := fun k => match k with
  | 0 => ("java/lang/Throwable", "backtrace", "Ljava/lang/Object;", false)
  | 1 => ("java/lang/Throwable", "detailMessage", "Ljava/lang/String;", false)
  | 2 => ("java/lang/Throwable", "cause", "Ljava/lang/Throwable;", false)
  | 3 => ("java/lang/Throwable", "stackTrace", "[Ljava/lang/StackTraceElement;", false)
  | 4 => ("java/lang/Throwable", "depth", "I", false)
  | _ => ("java/lang/Throwable", "suppressedExceptions", "Ljava/util/List;", false)
def RJ1 : String := "java/lang/StringLatin1"
abbrev cJ1_inflate_0e8fd : ByteArray := prog_21_method_50_code
def yJ1_inflate_0e8fd : MethodName := ⟨RJ1, "inflate", "([BI[BII)V"⟩
def RJ2 : String := "java/lang/StringUTF16"
abbrev cJ2_newBytesFor_77867 : ByteArray := prog_22_method_2_code
def yJ2_newBytesFor_77867 : MethodName := ⟨RJ2, "newBytesFor", "(I)[B"⟩
abbrev cJ2_newBytesLength_0f7a4 : ByteArray := prog_22_method_3_code
def yJ2_newBytesLength_0f7a4 : MethodName := ⟨RJ2, "newBytesLength", "(I)I"⟩
abbrev cJ2_putChar_b72d1 : ByteArray := prog_22_method_4_code
def yJ2_putChar_b72d1 : MethodName := ⟨RJ2, "putChar", "([BII)V"⟩
abbrev cJ2_getChar_3b067 : ByteArray := prog_22_method_5_code
def yJ2_getChar_3b067 : MethodName := ⟨RJ2, "getChar", "([BI)C"⟩
abbrev cJ2_length_9d52b : ByteArray := prog_22_method_6_code
def yJ2_length_9d52b : MethodName := ⟨RJ2, "length", "([B)I"⟩
abbrev cJ2_coderFromArrayLen_85cad : ByteArray := prog_22_method_15_code
def yJ2_coderFromArrayLen_85cad : MethodName := ⟨RJ2, "coderFromArrayLen", "([BI)B"⟩
abbrev cJ2_compress_39247 : ByteArray := prog_22_method_17_code
def yJ2_compress_39247 : MethodName := ⟨RJ2, "compress", "([BII)[B"⟩
abbrev cJ2_compress_5af95 : ByteArray := prog_22_method_22_code
def yJ2_compress_5af95 : MethodName := ⟨RJ2, "compress", "([BI[BII)I"⟩
abbrev cJ2_getChars_46870 : ByteArray := prog_22_method_77_code
def yJ2_getChars_46870 : MethodName := ⟨RJ2, "getChars", "(III[B)I"⟩
abbrev cJ2_putCharsAt_cd4e5 : ByteArray := prog_22_method_81_code
def yJ2_putCharsAt_cd4e5 : MethodName := ⟨RJ2, "putCharsAt", "([BICCCC)I"⟩
abbrev cJ2_inflate_0e8fd : ByteArray := prog_22_method_86_code
def yJ2_inflate_0e8fd : MethodName := ⟨RJ2, "inflate", "([BI[BII)V"⟩
abbrev cJ2_getChars_ba4f3 : ByteArray := prog_22_method_89_code
def yJ2_getChars_ba4f3 : MethodName := ⟨RJ2, "getChars", "(II[B)I"⟩
abbrev cJ2_checkBoundsBeginEnd_d044e : ByteArray := prog_22_method_93_code
def yJ2_checkBoundsBeginEnd_d044e : MethodName := ⟨RJ2, "checkBoundsBeginEnd", "(II[B)V"⟩
abbrev cJ2_checkBoundsOffCount_d044e : ByteArray := prog_22_method_94_code
def yJ2_checkBoundsOffCount_d044e : MethodName := ⟨RJ2, "checkBoundsOffCount", "(II[B)V"⟩
def RJ7 : String := "java/util/Arrays"
abbrev cJ7_copyOf_9075b : ByteArray := prog_25_method_121_code
def yJ7_copyOf_9075b : MethodName := ⟨RJ7, "copyOf", "([BI)[B"⟩
abbrev cJ7_checkLength_df160 : ByteArray := prog_25_method_131_code
def yJ7_checkLength_df160 : MethodName := ⟨RJ7, "checkLength", "(II)V"⟩
abbrev cJ7_copyOfRange_39247 : ByteArray := prog_25_method_132_code
def yJ7_copyOfRange_39247 : MethodName := ⟨RJ7, "copyOfRange", "([BII)[B"⟩
abbrev cJ7_copyOfRangeByte_39247 : ByteArray := prog_25_method_133_code
def yJ7_copyOfRangeByte_39247 : MethodName := ⟨RJ7, "copyOfRangeByte", "([BII)[B"⟩
def RJ8 : String := "jdk/internal/util/ArraysSupport"
abbrev cJ8_newLength_cabcc : ByteArray := prog_26_method_27_code
def yJ8_newLength_cabcc : MethodName := ⟨RJ8, "newLength", "(III)I"⟩
abbrev cJ8_hugeLength_7cf53 : ByteArray := prog_26_method_28_code
def yJ8_hugeLength_7cf53 : MethodName := ⟨RJ8, "hugeLength", "(II)I"⟩
def RJ3 : String := "jdk/internal/util/Preconditions"
abbrev cJ3_checkFromToIndex_8c36e : ByteArray := prog_27_method_12_code
def yJ3_checkFromToIndex_8c36e : MethodName := ⟨RJ3, "checkFromToIndex", "(IIILjava/util/function/BiFunction;)I"⟩
abbrev cJ3_checkFromIndexSize_8c36e : ByteArray := prog_27_method_13_code
def yJ3_checkFromIndexSize_8c36e : MethodName := ⟨RJ3, "checkFromIndexSize", "(IIILjava/util/function/BiFunction;)I"⟩
def wsX0_init : List Cond := .code yX0_init cX0_init 1 none :: ([.methodLink RX0 3 objectInit, .instanceMethod objectInit, .code objectInit ⟨#[0xb1]⟩ 1 none, .arrayClass .int, .fieldLink RX0 9 "Hashladder$PairRow" "names" "[I", .fieldLink RX0 15 "Hashladder$PairRow" "worths" "[I"] ++ wsX00)
def wsX1_worthAt : List Cond := .code yX1_worthAt cX1_worthAt 2 (some .int) :: ([.fieldLink RX1 9 "Hashladder$Table" "worthOf" "[I"] ++ wsX10 ++ (vx_atM "java/lang/ArrayIndexOutOfBoundsException" ["java/lang/IndexOutOfBoundsException", "java/lang/RuntimeException", "java/lang/Exception"]).filter goodWord)
def wsX2_init : List Cond := .code yX2_init cX2_init 1 none :: ([.methodLink RX2 3 objectInit, .instanceMethod objectInit, .code objectInit ⟨#[0xb1]⟩ 1 none])
def wsX1_init : List Cond := .code yX1_init cX1_init 2 none :: ([.methodLink RX1 3 objectInit, .instanceMethod objectInit, .code objectInit ⟨#[0xb1]⟩ 1 none, .arrayClass .int, .fieldLink RX1 9 "Hashladder$Table" "worthOf" "[I", .fieldLink RX1 15 "Hashladder$Table" "times" "[I", .classLink RX1 18 RX2, .instantiable RX2 5, .initialized RX2, .fieldLink RX1 21 "Hashladder$Table" "walk" "LHashladder$Walk;", .fieldLink RX1 25 "Hashladder$Table" "view" "I", .instanceMethod yX2_init, .code yX2_init cX2_init 1 none, .methodLink RX2 3 objectInit] ++ wsX10 ++ wsX20 ++ (vx_atM "java/lang/ArrayIndexOutOfBoundsException" ["java/lang/IndexOutOfBoundsException", "java/lang/RuntimeException", "java/lang/Exception"]).filter goodWord)
def wsX2_end : List Cond := .code yX2_end cX2_end 1 none :: ([.fieldLink RX2 9 "Hashladder$Walk" "isThere" "Z"] ++ wsX20)
def wsX1_tell : List Cond := .code yX1_tell cX1_tell 1 none :: ([.fieldLink RX1 21 "Hashladder$Table" "walk" "LHashladder$Walk;", .methodLink RX1 32 yX2_end, .instanceMethod yX2_end, .selects RX2 yX2_end yX2_end, .initialized RX2, .code yX2_end cX2_end 1 none, .fieldLink RX2 9 "Hashladder$Walk" "isThere" "Z"] ++ wsX10 ++ wsX20)
def wsX1_lift : List Cond := .code yX1_lift cX1_lift 3 (some .int) :: ([.fieldLink RX1 9 "Hashladder$Table" "worthOf" "[I", .fieldLink RX1 15 "Hashladder$Table" "times" "[I", .fieldLink RX1 29 "Hashladder$Table" "pairs" "I", .methodLink RX1 50 yX1_worthAt, .instanceMethod yX1_worthAt, .selects RX1 yX1_worthAt yX1_worthAt, .initialized RX1, .code yX1_worthAt cX1_worthAt 2 (some .int)] ++ wsX10 ++ (vx_atM "java/lang/ArrayIndexOutOfBoundsException" ["java/lang/IndexOutOfBoundsException", "java/lang/RuntimeException", "java/lang/Exception"]).filter goodWord)
def wsX1_lay : List Cond := .code yX1_lay cX1_lay 4 (some .int) :: ([.fieldLink RX1 9 "Hashladder$Table" "worthOf" "[I", .fieldLink RX1 15 "Hashladder$Table" "times" "[I", .fieldLink RX1 29 "Hashladder$Table" "pairs" "I", .methodLink RX1 42 yX1_lift, .instanceMethod yX1_lift, .selects RX1 yX1_lift yX1_lift, .initialized RX1, .code yX1_lift cX1_lift 3 (some .int), .methodLink RX1 50 yX1_worthAt, .instanceMethod yX1_worthAt, .selects RX1 yX1_worthAt yX1_worthAt, .code yX1_worthAt cX1_worthAt 2 (some .int)] ++ wsX10 ++ (vx_atM "java/lang/ArrayIndexOutOfBoundsException" ["java/lang/IndexOutOfBoundsException", "java/lang/RuntimeException", "java/lang/Exception"]).filter goodWord)
def wsX1_signsOf : List Cond := .code yX1_signsOf cX1_signsOf 1 (some .int) :: ([])
def wsX1_reckonWidth : List Cond := .code yX1_reckonWidth cX1_reckonWidth 4 (some .int) :: ([.fieldLink RX1 29 "Hashladder$Table" "pairs" "I", .methodLink RX1 50 yX1_worthAt, .instanceMethod yX1_worthAt, .selects RX1 yX1_worthAt yX1_worthAt, .initialized RX1, .code yX1_worthAt cX1_worthAt 2 (some .int), .fieldLink RX1 9 "Hashladder$Table" "worthOf" "[I", .methodLink RX1 68 yX1_signsOf, .static yX1_signsOf, .code yX1_signsOf cX1_signsOf 1 (some .int)] ++ wsX10 ++ (vx_atM "java/lang/ArrayIndexOutOfBoundsException" ["java/lang/IndexOutOfBoundsException", "java/lang/RuntimeException", "java/lang/Exception"]).filter goodWord)
def wsJ5_length_8abf5 : List Cond := .code yJ5_length_8abf5 cJ5_length_8abf5 1 (some .int) :: ([.fieldLink RJ5 79 "java/lang/AbstractStringBuilder" "count" "I"] ++ wsJ40)
def wsJ4_length_8abf5 : List Cond := .code yJ4_length_8abf5 cJ4_length_8abf5 1 (some .int) :: ([.methodLink RJ4 343 yJ5_length_8abf5, .sameMethod "java/lang/AbstractStringBuilder" "java/lang/AbstractStringBuilder" "length" "()I", .superclass RJ4 RJ5, .instanceMethod yJ5_length_8abf5, .initialized RJ5, .code yJ5_length_8abf5 cJ5_length_8abf5 1 (some .int), .fieldLink RJ5 79 "java/lang/AbstractStringBuilder" "count" "I"] ++ wsJ40)
def wsJ8_newLength_cabcc : List Cond := .code yJ8_newLength_cabcc cJ8_newLength_cabcc 4 (some .int) :: ([.methodLink RJ8 194 Lib.Math.max.name, .static Lib.Math.max.name, .initialized "java/lang/Math", .code Lib.Math.max.name Lib.Math.max.code 2 (some .int), .constant RJ8 200 (2147483639), .methodLink RJ8 201 yJ8_hugeLength_7cf53, .static yJ8_hugeLength_7cf53, .initialized RJ8, .code yJ8_hugeLength_7cf53 cJ8_hugeLength_7cf53 3 (some .int)])
def wsJ5_newCapacity_0f7a4 : List Cond := .code yJ5_newCapacity_0f7a4 cJ5_newCapacity_0f7a4 6 (some .int) :: ([.fieldLink RJ5 15 "java/lang/AbstractStringBuilder" "value" "[B", .fieldLink RJ5 22 "java/lang/AbstractStringBuilder" "coder" "B", .constant RJ5 39 (2147483647), .methodLink RJ5 114 yJ8_newLength_cabcc, .static yJ8_newLength_cabcc, .initialized RJ8, .code yJ8_newLength_cabcc cJ8_newLength_cabcc 4 (some .int), .methodLink RJ8 194 Lib.Math.max.name, .static Lib.Math.max.name, .initialized "java/lang/Math", .code Lib.Math.max.name Lib.Math.max.code 2 (some .int), .constant RJ8 200 (2147483639), .methodLink RJ8 201 yJ8_hugeLength_7cf53, .static yJ8_hugeLength_7cf53, .code yJ8_hugeLength_7cf53 cJ8_hugeLength_7cf53 3 (some .int)] ++ wsJ40)
def wsJ7_copyOf_9075b : List Cond := .code yJ7_copyOf_9075b cJ7_copyOf_9075b 3 (some (.array .byte)) :: ([.methodLink RJ7 310 ⟨"[B", "clone", "()Ljava/lang/Object;"⟩, .sameMethod "[B" "java/lang/Object" "clone" "()Ljava/lang/Object;", .native ⟨"java/lang/Object", "clone", "()Ljava/lang/Object;"⟩, .instanceMethod ⟨"java/lang/Object", "clone", "()Ljava/lang/Object;"⟩, .selects "[B" ⟨"[B", "clone", "()Ljava/lang/Object;"⟩ ⟨"java/lang/Object", "clone", "()Ljava/lang/Object;"⟩, .classLink RJ7 311 "[B", .arrayClass .byte, .methodLink RJ7 304 Lib.Math.min.name, .static Lib.Math.min.name, .initialized "java/lang/Math", .code Lib.Math.min.name Lib.Math.min.code 2 (some .int), .methodLink RJ7 150 arraycopyName, .native arraycopyName, .static arraycopyName, .initialized "java/lang/System"])
def wsJ5_ensureCapacityInternal_d00df_r1 : List Cond := [Cond.fieldLink RJ5 15 "java/lang/AbstractStringBuilder" "value" "[B", Cond.fieldLink RJ5 22 "java/lang/AbstractStringBuilder" "coder" "B", Cond.methodLink RJ5 104 ⟨"java/lang/AbstractStringBuilder", "newCapacity", "(I)I"⟩, Cond.sameMethod "java/lang/AbstractStringBuilder" "java/lang/AbstractStringBuilder" "newCapacity" "(I)I", Cond.selects RJ4 ⟨"java/lang/AbstractStringBuilder", "newCapacity", "(I)I"⟩ yJ5_newCapacity_0f7a4, Cond.instanceMethod yJ5_newCapacity_0f7a4, Cond.initialized RJ5, Cond.code yJ5_newCapacity_0f7a4 cJ5_newCapacity_0f7a4 6 (some .int), Cond.constant RJ5 39 (2147483647), Cond.methodLink RJ5 114 yJ8_newLength_cabcc, Cond.static yJ8_newLength_cabcc, Cond.initialized RJ8, Cond.code yJ8_newLength_cabcc cJ8_newLength_cabcc 4 (some .int), Cond.methodLink RJ8 194 Lib.Math.max.name, Cond.static Lib.Math.max.name, Cond.initialized "java/lang/Math", Cond.code Lib.Math.max.name Lib.Math.max.code 2 (some .int), Cond.constant RJ8 200 (2147483639), Cond.methodLink RJ8 201 yJ8_hugeLength_7cf53, Cond.static yJ8_hugeLength_7cf53, Cond.code yJ8_hugeLength_7cf53 cJ8_hugeLength_7cf53 3 (some .int), Cond.methodLink RJ5 108 yJ7_copyOf_9075b, Cond.static yJ7_copyOf_9075b, Cond.initialized RJ7]
def wsJ5_ensureCapacityInternal_d00df_r2 : List Cond := [Cond.code yJ7_copyOf_9075b cJ7_copyOf_9075b 3 (some (.array .byte)), Cond.methodLink RJ7 310 ⟨"[B", "clone", "()Ljava/lang/Object;"⟩, Cond.sameMethod "[B" "java/lang/Object" "clone" "()Ljava/lang/Object;", Cond.native ⟨"java/lang/Object", "clone", "()Ljava/lang/Object;"⟩, Cond.instanceMethod ⟨"java/lang/Object", "clone", "()Ljava/lang/Object;"⟩, Cond.selects "[B" ⟨"[B", "clone", "()Ljava/lang/Object;"⟩ ⟨"java/lang/Object", "clone", "()Ljava/lang/Object;"⟩, Cond.classLink RJ7 311 "[B", Cond.arrayClass .byte, Cond.methodLink RJ7 304 Lib.Math.min.name, Cond.static Lib.Math.min.name, Cond.code Lib.Math.min.name Lib.Math.min.code 2 (some .int), Cond.methodLink RJ7 150 arraycopyName, Cond.native arraycopyName, Cond.static arraycopyName, Cond.initialized "java/lang/System"]
def wsJ5_ensureCapacityInternal_d00df : List Cond := .code yJ5_ensureCapacityInternal_d00df cJ5_ensureCapacityInternal_d00df 3 none :: ((wsJ5_ensureCapacityInternal_d00df_r1 ++ wsJ5_ensureCapacityInternal_d00df_r2) ++ wsJ40)
def wsJ5_isLatin1_aae02 : List Cond := .code yJ5_isLatin1_aae02 cJ5_isLatin1_aae02 1 (some .boolean) :: ([.fieldLink RJ5 18 "java/lang/String" "COMPACT_STRINGS" "Z", .fieldLink RJ5 22 "java/lang/AbstractStringBuilder" "coder" "B"] ++ wsJ40)
def wsJ5_init_d00df : List Cond := .code yJ5_init_d00df cJ5_init_d00df 2 none :: ([.methodLink RJ5 3 objectInit, .instanceMethod objectInit, .code objectInit ⟨#[0xb1]⟩ 1 none, .fieldLink RJ5 18 "java/lang/String" "COMPACT_STRINGS" "Z", .arrayClass .byte, .fieldLink RJ5 15 "java/lang/AbstractStringBuilder" "value" "[B", .fieldLink RJ5 22 "java/lang/AbstractStringBuilder" "coder" "B", .methodLink RJ5 26 yJ2_newBytesFor_77867, .static yJ2_newBytesFor_77867, .initialized RJ2, .code yJ2_newBytesFor_77867 cJ2_newBytesFor_77867 1 (some (.array .byte)), .methodLink RJ2 11 yJ2_newBytesLength_0f7a4, .static yJ2_newBytesLength_0f7a4, .code yJ2_newBytesLength_0f7a4 cJ2_newBytesLength_0f7a4 1 (some .int), .constant RJ2 20 (1073741823)] ++ wsJ40)
def wsJ4_init_da8c8 : List Cond := .code yJ4_init_da8c8 cJ4_init_da8c8 1 none :: ([.methodLink RJ4 1 yJ5_init_d00df, .instanceMethod yJ5_init_d00df, .initialized RJ5, .code yJ5_init_d00df cJ5_init_d00df 2 none, .methodLink RJ5 3 objectInit, .instanceMethod objectInit, .code objectInit ⟨#[0xb1]⟩ 1 none, .fieldLink RJ5 18 "java/lang/String" "COMPACT_STRINGS" "Z", .arrayClass .byte, .fieldLink RJ5 15 "java/lang/AbstractStringBuilder" "value" "[B", .fieldLink RJ5 22 "java/lang/AbstractStringBuilder" "coder" "B", .methodLink RJ5 26 yJ2_newBytesFor_77867, .static yJ2_newBytesFor_77867, .initialized RJ2, .code yJ2_newBytesFor_77867 cJ2_newBytesFor_77867 1 (some (.array .byte)), .methodLink RJ2 11 yJ2_newBytesLength_0f7a4, .static yJ2_newBytesLength_0f7a4, .code yJ2_newBytesLength_0f7a4 cJ2_newBytesLength_0f7a4 1 (some .int), .constant RJ2 20 (1073741823)] ++ wsJ40)
def wsX3_init_r1 : List Cond := [Cond.methodLink RX3 1 objectInit, Cond.instanceMethod objectInit, Cond.code objectInit ⟨#[0xb1]⟩ 1 none, Cond.classLink RX3 9 RX1, Cond.fieldLink RX3 11 "Hashladder" "tables" "[LHashladder$Table;", Cond.instantiable RX1 5, Cond.initialized RX1, Cond.fieldLink RX3 16 "Hashladder" "spare" "LHashladder$Table;", Cond.classLink RX3 20 RX0, Cond.instantiable RX0 3, Cond.initialized RX0, Cond.fieldLink RX3 23 "Hashladder" "row" "LHashladder$PairRow;", Cond.classLink RX3 27 RX2, Cond.instantiable RX2 5, Cond.initialized RX2, Cond.fieldLink RX3 30 "Hashladder" "probe" "LHashladder$Walk;", Cond.classLink RX3 34 RJ4, Cond.instantiable RJ4 4, Cond.initialized RJ4, Cond.fieldLink RX3 37 "Hashladder" "page" "Ljava/lang/StringBuilder;", Cond.methodLink RX3 15 yX1_init, Cond.instanceMethod yX1_init, Cond.code yX1_init cX1_init 2 none, Cond.methodLink RX1 3 objectInit]
def wsX3_init_r2 : List Cond := [Cond.arrayClass .int, Cond.fieldLink RX1 9 "Hashladder$Table" "worthOf" "[I", Cond.fieldLink RX1 15 "Hashladder$Table" "times" "[I", Cond.classLink RX1 18 RX2, Cond.fieldLink RX1 21 "Hashladder$Table" "walk" "LHashladder$Walk;", Cond.fieldLink RX1 25 "Hashladder$Table" "view" "I", Cond.instanceMethod yX2_init, Cond.code yX2_init cX2_init 1 none, Cond.methodLink RX2 3 objectInit, Cond.methodLink RX3 22 yX0_init, Cond.instanceMethod yX0_init, Cond.code yX0_init cX0_init 1 none, Cond.methodLink RX0 3 objectInit, Cond.fieldLink RX0 9 "Hashladder$PairRow" "names" "[I", Cond.fieldLink RX0 15 "Hashladder$PairRow" "worths" "[I", Cond.methodLink RX3 36 yJ4_init_da8c8, Cond.instanceMethod yJ4_init_da8c8, Cond.code yJ4_init_da8c8 cJ4_init_da8c8 1 none, Cond.methodLink RJ4 1 yJ5_init_d00df, Cond.instanceMethod yJ5_init_d00df, Cond.initialized RJ5, Cond.code yJ5_init_d00df cJ5_init_d00df 2 none, Cond.methodLink RJ5 3 objectInit, Cond.fieldLink RJ5 18 "java/lang/String" "COMPACT_STRINGS" "Z"]
def wsX3_init_r3 : List Cond := [Cond.arrayClass .byte, Cond.fieldLink RJ5 15 "java/lang/AbstractStringBuilder" "value" "[B", Cond.fieldLink RJ5 22 "java/lang/AbstractStringBuilder" "coder" "B", Cond.methodLink RJ5 26 yJ2_newBytesFor_77867, Cond.static yJ2_newBytesFor_77867, Cond.initialized RJ2, Cond.code yJ2_newBytesFor_77867 cJ2_newBytesFor_77867 1 (some (.array .byte)), Cond.methodLink RJ2 11 yJ2_newBytesLength_0f7a4, Cond.static yJ2_newBytesLength_0f7a4, Cond.code yJ2_newBytesLength_0f7a4 cJ2_newBytesLength_0f7a4 1 (some .int), Cond.constant RJ2 20 (1073741823)]
def wsX3_init : List Cond := .code yX3_init cX3_init 2 none :: ((wsX3_init_r1 ++ (wsX3_init_r2 ++ wsX3_init_r3)) ++ wsX30 ++ wsX10 ++ wsX00 ++ wsX20 ++ wsJ40 ++ (vx_atM "java/lang/ArrayIndexOutOfBoundsException" ["java/lang/IndexOutOfBoundsException", "java/lang/RuntimeException", "java/lang/Exception"]).filter goodWord)
def wsX3_tableAt : List Cond := .code yX3_tableAt cX3_tableAt 2 (some (.object "Hashladder$Table")) :: ([.classLink RX3 223 "java/lang/IndexOutOfBoundsException", .initialized "java/lang/IndexOutOfBoundsException", .fieldLink RX3 11 "Hashladder" "tables" "[LHashladder$Table;"] ++ wsX30 ++ (vx_atS RX3 227 "java/lang/IndexOutOfBoundsException" ["java/lang/RuntimeException", "java/lang/Exception"]).filter goodWord)
def wsX3_needIn : List Cond := .code yX3_needIn cX3_needIn 3 none :: ([.classLink RX3 104 "java/lang/IllegalArgumentException", .initialized "java/lang/IllegalArgumentException"] ++ (vx_atS RX3 108 "java/lang/IllegalArgumentException" ["java/lang/RuntimeException", "java/lang/Exception"]).filter goodWord)
def wsX3_needName : List Cond := .code yX3_needName cX3_needName 1 none :: ([.methodLink RX3 72 yX3_needIn, .static yX3_needIn, .initialized RX3, .code yX3_needIn cX3_needIn 3 none, .classLink RX3 104 "java/lang/IllegalArgumentException", .initialized "java/lang/IllegalArgumentException"] ++ (vx_atS RX3 108 "java/lang/IllegalArgumentException" ["java/lang/RuntimeException", "java/lang/Exception"]).filter goodWord)
def wsX3_needWorth : List Cond := .code yX3_needWorth cX3_needWorth 1 none :: ([.methodLink RX3 72 yX3_needIn, .static yX3_needIn, .initialized RX3, .code yX3_needIn cX3_needIn 3 none, .classLink RX3 104 "java/lang/IllegalArgumentException", .initialized "java/lang/IllegalArgumentException"] ++ (vx_atS RX3 108 "java/lang/IllegalArgumentException" ["java/lang/RuntimeException", "java/lang/Exception"]).filter goodWord)
def wsX3_put_r1 : List Cond := [Cond.methodLink RX3 41 yX3_tableAt, Cond.instanceMethod yX3_tableAt, Cond.selects RX3 yX3_tableAt yX3_tableAt, Cond.initialized RX3, Cond.code yX3_tableAt cX3_tableAt 2 (some (.object "Hashladder$Table")), Cond.classLink RX3 223 "java/lang/IndexOutOfBoundsException", Cond.initialized "java/lang/IndexOutOfBoundsException", Cond.fieldLink RX3 11 "Hashladder" "tables" "[LHashladder$Table;", Cond.methodLink RX3 45 yX3_needName, Cond.static yX3_needName, Cond.code yX3_needName cX3_needName 1 none, Cond.methodLink RX3 72 yX3_needIn, Cond.static yX3_needIn, Cond.code yX3_needIn cX3_needIn 3 none, Cond.classLink RX3 104 "java/lang/IllegalArgumentException", Cond.initialized "java/lang/IllegalArgumentException", Cond.methodLink RX3 49 yX3_needWorth, Cond.static yX3_needWorth, Cond.code yX3_needWorth cX3_needWorth 1 none, Cond.methodLink RX3 52 yX1_tell, Cond.instanceMethod yX1_tell, Cond.selects RX1 yX1_tell yX1_tell, Cond.initialized RX1, Cond.code yX1_tell cX1_tell 1 none]
def wsX3_put_r2 : List Cond := [Cond.fieldLink RX1 21 "Hashladder$Table" "walk" "LHashladder$Walk;", Cond.methodLink RX1 32 yX2_end, Cond.instanceMethod yX2_end, Cond.selects RX2 yX2_end yX2_end, Cond.initialized RX2, Cond.code yX2_end cX2_end 1 none, Cond.fieldLink RX2 9 "Hashladder$Walk" "isThere" "Z", Cond.methodLink RX3 55 yX1_lay, Cond.instanceMethod yX1_lay, Cond.selects RX1 yX1_lay yX1_lay, Cond.code yX1_lay cX1_lay 4 (some .int), Cond.fieldLink RX1 9 "Hashladder$Table" "worthOf" "[I", Cond.fieldLink RX1 15 "Hashladder$Table" "times" "[I", Cond.fieldLink RX1 29 "Hashladder$Table" "pairs" "I", Cond.methodLink RX1 42 yX1_lift, Cond.instanceMethod yX1_lift, Cond.selects RX1 yX1_lift yX1_lift, Cond.code yX1_lift cX1_lift 3 (some .int), Cond.methodLink RX1 50 yX1_worthAt, Cond.instanceMethod yX1_worthAt, Cond.selects RX1 yX1_worthAt yX1_worthAt, Cond.code yX1_worthAt cX1_worthAt 2 (some .int)]
def wsX3_put : List Cond := .code yX3_put cX3_put 5 (some .int) :: ((wsX3_put_r1 ++ wsX3_put_r2) ++ wsX30 ++ wsX10 ++ wsX20 ++ (vx_atS RX3 227 "java/lang/IndexOutOfBoundsException" ["java/lang/RuntimeException", "java/lang/Exception"]).filter goodWord ++ (vx_atS RX3 108 "java/lang/IllegalArgumentException" ["java/lang/RuntimeException", "java/lang/Exception"]).filter goodWord ++ (vx_atM "java/lang/ArrayIndexOutOfBoundsException" ["java/lang/IndexOutOfBoundsException", "java/lang/RuntimeException", "java/lang/Exception"]).filter goodWord)
def wsJ5_getValue_6d5f1 : List Cond := .code yJ5_getValue_6d5f1 cJ5_getValue_6d5f1 1 (some (.array .byte)) :: ([.fieldLink RJ5 15 "java/lang/AbstractStringBuilder" "value" "[B"] ++ wsJ40)
def wsJ7_checkLength_df160 : List Cond := .code yJ7_checkLength_df160 cJ7_checkLength_df160 2 none :: ([.classLink RJ7 45 RJ4, .instantiable RJ4 4, .initialized RJ4] ++ wsJ40)
def wsJ7_copyOfRangeByte_39247 : List Cond := .code yJ7_copyOfRangeByte_39247 cJ7_copyOfRangeByte_39247 5 (some (.array .byte)) :: ([.arrayClass .byte, .methodLink RJ7 304 Lib.Math.min.name, .static Lib.Math.min.name, .initialized "java/lang/Math", .code Lib.Math.min.name Lib.Math.min.code 2 (some .int), .methodLink RJ7 150 arraycopyName, .native arraycopyName, .static arraycopyName, .initialized "java/lang/System", .methodLink RJ7 343 yJ7_checkLength_df160, .static yJ7_checkLength_df160, .initialized RJ7, .code yJ7_checkLength_df160 cJ7_checkLength_df160 2 none, .classLink RJ7 45 RJ4, .instantiable RJ4 4, .initialized RJ4] ++ wsJ40)
def wsJ7_copyOfRange_39247_r1 : List Cond := [Cond.methodLink RJ7 310 ⟨"[B", "clone", "()Ljava/lang/Object;"⟩, Cond.sameMethod "[B" "java/lang/Object" "clone" "()Ljava/lang/Object;", Cond.native ⟨"java/lang/Object", "clone", "()Ljava/lang/Object;"⟩, Cond.instanceMethod ⟨"java/lang/Object", "clone", "()Ljava/lang/Object;"⟩, Cond.selects "[B" ⟨"[B", "clone", "()Ljava/lang/Object;"⟩ ⟨"java/lang/Object", "clone", "()Ljava/lang/Object;"⟩, Cond.classLink RJ7 311 "[B", Cond.methodLink RJ7 339 yJ7_copyOfRangeByte_39247, Cond.static yJ7_copyOfRangeByte_39247, Cond.initialized RJ7, Cond.code yJ7_copyOfRangeByte_39247 cJ7_copyOfRangeByte_39247 5 (some (.array .byte)), Cond.arrayClass .byte, Cond.methodLink RJ7 304 Lib.Math.min.name, Cond.static Lib.Math.min.name, Cond.initialized "java/lang/Math", Cond.code Lib.Math.min.name Lib.Math.min.code 2 (some .int), Cond.methodLink RJ7 150 arraycopyName, Cond.native arraycopyName, Cond.static arraycopyName, Cond.initialized "java/lang/System", Cond.methodLink RJ7 343 yJ7_checkLength_df160, Cond.static yJ7_checkLength_df160, Cond.code yJ7_checkLength_df160 cJ7_checkLength_df160 2 none, Cond.classLink RJ7 45 RJ4, Cond.instantiable RJ4 4]
def wsJ7_copyOfRange_39247_r2 : List Cond := [Cond.initialized RJ4]
def wsJ7_copyOfRange_39247 : List Cond := .code yJ7_copyOfRange_39247 cJ7_copyOfRange_39247 3 (some (.array .byte)) :: ((wsJ7_copyOfRange_39247_r1 ++ wsJ7_copyOfRange_39247_r2) ++ wsJ40)
def wsJ0_init_db425_r1 : List Cond := [Cond.methodLink RJ0 1 objectInit, Cond.instanceMethod objectInit, Cond.code objectInit ⟨#[0xb1]⟩ 1 none, Cond.fieldLink RJ0 15 "java/lang/String" "coder" "B", Cond.fieldLink RJ0 9 "java/lang/String" "value" "[B", Cond.fieldLink RJ0 38 "java/lang/String" "COMPACT_STRINGS" "Z", Cond.fieldLink RJ0 1048 "java/lang/AbstractStringBuilder" "maybeLatin1" "Z", Cond.methodLink RJ0 552 ⟨"java/lang/AbstractStringBuilder", "getValue", "()[B"⟩, Cond.sameMethod "java/lang/AbstractStringBuilder" "java/lang/AbstractStringBuilder" "getValue" "()[B", Cond.selects RJ4 ⟨"java/lang/AbstractStringBuilder", "getValue", "()[B"⟩ yJ5_getValue_6d5f1, Cond.instanceMethod yJ5_getValue_6d5f1, Cond.initialized RJ5, Cond.code yJ5_getValue_6d5f1 cJ5_getValue_6d5f1 1 (some (.array .byte)), Cond.fieldLink RJ5 15 "java/lang/AbstractStringBuilder" "value" "[B", Cond.methodLink RJ0 549 ⟨"java/lang/AbstractStringBuilder", "length", "()I"⟩, Cond.sameMethod "java/lang/AbstractStringBuilder" "java/lang/AbstractStringBuilder" "length" "()I", Cond.instanceMethod ⟨"java/lang/AbstractStringBuilder", "length", "()I"⟩, Cond.selects RJ4 ⟨"java/lang/AbstractStringBuilder", "length", "()I"⟩ yJ4_length_8abf5, Cond.instanceMethod yJ4_length_8abf5, Cond.initialized RJ4, Cond.code yJ4_length_8abf5 cJ4_length_8abf5 1 (some .int), Cond.methodLink RJ4 343 yJ5_length_8abf5, Cond.superclass RJ4 RJ5, Cond.instanceMethod yJ5_length_8abf5]
def wsJ0_init_db425_r2 : List Cond := [Cond.code yJ5_length_8abf5 cJ5_length_8abf5 1 (some .int), Cond.fieldLink RJ5 79 "java/lang/AbstractStringBuilder" "count" "I", Cond.methodLink RJ0 1047 ⟨"java/lang/AbstractStringBuilder", "isLatin1", "()Z"⟩, Cond.sameMethod "java/lang/AbstractStringBuilder" "java/lang/AbstractStringBuilder" "isLatin1" "()Z", Cond.selects RJ4 ⟨"java/lang/AbstractStringBuilder", "isLatin1", "()Z"⟩ yJ5_isLatin1_aae02, Cond.instanceMethod yJ5_isLatin1_aae02, Cond.code yJ5_isLatin1_aae02 cJ5_isLatin1_aae02 1 (some .boolean), Cond.fieldLink RJ5 18 "java/lang/String" "COMPACT_STRINGS" "Z", Cond.fieldLink RJ5 22 "java/lang/AbstractStringBuilder" "coder" "B", Cond.methodLink RJ0 54 yJ7_copyOfRange_39247, Cond.static yJ7_copyOfRange_39247, Cond.initialized RJ7, Cond.code yJ7_copyOfRange_39247 cJ7_copyOfRange_39247 3 (some (.array .byte)), Cond.methodLink RJ7 310 ⟨"[B", "clone", "()Ljava/lang/Object;"⟩, Cond.sameMethod "[B" "java/lang/Object" "clone" "()Ljava/lang/Object;", Cond.native ⟨"java/lang/Object", "clone", "()Ljava/lang/Object;"⟩, Cond.instanceMethod ⟨"java/lang/Object", "clone", "()Ljava/lang/Object;"⟩, Cond.selects "[B" ⟨"[B", "clone", "()Ljava/lang/Object;"⟩ ⟨"java/lang/Object", "clone", "()Ljava/lang/Object;"⟩, Cond.classLink RJ7 311 "[B", Cond.methodLink RJ7 339 yJ7_copyOfRangeByte_39247, Cond.static yJ7_copyOfRangeByte_39247, Cond.code yJ7_copyOfRangeByte_39247 cJ7_copyOfRangeByte_39247 5 (some (.array .byte)), Cond.arrayClass .byte, Cond.methodLink RJ7 304 Lib.Math.min.name]
def wsJ0_init_db425_r3 : List Cond := [Cond.static Lib.Math.min.name, Cond.initialized "java/lang/Math", Cond.code Lib.Math.min.name Lib.Math.min.code 2 (some .int), Cond.methodLink RJ7 150 arraycopyName, Cond.native arraycopyName, Cond.static arraycopyName, Cond.initialized "java/lang/System", Cond.methodLink RJ7 343 yJ7_checkLength_df160, Cond.static yJ7_checkLength_df160, Cond.code yJ7_checkLength_df160 cJ7_checkLength_df160 2 none, Cond.classLink RJ7 45 RJ4, Cond.instantiable RJ4 4, Cond.methodLink RJ0 1051 yJ2_compress_39247, Cond.static yJ2_compress_39247, Cond.initialized RJ2, Cond.code yJ2_compress_39247 cJ2_compress_39247 6 (some (.array .byte)), Cond.methodLink RJ2 123 yJ2_compress_5af95, Cond.static yJ2_compress_5af95, Cond.code yJ2_compress_5af95 cJ2_compress_5af95 7 (some .int), Cond.methodLink RJ2 173 yJ2_checkBoundsOffCount_d044e, Cond.static yJ2_checkBoundsOffCount_d044e, Cond.code yJ2_checkBoundsOffCount_d044e cJ2_checkBoundsOffCount_d044e 3 none, Cond.methodLink RJ2 48 yJ2_length_9d52b, Cond.static yJ2_length_9d52b]
def wsJ0_init_db425_r4 : List Cond := [Cond.code yJ2_length_9d52b cJ2_length_9d52b 1 (some .int), Cond.methodLink RJ2 419 yJ0_checkBoundsOffCount_cabcc, Cond.static yJ0_checkBoundsOffCount_cabcc, Cond.initialized RJ0, Cond.code yJ0_checkBoundsOffCount_cabcc cJ0_checkBoundsOffCount_cabcc 3 (some .int), Cond.fieldLink RJ0 1053 "jdk/internal/util/Preconditions" "SIOOBE_FORMATTER" "Ljava/util/function/BiFunction;", Cond.methodLink RJ0 1065 yJ3_checkFromIndexSize_8c36e, Cond.static yJ3_checkFromIndexSize_8c36e, Cond.initialized RJ3, Cond.code yJ3_checkFromIndexSize_8c36e cJ3_checkFromIndexSize_8c36e 4 (some .int), Cond.methodLink RJ2 71 yJ2_getChar_3b067, Cond.static yJ2_getChar_3b067, Cond.code yJ2_getChar_3b067 cJ2_getChar_3b067 2 (some .char), Cond.fieldLink RJ2 44 "java/lang/StringUTF16" "$assertionsDisabled" "Z", Cond.fieldLink RJ2 59 "java/lang/StringUTF16" "HI_BYTE_SHIFT" "I", Cond.fieldLink RJ2 63 "java/lang/StringUTF16" "LO_BYTE_SHIFT" "I", Cond.methodLink RJ2 11 yJ2_newBytesLength_0f7a4, Cond.static yJ2_newBytesLength_0f7a4, Cond.code yJ2_newBytesLength_0f7a4 cJ2_newBytesLength_0f7a4 1 (some .int), Cond.constant RJ2 20 (1073741823), Cond.methodLink RJ2 126 yJ7_copyOfRange_39247, Cond.methodLink RJ0 47 yJ2_coderFromArrayLen_85cad, Cond.static yJ2_coderFromArrayLen_85cad, Cond.code yJ2_coderFromArrayLen_85cad cJ2_coderFromArrayLen_85cad 2 (some .byte)]
def wsJ0_init_db425 : List Cond := .code yJ0_init_db425 cJ0_init_db425 5 none :: ((wsJ0_init_db425_r1 ++ (wsJ0_init_db425_r2 ++ (wsJ0_init_db425_r3 ++ wsJ0_init_db425_r4))) ++ wsJ00 ++ wsJ40)
def wsJ0_init_81219_r1 : List Cond := [Cond.methodLink RJ0 489 yJ0_init_db425, Cond.instanceMethod yJ0_init_db425, Cond.initialized RJ0, Cond.code yJ0_init_db425 cJ0_init_db425 5 none, Cond.methodLink RJ0 1 objectInit, Cond.instanceMethod objectInit, Cond.code objectInit ⟨#[0xb1]⟩ 1 none, Cond.fieldLink RJ0 15 "java/lang/String" "coder" "B", Cond.fieldLink RJ0 9 "java/lang/String" "value" "[B", Cond.fieldLink RJ0 38 "java/lang/String" "COMPACT_STRINGS" "Z", Cond.fieldLink RJ0 1048 "java/lang/AbstractStringBuilder" "maybeLatin1" "Z", Cond.methodLink RJ0 552 ⟨"java/lang/AbstractStringBuilder", "getValue", "()[B"⟩, Cond.sameMethod "java/lang/AbstractStringBuilder" "java/lang/AbstractStringBuilder" "getValue" "()[B", Cond.selects RJ4 ⟨"java/lang/AbstractStringBuilder", "getValue", "()[B"⟩ yJ5_getValue_6d5f1, Cond.instanceMethod yJ5_getValue_6d5f1, Cond.initialized RJ5, Cond.code yJ5_getValue_6d5f1 cJ5_getValue_6d5f1 1 (some (.array .byte)), Cond.fieldLink RJ5 15 "java/lang/AbstractStringBuilder" "value" "[B", Cond.methodLink RJ0 549 ⟨"java/lang/AbstractStringBuilder", "length", "()I"⟩, Cond.sameMethod "java/lang/AbstractStringBuilder" "java/lang/AbstractStringBuilder" "length" "()I", Cond.instanceMethod ⟨"java/lang/AbstractStringBuilder", "length", "()I"⟩, Cond.selects RJ4 ⟨"java/lang/AbstractStringBuilder", "length", "()I"⟩ yJ4_length_8abf5, Cond.instanceMethod yJ4_length_8abf5, Cond.initialized RJ4]
def wsJ0_init_81219_r2 : List Cond := [Cond.code yJ4_length_8abf5 cJ4_length_8abf5 1 (some .int), Cond.methodLink RJ4 343 yJ5_length_8abf5, Cond.superclass RJ4 RJ5, Cond.instanceMethod yJ5_length_8abf5, Cond.code yJ5_length_8abf5 cJ5_length_8abf5 1 (some .int), Cond.fieldLink RJ5 79 "java/lang/AbstractStringBuilder" "count" "I", Cond.methodLink RJ0 1047 ⟨"java/lang/AbstractStringBuilder", "isLatin1", "()Z"⟩, Cond.sameMethod "java/lang/AbstractStringBuilder" "java/lang/AbstractStringBuilder" "isLatin1" "()Z", Cond.selects RJ4 ⟨"java/lang/AbstractStringBuilder", "isLatin1", "()Z"⟩ yJ5_isLatin1_aae02, Cond.instanceMethod yJ5_isLatin1_aae02, Cond.code yJ5_isLatin1_aae02 cJ5_isLatin1_aae02 1 (some .boolean), Cond.fieldLink RJ5 18 "java/lang/String" "COMPACT_STRINGS" "Z", Cond.fieldLink RJ5 22 "java/lang/AbstractStringBuilder" "coder" "B", Cond.methodLink RJ0 54 yJ7_copyOfRange_39247, Cond.static yJ7_copyOfRange_39247, Cond.initialized RJ7, Cond.code yJ7_copyOfRange_39247 cJ7_copyOfRange_39247 3 (some (.array .byte)), Cond.methodLink RJ7 310 ⟨"[B", "clone", "()Ljava/lang/Object;"⟩, Cond.sameMethod "[B" "java/lang/Object" "clone" "()Ljava/lang/Object;", Cond.native ⟨"java/lang/Object", "clone", "()Ljava/lang/Object;"⟩, Cond.instanceMethod ⟨"java/lang/Object", "clone", "()Ljava/lang/Object;"⟩, Cond.selects "[B" ⟨"[B", "clone", "()Ljava/lang/Object;"⟩ ⟨"java/lang/Object", "clone", "()Ljava/lang/Object;"⟩, Cond.classLink RJ7 311 "[B", Cond.methodLink RJ7 339 yJ7_copyOfRangeByte_39247]
def wsJ0_init_81219_r3 : List Cond := [Cond.static yJ7_copyOfRangeByte_39247, Cond.code yJ7_copyOfRangeByte_39247 cJ7_copyOfRangeByte_39247 5 (some (.array .byte)), Cond.arrayClass .byte, Cond.methodLink RJ7 304 Lib.Math.min.name, Cond.static Lib.Math.min.name, Cond.initialized "java/lang/Math", Cond.code Lib.Math.min.name Lib.Math.min.code 2 (some .int), Cond.methodLink RJ7 150 arraycopyName, Cond.native arraycopyName, Cond.static arraycopyName, Cond.initialized "java/lang/System", Cond.methodLink RJ7 343 yJ7_checkLength_df160, Cond.static yJ7_checkLength_df160, Cond.code yJ7_checkLength_df160 cJ7_checkLength_df160 2 none, Cond.classLink RJ7 45 RJ4, Cond.instantiable RJ4 4, Cond.methodLink RJ0 1051 yJ2_compress_39247, Cond.static yJ2_compress_39247, Cond.initialized RJ2, Cond.code yJ2_compress_39247 cJ2_compress_39247 6 (some (.array .byte)), Cond.methodLink RJ2 123 yJ2_compress_5af95, Cond.static yJ2_compress_5af95, Cond.code yJ2_compress_5af95 cJ2_compress_5af95 7 (some .int), Cond.methodLink RJ2 173 yJ2_checkBoundsOffCount_d044e]
def wsJ0_init_81219_r4 : List Cond := [Cond.static yJ2_checkBoundsOffCount_d044e, Cond.code yJ2_checkBoundsOffCount_d044e cJ2_checkBoundsOffCount_d044e 3 none, Cond.methodLink RJ2 48 yJ2_length_9d52b, Cond.static yJ2_length_9d52b, Cond.code yJ2_length_9d52b cJ2_length_9d52b 1 (some .int), Cond.methodLink RJ2 419 yJ0_checkBoundsOffCount_cabcc, Cond.static yJ0_checkBoundsOffCount_cabcc, Cond.code yJ0_checkBoundsOffCount_cabcc cJ0_checkBoundsOffCount_cabcc 3 (some .int), Cond.fieldLink RJ0 1053 "jdk/internal/util/Preconditions" "SIOOBE_FORMATTER" "Ljava/util/function/BiFunction;", Cond.methodLink RJ0 1065 yJ3_checkFromIndexSize_8c36e, Cond.static yJ3_checkFromIndexSize_8c36e, Cond.initialized RJ3, Cond.code yJ3_checkFromIndexSize_8c36e cJ3_checkFromIndexSize_8c36e 4 (some .int), Cond.methodLink RJ2 71 yJ2_getChar_3b067, Cond.static yJ2_getChar_3b067, Cond.code yJ2_getChar_3b067 cJ2_getChar_3b067 2 (some .char), Cond.fieldLink RJ2 44 "java/lang/StringUTF16" "$assertionsDisabled" "Z", Cond.fieldLink RJ2 59 "java/lang/StringUTF16" "HI_BYTE_SHIFT" "I", Cond.fieldLink RJ2 63 "java/lang/StringUTF16" "LO_BYTE_SHIFT" "I", Cond.methodLink RJ2 11 yJ2_newBytesLength_0f7a4, Cond.static yJ2_newBytesLength_0f7a4, Cond.code yJ2_newBytesLength_0f7a4 cJ2_newBytesLength_0f7a4 1 (some .int), Cond.constant RJ2 20 (1073741823), Cond.methodLink RJ2 126 yJ7_copyOfRange_39247]
def wsJ0_init_81219_r5 : List Cond := [Cond.methodLink RJ0 47 yJ2_coderFromArrayLen_85cad, Cond.static yJ2_coderFromArrayLen_85cad, Cond.code yJ2_coderFromArrayLen_85cad cJ2_coderFromArrayLen_85cad 2 (some .byte)]
def wsJ0_init_81219 : List Cond := .code yJ0_init_81219 cJ0_init_81219 2 none :: ((wsJ0_init_81219_r1 ++ (wsJ0_init_81219_r2 ++ (wsJ0_init_81219_r3 ++ (wsJ0_init_81219_r4 ++ wsJ0_init_81219_r5)))) ++ wsJ00 ++ wsJ40)
def wsJ4_toString_0e30d_r1 : List Cond := [Cond.classLink RJ4 18 RJ0, Cond.instantiable RJ0 4, Cond.initialized RJ0, Cond.methodLink RJ4 137 yJ0_init_81219, Cond.instanceMethod yJ0_init_81219, Cond.code yJ0_init_81219 cJ0_init_81219 2 none, Cond.methodLink RJ0 489 yJ0_init_db425, Cond.instanceMethod yJ0_init_db425, Cond.code yJ0_init_db425 cJ0_init_db425 5 none, Cond.methodLink RJ0 1 objectInit, Cond.instanceMethod objectInit, Cond.code objectInit ⟨#[0xb1]⟩ 1 none, Cond.fieldLink RJ0 15 "java/lang/String" "coder" "B", Cond.fieldLink RJ0 9 "java/lang/String" "value" "[B", Cond.fieldLink RJ0 38 "java/lang/String" "COMPACT_STRINGS" "Z", Cond.fieldLink RJ0 1048 "java/lang/AbstractStringBuilder" "maybeLatin1" "Z", Cond.methodLink RJ0 552 ⟨"java/lang/AbstractStringBuilder", "getValue", "()[B"⟩, Cond.sameMethod "java/lang/AbstractStringBuilder" "java/lang/AbstractStringBuilder" "getValue" "()[B", Cond.selects RJ4 ⟨"java/lang/AbstractStringBuilder", "getValue", "()[B"⟩ yJ5_getValue_6d5f1, Cond.instanceMethod yJ5_getValue_6d5f1, Cond.initialized RJ5, Cond.code yJ5_getValue_6d5f1 cJ5_getValue_6d5f1 1 (some (.array .byte)), Cond.fieldLink RJ5 15 "java/lang/AbstractStringBuilder" "value" "[B", Cond.methodLink RJ0 549 ⟨"java/lang/AbstractStringBuilder", "length", "()I"⟩]
def wsJ4_toString_0e30d_r2 : List Cond := [Cond.sameMethod "java/lang/AbstractStringBuilder" "java/lang/AbstractStringBuilder" "length" "()I", Cond.instanceMethod ⟨"java/lang/AbstractStringBuilder", "length", "()I"⟩, Cond.selects RJ4 ⟨"java/lang/AbstractStringBuilder", "length", "()I"⟩ yJ4_length_8abf5, Cond.instanceMethod yJ4_length_8abf5, Cond.initialized RJ4, Cond.code yJ4_length_8abf5 cJ4_length_8abf5 1 (some .int), Cond.methodLink RJ4 343 yJ5_length_8abf5, Cond.superclass RJ4 RJ5, Cond.instanceMethod yJ5_length_8abf5, Cond.code yJ5_length_8abf5 cJ5_length_8abf5 1 (some .int), Cond.fieldLink RJ5 79 "java/lang/AbstractStringBuilder" "count" "I", Cond.methodLink RJ0 1047 ⟨"java/lang/AbstractStringBuilder", "isLatin1", "()Z"⟩, Cond.sameMethod "java/lang/AbstractStringBuilder" "java/lang/AbstractStringBuilder" "isLatin1" "()Z", Cond.selects RJ4 ⟨"java/lang/AbstractStringBuilder", "isLatin1", "()Z"⟩ yJ5_isLatin1_aae02, Cond.instanceMethod yJ5_isLatin1_aae02, Cond.code yJ5_isLatin1_aae02 cJ5_isLatin1_aae02 1 (some .boolean), Cond.fieldLink RJ5 18 "java/lang/String" "COMPACT_STRINGS" "Z", Cond.fieldLink RJ5 22 "java/lang/AbstractStringBuilder" "coder" "B", Cond.methodLink RJ0 54 yJ7_copyOfRange_39247, Cond.static yJ7_copyOfRange_39247, Cond.initialized RJ7, Cond.code yJ7_copyOfRange_39247 cJ7_copyOfRange_39247 3 (some (.array .byte)), Cond.methodLink RJ7 310 ⟨"[B", "clone", "()Ljava/lang/Object;"⟩, Cond.sameMethod "[B" "java/lang/Object" "clone" "()Ljava/lang/Object;"]
def wsJ4_toString_0e30d_r3 : List Cond := [Cond.native ⟨"java/lang/Object", "clone", "()Ljava/lang/Object;"⟩, Cond.instanceMethod ⟨"java/lang/Object", "clone", "()Ljava/lang/Object;"⟩, Cond.selects "[B" ⟨"[B", "clone", "()Ljava/lang/Object;"⟩ ⟨"java/lang/Object", "clone", "()Ljava/lang/Object;"⟩, Cond.classLink RJ7 311 "[B", Cond.methodLink RJ7 339 yJ7_copyOfRangeByte_39247, Cond.static yJ7_copyOfRangeByte_39247, Cond.code yJ7_copyOfRangeByte_39247 cJ7_copyOfRangeByte_39247 5 (some (.array .byte)), Cond.arrayClass .byte, Cond.methodLink RJ7 304 Lib.Math.min.name, Cond.static Lib.Math.min.name, Cond.initialized "java/lang/Math", Cond.code Lib.Math.min.name Lib.Math.min.code 2 (some .int), Cond.methodLink RJ7 150 arraycopyName, Cond.native arraycopyName, Cond.static arraycopyName, Cond.initialized "java/lang/System", Cond.methodLink RJ7 343 yJ7_checkLength_df160, Cond.static yJ7_checkLength_df160, Cond.code yJ7_checkLength_df160 cJ7_checkLength_df160 2 none, Cond.classLink RJ7 45 RJ4, Cond.instantiable RJ4 4, Cond.methodLink RJ0 1051 yJ2_compress_39247, Cond.static yJ2_compress_39247, Cond.initialized RJ2]
def wsJ4_toString_0e30d_r4 : List Cond := [Cond.code yJ2_compress_39247 cJ2_compress_39247 6 (some (.array .byte)), Cond.methodLink RJ2 123 yJ2_compress_5af95, Cond.static yJ2_compress_5af95, Cond.code yJ2_compress_5af95 cJ2_compress_5af95 7 (some .int), Cond.methodLink RJ2 173 yJ2_checkBoundsOffCount_d044e, Cond.static yJ2_checkBoundsOffCount_d044e, Cond.code yJ2_checkBoundsOffCount_d044e cJ2_checkBoundsOffCount_d044e 3 none, Cond.methodLink RJ2 48 yJ2_length_9d52b, Cond.static yJ2_length_9d52b, Cond.code yJ2_length_9d52b cJ2_length_9d52b 1 (some .int), Cond.methodLink RJ2 419 yJ0_checkBoundsOffCount_cabcc, Cond.static yJ0_checkBoundsOffCount_cabcc, Cond.code yJ0_checkBoundsOffCount_cabcc cJ0_checkBoundsOffCount_cabcc 3 (some .int), Cond.fieldLink RJ0 1053 "jdk/internal/util/Preconditions" "SIOOBE_FORMATTER" "Ljava/util/function/BiFunction;", Cond.methodLink RJ0 1065 yJ3_checkFromIndexSize_8c36e, Cond.static yJ3_checkFromIndexSize_8c36e, Cond.initialized RJ3, Cond.code yJ3_checkFromIndexSize_8c36e cJ3_checkFromIndexSize_8c36e 4 (some .int), Cond.methodLink RJ2 71 yJ2_getChar_3b067, Cond.static yJ2_getChar_3b067, Cond.code yJ2_getChar_3b067 cJ2_getChar_3b067 2 (some .char), Cond.fieldLink RJ2 44 "java/lang/StringUTF16" "$assertionsDisabled" "Z", Cond.fieldLink RJ2 59 "java/lang/StringUTF16" "HI_BYTE_SHIFT" "I", Cond.fieldLink RJ2 63 "java/lang/StringUTF16" "LO_BYTE_SHIFT" "I"]
def wsJ4_toString_0e30d_r5 : List Cond := [Cond.methodLink RJ2 11 yJ2_newBytesLength_0f7a4, Cond.static yJ2_newBytesLength_0f7a4, Cond.code yJ2_newBytesLength_0f7a4 cJ2_newBytesLength_0f7a4 1 (some .int), Cond.constant RJ2 20 (1073741823), Cond.methodLink RJ2 126 yJ7_copyOfRange_39247, Cond.methodLink RJ0 47 yJ2_coderFromArrayLen_85cad, Cond.static yJ2_coderFromArrayLen_85cad, Cond.code yJ2_coderFromArrayLen_85cad cJ2_coderFromArrayLen_85cad 2 (some .byte)]
def wsJ4_toString_0e30d : List Cond := .code yJ4_toString_0e30d cJ4_toString_0e30d 1 (some (.object "java/lang/String")) :: ((wsJ4_toString_0e30d_r1 ++ (wsJ4_toString_0e30d_r2 ++ (wsJ4_toString_0e30d_r3 ++ (wsJ4_toString_0e30d_r4 ++ wsJ4_toString_0e30d_r5)))) ++ wsJ00 ++ wsJ40)
def wsX3_width : List Cond := .code yX3_width cX3_width 2 (some .int) :: ([.methodLink RX3 41 yX3_tableAt, .instanceMethod yX3_tableAt, .selects RX3 yX3_tableAt yX3_tableAt, .initialized RX3, .code yX3_tableAt cX3_tableAt 2 (some (.object "Hashladder$Table")), .classLink RX3 223 "java/lang/IndexOutOfBoundsException", .initialized "java/lang/IndexOutOfBoundsException", .fieldLink RX3 11 "Hashladder" "tables" "[LHashladder$Table;", .methodLink RX3 149 yX1_reckonWidth, .instanceMethod yX1_reckonWidth, .selects RX1 yX1_reckonWidth yX1_reckonWidth, .initialized RX1, .code yX1_reckonWidth cX1_reckonWidth 4 (some .int), .fieldLink RX1 29 "Hashladder$Table" "pairs" "I", .methodLink RX1 50 yX1_worthAt, .instanceMethod yX1_worthAt, .selects RX1 yX1_worthAt yX1_worthAt, .code yX1_worthAt cX1_worthAt 2 (some .int), .fieldLink RX1 9 "Hashladder$Table" "worthOf" "[I", .methodLink RX1 68 yX1_signsOf, .static yX1_signsOf, .code yX1_signsOf cX1_signsOf 1 (some .int)] ++ wsX30 ++ wsX10 ++ (vx_atS RX3 227 "java/lang/IndexOutOfBoundsException" ["java/lang/RuntimeException", "java/lang/Exception"]).filter goodWord ++ (vx_atM "java/lang/ArrayIndexOutOfBoundsException" ["java/lang/IndexOutOfBoundsException", "java/lang/RuntimeException", "java/lang/Exception"]).filter goodWord)
def wsX4_init : List Cond := .code yX4_init cX4_init 1 none :: ([.methodLink RX4 1 objectInit, .instanceMethod objectInit, .code objectInit ⟨#[0xb1]⟩ 1 none])
def wsX5_empty : List Cond := .code yX5_empty cX5_empty 3 none :: ([.fieldLink RX5 11 "HashladderModel" "rows" "[[I"] ++ wsX50 ++ (vx_atM "java/lang/ArrayIndexOutOfBoundsException" ["java/lang/IndexOutOfBoundsException", "java/lang/RuntimeException", "java/lang/Exception"]).filter goodWord)
def wsX5_init : List Cond := .code yX5_init cX5_init 2 none :: ([.methodLink RX5 1 objectInit, .instanceMethod objectInit, .code objectInit ⟨#[0xb1]⟩ 1 none, .classLink RX5 9 "[[I", .arrayClass .int, .fieldLink RX5 11 "HashladderModel" "rows" "[[I", .fieldLink RX5 14 "HashladderModel" "done" "[I", .fieldLink RX5 18 "HashladderModel" "steps" "[I", .fieldLink RX5 21 "HashladderModel" "sums" "[I", .fieldLink RX5 24 "HashladderModel" "views" "[I", .methodLink RX5 27 yX5_empty, .instanceMethod yX5_empty, .selects RX5 yX5_empty yX5_empty, .initialized RX5, .code yX5_empty cX5_empty 3 none] ++ wsX50 ++ (vx_atM "java/lang/ArrayIndexOutOfBoundsException" ["java/lang/IndexOutOfBoundsException", "java/lang/RuntimeException", "java/lang/Exception"]).filter goodWord)
def wsX5_fails : List Cond := .code yX5_fails cX5_fails 4 (some .boolean) :: ([.fieldLink RX5 31 "HashladderModel" "thrown" "I"] ++ wsX50)
def wsX5_fails_ : List Cond := .code yX5_fails_ cX5_fails_ 3 (some .boolean) :: ([.methodLink RX5 35 yX5_fails, .instanceMethod yX5_fails, .selects RX5 yX5_fails yX5_fails, .initialized RX5, .code yX5_fails cX5_fails 4 (some .boolean), .fieldLink RX5 31 "HashladderModel" "thrown" "I"] ++ wsX50)
def wsX5_isIn : List Cond := .code yX5_isIn cX5_isIn 3 (some .boolean) :: ([])
def wsX5_isNo : List Cond := .code yX5_isNo cX5_isNo 1 (some .boolean) :: ([.methodLink RX5 39 yX5_isIn, .static yX5_isIn, .initialized RX5, .code yX5_isIn cX5_isIn 3 (some .boolean)])
def wsX5_isNoName : List Cond := .code yX5_isNoName cX5_isNoName 1 (some .boolean) :: ([.methodLink RX5 39 yX5_isIn, .static yX5_isIn, .initialized RX5, .code yX5_isIn cX5_isIn 3 (some .boolean)])
def wsX5_isNoWorth : List Cond := .code yX5_isNoWorth cX5_isNoWorth 1 (some .boolean) :: ([.methodLink RX5 39 yX5_isIn, .static yX5_isIn, .initialized RX5, .code yX5_isIn cX5_isIn 3 (some .boolean)])
def wsX5_tell : List Cond := .code yX5_tell cX5_tell 2 none :: ([.fieldLink RX5 14 "HashladderModel" "done" "[I"] ++ wsX50 ++ (vx_atM "java/lang/ArrayIndexOutOfBoundsException" ["java/lang/IndexOutOfBoundsException", "java/lang/RuntimeException", "java/lang/Exception"]).filter goodWord)
def wsX5_set : List Cond := .code yX5_set cX5_set 5 (some .int) :: ([.fieldLink RX5 11 "HashladderModel" "rows" "[[I"] ++ wsX50 ++ (vx_atM "java/lang/ArrayIndexOutOfBoundsException" ["java/lang/IndexOutOfBoundsException", "java/lang/RuntimeException", "java/lang/Exception"]).filter goodWord)
def wsX5_put_r1 : List Cond := [Cond.methodLink RX5 47 yX5_isNo, Cond.static yX5_isNo, Cond.initialized RX5, Cond.code yX5_isNo cX5_isNo 1 (some .boolean), Cond.methodLink RX5 39 yX5_isIn, Cond.static yX5_isIn, Cond.code yX5_isIn cX5_isIn 3 (some .boolean), Cond.methodLink RX5 51 yX5_isNoName, Cond.static yX5_isNoName, Cond.code yX5_isNoName cX5_isNoName 1 (some .boolean), Cond.methodLink RX5 54 yX5_isNoWorth, Cond.static yX5_isNoWorth, Cond.code yX5_isNoWorth cX5_isNoWorth 1 (some .boolean), Cond.methodLink RX5 57 yX5_fails_, Cond.instanceMethod yX5_fails_, Cond.selects RX5 yX5_fails_ yX5_fails_, Cond.code yX5_fails_ cX5_fails_ 3 (some .boolean), Cond.methodLink RX5 35 yX5_fails, Cond.instanceMethod yX5_fails, Cond.selects RX5 yX5_fails yX5_fails, Cond.code yX5_fails cX5_fails 4 (some .boolean), Cond.fieldLink RX5 31 "HashladderModel" "thrown" "I", Cond.methodLink RX5 60 yX5_tell, Cond.instanceMethod yX5_tell]
def wsX5_put_r2 : List Cond := [Cond.selects RX5 yX5_tell yX5_tell, Cond.code yX5_tell cX5_tell 2 none, Cond.fieldLink RX5 14 "HashladderModel" "done" "[I", Cond.methodLink RX5 63 yX5_set, Cond.instanceMethod yX5_set, Cond.selects RX5 yX5_set yX5_set, Cond.code yX5_set cX5_set 5 (some .int), Cond.fieldLink RX5 11 "HashladderModel" "rows" "[[I"]
def wsX5_put : List Cond := .code yX5_put cX5_put 4 (some .int) :: ((wsX5_put_r1 ++ wsX5_put_r2) ++ wsX50 ++ (vx_atM "java/lang/ArrayIndexOutOfBoundsException" ["java/lang/IndexOutOfBoundsException", "java/lang/RuntimeException", "java/lang/Exception"]).filter goodWord)
def wsJ0_coder_7d493 : List Cond := .code yJ0_coder_7d493 cJ0_coder_7d493 1 (some .byte) :: ([.fieldLink RJ0 38 "java/lang/String" "COMPACT_STRINGS" "Z", .fieldLink RJ0 15 "java/lang/String" "coder" "B"] ++ wsJ00)
def wsJ0_length_8abf5 : List Cond := .code yJ0_length_8abf5 cJ0_length_8abf5 1 (some .int) :: ([.fieldLink RJ0 9 "java/lang/String" "value" "[B", .methodLink RJ0 335 yJ0_coder_7d493, .instanceMethod yJ0_coder_7d493, .selects RJ0 yJ0_coder_7d493 yJ0_coder_7d493, .initialized RJ0, .code yJ0_coder_7d493 cJ0_coder_7d493 1 (some .byte), .fieldLink RJ0 38 "java/lang/String" "COMPACT_STRINGS" "Z", .fieldLink RJ0 15 "java/lang/String" "coder" "B"] ++ wsJ00)
def wsJ5_inflateIfNeededFor_a7421_r1 : List Cond := [Cond.fieldLink RJ5 18 "java/lang/String" "COMPACT_STRINGS" "Z", Cond.fieldLink RJ5 22 "java/lang/AbstractStringBuilder" "coder" "B", Cond.methodLink RJ5 40 yJ0_coder_7d493, Cond.instanceMethod yJ0_coder_7d493, Cond.selects RJ0 yJ0_coder_7d493 yJ0_coder_7d493, Cond.initialized RJ0, Cond.code yJ0_coder_7d493 cJ0_coder_7d493 1 (some .byte), Cond.fieldLink RJ0 38 "java/lang/String" "COMPACT_STRINGS" "Z", Cond.fieldLink RJ0 15 "java/lang/String" "coder" "B", Cond.methodLink RJ5 195 ⟨"java/lang/AbstractStringBuilder", "inflate", "()V"⟩, Cond.sameMethod "java/lang/AbstractStringBuilder" "java/lang/AbstractStringBuilder" "inflate" "()V", Cond.selects RJ4 ⟨"java/lang/AbstractStringBuilder", "inflate", "()V"⟩ yJ5_inflate_da8c8, Cond.instanceMethod yJ5_inflate_da8c8, Cond.initialized RJ5, Cond.code yJ5_inflate_da8c8 cJ5_inflate_da8c8 2 none, Cond.fieldLink RJ5 15 "java/lang/AbstractStringBuilder" "value" "[B", Cond.fieldLink RJ5 79 "java/lang/AbstractStringBuilder" "count" "I", Cond.methodLink RJ5 83 ⟨"java/lang/AbstractStringBuilder", "isLatin1", "()Z"⟩, Cond.sameMethod "java/lang/AbstractStringBuilder" "java/lang/AbstractStringBuilder" "isLatin1" "()Z", Cond.selects RJ4 ⟨"java/lang/AbstractStringBuilder", "isLatin1", "()Z"⟩ yJ5_isLatin1_aae02, Cond.instanceMethod yJ5_isLatin1_aae02, Cond.code yJ5_isLatin1_aae02 cJ5_isLatin1_aae02 1 (some .boolean), Cond.methodLink RJ5 26 yJ2_newBytesFor_77867, Cond.static yJ2_newBytesFor_77867]
def wsJ5_inflateIfNeededFor_a7421_r2 : List Cond := [Cond.initialized RJ2, Cond.code yJ2_newBytesFor_77867 cJ2_newBytesFor_77867 1 (some (.array .byte)), Cond.arrayClass .byte, Cond.methodLink RJ2 11 yJ2_newBytesLength_0f7a4, Cond.static yJ2_newBytesLength_0f7a4, Cond.code yJ2_newBytesLength_0f7a4 cJ2_newBytesLength_0f7a4 1 (some .int), Cond.constant RJ2 20 (1073741823), Cond.methodLink RJ5 125 yJ1_inflate_0e8fd, Cond.static yJ1_inflate_0e8fd, Cond.initialized RJ1, Cond.code yJ1_inflate_0e8fd cJ1_inflate_0e8fd 5 none, Cond.methodLink RJ1 240 yJ2_inflate_0e8fd, Cond.static yJ2_inflate_0e8fd, Cond.code yJ2_inflate_0e8fd cJ2_inflate_0e8fd 6 none, Cond.methodLink RJ2 173 yJ2_checkBoundsOffCount_d044e, Cond.static yJ2_checkBoundsOffCount_d044e, Cond.code yJ2_checkBoundsOffCount_d044e cJ2_checkBoundsOffCount_d044e 3 none, Cond.methodLink RJ2 48 yJ2_length_9d52b, Cond.static yJ2_length_9d52b, Cond.code yJ2_length_9d52b cJ2_length_9d52b 1 (some .int), Cond.methodLink RJ2 419 yJ0_checkBoundsOffCount_cabcc, Cond.static yJ0_checkBoundsOffCount_cabcc, Cond.code yJ0_checkBoundsOffCount_cabcc cJ0_checkBoundsOffCount_cabcc 3 (some .int), Cond.fieldLink RJ0 1053 "jdk/internal/util/Preconditions" "SIOOBE_FORMATTER" "Ljava/util/function/BiFunction;"]
def wsJ5_inflateIfNeededFor_a7421_r3 : List Cond := [Cond.methodLink RJ0 1065 yJ3_checkFromIndexSize_8c36e, Cond.static yJ3_checkFromIndexSize_8c36e, Cond.initialized RJ3, Cond.code yJ3_checkFromIndexSize_8c36e cJ3_checkFromIndexSize_8c36e 4 (some .int), Cond.methodLink RJ2 111 yJ2_putChar_b72d1, Cond.static yJ2_putChar_b72d1, Cond.code yJ2_putChar_b72d1 cJ2_putChar_b72d1 3 none, Cond.fieldLink RJ2 44 "java/lang/StringUTF16" "$assertionsDisabled" "Z", Cond.fieldLink RJ2 59 "java/lang/StringUTF16" "HI_BYTE_SHIFT" "I", Cond.fieldLink RJ2 63 "java/lang/StringUTF16" "LO_BYTE_SHIFT" "I"]
def wsJ5_inflateIfNeededFor_a7421 : List Cond := .code yJ5_inflateIfNeededFor_a7421 cJ5_inflateIfNeededFor_a7421 2 none :: ((wsJ5_inflateIfNeededFor_a7421_r1 ++ (wsJ5_inflateIfNeededFor_a7421_r2 ++ wsJ5_inflateIfNeededFor_a7421_r3)) ++ wsJ40 ++ wsJ00)
def wsJ0_getBytes_840e7_r1 : List Cond := [Cond.fieldLink RJ0 9 "java/lang/String" "value" "[B", Cond.methodLink RJ0 212 arraycopyName, Cond.native arraycopyName, Cond.static arraycopyName, Cond.initialized "java/lang/System", Cond.methodLink RJ0 335 yJ0_coder_7d493, Cond.instanceMethod yJ0_coder_7d493, Cond.selects RJ0 yJ0_coder_7d493 yJ0_coder_7d493, Cond.initialized RJ0, Cond.code yJ0_coder_7d493 cJ0_coder_7d493 1 (some .byte), Cond.fieldLink RJ0 38 "java/lang/String" "COMPACT_STRINGS" "Z", Cond.fieldLink RJ0 15 "java/lang/String" "coder" "B", Cond.methodLink RJ0 106 yJ1_inflate_0e8fd, Cond.static yJ1_inflate_0e8fd, Cond.initialized RJ1, Cond.code yJ1_inflate_0e8fd cJ1_inflate_0e8fd 5 none, Cond.methodLink RJ1 240 yJ2_inflate_0e8fd, Cond.static yJ2_inflate_0e8fd, Cond.initialized RJ2, Cond.code yJ2_inflate_0e8fd cJ2_inflate_0e8fd 6 none, Cond.methodLink RJ2 173 yJ2_checkBoundsOffCount_d044e, Cond.static yJ2_checkBoundsOffCount_d044e, Cond.code yJ2_checkBoundsOffCount_d044e cJ2_checkBoundsOffCount_d044e 3 none, Cond.methodLink RJ2 48 yJ2_length_9d52b]
def wsJ0_getBytes_840e7_r2 : List Cond := [Cond.static yJ2_length_9d52b, Cond.code yJ2_length_9d52b cJ2_length_9d52b 1 (some .int), Cond.methodLink RJ2 419 yJ0_checkBoundsOffCount_cabcc, Cond.static yJ0_checkBoundsOffCount_cabcc, Cond.code yJ0_checkBoundsOffCount_cabcc cJ0_checkBoundsOffCount_cabcc 3 (some .int), Cond.fieldLink RJ0 1053 "jdk/internal/util/Preconditions" "SIOOBE_FORMATTER" "Ljava/util/function/BiFunction;", Cond.methodLink RJ0 1065 yJ3_checkFromIndexSize_8c36e, Cond.static yJ3_checkFromIndexSize_8c36e, Cond.initialized RJ3, Cond.code yJ3_checkFromIndexSize_8c36e cJ3_checkFromIndexSize_8c36e 4 (some .int), Cond.methodLink RJ2 111 yJ2_putChar_b72d1, Cond.static yJ2_putChar_b72d1, Cond.code yJ2_putChar_b72d1 cJ2_putChar_b72d1 3 none, Cond.fieldLink RJ2 44 "java/lang/StringUTF16" "$assertionsDisabled" "Z", Cond.fieldLink RJ2 59 "java/lang/StringUTF16" "HI_BYTE_SHIFT" "I", Cond.fieldLink RJ2 63 "java/lang/StringUTF16" "LO_BYTE_SHIFT" "I"]
def wsJ0_getBytes_840e7 : List Cond := .code yJ0_getBytes_840e7 cJ0_getBytes_840e7 4 none :: ((wsJ0_getBytes_840e7_r1 ++ wsJ0_getBytes_840e7_r2) ++ wsJ00)
def wsJ5_putStringAt_47b60_r1 : List Cond := [Cond.fieldLink RJ5 15 "java/lang/AbstractStringBuilder" "value" "[B", Cond.fieldLink RJ5 22 "java/lang/AbstractStringBuilder" "coder" "B", Cond.methodLink RJ5 397 ⟨"java/lang/AbstractStringBuilder", "inflateIfNeededFor", "(Ljava/lang/String;)V"⟩, Cond.sameMethod "java/lang/AbstractStringBuilder" "java/lang/AbstractStringBuilder" "inflateIfNeededFor" "(Ljava/lang/String;)V", Cond.selects RJ4 ⟨"java/lang/AbstractStringBuilder", "inflateIfNeededFor", "(Ljava/lang/String;)V"⟩ yJ5_inflateIfNeededFor_a7421, Cond.instanceMethod yJ5_inflateIfNeededFor_a7421, Cond.initialized RJ5, Cond.code yJ5_inflateIfNeededFor_a7421 cJ5_inflateIfNeededFor_a7421 2 none, Cond.fieldLink RJ5 18 "java/lang/String" "COMPACT_STRINGS" "Z", Cond.methodLink RJ5 40 yJ0_coder_7d493, Cond.instanceMethod yJ0_coder_7d493, Cond.selects RJ0 yJ0_coder_7d493 yJ0_coder_7d493, Cond.initialized RJ0, Cond.code yJ0_coder_7d493 cJ0_coder_7d493 1 (some .byte), Cond.fieldLink RJ0 38 "java/lang/String" "COMPACT_STRINGS" "Z", Cond.fieldLink RJ0 15 "java/lang/String" "coder" "B", Cond.methodLink RJ5 195 ⟨"java/lang/AbstractStringBuilder", "inflate", "()V"⟩, Cond.sameMethod "java/lang/AbstractStringBuilder" "java/lang/AbstractStringBuilder" "inflate" "()V", Cond.selects RJ4 ⟨"java/lang/AbstractStringBuilder", "inflate", "()V"⟩ yJ5_inflate_da8c8, Cond.instanceMethod yJ5_inflate_da8c8, Cond.code yJ5_inflate_da8c8 cJ5_inflate_da8c8 2 none, Cond.fieldLink RJ5 79 "java/lang/AbstractStringBuilder" "count" "I", Cond.methodLink RJ5 83 ⟨"java/lang/AbstractStringBuilder", "isLatin1", "()Z"⟩, Cond.sameMethod "java/lang/AbstractStringBuilder" "java/lang/AbstractStringBuilder" "isLatin1" "()Z"]
def wsJ5_putStringAt_47b60_r2 : List Cond := [Cond.selects RJ4 ⟨"java/lang/AbstractStringBuilder", "isLatin1", "()Z"⟩ yJ5_isLatin1_aae02, Cond.instanceMethod yJ5_isLatin1_aae02, Cond.code yJ5_isLatin1_aae02 cJ5_isLatin1_aae02 1 (some .boolean), Cond.methodLink RJ5 26 yJ2_newBytesFor_77867, Cond.static yJ2_newBytesFor_77867, Cond.initialized RJ2, Cond.code yJ2_newBytesFor_77867 cJ2_newBytesFor_77867 1 (some (.array .byte)), Cond.arrayClass .byte, Cond.methodLink RJ2 11 yJ2_newBytesLength_0f7a4, Cond.static yJ2_newBytesLength_0f7a4, Cond.code yJ2_newBytesLength_0f7a4 cJ2_newBytesLength_0f7a4 1 (some .int), Cond.constant RJ2 20 (1073741823), Cond.methodLink RJ5 125 yJ1_inflate_0e8fd, Cond.static yJ1_inflate_0e8fd, Cond.initialized RJ1, Cond.code yJ1_inflate_0e8fd cJ1_inflate_0e8fd 5 none, Cond.methodLink RJ1 240 yJ2_inflate_0e8fd, Cond.static yJ2_inflate_0e8fd, Cond.code yJ2_inflate_0e8fd cJ2_inflate_0e8fd 6 none, Cond.methodLink RJ2 173 yJ2_checkBoundsOffCount_d044e, Cond.static yJ2_checkBoundsOffCount_d044e, Cond.code yJ2_checkBoundsOffCount_d044e cJ2_checkBoundsOffCount_d044e 3 none, Cond.methodLink RJ2 48 yJ2_length_9d52b, Cond.static yJ2_length_9d52b]
def wsJ5_putStringAt_47b60_r3 : List Cond := [Cond.code yJ2_length_9d52b cJ2_length_9d52b 1 (some .int), Cond.methodLink RJ2 419 yJ0_checkBoundsOffCount_cabcc, Cond.static yJ0_checkBoundsOffCount_cabcc, Cond.code yJ0_checkBoundsOffCount_cabcc cJ0_checkBoundsOffCount_cabcc 3 (some .int), Cond.fieldLink RJ0 1053 "jdk/internal/util/Preconditions" "SIOOBE_FORMATTER" "Ljava/util/function/BiFunction;", Cond.methodLink RJ0 1065 yJ3_checkFromIndexSize_8c36e, Cond.static yJ3_checkFromIndexSize_8c36e, Cond.initialized RJ3, Cond.code yJ3_checkFromIndexSize_8c36e cJ3_checkFromIndexSize_8c36e 4 (some .int), Cond.methodLink RJ2 111 yJ2_putChar_b72d1, Cond.static yJ2_putChar_b72d1, Cond.code yJ2_putChar_b72d1 cJ2_putChar_b72d1 3 none, Cond.fieldLink RJ2 44 "java/lang/StringUTF16" "$assertionsDisabled" "Z", Cond.fieldLink RJ2 59 "java/lang/StringUTF16" "HI_BYTE_SHIFT" "I", Cond.fieldLink RJ2 63 "java/lang/StringUTF16" "LO_BYTE_SHIFT" "I", Cond.methodLink RJ5 399 yJ0_getBytes_840e7, Cond.instanceMethod yJ0_getBytes_840e7, Cond.selects RJ0 yJ0_getBytes_840e7 yJ0_getBytes_840e7, Cond.code yJ0_getBytes_840e7 cJ0_getBytes_840e7 4 none, Cond.fieldLink RJ0 9 "java/lang/String" "value" "[B", Cond.methodLink RJ0 212 arraycopyName, Cond.native arraycopyName, Cond.static arraycopyName, Cond.initialized "java/lang/System"]
def wsJ5_putStringAt_47b60_r4 : List Cond := [Cond.methodLink RJ0 335 yJ0_coder_7d493, Cond.methodLink RJ0 106 yJ1_inflate_0e8fd]
def wsJ5_putStringAt_47b60 : List Cond := .code yJ5_putStringAt_47b60 cJ5_putStringAt_47b60 3 none :: ((wsJ5_putStringAt_47b60_r1 ++ (wsJ5_putStringAt_47b60_r2 ++ (wsJ5_putStringAt_47b60_r3 ++ wsJ5_putStringAt_47b60_r4))) ++ wsJ40 ++ wsJ00)
def wsJ5_append_cf1ce_r1 : List Cond := [Cond.fieldLink RJ5 79 "java/lang/AbstractStringBuilder" "count" "I", Cond.methodLink RJ5 204 ⟨"java/lang/AbstractStringBuilder", "appendNull", "()Ljava/lang/AbstractStringBuilder;"⟩, Cond.sameMethod "java/lang/AbstractStringBuilder" "java/lang/AbstractStringBuilder" "appendNull" "()Ljava/lang/AbstractStringBuilder;", Cond.selects RJ4 ⟨"java/lang/AbstractStringBuilder", "appendNull", "()Ljava/lang/AbstractStringBuilder;"⟩ yJ5_appendNull_278bc, Cond.instanceMethod yJ5_appendNull_278bc, Cond.initialized RJ5, Cond.code yJ5_appendNull_278bc cJ5_appendNull_278bc 3 (some (.object "java/lang/AbstractStringBuilder")), Cond.fieldLink RJ5 15 "java/lang/AbstractStringBuilder" "value" "[B", Cond.methodLink RJ5 100 ⟨"java/lang/AbstractStringBuilder", "ensureCapacityInternal", "(I)V"⟩, Cond.sameMethod "java/lang/AbstractStringBuilder" "java/lang/AbstractStringBuilder" "ensureCapacityInternal" "(I)V", Cond.selects RJ4 ⟨"java/lang/AbstractStringBuilder", "ensureCapacityInternal", "(I)V"⟩ yJ5_ensureCapacityInternal_d00df, Cond.instanceMethod yJ5_ensureCapacityInternal_d00df, Cond.code yJ5_ensureCapacityInternal_d00df cJ5_ensureCapacityInternal_d00df 3 none, Cond.fieldLink RJ5 22 "java/lang/AbstractStringBuilder" "coder" "B", Cond.methodLink RJ5 104 ⟨"java/lang/AbstractStringBuilder", "newCapacity", "(I)I"⟩, Cond.sameMethod "java/lang/AbstractStringBuilder" "java/lang/AbstractStringBuilder" "newCapacity" "(I)I", Cond.selects RJ4 ⟨"java/lang/AbstractStringBuilder", "newCapacity", "(I)I"⟩ yJ5_newCapacity_0f7a4, Cond.instanceMethod yJ5_newCapacity_0f7a4, Cond.code yJ5_newCapacity_0f7a4 cJ5_newCapacity_0f7a4 6 (some .int), Cond.constant RJ5 39 (2147483647), Cond.methodLink RJ5 114 yJ8_newLength_cabcc, Cond.static yJ8_newLength_cabcc, Cond.initialized RJ8, Cond.code yJ8_newLength_cabcc cJ8_newLength_cabcc 4 (some .int)]
def wsJ5_append_cf1ce_r2 : List Cond := [Cond.methodLink RJ8 194 Lib.Math.max.name, Cond.static Lib.Math.max.name, Cond.initialized "java/lang/Math", Cond.code Lib.Math.max.name Lib.Math.max.code 2 (some .int), Cond.constant RJ8 200 (2147483639), Cond.methodLink RJ8 201 yJ8_hugeLength_7cf53, Cond.static yJ8_hugeLength_7cf53, Cond.code yJ8_hugeLength_7cf53 cJ8_hugeLength_7cf53 3 (some .int), Cond.methodLink RJ5 108 yJ7_copyOf_9075b, Cond.static yJ7_copyOf_9075b, Cond.initialized RJ7, Cond.code yJ7_copyOf_9075b cJ7_copyOf_9075b 3 (some (.array .byte)), Cond.methodLink RJ7 310 ⟨"[B", "clone", "()Ljava/lang/Object;"⟩, Cond.sameMethod "[B" "java/lang/Object" "clone" "()Ljava/lang/Object;", Cond.native ⟨"java/lang/Object", "clone", "()Ljava/lang/Object;"⟩, Cond.instanceMethod ⟨"java/lang/Object", "clone", "()Ljava/lang/Object;"⟩, Cond.selects "[B" ⟨"[B", "clone", "()Ljava/lang/Object;"⟩ ⟨"java/lang/Object", "clone", "()Ljava/lang/Object;"⟩, Cond.classLink RJ7 311 "[B", Cond.arrayClass .byte, Cond.methodLink RJ7 304 Lib.Math.min.name, Cond.static Lib.Math.min.name, Cond.code Lib.Math.min.name Lib.Math.min.code 2 (some .int), Cond.methodLink RJ7 150 arraycopyName, Cond.native arraycopyName]
def wsJ5_append_cf1ce_r3 : List Cond := [Cond.static arraycopyName, Cond.initialized "java/lang/System", Cond.methodLink RJ5 83 ⟨"java/lang/AbstractStringBuilder", "isLatin1", "()Z"⟩, Cond.sameMethod "java/lang/AbstractStringBuilder" "java/lang/AbstractStringBuilder" "isLatin1" "()Z", Cond.selects RJ4 ⟨"java/lang/AbstractStringBuilder", "isLatin1", "()Z"⟩ yJ5_isLatin1_aae02, Cond.instanceMethod yJ5_isLatin1_aae02, Cond.code yJ5_isLatin1_aae02 cJ5_isLatin1_aae02 1 (some .boolean), Cond.fieldLink RJ5 18 "java/lang/String" "COMPACT_STRINGS" "Z", Cond.methodLink RJ5 226 yJ2_putCharsAt_cd4e5, Cond.static yJ2_putCharsAt_cd4e5, Cond.initialized RJ2, Cond.code yJ2_putCharsAt_cd4e5 cJ2_putCharsAt_cd4e5 7 (some .int), Cond.fieldLink RJ2 44 "java/lang/StringUTF16" "$assertionsDisabled" "Z", Cond.methodLink RJ2 96 yJ2_checkBoundsBeginEnd_d044e, Cond.static yJ2_checkBoundsBeginEnd_d044e, Cond.code yJ2_checkBoundsBeginEnd_d044e cJ2_checkBoundsBeginEnd_d044e 3 none, Cond.methodLink RJ2 48 yJ2_length_9d52b, Cond.static yJ2_length_9d52b, Cond.code yJ2_length_9d52b cJ2_length_9d52b 1 (some .int), Cond.methodLink RJ2 241 yJ0_checkBoundsBeginEnd_23922, Cond.static yJ0_checkBoundsBeginEnd_23922, Cond.initialized RJ0, Cond.code yJ0_checkBoundsBeginEnd_23922 cJ0_checkBoundsBeginEnd_23922 3 none, Cond.fieldLink RJ0 1053 "jdk/internal/util/Preconditions" "SIOOBE_FORMATTER" "Ljava/util/function/BiFunction;"]
def wsJ5_append_cf1ce_r4 : List Cond := [Cond.methodLink RJ0 1062 yJ3_checkFromToIndex_8c36e, Cond.static yJ3_checkFromToIndex_8c36e, Cond.initialized RJ3, Cond.code yJ3_checkFromToIndex_8c36e cJ3_checkFromToIndex_8c36e 4 (some .int), Cond.methodLink RJ2 111 yJ2_putChar_b72d1, Cond.static yJ2_putChar_b72d1, Cond.code yJ2_putChar_b72d1 cJ2_putChar_b72d1 3 none, Cond.fieldLink RJ2 59 "java/lang/StringUTF16" "HI_BYTE_SHIFT" "I", Cond.fieldLink RJ2 63 "java/lang/StringUTF16" "LO_BYTE_SHIFT" "I", Cond.methodLink RJ5 32 yJ0_length_8abf5, Cond.instanceMethod yJ0_length_8abf5, Cond.selects RJ0 yJ0_length_8abf5 yJ0_length_8abf5, Cond.code yJ0_length_8abf5 cJ0_length_8abf5 1 (some .int), Cond.fieldLink RJ0 9 "java/lang/String" "value" "[B", Cond.methodLink RJ0 335 yJ0_coder_7d493, Cond.instanceMethod yJ0_coder_7d493, Cond.selects RJ0 yJ0_coder_7d493 yJ0_coder_7d493, Cond.code yJ0_coder_7d493 cJ0_coder_7d493 1 (some .byte), Cond.fieldLink RJ0 38 "java/lang/String" "COMPACT_STRINGS" "Z", Cond.fieldLink RJ0 15 "java/lang/String" "coder" "B", Cond.methodLink RJ5 208 ⟨"java/lang/AbstractStringBuilder", "putStringAt", "(ILjava/lang/String;)V"⟩, Cond.sameMethod "java/lang/AbstractStringBuilder" "java/lang/AbstractStringBuilder" "putStringAt" "(ILjava/lang/String;)V", Cond.selects RJ4 ⟨"java/lang/AbstractStringBuilder", "putStringAt", "(ILjava/lang/String;)V"⟩ yJ5_putStringAt_47b60, Cond.instanceMethod yJ5_putStringAt_47b60]
def wsJ5_append_cf1ce_r5 : List Cond := [Cond.code yJ5_putStringAt_47b60 cJ5_putStringAt_47b60 3 none, Cond.methodLink RJ5 397 ⟨"java/lang/AbstractStringBuilder", "inflateIfNeededFor", "(Ljava/lang/String;)V"⟩, Cond.sameMethod "java/lang/AbstractStringBuilder" "java/lang/AbstractStringBuilder" "inflateIfNeededFor" "(Ljava/lang/String;)V", Cond.selects RJ4 ⟨"java/lang/AbstractStringBuilder", "inflateIfNeededFor", "(Ljava/lang/String;)V"⟩ yJ5_inflateIfNeededFor_a7421, Cond.instanceMethod yJ5_inflateIfNeededFor_a7421, Cond.code yJ5_inflateIfNeededFor_a7421 cJ5_inflateIfNeededFor_a7421 2 none, Cond.methodLink RJ5 40 yJ0_coder_7d493, Cond.methodLink RJ5 195 ⟨"java/lang/AbstractStringBuilder", "inflate", "()V"⟩, Cond.sameMethod "java/lang/AbstractStringBuilder" "java/lang/AbstractStringBuilder" "inflate" "()V", Cond.selects RJ4 ⟨"java/lang/AbstractStringBuilder", "inflate", "()V"⟩ yJ5_inflate_da8c8, Cond.instanceMethod yJ5_inflate_da8c8, Cond.code yJ5_inflate_da8c8 cJ5_inflate_da8c8 2 none, Cond.methodLink RJ5 26 yJ2_newBytesFor_77867, Cond.static yJ2_newBytesFor_77867, Cond.code yJ2_newBytesFor_77867 cJ2_newBytesFor_77867 1 (some (.array .byte)), Cond.methodLink RJ2 11 yJ2_newBytesLength_0f7a4, Cond.static yJ2_newBytesLength_0f7a4, Cond.code yJ2_newBytesLength_0f7a4 cJ2_newBytesLength_0f7a4 1 (some .int), Cond.constant RJ2 20 (1073741823), Cond.methodLink RJ5 125 yJ1_inflate_0e8fd, Cond.static yJ1_inflate_0e8fd, Cond.initialized RJ1, Cond.code yJ1_inflate_0e8fd cJ1_inflate_0e8fd 5 none, Cond.methodLink RJ1 240 yJ2_inflate_0e8fd]
def wsJ5_append_cf1ce_r6 : List Cond := [Cond.static yJ2_inflate_0e8fd, Cond.code yJ2_inflate_0e8fd cJ2_inflate_0e8fd 6 none, Cond.methodLink RJ2 173 yJ2_checkBoundsOffCount_d044e, Cond.static yJ2_checkBoundsOffCount_d044e, Cond.code yJ2_checkBoundsOffCount_d044e cJ2_checkBoundsOffCount_d044e 3 none, Cond.methodLink RJ2 419 yJ0_checkBoundsOffCount_cabcc, Cond.static yJ0_checkBoundsOffCount_cabcc, Cond.code yJ0_checkBoundsOffCount_cabcc cJ0_checkBoundsOffCount_cabcc 3 (some .int), Cond.methodLink RJ0 1065 yJ3_checkFromIndexSize_8c36e, Cond.static yJ3_checkFromIndexSize_8c36e, Cond.code yJ3_checkFromIndexSize_8c36e cJ3_checkFromIndexSize_8c36e 4 (some .int), Cond.methodLink RJ5 399 yJ0_getBytes_840e7, Cond.instanceMethod yJ0_getBytes_840e7, Cond.selects RJ0 yJ0_getBytes_840e7 yJ0_getBytes_840e7, Cond.code yJ0_getBytes_840e7 cJ0_getBytes_840e7 4 none, Cond.methodLink RJ0 212 arraycopyName, Cond.methodLink RJ0 106 yJ1_inflate_0e8fd]
def wsJ5_append_cf1ce : List Cond := .code yJ5_append_cf1ce cJ5_append_cf1ce 3 (some (.object "java/lang/AbstractStringBuilder")) :: ((wsJ5_append_cf1ce_r1 ++ (wsJ5_append_cf1ce_r2 ++ (wsJ5_append_cf1ce_r3 ++ (wsJ5_append_cf1ce_r4 ++ (wsJ5_append_cf1ce_r5 ++ wsJ5_append_cf1ce_r6))))) ++ wsJ40 ++ wsJ00)
def wsJ4_append_15ec4_r1 : List Cond := [Cond.methodLink RJ4 29 yJ5_append_cf1ce, Cond.sameMethod "java/lang/AbstractStringBuilder" "java/lang/AbstractStringBuilder" "append" "(Ljava/lang/String;)Ljava/lang/AbstractStringBuilder;", Cond.superclass RJ4 RJ5, Cond.instanceMethod yJ5_append_cf1ce, Cond.initialized RJ5, Cond.code yJ5_append_cf1ce cJ5_append_cf1ce 3 (some (.object "java/lang/AbstractStringBuilder")), Cond.fieldLink RJ5 79 "java/lang/AbstractStringBuilder" "count" "I", Cond.methodLink RJ5 204 ⟨"java/lang/AbstractStringBuilder", "appendNull", "()Ljava/lang/AbstractStringBuilder;"⟩, Cond.sameMethod "java/lang/AbstractStringBuilder" "java/lang/AbstractStringBuilder" "appendNull" "()Ljava/lang/AbstractStringBuilder;", Cond.selects RJ4 ⟨"java/lang/AbstractStringBuilder", "appendNull", "()Ljava/lang/AbstractStringBuilder;"⟩ yJ5_appendNull_278bc, Cond.instanceMethod yJ5_appendNull_278bc, Cond.code yJ5_appendNull_278bc cJ5_appendNull_278bc 3 (some (.object "java/lang/AbstractStringBuilder")), Cond.fieldLink RJ5 15 "java/lang/AbstractStringBuilder" "value" "[B", Cond.methodLink RJ5 100 ⟨"java/lang/AbstractStringBuilder", "ensureCapacityInternal", "(I)V"⟩, Cond.sameMethod "java/lang/AbstractStringBuilder" "java/lang/AbstractStringBuilder" "ensureCapacityInternal" "(I)V", Cond.selects RJ4 ⟨"java/lang/AbstractStringBuilder", "ensureCapacityInternal", "(I)V"⟩ yJ5_ensureCapacityInternal_d00df, Cond.instanceMethod yJ5_ensureCapacityInternal_d00df, Cond.code yJ5_ensureCapacityInternal_d00df cJ5_ensureCapacityInternal_d00df 3 none, Cond.fieldLink RJ5 22 "java/lang/AbstractStringBuilder" "coder" "B", Cond.methodLink RJ5 104 ⟨"java/lang/AbstractStringBuilder", "newCapacity", "(I)I"⟩, Cond.sameMethod "java/lang/AbstractStringBuilder" "java/lang/AbstractStringBuilder" "newCapacity" "(I)I", Cond.selects RJ4 ⟨"java/lang/AbstractStringBuilder", "newCapacity", "(I)I"⟩ yJ5_newCapacity_0f7a4, Cond.instanceMethod yJ5_newCapacity_0f7a4, Cond.code yJ5_newCapacity_0f7a4 cJ5_newCapacity_0f7a4 6 (some .int)]
def wsJ4_append_15ec4_r2 : List Cond := [Cond.constant RJ5 39 (2147483647), Cond.methodLink RJ5 114 yJ8_newLength_cabcc, Cond.static yJ8_newLength_cabcc, Cond.initialized RJ8, Cond.code yJ8_newLength_cabcc cJ8_newLength_cabcc 4 (some .int), Cond.methodLink RJ8 194 Lib.Math.max.name, Cond.static Lib.Math.max.name, Cond.initialized "java/lang/Math", Cond.code Lib.Math.max.name Lib.Math.max.code 2 (some .int), Cond.constant RJ8 200 (2147483639), Cond.methodLink RJ8 201 yJ8_hugeLength_7cf53, Cond.static yJ8_hugeLength_7cf53, Cond.code yJ8_hugeLength_7cf53 cJ8_hugeLength_7cf53 3 (some .int), Cond.methodLink RJ5 108 yJ7_copyOf_9075b, Cond.static yJ7_copyOf_9075b, Cond.initialized RJ7, Cond.code yJ7_copyOf_9075b cJ7_copyOf_9075b 3 (some (.array .byte)), Cond.methodLink RJ7 310 ⟨"[B", "clone", "()Ljava/lang/Object;"⟩, Cond.sameMethod "[B" "java/lang/Object" "clone" "()Ljava/lang/Object;", Cond.native ⟨"java/lang/Object", "clone", "()Ljava/lang/Object;"⟩, Cond.instanceMethod ⟨"java/lang/Object", "clone", "()Ljava/lang/Object;"⟩, Cond.selects "[B" ⟨"[B", "clone", "()Ljava/lang/Object;"⟩ ⟨"java/lang/Object", "clone", "()Ljava/lang/Object;"⟩, Cond.classLink RJ7 311 "[B", Cond.arrayClass .byte]
def wsJ4_append_15ec4_r3 : List Cond := [Cond.methodLink RJ7 304 Lib.Math.min.name, Cond.static Lib.Math.min.name, Cond.code Lib.Math.min.name Lib.Math.min.code 2 (some .int), Cond.methodLink RJ7 150 arraycopyName, Cond.native arraycopyName, Cond.static arraycopyName, Cond.initialized "java/lang/System", Cond.methodLink RJ5 83 ⟨"java/lang/AbstractStringBuilder", "isLatin1", "()Z"⟩, Cond.sameMethod "java/lang/AbstractStringBuilder" "java/lang/AbstractStringBuilder" "isLatin1" "()Z", Cond.selects RJ4 ⟨"java/lang/AbstractStringBuilder", "isLatin1", "()Z"⟩ yJ5_isLatin1_aae02, Cond.instanceMethod yJ5_isLatin1_aae02, Cond.code yJ5_isLatin1_aae02 cJ5_isLatin1_aae02 1 (some .boolean), Cond.fieldLink RJ5 18 "java/lang/String" "COMPACT_STRINGS" "Z", Cond.methodLink RJ5 226 yJ2_putCharsAt_cd4e5, Cond.static yJ2_putCharsAt_cd4e5, Cond.initialized RJ2, Cond.code yJ2_putCharsAt_cd4e5 cJ2_putCharsAt_cd4e5 7 (some .int), Cond.fieldLink RJ2 44 "java/lang/StringUTF16" "$assertionsDisabled" "Z", Cond.methodLink RJ2 96 yJ2_checkBoundsBeginEnd_d044e, Cond.static yJ2_checkBoundsBeginEnd_d044e, Cond.code yJ2_checkBoundsBeginEnd_d044e cJ2_checkBoundsBeginEnd_d044e 3 none, Cond.methodLink RJ2 48 yJ2_length_9d52b, Cond.static yJ2_length_9d52b, Cond.code yJ2_length_9d52b cJ2_length_9d52b 1 (some .int)]
def wsJ4_append_15ec4_r4 : List Cond := [Cond.methodLink RJ2 241 yJ0_checkBoundsBeginEnd_23922, Cond.static yJ0_checkBoundsBeginEnd_23922, Cond.initialized RJ0, Cond.code yJ0_checkBoundsBeginEnd_23922 cJ0_checkBoundsBeginEnd_23922 3 none, Cond.fieldLink RJ0 1053 "jdk/internal/util/Preconditions" "SIOOBE_FORMATTER" "Ljava/util/function/BiFunction;", Cond.methodLink RJ0 1062 yJ3_checkFromToIndex_8c36e, Cond.static yJ3_checkFromToIndex_8c36e, Cond.initialized RJ3, Cond.code yJ3_checkFromToIndex_8c36e cJ3_checkFromToIndex_8c36e 4 (some .int), Cond.methodLink RJ2 111 yJ2_putChar_b72d1, Cond.static yJ2_putChar_b72d1, Cond.code yJ2_putChar_b72d1 cJ2_putChar_b72d1 3 none, Cond.fieldLink RJ2 59 "java/lang/StringUTF16" "HI_BYTE_SHIFT" "I", Cond.fieldLink RJ2 63 "java/lang/StringUTF16" "LO_BYTE_SHIFT" "I", Cond.methodLink RJ5 32 yJ0_length_8abf5, Cond.instanceMethod yJ0_length_8abf5, Cond.selects RJ0 yJ0_length_8abf5 yJ0_length_8abf5, Cond.code yJ0_length_8abf5 cJ0_length_8abf5 1 (some .int), Cond.fieldLink RJ0 9 "java/lang/String" "value" "[B", Cond.methodLink RJ0 335 yJ0_coder_7d493, Cond.instanceMethod yJ0_coder_7d493, Cond.selects RJ0 yJ0_coder_7d493 yJ0_coder_7d493, Cond.code yJ0_coder_7d493 cJ0_coder_7d493 1 (some .byte), Cond.fieldLink RJ0 38 "java/lang/String" "COMPACT_STRINGS" "Z"]
def wsJ4_append_15ec4_r5 : List Cond := [Cond.fieldLink RJ0 15 "java/lang/String" "coder" "B", Cond.methodLink RJ5 208 ⟨"java/lang/AbstractStringBuilder", "putStringAt", "(ILjava/lang/String;)V"⟩, Cond.sameMethod "java/lang/AbstractStringBuilder" "java/lang/AbstractStringBuilder" "putStringAt" "(ILjava/lang/String;)V", Cond.selects RJ4 ⟨"java/lang/AbstractStringBuilder", "putStringAt", "(ILjava/lang/String;)V"⟩ yJ5_putStringAt_47b60, Cond.instanceMethod yJ5_putStringAt_47b60, Cond.code yJ5_putStringAt_47b60 cJ5_putStringAt_47b60 3 none, Cond.methodLink RJ5 397 ⟨"java/lang/AbstractStringBuilder", "inflateIfNeededFor", "(Ljava/lang/String;)V"⟩, Cond.sameMethod "java/lang/AbstractStringBuilder" "java/lang/AbstractStringBuilder" "inflateIfNeededFor" "(Ljava/lang/String;)V", Cond.selects RJ4 ⟨"java/lang/AbstractStringBuilder", "inflateIfNeededFor", "(Ljava/lang/String;)V"⟩ yJ5_inflateIfNeededFor_a7421, Cond.instanceMethod yJ5_inflateIfNeededFor_a7421, Cond.code yJ5_inflateIfNeededFor_a7421 cJ5_inflateIfNeededFor_a7421 2 none, Cond.methodLink RJ5 40 yJ0_coder_7d493, Cond.methodLink RJ5 195 ⟨"java/lang/AbstractStringBuilder", "inflate", "()V"⟩, Cond.sameMethod "java/lang/AbstractStringBuilder" "java/lang/AbstractStringBuilder" "inflate" "()V", Cond.selects RJ4 ⟨"java/lang/AbstractStringBuilder", "inflate", "()V"⟩ yJ5_inflate_da8c8, Cond.instanceMethod yJ5_inflate_da8c8, Cond.code yJ5_inflate_da8c8 cJ5_inflate_da8c8 2 none, Cond.methodLink RJ5 26 yJ2_newBytesFor_77867, Cond.static yJ2_newBytesFor_77867, Cond.code yJ2_newBytesFor_77867 cJ2_newBytesFor_77867 1 (some (.array .byte)), Cond.methodLink RJ2 11 yJ2_newBytesLength_0f7a4, Cond.static yJ2_newBytesLength_0f7a4, Cond.code yJ2_newBytesLength_0f7a4 cJ2_newBytesLength_0f7a4 1 (some .int), Cond.constant RJ2 20 (1073741823)]
def wsJ4_append_15ec4_r6 : List Cond := [Cond.methodLink RJ5 125 yJ1_inflate_0e8fd, Cond.static yJ1_inflate_0e8fd, Cond.initialized RJ1, Cond.code yJ1_inflate_0e8fd cJ1_inflate_0e8fd 5 none, Cond.methodLink RJ1 240 yJ2_inflate_0e8fd, Cond.static yJ2_inflate_0e8fd, Cond.code yJ2_inflate_0e8fd cJ2_inflate_0e8fd 6 none, Cond.methodLink RJ2 173 yJ2_checkBoundsOffCount_d044e, Cond.static yJ2_checkBoundsOffCount_d044e, Cond.code yJ2_checkBoundsOffCount_d044e cJ2_checkBoundsOffCount_d044e 3 none, Cond.methodLink RJ2 419 yJ0_checkBoundsOffCount_cabcc, Cond.static yJ0_checkBoundsOffCount_cabcc, Cond.code yJ0_checkBoundsOffCount_cabcc cJ0_checkBoundsOffCount_cabcc 3 (some .int), Cond.methodLink RJ0 1065 yJ3_checkFromIndexSize_8c36e, Cond.static yJ3_checkFromIndexSize_8c36e, Cond.code yJ3_checkFromIndexSize_8c36e cJ3_checkFromIndexSize_8c36e 4 (some .int), Cond.methodLink RJ5 399 yJ0_getBytes_840e7, Cond.instanceMethod yJ0_getBytes_840e7, Cond.selects RJ0 yJ0_getBytes_840e7 yJ0_getBytes_840e7, Cond.code yJ0_getBytes_840e7 cJ0_getBytes_840e7 4 none, Cond.methodLink RJ0 212 arraycopyName, Cond.methodLink RJ0 106 yJ1_inflate_0e8fd]
def wsJ4_append_15ec4 : List Cond := .code yJ4_append_15ec4 cJ4_append_15ec4 2 (some (.object "java/lang/StringBuilder")) :: ((wsJ4_append_15ec4_r1 ++ (wsJ4_append_15ec4_r2 ++ (wsJ4_append_15ec4_r3 ++ (wsJ4_append_15ec4_r4 ++ (wsJ4_append_15ec4_r5 ++ wsJ4_append_15ec4_r6))))) ++ wsJ40 ++ wsJ00)
def wsJ0_isEmpty_aae02 : List Cond := .code yJ0_isEmpty_aae02 cJ0_isEmpty_aae02 1 (some .boolean) :: ([.fieldLink RJ0 9 "java/lang/String" "value" "[B"] ++ wsJ00)
def wsJ6_stringSize_0f7a4 : List Cond := .code yJ6_stringSize_0f7a4 cJ6_stringSize_0f7a4 4 (some .int) :: ([])
def wsJ6_getChars_ba4f3 : List Cond := .code yJ6_getChars_ba4f3 cJ6_getChars_ba4f3 7 (some .int) :: ([.fieldLink RJ6 83 "java/lang/Integer" "DigitOnes" "[B", .fieldLink RJ6 87 "java/lang/Integer" "DigitTens" "[B"])
def wsJ5_append_c97b9_r1 : List Cond := [Cond.fieldLink RJ5 79 "java/lang/AbstractStringBuilder" "count" "I", Cond.fieldLink RJ5 15 "java/lang/AbstractStringBuilder" "value" "[B", Cond.methodLink RJ5 245 yJ6_stringSize_0f7a4, Cond.static yJ6_stringSize_0f7a4, Cond.initialized RJ6, Cond.code yJ6_stringSize_0f7a4 cJ6_stringSize_0f7a4 4 (some .int), Cond.methodLink RJ5 100 ⟨"java/lang/AbstractStringBuilder", "ensureCapacityInternal", "(I)V"⟩, Cond.sameMethod "java/lang/AbstractStringBuilder" "java/lang/AbstractStringBuilder" "ensureCapacityInternal" "(I)V", Cond.selects RJ4 ⟨"java/lang/AbstractStringBuilder", "ensureCapacityInternal", "(I)V"⟩ yJ5_ensureCapacityInternal_d00df, Cond.instanceMethod yJ5_ensureCapacityInternal_d00df, Cond.initialized RJ5, Cond.code yJ5_ensureCapacityInternal_d00df cJ5_ensureCapacityInternal_d00df 3 none, Cond.fieldLink RJ5 22 "java/lang/AbstractStringBuilder" "coder" "B", Cond.methodLink RJ5 104 ⟨"java/lang/AbstractStringBuilder", "newCapacity", "(I)I"⟩, Cond.sameMethod "java/lang/AbstractStringBuilder" "java/lang/AbstractStringBuilder" "newCapacity" "(I)I", Cond.selects RJ4 ⟨"java/lang/AbstractStringBuilder", "newCapacity", "(I)I"⟩ yJ5_newCapacity_0f7a4, Cond.instanceMethod yJ5_newCapacity_0f7a4, Cond.code yJ5_newCapacity_0f7a4 cJ5_newCapacity_0f7a4 6 (some .int), Cond.constant RJ5 39 (2147483647), Cond.methodLink RJ5 114 yJ8_newLength_cabcc, Cond.static yJ8_newLength_cabcc, Cond.initialized RJ8, Cond.code yJ8_newLength_cabcc cJ8_newLength_cabcc 4 (some .int), Cond.methodLink RJ8 194 Lib.Math.max.name]
def wsJ5_append_c97b9_r2 : List Cond := [Cond.static Lib.Math.max.name, Cond.initialized "java/lang/Math", Cond.code Lib.Math.max.name Lib.Math.max.code 2 (some .int), Cond.constant RJ8 200 (2147483639), Cond.methodLink RJ8 201 yJ8_hugeLength_7cf53, Cond.static yJ8_hugeLength_7cf53, Cond.code yJ8_hugeLength_7cf53 cJ8_hugeLength_7cf53 3 (some .int), Cond.methodLink RJ5 108 yJ7_copyOf_9075b, Cond.static yJ7_copyOf_9075b, Cond.initialized RJ7, Cond.code yJ7_copyOf_9075b cJ7_copyOf_9075b 3 (some (.array .byte)), Cond.methodLink RJ7 310 ⟨"[B", "clone", "()Ljava/lang/Object;"⟩, Cond.sameMethod "[B" "java/lang/Object" "clone" "()Ljava/lang/Object;", Cond.native ⟨"java/lang/Object", "clone", "()Ljava/lang/Object;"⟩, Cond.instanceMethod ⟨"java/lang/Object", "clone", "()Ljava/lang/Object;"⟩, Cond.selects "[B" ⟨"[B", "clone", "()Ljava/lang/Object;"⟩ ⟨"java/lang/Object", "clone", "()Ljava/lang/Object;"⟩, Cond.classLink RJ7 311 "[B", Cond.arrayClass .byte, Cond.methodLink RJ7 304 Lib.Math.min.name, Cond.static Lib.Math.min.name, Cond.code Lib.Math.min.name Lib.Math.min.code 2 (some .int), Cond.methodLink RJ7 150 arraycopyName, Cond.native arraycopyName, Cond.static arraycopyName]
def wsJ5_append_c97b9_r3 : List Cond := [Cond.initialized "java/lang/System", Cond.methodLink RJ5 83 ⟨"java/lang/AbstractStringBuilder", "isLatin1", "()Z"⟩, Cond.sameMethod "java/lang/AbstractStringBuilder" "java/lang/AbstractStringBuilder" "isLatin1" "()Z", Cond.selects RJ4 ⟨"java/lang/AbstractStringBuilder", "isLatin1", "()Z"⟩ yJ5_isLatin1_aae02, Cond.instanceMethod yJ5_isLatin1_aae02, Cond.code yJ5_isLatin1_aae02 cJ5_isLatin1_aae02 1 (some .boolean), Cond.fieldLink RJ5 18 "java/lang/String" "COMPACT_STRINGS" "Z", Cond.methodLink RJ5 248 yJ6_getChars_ba4f3, Cond.static yJ6_getChars_ba4f3, Cond.code yJ6_getChars_ba4f3 cJ6_getChars_ba4f3 7 (some .int), Cond.fieldLink RJ6 83 "java/lang/Integer" "DigitOnes" "[B", Cond.fieldLink RJ6 87 "java/lang/Integer" "DigitTens" "[B", Cond.methodLink RJ5 251 yJ2_getChars_46870, Cond.static yJ2_getChars_46870, Cond.initialized RJ2, Cond.code yJ2_getChars_46870 cJ2_getChars_46870 5 (some .int), Cond.fieldLink RJ2 44 "java/lang/StringUTF16" "$assertionsDisabled" "Z", Cond.methodLink RJ2 96 yJ2_checkBoundsBeginEnd_d044e, Cond.static yJ2_checkBoundsBeginEnd_d044e, Cond.code yJ2_checkBoundsBeginEnd_d044e cJ2_checkBoundsBeginEnd_d044e 3 none, Cond.methodLink RJ2 48 yJ2_length_9d52b, Cond.static yJ2_length_9d52b, Cond.code yJ2_length_9d52b cJ2_length_9d52b 1 (some .int), Cond.methodLink RJ2 241 yJ0_checkBoundsBeginEnd_23922]
def wsJ5_append_c97b9_r4 : List Cond := [Cond.static yJ0_checkBoundsBeginEnd_23922, Cond.initialized RJ0, Cond.code yJ0_checkBoundsBeginEnd_23922 cJ0_checkBoundsBeginEnd_23922 3 none, Cond.fieldLink RJ0 1053 "jdk/internal/util/Preconditions" "SIOOBE_FORMATTER" "Ljava/util/function/BiFunction;", Cond.methodLink RJ0 1062 yJ3_checkFromToIndex_8c36e, Cond.static yJ3_checkFromToIndex_8c36e, Cond.initialized RJ3, Cond.code yJ3_checkFromToIndex_8c36e cJ3_checkFromToIndex_8c36e 4 (some .int), Cond.methodLink RJ2 393 yJ2_getChars_ba4f3, Cond.static yJ2_getChars_ba4f3, Cond.code yJ2_getChars_ba4f3 cJ2_getChars_ba4f3 7 (some .int), Cond.fieldLink RJ2 403 "java/lang/Integer" "DigitOnes" "[B", Cond.fieldLink RJ2 407 "java/lang/Integer" "DigitTens" "[B", Cond.methodLink RJ2 111 yJ2_putChar_b72d1, Cond.static yJ2_putChar_b72d1, Cond.code yJ2_putChar_b72d1 cJ2_putChar_b72d1 3 none, Cond.fieldLink RJ2 59 "java/lang/StringUTF16" "HI_BYTE_SHIFT" "I", Cond.fieldLink RJ2 63 "java/lang/StringUTF16" "LO_BYTE_SHIFT" "I"]
def wsJ5_append_c97b9 : List Cond := .code yJ5_append_c97b9 cJ5_append_c97b9 4 (some (.object "java/lang/AbstractStringBuilder")) :: ((wsJ5_append_c97b9_r1 ++ (wsJ5_append_c97b9_r2 ++ (wsJ5_append_c97b9_r3 ++ wsJ5_append_c97b9_r4))) ++ wsJ40)
def wsJ4_append_bf812_r1 : List Cond := [Cond.methodLink RJ4 53 yJ5_append_c97b9, Cond.sameMethod "java/lang/AbstractStringBuilder" "java/lang/AbstractStringBuilder" "append" "(I)Ljava/lang/AbstractStringBuilder;", Cond.superclass RJ4 RJ5, Cond.instanceMethod yJ5_append_c97b9, Cond.initialized RJ5, Cond.code yJ5_append_c97b9 cJ5_append_c97b9 4 (some (.object "java/lang/AbstractStringBuilder")), Cond.fieldLink RJ5 79 "java/lang/AbstractStringBuilder" "count" "I", Cond.fieldLink RJ5 15 "java/lang/AbstractStringBuilder" "value" "[B", Cond.methodLink RJ5 245 yJ6_stringSize_0f7a4, Cond.static yJ6_stringSize_0f7a4, Cond.initialized RJ6, Cond.code yJ6_stringSize_0f7a4 cJ6_stringSize_0f7a4 4 (some .int), Cond.methodLink RJ5 100 ⟨"java/lang/AbstractStringBuilder", "ensureCapacityInternal", "(I)V"⟩, Cond.sameMethod "java/lang/AbstractStringBuilder" "java/lang/AbstractStringBuilder" "ensureCapacityInternal" "(I)V", Cond.selects RJ4 ⟨"java/lang/AbstractStringBuilder", "ensureCapacityInternal", "(I)V"⟩ yJ5_ensureCapacityInternal_d00df, Cond.instanceMethod yJ5_ensureCapacityInternal_d00df, Cond.code yJ5_ensureCapacityInternal_d00df cJ5_ensureCapacityInternal_d00df 3 none, Cond.fieldLink RJ5 22 "java/lang/AbstractStringBuilder" "coder" "B", Cond.methodLink RJ5 104 ⟨"java/lang/AbstractStringBuilder", "newCapacity", "(I)I"⟩, Cond.sameMethod "java/lang/AbstractStringBuilder" "java/lang/AbstractStringBuilder" "newCapacity" "(I)I", Cond.selects RJ4 ⟨"java/lang/AbstractStringBuilder", "newCapacity", "(I)I"⟩ yJ5_newCapacity_0f7a4, Cond.instanceMethod yJ5_newCapacity_0f7a4, Cond.code yJ5_newCapacity_0f7a4 cJ5_newCapacity_0f7a4 6 (some .int), Cond.constant RJ5 39 (2147483647)]
def wsJ4_append_bf812_r2 : List Cond := [Cond.methodLink RJ5 114 yJ8_newLength_cabcc, Cond.static yJ8_newLength_cabcc, Cond.initialized RJ8, Cond.code yJ8_newLength_cabcc cJ8_newLength_cabcc 4 (some .int), Cond.methodLink RJ8 194 Lib.Math.max.name, Cond.static Lib.Math.max.name, Cond.initialized "java/lang/Math", Cond.code Lib.Math.max.name Lib.Math.max.code 2 (some .int), Cond.constant RJ8 200 (2147483639), Cond.methodLink RJ8 201 yJ8_hugeLength_7cf53, Cond.static yJ8_hugeLength_7cf53, Cond.code yJ8_hugeLength_7cf53 cJ8_hugeLength_7cf53 3 (some .int), Cond.methodLink RJ5 108 yJ7_copyOf_9075b, Cond.static yJ7_copyOf_9075b, Cond.initialized RJ7, Cond.code yJ7_copyOf_9075b cJ7_copyOf_9075b 3 (some (.array .byte)), Cond.methodLink RJ7 310 ⟨"[B", "clone", "()Ljava/lang/Object;"⟩, Cond.sameMethod "[B" "java/lang/Object" "clone" "()Ljava/lang/Object;", Cond.native ⟨"java/lang/Object", "clone", "()Ljava/lang/Object;"⟩, Cond.instanceMethod ⟨"java/lang/Object", "clone", "()Ljava/lang/Object;"⟩, Cond.selects "[B" ⟨"[B", "clone", "()Ljava/lang/Object;"⟩ ⟨"java/lang/Object", "clone", "()Ljava/lang/Object;"⟩, Cond.classLink RJ7 311 "[B", Cond.arrayClass .byte, Cond.methodLink RJ7 304 Lib.Math.min.name]
def wsJ4_append_bf812_r3 : List Cond := [Cond.static Lib.Math.min.name, Cond.code Lib.Math.min.name Lib.Math.min.code 2 (some .int), Cond.methodLink RJ7 150 arraycopyName, Cond.native arraycopyName, Cond.static arraycopyName, Cond.initialized "java/lang/System", Cond.methodLink RJ5 83 ⟨"java/lang/AbstractStringBuilder", "isLatin1", "()Z"⟩, Cond.sameMethod "java/lang/AbstractStringBuilder" "java/lang/AbstractStringBuilder" "isLatin1" "()Z", Cond.selects RJ4 ⟨"java/lang/AbstractStringBuilder", "isLatin1", "()Z"⟩ yJ5_isLatin1_aae02, Cond.instanceMethod yJ5_isLatin1_aae02, Cond.code yJ5_isLatin1_aae02 cJ5_isLatin1_aae02 1 (some .boolean), Cond.fieldLink RJ5 18 "java/lang/String" "COMPACT_STRINGS" "Z", Cond.methodLink RJ5 248 yJ6_getChars_ba4f3, Cond.static yJ6_getChars_ba4f3, Cond.code yJ6_getChars_ba4f3 cJ6_getChars_ba4f3 7 (some .int), Cond.fieldLink RJ6 83 "java/lang/Integer" "DigitOnes" "[B", Cond.fieldLink RJ6 87 "java/lang/Integer" "DigitTens" "[B", Cond.methodLink RJ5 251 yJ2_getChars_46870, Cond.static yJ2_getChars_46870, Cond.initialized RJ2, Cond.code yJ2_getChars_46870 cJ2_getChars_46870 5 (some .int), Cond.fieldLink RJ2 44 "java/lang/StringUTF16" "$assertionsDisabled" "Z", Cond.methodLink RJ2 96 yJ2_checkBoundsBeginEnd_d044e, Cond.static yJ2_checkBoundsBeginEnd_d044e]
def wsJ4_append_bf812_r4 : List Cond := [Cond.code yJ2_checkBoundsBeginEnd_d044e cJ2_checkBoundsBeginEnd_d044e 3 none, Cond.methodLink RJ2 48 yJ2_length_9d52b, Cond.static yJ2_length_9d52b, Cond.code yJ2_length_9d52b cJ2_length_9d52b 1 (some .int), Cond.methodLink RJ2 241 yJ0_checkBoundsBeginEnd_23922, Cond.static yJ0_checkBoundsBeginEnd_23922, Cond.initialized RJ0, Cond.code yJ0_checkBoundsBeginEnd_23922 cJ0_checkBoundsBeginEnd_23922 3 none, Cond.fieldLink RJ0 1053 "jdk/internal/util/Preconditions" "SIOOBE_FORMATTER" "Ljava/util/function/BiFunction;", Cond.methodLink RJ0 1062 yJ3_checkFromToIndex_8c36e, Cond.static yJ3_checkFromToIndex_8c36e, Cond.initialized RJ3, Cond.code yJ3_checkFromToIndex_8c36e cJ3_checkFromToIndex_8c36e 4 (some .int), Cond.methodLink RJ2 393 yJ2_getChars_ba4f3, Cond.static yJ2_getChars_ba4f3, Cond.code yJ2_getChars_ba4f3 cJ2_getChars_ba4f3 7 (some .int), Cond.fieldLink RJ2 403 "java/lang/Integer" "DigitOnes" "[B", Cond.fieldLink RJ2 407 "java/lang/Integer" "DigitTens" "[B", Cond.methodLink RJ2 111 yJ2_putChar_b72d1, Cond.static yJ2_putChar_b72d1, Cond.code yJ2_putChar_b72d1 cJ2_putChar_b72d1 3 none, Cond.fieldLink RJ2 59 "java/lang/StringUTF16" "HI_BYTE_SHIFT" "I", Cond.fieldLink RJ2 63 "java/lang/StringUTF16" "LO_BYTE_SHIFT" "I"]
def wsJ4_append_bf812 : List Cond := .code yJ4_append_bf812 cJ4_append_bf812 2 (some (.object "java/lang/StringBuilder")) :: ((wsJ4_append_bf812_r1 ++ (wsJ4_append_bf812_r2 ++ (wsJ4_append_bf812_r3 ++ wsJ4_append_bf812_r4))) ++ wsJ40)
def wsX5_textOf_r1 : List Cond := [Cond.fieldLink RX5 11 "HashladderModel" "rows" "[[I", Cond.classLink RX5 118 RJ4, Cond.instantiable RJ4 4, Cond.initialized RJ4, Cond.methodLink RX5 120 yJ4_init_da8c8, Cond.instanceMethod yJ4_init_da8c8, Cond.code yJ4_init_da8c8 cJ4_init_da8c8 1 none, Cond.methodLink RJ4 1 yJ5_init_d00df, Cond.instanceMethod yJ5_init_d00df, Cond.initialized RJ5, Cond.code yJ5_init_d00df cJ5_init_d00df 2 none, Cond.methodLink RJ5 3 objectInit, Cond.instanceMethod objectInit, Cond.code objectInit ⟨#[0xb1]⟩ 1 none, Cond.fieldLink RJ5 18 "java/lang/String" "COMPACT_STRINGS" "Z", Cond.arrayClass .byte, Cond.fieldLink RJ5 15 "java/lang/AbstractStringBuilder" "value" "[B", Cond.fieldLink RJ5 22 "java/lang/AbstractStringBuilder" "coder" "B", Cond.methodLink RJ5 26 yJ2_newBytesFor_77867, Cond.static yJ2_newBytesFor_77867, Cond.initialized RJ2, Cond.code yJ2_newBytesFor_77867 cJ2_newBytesFor_77867 1 (some (.array .byte)), Cond.methodLink RJ2 11 yJ2_newBytesLength_0f7a4, Cond.static yJ2_newBytesLength_0f7a4]
def wsX5_textOf_r2 : List Cond := [Cond.code yJ2_newBytesLength_0f7a4 cJ2_newBytesLength_0f7a4 1 (some .int), Cond.constant RJ2 20 (1073741823), Cond.methodLink RX5 121 yJ4_append_15ec4, Cond.instanceMethod yJ4_append_15ec4, Cond.selects RJ4 yJ4_append_15ec4 yJ4_append_15ec4, Cond.code yJ4_append_15ec4 cJ4_append_15ec4 2 (some (.object "java/lang/StringBuilder")), Cond.methodLink RJ4 29 yJ5_append_cf1ce, Cond.sameMethod "java/lang/AbstractStringBuilder" "java/lang/AbstractStringBuilder" "append" "(Ljava/lang/String;)Ljava/lang/AbstractStringBuilder;", Cond.superclass RJ4 RJ5, Cond.instanceMethod yJ5_append_cf1ce, Cond.code yJ5_append_cf1ce cJ5_append_cf1ce 3 (some (.object "java/lang/AbstractStringBuilder")), Cond.fieldLink RJ5 79 "java/lang/AbstractStringBuilder" "count" "I", Cond.methodLink RJ5 204 ⟨"java/lang/AbstractStringBuilder", "appendNull", "()Ljava/lang/AbstractStringBuilder;"⟩, Cond.sameMethod "java/lang/AbstractStringBuilder" "java/lang/AbstractStringBuilder" "appendNull" "()Ljava/lang/AbstractStringBuilder;", Cond.selects RJ4 ⟨"java/lang/AbstractStringBuilder", "appendNull", "()Ljava/lang/AbstractStringBuilder;"⟩ yJ5_appendNull_278bc, Cond.instanceMethod yJ5_appendNull_278bc, Cond.code yJ5_appendNull_278bc cJ5_appendNull_278bc 3 (some (.object "java/lang/AbstractStringBuilder")), Cond.methodLink RJ5 100 ⟨"java/lang/AbstractStringBuilder", "ensureCapacityInternal", "(I)V"⟩, Cond.sameMethod "java/lang/AbstractStringBuilder" "java/lang/AbstractStringBuilder" "ensureCapacityInternal" "(I)V", Cond.selects RJ4 ⟨"java/lang/AbstractStringBuilder", "ensureCapacityInternal", "(I)V"⟩ yJ5_ensureCapacityInternal_d00df, Cond.instanceMethod yJ5_ensureCapacityInternal_d00df, Cond.code yJ5_ensureCapacityInternal_d00df cJ5_ensureCapacityInternal_d00df 3 none, Cond.methodLink RJ5 104 ⟨"java/lang/AbstractStringBuilder", "newCapacity", "(I)I"⟩, Cond.sameMethod "java/lang/AbstractStringBuilder" "java/lang/AbstractStringBuilder" "newCapacity" "(I)I"]
def wsX5_textOf_r3 : List Cond := [Cond.selects RJ4 ⟨"java/lang/AbstractStringBuilder", "newCapacity", "(I)I"⟩ yJ5_newCapacity_0f7a4, Cond.instanceMethod yJ5_newCapacity_0f7a4, Cond.code yJ5_newCapacity_0f7a4 cJ5_newCapacity_0f7a4 6 (some .int), Cond.constant RJ5 39 (2147483647), Cond.methodLink RJ5 114 yJ8_newLength_cabcc, Cond.static yJ8_newLength_cabcc, Cond.initialized RJ8, Cond.code yJ8_newLength_cabcc cJ8_newLength_cabcc 4 (some .int), Cond.methodLink RJ8 194 Lib.Math.max.name, Cond.static Lib.Math.max.name, Cond.initialized "java/lang/Math", Cond.code Lib.Math.max.name Lib.Math.max.code 2 (some .int), Cond.constant RJ8 200 (2147483639), Cond.methodLink RJ8 201 yJ8_hugeLength_7cf53, Cond.static yJ8_hugeLength_7cf53, Cond.code yJ8_hugeLength_7cf53 cJ8_hugeLength_7cf53 3 (some .int), Cond.methodLink RJ5 108 yJ7_copyOf_9075b, Cond.static yJ7_copyOf_9075b, Cond.initialized RJ7, Cond.code yJ7_copyOf_9075b cJ7_copyOf_9075b 3 (some (.array .byte)), Cond.methodLink RJ7 310 ⟨"[B", "clone", "()Ljava/lang/Object;"⟩, Cond.sameMethod "[B" "java/lang/Object" "clone" "()Ljava/lang/Object;", Cond.native ⟨"java/lang/Object", "clone", "()Ljava/lang/Object;"⟩, Cond.instanceMethod ⟨"java/lang/Object", "clone", "()Ljava/lang/Object;"⟩]
def wsX5_textOf_r4 : List Cond := [Cond.selects "[B" ⟨"[B", "clone", "()Ljava/lang/Object;"⟩ ⟨"java/lang/Object", "clone", "()Ljava/lang/Object;"⟩, Cond.classLink RJ7 311 "[B", Cond.methodLink RJ7 304 Lib.Math.min.name, Cond.static Lib.Math.min.name, Cond.code Lib.Math.min.name Lib.Math.min.code 2 (some .int), Cond.methodLink RJ7 150 arraycopyName, Cond.native arraycopyName, Cond.static arraycopyName, Cond.initialized "java/lang/System", Cond.methodLink RJ5 83 ⟨"java/lang/AbstractStringBuilder", "isLatin1", "()Z"⟩, Cond.sameMethod "java/lang/AbstractStringBuilder" "java/lang/AbstractStringBuilder" "isLatin1" "()Z", Cond.selects RJ4 ⟨"java/lang/AbstractStringBuilder", "isLatin1", "()Z"⟩ yJ5_isLatin1_aae02, Cond.instanceMethod yJ5_isLatin1_aae02, Cond.code yJ5_isLatin1_aae02 cJ5_isLatin1_aae02 1 (some .boolean), Cond.methodLink RJ5 226 yJ2_putCharsAt_cd4e5, Cond.static yJ2_putCharsAt_cd4e5, Cond.code yJ2_putCharsAt_cd4e5 cJ2_putCharsAt_cd4e5 7 (some .int), Cond.fieldLink RJ2 44 "java/lang/StringUTF16" "$assertionsDisabled" "Z", Cond.methodLink RJ2 96 yJ2_checkBoundsBeginEnd_d044e, Cond.static yJ2_checkBoundsBeginEnd_d044e, Cond.code yJ2_checkBoundsBeginEnd_d044e cJ2_checkBoundsBeginEnd_d044e 3 none, Cond.methodLink RJ2 48 yJ2_length_9d52b, Cond.static yJ2_length_9d52b, Cond.code yJ2_length_9d52b cJ2_length_9d52b 1 (some .int)]
def wsX5_textOf_r5 : List Cond := [Cond.methodLink RJ2 241 yJ0_checkBoundsBeginEnd_23922, Cond.static yJ0_checkBoundsBeginEnd_23922, Cond.initialized RJ0, Cond.code yJ0_checkBoundsBeginEnd_23922 cJ0_checkBoundsBeginEnd_23922 3 none, Cond.fieldLink RJ0 1053 "jdk/internal/util/Preconditions" "SIOOBE_FORMATTER" "Ljava/util/function/BiFunction;", Cond.methodLink RJ0 1062 yJ3_checkFromToIndex_8c36e, Cond.static yJ3_checkFromToIndex_8c36e, Cond.initialized RJ3, Cond.code yJ3_checkFromToIndex_8c36e cJ3_checkFromToIndex_8c36e 4 (some .int), Cond.methodLink RJ2 111 yJ2_putChar_b72d1, Cond.static yJ2_putChar_b72d1, Cond.code yJ2_putChar_b72d1 cJ2_putChar_b72d1 3 none, Cond.fieldLink RJ2 59 "java/lang/StringUTF16" "HI_BYTE_SHIFT" "I", Cond.fieldLink RJ2 63 "java/lang/StringUTF16" "LO_BYTE_SHIFT" "I", Cond.methodLink RJ5 32 yJ0_length_8abf5, Cond.instanceMethod yJ0_length_8abf5, Cond.selects RJ0 yJ0_length_8abf5 yJ0_length_8abf5, Cond.code yJ0_length_8abf5 cJ0_length_8abf5 1 (some .int), Cond.fieldLink RJ0 9 "java/lang/String" "value" "[B", Cond.methodLink RJ0 335 yJ0_coder_7d493, Cond.instanceMethod yJ0_coder_7d493, Cond.selects RJ0 yJ0_coder_7d493 yJ0_coder_7d493, Cond.code yJ0_coder_7d493 cJ0_coder_7d493 1 (some .byte), Cond.fieldLink RJ0 38 "java/lang/String" "COMPACT_STRINGS" "Z"]
def wsX5_textOf_r6 : List Cond := [Cond.fieldLink RJ0 15 "java/lang/String" "coder" "B", Cond.methodLink RJ5 208 ⟨"java/lang/AbstractStringBuilder", "putStringAt", "(ILjava/lang/String;)V"⟩, Cond.sameMethod "java/lang/AbstractStringBuilder" "java/lang/AbstractStringBuilder" "putStringAt" "(ILjava/lang/String;)V", Cond.selects RJ4 ⟨"java/lang/AbstractStringBuilder", "putStringAt", "(ILjava/lang/String;)V"⟩ yJ5_putStringAt_47b60, Cond.instanceMethod yJ5_putStringAt_47b60, Cond.code yJ5_putStringAt_47b60 cJ5_putStringAt_47b60 3 none, Cond.methodLink RJ5 397 ⟨"java/lang/AbstractStringBuilder", "inflateIfNeededFor", "(Ljava/lang/String;)V"⟩, Cond.sameMethod "java/lang/AbstractStringBuilder" "java/lang/AbstractStringBuilder" "inflateIfNeededFor" "(Ljava/lang/String;)V", Cond.selects RJ4 ⟨"java/lang/AbstractStringBuilder", "inflateIfNeededFor", "(Ljava/lang/String;)V"⟩ yJ5_inflateIfNeededFor_a7421, Cond.instanceMethod yJ5_inflateIfNeededFor_a7421, Cond.code yJ5_inflateIfNeededFor_a7421 cJ5_inflateIfNeededFor_a7421 2 none, Cond.methodLink RJ5 40 yJ0_coder_7d493, Cond.methodLink RJ5 195 ⟨"java/lang/AbstractStringBuilder", "inflate", "()V"⟩, Cond.sameMethod "java/lang/AbstractStringBuilder" "java/lang/AbstractStringBuilder" "inflate" "()V", Cond.selects RJ4 ⟨"java/lang/AbstractStringBuilder", "inflate", "()V"⟩ yJ5_inflate_da8c8, Cond.instanceMethod yJ5_inflate_da8c8, Cond.code yJ5_inflate_da8c8 cJ5_inflate_da8c8 2 none, Cond.methodLink RJ5 125 yJ1_inflate_0e8fd, Cond.static yJ1_inflate_0e8fd, Cond.initialized RJ1, Cond.code yJ1_inflate_0e8fd cJ1_inflate_0e8fd 5 none, Cond.methodLink RJ1 240 yJ2_inflate_0e8fd, Cond.static yJ2_inflate_0e8fd, Cond.code yJ2_inflate_0e8fd cJ2_inflate_0e8fd 6 none]
def wsX5_textOf_r7 : List Cond := [Cond.methodLink RJ2 173 yJ2_checkBoundsOffCount_d044e, Cond.static yJ2_checkBoundsOffCount_d044e, Cond.code yJ2_checkBoundsOffCount_d044e cJ2_checkBoundsOffCount_d044e 3 none, Cond.methodLink RJ2 419 yJ0_checkBoundsOffCount_cabcc, Cond.static yJ0_checkBoundsOffCount_cabcc, Cond.code yJ0_checkBoundsOffCount_cabcc cJ0_checkBoundsOffCount_cabcc 3 (some .int), Cond.methodLink RJ0 1065 yJ3_checkFromIndexSize_8c36e, Cond.static yJ3_checkFromIndexSize_8c36e, Cond.code yJ3_checkFromIndexSize_8c36e cJ3_checkFromIndexSize_8c36e 4 (some .int), Cond.methodLink RJ5 399 yJ0_getBytes_840e7, Cond.instanceMethod yJ0_getBytes_840e7, Cond.selects RJ0 yJ0_getBytes_840e7 yJ0_getBytes_840e7, Cond.code yJ0_getBytes_840e7 cJ0_getBytes_840e7 4 none, Cond.methodLink RJ0 212 arraycopyName, Cond.methodLink RJ0 106 yJ1_inflate_0e8fd, Cond.methodLink RX5 125 yJ0_isEmpty_aae02, Cond.instanceMethod yJ0_isEmpty_aae02, Cond.selects RJ0 yJ0_isEmpty_aae02 yJ0_isEmpty_aae02, Cond.code yJ0_isEmpty_aae02 cJ0_isEmpty_aae02 1 (some .boolean), Cond.methodLink RX5 131 yJ4_append_bf812, Cond.instanceMethod yJ4_append_bf812, Cond.selects RJ4 yJ4_append_bf812 yJ4_append_bf812, Cond.code yJ4_append_bf812 cJ4_append_bf812 2 (some (.object "java/lang/StringBuilder")), Cond.methodLink RJ4 53 yJ5_append_c97b9]
def wsX5_textOf_r8 : List Cond := [Cond.sameMethod "java/lang/AbstractStringBuilder" "java/lang/AbstractStringBuilder" "append" "(I)Ljava/lang/AbstractStringBuilder;", Cond.instanceMethod yJ5_append_c97b9, Cond.code yJ5_append_c97b9 cJ5_append_c97b9 4 (some (.object "java/lang/AbstractStringBuilder")), Cond.methodLink RJ5 245 yJ6_stringSize_0f7a4, Cond.static yJ6_stringSize_0f7a4, Cond.initialized RJ6, Cond.code yJ6_stringSize_0f7a4 cJ6_stringSize_0f7a4 4 (some .int), Cond.methodLink RJ5 248 yJ6_getChars_ba4f3, Cond.static yJ6_getChars_ba4f3, Cond.code yJ6_getChars_ba4f3 cJ6_getChars_ba4f3 7 (some .int), Cond.fieldLink RJ6 83 "java/lang/Integer" "DigitOnes" "[B", Cond.fieldLink RJ6 87 "java/lang/Integer" "DigitTens" "[B", Cond.methodLink RJ5 251 yJ2_getChars_46870, Cond.static yJ2_getChars_46870, Cond.code yJ2_getChars_46870 cJ2_getChars_46870 5 (some .int), Cond.methodLink RJ2 393 yJ2_getChars_ba4f3, Cond.static yJ2_getChars_ba4f3, Cond.code yJ2_getChars_ba4f3 cJ2_getChars_ba4f3 7 (some .int), Cond.fieldLink RJ2 403 "java/lang/Integer" "DigitOnes" "[B", Cond.fieldLink RJ2 407 "java/lang/Integer" "DigitTens" "[B", Cond.methodLink RX5 136 yJ4_toString_0e30d, Cond.instanceMethod yJ4_toString_0e30d, Cond.selects RJ4 yJ4_toString_0e30d yJ4_toString_0e30d, Cond.code yJ4_toString_0e30d cJ4_toString_0e30d 1 (some (.object "java/lang/String"))]
def wsX5_textOf_r9 : List Cond := [Cond.classLink RJ4 18 RJ0, Cond.instantiable RJ0 4, Cond.methodLink RJ4 137 yJ0_init_81219, Cond.instanceMethod yJ0_init_81219, Cond.code yJ0_init_81219 cJ0_init_81219 2 none, Cond.methodLink RJ0 489 yJ0_init_db425, Cond.instanceMethod yJ0_init_db425, Cond.code yJ0_init_db425 cJ0_init_db425 5 none, Cond.methodLink RJ0 1 objectInit, Cond.fieldLink RJ0 1048 "java/lang/AbstractStringBuilder" "maybeLatin1" "Z", Cond.methodLink RJ0 552 ⟨"java/lang/AbstractStringBuilder", "getValue", "()[B"⟩, Cond.sameMethod "java/lang/AbstractStringBuilder" "java/lang/AbstractStringBuilder" "getValue" "()[B", Cond.selects RJ4 ⟨"java/lang/AbstractStringBuilder", "getValue", "()[B"⟩ yJ5_getValue_6d5f1, Cond.instanceMethod yJ5_getValue_6d5f1, Cond.code yJ5_getValue_6d5f1 cJ5_getValue_6d5f1 1 (some (.array .byte)), Cond.methodLink RJ0 549 ⟨"java/lang/AbstractStringBuilder", "length", "()I"⟩, Cond.sameMethod "java/lang/AbstractStringBuilder" "java/lang/AbstractStringBuilder" "length" "()I", Cond.instanceMethod ⟨"java/lang/AbstractStringBuilder", "length", "()I"⟩, Cond.selects RJ4 ⟨"java/lang/AbstractStringBuilder", "length", "()I"⟩ yJ4_length_8abf5, Cond.instanceMethod yJ4_length_8abf5, Cond.code yJ4_length_8abf5 cJ4_length_8abf5 1 (some .int), Cond.methodLink RJ4 343 yJ5_length_8abf5, Cond.instanceMethod yJ5_length_8abf5, Cond.code yJ5_length_8abf5 cJ5_length_8abf5 1 (some .int)]
def wsX5_textOf_r10 : List Cond := [Cond.methodLink RJ0 1047 ⟨"java/lang/AbstractStringBuilder", "isLatin1", "()Z"⟩, Cond.methodLink RJ0 54 yJ7_copyOfRange_39247, Cond.static yJ7_copyOfRange_39247, Cond.code yJ7_copyOfRange_39247 cJ7_copyOfRange_39247 3 (some (.array .byte)), Cond.methodLink RJ7 339 yJ7_copyOfRangeByte_39247, Cond.static yJ7_copyOfRangeByte_39247, Cond.code yJ7_copyOfRangeByte_39247 cJ7_copyOfRangeByte_39247 5 (some (.array .byte)), Cond.methodLink RJ7 343 yJ7_checkLength_df160, Cond.static yJ7_checkLength_df160, Cond.code yJ7_checkLength_df160 cJ7_checkLength_df160 2 none, Cond.classLink RJ7 45 RJ4, Cond.methodLink RJ0 1051 yJ2_compress_39247, Cond.static yJ2_compress_39247, Cond.code yJ2_compress_39247 cJ2_compress_39247 6 (some (.array .byte)), Cond.methodLink RJ2 123 yJ2_compress_5af95, Cond.static yJ2_compress_5af95, Cond.code yJ2_compress_5af95 cJ2_compress_5af95 7 (some .int), Cond.methodLink RJ2 71 yJ2_getChar_3b067, Cond.static yJ2_getChar_3b067, Cond.code yJ2_getChar_3b067 cJ2_getChar_3b067 2 (some .char), Cond.methodLink RJ2 126 yJ7_copyOfRange_39247, Cond.methodLink RJ0 47 yJ2_coderFromArrayLen_85cad, Cond.static yJ2_coderFromArrayLen_85cad, Cond.code yJ2_coderFromArrayLen_85cad cJ2_coderFromArrayLen_85cad 2 (some .byte)]
def wsX5_textOf : List Cond := .code yX5_textOf cX5_textOf 5 (some (.object "java/lang/String")) :: ((wsX5_textOf_r1 ++ (wsX5_textOf_r2 ++ (wsX5_textOf_r3 ++ (wsX5_textOf_r4 ++ (wsX5_textOf_r5 ++ (wsX5_textOf_r6 ++ (wsX5_textOf_r7 ++ (wsX5_textOf_r8 ++ (wsX5_textOf_r9 ++ wsX5_textOf_r10))))))))) ++ wsX50 ++ wsJ40 ++ wsJ00 ++ (vx_atM "java/lang/ArrayIndexOutOfBoundsException" ["java/lang/IndexOutOfBoundsException", "java/lang/RuntimeException", "java/lang/Exception"]).filter goodWord)
def wsX5_width_r1 : List Cond := [Cond.methodLink RX5 47 yX5_isNo, Cond.static yX5_isNo, Cond.initialized RX5, Cond.code yX5_isNo cX5_isNo 1 (some .boolean), Cond.methodLink RX5 39 yX5_isIn, Cond.static yX5_isIn, Cond.code yX5_isIn cX5_isIn 3 (some .boolean), Cond.methodLink RX5 57 yX5_fails_, Cond.instanceMethod yX5_fails_, Cond.selects RX5 yX5_fails_ yX5_fails_, Cond.code yX5_fails_ cX5_fails_ 3 (some .boolean), Cond.methodLink RX5 35 yX5_fails, Cond.instanceMethod yX5_fails, Cond.selects RX5 yX5_fails yX5_fails, Cond.code yX5_fails cX5_fails 4 (some .boolean), Cond.fieldLink RX5 31 "HashladderModel" "thrown" "I", Cond.methodLink RX5 142 yX5_textOf, Cond.instanceMethod yX5_textOf, Cond.selects RX5 yX5_textOf yX5_textOf, Cond.code yX5_textOf cX5_textOf 5 (some (.object "java/lang/String")), Cond.fieldLink RX5 11 "HashladderModel" "rows" "[[I", Cond.classLink RX5 118 RJ4, Cond.instantiable RJ4 4, Cond.initialized RJ4]
def wsX5_width_r2 : List Cond := [Cond.methodLink RX5 120 yJ4_init_da8c8, Cond.instanceMethod yJ4_init_da8c8, Cond.code yJ4_init_da8c8 cJ4_init_da8c8 1 none, Cond.methodLink RJ4 1 yJ5_init_d00df, Cond.instanceMethod yJ5_init_d00df, Cond.initialized RJ5, Cond.code yJ5_init_d00df cJ5_init_d00df 2 none, Cond.methodLink RJ5 3 objectInit, Cond.instanceMethod objectInit, Cond.code objectInit ⟨#[0xb1]⟩ 1 none, Cond.fieldLink RJ5 18 "java/lang/String" "COMPACT_STRINGS" "Z", Cond.arrayClass .byte, Cond.fieldLink RJ5 15 "java/lang/AbstractStringBuilder" "value" "[B", Cond.fieldLink RJ5 22 "java/lang/AbstractStringBuilder" "coder" "B", Cond.methodLink RJ5 26 yJ2_newBytesFor_77867, Cond.static yJ2_newBytesFor_77867, Cond.initialized RJ2, Cond.code yJ2_newBytesFor_77867 cJ2_newBytesFor_77867 1 (some (.array .byte)), Cond.methodLink RJ2 11 yJ2_newBytesLength_0f7a4, Cond.static yJ2_newBytesLength_0f7a4, Cond.code yJ2_newBytesLength_0f7a4 cJ2_newBytesLength_0f7a4 1 (some .int), Cond.constant RJ2 20 (1073741823), Cond.methodLink RX5 121 yJ4_append_15ec4, Cond.instanceMethod yJ4_append_15ec4]
def wsX5_width_r3 : List Cond := [Cond.selects RJ4 yJ4_append_15ec4 yJ4_append_15ec4, Cond.code yJ4_append_15ec4 cJ4_append_15ec4 2 (some (.object "java/lang/StringBuilder")), Cond.methodLink RJ4 29 yJ5_append_cf1ce, Cond.sameMethod "java/lang/AbstractStringBuilder" "java/lang/AbstractStringBuilder" "append" "(Ljava/lang/String;)Ljava/lang/AbstractStringBuilder;", Cond.superclass RJ4 RJ5, Cond.instanceMethod yJ5_append_cf1ce, Cond.code yJ5_append_cf1ce cJ5_append_cf1ce 3 (some (.object "java/lang/AbstractStringBuilder")), Cond.fieldLink RJ5 79 "java/lang/AbstractStringBuilder" "count" "I", Cond.methodLink RJ5 204 ⟨"java/lang/AbstractStringBuilder", "appendNull", "()Ljava/lang/AbstractStringBuilder;"⟩, Cond.sameMethod "java/lang/AbstractStringBuilder" "java/lang/AbstractStringBuilder" "appendNull" "()Ljava/lang/AbstractStringBuilder;", Cond.selects RJ4 ⟨"java/lang/AbstractStringBuilder", "appendNull", "()Ljava/lang/AbstractStringBuilder;"⟩ yJ5_appendNull_278bc, Cond.instanceMethod yJ5_appendNull_278bc, Cond.code yJ5_appendNull_278bc cJ5_appendNull_278bc 3 (some (.object "java/lang/AbstractStringBuilder")), Cond.methodLink RJ5 100 ⟨"java/lang/AbstractStringBuilder", "ensureCapacityInternal", "(I)V"⟩, Cond.sameMethod "java/lang/AbstractStringBuilder" "java/lang/AbstractStringBuilder" "ensureCapacityInternal" "(I)V", Cond.selects RJ4 ⟨"java/lang/AbstractStringBuilder", "ensureCapacityInternal", "(I)V"⟩ yJ5_ensureCapacityInternal_d00df, Cond.instanceMethod yJ5_ensureCapacityInternal_d00df, Cond.code yJ5_ensureCapacityInternal_d00df cJ5_ensureCapacityInternal_d00df 3 none, Cond.methodLink RJ5 104 ⟨"java/lang/AbstractStringBuilder", "newCapacity", "(I)I"⟩, Cond.sameMethod "java/lang/AbstractStringBuilder" "java/lang/AbstractStringBuilder" "newCapacity" "(I)I", Cond.selects RJ4 ⟨"java/lang/AbstractStringBuilder", "newCapacity", "(I)I"⟩ yJ5_newCapacity_0f7a4, Cond.instanceMethod yJ5_newCapacity_0f7a4, Cond.code yJ5_newCapacity_0f7a4 cJ5_newCapacity_0f7a4 6 (some .int), Cond.constant RJ5 39 (2147483647)]
def wsX5_width_r4 : List Cond := [Cond.methodLink RJ5 114 yJ8_newLength_cabcc, Cond.static yJ8_newLength_cabcc, Cond.initialized RJ8, Cond.code yJ8_newLength_cabcc cJ8_newLength_cabcc 4 (some .int), Cond.methodLink RJ8 194 Lib.Math.max.name, Cond.static Lib.Math.max.name, Cond.initialized "java/lang/Math", Cond.code Lib.Math.max.name Lib.Math.max.code 2 (some .int), Cond.constant RJ8 200 (2147483639), Cond.methodLink RJ8 201 yJ8_hugeLength_7cf53, Cond.static yJ8_hugeLength_7cf53, Cond.code yJ8_hugeLength_7cf53 cJ8_hugeLength_7cf53 3 (some .int), Cond.methodLink RJ5 108 yJ7_copyOf_9075b, Cond.static yJ7_copyOf_9075b, Cond.initialized RJ7, Cond.code yJ7_copyOf_9075b cJ7_copyOf_9075b 3 (some (.array .byte)), Cond.methodLink RJ7 310 ⟨"[B", "clone", "()Ljava/lang/Object;"⟩, Cond.sameMethod "[B" "java/lang/Object" "clone" "()Ljava/lang/Object;", Cond.native ⟨"java/lang/Object", "clone", "()Ljava/lang/Object;"⟩, Cond.instanceMethod ⟨"java/lang/Object", "clone", "()Ljava/lang/Object;"⟩, Cond.selects "[B" ⟨"[B", "clone", "()Ljava/lang/Object;"⟩ ⟨"java/lang/Object", "clone", "()Ljava/lang/Object;"⟩, Cond.classLink RJ7 311 "[B", Cond.methodLink RJ7 304 Lib.Math.min.name, Cond.static Lib.Math.min.name]
def wsX5_width_r5 : List Cond := [Cond.code Lib.Math.min.name Lib.Math.min.code 2 (some .int), Cond.methodLink RJ7 150 arraycopyName, Cond.native arraycopyName, Cond.static arraycopyName, Cond.initialized "java/lang/System", Cond.methodLink RJ5 83 ⟨"java/lang/AbstractStringBuilder", "isLatin1", "()Z"⟩, Cond.sameMethod "java/lang/AbstractStringBuilder" "java/lang/AbstractStringBuilder" "isLatin1" "()Z", Cond.selects RJ4 ⟨"java/lang/AbstractStringBuilder", "isLatin1", "()Z"⟩ yJ5_isLatin1_aae02, Cond.instanceMethod yJ5_isLatin1_aae02, Cond.code yJ5_isLatin1_aae02 cJ5_isLatin1_aae02 1 (some .boolean), Cond.methodLink RJ5 226 yJ2_putCharsAt_cd4e5, Cond.static yJ2_putCharsAt_cd4e5, Cond.code yJ2_putCharsAt_cd4e5 cJ2_putCharsAt_cd4e5 7 (some .int), Cond.fieldLink RJ2 44 "java/lang/StringUTF16" "$assertionsDisabled" "Z", Cond.methodLink RJ2 96 yJ2_checkBoundsBeginEnd_d044e, Cond.static yJ2_checkBoundsBeginEnd_d044e, Cond.code yJ2_checkBoundsBeginEnd_d044e cJ2_checkBoundsBeginEnd_d044e 3 none, Cond.methodLink RJ2 48 yJ2_length_9d52b, Cond.static yJ2_length_9d52b, Cond.code yJ2_length_9d52b cJ2_length_9d52b 1 (some .int), Cond.methodLink RJ2 241 yJ0_checkBoundsBeginEnd_23922, Cond.static yJ0_checkBoundsBeginEnd_23922, Cond.initialized RJ0, Cond.code yJ0_checkBoundsBeginEnd_23922 cJ0_checkBoundsBeginEnd_23922 3 none]
def wsX5_width_r6 : List Cond := [Cond.fieldLink RJ0 1053 "jdk/internal/util/Preconditions" "SIOOBE_FORMATTER" "Ljava/util/function/BiFunction;", Cond.methodLink RJ0 1062 yJ3_checkFromToIndex_8c36e, Cond.static yJ3_checkFromToIndex_8c36e, Cond.initialized RJ3, Cond.code yJ3_checkFromToIndex_8c36e cJ3_checkFromToIndex_8c36e 4 (some .int), Cond.methodLink RJ2 111 yJ2_putChar_b72d1, Cond.static yJ2_putChar_b72d1, Cond.code yJ2_putChar_b72d1 cJ2_putChar_b72d1 3 none, Cond.fieldLink RJ2 59 "java/lang/StringUTF16" "HI_BYTE_SHIFT" "I", Cond.fieldLink RJ2 63 "java/lang/StringUTF16" "LO_BYTE_SHIFT" "I", Cond.methodLink RJ5 32 yJ0_length_8abf5, Cond.instanceMethod yJ0_length_8abf5, Cond.selects RJ0 yJ0_length_8abf5 yJ0_length_8abf5, Cond.code yJ0_length_8abf5 cJ0_length_8abf5 1 (some .int), Cond.fieldLink RJ0 9 "java/lang/String" "value" "[B", Cond.methodLink RJ0 335 yJ0_coder_7d493, Cond.instanceMethod yJ0_coder_7d493, Cond.selects RJ0 yJ0_coder_7d493 yJ0_coder_7d493, Cond.code yJ0_coder_7d493 cJ0_coder_7d493 1 (some .byte), Cond.fieldLink RJ0 38 "java/lang/String" "COMPACT_STRINGS" "Z", Cond.fieldLink RJ0 15 "java/lang/String" "coder" "B", Cond.methodLink RJ5 208 ⟨"java/lang/AbstractStringBuilder", "putStringAt", "(ILjava/lang/String;)V"⟩, Cond.sameMethod "java/lang/AbstractStringBuilder" "java/lang/AbstractStringBuilder" "putStringAt" "(ILjava/lang/String;)V", Cond.selects RJ4 ⟨"java/lang/AbstractStringBuilder", "putStringAt", "(ILjava/lang/String;)V"⟩ yJ5_putStringAt_47b60]
def wsX5_width_r7 : List Cond := [Cond.instanceMethod yJ5_putStringAt_47b60, Cond.code yJ5_putStringAt_47b60 cJ5_putStringAt_47b60 3 none, Cond.methodLink RJ5 397 ⟨"java/lang/AbstractStringBuilder", "inflateIfNeededFor", "(Ljava/lang/String;)V"⟩, Cond.sameMethod "java/lang/AbstractStringBuilder" "java/lang/AbstractStringBuilder" "inflateIfNeededFor" "(Ljava/lang/String;)V", Cond.selects RJ4 ⟨"java/lang/AbstractStringBuilder", "inflateIfNeededFor", "(Ljava/lang/String;)V"⟩ yJ5_inflateIfNeededFor_a7421, Cond.instanceMethod yJ5_inflateIfNeededFor_a7421, Cond.code yJ5_inflateIfNeededFor_a7421 cJ5_inflateIfNeededFor_a7421 2 none, Cond.methodLink RJ5 40 yJ0_coder_7d493, Cond.methodLink RJ5 195 ⟨"java/lang/AbstractStringBuilder", "inflate", "()V"⟩, Cond.sameMethod "java/lang/AbstractStringBuilder" "java/lang/AbstractStringBuilder" "inflate" "()V", Cond.selects RJ4 ⟨"java/lang/AbstractStringBuilder", "inflate", "()V"⟩ yJ5_inflate_da8c8, Cond.instanceMethod yJ5_inflate_da8c8, Cond.code yJ5_inflate_da8c8 cJ5_inflate_da8c8 2 none, Cond.methodLink RJ5 125 yJ1_inflate_0e8fd, Cond.static yJ1_inflate_0e8fd, Cond.initialized RJ1, Cond.code yJ1_inflate_0e8fd cJ1_inflate_0e8fd 5 none, Cond.methodLink RJ1 240 yJ2_inflate_0e8fd, Cond.static yJ2_inflate_0e8fd, Cond.code yJ2_inflate_0e8fd cJ2_inflate_0e8fd 6 none, Cond.methodLink RJ2 173 yJ2_checkBoundsOffCount_d044e, Cond.static yJ2_checkBoundsOffCount_d044e, Cond.code yJ2_checkBoundsOffCount_d044e cJ2_checkBoundsOffCount_d044e 3 none, Cond.methodLink RJ2 419 yJ0_checkBoundsOffCount_cabcc]
def wsX5_width_r8 : List Cond := [Cond.static yJ0_checkBoundsOffCount_cabcc, Cond.code yJ0_checkBoundsOffCount_cabcc cJ0_checkBoundsOffCount_cabcc 3 (some .int), Cond.methodLink RJ0 1065 yJ3_checkFromIndexSize_8c36e, Cond.static yJ3_checkFromIndexSize_8c36e, Cond.code yJ3_checkFromIndexSize_8c36e cJ3_checkFromIndexSize_8c36e 4 (some .int), Cond.methodLink RJ5 399 yJ0_getBytes_840e7, Cond.instanceMethod yJ0_getBytes_840e7, Cond.selects RJ0 yJ0_getBytes_840e7 yJ0_getBytes_840e7, Cond.code yJ0_getBytes_840e7 cJ0_getBytes_840e7 4 none, Cond.methodLink RJ0 212 arraycopyName, Cond.methodLink RJ0 106 yJ1_inflate_0e8fd, Cond.methodLink RX5 125 yJ0_isEmpty_aae02, Cond.instanceMethod yJ0_isEmpty_aae02, Cond.selects RJ0 yJ0_isEmpty_aae02 yJ0_isEmpty_aae02, Cond.code yJ0_isEmpty_aae02 cJ0_isEmpty_aae02 1 (some .boolean), Cond.methodLink RX5 131 yJ4_append_bf812, Cond.instanceMethod yJ4_append_bf812, Cond.selects RJ4 yJ4_append_bf812 yJ4_append_bf812, Cond.code yJ4_append_bf812 cJ4_append_bf812 2 (some (.object "java/lang/StringBuilder")), Cond.methodLink RJ4 53 yJ5_append_c97b9, Cond.sameMethod "java/lang/AbstractStringBuilder" "java/lang/AbstractStringBuilder" "append" "(I)Ljava/lang/AbstractStringBuilder;", Cond.instanceMethod yJ5_append_c97b9, Cond.code yJ5_append_c97b9 cJ5_append_c97b9 4 (some (.object "java/lang/AbstractStringBuilder")), Cond.methodLink RJ5 245 yJ6_stringSize_0f7a4]
def wsX5_width_r9 : List Cond := [Cond.static yJ6_stringSize_0f7a4, Cond.initialized RJ6, Cond.code yJ6_stringSize_0f7a4 cJ6_stringSize_0f7a4 4 (some .int), Cond.methodLink RJ5 248 yJ6_getChars_ba4f3, Cond.static yJ6_getChars_ba4f3, Cond.code yJ6_getChars_ba4f3 cJ6_getChars_ba4f3 7 (some .int), Cond.fieldLink RJ6 83 "java/lang/Integer" "DigitOnes" "[B", Cond.fieldLink RJ6 87 "java/lang/Integer" "DigitTens" "[B", Cond.methodLink RJ5 251 yJ2_getChars_46870, Cond.static yJ2_getChars_46870, Cond.code yJ2_getChars_46870 cJ2_getChars_46870 5 (some .int), Cond.methodLink RJ2 393 yJ2_getChars_ba4f3, Cond.static yJ2_getChars_ba4f3, Cond.code yJ2_getChars_ba4f3 cJ2_getChars_ba4f3 7 (some .int), Cond.fieldLink RJ2 403 "java/lang/Integer" "DigitOnes" "[B", Cond.fieldLink RJ2 407 "java/lang/Integer" "DigitTens" "[B", Cond.methodLink RX5 136 yJ4_toString_0e30d, Cond.instanceMethod yJ4_toString_0e30d, Cond.selects RJ4 yJ4_toString_0e30d yJ4_toString_0e30d, Cond.code yJ4_toString_0e30d cJ4_toString_0e30d 1 (some (.object "java/lang/String")), Cond.classLink RJ4 18 RJ0, Cond.instantiable RJ0 4, Cond.methodLink RJ4 137 yJ0_init_81219, Cond.instanceMethod yJ0_init_81219]
def wsX5_width_r10 : List Cond := [Cond.code yJ0_init_81219 cJ0_init_81219 2 none, Cond.methodLink RJ0 489 yJ0_init_db425, Cond.instanceMethod yJ0_init_db425, Cond.code yJ0_init_db425 cJ0_init_db425 5 none, Cond.methodLink RJ0 1 objectInit, Cond.fieldLink RJ0 1048 "java/lang/AbstractStringBuilder" "maybeLatin1" "Z", Cond.methodLink RJ0 552 ⟨"java/lang/AbstractStringBuilder", "getValue", "()[B"⟩, Cond.sameMethod "java/lang/AbstractStringBuilder" "java/lang/AbstractStringBuilder" "getValue" "()[B", Cond.selects RJ4 ⟨"java/lang/AbstractStringBuilder", "getValue", "()[B"⟩ yJ5_getValue_6d5f1, Cond.instanceMethod yJ5_getValue_6d5f1, Cond.code yJ5_getValue_6d5f1 cJ5_getValue_6d5f1 1 (some (.array .byte)), Cond.methodLink RJ0 549 ⟨"java/lang/AbstractStringBuilder", "length", "()I"⟩, Cond.sameMethod "java/lang/AbstractStringBuilder" "java/lang/AbstractStringBuilder" "length" "()I", Cond.instanceMethod ⟨"java/lang/AbstractStringBuilder", "length", "()I"⟩, Cond.selects RJ4 ⟨"java/lang/AbstractStringBuilder", "length", "()I"⟩ yJ4_length_8abf5, Cond.instanceMethod yJ4_length_8abf5, Cond.code yJ4_length_8abf5 cJ4_length_8abf5 1 (some .int), Cond.methodLink RJ4 343 yJ5_length_8abf5, Cond.instanceMethod yJ5_length_8abf5, Cond.code yJ5_length_8abf5 cJ5_length_8abf5 1 (some .int), Cond.methodLink RJ0 1047 ⟨"java/lang/AbstractStringBuilder", "isLatin1", "()Z"⟩, Cond.methodLink RJ0 54 yJ7_copyOfRange_39247, Cond.static yJ7_copyOfRange_39247, Cond.code yJ7_copyOfRange_39247 cJ7_copyOfRange_39247 3 (some (.array .byte))]
def wsX5_width_r11 : List Cond := [Cond.methodLink RJ7 339 yJ7_copyOfRangeByte_39247, Cond.static yJ7_copyOfRangeByte_39247, Cond.code yJ7_copyOfRangeByte_39247 cJ7_copyOfRangeByte_39247 5 (some (.array .byte)), Cond.methodLink RJ7 343 yJ7_checkLength_df160, Cond.static yJ7_checkLength_df160, Cond.code yJ7_checkLength_df160 cJ7_checkLength_df160 2 none, Cond.classLink RJ7 45 RJ4, Cond.methodLink RJ0 1051 yJ2_compress_39247, Cond.static yJ2_compress_39247, Cond.code yJ2_compress_39247 cJ2_compress_39247 6 (some (.array .byte)), Cond.methodLink RJ2 123 yJ2_compress_5af95, Cond.static yJ2_compress_5af95, Cond.code yJ2_compress_5af95 cJ2_compress_5af95 7 (some .int), Cond.methodLink RJ2 71 yJ2_getChar_3b067, Cond.static yJ2_getChar_3b067, Cond.code yJ2_getChar_3b067 cJ2_getChar_3b067 2 (some .char), Cond.methodLink RJ2 126 yJ7_copyOfRange_39247, Cond.methodLink RJ0 47 yJ2_coderFromArrayLen_85cad, Cond.static yJ2_coderFromArrayLen_85cad, Cond.code yJ2_coderFromArrayLen_85cad cJ2_coderFromArrayLen_85cad 2 (some .byte), Cond.methodLink RX5 154 yJ0_length_8abf5]
def wsX5_width : List Cond := .code yX5_width cX5_width 2 (some .int) :: ((wsX5_width_r1 ++ (wsX5_width_r2 ++ (wsX5_width_r3 ++ (wsX5_width_r4 ++ (wsX5_width_r5 ++ (wsX5_width_r6 ++ (wsX5_width_r7 ++ (wsX5_width_r8 ++ (wsX5_width_r9 ++ (wsX5_width_r10 ++ wsX5_width_r11)))))))))) ++ wsX50 ++ wsJ40 ++ wsJ00 ++ (vx_atM "java/lang/ArrayIndexOutOfBoundsException" ["java/lang/IndexOutOfBoundsException", "java/lang/RuntimeException", "java/lang/Exception"]).filter goodWord)
theorem dX0_init_0 : decode cX0_init 0 = .ok (.aload_n 0, 1) := by decide +kernel
theorem dX0_init_1 : decode cX0_init 1 = .ok (.invokespecial 3, 3) := by decide +kernel
theorem dX0_init_4 : decode cX0_init 4 = .ok (.aload_n 0, 1) := by decide +kernel
theorem dX0_init_5 : decode cX0_init 5 = .ok (.bipush 64, 2) := by decide +kernel
theorem dX0_init_7 : decode cX0_init 7 = .ok (.newarray .int, 2) := by decide +kernel
theorem dX0_init_9 : decode cX0_init 9 = .ok (.putfield 9, 3) := by decide +kernel
theorem dX0_init_12 : decode cX0_init 12 = .ok (.aload_n 0, 1) := by decide +kernel
theorem dX0_init_13 : decode cX0_init 13 = .ok (.bipush 64, 2) := by decide +kernel
theorem dX0_init_15 : decode cX0_init 15 = .ok (.newarray .int, 2) := by decide +kernel
theorem dX0_init_17 : decode cX0_init 17 = .ok (.putfield 15, 3) := by decide +kernel
theorem dX0_init_20 : decode cX0_init 20 = .ok (.return_, 1) := by decide +kernel
theorem dX1_init_0 : decode cX1_init 0 = .ok (.aload_n 0, 1) := by decide +kernel
theorem dX1_init_1 : decode cX1_init 1 = .ok (.invokespecial 3, 3) := by decide +kernel
theorem dX1_init_4 : decode cX1_init 4 = .ok (.aload_n 0, 1) := by decide +kernel
theorem dX1_init_5 : decode cX1_init 5 = .ok (.bipush 64, 2) := by decide +kernel
theorem dX1_init_7 : decode cX1_init 7 = .ok (.newarray .int, 2) := by decide +kernel
theorem dX1_init_9 : decode cX1_init 9 = .ok (.putfield 9, 3) := by decide +kernel
theorem dX1_init_12 : decode cX1_init 12 = .ok (.iconst 0, 1) := by decide +kernel
theorem dX1_init_13 : decode cX1_init 13 = .ok (.istore_n 1, 1) := by decide +kernel
theorem dX1_init_14 : decode cX1_init 14 = .ok (.iload_n 1, 1) := by decide +kernel
theorem dX1_init_15 : decode cX1_init 15 = .ok (.aload_n 0, 1) := by decide +kernel
theorem dX1_init_16 : decode cX1_init 16 = .ok (.getfield 9, 3) := by decide +kernel
theorem dX1_init_19 : decode cX1_init 19 = .ok (.arraylength, 1) := by decide +kernel
theorem dX1_init_20 : decode cX1_init 20 = .ok (.if_icmp .ge 16, 3) := by decide +kernel
theorem dX1_init_23 : decode cX1_init 23 = .ok (.aload_n 0, 1) := by decide +kernel
theorem dX1_init_24 : decode cX1_init 24 = .ok (.getfield 9, 3) := by decide +kernel
theorem dX1_init_27 : decode cX1_init 27 = .ok (.iload_n 1, 1) := by decide +kernel
theorem dX1_init_28 : decode cX1_init 28 = .ok (.iconst (-1), 1) := by decide +kernel
theorem dX1_init_29 : decode cX1_init 29 = .ok (.iastore, 1) := by decide +kernel
theorem dX1_init_30 : decode cX1_init 30 = .ok (.iinc 1 1, 3) := by decide +kernel
theorem dX1_init_33 : decode cX1_init 33 = .ok (.goto (-19), 3) := by decide +kernel
theorem dX1_init_36 : decode cX1_init 36 = .ok (.aload_n 0, 1) := by decide +kernel
theorem dX1_init_37 : decode cX1_init 37 = .ok (.bipush 100, 2) := by decide +kernel
theorem dX1_init_39 : decode cX1_init 39 = .ok (.newarray .int, 2) := by decide +kernel
theorem dX1_init_41 : decode cX1_init 41 = .ok (.putfield 15, 3) := by decide +kernel
theorem dX1_init_44 : decode cX1_init 44 = .ok (.aload_n 0, 1) := by decide +kernel
theorem dX1_init_45 : decode cX1_init 45 = .ok (.new 18, 3) := by decide +kernel
theorem dX1_init_48 : decode cX1_init 48 = .ok (.dup, 1) := by decide +kernel
theorem dX1_init_49 : decode cX1_init 49 = .ok (.invokespecial 20, 3) := by decide +kernel
theorem dX1_init_52 : decode cX1_init 52 = .ok (.putfield 21, 3) := by decide +kernel
theorem dX1_init_55 : decode cX1_init 55 = .ok (.aload_n 0, 1) := by decide +kernel
theorem dX1_init_56 : decode cX1_init 56 = .ok (.iconst (-1), 1) := by decide +kernel
theorem dX1_init_57 : decode cX1_init 57 = .ok (.putfield 25, 3) := by decide +kernel
theorem dX1_init_60 : decode cX1_init 60 = .ok (.return_, 1) := by decide +kernel
theorem dX1_worthAt_0 : decode cX1_worthAt 0 = .ok (.iload_n 1, 1) := by decide +kernel
theorem dX1_worthAt_1 : decode cX1_worthAt 1 = .ok (.ifCond .lt 21, 3) := by decide +kernel
theorem dX1_worthAt_4 : decode cX1_worthAt 4 = .ok (.iload_n 1, 1) := by decide +kernel
theorem dX1_worthAt_5 : decode cX1_worthAt 5 = .ok (.aload_n 0, 1) := by decide +kernel
theorem dX1_worthAt_6 : decode cX1_worthAt 6 = .ok (.getfield 9, 3) := by decide +kernel
theorem dX1_worthAt_9 : decode cX1_worthAt 9 = .ok (.arraylength, 1) := by decide +kernel
theorem dX1_worthAt_10 : decode cX1_worthAt 10 = .ok (.if_icmp .ge 12, 3) := by decide +kernel
theorem dX1_worthAt_13 : decode cX1_worthAt 13 = .ok (.aload_n 0, 1) := by decide +kernel
theorem dX1_worthAt_14 : decode cX1_worthAt 14 = .ok (.getfield 9, 3) := by decide +kernel
theorem dX1_worthAt_17 : decode cX1_worthAt 17 = .ok (.iload_n 1, 1) := by decide +kernel
theorem dX1_worthAt_18 : decode cX1_worthAt 18 = .ok (.iaload, 1) := by decide +kernel
theorem dX1_worthAt_19 : decode cX1_worthAt 19 = .ok (.goto 4, 3) := by decide +kernel
theorem dX1_worthAt_22 : decode cX1_worthAt 22 = .ok (.iconst (-1), 1) := by decide +kernel
theorem dX1_worthAt_23 : decode cX1_worthAt 23 = .ok (.ireturn, 1) := by decide +kernel
set_option maxRecDepth 20000 in
theorem ggX1_tell_X2_end : GoodIn wsX1_tell wsX2_end := goodIn_r _ [6, 7, 13, 14, 15, 16, 17] (by decide +kernel) (by decide +kernel)
set_option maxRecDepth 20000 in
theorem gX1_tell_X2_end : GoodIn wsX1_tell (wsV RX1 32 RX2 yX2_end wsX2_end) := goodIn_app (goodIn_of _ (by decide +kernel)) ggX1_tell_X2_end
theorem dX1_tell_0 : decode cX1_tell 0 = .ok (.aload_n 0, 1) := by decide +kernel
theorem dX1_tell_1 : decode cX1_tell 1 = .ok (.getfield 21, 3) := by decide +kernel
theorem dX1_tell_4 : decode cX1_tell 4 = .ok (.invokevirtual 32, 3) := by decide +kernel
theorem dX1_tell_7 : decode cX1_tell 7 = .ok (.return_, 1) := by decide +kernel
set_option maxRecDepth 20000 in
theorem ggX1_lay_X1_lift : GoodIn wsX1_lay wsX1_lift := goodIn_ca (goodIn_r _ [8, 1, 2, 3, 9, 10, 11, 7, 12, 13, 14, 15, 16, 17] (by decide +kernel) (by decide +kernel)) (goodIn_sub (fun _ h => List.mem_cons_of_mem _ (List.mem_append_right _ h)) (by decide +kernel))
set_option maxRecDepth 20000 in
theorem gX1_lay_X1_lift : GoodIn wsX1_lay (wsV RX1 42 RX1 yX1_lift wsX1_lift) := goodIn_app (goodIn_of _ (by decide +kernel)) ggX1_lay_X1_lift
theorem dX1_lay_0 : decode cX1_lay 0 = .ok (.aload_n 0, 1) := by decide +kernel
theorem dX1_lay_1 : decode cX1_lay 1 = .ok (.iload_n 1, 1) := by decide +kernel
theorem dX1_lay_2 : decode cX1_lay 2 = .ok (.invokevirtual 42, 3) := by decide +kernel
theorem dX1_lay_5 : decode cX1_lay 5 = .ok (.istore_n 3, 1) := by decide +kernel
theorem dX1_lay_6 : decode cX1_lay 6 = .ok (.iload_n 1, 1) := by decide +kernel
theorem dX1_lay_7 : decode cX1_lay 7 = .ok (.ifCond .lt 52, 3) := by decide +kernel
theorem dX1_lay_10 : decode cX1_lay 10 = .ok (.iload_n 1, 1) := by decide +kernel
theorem dX1_lay_11 : decode cX1_lay 11 = .ok (.aload_n 0, 1) := by decide +kernel
theorem dX1_lay_12 : decode cX1_lay 12 = .ok (.getfield 9, 3) := by decide +kernel
theorem dX1_lay_15 : decode cX1_lay 15 = .ok (.arraylength, 1) := by decide +kernel
theorem dX1_lay_16 : decode cX1_lay 16 = .ok (.if_icmp .ge 43, 3) := by decide +kernel
theorem dX1_lay_19 : decode cX1_lay 19 = .ok (.iload_n 2, 1) := by decide +kernel
theorem dX1_lay_20 : decode cX1_lay 20 = .ok (.ifCond .lt 39, 3) := by decide +kernel
theorem dX1_lay_23 : decode cX1_lay 23 = .ok (.iload_n 2, 1) := by decide +kernel
theorem dX1_lay_24 : decode cX1_lay 24 = .ok (.aload_n 0, 1) := by decide +kernel
theorem dX1_lay_25 : decode cX1_lay 25 = .ok (.getfield 15, 3) := by decide +kernel
theorem dX1_lay_28 : decode cX1_lay 28 = .ok (.arraylength, 1) := by decide +kernel
theorem dX1_lay_29 : decode cX1_lay 29 = .ok (.if_icmp .ge 30, 3) := by decide +kernel
theorem dX1_lay_32 : decode cX1_lay 32 = .ok (.aload_n 0, 1) := by decide +kernel
theorem dX1_lay_33 : decode cX1_lay 33 = .ok (.getfield 9, 3) := by decide +kernel
theorem dX1_lay_36 : decode cX1_lay 36 = .ok (.iload_n 1, 1) := by decide +kernel
theorem dX1_lay_37 : decode cX1_lay 37 = .ok (.iload_n 2, 1) := by decide +kernel
theorem dX1_lay_38 : decode cX1_lay 38 = .ok (.iastore, 1) := by decide +kernel
theorem dX1_lay_39 : decode cX1_lay 39 = .ok (.aload_n 0, 1) := by decide +kernel
theorem dX1_lay_40 : decode cX1_lay 40 = .ok (.getfield 15, 3) := by decide +kernel
theorem dX1_lay_43 : decode cX1_lay 43 = .ok (.iload_n 2, 1) := by decide +kernel
theorem dX1_lay_44 : decode cX1_lay 44 = .ok (.dup2, 1) := by decide +kernel
theorem dX1_lay_45 : decode cX1_lay 45 = .ok (.iaload, 1) := by decide +kernel
theorem dX1_lay_46 : decode cX1_lay 46 = .ok (.iconst 1, 1) := by decide +kernel
theorem dX1_lay_47 : decode cX1_lay 47 = .ok (.iadd, 1) := by decide +kernel
theorem dX1_lay_48 : decode cX1_lay 48 = .ok (.iastore, 1) := by decide +kernel
theorem dX1_lay_49 : decode cX1_lay 49 = .ok (.aload_n 0, 1) := by decide +kernel
theorem dX1_lay_50 : decode cX1_lay 50 = .ok (.dup, 1) := by decide +kernel
theorem dX1_lay_51 : decode cX1_lay 51 = .ok (.getfield 29, 3) := by decide +kernel
theorem dX1_lay_54 : decode cX1_lay 54 = .ok (.iconst 1, 1) := by decide +kernel
theorem dX1_lay_55 : decode cX1_lay 55 = .ok (.iadd, 1) := by decide +kernel
theorem dX1_lay_56 : decode cX1_lay 56 = .ok (.putfield 29, 3) := by decide +kernel
theorem dX1_lay_59 : decode cX1_lay 59 = .ok (.iload_n 3, 1) := by decide +kernel
theorem dX1_lay_60 : decode cX1_lay 60 = .ok (.ireturn, 1) := by decide +kernel
set_option maxRecDepth 20000 in
theorem ggX1_lift_X1_worthAt : GoodIn wsX1_lift wsX1_worthAt := goodIn_ca (goodIn_r _ [8, 1, 9, 10, 11, 12, 13] (by decide +kernel) (by decide +kernel)) (goodIn_sub (fun _ h => List.mem_cons_of_mem _ (List.mem_append_right _ h)) (by decide +kernel))
set_option maxRecDepth 20000 in
theorem gX1_lift_X1_worthAt : GoodIn wsX1_lift (wsV RX1 50 RX1 yX1_worthAt wsX1_worthAt) := goodIn_app (goodIn_of _ (by decide +kernel)) ggX1_lift_X1_worthAt
theorem dX1_lift_0 : decode cX1_lift 0 = .ok (.aload_n 0, 1) := by decide +kernel
theorem dX1_lift_1 : decode cX1_lift 1 = .ok (.iload_n 1, 1) := by decide +kernel
theorem dX1_lift_2 : decode cX1_lift 2 = .ok (.invokevirtual 50, 3) := by decide +kernel
theorem dX1_lift_5 : decode cX1_lift 5 = .ok (.istore_n 2, 1) := by decide +kernel
theorem dX1_lift_6 : decode cX1_lift 6 = .ok (.iload_n 1, 1) := by decide +kernel
theorem dX1_lift_7 : decode cX1_lift 7 = .ok (.ifCond .lt 52, 3) := by decide +kernel
theorem dX1_lift_10 : decode cX1_lift 10 = .ok (.iload_n 1, 1) := by decide +kernel
theorem dX1_lift_11 : decode cX1_lift 11 = .ok (.aload_n 0, 1) := by decide +kernel
theorem dX1_lift_12 : decode cX1_lift 12 = .ok (.getfield 9, 3) := by decide +kernel
theorem dX1_lift_15 : decode cX1_lift 15 = .ok (.arraylength, 1) := by decide +kernel
theorem dX1_lift_16 : decode cX1_lift 16 = .ok (.if_icmp .ge 43, 3) := by decide +kernel
theorem dX1_lift_19 : decode cX1_lift 19 = .ok (.iload_n 2, 1) := by decide +kernel
theorem dX1_lift_20 : decode cX1_lift 20 = .ok (.ifCond .lt 39, 3) := by decide +kernel
theorem dX1_lift_23 : decode cX1_lift 23 = .ok (.iload_n 2, 1) := by decide +kernel
theorem dX1_lift_24 : decode cX1_lift 24 = .ok (.aload_n 0, 1) := by decide +kernel
theorem dX1_lift_25 : decode cX1_lift 25 = .ok (.getfield 15, 3) := by decide +kernel
theorem dX1_lift_28 : decode cX1_lift 28 = .ok (.arraylength, 1) := by decide +kernel
theorem dX1_lift_29 : decode cX1_lift 29 = .ok (.if_icmp .ge 30, 3) := by decide +kernel
theorem dX1_lift_32 : decode cX1_lift 32 = .ok (.aload_n 0, 1) := by decide +kernel
theorem dX1_lift_33 : decode cX1_lift 33 = .ok (.getfield 9, 3) := by decide +kernel
theorem dX1_lift_36 : decode cX1_lift 36 = .ok (.iload_n 1, 1) := by decide +kernel
theorem dX1_lift_37 : decode cX1_lift 37 = .ok (.iconst (-1), 1) := by decide +kernel
theorem dX1_lift_38 : decode cX1_lift 38 = .ok (.iastore, 1) := by decide +kernel
theorem dX1_lift_39 : decode cX1_lift 39 = .ok (.aload_n 0, 1) := by decide +kernel
theorem dX1_lift_40 : decode cX1_lift 40 = .ok (.getfield 15, 3) := by decide +kernel
theorem dX1_lift_43 : decode cX1_lift 43 = .ok (.iload_n 2, 1) := by decide +kernel
theorem dX1_lift_44 : decode cX1_lift 44 = .ok (.dup2, 1) := by decide +kernel
theorem dX1_lift_45 : decode cX1_lift 45 = .ok (.iaload, 1) := by decide +kernel
theorem dX1_lift_46 : decode cX1_lift 46 = .ok (.iconst 1, 1) := by decide +kernel
theorem dX1_lift_47 : decode cX1_lift 47 = .ok (.isub, 1) := by decide +kernel
theorem dX1_lift_48 : decode cX1_lift 48 = .ok (.iastore, 1) := by decide +kernel
theorem dX1_lift_49 : decode cX1_lift 49 = .ok (.aload_n 0, 1) := by decide +kernel
theorem dX1_lift_50 : decode cX1_lift 50 = .ok (.dup, 1) := by decide +kernel
theorem dX1_lift_51 : decode cX1_lift 51 = .ok (.getfield 29, 3) := by decide +kernel
theorem dX1_lift_54 : decode cX1_lift 54 = .ok (.iconst 1, 1) := by decide +kernel
theorem dX1_lift_55 : decode cX1_lift 55 = .ok (.isub, 1) := by decide +kernel
theorem dX1_lift_56 : decode cX1_lift 56 = .ok (.putfield 29, 3) := by decide +kernel
theorem dX1_lift_59 : decode cX1_lift 59 = .ok (.iload_n 2, 1) := by decide +kernel
theorem dX1_lift_60 : decode cX1_lift 60 = .ok (.ireturn, 1) := by decide +kernel
set_option maxRecDepth 20000 in
theorem ggX1_reckonWidth_X1_worthAt : GoodIn wsX1_reckonWidth wsX1_worthAt := goodIn_ca (goodIn_r _ [6, 7, 11, 12, 13, 14, 15] (by decide +kernel) (by decide +kernel)) (goodIn_sub (fun _ h => List.mem_cons_of_mem _ (List.mem_append_right _ h)) (by decide +kernel))
set_option maxRecDepth 20000 in
theorem gX1_reckonWidth_X1_worthAt : GoodIn wsX1_reckonWidth (wsV RX1 50 RX1 yX1_worthAt wsX1_worthAt) := goodIn_app (goodIn_of _ (by decide +kernel)) ggX1_reckonWidth_X1_worthAt
set_option maxRecDepth 20000 in
theorem ggX1_reckonWidth_X1_signsOf : GoodIn wsX1_reckonWidth wsX1_signsOf := goodIn_r _ [10] (by decide +kernel) (by decide +kernel)
set_option maxRecDepth 20000 in
theorem gX1_reckonWidth_X1_signsOf : GoodIn wsX1_reckonWidth (va_wsS RX1 68 yX1_signsOf wsX1_signsOf) := goodIn_app (goodIn_of _ (by decide +kernel)) ggX1_reckonWidth_X1_signsOf
theorem dX1_reckonWidth_0 : decode cX1_reckonWidth 0 = .ok (.iconst 2, 1) := by decide +kernel
theorem dX1_reckonWidth_1 : decode cX1_reckonWidth 1 = .ok (.istore_n 1, 1) := by decide +kernel
theorem dX1_reckonWidth_2 : decode cX1_reckonWidth 2 = .ok (.iconst 0, 1) := by decide +kernel
theorem dX1_reckonWidth_3 : decode cX1_reckonWidth 3 = .ok (.istore_n 2, 1) := by decide +kernel
theorem dX1_reckonWidth_4 : decode cX1_reckonWidth 4 = .ok (.iload_n 2, 1) := by decide +kernel
theorem dX1_reckonWidth_5 : decode cX1_reckonWidth 5 = .ok (.bipush 64, 2) := by decide +kernel
theorem dX1_reckonWidth_7 : decode cX1_reckonWidth 7 = .ok (.if_icmp .ge 34, 3) := by decide +kernel
theorem dX1_reckonWidth_10 : decode cX1_reckonWidth 10 = .ok (.aload_n 0, 1) := by decide +kernel
theorem dX1_reckonWidth_11 : decode cX1_reckonWidth 11 = .ok (.iload_n 2, 1) := by decide +kernel
theorem dX1_reckonWidth_12 : decode cX1_reckonWidth 12 = .ok (.invokevirtual 50, 3) := by decide +kernel
theorem dX1_reckonWidth_15 : decode cX1_reckonWidth 15 = .ok (.istore_n 3, 1) := by decide +kernel
theorem dX1_reckonWidth_16 : decode cX1_reckonWidth 16 = .ok (.iload_n 3, 1) := by decide +kernel
theorem dX1_reckonWidth_17 : decode cX1_reckonWidth 17 = .ok (.iconst (-1), 1) := by decide +kernel
theorem dX1_reckonWidth_18 : decode cX1_reckonWidth 18 = .ok (.if_icmp .eq 17, 3) := by decide +kernel
theorem dX1_reckonWidth_21 : decode cX1_reckonWidth 21 = .ok (.iload_n 1, 1) := by decide +kernel
theorem dX1_reckonWidth_22 : decode cX1_reckonWidth 22 = .ok (.iload_n 2, 1) := by decide +kernel
theorem dX1_reckonWidth_23 : decode cX1_reckonWidth 23 = .ok (.invokestatic 68, 3) := by decide +kernel
theorem dX1_reckonWidth_26 : decode cX1_reckonWidth 26 = .ok (.iconst 1, 1) := by decide +kernel
theorem dX1_reckonWidth_27 : decode cX1_reckonWidth 27 = .ok (.iadd, 1) := by decide +kernel
theorem dX1_reckonWidth_28 : decode cX1_reckonWidth 28 = .ok (.iload_n 3, 1) := by decide +kernel
theorem dX1_reckonWidth_29 : decode cX1_reckonWidth 29 = .ok (.invokestatic 68, 3) := by decide +kernel
theorem dX1_reckonWidth_32 : decode cX1_reckonWidth 32 = .ok (.iadd, 1) := by decide +kernel
theorem dX1_reckonWidth_33 : decode cX1_reckonWidth 33 = .ok (.iadd, 1) := by decide +kernel
theorem dX1_reckonWidth_34 : decode cX1_reckonWidth 34 = .ok (.istore_n 1, 1) := by decide +kernel
theorem dX1_reckonWidth_35 : decode cX1_reckonWidth 35 = .ok (.iinc 2 1, 3) := by decide +kernel
theorem dX1_reckonWidth_38 : decode cX1_reckonWidth 38 = .ok (.goto (-34), 3) := by decide +kernel
theorem dX1_reckonWidth_41 : decode cX1_reckonWidth 41 = .ok (.aload_n 0, 1) := by decide +kernel
theorem dX1_reckonWidth_42 : decode cX1_reckonWidth 42 = .ok (.getfield 29, 3) := by decide +kernel
theorem dX1_reckonWidth_45 : decode cX1_reckonWidth 45 = .ok (.iconst 1, 1) := by decide +kernel
theorem dX1_reckonWidth_46 : decode cX1_reckonWidth 46 = .ok (.if_icmp .le 16, 3) := by decide +kernel
theorem dX1_reckonWidth_49 : decode cX1_reckonWidth 49 = .ok (.iload_n 1, 1) := by decide +kernel
theorem dX1_reckonWidth_50 : decode cX1_reckonWidth 50 = .ok (.iconst 2, 1) := by decide +kernel
theorem dX1_reckonWidth_51 : decode cX1_reckonWidth 51 = .ok (.aload_n 0, 1) := by decide +kernel
theorem dX1_reckonWidth_52 : decode cX1_reckonWidth 52 = .ok (.getfield 29, 3) := by decide +kernel
theorem dX1_reckonWidth_55 : decode cX1_reckonWidth 55 = .ok (.iconst 1, 1) := by decide +kernel
theorem dX1_reckonWidth_56 : decode cX1_reckonWidth 56 = .ok (.isub, 1) := by decide +kernel
theorem dX1_reckonWidth_57 : decode cX1_reckonWidth 57 = .ok (.imul, 1) := by decide +kernel
theorem dX1_reckonWidth_58 : decode cX1_reckonWidth 58 = .ok (.iadd, 1) := by decide +kernel
theorem dX1_reckonWidth_59 : decode cX1_reckonWidth 59 = .ok (.goto 4, 3) := by decide +kernel
theorem dX1_reckonWidth_62 : decode cX1_reckonWidth 62 = .ok (.iload_n 1, 1) := by decide +kernel
theorem dX1_reckonWidth_63 : decode cX1_reckonWidth 63 = .ok (.ireturn, 1) := by decide +kernel
theorem dX1_signsOf_0 : decode cX1_signsOf 0 = .ok (.iload_n 0, 1) := by decide +kernel
theorem dX1_signsOf_1 : decode cX1_signsOf 1 = .ok (.bipush 10, 2) := by decide +kernel
theorem dX1_signsOf_3 : decode cX1_signsOf 3 = .ok (.if_icmp .ge 7, 3) := by decide +kernel
theorem dX1_signsOf_6 : decode cX1_signsOf 6 = .ok (.iconst 1, 1) := by decide +kernel
theorem dX1_signsOf_7 : decode cX1_signsOf 7 = .ok (.goto 4, 3) := by decide +kernel
theorem dX1_signsOf_10 : decode cX1_signsOf 10 = .ok (.iconst 2, 1) := by decide +kernel
theorem dX1_signsOf_11 : decode cX1_signsOf 11 = .ok (.ireturn, 1) := by decide +kernel
theorem dX2_init_0 : decode cX2_init 0 = .ok (.aload_n 0, 1) := by decide +kernel
theorem dX2_init_1 : decode cX2_init 1 = .ok (.invokespecial 3, 3) := by decide +kernel
theorem dX2_init_4 : decode cX2_init 4 = .ok (.return_, 1) := by decide +kernel
theorem dX2_end_0 : decode cX2_end 0 = .ok (.aload_n 0, 1) := by decide +kernel
theorem dX2_end_1 : decode cX2_end 1 = .ok (.iconst 0, 1) := by decide +kernel
theorem dX2_end_2 : decode cX2_end 2 = .ok (.putfield 9, 3) := by decide +kernel
theorem dX2_end_5 : decode cX2_end 5 = .ok (.return_, 1) := by decide +kernel
set_option maxRecDepth 20000 in
theorem ggX3_init_X1_init : GoodIn wsX3_init wsX1_init := goodIn_ca (goodIn_r _ [23, 24, 2, 3, 25, 26, 27, 28, 14, 15, 29, 30, 31, 32, 33, 66, 67, 68, 69, 70, 74, 75, 76, 77, 78] (by decide +kernel) (by decide +kernel)) (goodIn_sub (fun _ h => List.mem_cons_of_mem _ (List.mem_append_right _ h)) (by decide +kernel))
set_option maxRecDepth 20000 in
theorem gX3_init_X1_init : GoodIn wsX3_init (wsX1_init) := ggX3_init_X1_init
set_option maxRecDepth 20000 in
theorem ggX3_init_X0_init : GoodIn wsX3_init wsX0_init := goodIn_r _ [36, 37, 2, 3, 25, 38, 39, 71, 72, 73] (by decide +kernel) (by decide +kernel)
set_option maxRecDepth 20000 in
theorem gX3_init_X0_init : GoodIn wsX3_init (wsX0_init) := ggX3_init_X0_init
set_option maxRecDepth 20000 in
theorem ggX3_init_J4_init_da8c8 : GoodIn wsX3_init wsJ4_init_da8c8 := goodIn_r _ [42, 43, 44, 45, 46, 47, 2, 3, 48, 49, 50, 51, 52, 53, 54, 55, 56, 57, 58, 59, 79, 80, 81, 82] (by decide +kernel) (by decide +kernel)
set_option maxRecDepth 20000 in
theorem gX3_init_J4_init_da8c8 : GoodIn wsX3_init (wsJ4_init_da8c8) := ggX3_init_J4_init_da8c8
theorem dX3_init_0 : decode cX3_init 0 = .ok (.aload_n 0, 1) := by decide +kernel
theorem dX3_init_1 : decode cX3_init 1 = .ok (.invokespecial 1, 3) := by decide +kernel
theorem dX3_init_4 : decode cX3_init 4 = .ok (.aload_n 0, 1) := by decide +kernel
theorem dX3_init_5 : decode cX3_init 5 = .ok (.iconst 4, 1) := by decide +kernel
theorem dX3_init_6 : decode cX3_init 6 = .ok (.anewarray 9, 3) := by decide +kernel
theorem dX3_init_9 : decode cX3_init 9 = .ok (.putfield 11, 3) := by decide +kernel
theorem dX3_init_12 : decode cX3_init 12 = .ok (.iconst 0, 1) := by decide +kernel
theorem dX3_init_13 : decode cX3_init 13 = .ok (.istore_n 1, 1) := by decide +kernel
theorem dX3_init_14 : decode cX3_init 14 = .ok (.iload_n 1, 1) := by decide +kernel
theorem dX3_init_15 : decode cX3_init 15 = .ok (.aload_n 0, 1) := by decide +kernel
theorem dX3_init_16 : decode cX3_init 16 = .ok (.getfield 11, 3) := by decide +kernel
theorem dX3_init_19 : decode cX3_init 19 = .ok (.arraylength, 1) := by decide +kernel
theorem dX3_init_20 : decode cX3_init 20 = .ok (.if_icmp .ge 22, 3) := by decide +kernel
theorem dX3_init_23 : decode cX3_init 23 = .ok (.aload_n 0, 1) := by decide +kernel
theorem dX3_init_24 : decode cX3_init 24 = .ok (.getfield 11, 3) := by decide +kernel
theorem dX3_init_27 : decode cX3_init 27 = .ok (.iload_n 1, 1) := by decide +kernel
theorem dX3_init_28 : decode cX3_init 28 = .ok (.new 9, 3) := by decide +kernel
theorem dX3_init_31 : decode cX3_init 31 = .ok (.dup, 1) := by decide +kernel
theorem dX3_init_32 : decode cX3_init 32 = .ok (.invokespecial 15, 3) := by decide +kernel
theorem dX3_init_35 : decode cX3_init 35 = .ok (.aastore, 1) := by decide +kernel
theorem dX3_init_36 : decode cX3_init 36 = .ok (.iinc 1 1, 3) := by decide +kernel
theorem dX3_init_39 : decode cX3_init 39 = .ok (.goto (-25), 3) := by decide +kernel
theorem dX3_init_42 : decode cX3_init 42 = .ok (.aload_n 0, 1) := by decide +kernel
theorem dX3_init_43 : decode cX3_init 43 = .ok (.new 9, 3) := by decide +kernel
theorem dX3_init_46 : decode cX3_init 46 = .ok (.dup, 1) := by decide +kernel
theorem dX3_init_47 : decode cX3_init 47 = .ok (.invokespecial 15, 3) := by decide +kernel
theorem dX3_init_50 : decode cX3_init 50 = .ok (.putfield 16, 3) := by decide +kernel
theorem dX3_init_53 : decode cX3_init 53 = .ok (.aload_n 0, 1) := by decide +kernel
theorem dX3_init_54 : decode cX3_init 54 = .ok (.new 20, 3) := by decide +kernel
theorem dX3_init_57 : decode cX3_init 57 = .ok (.dup, 1) := by decide +kernel
theorem dX3_init_58 : decode cX3_init 58 = .ok (.invokespecial 22, 3) := by decide +kernel
theorem dX3_init_61 : decode cX3_init 61 = .ok (.putfield 23, 3) := by decide +kernel
theorem dX3_init_64 : decode cX3_init 64 = .ok (.aload_n 0, 1) := by decide +kernel
theorem dX3_init_65 : decode cX3_init 65 = .ok (.new 27, 3) := by decide +kernel
theorem dX3_init_68 : decode cX3_init 68 = .ok (.dup, 1) := by decide +kernel
theorem dX3_init_69 : decode cX3_init 69 = .ok (.invokespecial 29, 3) := by decide +kernel
theorem dX3_init_72 : decode cX3_init 72 = .ok (.putfield 30, 3) := by decide +kernel
theorem dX3_init_75 : decode cX3_init 75 = .ok (.aload_n 0, 1) := by decide +kernel
theorem dX3_init_76 : decode cX3_init 76 = .ok (.new 34, 3) := by decide +kernel
theorem dX3_init_79 : decode cX3_init 79 = .ok (.dup, 1) := by decide +kernel
theorem dX3_init_80 : decode cX3_init 80 = .ok (.invokespecial 36, 3) := by decide +kernel
theorem dX3_init_83 : decode cX3_init 83 = .ok (.putfield 37, 3) := by decide +kernel
theorem dX3_init_86 : decode cX3_init 86 = .ok (.return_, 1) := by decide +kernel
set_option maxRecDepth 20000 in
theorem ggX3_put_X3_tableAt : GoodIn wsX3_put wsX3_tableAt := goodIn_ca (goodIn_r _ [5, 6, 7, 8, 47, 48, 49, 50, 51, 52] (by decide +kernel) (by decide +kernel)) (goodIn_sub (fun _ h => List.mem_cons_of_mem _ (List.mem_append_left _ (List.mem_append_left _ (List.mem_append_right _ h)))) (by decide +kernel))
set_option maxRecDepth 20000 in
theorem gX3_put_X3_tableAt : GoodIn wsX3_put (wsV RX3 41 RX3 yX3_tableAt wsX3_tableAt) := goodIn_app (goodIn_of _ (by decide +kernel)) ggX3_put_X3_tableAt
set_option maxRecDepth 20000 in
theorem ggX3_put_X3_needName : GoodIn wsX3_put wsX3_needName := goodIn_ca (goodIn_r _ [11, 12, 13, 4, 14, 15, 16] (by decide +kernel) (by decide +kernel)) (goodIn_sub (fun _ h => List.mem_cons_of_mem _ (List.mem_append_left _ (List.mem_append_right _ h))) (by decide +kernel))
set_option maxRecDepth 20000 in
theorem gX3_put_X3_needName : GoodIn wsX3_put (va_wsS RX3 45 yX3_needName wsX3_needName) := goodIn_app (goodIn_of _ (by decide +kernel)) ggX3_put_X3_needName
set_option maxRecDepth 20000 in
theorem ggX3_put_X3_needWorth : GoodIn wsX3_put wsX3_needWorth := goodIn_ca (goodIn_r _ [19, 12, 13, 4, 14, 15, 16] (by decide +kernel) (by decide +kernel)) (goodIn_sub (fun _ h => List.mem_cons_of_mem _ (List.mem_append_left _ (List.mem_append_right _ h))) (by decide +kernel))
set_option maxRecDepth 20000 in
theorem gX3_put_X3_needWorth : GoodIn wsX3_put (va_wsS RX3 49 yX3_needWorth wsX3_needWorth) := goodIn_app (goodIn_of _ (by decide +kernel)) ggX3_put_X3_needWorth
set_option maxRecDepth 20000 in
theorem ggX3_put_X1_tell : GoodIn wsX3_put wsX1_tell := goodIn_r _ [24, 25, 26, 27, 28, 29, 30, 31, 53, 54, 55, 56, 57, 58, 59, 60, 61, 62] (by decide +kernel) (by decide +kernel)
set_option maxRecDepth 20000 in
theorem gX3_put_X1_tell : GoodIn wsX3_put (wsV RX3 52 RX1 yX1_tell wsX1_tell) := goodIn_app (goodIn_of _ (by decide +kernel)) ggX3_put_X1_tell
set_option maxRecDepth 20000 in
theorem ggX3_put_X1_lay : GoodIn wsX3_put wsX1_lay := goodIn_ca (goodIn_r _ [35, 36, 37, 38, 39, 40, 41, 23, 42, 43, 44, 45, 46, 53, 54, 55, 56, 57] (by decide +kernel) (by decide +kernel)) (goodIn_sub (fun _ h => List.mem_cons_of_mem _ (List.mem_append_right _ h)) (by decide +kernel))
set_option maxRecDepth 20000 in
theorem gX3_put_X1_lay : GoodIn wsX3_put (wsV RX3 55 RX1 yX1_lay wsX1_lay) := goodIn_app (goodIn_of _ (by decide +kernel)) ggX3_put_X1_lay
theorem dX3_put_0 : decode cX3_put 0 = .ok (.aload_n 0, 1) := by decide +kernel
theorem dX3_put_1 : decode cX3_put 1 = .ok (.iload_n 1, 1) := by decide +kernel
theorem dX3_put_2 : decode cX3_put 2 = .ok (.invokevirtual 41, 3) := by decide +kernel
theorem dX3_put_5 : decode cX3_put 5 = .ok (.astore 4, 2) := by decide +kernel
theorem dX3_put_7 : decode cX3_put 7 = .ok (.iload_n 2, 1) := by decide +kernel
theorem dX3_put_8 : decode cX3_put 8 = .ok (.invokestatic 45, 3) := by decide +kernel
theorem dX3_put_11 : decode cX3_put 11 = .ok (.iload_n 3, 1) := by decide +kernel
theorem dX3_put_12 : decode cX3_put 12 = .ok (.invokestatic 49, 3) := by decide +kernel
theorem dX3_put_15 : decode cX3_put 15 = .ok (.aload 4, 2) := by decide +kernel
theorem dX3_put_17 : decode cX3_put 17 = .ok (.invokevirtual 52, 3) := by decide +kernel
theorem dX3_put_20 : decode cX3_put 20 = .ok (.aload 4, 2) := by decide +kernel
theorem dX3_put_22 : decode cX3_put 22 = .ok (.iload_n 2, 1) := by decide +kernel
theorem dX3_put_23 : decode cX3_put 23 = .ok (.iload_n 3, 1) := by decide +kernel
theorem dX3_put_24 : decode cX3_put 24 = .ok (.invokevirtual 55, 3) := by decide +kernel
theorem dX3_put_27 : decode cX3_put 27 = .ok (.ireturn, 1) := by decide +kernel
set_option maxRecDepth 20000 in
theorem ggX3_width_X3_tableAt : GoodIn wsX3_width wsX3_tableAt := goodIn_ca (goodIn_r _ [5, 6, 7, 8, 23, 24, 25, 26, 27, 28] (by decide +kernel) (by decide +kernel)) (goodIn_sub (fun _ h => List.mem_cons_of_mem _ (List.mem_append_left _ (List.mem_append_right _ h))) (by decide +kernel))
set_option maxRecDepth 20000 in
theorem gX3_width_X3_tableAt : GoodIn wsX3_width (wsV RX3 41 RX3 yX3_tableAt wsX3_tableAt) := goodIn_app (goodIn_of _ (by decide +kernel)) ggX3_width_X3_tableAt
set_option maxRecDepth 20000 in
theorem ggX3_width_X1_reckonWidth : GoodIn wsX3_width wsX1_reckonWidth := goodIn_ca (goodIn_r _ [13, 14, 15, 16, 17, 12, 18, 19, 20, 21, 22, 29, 30, 31, 32, 33] (by decide +kernel) (by decide +kernel)) (goodIn_sub (fun _ h => List.mem_cons_of_mem _ (List.mem_append_right _ h)) (by decide +kernel))
set_option maxRecDepth 20000 in
theorem gX3_width_X1_reckonWidth : GoodIn wsX3_width (wsV RX3 149 RX1 yX1_reckonWidth wsX1_reckonWidth) := goodIn_app (goodIn_of _ (by decide +kernel)) ggX3_width_X1_reckonWidth
theorem dX3_width_0 : decode cX3_width 0 = .ok (.aload_n 0, 1) := by decide +kernel
theorem dX3_width_1 : decode cX3_width 1 = .ok (.iload_n 1, 1) := by decide +kernel
theorem dX3_width_2 : decode cX3_width 2 = .ok (.invokevirtual 41, 3) := by decide +kernel
theorem dX3_width_5 : decode cX3_width 5 = .ok (.invokevirtual 149, 3) := by decide +kernel
theorem dX3_width_8 : decode cX3_width 8 = .ok (.ireturn, 1) := by decide +kernel
theorem dX3_tableAt_0 : decode cX3_tableAt 0 = .ok (.iload_n 1, 1) := by decide +kernel
theorem dX3_tableAt_1 : decode cX3_tableAt 1 = .ok (.ifCond .lt 12, 3) := by decide +kernel
theorem dX3_tableAt_4 : decode cX3_tableAt 4 = .ok (.iload_n 1, 1) := by decide +kernel
theorem dX3_tableAt_5 : decode cX3_tableAt 5 = .ok (.aload_n 0, 1) := by decide +kernel
theorem dX3_tableAt_6 : decode cX3_tableAt 6 = .ok (.getfield 11, 3) := by decide +kernel
theorem dX3_tableAt_9 : decode cX3_tableAt 9 = .ok (.arraylength, 1) := by decide +kernel
theorem dX3_tableAt_10 : decode cX3_tableAt 10 = .ok (.if_icmp .lt 13, 3) := by decide +kernel
theorem dX3_tableAt_13 : decode cX3_tableAt 13 = .ok (.new 223, 3) := by decide +kernel
theorem dX3_tableAt_16 : decode cX3_tableAt 16 = .ok (.dup, 1) := by decide +kernel
theorem dX3_tableAt_17 : decode cX3_tableAt 17 = .ok (.ldc 225, 2) := by decide +kernel
theorem dX3_tableAt_19 : decode cX3_tableAt 19 = .ok (.invokespecial 227, 3) := by decide +kernel
theorem dX3_tableAt_22 : decode cX3_tableAt 22 = .ok (.athrow, 1) := by decide +kernel
theorem dX3_tableAt_23 : decode cX3_tableAt 23 = .ok (.aload_n 0, 1) := by decide +kernel
theorem dX3_tableAt_24 : decode cX3_tableAt 24 = .ok (.getfield 11, 3) := by decide +kernel
theorem dX3_tableAt_27 : decode cX3_tableAt 27 = .ok (.iload_n 1, 1) := by decide +kernel
theorem dX3_tableAt_28 : decode cX3_tableAt 28 = .ok (.aaload, 1) := by decide +kernel
theorem dX3_tableAt_29 : decode cX3_tableAt 29 = .ok (.areturn, 1) := by decide +kernel
theorem dX3_needIn_0 : decode cX3_needIn 0 = .ok (.iload_n 0, 1) := by decide +kernel
theorem dX3_needIn_1 : decode cX3_needIn 1 = .ok (.iload_n 1, 1) := by decide +kernel
theorem dX3_needIn_2 : decode cX3_needIn 2 = .ok (.if_icmp .lt 8, 3) := by decide +kernel
theorem dX3_needIn_5 : decode cX3_needIn 5 = .ok (.iload_n 0, 1) := by decide +kernel
theorem dX3_needIn_6 : decode cX3_needIn 6 = .ok (.iload_n 2, 1) := by decide +kernel
theorem dX3_needIn_7 : decode cX3_needIn 7 = .ok (.if_icmp .le 13, 3) := by decide +kernel
theorem dX3_needIn_10 : decode cX3_needIn 10 = .ok (.new 104, 3) := by decide +kernel
theorem dX3_needIn_13 : decode cX3_needIn 13 = .ok (.dup, 1) := by decide +kernel
theorem dX3_needIn_14 : decode cX3_needIn 14 = .ok (.ldc 228, 2) := by decide +kernel
theorem dX3_needIn_16 : decode cX3_needIn 16 = .ok (.invokespecial 108, 3) := by decide +kernel
theorem dX3_needIn_19 : decode cX3_needIn 19 = .ok (.athrow, 1) := by decide +kernel
theorem dX3_needIn_20 : decode cX3_needIn 20 = .ok (.return_, 1) := by decide +kernel
set_option maxRecDepth 20000 in
theorem ggX3_needName_X3_needIn : GoodIn wsX3_needName wsX3_needIn := goodIn_ca (goodIn_r _ [4, 5, 6] (by decide +kernel) (by decide +kernel)) (goodIn_sub (fun _ h => List.mem_cons_of_mem _ (List.mem_append_right _ h)) (by decide +kernel))
set_option maxRecDepth 20000 in
theorem gX3_needName_X3_needIn : GoodIn wsX3_needName (va_wsS RX3 72 yX3_needIn wsX3_needIn) := goodIn_app (goodIn_of _ (by decide +kernel)) ggX3_needName_X3_needIn
theorem dX3_needName_0 : decode cX3_needName 0 = .ok (.iload_n 0, 1) := by decide +kernel
theorem dX3_needName_1 : decode cX3_needName 1 = .ok (.iconst 0, 1) := by decide +kernel
theorem dX3_needName_2 : decode cX3_needName 2 = .ok (.bipush 63, 2) := by decide +kernel
theorem dX3_needName_4 : decode cX3_needName 4 = .ok (.invokestatic 72, 3) := by decide +kernel
theorem dX3_needName_7 : decode cX3_needName 7 = .ok (.return_, 1) := by decide +kernel
set_option maxRecDepth 20000 in
theorem ggX3_needWorth_X3_needIn : GoodIn wsX3_needWorth wsX3_needIn := goodIn_ca (goodIn_r _ [4, 5, 6] (by decide +kernel) (by decide +kernel)) (goodIn_sub (fun _ h => List.mem_cons_of_mem _ (List.mem_append_right _ h)) (by decide +kernel))
set_option maxRecDepth 20000 in
theorem gX3_needWorth_X3_needIn : GoodIn wsX3_needWorth (va_wsS RX3 72 yX3_needIn wsX3_needIn) := goodIn_app (goodIn_of _ (by decide +kernel)) ggX3_needWorth_X3_needIn
theorem dX3_needWorth_0 : decode cX3_needWorth 0 = .ok (.iload_n 0, 1) := by decide +kernel
theorem dX3_needWorth_1 : decode cX3_needWorth 1 = .ok (.iconst 0, 1) := by decide +kernel
theorem dX3_needWorth_2 : decode cX3_needWorth 2 = .ok (.bipush 99, 2) := by decide +kernel
theorem dX3_needWorth_4 : decode cX3_needWorth 4 = .ok (.invokestatic 72, 3) := by decide +kernel
theorem dX3_needWorth_7 : decode cX3_needWorth 7 = .ok (.return_, 1) := by decide +kernel
theorem dX4_init_0 : decode cX4_init 0 = .ok (.aload_n 0, 1) := by decide +kernel
theorem dX4_init_1 : decode cX4_init 1 = .ok (.invokespecial 1, 3) := by decide +kernel
theorem dX4_init_4 : decode cX4_init 4 = .ok (.return_, 1) := by decide +kernel
set_option maxRecDepth 20000 in
theorem ggX5_init_X5_empty : GoodIn wsX5_init wsX5_empty := goodIn_ca (goodIn_r _ [15, 6, 16, 17, 18, 19, 20, 21, 22] (by decide +kernel) (by decide +kernel)) (goodIn_sub (fun _ h => List.mem_cons_of_mem _ (List.mem_append_right _ h)) (by decide +kernel))
set_option maxRecDepth 20000 in
theorem gX5_init_X5_empty : GoodIn wsX5_init (wsV RX5 27 RX5 yX5_empty wsX5_empty) := goodIn_app (goodIn_of _ (by decide +kernel)) ggX5_init_X5_empty
theorem dX5_init_0 : decode cX5_init 0 = .ok (.aload_n 0, 1) := by decide +kernel
theorem dX5_init_1 : decode cX5_init 1 = .ok (.invokespecial 1, 3) := by decide +kernel
theorem dX5_init_4 : decode cX5_init 4 = .ok (.aload_n 0, 1) := by decide +kernel
theorem dX5_init_5 : decode cX5_init 5 = .ok (.iconst 4, 1) := by decide +kernel
theorem dX5_init_6 : decode cX5_init 6 = .ok (.bipush 64, 2) := by decide +kernel
theorem dX5_init_8 : decode cX5_init 8 = .ok (.multianewarray 9 2, 4) := by decide +kernel
theorem dX5_init_12 : decode cX5_init 12 = .ok (.putfield 11, 3) := by decide +kernel
theorem dX5_init_15 : decode cX5_init 15 = .ok (.aload_n 0, 1) := by decide +kernel
theorem dX5_init_16 : decode cX5_init 16 = .ok (.iconst 4, 1) := by decide +kernel
theorem dX5_init_17 : decode cX5_init 17 = .ok (.newarray .int, 2) := by decide +kernel
theorem dX5_init_19 : decode cX5_init 19 = .ok (.dup, 1) := by decide +kernel
theorem dX5_init_20 : decode cX5_init 20 = .ok (.iconst 0, 1) := by decide +kernel
theorem dX5_init_21 : decode cX5_init 21 = .ok (.iconst (-1), 1) := by decide +kernel
theorem dX5_init_22 : decode cX5_init 22 = .ok (.iastore, 1) := by decide +kernel
theorem dX5_init_23 : decode cX5_init 23 = .ok (.dup, 1) := by decide +kernel
theorem dX5_init_24 : decode cX5_init 24 = .ok (.iconst 1, 1) := by decide +kernel
theorem dX5_init_25 : decode cX5_init 25 = .ok (.iconst (-1), 1) := by decide +kernel
theorem dX5_init_26 : decode cX5_init 26 = .ok (.iastore, 1) := by decide +kernel
theorem dX5_init_27 : decode cX5_init 27 = .ok (.dup, 1) := by decide +kernel
theorem dX5_init_28 : decode cX5_init 28 = .ok (.iconst 2, 1) := by decide +kernel
theorem dX5_init_29 : decode cX5_init 29 = .ok (.iconst (-1), 1) := by decide +kernel
theorem dX5_init_30 : decode cX5_init 30 = .ok (.iastore, 1) := by decide +kernel
theorem dX5_init_31 : decode cX5_init 31 = .ok (.dup, 1) := by decide +kernel
theorem dX5_init_32 : decode cX5_init 32 = .ok (.iconst 3, 1) := by decide +kernel
theorem dX5_init_33 : decode cX5_init 33 = .ok (.iconst (-1), 1) := by decide +kernel
theorem dX5_init_34 : decode cX5_init 34 = .ok (.iastore, 1) := by decide +kernel
theorem dX5_init_35 : decode cX5_init 35 = .ok (.putfield 14, 3) := by decide +kernel
theorem dX5_init_38 : decode cX5_init 38 = .ok (.aload_n 0, 1) := by decide +kernel
theorem dX5_init_39 : decode cX5_init 39 = .ok (.iconst 4, 1) := by decide +kernel
theorem dX5_init_40 : decode cX5_init 40 = .ok (.newarray .int, 2) := by decide +kernel
theorem dX5_init_42 : decode cX5_init 42 = .ok (.putfield 18, 3) := by decide +kernel
theorem dX5_init_45 : decode cX5_init 45 = .ok (.aload_n 0, 1) := by decide +kernel
theorem dX5_init_46 : decode cX5_init 46 = .ok (.iconst 4, 1) := by decide +kernel
theorem dX5_init_47 : decode cX5_init 47 = .ok (.newarray .int, 2) := by decide +kernel
theorem dX5_init_49 : decode cX5_init 49 = .ok (.putfield 21, 3) := by decide +kernel
theorem dX5_init_52 : decode cX5_init 52 = .ok (.aload_n 0, 1) := by decide +kernel
theorem dX5_init_53 : decode cX5_init 53 = .ok (.iconst 4, 1) := by decide +kernel
theorem dX5_init_54 : decode cX5_init 54 = .ok (.newarray .int, 2) := by decide +kernel
theorem dX5_init_56 : decode cX5_init 56 = .ok (.dup, 1) := by decide +kernel
theorem dX5_init_57 : decode cX5_init 57 = .ok (.iconst 0, 1) := by decide +kernel
theorem dX5_init_58 : decode cX5_init 58 = .ok (.iconst (-1), 1) := by decide +kernel
theorem dX5_init_59 : decode cX5_init 59 = .ok (.iastore, 1) := by decide +kernel
theorem dX5_init_60 : decode cX5_init 60 = .ok (.dup, 1) := by decide +kernel
theorem dX5_init_61 : decode cX5_init 61 = .ok (.iconst 1, 1) := by decide +kernel
theorem dX5_init_62 : decode cX5_init 62 = .ok (.iconst (-1), 1) := by decide +kernel
theorem dX5_init_63 : decode cX5_init 63 = .ok (.iastore, 1) := by decide +kernel
theorem dX5_init_64 : decode cX5_init 64 = .ok (.dup, 1) := by decide +kernel
theorem dX5_init_65 : decode cX5_init 65 = .ok (.iconst 2, 1) := by decide +kernel
theorem dX5_init_66 : decode cX5_init 66 = .ok (.iconst (-1), 1) := by decide +kernel
theorem dX5_init_67 : decode cX5_init 67 = .ok (.iastore, 1) := by decide +kernel
theorem dX5_init_68 : decode cX5_init 68 = .ok (.dup, 1) := by decide +kernel
theorem dX5_init_69 : decode cX5_init 69 = .ok (.iconst 3, 1) := by decide +kernel
theorem dX5_init_70 : decode cX5_init 70 = .ok (.iconst (-1), 1) := by decide +kernel
theorem dX5_init_71 : decode cX5_init 71 = .ok (.iastore, 1) := by decide +kernel
theorem dX5_init_72 : decode cX5_init 72 = .ok (.putfield 24, 3) := by decide +kernel
theorem dX5_init_75 : decode cX5_init 75 = .ok (.iconst 0, 1) := by decide +kernel
theorem dX5_init_76 : decode cX5_init 76 = .ok (.istore_n 1, 1) := by decide +kernel
theorem dX5_init_77 : decode cX5_init 77 = .ok (.iload_n 1, 1) := by decide +kernel
theorem dX5_init_78 : decode cX5_init 78 = .ok (.iconst 4, 1) := by decide +kernel
theorem dX5_init_79 : decode cX5_init 79 = .ok (.if_icmp .ge 14, 3) := by decide +kernel
theorem dX5_init_82 : decode cX5_init 82 = .ok (.aload_n 0, 1) := by decide +kernel
theorem dX5_init_83 : decode cX5_init 83 = .ok (.iload_n 1, 1) := by decide +kernel
theorem dX5_init_84 : decode cX5_init 84 = .ok (.invokevirtual 27, 3) := by decide +kernel
theorem dX5_init_87 : decode cX5_init 87 = .ok (.iinc 1 1, 3) := by decide +kernel
theorem dX5_init_90 : decode cX5_init 90 = .ok (.goto (-13), 3) := by decide +kernel
theorem dX5_init_93 : decode cX5_init 93 = .ok (.return_, 1) := by decide +kernel
theorem dX5_fails_0 : decode cX5_fails 0 = .ok (.aload_n 0, 1) := by decide +kernel
theorem dX5_fails_1 : decode cX5_fails 1 = .ok (.iload_n 1, 1) := by decide +kernel
theorem dX5_fails_2 : decode cX5_fails 2 = .ok (.ifCond .eq 7, 3) := by decide +kernel
theorem dX5_fails_5 : decode cX5_fails 5 = .ok (.iconst 1, 1) := by decide +kernel
theorem dX5_fails_6 : decode cX5_fails 6 = .ok (.goto 20, 3) := by decide +kernel
theorem dX5_fails_9 : decode cX5_fails 9 = .ok (.iload_n 2, 1) := by decide +kernel
theorem dX5_fails_10 : decode cX5_fails 10 = .ok (.ifCond .eq 7, 3) := by decide +kernel
theorem dX5_fails_13 : decode cX5_fails 13 = .ok (.iconst 2, 1) := by decide +kernel
theorem dX5_fails_14 : decode cX5_fails 14 = .ok (.goto 12, 3) := by decide +kernel
theorem dX5_fails_17 : decode cX5_fails 17 = .ok (.iload_n 3, 1) := by decide +kernel
theorem dX5_fails_18 : decode cX5_fails 18 = .ok (.ifCond .eq 7, 3) := by decide +kernel
theorem dX5_fails_21 : decode cX5_fails 21 = .ok (.iconst 3, 1) := by decide +kernel
theorem dX5_fails_22 : decode cX5_fails 22 = .ok (.goto 4, 3) := by decide +kernel
theorem dX5_fails_25 : decode cX5_fails 25 = .ok (.iconst 0, 1) := by decide +kernel
theorem dX5_fails_26 : decode cX5_fails 26 = .ok (.putfield 31, 3) := by decide +kernel
theorem dX5_fails_29 : decode cX5_fails 29 = .ok (.aload_n 0, 1) := by decide +kernel
theorem dX5_fails_30 : decode cX5_fails 30 = .ok (.getfield 31, 3) := by decide +kernel
theorem dX5_fails_33 : decode cX5_fails 33 = .ok (.ifCond .le 7, 3) := by decide +kernel
theorem dX5_fails_36 : decode cX5_fails 36 = .ok (.iconst 1, 1) := by decide +kernel
theorem dX5_fails_37 : decode cX5_fails 37 = .ok (.goto 4, 3) := by decide +kernel
theorem dX5_fails_40 : decode cX5_fails 40 = .ok (.iconst 0, 1) := by decide +kernel
theorem dX5_fails_41 : decode cX5_fails 41 = .ok (.ireturn, 1) := by decide +kernel
set_option maxRecDepth 20000 in
theorem ggX5_fails__X5_fails : GoodIn wsX5_fails_ wsX5_fails := goodIn_r _ [5, 6, 7, 8, 9, 10, 11, 12, 13] (by decide +kernel) (by decide +kernel)
set_option maxRecDepth 20000 in
theorem gX5_fails__X5_fails : GoodIn wsX5_fails_ (wsV RX5 35 RX5 yX5_fails wsX5_fails) := goodIn_app (goodIn_of _ (by decide +kernel)) ggX5_fails__X5_fails
theorem dX5_fails__0 : decode cX5_fails_ 0 = .ok (.aload_n 0, 1) := by decide +kernel
theorem dX5_fails__1 : decode cX5_fails_ 1 = .ok (.iload_n 1, 1) := by decide +kernel
theorem dX5_fails__2 : decode cX5_fails_ 2 = .ok (.iload_n 2, 1) := by decide +kernel
theorem dX5_fails__3 : decode cX5_fails_ 3 = .ok (.iconst 0, 1) := by decide +kernel
theorem dX5_fails__4 : decode cX5_fails_ 4 = .ok (.invokevirtual 35, 3) := by decide +kernel
theorem dX5_fails__7 : decode cX5_fails_ 7 = .ok (.ireturn, 1) := by decide +kernel
theorem dX5_isIn_0 : decode cX5_isIn 0 = .ok (.iload_n 0, 1) := by decide +kernel
theorem dX5_isIn_1 : decode cX5_isIn 1 = .ok (.iload_n 1, 1) := by decide +kernel
theorem dX5_isIn_2 : decode cX5_isIn 2 = .ok (.if_icmp .lt 12, 3) := by decide +kernel
theorem dX5_isIn_5 : decode cX5_isIn 5 = .ok (.iload_n 0, 1) := by decide +kernel
theorem dX5_isIn_6 : decode cX5_isIn 6 = .ok (.iload_n 2, 1) := by decide +kernel
theorem dX5_isIn_7 : decode cX5_isIn 7 = .ok (.if_icmp .gt 7, 3) := by decide +kernel
theorem dX5_isIn_10 : decode cX5_isIn 10 = .ok (.iconst 1, 1) := by decide +kernel
theorem dX5_isIn_11 : decode cX5_isIn 11 = .ok (.goto 4, 3) := by decide +kernel
theorem dX5_isIn_14 : decode cX5_isIn 14 = .ok (.iconst 0, 1) := by decide +kernel
theorem dX5_isIn_15 : decode cX5_isIn 15 = .ok (.ireturn, 1) := by decide +kernel
set_option maxRecDepth 20000 in
theorem ggX5_isNo_X5_isIn : GoodIn wsX5_isNo wsX5_isIn := goodIn_r _ [4] (by decide +kernel) (by decide +kernel)
set_option maxRecDepth 20000 in
theorem gX5_isNo_X5_isIn : GoodIn wsX5_isNo (va_wsS RX5 39 yX5_isIn wsX5_isIn) := goodIn_app (goodIn_of _ (by decide +kernel)) ggX5_isNo_X5_isIn
theorem dX5_isNo_0 : decode cX5_isNo 0 = .ok (.iload_n 0, 1) := by decide +kernel
theorem dX5_isNo_1 : decode cX5_isNo 1 = .ok (.iconst 0, 1) := by decide +kernel
theorem dX5_isNo_2 : decode cX5_isNo 2 = .ok (.iconst 3, 1) := by decide +kernel
theorem dX5_isNo_3 : decode cX5_isNo 3 = .ok (.invokestatic 39, 3) := by decide +kernel
theorem dX5_isNo_6 : decode cX5_isNo 6 = .ok (.ifCond .ne 7, 3) := by decide +kernel
theorem dX5_isNo_9 : decode cX5_isNo 9 = .ok (.iconst 1, 1) := by decide +kernel
theorem dX5_isNo_10 : decode cX5_isNo 10 = .ok (.goto 4, 3) := by decide +kernel
theorem dX5_isNo_13 : decode cX5_isNo 13 = .ok (.iconst 0, 1) := by decide +kernel
theorem dX5_isNo_14 : decode cX5_isNo 14 = .ok (.ireturn, 1) := by decide +kernel
set_option maxRecDepth 20000 in
theorem ggX5_isNoName_X5_isIn : GoodIn wsX5_isNoName wsX5_isIn := goodIn_r _ [4] (by decide +kernel) (by decide +kernel)
set_option maxRecDepth 20000 in
theorem gX5_isNoName_X5_isIn : GoodIn wsX5_isNoName (va_wsS RX5 39 yX5_isIn wsX5_isIn) := goodIn_app (goodIn_of _ (by decide +kernel)) ggX5_isNoName_X5_isIn
theorem dX5_isNoName_0 : decode cX5_isNoName 0 = .ok (.iload_n 0, 1) := by decide +kernel
theorem dX5_isNoName_1 : decode cX5_isNoName 1 = .ok (.iconst 0, 1) := by decide +kernel
theorem dX5_isNoName_2 : decode cX5_isNoName 2 = .ok (.bipush 63, 2) := by decide +kernel
theorem dX5_isNoName_4 : decode cX5_isNoName 4 = .ok (.invokestatic 39, 3) := by decide +kernel
theorem dX5_isNoName_7 : decode cX5_isNoName 7 = .ok (.ifCond .ne 7, 3) := by decide +kernel
theorem dX5_isNoName_10 : decode cX5_isNoName 10 = .ok (.iconst 1, 1) := by decide +kernel
theorem dX5_isNoName_11 : decode cX5_isNoName 11 = .ok (.goto 4, 3) := by decide +kernel
theorem dX5_isNoName_14 : decode cX5_isNoName 14 = .ok (.iconst 0, 1) := by decide +kernel
theorem dX5_isNoName_15 : decode cX5_isNoName 15 = .ok (.ireturn, 1) := by decide +kernel
set_option maxRecDepth 20000 in
theorem ggX5_isNoWorth_X5_isIn : GoodIn wsX5_isNoWorth wsX5_isIn := goodIn_r _ [4] (by decide +kernel) (by decide +kernel)
set_option maxRecDepth 20000 in
theorem gX5_isNoWorth_X5_isIn : GoodIn wsX5_isNoWorth (va_wsS RX5 39 yX5_isIn wsX5_isIn) := goodIn_app (goodIn_of _ (by decide +kernel)) ggX5_isNoWorth_X5_isIn
theorem dX5_isNoWorth_0 : decode cX5_isNoWorth 0 = .ok (.iload_n 0, 1) := by decide +kernel
theorem dX5_isNoWorth_1 : decode cX5_isNoWorth 1 = .ok (.iconst 0, 1) := by decide +kernel
theorem dX5_isNoWorth_2 : decode cX5_isNoWorth 2 = .ok (.bipush 99, 2) := by decide +kernel
theorem dX5_isNoWorth_4 : decode cX5_isNoWorth 4 = .ok (.invokestatic 39, 3) := by decide +kernel
theorem dX5_isNoWorth_7 : decode cX5_isNoWorth 7 = .ok (.ifCond .ne 7, 3) := by decide +kernel
theorem dX5_isNoWorth_10 : decode cX5_isNoWorth 10 = .ok (.iconst 1, 1) := by decide +kernel
theorem dX5_isNoWorth_11 : decode cX5_isNoWorth 11 = .ok (.goto 4, 3) := by decide +kernel
theorem dX5_isNoWorth_14 : decode cX5_isNoWorth 14 = .ok (.iconst 0, 1) := by decide +kernel
theorem dX5_isNoWorth_15 : decode cX5_isNoWorth 15 = .ok (.ireturn, 1) := by decide +kernel
theorem dX5_empty_0 : decode cX5_empty 0 = .ok (.iconst 0, 1) := by decide +kernel
theorem dX5_empty_1 : decode cX5_empty 1 = .ok (.istore_n 2, 1) := by decide +kernel
theorem dX5_empty_2 : decode cX5_empty 2 = .ok (.iload_n 2, 1) := by decide +kernel
theorem dX5_empty_3 : decode cX5_empty 3 = .ok (.bipush 64, 2) := by decide +kernel
theorem dX5_empty_5 : decode cX5_empty 5 = .ok (.if_icmp .ge 18, 3) := by decide +kernel
theorem dX5_empty_8 : decode cX5_empty 8 = .ok (.aload_n 0, 1) := by decide +kernel
theorem dX5_empty_9 : decode cX5_empty 9 = .ok (.getfield 11, 3) := by decide +kernel
theorem dX5_empty_12 : decode cX5_empty 12 = .ok (.iload_n 1, 1) := by decide +kernel
theorem dX5_empty_13 : decode cX5_empty 13 = .ok (.aaload, 1) := by decide +kernel
theorem dX5_empty_14 : decode cX5_empty 14 = .ok (.iload_n 2, 1) := by decide +kernel
theorem dX5_empty_15 : decode cX5_empty 15 = .ok (.iconst (-1), 1) := by decide +kernel
theorem dX5_empty_16 : decode cX5_empty 16 = .ok (.iastore, 1) := by decide +kernel
theorem dX5_empty_17 : decode cX5_empty 17 = .ok (.iinc 2 1, 3) := by decide +kernel
theorem dX5_empty_20 : decode cX5_empty 20 = .ok (.goto (-18), 3) := by decide +kernel
theorem dX5_empty_23 : decode cX5_empty 23 = .ok (.return_, 1) := by decide +kernel
theorem dX5_tell_0 : decode cX5_tell 0 = .ok (.aload_n 0, 1) := by decide +kernel
theorem dX5_tell_1 : decode cX5_tell 1 = .ok (.getfield 14, 3) := by decide +kernel
theorem dX5_tell_4 : decode cX5_tell 4 = .ok (.iload_n 1, 1) := by decide +kernel
theorem dX5_tell_5 : decode cX5_tell 5 = .ok (.iconst (-1), 1) := by decide +kernel
theorem dX5_tell_6 : decode cX5_tell 6 = .ok (.iastore, 1) := by decide +kernel
theorem dX5_tell_7 : decode cX5_tell 7 = .ok (.return_, 1) := by decide +kernel
theorem dX5_set_0 : decode cX5_set 0 = .ok (.aload_n 0, 1) := by decide +kernel
theorem dX5_set_1 : decode cX5_set 1 = .ok (.getfield 11, 3) := by decide +kernel
theorem dX5_set_4 : decode cX5_set 4 = .ok (.iload_n 1, 1) := by decide +kernel
theorem dX5_set_5 : decode cX5_set 5 = .ok (.aaload, 1) := by decide +kernel
theorem dX5_set_6 : decode cX5_set 6 = .ok (.iload_n 2, 1) := by decide +kernel
theorem dX5_set_7 : decode cX5_set 7 = .ok (.iaload, 1) := by decide +kernel
theorem dX5_set_8 : decode cX5_set 8 = .ok (.istore 4, 2) := by decide +kernel
theorem dX5_set_10 : decode cX5_set 10 = .ok (.aload_n 0, 1) := by decide +kernel
theorem dX5_set_11 : decode cX5_set 11 = .ok (.getfield 11, 3) := by decide +kernel
theorem dX5_set_14 : decode cX5_set 14 = .ok (.iload_n 1, 1) := by decide +kernel
theorem dX5_set_15 : decode cX5_set 15 = .ok (.aaload, 1) := by decide +kernel
theorem dX5_set_16 : decode cX5_set 16 = .ok (.iload_n 2, 1) := by decide +kernel
theorem dX5_set_17 : decode cX5_set 17 = .ok (.iload_n 3, 1) := by decide +kernel
theorem dX5_set_18 : decode cX5_set 18 = .ok (.iastore, 1) := by decide +kernel
theorem dX5_set_19 : decode cX5_set 19 = .ok (.iload 4, 2) := by decide +kernel
theorem dX5_set_21 : decode cX5_set 21 = .ok (.ireturn, 1) := by decide +kernel
set_option maxRecDepth 20000 in
theorem ggX5_put_X5_isNo : GoodIn wsX5_put wsX5_isNo := goodIn_r _ [4, 5, 6, 3, 7] (by decide +kernel) (by decide +kernel)
set_option maxRecDepth 20000 in
theorem gX5_put_X5_isNo : GoodIn wsX5_put (va_wsS RX5 47 yX5_isNo wsX5_isNo) := goodIn_app (goodIn_of _ (by decide +kernel)) ggX5_put_X5_isNo
set_option maxRecDepth 20000 in
theorem ggX5_put_X5_isNoName : GoodIn wsX5_put wsX5_isNoName := goodIn_r _ [10, 5, 6, 3, 7] (by decide +kernel) (by decide +kernel)
set_option maxRecDepth 20000 in
theorem gX5_put_X5_isNoName : GoodIn wsX5_put (va_wsS RX5 51 yX5_isNoName wsX5_isNoName) := goodIn_app (goodIn_of _ (by decide +kernel)) ggX5_put_X5_isNoName
set_option maxRecDepth 20000 in
theorem ggX5_put_X5_isNoWorth : GoodIn wsX5_put wsX5_isNoWorth := goodIn_r _ [13, 5, 6, 3, 7] (by decide +kernel) (by decide +kernel)
set_option maxRecDepth 20000 in
theorem gX5_put_X5_isNoWorth : GoodIn wsX5_put (va_wsS RX5 54 yX5_isNoWorth wsX5_isNoWorth) := goodIn_app (goodIn_of _ (by decide +kernel)) ggX5_put_X5_isNoWorth
set_option maxRecDepth 20000 in
theorem ggX5_put_X5_fails_ : GoodIn wsX5_put wsX5_fails_ := goodIn_r _ [17, 18, 19, 20, 3, 21, 22, 33, 34, 35, 36, 37, 38, 39] (by decide +kernel) (by decide +kernel)
set_option maxRecDepth 20000 in
theorem gX5_put_X5_fails_ : GoodIn wsX5_put (wsV RX5 57 RX5 yX5_fails_ wsX5_fails_) := goodIn_app (goodIn_of _ (by decide +kernel)) ggX5_put_X5_fails_
set_option maxRecDepth 20000 in
theorem ggX5_put_X5_tell : GoodIn wsX5_put wsX5_tell := goodIn_ca (goodIn_r _ [26, 27, 33, 34, 35, 36, 37, 38, 39] (by decide +kernel) (by decide +kernel)) (goodIn_sub (fun _ h => List.mem_cons_of_mem _ (List.mem_append_right _ h)) (by decide +kernel))
set_option maxRecDepth 20000 in
theorem gX5_put_X5_tell : GoodIn wsX5_put (wsV RX5 60 RX5 yX5_tell wsX5_tell) := goodIn_app (goodIn_of _ (by decide +kernel)) ggX5_put_X5_tell
set_option maxRecDepth 20000 in
theorem ggX5_put_X5_set : GoodIn wsX5_put wsX5_set := goodIn_ca (goodIn_r _ [31, 32, 33, 34, 35, 36, 37, 38, 39] (by decide +kernel) (by decide +kernel)) (goodIn_sub (fun _ h => List.mem_cons_of_mem _ (List.mem_append_right _ h)) (by decide +kernel))
set_option maxRecDepth 20000 in
theorem gX5_put_X5_set : GoodIn wsX5_put (wsV RX5 63 RX5 yX5_set wsX5_set) := goodIn_app (goodIn_of _ (by decide +kernel)) ggX5_put_X5_set
theorem dX5_put_0 : decode cX5_put 0 = .ok (.aload_n 0, 1) := by decide +kernel
theorem dX5_put_1 : decode cX5_put 1 = .ok (.iload_n 1, 1) := by decide +kernel
theorem dX5_put_2 : decode cX5_put 2 = .ok (.invokestatic 47, 3) := by decide +kernel
theorem dX5_put_5 : decode cX5_put 5 = .ok (.iload_n 2, 1) := by decide +kernel
theorem dX5_put_6 : decode cX5_put 6 = .ok (.invokestatic 51, 3) := by decide +kernel
theorem dX5_put_9 : decode cX5_put 9 = .ok (.ifCond .ne 10, 3) := by decide +kernel
theorem dX5_put_12 : decode cX5_put 12 = .ok (.iload_n 3, 1) := by decide +kernel
theorem dX5_put_13 : decode cX5_put 13 = .ok (.invokestatic 54, 3) := by decide +kernel
theorem dX5_put_16 : decode cX5_put 16 = .ok (.ifCond .eq 7, 3) := by decide +kernel
theorem dX5_put_19 : decode cX5_put 19 = .ok (.iconst 1, 1) := by decide +kernel
theorem dX5_put_20 : decode cX5_put 20 = .ok (.goto 4, 3) := by decide +kernel
theorem dX5_put_23 : decode cX5_put 23 = .ok (.iconst 0, 1) := by decide +kernel
theorem dX5_put_24 : decode cX5_put 24 = .ok (.invokevirtual 57, 3) := by decide +kernel
theorem dX5_put_27 : decode cX5_put 27 = .ok (.ifCond .eq 5, 3) := by decide +kernel
theorem dX5_put_30 : decode cX5_put 30 = .ok (.iconst 0, 1) := by decide +kernel
theorem dX5_put_31 : decode cX5_put 31 = .ok (.ireturn, 1) := by decide +kernel
theorem dX5_put_32 : decode cX5_put 32 = .ok (.aload_n 0, 1) := by decide +kernel
theorem dX5_put_33 : decode cX5_put 33 = .ok (.iload_n 1, 1) := by decide +kernel
theorem dX5_put_34 : decode cX5_put 34 = .ok (.invokevirtual 60, 3) := by decide +kernel
theorem dX5_put_37 : decode cX5_put 37 = .ok (.aload_n 0, 1) := by decide +kernel
theorem dX5_put_38 : decode cX5_put 38 = .ok (.iload_n 1, 1) := by decide +kernel
theorem dX5_put_39 : decode cX5_put 39 = .ok (.iload_n 2, 1) := by decide +kernel
theorem dX5_put_40 : decode cX5_put 40 = .ok (.iload_n 3, 1) := by decide +kernel
theorem dX5_put_41 : decode cX5_put 41 = .ok (.invokevirtual 63, 3) := by decide +kernel
theorem dX5_put_44 : decode cX5_put 44 = .ok (.ireturn, 1) := by decide +kernel
set_option maxRecDepth 20000 in
theorem ggX5_textOf_J4_init_da8c8 : GoodIn wsX5_textOf wsJ4_init_da8c8 := goodIn_r _ [7, 8, 9, 10, 11, 12, 13, 14, 15, 16, 17, 18, 19, 20, 21, 22, 23, 24, 25, 26, 248, 249, 250, 251] (by decide +kernel) (by decide +kernel)
set_option maxRecDepth 20000 in
theorem gX5_textOf_J4_init_da8c8 : GoodIn wsX5_textOf (wsJ4_init_da8c8) := ggX5_textOf_J4_init_da8c8
set_option maxRecDepth 20000 in
theorem ggX5_textOf_J4_append_15ec4 : GoodIn wsX5_textOf wsJ4_append_15ec4 := goodIn_r _ [30, 31, 32, 33, 34, 10, 35, 36, 37, 38, 39, 40, 41, 17, 42, 43, 44, 45, 46, 18, 47, 48, 49, 50, 51, 52, 53, 54, 55, 56, 57, 58, 59, 60, 61, 62, 63, 64, 65, 66, 67, 68, 69, 70, 71, 72, 73, 74, 16, 75, 76, 77, 78, 79, 80, 81, 82, 83, 84, 85, 86, 15, 87, 88, 21, 89, 90, 91, 92, 93, 94, 95, 96, 97, 98, 99, 100, 101, 102, 103, 104, 105, 106, 107, 108, 109, 110, 111, 112, 113, 114, 115, 116, 117, 118, 119, 120, 121, 122, 123, 124, 125, 126, 127, 128, 129, 130, 131, 132, 133, 134, 135, 136, 137, 19, 20, 22, 23, 24, 25, 26, 138, 139, 140, 141, 142, 143, 144, 145, 146, 147, 148, 149, 150, 151, 152, 153, 154, 155, 156, 157, 158, 159, 248, 249, 250, 251, 252, 253, 254, 255] (by decide +kernel) (by decide +kernel)
set_option maxRecDepth 20000 in
theorem gX5_textOf_J4_append_15ec4 : GoodIn wsX5_textOf (wsV RX5 121 RJ4 yJ4_append_15ec4 wsJ4_append_15ec4) := goodIn_app (goodIn_of _ (by decide +kernel)) ggX5_textOf_J4_append_15ec4
set_option maxRecDepth 20000 in
theorem ggX5_textOf_J0_isEmpty_aae02 : GoodIn wsX5_textOf wsJ0_isEmpty_aae02 := goodIn_r _ [163, 115, 252, 253, 254, 255] (by decide +kernel) (by decide +kernel)
set_option maxRecDepth 20000 in
theorem gX5_textOf_J0_isEmpty_aae02 : GoodIn wsX5_textOf (wsV RX5 125 RJ0 yJ0_isEmpty_aae02 wsJ0_isEmpty_aae02) := goodIn_app (goodIn_of _ (by decide +kernel)) ggX5_textOf_J0_isEmpty_aae02
set_option maxRecDepth 20000 in
theorem ggX5_textOf_J4_append_bf812 : GoodIn wsX5_textOf wsJ4_append_bf812 := goodIn_r _ [167, 168, 169, 33, 170, 10, 171, 36, 17, 172, 173, 174, 175, 42, 43, 44, 45, 46, 18, 47, 48, 49, 50, 51, 52, 53, 54, 55, 56, 57, 58, 59, 60, 61, 62, 63, 64, 65, 66, 67, 68, 69, 70, 71, 72, 73, 74, 16, 75, 76, 77, 78, 79, 80, 81, 82, 83, 84, 85, 86, 15, 176, 177, 178, 179, 180, 181, 182, 21, 183, 90, 91, 92, 93, 94, 95, 96, 97, 98, 99, 100, 101, 102, 103, 104, 105, 184, 185, 186, 187, 188, 106, 107, 108, 109, 110, 248, 249, 250, 251] (by decide +kernel) (by decide +kernel)
set_option maxRecDepth 20000 in
theorem gX5_textOf_J4_append_bf812 : GoodIn wsX5_textOf (wsV RX5 131 RJ4 yJ4_append_bf812 wsJ4_append_bf812) := goodIn_app (goodIn_of _ (by decide +kernel)) ggX5_textOf_J4_append_bf812
set_option maxRecDepth 20000 in
theorem ggX5_textOf_J4_toString_0e30d : GoodIn wsX5_textOf wsJ4_toString_0e30d := goodIn_r _ [192, 193, 194, 99, 195, 196, 197, 198, 199, 200, 201, 13, 14, 121, 115, 120, 202, 203, 204, 205, 206, 10, 207, 17, 208, 209, 210, 211, 212, 4, 213, 214, 33, 215, 216, 36, 217, 83, 84, 85, 86, 15, 18, 218, 219, 67, 220, 69, 70, 71, 72, 73, 74, 221, 222, 223, 16, 75, 76, 59, 77, 78, 79, 80, 81, 224, 225, 226, 227, 3, 228, 229, 21, 230, 231, 232, 233, 145, 146, 147, 94, 95, 96, 148, 149, 150, 101, 151, 152, 104, 153, 234, 235, 236, 90, 109, 110, 23, 24, 25, 26, 237, 238, 239, 240, 252, 253, 254, 255, 248, 249, 250, 251] (by decide +kernel) (by decide +kernel)
set_option maxRecDepth 20000 in
theorem gX5_textOf_J4_toString_0e30d : GoodIn wsX5_textOf (wsV RX5 136 RJ4 yJ4_toString_0e30d wsJ4_toString_0e30d) := goodIn_app (goodIn_of _ (by decide +kernel)) ggX5_textOf_J4_toString_0e30d
theorem dX5_textOf_0 : decode cX5_textOf 0 = .ok (.ldc 116, 2) := by decide +kernel
theorem dX5_textOf_2 : decode cX5_textOf 2 = .ok (.astore_n 3, 1) := by decide +kernel
theorem dX5_textOf_3 : decode cX5_textOf 3 = .ok (.iconst 0, 1) := by decide +kernel
theorem dX5_textOf_4 : decode cX5_textOf 4 = .ok (.istore 4, 2) := by decide +kernel
theorem dX5_textOf_6 : decode cX5_textOf 6 = .ok (.iload 4, 2) := by decide +kernel
theorem dX5_textOf_8 : decode cX5_textOf 8 = .ok (.bipush 64, 2) := by decide +kernel
theorem dX5_textOf_10 : decode cX5_textOf 10 = .ok (.if_icmp .ge 75, 3) := by decide +kernel
theorem dX5_textOf_13 : decode cX5_textOf 13 = .ok (.aload_n 0, 1) := by decide +kernel
theorem dX5_textOf_14 : decode cX5_textOf 14 = .ok (.getfield 11, 3) := by decide +kernel
theorem dX5_textOf_17 : decode cX5_textOf 17 = .ok (.iload_n 1, 1) := by decide +kernel
theorem dX5_textOf_18 : decode cX5_textOf 18 = .ok (.aaload, 1) := by decide +kernel
theorem dX5_textOf_19 : decode cX5_textOf 19 = .ok (.iload 4, 2) := by decide +kernel
theorem dX5_textOf_21 : decode cX5_textOf 21 = .ok (.iaload, 1) := by decide +kernel
theorem dX5_textOf_22 : decode cX5_textOf 22 = .ok (.iconst (-1), 1) := by decide +kernel
theorem dX5_textOf_23 : decode cX5_textOf 23 = .ok (.if_icmp .eq 56, 3) := by decide +kernel
theorem dX5_textOf_26 : decode cX5_textOf 26 = .ok (.new 118, 3) := by decide +kernel
theorem dX5_textOf_29 : decode cX5_textOf 29 = .ok (.dup, 1) := by decide +kernel
theorem dX5_textOf_30 : decode cX5_textOf 30 = .ok (.invokespecial 120, 3) := by decide +kernel
theorem dX5_textOf_33 : decode cX5_textOf 33 = .ok (.aload_n 3, 1) := by decide +kernel
theorem dX5_textOf_34 : decode cX5_textOf 34 = .ok (.invokevirtual 121, 3) := by decide +kernel
theorem dX5_textOf_37 : decode cX5_textOf 37 = .ok (.aload_n 3, 1) := by decide +kernel
theorem dX5_textOf_38 : decode cX5_textOf 38 = .ok (.invokevirtual 125, 3) := by decide +kernel
theorem dX5_textOf_41 : decode cX5_textOf 41 = .ok (.ifCond .eq 8, 3) := by decide +kernel
theorem dX5_textOf_44 : decode cX5_textOf 44 = .ok (.ldc 116, 2) := by decide +kernel
theorem dX5_textOf_46 : decode cX5_textOf 46 = .ok (.goto 4, 3) := by decide +kernel
theorem dX5_textOf_49 : decode cX5_textOf 49 = .ok (.aload_n 2, 1) := by decide +kernel
theorem dX5_textOf_50 : decode cX5_textOf 50 = .ok (.invokevirtual 121, 3) := by decide +kernel
theorem dX5_textOf_53 : decode cX5_textOf 53 = .ok (.iload 4, 2) := by decide +kernel
theorem dX5_textOf_55 : decode cX5_textOf 55 = .ok (.invokevirtual 131, 3) := by decide +kernel
theorem dX5_textOf_58 : decode cX5_textOf 58 = .ok (.ldc 134, 2) := by decide +kernel
theorem dX5_textOf_60 : decode cX5_textOf 60 = .ok (.invokevirtual 121, 3) := by decide +kernel
theorem dX5_textOf_63 : decode cX5_textOf 63 = .ok (.aload_n 0, 1) := by decide +kernel
theorem dX5_textOf_64 : decode cX5_textOf 64 = .ok (.getfield 11, 3) := by decide +kernel
theorem dX5_textOf_67 : decode cX5_textOf 67 = .ok (.iload_n 1, 1) := by decide +kernel
theorem dX5_textOf_68 : decode cX5_textOf 68 = .ok (.aaload, 1) := by decide +kernel
theorem dX5_textOf_69 : decode cX5_textOf 69 = .ok (.iload 4, 2) := by decide +kernel
theorem dX5_textOf_71 : decode cX5_textOf 71 = .ok (.iaload, 1) := by decide +kernel
theorem dX5_textOf_72 : decode cX5_textOf 72 = .ok (.invokevirtual 131, 3) := by decide +kernel
theorem dX5_textOf_75 : decode cX5_textOf 75 = .ok (.invokevirtual 136, 3) := by decide +kernel
theorem dX5_textOf_78 : decode cX5_textOf 78 = .ok (.astore_n 3, 1) := by decide +kernel
theorem dX5_textOf_79 : decode cX5_textOf 79 = .ok (.iinc 4 1, 3) := by decide +kernel
theorem dX5_textOf_82 : decode cX5_textOf 82 = .ok (.goto (-76), 3) := by decide +kernel
theorem dX5_textOf_85 : decode cX5_textOf 85 = .ok (.aload_n 3, 1) := by decide +kernel
theorem dX5_textOf_86 : decode cX5_textOf 86 = .ok (.areturn, 1) := by decide +kernel
set_option maxRecDepth 20000 in
theorem ggX5_width_X5_isNo : GoodIn wsX5_width wsX5_isNo := goodIn_r _ [4, 5, 6, 3, 7] (by decide +kernel) (by decide +kernel)
set_option maxRecDepth 20000 in
theorem gX5_width_X5_isNo : GoodIn wsX5_width (va_wsS RX5 47 yX5_isNo wsX5_isNo) := goodIn_app (goodIn_of _ (by decide +kernel)) ggX5_width_X5_isNo
set_option maxRecDepth 20000 in
theorem ggX5_width_X5_fails_ : GoodIn wsX5_width wsX5_fails_ := goodIn_r _ [11, 12, 13, 14, 3, 15, 16, 262, 263, 264, 265, 266, 267, 268] (by decide +kernel) (by decide +kernel)
set_option maxRecDepth 20000 in
theorem gX5_width_X5_fails_ : GoodIn wsX5_width (wsV RX5 57 RX5 yX5_fails_ wsX5_fails_) := goodIn_app (goodIn_of _ (by decide +kernel)) ggX5_width_X5_fails_
set_option maxRecDepth 20000 in
theorem ggX5_width_X5_textOf : GoodIn wsX5_width wsX5_textOf := goodIn_ca (goodIn_r _ [20, 21, 22, 23, 24, 25, 26, 27, 28, 29, 30, 31, 32, 33, 34, 35, 36, 37, 38, 39, 40, 41, 42, 43, 44, 45, 46, 47, 48, 49, 50, 51, 52, 53, 54, 55, 56, 57, 58, 59, 60, 61, 62, 63, 64, 65, 66, 67, 68, 69, 70, 71, 72, 73, 74, 75, 76, 77, 78, 79, 80, 81, 82, 83, 84, 85, 86, 87, 88, 89, 90, 91, 92, 93, 94, 95, 96, 97, 98, 99, 100, 101, 102, 103, 104, 105, 106, 107, 108, 109, 110, 111, 112, 113, 114, 115, 116, 117, 118, 119, 120, 121, 122, 123, 124, 125, 126, 127, 128, 129, 130, 131, 132, 133, 134, 135, 136, 137, 138, 139, 140, 141, 142, 143, 144, 145, 146, 147, 148, 149, 150, 151, 152, 153, 154, 155, 156, 157, 158, 159, 160, 161, 162, 163, 164, 165, 166, 167, 168, 169, 170, 171, 172, 173, 174, 175, 176, 177, 178, 179, 180, 181, 182, 183, 184, 185, 186, 187, 188, 189, 190, 191, 192, 193, 194, 195, 196, 197, 198, 199, 200, 201, 202, 203, 204, 205, 206, 207, 208, 209, 210, 211, 212, 213, 214, 215, 216, 217, 218, 219, 220, 221, 222, 223, 224, 225, 226, 227, 228, 229, 230, 231, 232, 233, 234, 235, 236, 237, 238, 239, 240, 241, 242, 243, 244, 245, 246, 247, 248, 249, 250, 251, 252, 253, 254, 255, 256, 257, 258, 259, 260, 262, 263, 264, 265, 266, 267, 268, 269, 270, 271, 272, 273, 274, 275, 276] (by decide +kernel) (by decide +kernel)) (goodIn_sub (fun _ h => List.mem_cons_of_mem _ (List.mem_append_right _ h)) (by decide +kernel))
set_option maxRecDepth 20000 in
theorem gX5_width_X5_textOf : GoodIn wsX5_width (wsV RX5 142 RX5 yX5_textOf wsX5_textOf) := goodIn_app (goodIn_of _ (by decide +kernel)) ggX5_width_X5_textOf
set_option maxRecDepth 20000 in
theorem ggX5_width_J0_length_8abf5 : GoodIn wsX5_width wsJ0_length_8abf5 := goodIn_r _ [134, 135, 136, 137, 138, 119, 139, 140, 141, 273, 274, 275, 276] (by decide +kernel) (by decide +kernel)
set_option maxRecDepth 20000 in
theorem gX5_width_J0_length_8abf5 : GoodIn wsX5_width (wsV RX5 154 RJ0 yJ0_length_8abf5 wsJ0_length_8abf5) := goodIn_app (goodIn_of _ (by decide +kernel)) ggX5_width_J0_length_8abf5
theorem dX5_width_0 : decode cX5_width 0 = .ok (.aload_n 0, 1) := by decide +kernel
theorem dX5_width_1 : decode cX5_width 1 = .ok (.iload_n 1, 1) := by decide +kernel
theorem dX5_width_2 : decode cX5_width 2 = .ok (.invokestatic 47, 3) := by decide +kernel
theorem dX5_width_5 : decode cX5_width 5 = .ok (.iconst 0, 1) := by decide +kernel
theorem dX5_width_6 : decode cX5_width 6 = .ok (.invokevirtual 57, 3) := by decide +kernel
theorem dX5_width_9 : decode cX5_width 9 = .ok (.ifCond .eq 7, 3) := by decide +kernel
theorem dX5_width_12 : decode cX5_width 12 = .ok (.iconst 0, 1) := by decide +kernel
theorem dX5_width_13 : decode cX5_width 13 = .ok (.goto 15, 3) := by decide +kernel
theorem dX5_width_16 : decode cX5_width 16 = .ok (.iconst 2, 1) := by decide +kernel
theorem dX5_width_17 : decode cX5_width 17 = .ok (.aload_n 0, 1) := by decide +kernel
theorem dX5_width_18 : decode cX5_width 18 = .ok (.iload_n 1, 1) := by decide +kernel
theorem dX5_width_19 : decode cX5_width 19 = .ok (.ldc 152, 2) := by decide +kernel
theorem dX5_width_21 : decode cX5_width 21 = .ok (.invokevirtual 142, 3) := by decide +kernel
theorem dX5_width_24 : decode cX5_width 24 = .ok (.invokevirtual 154, 3) := by decide +kernel
theorem dX5_width_27 : decode cX5_width 27 = .ok (.iadd, 1) := by decide +kernel
theorem dX5_width_28 : decode cX5_width 28 = .ok (.ireturn, 1) := by decide +kernel
theorem dJ5_init_d00df_0 : decode cJ5_init_d00df 0 = .ok (.aload_n 0, 1) := by decide +kernel
theorem dJ5_init_d00df_1 : decode cJ5_init_d00df 1 = .ok (.invokespecial 3, 3) := by decide +kernel
theorem dJ5_init_d00df_4 : decode cJ5_init_d00df 4 = .ok (.getstatic 18, 3) := by decide +kernel
theorem dJ5_init_d00df_7 : decode cJ5_init_d00df 7 = .ok (.ifCond .eq 18, 3) := by decide +kernel
theorem dJ5_init_d00df_10 : decode cJ5_init_d00df 10 = .ok (.aload_n 0, 1) := by decide +kernel
theorem dJ5_init_d00df_11 : decode cJ5_init_d00df 11 = .ok (.iload_n 1, 1) := by decide +kernel
theorem dJ5_init_d00df_12 : decode cJ5_init_d00df 12 = .ok (.newarray .byte, 2) := by decide +kernel
theorem dJ5_init_d00df_14 : decode cJ5_init_d00df 14 = .ok (.putfield 15, 3) := by decide +kernel
theorem dJ5_init_d00df_17 : decode cJ5_init_d00df 17 = .ok (.aload_n 0, 1) := by decide +kernel
theorem dJ5_init_d00df_18 : decode cJ5_init_d00df 18 = .ok (.iconst 0, 1) := by decide +kernel
theorem dJ5_init_d00df_19 : decode cJ5_init_d00df 19 = .ok (.putfield 22, 3) := by decide +kernel
theorem dJ5_init_d00df_22 : decode cJ5_init_d00df 22 = .ok (.goto 16, 3) := by decide +kernel
theorem dJ5_init_d00df_25 : decode cJ5_init_d00df 25 = .ok (.aload_n 0, 1) := by decide +kernel
theorem dJ5_init_d00df_26 : decode cJ5_init_d00df 26 = .ok (.iload_n 1, 1) := by decide +kernel
theorem dJ5_init_d00df_27 : decode cJ5_init_d00df 27 = .ok (.invokestatic 26, 3) := by decide +kernel
theorem dJ5_init_d00df_30 : decode cJ5_init_d00df 30 = .ok (.putfield 15, 3) := by decide +kernel
theorem dJ5_init_d00df_33 : decode cJ5_init_d00df 33 = .ok (.aload_n 0, 1) := by decide +kernel
theorem dJ5_init_d00df_34 : decode cJ5_init_d00df 34 = .ok (.iconst 1, 1) := by decide +kernel
theorem dJ5_init_d00df_35 : decode cJ5_init_d00df 35 = .ok (.putfield 22, 3) := by decide +kernel
theorem dJ5_init_d00df_38 : decode cJ5_init_d00df 38 = .ok (.return_, 1) := by decide +kernel
theorem dJ5_length_8abf5_0 : decode cJ5_length_8abf5 0 = .ok (.aload_n 0, 1) := by decide +kernel
theorem dJ5_length_8abf5_1 : decode cJ5_length_8abf5 1 = .ok (.getfield 79, 3) := by decide +kernel
theorem dJ5_length_8abf5_4 : decode cJ5_length_8abf5 4 = .ok (.ireturn, 1) := by decide +kernel
set_option maxRecDepth 20000 in
theorem ggJ5_ensureCapacityInternal_d00df_J5_newCapacity_0f7a4 : GoodIn wsJ5_ensureCapacityInternal_d00df wsJ5_newCapacity_0f7a4 := goodIn_r _ [8, 1, 2, 9, 10, 11, 12, 13, 14, 15, 16, 17, 18, 19, 20, 21, 40, 41, 42, 43] (by decide +kernel) (by decide +kernel)
set_option maxRecDepth 20000 in
theorem gJ5_ensureCapacityInternal_d00df_J5_newCapacity_0f7a4_u104J4 : GoodIn wsJ5_ensureCapacityInternal_d00df (va_wsU RJ5 104 RJ4 "java/lang/AbstractStringBuilder" ⟨"java/lang/AbstractStringBuilder", "newCapacity", "(I)I"⟩ yJ5_newCapacity_0f7a4 wsJ5_newCapacity_0f7a4) := goodIn_app (goodIn_of _ (by decide +kernel)) ggJ5_ensureCapacityInternal_d00df_J5_newCapacity_0f7a4
set_option maxRecDepth 20000 in
theorem ggJ5_ensureCapacityInternal_d00df_J7_copyOf_9075b : GoodIn wsJ5_ensureCapacityInternal_d00df wsJ7_copyOf_9075b := goodIn_r _ [25, 26, 27, 28, 29, 30, 31, 32, 33, 34, 16, 35, 36, 37, 38, 39] (by decide +kernel) (by decide +kernel)
set_option maxRecDepth 20000 in
theorem gJ5_ensureCapacityInternal_d00df_J7_copyOf_9075b : GoodIn wsJ5_ensureCapacityInternal_d00df (va_wsS RJ5 108 yJ7_copyOf_9075b wsJ7_copyOf_9075b) := goodIn_app (goodIn_of _ (by decide +kernel)) ggJ5_ensureCapacityInternal_d00df_J7_copyOf_9075b
theorem dJ5_ensureCapacityInternal_d00df_0 : decode cJ5_ensureCapacityInternal_d00df 0 = .ok (.aload_n 0, 1) := by decide +kernel
theorem dJ5_ensureCapacityInternal_d00df_1 : decode cJ5_ensureCapacityInternal_d00df 1 = .ok (.getfield 15, 3) := by decide +kernel
theorem dJ5_ensureCapacityInternal_d00df_4 : decode cJ5_ensureCapacityInternal_d00df 4 = .ok (.arraylength, 1) := by decide +kernel
theorem dJ5_ensureCapacityInternal_d00df_5 : decode cJ5_ensureCapacityInternal_d00df 5 = .ok (.aload_n 0, 1) := by decide +kernel
theorem dJ5_ensureCapacityInternal_d00df_6 : decode cJ5_ensureCapacityInternal_d00df 6 = .ok (.getfield 22, 3) := by decide +kernel
theorem dJ5_ensureCapacityInternal_d00df_9 : decode cJ5_ensureCapacityInternal_d00df 9 = .ok (.ishr, 1) := by decide +kernel
theorem dJ5_ensureCapacityInternal_d00df_10 : decode cJ5_ensureCapacityInternal_d00df 10 = .ok (.istore_n 2, 1) := by decide +kernel
theorem dJ5_ensureCapacityInternal_d00df_11 : decode cJ5_ensureCapacityInternal_d00df 11 = .ok (.iload_n 1, 1) := by decide +kernel
theorem dJ5_ensureCapacityInternal_d00df_12 : decode cJ5_ensureCapacityInternal_d00df 12 = .ok (.iload_n 2, 1) := by decide +kernel
theorem dJ5_ensureCapacityInternal_d00df_13 : decode cJ5_ensureCapacityInternal_d00df 13 = .ok (.isub, 1) := by decide +kernel
theorem dJ5_ensureCapacityInternal_d00df_14 : decode cJ5_ensureCapacityInternal_d00df 14 = .ok (.ifCond .le 24, 3) := by decide +kernel
theorem dJ5_ensureCapacityInternal_d00df_17 : decode cJ5_ensureCapacityInternal_d00df 17 = .ok (.aload_n 0, 1) := by decide +kernel
theorem dJ5_ensureCapacityInternal_d00df_18 : decode cJ5_ensureCapacityInternal_d00df 18 = .ok (.aload_n 0, 1) := by decide +kernel
theorem dJ5_ensureCapacityInternal_d00df_19 : decode cJ5_ensureCapacityInternal_d00df 19 = .ok (.getfield 15, 3) := by decide +kernel
theorem dJ5_ensureCapacityInternal_d00df_22 : decode cJ5_ensureCapacityInternal_d00df 22 = .ok (.aload_n 0, 1) := by decide +kernel
theorem dJ5_ensureCapacityInternal_d00df_23 : decode cJ5_ensureCapacityInternal_d00df 23 = .ok (.iload_n 1, 1) := by decide +kernel
theorem dJ5_ensureCapacityInternal_d00df_24 : decode cJ5_ensureCapacityInternal_d00df 24 = .ok (.invokevirtual 104, 3) := by decide +kernel
theorem dJ5_ensureCapacityInternal_d00df_27 : decode cJ5_ensureCapacityInternal_d00df 27 = .ok (.aload_n 0, 1) := by decide +kernel
theorem dJ5_ensureCapacityInternal_d00df_28 : decode cJ5_ensureCapacityInternal_d00df 28 = .ok (.getfield 22, 3) := by decide +kernel
theorem dJ5_ensureCapacityInternal_d00df_31 : decode cJ5_ensureCapacityInternal_d00df 31 = .ok (.ishl, 1) := by decide +kernel
theorem dJ5_ensureCapacityInternal_d00df_32 : decode cJ5_ensureCapacityInternal_d00df 32 = .ok (.invokestatic 108, 3) := by decide +kernel
theorem dJ5_ensureCapacityInternal_d00df_35 : decode cJ5_ensureCapacityInternal_d00df 35 = .ok (.putfield 15, 3) := by decide +kernel
theorem dJ5_ensureCapacityInternal_d00df_38 : decode cJ5_ensureCapacityInternal_d00df 38 = .ok (.return_, 1) := by decide +kernel
set_option maxRecDepth 20000 in
theorem ggJ5_newCapacity_0f7a4_J8_newLength_cabcc : GoodIn wsJ5_newCapacity_0f7a4 wsJ8_newLength_cabcc := goodIn_r _ [7, 8, 9, 10, 11, 12, 13, 14, 6, 15] (by decide +kernel) (by decide +kernel)
set_option maxRecDepth 20000 in
theorem gJ5_newCapacity_0f7a4_J8_newLength_cabcc : GoodIn wsJ5_newCapacity_0f7a4 (va_wsS RJ5 114 yJ8_newLength_cabcc wsJ8_newLength_cabcc) := goodIn_app (goodIn_of _ (by decide +kernel)) ggJ5_newCapacity_0f7a4_J8_newLength_cabcc
theorem dJ5_newCapacity_0f7a4_0 : decode cJ5_newCapacity_0f7a4 0 = .ok (.aload_n 0, 1) := by decide +kernel
theorem dJ5_newCapacity_0f7a4_1 : decode cJ5_newCapacity_0f7a4 1 = .ok (.getfield 15, 3) := by decide +kernel
theorem dJ5_newCapacity_0f7a4_4 : decode cJ5_newCapacity_0f7a4 4 = .ok (.arraylength, 1) := by decide +kernel
theorem dJ5_newCapacity_0f7a4_5 : decode cJ5_newCapacity_0f7a4 5 = .ok (.istore_n 2, 1) := by decide +kernel
theorem dJ5_newCapacity_0f7a4_6 : decode cJ5_newCapacity_0f7a4 6 = .ok (.iload_n 1, 1) := by decide +kernel
theorem dJ5_newCapacity_0f7a4_7 : decode cJ5_newCapacity_0f7a4 7 = .ok (.aload_n 0, 1) := by decide +kernel
theorem dJ5_newCapacity_0f7a4_8 : decode cJ5_newCapacity_0f7a4 8 = .ok (.getfield 22, 3) := by decide +kernel
theorem dJ5_newCapacity_0f7a4_11 : decode cJ5_newCapacity_0f7a4 11 = .ok (.ishl, 1) := by decide +kernel
theorem dJ5_newCapacity_0f7a4_12 : decode cJ5_newCapacity_0f7a4 12 = .ok (.istore_n 3, 1) := by decide +kernel
theorem dJ5_newCapacity_0f7a4_13 : decode cJ5_newCapacity_0f7a4 13 = .ok (.iload_n 3, 1) := by decide +kernel
theorem dJ5_newCapacity_0f7a4_14 : decode cJ5_newCapacity_0f7a4 14 = .ok (.iload_n 2, 1) := by decide +kernel
theorem dJ5_newCapacity_0f7a4_15 : decode cJ5_newCapacity_0f7a4 15 = .ok (.isub, 1) := by decide +kernel
theorem dJ5_newCapacity_0f7a4_16 : decode cJ5_newCapacity_0f7a4 16 = .ok (.istore 4, 2) := by decide +kernel
theorem dJ5_newCapacity_0f7a4_18 : decode cJ5_newCapacity_0f7a4 18 = .ok (.iload_n 2, 1) := by decide +kernel
theorem dJ5_newCapacity_0f7a4_19 : decode cJ5_newCapacity_0f7a4 19 = .ok (.iload 4, 2) := by decide +kernel
theorem dJ5_newCapacity_0f7a4_21 : decode cJ5_newCapacity_0f7a4 21 = .ok (.iload_n 2, 1) := by decide +kernel
theorem dJ5_newCapacity_0f7a4_22 : decode cJ5_newCapacity_0f7a4 22 = .ok (.iconst 2, 1) := by decide +kernel
theorem dJ5_newCapacity_0f7a4_23 : decode cJ5_newCapacity_0f7a4 23 = .ok (.aload_n 0, 1) := by decide +kernel
theorem dJ5_newCapacity_0f7a4_24 : decode cJ5_newCapacity_0f7a4 24 = .ok (.getfield 22, 3) := by decide +kernel
theorem dJ5_newCapacity_0f7a4_27 : decode cJ5_newCapacity_0f7a4 27 = .ok (.ishl, 1) := by decide +kernel
theorem dJ5_newCapacity_0f7a4_28 : decode cJ5_newCapacity_0f7a4 28 = .ok (.iadd, 1) := by decide +kernel
theorem dJ5_newCapacity_0f7a4_29 : decode cJ5_newCapacity_0f7a4 29 = .ok (.invokestatic 114, 3) := by decide +kernel
theorem dJ5_newCapacity_0f7a4_32 : decode cJ5_newCapacity_0f7a4 32 = .ok (.istore 5, 2) := by decide +kernel
theorem dJ5_newCapacity_0f7a4_34 : decode cJ5_newCapacity_0f7a4 34 = .ok (.iload 5, 2) := by decide +kernel
theorem dJ5_newCapacity_0f7a4_36 : decode cJ5_newCapacity_0f7a4 36 = .ok (.ldc 39, 2) := by decide +kernel
theorem dJ5_newCapacity_0f7a4_38 : decode cJ5_newCapacity_0f7a4 38 = .ok (.if_icmp .ne 13, 3) := by decide +kernel
theorem dJ5_newCapacity_0f7a4_41 : decode cJ5_newCapacity_0f7a4 41 = .ok (.new 120, 3) := by decide +kernel
theorem dJ5_newCapacity_0f7a4_44 : decode cJ5_newCapacity_0f7a4 44 = .ok (.dup, 1) := by decide +kernel
theorem dJ5_newCapacity_0f7a4_45 : decode cJ5_newCapacity_0f7a4 45 = .ok (.ldc 122, 2) := by decide +kernel
theorem dJ5_newCapacity_0f7a4_47 : decode cJ5_newCapacity_0f7a4 47 = .ok (.invokespecial 124, 3) := by decide +kernel
theorem dJ5_newCapacity_0f7a4_50 : decode cJ5_newCapacity_0f7a4 50 = .ok (.athrow, 1) := by decide +kernel
theorem dJ5_newCapacity_0f7a4_51 : decode cJ5_newCapacity_0f7a4 51 = .ok (.iload 5, 2) := by decide +kernel
theorem dJ5_newCapacity_0f7a4_53 : decode cJ5_newCapacity_0f7a4 53 = .ok (.aload_n 0, 1) := by decide +kernel
theorem dJ5_newCapacity_0f7a4_54 : decode cJ5_newCapacity_0f7a4 54 = .ok (.getfield 22, 3) := by decide +kernel
theorem dJ5_newCapacity_0f7a4_57 : decode cJ5_newCapacity_0f7a4 57 = .ok (.ishr, 1) := by decide +kernel
theorem dJ5_newCapacity_0f7a4_58 : decode cJ5_newCapacity_0f7a4 58 = .ok (.ireturn, 1) := by decide +kernel
set_option maxRecDepth 20000 in
theorem ggJ5_append_cf1ce_J0_length_8abf5 : GoodIn wsJ5_append_cf1ce wsJ0_length_8abf5 := goodIn_r _ [85, 86, 87, 88, 89, 70, 90, 91, 92, 142, 143, 144, 145] (by decide +kernel) (by decide +kernel)
set_option maxRecDepth 20000 in
theorem gJ5_append_cf1ce_J0_length_8abf5 : GoodIn wsJ5_append_cf1ce (wsV RJ5 32 RJ0 yJ0_length_8abf5 wsJ0_length_8abf5) := goodIn_app (goodIn_of _ (by decide +kernel)) ggJ5_append_cf1ce_J0_length_8abf5
set_option maxRecDepth 20000 in
theorem ggJ5_append_cf1ce_J5_ensureCapacityInternal_d00df : GoodIn wsJ5_append_cf1ce wsJ5_ensureCapacityInternal_d00df := goodIn_r _ [13, 8, 14, 15, 16, 17, 18, 6, 19, 20, 21, 22, 23, 24, 25, 26, 27, 28, 29, 30, 31, 32, 33, 34, 35, 36, 37, 38, 39, 40, 41, 42, 43, 44, 45, 46, 47, 48, 49, 50, 138, 139, 140, 141] (by decide +kernel) (by decide +kernel)
set_option maxRecDepth 20000 in
theorem gJ5_append_cf1ce_J5_ensureCapacityInternal_d00df_u100J4 : GoodIn wsJ5_append_cf1ce (va_wsU RJ5 100 RJ4 "java/lang/AbstractStringBuilder" ⟨"java/lang/AbstractStringBuilder", "ensureCapacityInternal", "(I)V"⟩ yJ5_ensureCapacityInternal_d00df wsJ5_ensureCapacityInternal_d00df) := goodIn_app (goodIn_of _ (by decide +kernel)) ggJ5_append_cf1ce_J5_ensureCapacityInternal_d00df
set_option maxRecDepth 20000 in
theorem ggJ5_append_cf1ce_J5_putStringAt_47b60 : GoodIn wsJ5_append_cf1ce wsJ5_putStringAt_47b60 := goodIn_r _ [97, 8, 14, 98, 99, 100, 101, 6, 102, 56, 103, 88, 89, 70, 90, 91, 92, 104, 105, 106, 107, 108, 1, 51, 52, 53, 54, 55, 109, 110, 59, 111, 43, 112, 113, 114, 115, 116, 117, 118, 119, 120, 121, 122, 123, 124, 125, 65, 66, 67, 126, 127, 128, 72, 129, 130, 75, 131, 77, 78, 79, 61, 80, 81, 132, 133, 134, 135, 86, 136, 48, 49, 50, 87, 137, 138, 139, 140, 141, 142, 143, 144, 145] (by decide +kernel) (by decide +kernel)
set_option maxRecDepth 20000 in
theorem gJ5_append_cf1ce_J5_putStringAt_47b60_u208J4 : GoodIn wsJ5_append_cf1ce (va_wsU RJ5 208 RJ4 "java/lang/AbstractStringBuilder" ⟨"java/lang/AbstractStringBuilder", "putStringAt", "(ILjava/lang/String;)V"⟩ yJ5_putStringAt_47b60 wsJ5_putStringAt_47b60) := goodIn_app (goodIn_of _ (by decide +kernel)) ggJ5_append_cf1ce_J5_putStringAt_47b60
theorem dJ5_append_cf1ce_0 : decode cJ5_append_cf1ce 0 = .ok (.aload_n 1, 1) := by decide +kernel
theorem dJ5_append_cf1ce_1 : decode cJ5_append_cf1ce 1 = .ok (.ifnonnull 8, 3) := by decide +kernel
theorem dJ5_append_cf1ce_4 : decode cJ5_append_cf1ce 4 = .ok (.aload_n 0, 1) := by decide +kernel
theorem dJ5_append_cf1ce_5 : decode cJ5_append_cf1ce 5 = .ok (.invokevirtual 204, 3) := by decide +kernel
theorem dJ5_append_cf1ce_8 : decode cJ5_append_cf1ce 8 = .ok (.areturn, 1) := by decide +kernel
theorem dJ5_append_cf1ce_9 : decode cJ5_append_cf1ce 9 = .ok (.aload_n 1, 1) := by decide +kernel
theorem dJ5_append_cf1ce_10 : decode cJ5_append_cf1ce 10 = .ok (.invokevirtual 32, 3) := by decide +kernel
theorem dJ5_append_cf1ce_13 : decode cJ5_append_cf1ce 13 = .ok (.istore_n 2, 1) := by decide +kernel
theorem dJ5_append_cf1ce_14 : decode cJ5_append_cf1ce 14 = .ok (.aload_n 0, 1) := by decide +kernel
theorem dJ5_append_cf1ce_15 : decode cJ5_append_cf1ce 15 = .ok (.aload_n 0, 1) := by decide +kernel
theorem dJ5_append_cf1ce_16 : decode cJ5_append_cf1ce 16 = .ok (.getfield 79, 3) := by decide +kernel
theorem dJ5_append_cf1ce_19 : decode cJ5_append_cf1ce 19 = .ok (.iload_n 2, 1) := by decide +kernel
theorem dJ5_append_cf1ce_20 : decode cJ5_append_cf1ce 20 = .ok (.iadd, 1) := by decide +kernel
theorem dJ5_append_cf1ce_21 : decode cJ5_append_cf1ce 21 = .ok (.invokevirtual 100, 3) := by decide +kernel
theorem dJ5_append_cf1ce_24 : decode cJ5_append_cf1ce 24 = .ok (.aload_n 0, 1) := by decide +kernel
theorem dJ5_append_cf1ce_25 : decode cJ5_append_cf1ce 25 = .ok (.aload_n 0, 1) := by decide +kernel
theorem dJ5_append_cf1ce_26 : decode cJ5_append_cf1ce 26 = .ok (.getfield 79, 3) := by decide +kernel
theorem dJ5_append_cf1ce_29 : decode cJ5_append_cf1ce 29 = .ok (.aload_n 1, 1) := by decide +kernel
theorem dJ5_append_cf1ce_30 : decode cJ5_append_cf1ce 30 = .ok (.invokevirtual 208, 3) := by decide +kernel
theorem dJ5_append_cf1ce_33 : decode cJ5_append_cf1ce 33 = .ok (.aload_n 0, 1) := by decide +kernel
theorem dJ5_append_cf1ce_34 : decode cJ5_append_cf1ce 34 = .ok (.dup, 1) := by decide +kernel
theorem dJ5_append_cf1ce_35 : decode cJ5_append_cf1ce 35 = .ok (.getfield 79, 3) := by decide +kernel
theorem dJ5_append_cf1ce_38 : decode cJ5_append_cf1ce 38 = .ok (.iload_n 2, 1) := by decide +kernel
theorem dJ5_append_cf1ce_39 : decode cJ5_append_cf1ce 39 = .ok (.iadd, 1) := by decide +kernel
theorem dJ5_append_cf1ce_40 : decode cJ5_append_cf1ce 40 = .ok (.putfield 79, 3) := by decide +kernel
theorem dJ5_append_cf1ce_43 : decode cJ5_append_cf1ce 43 = .ok (.aload_n 0, 1) := by decide +kernel
theorem dJ5_append_cf1ce_44 : decode cJ5_append_cf1ce 44 = .ok (.areturn, 1) := by decide +kernel
set_option maxRecDepth 20000 in
theorem ggJ5_append_c97b9_J6_stringSize_0f7a4 : GoodIn wsJ5_append_c97b9 wsJ6_stringSize_0f7a4 := goodIn_r _ [6] (by decide +kernel) (by decide +kernel)
set_option maxRecDepth 20000 in
theorem gJ5_append_c97b9_J6_stringSize_0f7a4 : GoodIn wsJ5_append_c97b9 (va_wsS RJ5 245 yJ6_stringSize_0f7a4 wsJ6_stringSize_0f7a4) := goodIn_app (goodIn_of _ (by decide +kernel)) ggJ5_append_c97b9_J6_stringSize_0f7a4
set_option maxRecDepth 20000 in
theorem ggJ5_append_c97b9_J5_ensureCapacityInternal_d00df : GoodIn wsJ5_append_c97b9 wsJ5_ensureCapacityInternal_d00df := goodIn_r _ [12, 2, 13, 14, 15, 16, 17, 11, 18, 19, 20, 21, 22, 23, 24, 25, 26, 27, 28, 29, 30, 31, 32, 33, 34, 35, 36, 37, 38, 39, 40, 41, 42, 43, 44, 45, 46, 47, 48, 49, 91, 92, 93, 94] (by decide +kernel) (by decide +kernel)
set_option maxRecDepth 20000 in
theorem gJ5_append_c97b9_J5_ensureCapacityInternal_d00df_u100J4 : GoodIn wsJ5_append_c97b9 (va_wsU RJ5 100 RJ4 "java/lang/AbstractStringBuilder" ⟨"java/lang/AbstractStringBuilder", "ensureCapacityInternal", "(I)V"⟩ yJ5_ensureCapacityInternal_d00df wsJ5_ensureCapacityInternal_d00df) := goodIn_app (goodIn_of _ (by decide +kernel)) ggJ5_append_c97b9_J5_ensureCapacityInternal_d00df
set_option maxRecDepth 20000 in
theorem ggJ5_append_c97b9_J5_isLatin1_aae02 : GoodIn wsJ5_append_c97b9 wsJ5_isLatin1_aae02 := goodIn_r _ [54, 55, 13, 91, 92, 93, 94] (by decide +kernel) (by decide +kernel)
set_option maxRecDepth 20000 in
theorem gJ5_append_c97b9_J5_isLatin1_aae02_u83J4 : GoodIn wsJ5_append_c97b9 (va_wsU RJ5 83 RJ4 "java/lang/AbstractStringBuilder" ⟨"java/lang/AbstractStringBuilder", "isLatin1", "()Z"⟩ yJ5_isLatin1_aae02 wsJ5_isLatin1_aae02) := goodIn_app (goodIn_of _ (by decide +kernel)) ggJ5_append_c97b9_J5_isLatin1_aae02
set_option maxRecDepth 20000 in
theorem ggJ5_append_c97b9_J6_getChars_ba4f3 : GoodIn wsJ5_append_c97b9 wsJ6_getChars_ba4f3 := goodIn_r _ [58, 59, 60] (by decide +kernel) (by decide +kernel)
set_option maxRecDepth 20000 in
theorem gJ5_append_c97b9_J6_getChars_ba4f3 : GoodIn wsJ5_append_c97b9 (va_wsS RJ5 248 yJ6_getChars_ba4f3 wsJ6_getChars_ba4f3) := goodIn_app (goodIn_of _ (by decide +kernel)) ggJ5_append_c97b9_J6_getChars_ba4f3
theorem dJ5_append_c97b9_0 : decode cJ5_append_c97b9 0 = .ok (.aload_n 0, 1) := by decide +kernel
theorem dJ5_append_c97b9_1 : decode cJ5_append_c97b9 1 = .ok (.getfield 79, 3) := by decide +kernel
theorem dJ5_append_c97b9_4 : decode cJ5_append_c97b9 4 = .ok (.istore_n 2, 1) := by decide +kernel
theorem dJ5_append_c97b9_5 : decode cJ5_append_c97b9 5 = .ok (.iload_n 2, 1) := by decide +kernel
theorem dJ5_append_c97b9_6 : decode cJ5_append_c97b9 6 = .ok (.iload_n 1, 1) := by decide +kernel
theorem dJ5_append_c97b9_7 : decode cJ5_append_c97b9 7 = .ok (.invokestatic 245, 3) := by decide +kernel
theorem dJ5_append_c97b9_10 : decode cJ5_append_c97b9 10 = .ok (.iadd, 1) := by decide +kernel
theorem dJ5_append_c97b9_11 : decode cJ5_append_c97b9 11 = .ok (.istore_n 3, 1) := by decide +kernel
theorem dJ5_append_c97b9_12 : decode cJ5_append_c97b9 12 = .ok (.aload_n 0, 1) := by decide +kernel
theorem dJ5_append_c97b9_13 : decode cJ5_append_c97b9 13 = .ok (.iload_n 3, 1) := by decide +kernel
theorem dJ5_append_c97b9_14 : decode cJ5_append_c97b9 14 = .ok (.invokevirtual 100, 3) := by decide +kernel
theorem dJ5_append_c97b9_17 : decode cJ5_append_c97b9 17 = .ok (.aload_n 0, 1) := by decide +kernel
theorem dJ5_append_c97b9_18 : decode cJ5_append_c97b9 18 = .ok (.invokevirtual 83, 3) := by decide +kernel
theorem dJ5_append_c97b9_21 : decode cJ5_append_c97b9 21 = .ok (.ifCond .eq 16, 3) := by decide +kernel
theorem dJ5_append_c97b9_24 : decode cJ5_append_c97b9 24 = .ok (.iload_n 1, 1) := by decide +kernel
theorem dJ5_append_c97b9_25 : decode cJ5_append_c97b9 25 = .ok (.iload_n 3, 1) := by decide +kernel
theorem dJ5_append_c97b9_26 : decode cJ5_append_c97b9 26 = .ok (.aload_n 0, 1) := by decide +kernel
theorem dJ5_append_c97b9_27 : decode cJ5_append_c97b9 27 = .ok (.getfield 15, 3) := by decide +kernel
theorem dJ5_append_c97b9_30 : decode cJ5_append_c97b9 30 = .ok (.invokestatic 248, 3) := by decide +kernel
theorem dJ5_append_c97b9_33 : decode cJ5_append_c97b9 33 = .ok (.pop, 1) := by decide +kernel
theorem dJ5_append_c97b9_34 : decode cJ5_append_c97b9 34 = .ok (.goto 14, 3) := by decide +kernel
theorem dJ5_append_c97b9_37 : decode cJ5_append_c97b9 37 = .ok (.iload_n 1, 1) := by decide +kernel
theorem dJ5_append_c97b9_38 : decode cJ5_append_c97b9 38 = .ok (.iload_n 2, 1) := by decide +kernel
theorem dJ5_append_c97b9_39 : decode cJ5_append_c97b9 39 = .ok (.iload_n 3, 1) := by decide +kernel
theorem dJ5_append_c97b9_40 : decode cJ5_append_c97b9 40 = .ok (.aload_n 0, 1) := by decide +kernel
theorem dJ5_append_c97b9_41 : decode cJ5_append_c97b9 41 = .ok (.getfield 15, 3) := by decide +kernel
theorem dJ5_append_c97b9_44 : decode cJ5_append_c97b9 44 = .ok (.invokestatic 251, 3) := by decide +kernel
theorem dJ5_append_c97b9_47 : decode cJ5_append_c97b9 47 = .ok (.pop, 1) := by decide +kernel
theorem dJ5_append_c97b9_48 : decode cJ5_append_c97b9 48 = .ok (.aload_n 0, 1) := by decide +kernel
theorem dJ5_append_c97b9_49 : decode cJ5_append_c97b9 49 = .ok (.iload_n 3, 1) := by decide +kernel
theorem dJ5_append_c97b9_50 : decode cJ5_append_c97b9 50 = .ok (.putfield 79, 3) := by decide +kernel
theorem dJ5_append_c97b9_53 : decode cJ5_append_c97b9 53 = .ok (.aload_n 0, 1) := by decide +kernel
theorem dJ5_append_c97b9_54 : decode cJ5_append_c97b9 54 = .ok (.areturn, 1) := by decide +kernel
theorem dJ5_getValue_6d5f1_0 : decode cJ5_getValue_6d5f1 0 = .ok (.aload_n 0, 1) := by decide +kernel
theorem dJ5_getValue_6d5f1_1 : decode cJ5_getValue_6d5f1 1 = .ok (.getfield 15, 3) := by decide +kernel
theorem dJ5_getValue_6d5f1_4 : decode cJ5_getValue_6d5f1 4 = .ok (.areturn, 1) := by decide +kernel
theorem dJ5_isLatin1_aae02_0 : decode cJ5_isLatin1_aae02 0 = .ok (.getstatic 18, 3) := by decide +kernel
theorem dJ5_isLatin1_aae02_3 : decode cJ5_isLatin1_aae02 3 = .ok (.ifCond .eq 14, 3) := by decide +kernel
theorem dJ5_isLatin1_aae02_6 : decode cJ5_isLatin1_aae02 6 = .ok (.aload_n 0, 1) := by decide +kernel
theorem dJ5_isLatin1_aae02_7 : decode cJ5_isLatin1_aae02 7 = .ok (.getfield 22, 3) := by decide +kernel
theorem dJ5_isLatin1_aae02_10 : decode cJ5_isLatin1_aae02 10 = .ok (.ifCond .ne 7, 3) := by decide +kernel
theorem dJ5_isLatin1_aae02_13 : decode cJ5_isLatin1_aae02 13 = .ok (.iconst 1, 1) := by decide +kernel
theorem dJ5_isLatin1_aae02_14 : decode cJ5_isLatin1_aae02 14 = .ok (.goto 4, 3) := by decide +kernel
theorem dJ5_isLatin1_aae02_17 : decode cJ5_isLatin1_aae02 17 = .ok (.iconst 0, 1) := by decide +kernel
theorem dJ5_isLatin1_aae02_18 : decode cJ5_isLatin1_aae02 18 = .ok (.ireturn, 1) := by decide +kernel
set_option maxRecDepth 20000 in
theorem ggJ5_inflateIfNeededFor_a7421_J0_coder_7d493 : GoodIn wsJ5_inflateIfNeededFor_a7421 wsJ0_coder_7d493 := goodIn_r _ [7, 8, 9, 63, 64, 65, 66] (by decide +kernel) (by decide +kernel)
set_option maxRecDepth 20000 in
theorem gJ5_inflateIfNeededFor_a7421_J0_coder_7d493 : GoodIn wsJ5_inflateIfNeededFor_a7421 (wsV RJ5 40 RJ0 yJ0_coder_7d493 wsJ0_coder_7d493) := goodIn_app (goodIn_of _ (by decide +kernel)) ggJ5_inflateIfNeededFor_a7421_J0_coder_7d493
theorem dJ5_inflateIfNeededFor_a7421_0 : decode cJ5_inflateIfNeededFor_a7421 0 = .ok (.getstatic 18, 3) := by decide +kernel
theorem dJ5_inflateIfNeededFor_a7421_3 : decode cJ5_inflateIfNeededFor_a7421 3 = .ok (.ifCond .eq 18, 3) := by decide +kernel
theorem dJ5_inflateIfNeededFor_a7421_6 : decode cJ5_inflateIfNeededFor_a7421 6 = .ok (.aload_n 0, 1) := by decide +kernel
theorem dJ5_inflateIfNeededFor_a7421_7 : decode cJ5_inflateIfNeededFor_a7421 7 = .ok (.getfield 22, 3) := by decide +kernel
theorem dJ5_inflateIfNeededFor_a7421_10 : decode cJ5_inflateIfNeededFor_a7421 10 = .ok (.aload_n 1, 1) := by decide +kernel
theorem dJ5_inflateIfNeededFor_a7421_11 : decode cJ5_inflateIfNeededFor_a7421 11 = .ok (.invokevirtual 40, 3) := by decide +kernel
theorem dJ5_inflateIfNeededFor_a7421_14 : decode cJ5_inflateIfNeededFor_a7421 14 = .ok (.if_icmp .eq 7, 3) := by decide +kernel
theorem dJ5_inflateIfNeededFor_a7421_17 : decode cJ5_inflateIfNeededFor_a7421 17 = .ok (.aload_n 0, 1) := by decide +kernel
theorem dJ5_inflateIfNeededFor_a7421_18 : decode cJ5_inflateIfNeededFor_a7421 18 = .ok (.invokevirtual 195, 3) := by decide +kernel
theorem dJ5_inflateIfNeededFor_a7421_21 : decode cJ5_inflateIfNeededFor_a7421 21 = .ok (.return_, 1) := by decide +kernel
set_option maxRecDepth 20000 in
theorem ggJ5_putStringAt_47b60_J5_inflateIfNeededFor_a7421 : GoodIn wsJ5_putStringAt_47b60 wsJ5_inflateIfNeededFor_a7421 := goodIn_r _ [8, 9, 2, 10, 11, 12, 13, 14, 15, 16, 17, 18, 19, 20, 7, 21, 1, 22, 23, 24, 25, 26, 27, 28, 29, 30, 31, 32, 33, 34, 35, 36, 37, 38, 39, 40, 41, 42, 43, 44, 45, 46, 47, 48, 49, 50, 51, 52, 53, 54, 55, 56, 57, 58, 59, 60, 61, 62, 63, 75, 76, 77, 78, 79, 80, 81, 82] (by decide +kernel) (by decide +kernel)
set_option maxRecDepth 20000 in
theorem gJ5_putStringAt_47b60_J5_inflateIfNeededFor_a7421_u397J4 : GoodIn wsJ5_putStringAt_47b60 (va_wsU RJ5 397 RJ4 "java/lang/AbstractStringBuilder" ⟨"java/lang/AbstractStringBuilder", "inflateIfNeededFor", "(Ljava/lang/String;)V"⟩ yJ5_inflateIfNeededFor_a7421 wsJ5_inflateIfNeededFor_a7421) := goodIn_app (goodIn_of _ (by decide +kernel)) ggJ5_putStringAt_47b60_J5_inflateIfNeededFor_a7421
set_option maxRecDepth 20000 in
theorem ggJ5_putStringAt_47b60_J0_getBytes_840e7 : GoodIn wsJ5_putStringAt_47b60 wsJ0_getBytes_840e7 := goodIn_r _ [67, 68, 69, 70, 71, 72, 73, 11, 12, 13, 14, 15, 16, 74, 38, 39, 40, 41, 42, 30, 43, 44, 45, 46, 47, 48, 49, 50, 51, 52, 53, 54, 55, 56, 57, 58, 59, 60, 61, 62, 63, 79, 80, 81, 82] (by decide +kernel) (by decide +kernel)
set_option maxRecDepth 20000 in
theorem gJ5_putStringAt_47b60_J0_getBytes_840e7 : GoodIn wsJ5_putStringAt_47b60 (wsV RJ5 399 RJ0 yJ0_getBytes_840e7 wsJ0_getBytes_840e7) := goodIn_app (goodIn_of _ (by decide +kernel)) ggJ5_putStringAt_47b60_J0_getBytes_840e7
theorem dJ5_putStringAt_47b60_0 : decode cJ5_putStringAt_47b60 0 = .ok (.aload_n 0, 1) := by decide +kernel
theorem dJ5_putStringAt_47b60_1 : decode cJ5_putStringAt_47b60 1 = .ok (.aload_n 2, 1) := by decide +kernel
theorem dJ5_putStringAt_47b60_2 : decode cJ5_putStringAt_47b60 2 = .ok (.invokevirtual 397, 3) := by decide +kernel
theorem dJ5_putStringAt_47b60_5 : decode cJ5_putStringAt_47b60 5 = .ok (.aload_n 2, 1) := by decide +kernel
theorem dJ5_putStringAt_47b60_6 : decode cJ5_putStringAt_47b60 6 = .ok (.aload_n 0, 1) := by decide +kernel
theorem dJ5_putStringAt_47b60_7 : decode cJ5_putStringAt_47b60 7 = .ok (.getfield 15, 3) := by decide +kernel
theorem dJ5_putStringAt_47b60_10 : decode cJ5_putStringAt_47b60 10 = .ok (.iload_n 1, 1) := by decide +kernel
theorem dJ5_putStringAt_47b60_11 : decode cJ5_putStringAt_47b60 11 = .ok (.aload_n 0, 1) := by decide +kernel
theorem dJ5_putStringAt_47b60_12 : decode cJ5_putStringAt_47b60 12 = .ok (.getfield 22, 3) := by decide +kernel
theorem dJ5_putStringAt_47b60_15 : decode cJ5_putStringAt_47b60 15 = .ok (.invokevirtual 399, 3) := by decide +kernel
theorem dJ5_putStringAt_47b60_18 : decode cJ5_putStringAt_47b60 18 = .ok (.return_, 1) := by decide +kernel
theorem dJ6_getChars_ba4f3_0 : decode cJ6_getChars_ba4f3 0 = .ok (.iload_n 1, 1) := by decide +kernel
theorem dJ6_getChars_ba4f3_1 : decode cJ6_getChars_ba4f3 1 = .ok (.istore 5, 2) := by decide +kernel
theorem dJ6_getChars_ba4f3_3 : decode cJ6_getChars_ba4f3 3 = .ok (.iload_n 0, 1) := by decide +kernel
theorem dJ6_getChars_ba4f3_4 : decode cJ6_getChars_ba4f3 4 = .ok (.ifCond .ge 7, 3) := by decide +kernel
theorem dJ6_getChars_ba4f3_7 : decode cJ6_getChars_ba4f3 7 = .ok (.iconst 1, 1) := by decide +kernel
theorem dJ6_getChars_ba4f3_8 : decode cJ6_getChars_ba4f3 8 = .ok (.goto 4, 3) := by decide +kernel
theorem dJ6_getChars_ba4f3_11 : decode cJ6_getChars_ba4f3 11 = .ok (.iconst 0, 1) := by decide +kernel
theorem dJ6_getChars_ba4f3_12 : decode cJ6_getChars_ba4f3 12 = .ok (.istore 6, 2) := by decide +kernel
theorem dJ6_getChars_ba4f3_14 : decode cJ6_getChars_ba4f3 14 = .ok (.iload 6, 2) := by decide +kernel
theorem dJ6_getChars_ba4f3_16 : decode cJ6_getChars_ba4f3 16 = .ok (.ifCond .ne 6, 3) := by decide +kernel
theorem dJ6_getChars_ba4f3_19 : decode cJ6_getChars_ba4f3 19 = .ok (.iload_n 0, 1) := by decide +kernel
theorem dJ6_getChars_ba4f3_20 : decode cJ6_getChars_ba4f3 20 = .ok (.ineg, 1) := by decide +kernel
theorem dJ6_getChars_ba4f3_21 : decode cJ6_getChars_ba4f3 21 = .ok (.istore_n 0, 1) := by decide +kernel
theorem dJ6_getChars_ba4f3_22 : decode cJ6_getChars_ba4f3 22 = .ok (.iload_n 0, 1) := by decide +kernel
theorem dJ6_getChars_ba4f3_23 : decode cJ6_getChars_ba4f3 23 = .ok (.bipush (-100), 2) := by decide +kernel
theorem dJ6_getChars_ba4f3_25 : decode cJ6_getChars_ba4f3 25 = .ok (.if_icmp .gt 47, 3) := by decide +kernel
theorem dJ6_getChars_ba4f3_28 : decode cJ6_getChars_ba4f3 28 = .ok (.iload_n 0, 1) := by decide +kernel
theorem dJ6_getChars_ba4f3_29 : decode cJ6_getChars_ba4f3 29 = .ok (.bipush 100, 2) := by decide +kernel
theorem dJ6_getChars_ba4f3_31 : decode cJ6_getChars_ba4f3 31 = .ok (.idiv, 1) := by decide +kernel
theorem dJ6_getChars_ba4f3_32 : decode cJ6_getChars_ba4f3 32 = .ok (.istore_n 3, 1) := by decide +kernel
theorem dJ6_getChars_ba4f3_33 : decode cJ6_getChars_ba4f3 33 = .ok (.iload_n 3, 1) := by decide +kernel
theorem dJ6_getChars_ba4f3_34 : decode cJ6_getChars_ba4f3 34 = .ok (.bipush 100, 2) := by decide +kernel
theorem dJ6_getChars_ba4f3_36 : decode cJ6_getChars_ba4f3 36 = .ok (.imul, 1) := by decide +kernel
theorem dJ6_getChars_ba4f3_37 : decode cJ6_getChars_ba4f3 37 = .ok (.iload_n 0, 1) := by decide +kernel
theorem dJ6_getChars_ba4f3_38 : decode cJ6_getChars_ba4f3 38 = .ok (.isub, 1) := by decide +kernel
theorem dJ6_getChars_ba4f3_39 : decode cJ6_getChars_ba4f3 39 = .ok (.istore 4, 2) := by decide +kernel
theorem dJ6_getChars_ba4f3_41 : decode cJ6_getChars_ba4f3 41 = .ok (.iload_n 3, 1) := by decide +kernel
theorem dJ6_getChars_ba4f3_42 : decode cJ6_getChars_ba4f3 42 = .ok (.istore_n 0, 1) := by decide +kernel
theorem dJ6_getChars_ba4f3_43 : decode cJ6_getChars_ba4f3 43 = .ok (.aload_n 2, 1) := by decide +kernel
theorem dJ6_getChars_ba4f3_44 : decode cJ6_getChars_ba4f3 44 = .ok (.iinc 5 (-1), 3) := by decide +kernel
theorem dJ6_getChars_ba4f3_47 : decode cJ6_getChars_ba4f3 47 = .ok (.iload 5, 2) := by decide +kernel
theorem dJ6_getChars_ba4f3_49 : decode cJ6_getChars_ba4f3 49 = .ok (.getstatic 83, 3) := by decide +kernel
theorem dJ6_getChars_ba4f3_52 : decode cJ6_getChars_ba4f3 52 = .ok (.iload 4, 2) := by decide +kernel
theorem dJ6_getChars_ba4f3_54 : decode cJ6_getChars_ba4f3 54 = .ok (.baload, 1) := by decide +kernel
theorem dJ6_getChars_ba4f3_55 : decode cJ6_getChars_ba4f3 55 = .ok (.bastore, 1) := by decide +kernel
theorem dJ6_getChars_ba4f3_56 : decode cJ6_getChars_ba4f3 56 = .ok (.aload_n 2, 1) := by decide +kernel
theorem dJ6_getChars_ba4f3_57 : decode cJ6_getChars_ba4f3 57 = .ok (.iinc 5 (-1), 3) := by decide +kernel
theorem dJ6_getChars_ba4f3_60 : decode cJ6_getChars_ba4f3 60 = .ok (.iload 5, 2) := by decide +kernel
theorem dJ6_getChars_ba4f3_62 : decode cJ6_getChars_ba4f3 62 = .ok (.getstatic 87, 3) := by decide +kernel
theorem dJ6_getChars_ba4f3_65 : decode cJ6_getChars_ba4f3 65 = .ok (.iload 4, 2) := by decide +kernel
theorem dJ6_getChars_ba4f3_67 : decode cJ6_getChars_ba4f3 67 = .ok (.baload, 1) := by decide +kernel
theorem dJ6_getChars_ba4f3_68 : decode cJ6_getChars_ba4f3 68 = .ok (.bastore, 1) := by decide +kernel
theorem dJ6_getChars_ba4f3_69 : decode cJ6_getChars_ba4f3 69 = .ok (.goto (-47), 3) := by decide +kernel
theorem dJ6_getChars_ba4f3_72 : decode cJ6_getChars_ba4f3 72 = .ok (.aload_n 2, 1) := by decide +kernel
theorem dJ6_getChars_ba4f3_73 : decode cJ6_getChars_ba4f3 73 = .ok (.iinc 5 (-1), 3) := by decide +kernel
theorem dJ6_getChars_ba4f3_76 : decode cJ6_getChars_ba4f3 76 = .ok (.iload 5, 2) := by decide +kernel
theorem dJ6_getChars_ba4f3_78 : decode cJ6_getChars_ba4f3 78 = .ok (.getstatic 83, 3) := by decide +kernel
theorem dJ6_getChars_ba4f3_81 : decode cJ6_getChars_ba4f3 81 = .ok (.iload_n 0, 1) := by decide +kernel
theorem dJ6_getChars_ba4f3_82 : decode cJ6_getChars_ba4f3 82 = .ok (.ineg, 1) := by decide +kernel
theorem dJ6_getChars_ba4f3_83 : decode cJ6_getChars_ba4f3 83 = .ok (.baload, 1) := by decide +kernel
theorem dJ6_getChars_ba4f3_84 : decode cJ6_getChars_ba4f3 84 = .ok (.bastore, 1) := by decide +kernel
theorem dJ6_getChars_ba4f3_85 : decode cJ6_getChars_ba4f3 85 = .ok (.iload_n 0, 1) := by decide +kernel
theorem dJ6_getChars_ba4f3_86 : decode cJ6_getChars_ba4f3 86 = .ok (.bipush (-9), 2) := by decide +kernel
theorem dJ6_getChars_ba4f3_88 : decode cJ6_getChars_ba4f3 88 = .ok (.if_icmp .ge 16, 3) := by decide +kernel
theorem dJ6_getChars_ba4f3_91 : decode cJ6_getChars_ba4f3 91 = .ok (.aload_n 2, 1) := by decide +kernel
theorem dJ6_getChars_ba4f3_92 : decode cJ6_getChars_ba4f3 92 = .ok (.iinc 5 (-1), 3) := by decide +kernel
theorem dJ6_getChars_ba4f3_95 : decode cJ6_getChars_ba4f3 95 = .ok (.iload 5, 2) := by decide +kernel
theorem dJ6_getChars_ba4f3_97 : decode cJ6_getChars_ba4f3 97 = .ok (.getstatic 87, 3) := by decide +kernel
theorem dJ6_getChars_ba4f3_100 : decode cJ6_getChars_ba4f3 100 = .ok (.iload_n 0, 1) := by decide +kernel
theorem dJ6_getChars_ba4f3_101 : decode cJ6_getChars_ba4f3 101 = .ok (.ineg, 1) := by decide +kernel
theorem dJ6_getChars_ba4f3_102 : decode cJ6_getChars_ba4f3 102 = .ok (.baload, 1) := by decide +kernel
theorem dJ6_getChars_ba4f3_103 : decode cJ6_getChars_ba4f3 103 = .ok (.bastore, 1) := by decide +kernel
theorem dJ6_getChars_ba4f3_104 : decode cJ6_getChars_ba4f3 104 = .ok (.iload 6, 2) := by decide +kernel
theorem dJ6_getChars_ba4f3_106 : decode cJ6_getChars_ba4f3 106 = .ok (.ifCond .eq 12, 3) := by decide +kernel
theorem dJ6_getChars_ba4f3_109 : decode cJ6_getChars_ba4f3 109 = .ok (.aload_n 2, 1) := by decide +kernel
theorem dJ6_getChars_ba4f3_110 : decode cJ6_getChars_ba4f3 110 = .ok (.iinc 5 (-1), 3) := by decide +kernel
theorem dJ6_getChars_ba4f3_113 : decode cJ6_getChars_ba4f3 113 = .ok (.iload 5, 2) := by decide +kernel
theorem dJ6_getChars_ba4f3_115 : decode cJ6_getChars_ba4f3 115 = .ok (.bipush 45, 2) := by decide +kernel
theorem dJ6_getChars_ba4f3_117 : decode cJ6_getChars_ba4f3 117 = .ok (.bastore, 1) := by decide +kernel
theorem dJ6_getChars_ba4f3_118 : decode cJ6_getChars_ba4f3 118 = .ok (.iload 5, 2) := by decide +kernel
theorem dJ6_getChars_ba4f3_120 : decode cJ6_getChars_ba4f3 120 = .ok (.ireturn, 1) := by decide +kernel
theorem dJ6_stringSize_0f7a4_0 : decode cJ6_stringSize_0f7a4 0 = .ok (.iconst 1, 1) := by decide +kernel
theorem dJ6_stringSize_0f7a4_1 : decode cJ6_stringSize_0f7a4 1 = .ok (.istore_n 1, 1) := by decide +kernel
theorem dJ6_stringSize_0f7a4_2 : decode cJ6_stringSize_0f7a4 2 = .ok (.iload_n 0, 1) := by decide +kernel
theorem dJ6_stringSize_0f7a4_3 : decode cJ6_stringSize_0f7a4 3 = .ok (.ifCond .lt 8, 3) := by decide +kernel
theorem dJ6_stringSize_0f7a4_6 : decode cJ6_stringSize_0f7a4 6 = .ok (.iconst 0, 1) := by decide +kernel
theorem dJ6_stringSize_0f7a4_7 : decode cJ6_stringSize_0f7a4 7 = .ok (.istore_n 1, 1) := by decide +kernel
theorem dJ6_stringSize_0f7a4_8 : decode cJ6_stringSize_0f7a4 8 = .ok (.iload_n 0, 1) := by decide +kernel
theorem dJ6_stringSize_0f7a4_9 : decode cJ6_stringSize_0f7a4 9 = .ok (.ineg, 1) := by decide +kernel
theorem dJ6_stringSize_0f7a4_10 : decode cJ6_stringSize_0f7a4 10 = .ok (.istore_n 0, 1) := by decide +kernel
theorem dJ6_stringSize_0f7a4_11 : decode cJ6_stringSize_0f7a4 11 = .ok (.bipush (-10), 2) := by decide +kernel
theorem dJ6_stringSize_0f7a4_13 : decode cJ6_stringSize_0f7a4 13 = .ok (.istore_n 2, 1) := by decide +kernel
theorem dJ6_stringSize_0f7a4_14 : decode cJ6_stringSize_0f7a4 14 = .ok (.iconst 1, 1) := by decide +kernel
theorem dJ6_stringSize_0f7a4_15 : decode cJ6_stringSize_0f7a4 15 = .ok (.istore_n 3, 1) := by decide +kernel
theorem dJ6_stringSize_0f7a4_16 : decode cJ6_stringSize_0f7a4 16 = .ok (.iload_n 3, 1) := by decide +kernel
theorem dJ6_stringSize_0f7a4_17 : decode cJ6_stringSize_0f7a4 17 = .ok (.bipush 10, 2) := by decide +kernel
theorem dJ6_stringSize_0f7a4_19 : decode cJ6_stringSize_0f7a4 19 = .ok (.if_icmp .ge 23, 3) := by decide +kernel
theorem dJ6_stringSize_0f7a4_22 : decode cJ6_stringSize_0f7a4 22 = .ok (.iload_n 0, 1) := by decide +kernel
theorem dJ6_stringSize_0f7a4_23 : decode cJ6_stringSize_0f7a4 23 = .ok (.iload_n 2, 1) := by decide +kernel
theorem dJ6_stringSize_0f7a4_24 : decode cJ6_stringSize_0f7a4 24 = .ok (.if_icmp .le 7, 3) := by decide +kernel
theorem dJ6_stringSize_0f7a4_27 : decode cJ6_stringSize_0f7a4 27 = .ok (.iload_n 3, 1) := by decide +kernel
theorem dJ6_stringSize_0f7a4_28 : decode cJ6_stringSize_0f7a4 28 = .ok (.iload_n 1, 1) := by decide +kernel
theorem dJ6_stringSize_0f7a4_29 : decode cJ6_stringSize_0f7a4 29 = .ok (.iadd, 1) := by decide +kernel
theorem dJ6_stringSize_0f7a4_30 : decode cJ6_stringSize_0f7a4 30 = .ok (.ireturn, 1) := by decide +kernel
theorem dJ6_stringSize_0f7a4_31 : decode cJ6_stringSize_0f7a4 31 = .ok (.bipush 10, 2) := by decide +kernel
theorem dJ6_stringSize_0f7a4_33 : decode cJ6_stringSize_0f7a4 33 = .ok (.iload_n 2, 1) := by decide +kernel
theorem dJ6_stringSize_0f7a4_34 : decode cJ6_stringSize_0f7a4 34 = .ok (.imul, 1) := by decide +kernel
theorem dJ6_stringSize_0f7a4_35 : decode cJ6_stringSize_0f7a4 35 = .ok (.istore_n 2, 1) := by decide +kernel
theorem dJ6_stringSize_0f7a4_36 : decode cJ6_stringSize_0f7a4 36 = .ok (.iinc 3 1, 3) := by decide +kernel
theorem dJ6_stringSize_0f7a4_39 : decode cJ6_stringSize_0f7a4 39 = .ok (.goto (-23), 3) := by decide +kernel
theorem dJ6_stringSize_0f7a4_42 : decode cJ6_stringSize_0f7a4 42 = .ok (.bipush 10, 2) := by decide +kernel
theorem dJ6_stringSize_0f7a4_44 : decode cJ6_stringSize_0f7a4 44 = .ok (.iload_n 1, 1) := by decide +kernel
theorem dJ6_stringSize_0f7a4_45 : decode cJ6_stringSize_0f7a4 45 = .ok (.iadd, 1) := by decide +kernel
theorem dJ6_stringSize_0f7a4_46 : decode cJ6_stringSize_0f7a4 46 = .ok (.ireturn, 1) := by decide +kernel
set_option maxRecDepth 20000 in
theorem ggJ0_init_81219_J0_init_db425 : GoodIn wsJ0_init_81219 wsJ0_init_db425 := goodIn_r _ [4, 5, 6, 7, 8, 9, 10, 11, 12, 13, 14, 15, 16, 17, 18, 19, 20, 21, 22, 23, 24, 25, 26, 27, 28, 29, 30, 31, 32, 33, 34, 35, 36, 37, 38, 39, 40, 41, 42, 43, 44, 45, 46, 47, 48, 49, 50, 51, 52, 53, 54, 55, 56, 57, 58, 59, 60, 61, 62, 63, 64, 65, 66, 67, 68, 69, 70, 71, 72, 73, 74, 75, 76, 77, 78, 79, 3, 80, 81, 82, 83, 84, 85, 86, 87, 88, 89, 90, 91, 92, 93, 94, 95, 96, 97, 98, 99, 100, 101, 102, 103, 104, 105, 106, 107] (by decide +kernel) (by decide +kernel)
set_option maxRecDepth 20000 in
theorem gJ0_init_81219_J0_init_db425 : GoodIn wsJ0_init_81219 (wsJ0_init_db425) := ggJ0_init_81219_J0_init_db425
theorem dJ0_init_81219_0 : decode cJ0_init_81219 0 = .ok (.aload_n 0, 1) := by decide +kernel
theorem dJ0_init_81219_1 : decode cJ0_init_81219 1 = .ok (.aload_n 1, 1) := by decide +kernel
theorem dJ0_init_81219_2 : decode cJ0_init_81219 2 = .ok (.aconst_null, 1) := by decide +kernel
theorem dJ0_init_81219_3 : decode cJ0_init_81219 3 = .ok (.invokespecial 489, 3) := by decide +kernel
theorem dJ0_init_81219_6 : decode cJ0_init_81219 6 = .ok (.return_, 1) := by decide +kernel
set_option maxRecDepth 20000 in
theorem ggJ0_length_8abf5_J0_coder_7d493 : GoodIn wsJ0_length_8abf5 wsJ0_coder_7d493 := goodIn_r _ [6, 7, 8, 9, 10, 11, 12] (by decide +kernel) (by decide +kernel)
set_option maxRecDepth 20000 in
theorem gJ0_length_8abf5_J0_coder_7d493 : GoodIn wsJ0_length_8abf5 (wsV RJ0 335 RJ0 yJ0_coder_7d493 wsJ0_coder_7d493) := goodIn_app (goodIn_of _ (by decide +kernel)) ggJ0_length_8abf5_J0_coder_7d493
theorem dJ0_length_8abf5_0 : decode cJ0_length_8abf5 0 = .ok (.aload_n 0, 1) := by decide +kernel
theorem dJ0_length_8abf5_1 : decode cJ0_length_8abf5 1 = .ok (.getfield 9, 3) := by decide +kernel
theorem dJ0_length_8abf5_4 : decode cJ0_length_8abf5 4 = .ok (.arraylength, 1) := by decide +kernel
theorem dJ0_length_8abf5_5 : decode cJ0_length_8abf5 5 = .ok (.aload_n 0, 1) := by decide +kernel
theorem dJ0_length_8abf5_6 : decode cJ0_length_8abf5 6 = .ok (.invokevirtual 335, 3) := by decide +kernel
theorem dJ0_length_8abf5_9 : decode cJ0_length_8abf5 9 = .ok (.ishr, 1) := by decide +kernel
theorem dJ0_length_8abf5_10 : decode cJ0_length_8abf5 10 = .ok (.ireturn, 1) := by decide +kernel
theorem dJ0_isEmpty_aae02_0 : decode cJ0_isEmpty_aae02 0 = .ok (.aload_n 0, 1) := by decide +kernel
theorem dJ0_isEmpty_aae02_1 : decode cJ0_isEmpty_aae02 1 = .ok (.getfield 9, 3) := by decide +kernel
theorem dJ0_isEmpty_aae02_4 : decode cJ0_isEmpty_aae02 4 = .ok (.arraylength, 1) := by decide +kernel
theorem dJ0_isEmpty_aae02_5 : decode cJ0_isEmpty_aae02 5 = .ok (.ifCond .ne 7, 3) := by decide +kernel
theorem dJ0_isEmpty_aae02_8 : decode cJ0_isEmpty_aae02 8 = .ok (.iconst 1, 1) := by decide +kernel
theorem dJ0_isEmpty_aae02_9 : decode cJ0_isEmpty_aae02 9 = .ok (.goto 4, 3) := by decide +kernel
theorem dJ0_isEmpty_aae02_12 : decode cJ0_isEmpty_aae02 12 = .ok (.iconst 0, 1) := by decide +kernel
theorem dJ0_isEmpty_aae02_13 : decode cJ0_isEmpty_aae02 13 = .ok (.ireturn, 1) := by decide +kernel
set_option maxRecDepth 20000 in
theorem ggJ0_getBytes_840e7_J0_coder_7d493 : GoodIn wsJ0_getBytes_840e7 wsJ0_coder_7d493 := goodIn_r _ [10, 11, 12, 41, 42, 43, 44] (by decide +kernel) (by decide +kernel)
set_option maxRecDepth 20000 in
theorem gJ0_getBytes_840e7_J0_coder_7d493 : GoodIn wsJ0_getBytes_840e7 (wsV RJ0 335 RJ0 yJ0_coder_7d493 wsJ0_coder_7d493) := goodIn_app (goodIn_of _ (by decide +kernel)) ggJ0_getBytes_840e7_J0_coder_7d493
theorem dJ0_getBytes_840e7_0 : decode cJ0_getBytes_840e7 0 = .ok (.aload_n 0, 1) := by decide +kernel
theorem dJ0_getBytes_840e7_1 : decode cJ0_getBytes_840e7 1 = .ok (.invokevirtual 335, 3) := by decide +kernel
theorem dJ0_getBytes_840e7_4 : decode cJ0_getBytes_840e7 4 = .ok (.iload_n 3, 1) := by decide +kernel
theorem dJ0_getBytes_840e7_5 : decode cJ0_getBytes_840e7 5 = .ok (.if_icmp .ne 23, 3) := by decide +kernel
theorem dJ0_getBytes_840e7_8 : decode cJ0_getBytes_840e7 8 = .ok (.aload_n 0, 1) := by decide +kernel
theorem dJ0_getBytes_840e7_9 : decode cJ0_getBytes_840e7 9 = .ok (.getfield 9, 3) := by decide +kernel
theorem dJ0_getBytes_840e7_12 : decode cJ0_getBytes_840e7 12 = .ok (.iconst 0, 1) := by decide +kernel
theorem dJ0_getBytes_840e7_13 : decode cJ0_getBytes_840e7 13 = .ok (.aload_n 1, 1) := by decide +kernel
theorem dJ0_getBytes_840e7_14 : decode cJ0_getBytes_840e7 14 = .ok (.iload_n 2, 1) := by decide +kernel
theorem dJ0_getBytes_840e7_15 : decode cJ0_getBytes_840e7 15 = .ok (.iload_n 3, 1) := by decide +kernel
theorem dJ0_getBytes_840e7_16 : decode cJ0_getBytes_840e7 16 = .ok (.ishl, 1) := by decide +kernel
theorem dJ0_getBytes_840e7_17 : decode cJ0_getBytes_840e7 17 = .ok (.aload_n 0, 1) := by decide +kernel
theorem dJ0_getBytes_840e7_18 : decode cJ0_getBytes_840e7 18 = .ok (.getfield 9, 3) := by decide +kernel
theorem dJ0_getBytes_840e7_21 : decode cJ0_getBytes_840e7 21 = .ok (.arraylength, 1) := by decide +kernel
theorem dJ0_getBytes_840e7_22 : decode cJ0_getBytes_840e7 22 = .ok (.invokestatic 212, 3) := by decide +kernel
theorem dJ0_getBytes_840e7_25 : decode cJ0_getBytes_840e7 25 = .ok (.goto 18, 3) := by decide +kernel
theorem dJ0_getBytes_840e7_28 : decode cJ0_getBytes_840e7 28 = .ok (.aload_n 0, 1) := by decide +kernel
theorem dJ0_getBytes_840e7_29 : decode cJ0_getBytes_840e7 29 = .ok (.getfield 9, 3) := by decide +kernel
theorem dJ0_getBytes_840e7_32 : decode cJ0_getBytes_840e7 32 = .ok (.iconst 0, 1) := by decide +kernel
theorem dJ0_getBytes_840e7_33 : decode cJ0_getBytes_840e7 33 = .ok (.aload_n 1, 1) := by decide +kernel
theorem dJ0_getBytes_840e7_34 : decode cJ0_getBytes_840e7 34 = .ok (.iload_n 2, 1) := by decide +kernel
theorem dJ0_getBytes_840e7_35 : decode cJ0_getBytes_840e7 35 = .ok (.aload_n 0, 1) := by decide +kernel
theorem dJ0_getBytes_840e7_36 : decode cJ0_getBytes_840e7 36 = .ok (.getfield 9, 3) := by decide +kernel
theorem dJ0_getBytes_840e7_39 : decode cJ0_getBytes_840e7 39 = .ok (.arraylength, 1) := by decide +kernel
theorem dJ0_getBytes_840e7_40 : decode cJ0_getBytes_840e7 40 = .ok (.invokestatic 106, 3) := by decide +kernel
theorem dJ0_getBytes_840e7_43 : decode cJ0_getBytes_840e7 43 = .ok (.return_, 1) := by decide +kernel
set_option maxRecDepth 20000 in
theorem ggJ0_init_db425_J5_getValue_6d5f1 : GoodIn wsJ0_init_db425 wsJ5_getValue_6d5f1 := goodIn_r _ [13, 14, 101, 102, 103, 104] (by decide +kernel) (by decide +kernel)
set_option maxRecDepth 20000 in
theorem gJ0_init_db425_J5_getValue_6d5f1_u552J4 : GoodIn wsJ0_init_db425 (va_wsU RJ0 552 RJ4 "java/lang/AbstractStringBuilder" ⟨"java/lang/AbstractStringBuilder", "getValue", "()[B"⟩ yJ5_getValue_6d5f1 wsJ5_getValue_6d5f1) := goodIn_app (goodIn_of _ (by decide +kernel)) ggJ0_init_db425_J5_getValue_6d5f1
set_option maxRecDepth 20000 in
theorem ggJ0_init_db425_J4_length_8abf5 : GoodIn wsJ0_init_db425 wsJ4_length_8abf5 := goodIn_r _ [21, 22, 16, 23, 24, 12, 25, 26, 101, 102, 103, 104] (by decide +kernel) (by decide +kernel)
set_option maxRecDepth 20000 in
theorem gJ0_init_db425_J4_length_8abf5_u549J4 : GoodIn wsJ0_init_db425 (va_wsO RJ0 549 RJ4 "java/lang/AbstractStringBuilder" ⟨"java/lang/AbstractStringBuilder", "length", "()I"⟩ yJ4_length_8abf5 wsJ4_length_8abf5) := goodIn_app (goodIn_of _ (by decide +kernel)) ggJ0_init_db425_J4_length_8abf5
set_option maxRecDepth 20000 in
theorem ggJ0_init_db425_J5_isLatin1_aae02 : GoodIn wsJ0_init_db425 wsJ5_isLatin1_aae02 := goodIn_r _ [31, 32, 33, 101, 102, 103, 104] (by decide +kernel) (by decide +kernel)
set_option maxRecDepth 20000 in
theorem gJ0_init_db425_J5_isLatin1_aae02_u1047J4 : GoodIn wsJ0_init_db425 (va_wsU RJ0 1047 RJ4 "java/lang/AbstractStringBuilder" ⟨"java/lang/AbstractStringBuilder", "isLatin1", "()Z"⟩ yJ5_isLatin1_aae02 wsJ5_isLatin1_aae02) := goodIn_app (goodIn_of _ (by decide +kernel)) ggJ0_init_db425_J5_isLatin1_aae02
set_option maxRecDepth 20000 in
theorem ggJ0_init_db425_J7_copyOfRange_39247 : GoodIn wsJ0_init_db425 wsJ7_copyOfRange_39247 := goodIn_r _ [37, 38, 39, 40, 41, 42, 43, 44, 45, 36, 46, 47, 48, 49, 50, 51, 52, 53, 54, 55, 56, 57, 58, 59, 60, 20, 101, 102, 103, 104] (by decide +kernel) (by decide +kernel)
set_option maxRecDepth 20000 in
theorem gJ0_init_db425_J7_copyOfRange_39247 : GoodIn wsJ0_init_db425 (va_wsS RJ0 54 yJ7_copyOfRange_39247 wsJ7_copyOfRange_39247) := goodIn_app (goodIn_of _ (by decide +kernel)) ggJ0_init_db425_J7_copyOfRange_39247
theorem dJ0_init_db425_0 : decode cJ0_init_db425 0 = .ok (.aload_n 0, 1) := by decide +kernel
theorem dJ0_init_db425_1 : decode cJ0_init_db425 1 = .ok (.invokespecial 1, 3) := by decide +kernel
theorem dJ0_init_db425_4 : decode cJ0_init_db425 4 = .ok (.aload_n 1, 1) := by decide +kernel
theorem dJ0_init_db425_5 : decode cJ0_init_db425 5 = .ok (.invokevirtual 552, 3) := by decide +kernel
theorem dJ0_init_db425_8 : decode cJ0_init_db425 8 = .ok (.astore_n 3, 1) := by decide +kernel
theorem dJ0_init_db425_9 : decode cJ0_init_db425 9 = .ok (.aload_n 1, 1) := by decide +kernel
theorem dJ0_init_db425_10 : decode cJ0_init_db425 10 = .ok (.invokevirtual 549, 3) := by decide +kernel
theorem dJ0_init_db425_13 : decode cJ0_init_db425 13 = .ok (.istore 4, 2) := by decide +kernel
theorem dJ0_init_db425_15 : decode cJ0_init_db425 15 = .ok (.aload_n 1, 1) := by decide +kernel
theorem dJ0_init_db425_16 : decode cJ0_init_db425 16 = .ok (.invokevirtual 1047, 3) := by decide +kernel
theorem dJ0_init_db425_19 : decode cJ0_init_db425 19 = .ok (.ifCond .eq 22, 3) := by decide +kernel
theorem dJ0_init_db425_22 : decode cJ0_init_db425 22 = .ok (.aload_n 0, 1) := by decide +kernel
theorem dJ0_init_db425_23 : decode cJ0_init_db425 23 = .ok (.iconst 0, 1) := by decide +kernel
theorem dJ0_init_db425_24 : decode cJ0_init_db425 24 = .ok (.putfield 15, 3) := by decide +kernel
theorem dJ0_init_db425_27 : decode cJ0_init_db425 27 = .ok (.aload_n 0, 1) := by decide +kernel
theorem dJ0_init_db425_28 : decode cJ0_init_db425 28 = .ok (.aload_n 3, 1) := by decide +kernel
theorem dJ0_init_db425_29 : decode cJ0_init_db425 29 = .ok (.iconst 0, 1) := by decide +kernel
theorem dJ0_init_db425_30 : decode cJ0_init_db425 30 = .ok (.iload 4, 2) := by decide +kernel
theorem dJ0_init_db425_32 : decode cJ0_init_db425 32 = .ok (.invokestatic 54, 3) := by decide +kernel
theorem dJ0_init_db425_35 : decode cJ0_init_db425 35 = .ok (.putfield 9, 3) := by decide +kernel
theorem dJ0_init_db425_38 : decode cJ0_init_db425 38 = .ok (.goto 59, 3) := by decide +kernel
theorem dJ0_init_db425_41 : decode cJ0_init_db425 41 = .ok (.getstatic 38, 3) := by decide +kernel
theorem dJ0_init_db425_44 : decode cJ0_init_db425 44 = .ok (.ifCond .eq 35, 3) := by decide +kernel
theorem dJ0_init_db425_47 : decode cJ0_init_db425 47 = .ok (.aload_n 1, 1) := by decide +kernel
theorem dJ0_init_db425_48 : decode cJ0_init_db425 48 = .ok (.getfield 1048, 3) := by decide +kernel
theorem dJ0_init_db425_51 : decode cJ0_init_db425 51 = .ok (.ifCond .eq 28, 3) := by decide +kernel
theorem dJ0_init_db425_54 : decode cJ0_init_db425 54 = .ok (.aload_n 0, 1) := by decide +kernel
theorem dJ0_init_db425_55 : decode cJ0_init_db425 55 = .ok (.aload_n 3, 1) := by decide +kernel
theorem dJ0_init_db425_56 : decode cJ0_init_db425 56 = .ok (.iconst 0, 1) := by decide +kernel
theorem dJ0_init_db425_57 : decode cJ0_init_db425 57 = .ok (.iload 4, 2) := by decide +kernel
theorem dJ0_init_db425_59 : decode cJ0_init_db425 59 = .ok (.invokestatic 1051, 3) := by decide +kernel
theorem dJ0_init_db425_62 : decode cJ0_init_db425 62 = .ok (.putfield 9, 3) := by decide +kernel
theorem dJ0_init_db425_65 : decode cJ0_init_db425 65 = .ok (.aload_n 0, 1) := by decide +kernel
theorem dJ0_init_db425_66 : decode cJ0_init_db425 66 = .ok (.aload_n 0, 1) := by decide +kernel
theorem dJ0_init_db425_67 : decode cJ0_init_db425 67 = .ok (.getfield 9, 3) := by decide +kernel
theorem dJ0_init_db425_70 : decode cJ0_init_db425 70 = .ok (.iload 4, 2) := by decide +kernel
theorem dJ0_init_db425_72 : decode cJ0_init_db425 72 = .ok (.invokestatic 47, 3) := by decide +kernel
theorem dJ0_init_db425_75 : decode cJ0_init_db425 75 = .ok (.putfield 15, 3) := by decide +kernel
theorem dJ0_init_db425_78 : decode cJ0_init_db425 78 = .ok (.return_, 1) := by decide +kernel
theorem dJ0_init_db425_79 : decode cJ0_init_db425 79 = .ok (.aload_n 0, 1) := by decide +kernel
theorem dJ0_init_db425_80 : decode cJ0_init_db425 80 = .ok (.iconst 1, 1) := by decide +kernel
theorem dJ0_init_db425_81 : decode cJ0_init_db425 81 = .ok (.putfield 15, 3) := by decide +kernel
theorem dJ0_init_db425_84 : decode cJ0_init_db425 84 = .ok (.aload_n 0, 1) := by decide +kernel
theorem dJ0_init_db425_85 : decode cJ0_init_db425 85 = .ok (.aload_n 3, 1) := by decide +kernel
theorem dJ0_init_db425_86 : decode cJ0_init_db425 86 = .ok (.iconst 0, 1) := by decide +kernel
theorem dJ0_init_db425_87 : decode cJ0_init_db425 87 = .ok (.iload 4, 2) := by decide +kernel
theorem dJ0_init_db425_89 : decode cJ0_init_db425 89 = .ok (.iconst 1, 1) := by decide +kernel
theorem dJ0_init_db425_90 : decode cJ0_init_db425 90 = .ok (.ishl, 1) := by decide +kernel
theorem dJ0_init_db425_91 : decode cJ0_init_db425 91 = .ok (.invokestatic 54, 3) := by decide +kernel
theorem dJ0_init_db425_94 : decode cJ0_init_db425 94 = .ok (.putfield 9, 3) := by decide +kernel
theorem dJ0_init_db425_97 : decode cJ0_init_db425 97 = .ok (.return_, 1) := by decide +kernel
theorem dJ0_coder_7d493_0 : decode cJ0_coder_7d493 0 = .ok (.getstatic 38, 3) := by decide +kernel
theorem dJ0_coder_7d493_3 : decode cJ0_coder_7d493 3 = .ok (.ifCond .eq 10, 3) := by decide +kernel
theorem dJ0_coder_7d493_6 : decode cJ0_coder_7d493 6 = .ok (.aload_n 0, 1) := by decide +kernel
theorem dJ0_coder_7d493_7 : decode cJ0_coder_7d493 7 = .ok (.getfield 15, 3) := by decide +kernel
theorem dJ0_coder_7d493_10 : decode cJ0_coder_7d493 10 = .ok (.goto 4, 3) := by decide +kernel
theorem dJ0_coder_7d493_13 : decode cJ0_coder_7d493 13 = .ok (.iconst 1, 1) := by decide +kernel
theorem dJ0_coder_7d493_14 : decode cJ0_coder_7d493 14 = .ok (.ireturn, 1) := by decide +kernel
set_option maxRecDepth 20000 in
theorem ggJ4_init_da8c8_J5_init_d00df : GoodIn wsJ4_init_da8c8 wsJ5_init_d00df := goodIn_r _ [4, 5, 6, 7, 8, 9, 10, 11, 12, 13, 14, 15, 16, 17, 18, 19, 20, 21, 22, 23] (by decide +kernel) (by decide +kernel)
set_option maxRecDepth 20000 in
theorem gJ4_init_da8c8_J5_init_d00df : GoodIn wsJ4_init_da8c8 (wsJ5_init_d00df) := ggJ4_init_da8c8_J5_init_d00df
theorem dJ4_init_da8c8_0 : decode cJ4_init_da8c8 0 = .ok (.aload_n 0, 1) := by decide +kernel
theorem dJ4_init_da8c8_1 : decode cJ4_init_da8c8 1 = .ok (.bipush 16, 2) := by decide +kernel
theorem dJ4_init_da8c8_3 : decode cJ4_init_da8c8 3 = .ok (.invokespecial 1, 3) := by decide +kernel
theorem dJ4_init_da8c8_6 : decode cJ4_init_da8c8 6 = .ok (.return_, 1) := by decide +kernel
set_option maxRecDepth 20000 in
theorem ggJ4_append_15ec4_J5_append_cf1ce : GoodIn wsJ4_append_15ec4 wsJ5_append_cf1ce := goodIn_r _ [6, 7, 8, 9, 10, 11, 5, 12, 13, 14, 15, 16, 17, 18, 19, 20, 21, 22, 23, 24, 25, 26, 27, 28, 29, 30, 31, 32, 33, 34, 35, 36, 37, 38, 39, 40, 41, 42, 43, 44, 45, 46, 47, 48, 49, 50, 51, 52, 53, 54, 55, 56, 57, 58, 59, 60, 61, 62, 63, 64, 65, 66, 67, 68, 69, 70, 71, 72, 73, 74, 75, 76, 77, 78, 79, 80, 81, 82, 83, 84, 85, 86, 87, 88, 89, 90, 91, 92, 93, 94, 95, 96, 97, 98, 99, 100, 101, 102, 103, 104, 105, 106, 107, 108, 109, 110, 111, 112, 113, 114, 115, 116, 117, 118, 119, 120, 121, 122, 123, 124, 125, 126, 127, 128, 129, 130, 131, 132, 133, 134, 135, 136, 137, 138, 139, 140, 141, 142, 143, 144, 145, 146, 147, 148, 149, 150] (by decide +kernel) (by decide +kernel)
set_option maxRecDepth 20000 in
theorem gJ4_append_15ec4_J5_append_cf1ce_s29 : GoodIn wsJ4_append_15ec4 (va_wsSU RJ4 29 yJ5_append_cf1ce wsJ5_append_cf1ce) := goodIn_app (goodIn_of _ (by decide +kernel)) ggJ4_append_15ec4_J5_append_cf1ce
theorem dJ4_append_15ec4_0 : decode cJ4_append_15ec4 0 = .ok (.aload_n 0, 1) := by decide +kernel
theorem dJ4_append_15ec4_1 : decode cJ4_append_15ec4 1 = .ok (.aload_n 1, 1) := by decide +kernel
theorem dJ4_append_15ec4_2 : decode cJ4_append_15ec4 2 = .ok (.invokespecial 29, 3) := by decide +kernel
theorem dJ4_append_15ec4_5 : decode cJ4_append_15ec4 5 = .ok (.pop, 1) := by decide +kernel
theorem dJ4_append_15ec4_6 : decode cJ4_append_15ec4 6 = .ok (.aload_n 0, 1) := by decide +kernel
theorem dJ4_append_15ec4_7 : decode cJ4_append_15ec4 7 = .ok (.areturn, 1) := by decide +kernel
set_option maxRecDepth 20000 in
theorem ggJ4_append_bf812_J5_append_c97b9 : GoodIn wsJ4_append_bf812 wsJ5_append_c97b9 := goodIn_r _ [6, 7, 8, 9, 10, 11, 12, 13, 14, 15, 16, 5, 17, 18, 19, 20, 21, 22, 23, 24, 25, 26, 27, 28, 29, 30, 31, 32, 33, 34, 35, 36, 37, 38, 39, 40, 41, 42, 43, 44, 45, 46, 47, 48, 49, 50, 51, 52, 53, 54, 55, 56, 57, 58, 59, 60, 61, 62, 63, 64, 65, 66, 67, 68, 69, 70, 71, 72, 73, 74, 75, 76, 77, 78, 79, 80, 81, 82, 83, 84, 85, 86, 87, 88, 89, 90, 91, 92, 93, 94, 95, 96, 97, 98, 99] (by decide +kernel) (by decide +kernel)
set_option maxRecDepth 20000 in
theorem gJ4_append_bf812_J5_append_c97b9_s53 : GoodIn wsJ4_append_bf812 (va_wsSU RJ4 53 yJ5_append_c97b9 wsJ5_append_c97b9) := goodIn_app (goodIn_of _ (by decide +kernel)) ggJ4_append_bf812_J5_append_c97b9
theorem dJ4_append_bf812_0 : decode cJ4_append_bf812 0 = .ok (.aload_n 0, 1) := by decide +kernel
theorem dJ4_append_bf812_1 : decode cJ4_append_bf812 1 = .ok (.iload_n 1, 1) := by decide +kernel
theorem dJ4_append_bf812_2 : decode cJ4_append_bf812 2 = .ok (.invokespecial 53, 3) := by decide +kernel
theorem dJ4_append_bf812_5 : decode cJ4_append_bf812 5 = .ok (.pop, 1) := by decide +kernel
theorem dJ4_append_bf812_6 : decode cJ4_append_bf812 6 = .ok (.aload_n 0, 1) := by decide +kernel
theorem dJ4_append_bf812_7 : decode cJ4_append_bf812 7 = .ok (.areturn, 1) := by decide +kernel
set_option maxRecDepth 20000 in
theorem ggJ4_toString_0e30d_J0_init_81219 : GoodIn wsJ4_toString_0e30d wsJ0_init_81219 := goodIn_r _ [6, 7, 8, 3, 9, 10, 11, 12, 13, 14, 15, 16, 17, 18, 19, 20, 21, 22, 23, 24, 25, 26, 27, 28, 29, 30, 31, 32, 33, 34, 35, 36, 37, 38, 39, 40, 41, 42, 43, 44, 45, 46, 47, 48, 49, 50, 51, 52, 53, 54, 55, 56, 57, 58, 59, 60, 61, 62, 63, 64, 65, 66, 67, 68, 69, 70, 71, 72, 73, 74, 75, 76, 77, 78, 79, 80, 81, 82, 83, 84, 85, 86, 87, 88, 89, 90, 91, 92, 93, 94, 95, 96, 97, 98, 99, 100, 101, 102, 103, 104, 105, 106, 107, 108, 109, 110, 111, 112] (by decide +kernel) (by decide +kernel)
set_option maxRecDepth 20000 in
theorem gJ4_toString_0e30d_J0_init_81219 : GoodIn wsJ4_toString_0e30d (wsJ0_init_81219) := ggJ4_toString_0e30d_J0_init_81219
theorem dJ4_toString_0e30d_0 : decode cJ4_toString_0e30d 0 = .ok (.new 18, 3) := by decide +kernel
theorem dJ4_toString_0e30d_3 : decode cJ4_toString_0e30d 3 = .ok (.dup, 1) := by decide +kernel
theorem dJ4_toString_0e30d_4 : decode cJ4_toString_0e30d 4 = .ok (.aload_n 0, 1) := by decide +kernel
theorem dJ4_toString_0e30d_5 : decode cJ4_toString_0e30d 5 = .ok (.invokespecial 137, 3) := by decide +kernel
theorem dJ4_toString_0e30d_8 : decode cJ4_toString_0e30d 8 = .ok (.areturn, 1) := by decide +kernel
set_option maxRecDepth 20000 in
theorem ggJ4_length_8abf5_J5_length_8abf5 : GoodIn wsJ4_length_8abf5 wsJ5_length_8abf5 := goodIn_r _ [6, 7, 8, 9, 10, 11] (by decide +kernel) (by decide +kernel)
set_option maxRecDepth 20000 in
theorem gJ4_length_8abf5_J5_length_8abf5_s343 : GoodIn wsJ4_length_8abf5 (va_wsSU RJ4 343 yJ5_length_8abf5 wsJ5_length_8abf5) := goodIn_app (goodIn_of _ (by decide +kernel)) ggJ4_length_8abf5_J5_length_8abf5
theorem dJ4_length_8abf5_0 : decode cJ4_length_8abf5 0 = .ok (.aload_n 0, 1) := by decide +kernel
theorem dJ4_length_8abf5_1 : decode cJ4_length_8abf5 1 = .ok (.invokespecial 343, 3) := by decide +kernel
theorem dJ4_length_8abf5_4 : decode cJ4_length_8abf5 4 = .ok (.ireturn, 1) := by decide +kernel
theorem dJ7_copyOf_9075b_0 : decode cJ7_copyOf_9075b 0 = .ok (.iload_n 1, 1) := by decide +kernel
theorem dJ7_copyOf_9075b_1 : decode cJ7_copyOf_9075b 1 = .ok (.aload_n 0, 1) := by decide +kernel
theorem dJ7_copyOf_9075b_2 : decode cJ7_copyOf_9075b 2 = .ok (.arraylength, 1) := by decide +kernel
theorem dJ7_copyOf_9075b_3 : decode cJ7_copyOf_9075b 3 = .ok (.if_icmp .ne 11, 3) := by decide +kernel
theorem dJ7_copyOf_9075b_6 : decode cJ7_copyOf_9075b 6 = .ok (.aload_n 0, 1) := by decide +kernel
theorem dJ7_copyOf_9075b_7 : decode cJ7_copyOf_9075b 7 = .ok (.invokevirtual 310, 3) := by decide +kernel
theorem dJ7_copyOf_9075b_10 : decode cJ7_copyOf_9075b 10 = .ok (.checkcast 311, 3) := by decide +kernel
theorem dJ7_copyOf_9075b_13 : decode cJ7_copyOf_9075b 13 = .ok (.areturn, 1) := by decide +kernel
theorem dJ7_copyOf_9075b_14 : decode cJ7_copyOf_9075b 14 = .ok (.iload_n 1, 1) := by decide +kernel
theorem dJ7_copyOf_9075b_15 : decode cJ7_copyOf_9075b 15 = .ok (.newarray .byte, 2) := by decide +kernel
theorem dJ7_copyOf_9075b_17 : decode cJ7_copyOf_9075b 17 = .ok (.astore_n 2, 1) := by decide +kernel
theorem dJ7_copyOf_9075b_18 : decode cJ7_copyOf_9075b 18 = .ok (.aload_n 0, 1) := by decide +kernel
theorem dJ7_copyOf_9075b_19 : decode cJ7_copyOf_9075b 19 = .ok (.iconst 0, 1) := by decide +kernel
theorem dJ7_copyOf_9075b_20 : decode cJ7_copyOf_9075b 20 = .ok (.aload_n 2, 1) := by decide +kernel
theorem dJ7_copyOf_9075b_21 : decode cJ7_copyOf_9075b 21 = .ok (.iconst 0, 1) := by decide +kernel
theorem dJ7_copyOf_9075b_22 : decode cJ7_copyOf_9075b 22 = .ok (.aload_n 0, 1) := by decide +kernel
theorem dJ7_copyOf_9075b_23 : decode cJ7_copyOf_9075b 23 = .ok (.arraylength, 1) := by decide +kernel
theorem dJ7_copyOf_9075b_24 : decode cJ7_copyOf_9075b 24 = .ok (.iload_n 1, 1) := by decide +kernel
theorem dJ7_copyOf_9075b_25 : decode cJ7_copyOf_9075b 25 = .ok (.invokestatic 304, 3) := by decide +kernel
theorem dJ7_copyOf_9075b_28 : decode cJ7_copyOf_9075b 28 = .ok (.invokestatic 150, 3) := by decide +kernel
theorem dJ7_copyOf_9075b_31 : decode cJ7_copyOf_9075b 31 = .ok (.aload_n 2, 1) := by decide +kernel
theorem dJ7_copyOf_9075b_32 : decode cJ7_copyOf_9075b 32 = .ok (.areturn, 1) := by decide +kernel
theorem dJ7_checkLength_df160_0 : decode cJ7_checkLength_df160 0 = .ok (.iload_n 1, 1) := by decide +kernel
theorem dJ7_checkLength_df160_1 : decode cJ7_checkLength_df160 1 = .ok (.iload_n 0, 1) := by decide +kernel
theorem dJ7_checkLength_df160_2 : decode cJ7_checkLength_df160 2 = .ok (.if_icmp .ge 35, 3) := by decide +kernel
theorem dJ7_checkLength_df160_5 : decode cJ7_checkLength_df160 5 = .ok (.new 43, 3) := by decide +kernel
theorem dJ7_checkLength_df160_8 : decode cJ7_checkLength_df160 8 = .ok (.dup, 1) := by decide +kernel
theorem dJ7_checkLength_df160_9 : decode cJ7_checkLength_df160 9 = .ok (.new 45, 3) := by decide +kernel
theorem dJ7_checkLength_df160_12 : decode cJ7_checkLength_df160 12 = .ok (.dup, 1) := by decide +kernel
theorem dJ7_checkLength_df160_13 : decode cJ7_checkLength_df160 13 = .ok (.invokespecial 47, 3) := by decide +kernel
theorem dJ7_checkLength_df160_16 : decode cJ7_checkLength_df160 16 = .ok (.iload_n 0, 1) := by decide +kernel
theorem dJ7_checkLength_df160_17 : decode cJ7_checkLength_df160 17 = .ok (.invokevirtual 54, 3) := by decide +kernel
theorem dJ7_checkLength_df160_20 : decode cJ7_checkLength_df160 20 = .ok (.ldc_w 337, 3) := by decide +kernel
theorem dJ7_checkLength_df160_23 : decode cJ7_checkLength_df160 23 = .ok (.invokevirtual 50, 3) := by decide +kernel
theorem dJ7_checkLength_df160_26 : decode cJ7_checkLength_df160 26 = .ok (.iload_n 1, 1) := by decide +kernel
theorem dJ7_checkLength_df160_27 : decode cJ7_checkLength_df160 27 = .ok (.invokevirtual 54, 3) := by decide +kernel
theorem dJ7_checkLength_df160_30 : decode cJ7_checkLength_df160 30 = .ok (.invokevirtual 61, 3) := by decide +kernel
theorem dJ7_checkLength_df160_33 : decode cJ7_checkLength_df160 33 = .ok (.invokespecial 65, 3) := by decide +kernel
theorem dJ7_checkLength_df160_36 : decode cJ7_checkLength_df160 36 = .ok (.athrow, 1) := by decide +kernel
theorem dJ7_checkLength_df160_37 : decode cJ7_checkLength_df160 37 = .ok (.return_, 1) := by decide +kernel
set_option maxRecDepth 20000 in
theorem ggJ7_copyOfRange_39247_J7_copyOfRangeByte_39247 : GoodIn wsJ7_copyOfRange_39247 wsJ7_copyOfRangeByte_39247 := goodIn_r _ [10, 11, 12, 13, 14, 15, 16, 17, 18, 19, 20, 21, 9, 22, 23, 24, 25, 26, 27, 28, 29] (by decide +kernel) (by decide +kernel)
set_option maxRecDepth 20000 in
theorem gJ7_copyOfRange_39247_J7_copyOfRangeByte_39247 : GoodIn wsJ7_copyOfRange_39247 (va_wsS RJ7 339 yJ7_copyOfRangeByte_39247 wsJ7_copyOfRangeByte_39247) := goodIn_app (goodIn_of _ (by decide +kernel)) ggJ7_copyOfRange_39247_J7_copyOfRangeByte_39247
theorem dJ7_copyOfRange_39247_0 : decode cJ7_copyOfRange_39247 0 = .ok (.iload_n 1, 1) := by decide +kernel
theorem dJ7_copyOfRange_39247_1 : decode cJ7_copyOfRange_39247 1 = .ok (.ifCond .ne 9, 3) := by decide +kernel
theorem dJ7_copyOfRange_39247_4 : decode cJ7_copyOfRange_39247 4 = .ok (.iload_n 2, 1) := by decide +kernel
theorem dJ7_copyOfRange_39247_5 : decode cJ7_copyOfRange_39247 5 = .ok (.aload_n 0, 1) := by decide +kernel
theorem dJ7_copyOfRange_39247_6 : decode cJ7_copyOfRange_39247 6 = .ok (.arraylength, 1) := by decide +kernel
theorem dJ7_copyOfRange_39247_7 : decode cJ7_copyOfRange_39247 7 = .ok (.if_icmp .eq 10, 3) := by decide +kernel
theorem dJ7_copyOfRange_39247_10 : decode cJ7_copyOfRange_39247 10 = .ok (.aload_n 0, 1) := by decide +kernel
theorem dJ7_copyOfRange_39247_11 : decode cJ7_copyOfRange_39247 11 = .ok (.iload_n 1, 1) := by decide +kernel
theorem dJ7_copyOfRange_39247_12 : decode cJ7_copyOfRange_39247 12 = .ok (.iload_n 2, 1) := by decide +kernel
theorem dJ7_copyOfRange_39247_13 : decode cJ7_copyOfRange_39247 13 = .ok (.invokestatic 339, 3) := by decide +kernel
theorem dJ7_copyOfRange_39247_16 : decode cJ7_copyOfRange_39247 16 = .ok (.areturn, 1) := by decide +kernel
theorem dJ7_copyOfRange_39247_17 : decode cJ7_copyOfRange_39247 17 = .ok (.aload_n 0, 1) := by decide +kernel
theorem dJ7_copyOfRange_39247_18 : decode cJ7_copyOfRange_39247 18 = .ok (.invokevirtual 310, 3) := by decide +kernel
theorem dJ7_copyOfRange_39247_21 : decode cJ7_copyOfRange_39247 21 = .ok (.checkcast 311, 3) := by decide +kernel
theorem dJ7_copyOfRange_39247_24 : decode cJ7_copyOfRange_39247 24 = .ok (.areturn, 1) := by decide +kernel
set_option maxRecDepth 20000 in
theorem ggJ7_copyOfRangeByte_39247_J7_checkLength_df160 : GoodIn wsJ7_copyOfRangeByte_39247 wsJ7_checkLength_df160 := goodIn_r _ [13, 14, 15, 16, 17, 18, 19, 20] (by decide +kernel) (by decide +kernel)
set_option maxRecDepth 20000 in
theorem gJ7_copyOfRangeByte_39247_J7_checkLength_df160 : GoodIn wsJ7_copyOfRangeByte_39247 (va_wsS RJ7 343 yJ7_checkLength_df160 wsJ7_checkLength_df160) := goodIn_app (goodIn_of _ (by decide +kernel)) ggJ7_copyOfRangeByte_39247_J7_checkLength_df160
theorem dJ7_copyOfRangeByte_39247_0 : decode cJ7_copyOfRangeByte_39247 0 = .ok (.iload_n 1, 1) := by decide +kernel
theorem dJ7_copyOfRangeByte_39247_1 : decode cJ7_copyOfRangeByte_39247 1 = .ok (.iload_n 2, 1) := by decide +kernel
theorem dJ7_copyOfRangeByte_39247_2 : decode cJ7_copyOfRangeByte_39247 2 = .ok (.invokestatic 343, 3) := by decide +kernel
theorem dJ7_copyOfRangeByte_39247_5 : decode cJ7_copyOfRangeByte_39247 5 = .ok (.iload_n 2, 1) := by decide +kernel
theorem dJ7_copyOfRangeByte_39247_6 : decode cJ7_copyOfRangeByte_39247 6 = .ok (.iload_n 1, 1) := by decide +kernel
theorem dJ7_copyOfRangeByte_39247_7 : decode cJ7_copyOfRangeByte_39247 7 = .ok (.isub, 1) := by decide +kernel
theorem dJ7_copyOfRangeByte_39247_8 : decode cJ7_copyOfRangeByte_39247 8 = .ok (.istore_n 3, 1) := by decide +kernel
theorem dJ7_copyOfRangeByte_39247_9 : decode cJ7_copyOfRangeByte_39247 9 = .ok (.iload_n 3, 1) := by decide +kernel
theorem dJ7_copyOfRangeByte_39247_10 : decode cJ7_copyOfRangeByte_39247 10 = .ok (.newarray .byte, 2) := by decide +kernel
theorem dJ7_copyOfRangeByte_39247_12 : decode cJ7_copyOfRangeByte_39247 12 = .ok (.astore 4, 2) := by decide +kernel
theorem dJ7_copyOfRangeByte_39247_14 : decode cJ7_copyOfRangeByte_39247 14 = .ok (.aload_n 0, 1) := by decide +kernel
theorem dJ7_copyOfRangeByte_39247_15 : decode cJ7_copyOfRangeByte_39247 15 = .ok (.iload_n 1, 1) := by decide +kernel
theorem dJ7_copyOfRangeByte_39247_16 : decode cJ7_copyOfRangeByte_39247 16 = .ok (.aload 4, 2) := by decide +kernel
theorem dJ7_copyOfRangeByte_39247_18 : decode cJ7_copyOfRangeByte_39247 18 = .ok (.iconst 0, 1) := by decide +kernel
theorem dJ7_copyOfRangeByte_39247_19 : decode cJ7_copyOfRangeByte_39247 19 = .ok (.aload_n 0, 1) := by decide +kernel
theorem dJ7_copyOfRangeByte_39247_20 : decode cJ7_copyOfRangeByte_39247 20 = .ok (.arraylength, 1) := by decide +kernel
theorem dJ7_copyOfRangeByte_39247_21 : decode cJ7_copyOfRangeByte_39247 21 = .ok (.iload_n 1, 1) := by decide +kernel
theorem dJ7_copyOfRangeByte_39247_22 : decode cJ7_copyOfRangeByte_39247 22 = .ok (.isub, 1) := by decide +kernel
theorem dJ7_copyOfRangeByte_39247_23 : decode cJ7_copyOfRangeByte_39247 23 = .ok (.iload_n 3, 1) := by decide +kernel
theorem dJ7_copyOfRangeByte_39247_24 : decode cJ7_copyOfRangeByte_39247 24 = .ok (.invokestatic 304, 3) := by decide +kernel
theorem dJ7_copyOfRangeByte_39247_27 : decode cJ7_copyOfRangeByte_39247 27 = .ok (.invokestatic 150, 3) := by decide +kernel
theorem dJ7_copyOfRangeByte_39247_30 : decode cJ7_copyOfRangeByte_39247 30 = .ok (.aload 4, 2) := by decide +kernel
theorem dJ7_copyOfRangeByte_39247_32 : decode cJ7_copyOfRangeByte_39247 32 = .ok (.areturn, 1) := by decide +kernel
theorem dJ8_newLength_cabcc_0 : decode cJ8_newLength_cabcc 0 = .ok (.iload_n 0, 1) := by decide +kernel
theorem dJ8_newLength_cabcc_1 : decode cJ8_newLength_cabcc 1 = .ok (.iload_n 1, 1) := by decide +kernel
theorem dJ8_newLength_cabcc_2 : decode cJ8_newLength_cabcc 2 = .ok (.iload_n 2, 1) := by decide +kernel
theorem dJ8_newLength_cabcc_3 : decode cJ8_newLength_cabcc 3 = .ok (.invokestatic 194, 3) := by decide +kernel
theorem dJ8_newLength_cabcc_6 : decode cJ8_newLength_cabcc 6 = .ok (.iadd, 1) := by decide +kernel
theorem dJ8_newLength_cabcc_7 : decode cJ8_newLength_cabcc 7 = .ok (.istore_n 3, 1) := by decide +kernel
theorem dJ8_newLength_cabcc_8 : decode cJ8_newLength_cabcc 8 = .ok (.iconst 0, 1) := by decide +kernel
theorem dJ8_newLength_cabcc_9 : decode cJ8_newLength_cabcc 9 = .ok (.iload_n 3, 1) := by decide +kernel
theorem dJ8_newLength_cabcc_10 : decode cJ8_newLength_cabcc 10 = .ok (.if_icmp .ge 11, 3) := by decide +kernel
theorem dJ8_newLength_cabcc_13 : decode cJ8_newLength_cabcc 13 = .ok (.iload_n 3, 1) := by decide +kernel
theorem dJ8_newLength_cabcc_14 : decode cJ8_newLength_cabcc 14 = .ok (.ldc 200, 2) := by decide +kernel
theorem dJ8_newLength_cabcc_16 : decode cJ8_newLength_cabcc 16 = .ok (.if_icmp .gt 5, 3) := by decide +kernel
theorem dJ8_newLength_cabcc_19 : decode cJ8_newLength_cabcc 19 = .ok (.iload_n 3, 1) := by decide +kernel
theorem dJ8_newLength_cabcc_20 : decode cJ8_newLength_cabcc 20 = .ok (.ireturn, 1) := by decide +kernel
theorem dJ8_newLength_cabcc_21 : decode cJ8_newLength_cabcc 21 = .ok (.iload_n 0, 1) := by decide +kernel
theorem dJ8_newLength_cabcc_22 : decode cJ8_newLength_cabcc 22 = .ok (.iload_n 1, 1) := by decide +kernel
theorem dJ8_newLength_cabcc_23 : decode cJ8_newLength_cabcc 23 = .ok (.invokestatic 201, 3) := by decide +kernel
theorem dJ8_newLength_cabcc_26 : decode cJ8_newLength_cabcc 26 = .ok (.ireturn, 1) := by decide +kernel
abbrev vwCl : List vw_C := [(RJ0, TJ0, 4), (RJ4, TJ4, 4), (RJx00060, TJx00060, 6), (RJx7c733, TJx7c733, 6), (RX0, TX0, 3), (RX1, TX1, 5), (RX2, TX2, 5), (RX3, TX3, 6), (RX4, TX4, 2), (RX5, TX5, 7)]
end
section
/-! A CONTRACT OF A WORLD: what a method's cells are before and behind it, what lies outside and stays; calls and ends by one row each. -/
/-- what lies outside a method's own cells, and stays when the heap changes inside them alone -/
def zz_St (X : (Nat → Prop) → State → Prop) : Prop := ∀ (A A1 : Nat → Prop) (s U : State) (H : Heap) (locs : List Loc), X A s → va_S A s.heap H locs → U.heap = H → s.WarmedH U.vm → (∀ q, A1 q → A q) → X A1 U
/-- a text that lies outside: the object q, its bytes b, n of them, f -/
def zz_S (q b n : Nat) (f : Nat → Int32) (A : Nat → Prop) (U : State) : Prop :=
  va_O "java/lang/String" q A U U.heap ∧ va_OF "java/lang/String" "coder" "B" (.int 0) q A U U.heap ∧ va_OF "java/lang/String" "value" "[B" (.ref b) q A U U.heap ∧ va_T .byte b n (fun j => .int (f j)) A U U.heap ∧ n ≤ 65536 ∧ ∀ j, fits .byte (.int (f j)) = true
/-- String.COMPACT_STRINGS, and Integer's two tables of digits -/
def zz_G (A : Nat → Prop) (U : State) : Prop :=
  va_Z "java/lang/String" "COMPACT_STRINGS" "Z" (.int 1) A U U.heap ∧ ∃ (t1 t2 : Nat) (g1 g2 : Nat → Int32), va_Z "java/lang/Integer" "DigitOnes" "[B" (.ref t1) A U U.heap ∧ va_T .byte t1 100 (fun j => .int (g1 j)) A U U.heap ∧ (∀ j, j < 100 → fits .byte (.int (g1 j)) = true) ∧ va_Z "java/lang/Integer" "DigitTens" "[B" (.ref t2) A U U.heap ∧ va_T .byte t2 100 (fun j => .int (g2 j)) A U U.heap ∧ ∀ j, j < 100 → fits .byte (.int (g2 j)) = true
theorem zz_Tn {ty : FieldType} {t N : Nat} {f : Nat → Value} {A B : Nat → Prop} {U : State} {H : Heap} (h : va_T ty t N f A U H) (hAB : ∀ q, B q → A q) : va_T ty t N f B U H := by
  obtain ⟨cell, h1, h2, h3, h4, h5, h6, h7⟩ := h
  exact ⟨cell, h1, h2, h3, h4, h5, h6, fun z => h7 (hAB _ z)⟩
theorem zz_On {E : String} {t : Nat} {A B : Nat → Prop} {U : State} {H : Heap} (h : va_O E t A U H) (hAB : ∀ q, B q → A q) : va_O E t B U H := by
  obtain ⟨cell, h1, h2, h3, h4⟩ := h
  exact ⟨cell, h1, h2, h3, fun z => h4 (hAB _ z)⟩
theorem zz_St_Z (C n d : String) (v : Value) : zz_St (fun A U => va_Z C n d v A U U.heap) := by
  intro A A1 s U H locs h hS hU hW hA
  have h1 := (va_Z.moved hW.alike h).kept (H1 := U.heap) (by rw [hU]; exact hS.2.1)
  exact h1.narrow hA
theorem zz_St_T (ty : FieldType) (t N : Nat) (f : Nat → Value) : zz_St (fun A U => va_T ty t N f A U U.heap) := by
  intro A A1 s U H locs h hS hU hW hA
  have h1 := (va_T.moved hW.alike h).kept (H1 := U.heap) (by rw [hU]; exact hS.2.1)
  exact zz_Tn h1 hA
theorem zz_St_O (E : String) (t : Nat) : zz_St (fun A U => va_O E t A U U.heap) := by
  intro A A1 s U H locs h hS hU hW hA
  have h1 := (va_O.moved hW.alike h).kept (H1 := U.heap) (by rw [hU]; exact hS.2.1)
  exact zz_On h1 hA
theorem zz_St_OF (o n d : String) (v : Value) (t : Nat) : zz_St (fun A U => va_OF o n d v t A U U.heap) := by
  intro A A1 s U H locs h hS hU hW hA
  have h1 := (va_OF.moved hW.alike h).kept (H1 := U.heap) (by rw [hU]; exact hS.2.1)
  exact h1.narrow hA
theorem zz_St_and {X Y : (Nat → Prop) → State → Prop} (hX : zz_St X) (hY : zz_St Y) : zz_St (fun A U => X A U ∧ Y A U) :=
  fun A A1 s U H locs h hS hU hW hA => ⟨hX A A1 s U H locs h.1 hS hU hW hA, hY A A1 s U H locs h.2 hS hU hW hA⟩
theorem zz_St_S (q b n : Nat) (f : Nat → Int32) : zz_St (zz_S q b n f) := by
  intro A A1 s U H locs ⟨h1, h2, h3, h4, h5⟩ hS hU hW hA
  exact ⟨zz_St_O _ _ A A1 s U H locs h1 hS hU hW hA, zz_St_OF _ _ _ _ _ A A1 s U H locs h2 hS hU hW hA, zz_St_OF _ _ _ _ _ A A1 s U H locs h3 hS hU hW hA, zz_St_T _ _ _ _ A A1 s U H locs h4 hS hU hW hA, h5⟩
theorem zz_St_G : zz_St zz_G := by
  intro A A1 s U H locs ⟨h1, t1, t2, g1, g2, h2, h3, h4, h5, h6, h7⟩ hS hU hW hA
  exact ⟨zz_St_Z _ _ _ _ A A1 s U H locs h1 hS hU hW hA, t1, t2, g1, g2, zz_St_Z _ _ _ _ A A1 s U H locs h2 hS hU hW hA, zz_St_T _ _ _ _ A A1 s U H locs h3 hS hU hW hA, h4, zz_St_Z _ _ _ _ A A1 s U H locs h5 hS hU hW hA, zz_St_T _ _ _ _ A A1 s U H locs h6 hS hU hW hA, h7⟩
theorem zz_St_tt : zz_St (fun _ _ => True) := fun _ _ _ _ _ _ _ _ _ _ _ => trivial
theorem zz_St_R (own tx : String) (k a : Nat) : zz_St (fun _ U => vk_R own k tx a U) := fun _ _ _ _ _ _ h _ _ hW _ => h.warm hW
theorem zz_St_NM (own : String) (i : Nat) (x : MethodName) (h : String) : zz_St (fun _ U => va_Nw (.methodLinkNest own i x h) U) := fun _ _ _ _ _ _ hx _ _ hW _ => va_Nw.warmM hW hx
theorem zz_St_FN (a : String) (i : Nat) (b n d h : String) : zz_St (fun _ U => va_Nw (.fieldLinkNest a i b n d h) U) := fun _ _ _ _ _ _ hx _ _ hW _ => va_Nw.warmF hW hx
theorem zz_St_AO (C : String) : zz_St (fun _ U => va_AO C U) := fun _ _ _ _ _ _ hx _ _ hW _ => va_AO.moved hW.alike hx
theorem va_AOA.moved {t : FieldType} {u U : State} (hvm : u.vm.Alike U.vm) (h : va_AOA t u) : va_AOA t U := Jvm.Stand.arrayOver_alikeB hvm h
theorem zz_St_AOA (ty : FieldType) : zz_St (fun _ U => va_AOA ty U) := fun _ _ _ _ _ _ hx _ _ hW _ => va_AOA.moved hW.alike hx
/-- a method's end: its answer v, its cells W', their array classes ty' -/
def zz_Q (D : va_G) (A : Nat → Prop) (post : Heap → Heap → Option Value → va_W → List (ClassId × FieldType) → Prop) : State → Outcome → State → Prop := fun st oc t =>
  (∃ (v : Option Value) (W' : va_W) (ty' : List (ClassId × FieldType)), oc = .returned v ∧ post st.heap t.heap v W' ty' ∧ va_P D vwCl W' t.heap ∧ va_K D vwCl ty' t ∧ va_D A W') ∧ va_F A st t
abbrev zz_Pc (D : va_G) (av : List Value) (ty : List (ClassId × FieldType)) (ws : va_W) (X : (Nat → Prop) → State → Prop) (sz : Nat) : Array Value → State → Prop :=
  va_Pc av (fun U => U.heap.size = sz ∧ va_P D vwCl ws U.heap ∧ va_K D vwCl ty U ∧ va_D (fun _ => True) ws ∧ X (va_A ws sz) U)
/-- THE CONTRACT -/
def zz_M (l : Launch) (y : MethodName) (wds : List Cond) (rm : Room) (D : va_G) (av : List Value) (ty : List (ClassId × FieldType)) (ws : va_W) (X : (Nat → Prop) → State → Prop) (post : Heap → Heap → Option Value → va_W → List (ClassId × FieldType) → Prop) : Prop :=
  ∀ sz : Nat, Met l y wds rm (zz_Pc D av ty ws X sz) (fun _ => zz_Q D (va_A ws sz) post) rm.cells rm.slots (va_A ws sz)
/-- what is known at a body's entry -/
def zz_C (p : Program) (s : State) (m : MethodId) (meth : Method) (c : Code) (args : Array Value) (own : String) (cc : ByteArray) (maxL : Nat) (ret : Option FieldType) (wds : List Cond) : Prop :=
  p.tables.exec = Jvm.exec ∧ c.code = cc ∧ c.maxLocals = maxL ∧ meth.sig.returnType = ret ∧ s.vm.findClass own = some m.cls ∧ (∀ w ∈ wds, w.before args s = true) ∧ meth.locks = false
theorem zz_M.mk {l : Launch} {y : MethodName} {wds ws' : List Cond} {rm : Room} {D : va_G} {av : List Value} {ty : List (ClassId × FieldType)} {ws : va_W} {X : (Nat → Prop) → State → Prop} {post : Heap → Heap → Option Value → va_W → List (ClassId × FieldType) → Prop} {cc : ByteArray} {maxL : Nat} {ret : Option FieldType}
    (hy : plainName y.cls = true) (hw : wds = Cond.code y cc maxL ret :: ws') (hn : (lg_sl av).length ≤ maxL)
    (body : ∀ (p : Program) (e : Env) (s : State) (m : MethodId) (below : List Frame) (meth : Method) (c : Code) (ls : Array Slot), zz_C p s m meth c av.toArray y.cls cc maxL ret wds → meth.name = y.name → va_P D vwCl ws s.heap → va_K D vwCl ty s → va_D (va_A ws s.heap.size) ws → X (va_A ws s.heap.size) s → lv_has ls maxL (lv_args 0 av) →
      W p l e rm s m av.toArray below meth c s.heap [] 0 0 (MQ below (fun _ => zz_Q D (va_A ws s.heap.size) post) av.toArray s rm.cells rm.slots (va_A ws s.heap.size)) (F0 m 0 ls [])) : zz_M l y wds rm D av ty ws X post := by
  intro sz
  refine Met.ofW (cc := cc) (maxL := maxL) (ret := ret) hy hw ?_
  intro p e s m args below meth c s₁ B hml hv
  obtain ⟨rfl, hsz, hP, hK, hD0, hX⟩ := hv
  subst hsz
  have hl := lv_entry av (n := maxL) hn
  rw [lg_entry_eq]
  exact body p e s m below meth c _ ⟨B.exec, B.bytes, hml, B.returns, findClass_of_methodNamed B.named, atoms_spec (ws := wds) B.pre, B.notSynchronized⟩ (name_of_methodNamed B.named B.method).1 hP hK hD0.self hX hl
section ZZ
variable {p : Program} {l : Launch} {e : Env} {R : Room} {s : State} {m : MethodId} {args : Array Value} {below : List Frame} {meth : Method} {c : Code} {H : Heap} {locs : List Loc} {cells slots : Nat} {Q : State → Prop}
variable {pc : Nat} {ls : Array Slot} {rest st0 : List Value} {A : Nat → Prop} {H0 : Heap} {D : va_G} {ty ty' tyc : List (ClassId × FieldType)} {ws wc wr W' : va_W}
/-- what a callee is given -/
theorem zz_pre {X Xc : (Nat → Prop) → State → Prop} {av : List Value} (hP : va_P D vwCl ws H) (hD : va_D A ws) (hK : va_K D vwCl ty s) (hS : va_S A s.heap H locs) (isC isT : List Nat) (hC : isC.map (fun i => ws[i]?) = wc.map some) (hn : va_nd isC = true) (hT : isT.filterMap (fun i => ty[i]?) = tyc)
    (hXst : zz_St Xc) (hXc : ∀ U : State, U.heap = H → s.WarmedH U.vm → Xc (va_A wc H.size) U) :
    FrameBlind (zz_Pc D av tyc wc Xc H.size) ∧ ∀ U : State, U.heap = H → s.WarmedH U.vm → zz_Pc D av tyc wc Xc H.size av.toArray U := by
  refine ⟨?_, ?_⟩
  · intro a U g mk q
    obtain ⟨q0, q1, qP, qK, qD, qX⟩ := q
    exact ⟨q0, q1, qP, va_K.moved (u := U) (U := U.calling g mk a) (Vm.Alike.refl U.vm) qK, qD, hXst _ _ U (U.calling g mk a) _ [] qX va_S.rf rfl (State.WarmedH.refl U) (fun _ h => h)⟩
  · intro U hU hW
    have hD' := hD.sub isC hn hC
    refine ⟨rfl, by rw [hU], ?_, va_K.moved hW.alike (hK.sub isT hT), hD'.weaken (fun _ _ _ _ => trivial), hXc U hU hW⟩
    rw [hU]
    intro k q hq
    have h1 : (isC.map (fun i => ws[i]?))[k]? = some (some q) := by rw [hC, List.getElem?_map, hq]; rfl
    rw [List.getElem?_map] at h1
    cases hi : isC[k]? with
    | none => rw [hi] at h1; cases h1
    | some i => rw [hi] at h1; exact hP i q (Option.some.inj h1)
/-- the facts outside, handed on -/
theorem zz_out {X : (Nat → Prop) → State → Prop} (hX : zz_St X) (hx : X A s) (hS : va_S A s.heap H locs) (hF : ∀ q, va_A wc H.size q → A q) : ∀ U : State, U.heap = H → s.WarmedH U.vm → X (va_A wc H.size) U :=
  fun U hU hW => hX _ _ s U H locs hx hS hU hW hF
/-- behind a call -/
theorem zz_after {mc ms : Nat} {post : Heap → Heap → Option Value → va_W → List (ClassId × FieldType) → Prop} (hr : va_Run p l e R s m args below meth c H locs cells slots mc ms (F0 m pc ls st0) rest (zz_Q D (va_A wc H.size) post) (va_A wc H.size)) (hP : va_P D vwCl ws H) (hD : va_D A ws) (hK : va_K D vwCl ty s) (hS : va_S A H0 H locs) (hF : ∀ q, va_A wc H.size q → A q) (isC isR : List Nat) (hC : isC.map (fun i => ws[i]?) = wc.map some) (hR : isR.map (fun i => ws[i]?) = wr.map some) (hn : va_nd isR = true) (hdis : ∀ i ∈ isR, i ∉ isC)
    (kk : ∀ (v : Option Value) (w1 : va_W) (ty1 : List (ClassId × FieldType)) (H1 : Heap) (locs1 : List Loc), post H H1 v w1 ty1 → H.size ≤ H1.size → (∀ q : Nat, q < H.size → ¬ va_A wc H.size q → H1[q]? = H[q]?) → va_P D vwCl (wr ++ w1) H1 → va_D A (wr ++ w1) → va_K D vwCl (ty ++ ty1) s → va_S A H0 H1 locs1 →
      W p l e R s m args below meth c H1 locs1 (cells + mc) (slots + ms) Q (F0 m (pc + 3) ls (v.toList ++ rest))) : W p l e R s m args below meth c H locs cells slots Q (F0 m pc ls st0) := by
  intro T hT X
  obtain ⟨v, st₀, t, T', L, h0, X', hL, e1, e2, ⟨⟨v', w1, ty1, hv, hp, hP1, hK1, hD1⟩, hz, hk⟩, st⟩ := hr T hT X
  cases hv
  rw [h0] at hz hk hp
  rw [← e1] at hp hz hk hP1
  have hvm : s.vm.Alike t.vm := by rw [← e2]; exact X'.warmed.alike
  obtain ⟨hPn, hDn⟩ := va_join hP hD isC isR hC hR hn hdis hk hF hP1 hD1
  obtain ⟨t2, a1, b1⟩ := kk v w1 ty1 T'.heap (locs ++ L) hp hz hk hPn hDn (hK.app (va_K.moved hvm.symm hK1))
    ⟨Nat.le_trans hS.1 hz, fun q h1 h2 => by rw [hk q (Nat.lt_of_lt_of_le h1 hS.1) (fun z => h2 (hF q z))]; exact hS.2.1 q h1 h2, fun q hq => by
      rcases List.mem_append.mp hq with h | h
      · exact hS.2.2 q h
      · exact hF _ (hL q h)⟩ T' rfl X'
  exact ⟨t2, st t2 a1, b1⟩
theorem zz_pV {C : String} {b : Addr} {Pc : Array Value → State → Prop} {As : List Value} (h : FrameBlind Pc ∧ ∀ U : State, U.heap = H → s.WarmedH U.vm → Pc (Value.ref b :: As).toArray U) (hr : ∃ cellB : Cell, H[b]? = some cellB ∧ cellB.vm.isStatics = false ∧ s.vm.findClass C = some cellB.cls) : PreV s H C b Pc As := ⟨h.1, hr, h.2⟩
/-- ends -/
theorem zz_end {v : Option Value} {post : Heap → Heap → Option Value → va_W → List (ClassId × FieldType) → Prop} (hP : va_P D vwCl ws H) (hD : va_D A ws) (hK : va_K D vwCl ty s) (hS : va_S A s.heap H locs) (hq : post s.heap H v ws ty) : ∀ t : State, t.heap = H → s.WarmedH t.vm → zz_Q D A post s (.returned v) t :=
  fun t ht hW => ⟨⟨v, ws, ty, rfl, by rw [ht]; exact hq, by rw [ht]; exact hP, va_K.moved hW.alike hK, hD⟩, hS.F ht⟩
end ZZ
/-! numbers -/
theorem zz_max {a b : Nat} (ha : a < 2 ^ 31) (hb : b < 2 ^ 31) : (if nI a < nI b then nI b else nI a) = nI (max a b) := by
  by_cases h : a < b
  · rw [if_pos (nI_lt h hb), Nat.max_eq_right (by omega)]
  · rw [if_neg (nI_nlt (by omega) ha), Nat.max_eq_left (by omega)]
theorem zz_min {a b : Nat} (ha : a < 2 ^ 31) (hb : b < 2 ^ 31) : (if nI b < nI a then nI b else nI a) = nI (min a b) := by
  by_cases h : b < a
  · rw [if_pos (nI_lt h ha), Nat.min_eq_right (by omega)]
  · rw [if_neg (nI_nlt (by omega) hb), Nat.min_eq_left (by omega)]
/-- the capacity behind ensureCapacityInternal q, at capacity k -/
def zz_cap (q k : Nat) : Nat := if q ≤ k then k else k + max (q - k) (k + 2)
theorem zz_cap_ge (q k : Nat) : q ≤ zz_cap q k := by unfold zz_cap; split <;> omega
theorem zz_cap_le {q k : Nat} (hq : q ≤ 400) (hk : k ≤ 1500) : zz_cap q k ≤ 1500 := by unfold zz_cap; split <;> omega
theorem zz_neg {x c : Nat} (hx : x < 2 ^ 31) (hc : c < 2 ^ 31) : -nI x ≤ -nI c ↔ c ≤ x := sb_nle hx hc
theorem zz_nn (x : Nat) : -(-nI x) = nI x := by simp
theorem zz_fitN (x : Int32) : fits .byte (.int (vp_nar .byte x)) = true := by rw [vp_nar_byte]; exact pk_fb x
theorem zz_cap_or (q k : Nat) : (q ≤ k ∧ zz_cap q k = k) ∨ (k < q ∧ zz_cap q k = k + max (q - k) (k + 2)) := by
  by_cases h : q ≤ k
  · exact Or.inl ⟨h, if_pos h⟩
  · exact Or.inr ⟨by omega, if_neg h⟩
end
section
set_option maxHeartbeats 4000000 in
set_option maxRecDepth 100000 in
theorem k_J0_coder_7d493 (l : Launch) (D : va_G) (q : Nat) (b : Nat) (n : Nat) (f : Nat → Int32) : zz_M l yJ0_coder_7d493 wsJ0_coder_7d493 ({ frames := 1, cells := 0, slots := 0, locals := 40 }) D [.ref q] [] [] (fun A U => zz_G A U ∧ zz_S q b n f A U) (fun H0 H1 v w t => v = some (.int 0) ∧ w = [] ∧ t = []) := by
  refine zz_M.mk (cc := cJ0_coder_7d493) (maxL := 1) (ret := (some .byte)) (by decide) rfl (Nat.le_of_ble_eq_true rfl) ?_
  intro p0 e0 s mt0 bl0 meth0 cd0 ls hC hname hP hK hD hX hl
  obtain ⟨hx, hb, hml, hr, hown, hts, hlocks⟩ := hC
  obtain ⟨hX0, hX1⟩ := hX
  generalize hAe : va_A [] s.heap.size = A at *
  have hA : ∀ q : Nat, s.heap.size ≤ q → A q := fun q h => by rw [← hAe]; exact Or.inr h
  obtain ⟨H, hHs⟩ : ∃ z : Heap, z = s.heap := ⟨_, rfl⟩
  rw [← hHs] at hP ⊢
  have hS : va_S A s.heap H [] := by rw [hHs]; exact va_S.rf
  have hl : lv_has ls 1 [(0, .ref q)] := hl
  refine va_gets hx hb (hX0.1) hS hown (hts (.fieldLink RJ0 38 "java/lang/String" "COMPACT_STRINGS" "Z") (by decide +kernel)) (fun _ h9 => h9) dJ0_coder_7d493_0 ?_
  refine lv_if_eq (tgt := 13) hx hb dJ0_coder_7d493_3 (by decide) (fun c_1 => absurd c_1 (by decide)) (fun c_1 => ?_)
  refine lv_aload_n hx hb dJ0_coder_7d493_6 rfl (lv_at hl 0 rfl) ?_
  refine vk_getf hx hb hX1.2.1 hS hown (hts (.fieldLink RJ0 15 "java/lang/String" "coder" "B") (by decide +kernel)) (fun _ h9 => h9) dJ0_coder_7d493_7 ?_
  refine lv_goto (tgt := 14) hx hb dJ0_coder_7d493_10 (by decide) ?_
  have hP9 := hP.sub (ws' := []) [] rfl
  have hD9 := hD.sub (ws' := []) [] (by decide) rfl
  have hK9 := hK.sub (tys' := []) [] rfl
  refine W.widen (k := 0) (n := 0) (by show 0 ≤ 0; omega) (by show 0 ≤ 0; omega) ?_
  exact W.zret (v := 0) hx hb hr (rfl) (zz_end hP9 hD9 hK9 hS (⟨rfl, rfl, rfl⟩)) hS.2.2 dJ0_coder_7d493_14
set_option maxHeartbeats 4000000 in
set_option maxRecDepth 100000 in
theorem k_J0_length_8abf5 (l : Launch) (D : va_G) (q : Nat) (b : Nat) (n : Nat) (f : Nat → Int32) : zz_M l yJ0_length_8abf5 wsJ0_length_8abf5 ({ frames := 2, cells := 0, slots := 0, locals := 100 }) D [.ref q] [] [] (fun A U => zz_G A U ∧ zz_S q b n f A U) (fun H0 H1 v w t => v = some (.int (nI n)) ∧ w = [] ∧ t = []) := by
  refine zz_M.mk (cc := cJ0_length_8abf5) (maxL := 1) (ret := (some .int)) (by decide) rfl (Nat.le_of_ble_eq_true rfl) ?_
  intro p0 e0 s mt0 bl0 meth0 cd0 ls hC hname hP hK hD hX hl
  obtain ⟨hx, hb, hml, hr, hown, hts, hlocks⟩ := hC
  obtain ⟨hX0, hX1⟩ := hX
  generalize hAe : va_A [] s.heap.size = A at *
  have hA : ∀ q : Nat, s.heap.size ≤ q → A q := fun q h => by rw [← hAe]; exact Or.inr h
  obtain ⟨H, hHs⟩ : ∃ z : Heap, z = s.heap := ⟨_, rfl⟩
  rw [← hHs] at hP ⊢
  have hS : va_S A s.heap H [] := by rw [hHs]; exact va_S.rf
  have hl : lv_has ls 1 [(0, .ref q)] := hl
  refine lv_aload_n hx hb dJ0_length_8abf5_0 rfl (lv_at hl 0 rfl) ?_
  refine vk_getf hx hb hX1.2.2.1 hS hown (hts (.fieldLink RJ0 9 "java/lang/String" "value" "[B") (by decide +kernel)) (fun _ h9 => h9) dJ0_length_8abf5_1 ?_
  refine va_tlen hx hb hX1.2.2.2.1 hS (v := nI n) rfl dJ0_length_8abf5_4 ?_
  refine lv_aload_n hx hb dJ0_length_8abf5_5 rfl (lv_at hl 0 rfl) ?_
  have hFc := va_free (wc := []) hD hS hA [] rfl
  have hO0 := zz_out zz_St_G hX0 hS hFc
  have hO1 := zz_out (zz_St_S q b n f) hX1 hS hFc
  refine zz_after (wr := []) (va_runV (As := []) (rest := [.int (nI n)]) ⟨hx, hb, hml, hown, hts⟩ ((k_J0_coder_7d493 l D q b n f) H.size) (cwV 0 hts gJ0_length_8abf5_J0_coder_7d493 rfl rfl rfl (by decide +kernel) ⟨Nat.le_of_ble_eq_true rfl, Nat.le_of_ble_eq_true rfl⟩) (zz_pV (zz_pre (av := [.ref q]) (tyc := []) (wc := []) (X := fun _ _ => True) (Xc := (fun A U => zz_G A U ∧ zz_S q b n f A U)) hP hD hK hS [] [] rfl (by decide) rfl (zz_St_and zz_St_G (zz_St_S q b n f)) (fun U h1 h2 => ⟨hO0 U h1 h2, hO1 U h1 h2⟩)) (va_Orecv hX1.1 hS)) rfl rfl hl.1 rfl (lv_room (Nat.le_of_ble_eq_true rfl)) dJ0_length_8abf5_6 ⟨by show 0 + 0 ≤ 0; omega, by show 0 + 0 ≤ 0; omega⟩) hP hD hK hS hFc [] [] rfl rfl (by decide) (by decide) (fun v w1 ty1 H1 locs hq9 hz9 hk9 hP1 hD1 hK1 hS1 => ?_)
  obtain ⟨rfl, rfl, rfl⟩ := hq9
  clear hS hP hD hK hFc hO0 hO1
  have hP : va_P D vwCl [] H1 := hP1
  have hD : va_D A [] := hD1
  have hK : va_K D vwCl [] s := hK1
  have hS := hS1
  clear hP1 hD1 hK1 hS1
  obtain ⟨H, rfl⟩ : ∃ z, z = H1 := ⟨_, rfl⟩
  refine W.eq (g2 := F0 mt0 9 ls [.int 0, .int (nI n)]) rfl ?_
  refine lv_ishr hx hb dJ0_length_8abf5_9 ?_
  refine lv_topi (fun z_1 ez_1 => ?_)
  obtain rfl : z_1 = nI n := ez_1.trans (sb_shr0 _)
  have hP9 := hP.sub (ws' := []) [] rfl
  have hD9 := hD.sub (ws' := []) [] (by decide) rfl
  have hK9 := hK.sub (tys' := []) [] rfl
  refine W.widen (k := 0) (n := 0) (by show 0 + 0 ≤ 0; omega) (by show 0 + 0 ≤ 0; omega) ?_
  exact W.iret (v := nI n) hx hb hr (zz_end hP9 hD9 hK9 hS (⟨rfl, rfl, rfl⟩)) hS.2.2 dJ0_length_8abf5_10
set_option maxHeartbeats 4000000 in
set_option maxRecDepth 100000 in
theorem k_isEmpty_0 (l : Launch) (D : va_G) (q : Nat) (b : Nat) (n : Nat) (f : Nat → Int32) (hn : n = 0) : zz_M l yJ0_isEmpty_aae02 wsJ0_isEmpty_aae02 ({ frames := 1, cells := 0, slots := 0, locals := 40 }) D [.ref q] [] [] (fun A U => zz_S q b n f A U) (fun H0 H1 v w t => v = some (.int 1) ∧ w = [] ∧ t = []) := by
  refine zz_M.mk (cc := cJ0_isEmpty_aae02) (maxL := 1) (ret := (some .boolean)) (by decide) rfl (Nat.le_of_ble_eq_true rfl) ?_
  intro p0 e0 s mt0 bl0 meth0 cd0 ls hC hname hP hK hD hX hl
  obtain ⟨hx, hb, hml, hr, hown, hts, hlocks⟩ := hC
  have hX0 := hX
  generalize hAe : va_A [] s.heap.size = A at *
  have hA : ∀ q : Nat, s.heap.size ≤ q → A q := fun q h => by rw [← hAe]; exact Or.inr h
  obtain ⟨H, hHs⟩ : ∃ z : Heap, z = s.heap := ⟨_, rfl⟩
  rw [← hHs] at hP ⊢
  have hS : va_S A s.heap H [] := by rw [hHs]; exact va_S.rf
  have hl : lv_has ls 1 [(0, .ref q)] := hl
  refine lv_aload_n hx hb dJ0_isEmpty_aae02_0 rfl (lv_at hl 0 rfl) ?_
  refine vk_getf hx hb hX0.2.2.1 hS hown (hts (.fieldLink RJ0 9 "java/lang/String" "value" "[B") (by decide +kernel)) (fun _ h9 => h9) dJ0_isEmpty_aae02_1 ?_
  refine va_tlen hx hb hX0.2.2.2.1 hS (v := nI n) rfl dJ0_isEmpty_aae02_4 ?_
  refine lv_if_ne (tgt := 12) hx hb dJ0_isEmpty_aae02_5 (by decide) (fun c_1 => absurd (by rw [hn]; rfl) c_1) (fun c_1 => ?_)
  refine lv_iconst (v := 1) hx hb dJ0_isEmpty_aae02_8 (by decide) ?_
  refine lv_goto (tgt := 13) hx hb dJ0_isEmpty_aae02_9 (by decide) ?_
  have hP9 := hP.sub (ws' := []) [] rfl
  have hD9 := hD.sub (ws' := []) [] (by decide) rfl
  have hK9 := hK.sub (tys' := []) [] rfl
  refine W.widen (k := 0) (n := 0) (by show 0 ≤ 0; omega) (by show 0 ≤ 0; omega) ?_
  exact W.zret (v := 1) hx hb hr (rfl) (zz_end hP9 hD9 hK9 hS (⟨rfl, rfl, rfl⟩)) hS.2.2 dJ0_isEmpty_aae02_13
set_option maxHeartbeats 4000000 in
set_option maxRecDepth 100000 in
theorem k_isEmpty_1 (l : Launch) (D : va_G) (q : Nat) (b : Nat) (n : Nat) (f : Nat → Int32) (hn : 0 < n) (hn2 : n < 2 ^ 31) : zz_M l yJ0_isEmpty_aae02 wsJ0_isEmpty_aae02 ({ frames := 1, cells := 0, slots := 0, locals := 40 }) D [.ref q] [] [] (fun A U => zz_S q b n f A U) (fun H0 H1 v w t => v = some (.int 0) ∧ w = [] ∧ t = []) := by
  refine zz_M.mk (cc := cJ0_isEmpty_aae02) (maxL := 1) (ret := (some .boolean)) (by decide) rfl (Nat.le_of_ble_eq_true rfl) ?_
  intro p0 e0 s mt0 bl0 meth0 cd0 ls hC hname hP hK hD hX hl
  obtain ⟨hx, hb, hml, hr, hown, hts, hlocks⟩ := hC
  have hX0 := hX
  generalize hAe : va_A [] s.heap.size = A at *
  have hA : ∀ q : Nat, s.heap.size ≤ q → A q := fun q h => by rw [← hAe]; exact Or.inr h
  obtain ⟨H, hHs⟩ : ∃ z : Heap, z = s.heap := ⟨_, rfl⟩
  rw [← hHs] at hP ⊢
  have hS : va_S A s.heap H [] := by rw [hHs]; exact va_S.rf
  have hl : lv_has ls 1 [(0, .ref q)] := hl
  refine lv_aload_n hx hb dJ0_isEmpty_aae02_0 rfl (lv_at hl 0 rfl) ?_
  refine vk_getf hx hb hX0.2.2.1 hS hown (hts (.fieldLink RJ0 9 "java/lang/String" "value" "[B") (by decide +kernel)) (fun _ h9 => h9) dJ0_isEmpty_aae02_1 ?_
  refine va_tlen hx hb hX0.2.2.2.1 hS (v := nI n) rfl dJ0_isEmpty_aae02_4 ?_
  refine lv_if_ne (tgt := 12) hx hb dJ0_isEmpty_aae02_5 (by decide) (fun c_1 => ?_) (fun c_1 => absurd c_1 (nI_ne0 hn hn2))
  refine lv_iconst (v := 0) hx hb dJ0_isEmpty_aae02_12 (by decide) ?_
  have hP9 := hP.sub (ws' := []) [] rfl
  have hD9 := hD.sub (ws' := []) [] (by decide) rfl
  have hK9 := hK.sub (tys' := []) [] rfl
  refine W.widen (k := 0) (n := 0) (by show 0 ≤ 0; omega) (by show 0 ≤ 0; omega) ?_
  exact W.zret (v := 0) hx hb hr (rfl) (zz_end hP9 hD9 hK9 hS (⟨rfl, rfl, rfl⟩)) hS.2.2 dJ0_isEmpty_aae02_13
set_option maxHeartbeats 4000000 in
set_option maxRecDepth 100000 in
theorem k_J5_isLatin1_aae02 (l : Launch) (D : va_G) (h : Nat) (d : Nat) (ml : Int32) (n : Nat) (k : Nat) (f : Nat → Int32) (cB : ClassId) : zz_M l yJ5_isLatin1_aae02 wsJ5_isLatin1_aae02 ({ frames := 1, cells := 0, slots := 0, locals := 40 }) D [.ref h] [(cB, .byte)] [(h, .inr (1, [.ref d, .int 0, .int ml, .int (nI n)])), (d, .inl (cB, k, .inl f))] (fun A U => zz_G A U) (fun H0 H1 v w t => v = some (.int 1) ∧ w = [(h, .inr (1, [.ref d, .int 0, .int ml, .int (nI n)])), (d, .inl (cB, k, .inl f))] ∧ t = [(cB, .byte)]) := by
  refine zz_M.mk (cc := cJ5_isLatin1_aae02) (maxL := 1) (ret := (some .boolean)) (by decide) rfl (Nat.le_of_ble_eq_true rfl) ?_
  intro p0 e0 s mt0 bl0 meth0 cd0 ls hC hname hP hK hD hX hl
  obtain ⟨hx, hb, hml, hr, hown, hts, hlocks⟩ := hC
  have hX0 := hX
  generalize hAe : va_A [(h, .inr (1, [.ref d, .int 0, .int ml, .int (nI n)])), (d, .inl (cB, k, .inl f))] s.heap.size = A at *
  have hA : ∀ q : Nat, s.heap.size ≤ q → A q := fun q h => by rw [← hAe]; exact Or.inr h
  obtain ⟨H, hHs⟩ : ∃ z : Heap, z = s.heap := ⟨_, rfl⟩
  rw [← hHs] at hP ⊢
  have hS : va_S A s.heap H [] := by rw [hHs]; exact va_S.rf
  have hl : lv_has ls 1 [(0, .ref h)] := hl
  refine va_gets hx hb (hX0.1) hS hown (hts (.fieldLink RJ5 18 "java/lang/String" "COMPACT_STRINGS" "Z") (by decide +kernel)) (fun _ h9 => h9) dJ5_isLatin1_aae02_0 ?_
  refine lv_if_eq (tgt := 17) hx hb dJ5_isLatin1_aae02_3 (by decide) (fun c_1 => absurd c_1 (by decide)) (fun c_1 => ?_)
  refine lv_aload_n hx hb dJ5_isLatin1_aae02_6 rfl (lv_at hl 0 rfl) ?_
  refine va_get (D := D) (ci := 1) (v := .int 0) (C := RJ4) (T := TJ4) (N := 4) hx hb hts (by decide +kernel) hown hK hP 0 rfl rfl 1 (by decide) (hts (.fieldLink RJ5 22 "java/lang/AbstractStringBuilder" "coder" "B") (by decide +kernel)) (fun _ h9 => h9) rfl dJ5_isLatin1_aae02_7 ?_
  refine lv_if_ne (tgt := 17) hx hb dJ5_isLatin1_aae02_10 (by decide) (fun c_2 => absurd (rfl) c_2) (fun c_2 => ?_)
  refine lv_iconst (v := 1) hx hb dJ5_isLatin1_aae02_13 (by decide) ?_
  refine lv_goto (tgt := 18) hx hb dJ5_isLatin1_aae02_14 (by decide) ?_
  have hP9 := hP.sub (ws' := [(h, .inr (1, [.ref d, .int 0, .int ml, .int (nI n)])), (d, .inl (cB, k, .inl f))]) [0, 1] rfl
  have hD9 := hD.sub (ws' := [(h, .inr (1, [.ref d, .int 0, .int ml, .int (nI n)])), (d, .inl (cB, k, .inl f))]) [0, 1] (by decide) rfl
  have hK9 := hK.sub (tys' := [(cB, .byte)]) [0] rfl
  refine W.widen (k := 0) (n := 0) (by show 0 ≤ 0; omega) (by show 0 ≤ 0; omega) ?_
  exact W.zret (v := 1) hx hb hr (rfl) (zz_end hP9 hD9 hK9 hS (⟨rfl, rfl, rfl⟩)) hS.2.2 dJ5_isLatin1_aae02_18
set_option maxHeartbeats 4000000 in
set_option maxRecDepth 100000 in
theorem k_J5_getValue_6d5f1 (l : Launch) (D : va_G) (h : Nat) (d : Nat) (ml : Int32) (n : Nat) (k : Nat) (f : Nat → Int32) (cB : ClassId) : zz_M l yJ5_getValue_6d5f1 wsJ5_getValue_6d5f1 ({ frames := 1, cells := 0, slots := 0, locals := 40 }) D [.ref h] [(cB, .byte)] [(h, .inr (1, [.ref d, .int 0, .int ml, .int (nI n)])), (d, .inl (cB, k, .inl f))] (fun _ _ => True) (fun H0 H1 v w t => v = some (.ref d) ∧ w = [(h, .inr (1, [.ref d, .int 0, .int ml, .int (nI n)])), (d, .inl (cB, k, .inl f))] ∧ t = [(cB, .byte)]) := by
  refine zz_M.mk (cc := cJ5_getValue_6d5f1) (maxL := 1) (ret := (some (.array .byte))) (by decide) rfl (Nat.le_of_ble_eq_true rfl) ?_
  intro p0 e0 s mt0 bl0 meth0 cd0 ls hC hname hP hK hD hX hl
  obtain ⟨hx, hb, hml, hr, hown, hts, hlocks⟩ := hC
  generalize hAe : va_A [(h, .inr (1, [.ref d, .int 0, .int ml, .int (nI n)])), (d, .inl (cB, k, .inl f))] s.heap.size = A at *
  have hA : ∀ q : Nat, s.heap.size ≤ q → A q := fun q h => by rw [← hAe]; exact Or.inr h
  obtain ⟨H, hHs⟩ : ∃ z : Heap, z = s.heap := ⟨_, rfl⟩
  rw [← hHs] at hP ⊢
  have hS : va_S A s.heap H [] := by rw [hHs]; exact va_S.rf
  have hl : lv_has ls 1 [(0, .ref h)] := hl
  refine lv_aload_n hx hb dJ5_getValue_6d5f1_0 rfl (lv_at hl 0 rfl) ?_
  refine va_get (D := D) (ci := 1) (v := .ref d) (C := RJ4) (T := TJ4) (N := 4) hx hb hts (by decide +kernel) hown hK hP 0 rfl rfl 0 (by decide) (hts (.fieldLink RJ5 15 "java/lang/AbstractStringBuilder" "value" "[B") (by decide +kernel)) (fun _ h9 => h9) rfl dJ5_getValue_6d5f1_1 ?_
  have hP9 := hP.sub (ws' := [(h, .inr (1, [.ref d, .int 0, .int ml, .int (nI n)])), (d, .inl (cB, k, .inl f))]) [0, 1] rfl
  have hD9 := hD.sub (ws' := [(h, .inr (1, [.ref d, .int 0, .int ml, .int (nI n)])), (d, .inl (cB, k, .inl f))]) [0, 1] (by decide) rfl
  have hK9 := hK.sub (tys' := [(cB, .byte)]) [0] rfl
  refine W.widen (k := 0) (n := 0) (by show 0 ≤ 0; omega) (by show 0 ≤ 0; omega) ?_
  exact W.aret (v := .ref d) hx hb hr (Or.inr ⟨_, rfl⟩) (Or.inr ⟨_, rfl⟩) (zz_end hP9 hD9 hK9 hS (⟨rfl, rfl, rfl⟩)) hS.2.2 dJ5_getValue_6d5f1_4
set_option maxHeartbeats 4000000 in
set_option maxRecDepth 100000 in
theorem k_J5_length_8abf5 (l : Launch) (D : va_G) (h : Nat) (d : Nat) (ml : Int32) (n : Nat) (k : Nat) (f : Nat → Int32) (cB : ClassId) : zz_M l yJ5_length_8abf5 wsJ5_length_8abf5 ({ frames := 1, cells := 0, slots := 0, locals := 40 }) D [.ref h] [(cB, .byte)] [(h, .inr (1, [.ref d, .int 0, .int ml, .int (nI n)])), (d, .inl (cB, k, .inl f))] (fun _ _ => True) (fun H0 H1 v w t => v = some (.int (nI n)) ∧ w = [(h, .inr (1, [.ref d, .int 0, .int ml, .int (nI n)])), (d, .inl (cB, k, .inl f))] ∧ t = [(cB, .byte)]) := by
  refine zz_M.mk (cc := cJ5_length_8abf5) (maxL := 1) (ret := (some .int)) (by decide) rfl (Nat.le_of_ble_eq_true rfl) ?_
  intro p0 e0 s mt0 bl0 meth0 cd0 ls hC hname hP hK hD hX hl
  obtain ⟨hx, hb, hml, hr, hown, hts, hlocks⟩ := hC
  generalize hAe : va_A [(h, .inr (1, [.ref d, .int 0, .int ml, .int (nI n)])), (d, .inl (cB, k, .inl f))] s.heap.size = A at *
  have hA : ∀ q : Nat, s.heap.size ≤ q → A q := fun q h => by rw [← hAe]; exact Or.inr h
  obtain ⟨H, hHs⟩ : ∃ z : Heap, z = s.heap := ⟨_, rfl⟩
  rw [← hHs] at hP ⊢
  have hS : va_S A s.heap H [] := by rw [hHs]; exact va_S.rf
  have hl : lv_has ls 1 [(0, .ref h)] := hl
  refine lv_aload_n hx hb dJ5_length_8abf5_0 rfl (lv_at hl 0 rfl) ?_
  refine va_get (D := D) (ci := 1) (v := .int (nI n)) (C := RJ4) (T := TJ4) (N := 4) hx hb hts (by decide +kernel) hown hK hP 0 rfl rfl 3 (by decide) (hts (.fieldLink RJ5 79 "java/lang/AbstractStringBuilder" "count" "I") (by decide +kernel)) (fun _ h9 => h9) rfl dJ5_length_8abf5_1 ?_
  have hP9 := hP.sub (ws' := [(h, .inr (1, [.ref d, .int 0, .int ml, .int (nI n)])), (d, .inl (cB, k, .inl f))]) [0, 1] rfl
  have hD9 := hD.sub (ws' := [(h, .inr (1, [.ref d, .int 0, .int ml, .int (nI n)])), (d, .inl (cB, k, .inl f))]) [0, 1] (by decide) rfl
  have hK9 := hK.sub (tys' := [(cB, .byte)]) [0] rfl
  refine W.widen (k := 0) (n := 0) (by show 0 ≤ 0; omega) (by show 0 ≤ 0; omega) ?_
  exact W.iret (v := nI n) hx hb hr (zz_end hP9 hD9 hK9 hS (⟨rfl, rfl, rfl⟩)) hS.2.2 dJ5_length_8abf5_4
set_option maxHeartbeats 4000000 in
set_option maxRecDepth 100000 in
theorem k_J4_length_8abf5 (l : Launch) (D : va_G) (h : Nat) (d : Nat) (ml : Int32) (n : Nat) (k : Nat) (f : Nat → Int32) (cB : ClassId) : zz_M l yJ4_length_8abf5 wsJ4_length_8abf5 ({ frames := 2, cells := 0, slots := 0, locals := 100 }) D [.ref h] [(cB, .byte)] [(h, .inr (1, [.ref d, .int 0, .int ml, .int (nI n)])), (d, .inl (cB, k, .inl f))] (fun _ _ => True) (fun H0 H1 v w t => v = some (.int (nI n)) ∧ w = [(h, .inr (1, [.ref d, .int 0, .int ml, .int (nI n)])), (d, .inl (cB, k, .inl f))] ∧ t = [(cB, .byte)]) := by
  refine zz_M.mk (cc := cJ4_length_8abf5) (maxL := 1) (ret := (some .int)) (by decide) rfl (Nat.le_of_ble_eq_true rfl) ?_
  intro p0 e0 s mt0 bl0 meth0 cd0 ls hC hname hP hK hD hX hl
  obtain ⟨hx, hb, hml, hr, hown, hts, hlocks⟩ := hC
  generalize hAe : va_A [(h, .inr (1, [.ref d, .int 0, .int ml, .int (nI n)])), (d, .inl (cB, k, .inl f))] s.heap.size = A at *
  have hA : ∀ q : Nat, s.heap.size ≤ q → A q := fun q h => by rw [← hAe]; exact Or.inr h
  obtain ⟨H, hHs⟩ : ∃ z : Heap, z = s.heap := ⟨_, rfl⟩
  rw [← hHs] at hP ⊢
  have hS : va_S A s.heap H [] := by rw [hHs]; exact va_S.rf
  have hl : lv_has ls 1 [(0, .ref h)] := hl
  refine lv_aload_n hx hb dJ4_length_8abf5_0 rfl (lv_at hl 0 rfl) ?_
  have hFc := va_free (wc := [(h, .inr (1, [.ref d, .int 0, .int ml, .int (nI n)])), (d, .inl (cB, k, .inl f))]) hD hS hA [0, 1] rfl
  refine zz_after (wr := []) (va_runSU (As := []) (rest := []) (hK.1 1 _ rfl).2 ⟨hx, hb, hml, hown, hts⟩ ((k_J5_length_8abf5 l D h d ml n k f cB) H.size) (va_cwSU 0 hts gJ4_length_8abf5_J5_length_8abf5_s343 rfl rfl rfl (by decide +kernel) ⟨Nat.le_of_ble_eq_true rfl, Nat.le_of_ble_eq_true rfl⟩) (zz_pV (zz_pre (av := [.ref h]) (tyc := [(cB, .byte)]) (wc := [(h, .inr (1, [.ref d, .int 0, .int ml, .int (nI n)])), (d, .inl (cB, k, .inl f))]) (X := fun _ _ => True) (Xc := (fun _ _ => True)) hP hD hK hS [0, 1] [0] rfl (by decide) rfl zz_St_tt (fun _ _ _ => trivial)) (va_recv hK hP (ci := 1) (q0 := 0) rfl rfl)) rfl rfl hl.1 rfl (lv_room (Nat.le_of_ble_eq_true rfl)) dJ4_length_8abf5_1 ⟨by show 0 + 0 ≤ 0; omega, by show 0 + 0 ≤ 0; omega⟩) hP hD hK hS hFc [0, 1] [] rfl rfl (by decide) (by decide) (fun v w1 ty1 H1 locs hq9 hz9 hk9 hP1 hD1 hK1 hS1 => ?_)
  obtain ⟨rfl, rfl, rfl⟩ := hq9
  clear hS hP hD hK hFc
  have hP : va_P D vwCl [(h, .inr (1, [.ref d, .int 0, .int ml, .int (nI n)])), (d, .inl (cB, k, .inl f))] H1 := hP1
  have hD : va_D A [(h, .inr (1, [.ref d, .int 0, .int ml, .int (nI n)])), (d, .inl (cB, k, .inl f))] := hD1
  have hK : va_K D vwCl [(cB, .byte), (cB, .byte)] s := hK1
  have hS := hS1
  clear hP1 hD1 hK1 hS1
  obtain ⟨H, rfl⟩ : ∃ z, z = H1 := ⟨_, rfl⟩
  refine W.eq (g2 := F0 mt0 4 ls [.int (nI n)]) rfl ?_
  have hP9 := hP.sub (ws' := [(h, .inr (1, [.ref d, .int 0, .int ml, .int (nI n)])), (d, .inl (cB, k, .inl f))]) [0, 1] rfl
  have hD9 := hD.sub (ws' := [(h, .inr (1, [.ref d, .int 0, .int ml, .int (nI n)])), (d, .inl (cB, k, .inl f))]) [0, 1] (by decide) rfl
  have hK9 := hK.sub (tys' := [(cB, .byte)]) [0] rfl
  refine W.widen (k := 0) (n := 0) (by show 0 + 0 ≤ 0; omega) (by show 0 + 0 ≤ 0; omega) ?_
  exact W.iret (v := nI n) hx hb hr (zz_end hP9 hD9 hK9 hS (⟨rfl, rfl, rfl⟩)) hS.2.2 dJ4_length_8abf5_4
end
section
set_option maxHeartbeats 4000000 in
set_option maxRecDepth 100000 in
theorem k_J8_newLength_cabcc (l : Launch) (D : va_G) (o : Nat) (g : Nat) (r : Nat) (h1 : 0 < o + max g r) (h2 : o + max g r ≤ 2147483639) (ho : g < 2 ^ 31 ∧ r < 2 ^ 31) : zz_M l yJ8_newLength_cabcc wsJ8_newLength_cabcc ({ frames := 2, cells := 0, slots := 0, locals := 100 }) D [.int (nI o), .int (nI g), .int (nI r)] [] [] (fun _ _ => True) (fun H0 H1 v w t => v = some (.int (nI (o + max g r))) ∧ w = [] ∧ t = []) := by
  refine zz_M.mk (cc := cJ8_newLength_cabcc) (maxL := 4) (ret := (some .int)) (by decide) rfl (Nat.le_of_ble_eq_true rfl) ?_
  intro p0 e0 s mt0 bl0 meth0 cd0 ls hC hname hP hK hD hX hl
  obtain ⟨hx, hb, hml, hr, hown, hts, hlocks⟩ := hC
  generalize hAe : va_A [] s.heap.size = A at *
  have hA : ∀ q : Nat, s.heap.size ≤ q → A q := fun q h => by rw [← hAe]; exact Or.inr h
  obtain ⟨H, hHs⟩ : ∃ z : Heap, z = s.heap := ⟨_, rfl⟩
  rw [← hHs] at hP ⊢
  have hS : va_S A s.heap H [] := by rw [hHs]; exact va_S.rf
  have hl : lv_has ls 4 [(0, .int (nI o)), (1, .int (nI g)), (2, .int (nI r))] := hl
  refine lv_iload_n hx hb dJ8_newLength_cabcc_0 rfl (lv_at hl 0 rfl) ?_
  refine lv_iload_n hx hb dJ8_newLength_cabcc_1 rfl (lv_at hl 1 rfl) ?_
  refine lv_iload_n hx hb dJ8_newLength_cabcc_2 rfl (lv_at hl 2 rfl) ?_
  refine va_mmax hx hb (by rw [hml]; exact hl.1.symm) hown (hts (.methodLink RJ8 194 Lib.Math.max.name) (by decide +kernel)) (hts (.static Lib.Math.max.name) (by decide +kernel)) (hts (.initialized "java/lang/Math") (by decide +kernel)) (hts (.code Lib.Math.max.name Lib.Math.max.code 2 (some .int)) (by decide +kernel)) (Nat.le_of_ble_eq_true rfl) (Nat.le_of_ble_eq_true rfl) (by show 0 ≤ 0; omega) (by show 0 ≤ 0; omega) dJ8_newLength_cabcc_3 ?_
  refine lv_topi (fun z_1 ez_1 => ?_)
  obtain rfl : z_1 = nI (max g r) := ez_1.trans (zz_max ho.1 ho.2)
  refine lv_iadd hx hb dJ8_newLength_cabcc_6 ?_
  refine lv_topi (fun z_2 ez_2 => ?_)
  obtain rfl : z_2 = nI (o + max g r) := ez_2.trans (nI_add _ _)
  refine lv_istore_n (lv' := [(3, .int (nI (o + max g r))), (0, .int (nI o)), (1, .int (nI g)), (2, .int (nI r))]) hx hb dJ8_newLength_cabcc_7 rfl hl (by decide) rfl (fun ls hl => ?_)
  refine lv_iconst (v := 0) hx hb dJ8_newLength_cabcc_8 (by decide) ?_
  refine lv_iload_n hx hb dJ8_newLength_cabcc_9 rfl (lv_at hl 0 rfl) ?_
  refine lv_icmp_ge (tgt := 21) hx hb dJ8_newLength_cabcc_10 (by decide) (fun c_3 => absurd c_3 (nI_nle h1 (by omega))) (fun c_3 => ?_)
  refine lv_iload_n hx hb dJ8_newLength_cabcc_13 rfl (lv_at hl 0 rfl) ?_
  refine lv_ldc (v := 2147483639) hx hb hown (hts (.constant RJ8 200 (2147483639)) (by decide +kernel)) dJ8_newLength_cabcc_14 ?_
  refine lv_icmp_gt (tgt := 21) hx hb dJ8_newLength_cabcc_16 (by decide) (fun c_4 => absurd c_4 (show ¬ nI 2147483639 < nI (o + max g r) from nI_nlt h2 (by decide))) (fun c_4 => ?_)
  refine lv_iload_n hx hb dJ8_newLength_cabcc_19 rfl (lv_at hl 0 rfl) ?_
  have hP9 := hP.sub (ws' := []) [] rfl
  have hD9 := hD.sub (ws' := []) [] (by decide) rfl
  have hK9 := hK.sub (tys' := []) [] rfl
  refine W.widen (k := 0) (n := 0) (by show 0 ≤ 0; omega) (by show 0 ≤ 0; omega) ?_
  exact W.iret (v := nI (o + max g r)) hx hb hr (zz_end hP9 hD9 hK9 hS (⟨rfl, rfl, rfl⟩)) hS.2.2 dJ8_newLength_cabcc_20
set_option maxHeartbeats 4000000 in
set_option maxRecDepth 100000 in
theorem k_J5_newCapacity_0f7a4 (l : Launch) (D : va_G) (h : Nat) (d : Nat) (ml : Int32) (n : Nat) (k : Nat) (f : Nat → Int32) (cB : ClassId) (q : Nat) (hq : k < q) (hq2 : q ≤ 400) : zz_M l yJ5_newCapacity_0f7a4 wsJ5_newCapacity_0f7a4 ({ frames := 3, cells := 0, slots := 0, locals := 200 }) D [.ref h, .int (nI q)] [(cB, .byte)] [(h, .inr (1, [.ref d, .int 0, .int ml, .int (nI n)])), (d, .inl (cB, k, .inl f))] (fun _ _ => True) (fun H0 H1 v w t => v = some (.int (nI (k + max (q - k) (k + 2)))) ∧ w = [(h, .inr (1, [.ref d, .int 0, .int ml, .int (nI n)])), (d, .inl (cB, k, .inl f))] ∧ t = [(cB, .byte)]) := by
  refine zz_M.mk (cc := cJ5_newCapacity_0f7a4) (maxL := 6) (ret := (some .int)) (by decide) rfl (Nat.le_of_ble_eq_true rfl) ?_
  intro p0 e0 s mt0 bl0 meth0 cd0 ls hC hname hP hK hD hX hl
  obtain ⟨hx, hb, hml, hr, hown, hts, hlocks⟩ := hC
  generalize hAe : va_A [(h, .inr (1, [.ref d, .int 0, .int ml, .int (nI n)])), (d, .inl (cB, k, .inl f))] s.heap.size = A at *
  have hA : ∀ q : Nat, s.heap.size ≤ q → A q := fun q h => by rw [← hAe]; exact Or.inr h
  obtain ⟨H, hHs⟩ : ∃ z : Heap, z = s.heap := ⟨_, rfl⟩
  rw [← hHs] at hP ⊢
  have hS : va_S A s.heap H [] := by rw [hHs]; exact va_S.rf
  have hl : lv_has ls 6 [(0, .ref h), (1, .int (nI q))] := hl
  refine lv_aload_n hx hb dJ5_newCapacity_0f7a4_0 rfl (lv_at hl 0 rfl) ?_
  refine va_get (D := D) (ci := 1) (v := .ref d) (C := RJ4) (T := TJ4) (N := 4) hx hb hts (by decide +kernel) hown hK hP 0 rfl rfl 0 (by decide) (hts (.fieldLink RJ5 15 "java/lang/AbstractStringBuilder" "value" "[B") (by decide +kernel)) (fun _ h9 => h9) rfl dJ5_newCapacity_0f7a4_1 ?_
  refine va_alen hx hb hK hP 1 0 rfl rfl (v := nI k) rfl dJ5_newCapacity_0f7a4_4 ?_
  refine lv_istore_n (lv' := [(2, .int (nI k)), (0, .ref h), (1, .int (nI q))]) hx hb dJ5_newCapacity_0f7a4_5 rfl hl (by decide) rfl (fun ls hl => ?_)
  refine lv_iload_n hx hb dJ5_newCapacity_0f7a4_6 rfl (lv_at hl 2 rfl) ?_
  refine lv_aload_n hx hb dJ5_newCapacity_0f7a4_7 rfl (lv_at hl 1 rfl) ?_
  refine va_get (D := D) (ci := 1) (v := .int 0) (C := RJ4) (T := TJ4) (N := 4) hx hb hts (by decide +kernel) hown hK hP 0 rfl rfl 1 (by decide) (hts (.fieldLink RJ5 22 "java/lang/AbstractStringBuilder" "coder" "B") (by decide +kernel)) (fun _ h9 => h9) rfl dJ5_newCapacity_0f7a4_8 ?_
  refine lv_ishl hx hb dJ5_newCapacity_0f7a4_11 ?_
  refine lv_topi (fun z_1 ez_1 => ?_)
  obtain rfl : z_1 = nI q := ez_1.trans (sb_shl0 _)
  refine lv_istore_n (lv' := [(3, .int (nI q)), (2, .int (nI k)), (0, .ref h), (1, .int (nI q))]) hx hb dJ5_newCapacity_0f7a4_12 rfl hl (by decide) rfl (fun ls hl => ?_)
  refine lv_iload_n hx hb dJ5_newCapacity_0f7a4_13 rfl (lv_at hl 0 rfl) ?_
  refine lv_iload_n hx hb dJ5_newCapacity_0f7a4_14 rfl (lv_at hl 1 rfl) ?_
  refine lv_isub hx hb dJ5_newCapacity_0f7a4_15 ?_
  refine lv_topi (fun z_2 ez_2 => ?_)
  obtain rfl : z_2 = nI (q - k) := ez_2.trans (pk_sub (by omega))
  refine lv_istore (lv' := [(4, .int (nI (q - k))), (3, .int (nI q)), (2, .int (nI k)), (0, .ref h), (1, .int (nI q))]) hx hb dJ5_newCapacity_0f7a4_16 hl (by decide) rfl (fun ls hl => ?_)
  refine lv_iload_n hx hb dJ5_newCapacity_0f7a4_18 rfl (lv_at hl 2 rfl) ?_
  refine lv_iload hx hb dJ5_newCapacity_0f7a4_19 (lv_at hl 0 rfl) ?_
  refine lv_iload_n hx hb dJ5_newCapacity_0f7a4_21 rfl (lv_at hl 2 rfl) ?_
  refine lv_iconst (v := 2) hx hb dJ5_newCapacity_0f7a4_22 (by decide) ?_
  refine lv_aload_n hx hb dJ5_newCapacity_0f7a4_23 rfl (lv_at hl 3 rfl) ?_
  refine va_get (D := D) (ci := 1) (v := .int 0) (C := RJ4) (T := TJ4) (N := 4) hx hb hts (by decide +kernel) hown hK hP 0 rfl rfl 1 (by decide) (hts (.fieldLink RJ5 22 "java/lang/AbstractStringBuilder" "coder" "B") (by decide +kernel)) (fun _ h9 => h9) rfl dJ5_newCapacity_0f7a4_24 ?_
  refine lv_ishl hx hb dJ5_newCapacity_0f7a4_27 ?_
  refine lv_topi (fun z_3 ez_3 => ?_)
  obtain rfl : z_3 = 2 := ez_3.trans (sb_shl0 _)
  refine lv_iadd hx hb dJ5_newCapacity_0f7a4_28 ?_
  refine lv_topi (fun z_4 ez_4 => ?_)
  obtain rfl : z_4 = nI (k + 2) := ez_4.trans (nI_add k 2)
  have hFc := va_free (wc := []) hD hS hA [] rfl
  refine zz_after (wr := [(h, .inr (1, [.ref d, .int 0, .int ml, .int (nI n)])), (d, .inl (cB, k, .inl f))]) (va_runS (As := [.int (nI k), .int (nI (q - k)), .int (nI (k + 2))]) (rest := []) ⟨hx, hb, hml, hown, hts⟩ ((k_J8_newLength_cabcc l D k (q - k) (k + 2) (by omega) (by omega) (⟨by omega, by omega⟩)) H.size) (va_cwS 3 hts gJ5_newCapacity_0f7a4_J8_newLength_cabcc rfl rfl rfl (by decide +kernel) ⟨Nat.le_of_ble_eq_true rfl, Nat.le_of_ble_eq_true rfl⟩) (zz_pre (av := [.int (nI k), .int (nI (q - k)), .int (nI (k + 2))]) (tyc := []) (wc := []) (X := fun _ _ => True) (Xc := (fun _ _ => True)) hP hD hK hS [] [] rfl (by decide) rfl zz_St_tt (fun _ _ _ => trivial)) rfl rfl hl.1 rfl (lv_room (Nat.le_of_ble_eq_true rfl)) dJ5_newCapacity_0f7a4_29 ⟨by show 0 + 0 ≤ 0; omega, by show 0 + 0 ≤ 0; omega⟩) hP hD hK hS hFc [] [0, 1] rfl rfl (by decide) (by decide) (fun v w1 ty1 H1 locs hq9 hz9 hk9 hP1 hD1 hK1 hS1 => ?_)
  obtain ⟨rfl, rfl, rfl⟩ := hq9
  clear hS hP hD hK hFc
  have hP : va_P D vwCl [(h, .inr (1, [.ref d, .int 0, .int ml, .int (nI n)])), (d, .inl (cB, k, .inl f))] H1 := hP1
  have hD : va_D A [(h, .inr (1, [.ref d, .int 0, .int ml, .int (nI n)])), (d, .inl (cB, k, .inl f))] := hD1
  have hK : va_K D vwCl [(cB, .byte)] s := hK1
  have hS := hS1
  clear hP1 hD1 hK1 hS1
  obtain ⟨H, rfl⟩ : ∃ z, z = H1 := ⟨_, rfl⟩
  refine W.eq (g2 := F0 mt0 32 ls [.int (nI (k + max (q - k) (k + 2)))]) rfl ?_
  refine lv_istore (lv' := [(5, .int (nI (k + max (q - k) (k + 2)))), (4, .int (nI (q - k))), (3, .int (nI q)), (2, .int (nI k)), (0, .ref h), (1, .int (nI q))]) hx hb dJ5_newCapacity_0f7a4_32 hl (by decide) rfl (fun ls hl => ?_)
  refine lv_iload hx hb dJ5_newCapacity_0f7a4_34 (lv_at hl 0 rfl) ?_
  refine lv_ldc (v := 2147483647) hx hb hown (hts (.constant RJ5 39 (2147483647)) (by decide +kernel)) dJ5_newCapacity_0f7a4_36 ?_
  refine lv_icmp_ne (tgt := 51) hx hb dJ5_newCapacity_0f7a4_38 (by decide) (fun c_5 => ?_) (fun c_5 => absurd c_5 (fun z9 => by have := (nI_eq (b := 2147483647) (by omega) (by decide)).mp z9; omega))
  refine lv_iload hx hb dJ5_newCapacity_0f7a4_51 (lv_at hl 0 rfl) ?_
  refine lv_aload_n hx hb dJ5_newCapacity_0f7a4_53 rfl (lv_at hl 4 rfl) ?_
  refine va_get (D := D) (ci := 1) (v := .int 0) (C := RJ4) (T := TJ4) (N := 4) hx hb hts (by decide +kernel) hown hK hP 0 rfl rfl 1 (by decide) (hts (.fieldLink RJ5 22 "java/lang/AbstractStringBuilder" "coder" "B") (by decide +kernel)) (fun _ h9 => h9) rfl dJ5_newCapacity_0f7a4_54 ?_
  refine lv_ishr hx hb dJ5_newCapacity_0f7a4_57 ?_
  refine lv_topi (fun z_6 ez_6 => ?_)
  obtain rfl : z_6 = nI (k + max (q - k) (k + 2)) := ez_6.trans (sb_shr0 _)
  have hP9 := hP.sub (ws' := [(h, .inr (1, [.ref d, .int 0, .int ml, .int (nI n)])), (d, .inl (cB, k, .inl f))]) [0, 1] rfl
  have hD9 := hD.sub (ws' := [(h, .inr (1, [.ref d, .int 0, .int ml, .int (nI n)])), (d, .inl (cB, k, .inl f))]) [0, 1] (by decide) rfl
  have hK9 := hK.sub (tys' := [(cB, .byte)]) [0] rfl
  refine W.widen (k := 0) (n := 0) (by show 0 + 0 ≤ 0; omega) (by show 0 + 0 ≤ 0; omega) ?_
  exact W.iret (v := nI (k + max (q - k) (k + 2))) hx hb hr (zz_end hP9 hD9 hK9 hS (⟨rfl, rfl, rfl⟩)) hS.2.2 dJ5_newCapacity_0f7a4_58
set_option maxHeartbeats 4000000 in
set_option maxRecDepth 100000 in
theorem k_J7_copyOf_9075b (l : Launch) (D : va_G) (d : Nat) (k : Nat) (f : Nat → Int32) (cB : ClassId) (N : Nat) (hN : k < N) (hN2 : N ≤ 1500) (hf : sb_Fit f) : zz_M l yJ7_copyOf_9075b wsJ7_copyOf_9075b ({ frames := 2, cells := 1, slots := 1500, locals := 3000 }) D [.ref d, .int (nI N)] [(cB, .byte)] [(d, .inl (cB, k, .inl f))] (fun _ _ => True) (fun H0 H1 v w t => ∃ q2 : Nat, ∃ cA2 : ClassId, ∃ f2 : Nat → Int32, sb_Fit f2 ∧ v = some (.ref q2) ∧ w = [(d, .inl (cB, k, .inl f)), (q2, .inl (cA2, N, .inl f2))] ∧ t = [(cB, .byte), (cA2, .byte)]) := by
  refine zz_M.mk (cc := cJ7_copyOf_9075b) (maxL := 3) (ret := (some (.array .byte))) (by decide) rfl (Nat.le_of_ble_eq_true rfl) ?_
  intro p0 e0 s mt0 bl0 meth0 cd0 ls hC hname hP hK hD hX hl
  obtain ⟨hx, hb, hml, hr, hown, hts, hlocks⟩ := hC
  generalize hAe : va_A [(d, .inl (cB, k, .inl f))] s.heap.size = A at *
  have hA : ∀ q : Nat, s.heap.size ≤ q → A q := fun q h => by rw [← hAe]; exact Or.inr h
  obtain ⟨H, hHs⟩ : ∃ z : Heap, z = s.heap := ⟨_, rfl⟩
  rw [← hHs] at hP ⊢
  have hS : va_S A s.heap H [] := by rw [hHs]; exact va_S.rf
  have hl : lv_has ls 3 [(0, .ref d), (1, .int (nI N))] := hl
  refine lv_iload_n hx hb dJ7_copyOf_9075b_0 rfl (lv_at hl 1 rfl) ?_
  refine lv_aload_n hx hb dJ7_copyOf_9075b_1 rfl (lv_at hl 0 rfl) ?_
  refine va_alen hx hb hK hP 0 0 rfl rfl (v := nI k) rfl dJ7_copyOf_9075b_2 ?_
  refine lv_icmp_ne (tgt := 14) hx hb dJ7_copyOf_9075b_3 (by decide) (fun c_1 => ?_) (fun c_1 => absurd c_1 (fun z9 => by have := (nI_eq (by omega) (by omega)).mp z9; omega))
  refine lv_iload_n hx hb dJ7_copyOf_9075b_14 rfl (lv_at hl 1 rfl) ?_
  refine va_newa (atype := .byte) hx hb (hts (.arrayClass .byte) (by decide +kernel)) rfl hK hP hD hS hA (N' := N) (a0 := (N, .inl (fun _ => 0))) (fun _ => rfl) (nI_pos (by omega)) (nI_clamp (by omega)) (by show _ * 1 ≤ _; omega) (by show 0 + 1 ≤ 1; omega) (by show 0 + N ≤ 1500; omega) dJ7_copyOf_9075b_15 (fun q_2 cA_3 H hK hP hD hS => ?_)
  have hK : va_K D vwCl [(cB, .byte), (cA_3, .byte)] s := hK
  have hP : va_P D vwCl [(d, .inl (cB, k, .inl f)), (q_2, .inl (cA_3, N, .inl (fun _ => 0)))] H := hP
  have hD : va_D A [(d, .inl (cB, k, .inl f)), (q_2, .inl (cA_3, N, .inl (fun _ => 0)))] := hD
  refine lv_astore_n (lv' := [(2, .ref q_2), (0, .ref d), (1, .int (nI N))]) hx hb dJ7_copyOf_9075b_17 rfl hl (by decide) rfl (fun ls hl => ?_)
  refine lv_aload_n hx hb dJ7_copyOf_9075b_18 rfl (lv_at hl 1 rfl) ?_
  refine lv_iconst (v := 0) hx hb dJ7_copyOf_9075b_19 (by decide) ?_
  refine lv_aload_n hx hb dJ7_copyOf_9075b_20 rfl (lv_at hl 0 rfl) ?_
  refine lv_iconst (v := 0) hx hb dJ7_copyOf_9075b_21 (by decide) ?_
  refine lv_aload_n hx hb dJ7_copyOf_9075b_22 rfl (lv_at hl 1 rfl) ?_
  refine va_alen hx hb hK hP 0 0 rfl rfl (v := nI k) rfl dJ7_copyOf_9075b_23 ?_
  refine lv_iload_n hx hb dJ7_copyOf_9075b_24 rfl (lv_at hl 2 rfl) ?_
  refine va_mmin hx hb (by rw [hml]; exact hl.1.symm) hown (hts (.methodLink RJ7 304 Lib.Math.min.name) (by decide +kernel)) (hts (.static Lib.Math.min.name) (by decide +kernel)) (hts (.initialized "java/lang/Math") (by decide +kernel)) (hts (.code Lib.Math.min.name Lib.Math.min.code 2 (some .int)) (by decide +kernel)) (Nat.le_of_ble_eq_true rfl) (Nat.le_of_ble_eq_true rfl) (by show 0 + 1 ≤ 1; omega) (by show 0 + N ≤ 1500; omega) dJ7_copyOf_9075b_25 ?_
  refine lv_topi (fun z_4 ez_4 => ?_)
  obtain rfl : z_4 = nI k := ez_4.trans ((zz_min (by omega) (by omega)).trans (by rw [Nat.min_eq_left (by omega)]))
  refine va_copyi hx hb (by rw [hml]; exact hl.1.symm) hown (hts (.methodLink RJ7 150 arraycopyName) (by decide +kernel)) (hts (.native arraycopyName) (by decide +kernel)) (hts (.static arraycopyName) (by decide +kernel)) (hts (.initialized "java/lang/System") (by decide +kernel)) hK hP hD hS 0 1 0 1 (ty := .byte) rfl rfl rfl rfl rfl (by decide) (by decide) (nI_pos (by omega)) (by rw [nI_clamp (by omega), sb_cl0]; omega) (by rw [nI_clamp (by omega), sb_cl0]; omega) (fun i _ => hf _) (Nat.le_of_ble_eq_true rfl) (Nat.le_of_ble_eq_true rfl) dJ7_copyOf_9075b_28 (fun H locs hP hD hS => ?_)
  have hP : va_P D vwCl [(d, .inl (cB, k, .inl f)), (q_2, .inl (cA_3, N, .inl (va_cpy f (fun _ => 0) (0 : Int32).toNatClampNeg (0 : Int32).toNatClampNeg (nI k : Int32).toNatClampNeg)))] H := hP
  have hD : va_D A [(d, .inl (cB, k, .inl f)), (q_2, .inl (cA_3, N, .inl (va_cpy f (fun _ => 0) (0 : Int32).toNatClampNeg (0 : Int32).toNatClampNeg (nI k : Int32).toNatClampNeg)))] := hD
  refine lv_aload_n hx hb dJ7_copyOf_9075b_31 rfl (lv_at hl 0 rfl) ?_
  have hP9 := hP.sub (ws' := [(d, .inl (cB, k, .inl f)), (q_2, .inl (cA_3, N, .inl (va_cpy f (fun _ => 0) (0 : Int32).toNatClampNeg (0 : Int32).toNatClampNeg (nI k : Int32).toNatClampNeg)))]) [0, 1] rfl
  have hD9 := hD.sub (ws' := [(d, .inl (cB, k, .inl f)), (q_2, .inl (cA_3, N, .inl (va_cpy f (fun _ => 0) (0 : Int32).toNatClampNeg (0 : Int32).toNatClampNeg (nI k : Int32).toNatClampNeg)))]) [0, 1] (by decide) rfl
  have hK9 := hK.sub (tys' := [(cB, .byte), (cA_3, .byte)]) [0, 1] rfl
  refine W.widen (k := 1) (n := 1500) (by show 0 + 1 ≤ 1; omega) (by show 0 + N ≤ 1500; omega) ?_
  exact W.aret (v := .ref q_2) hx hb hr (Or.inr ⟨_, rfl⟩) (Or.inr ⟨_, rfl⟩) (zz_end hP9 hD9 hK9 hS (⟨_, _, _, sb_fitC hf sb_fit0, rfl, rfl, rfl⟩)) hS.2.2 dJ7_copyOf_9075b_32
set_option maxHeartbeats 4000000 in
set_option maxRecDepth 100000 in
theorem k_J5_ensureCapacityInternal_d00df (l : Launch) (D : va_G) (h : Nat) (d : Nat) (ml : Int32) (n : Nat) (k : Nat) (f : Nat → Int32) (cB : ClassId) (q : Nat) (hq : q ≤ 400) (hk : k ≤ 1500) (hf : sb_Fit f) : zz_M l yJ5_ensureCapacityInternal_d00df wsJ5_ensureCapacityInternal_d00df ({ frames := 4, cells := 1, slots := 1500, locals := 3100 }) D [.ref h, .int (nI q)] [(cB, .byte)] [(h, .inr (1, [.ref d, .int 0, .int ml, .int (nI n)])), (d, .inl (cB, k, .inl f))] (fun _ _ => True) (fun H0 H1 v w t => ∃ d2 : Nat, ∃ cA2 : ClassId, ∃ f2 : Nat → Int32, sb_Fit f2 ∧ v = none ∧ w = [(h, .inr (1, [.ref d2, .int 0, .int ml, .int (nI n)])), (d2, .inl (cA2, (zz_cap q k), .inl f2))] ∧ t = [(cA2, .byte)]) := by
  refine zz_M.mk (cc := cJ5_ensureCapacityInternal_d00df) (maxL := 3) (ret := none) (by decide) rfl (Nat.le_of_ble_eq_true rfl) ?_
  intro p0 e0 s mt0 bl0 meth0 cd0 ls hC hname hP hK hD hX hl
  obtain ⟨hx, hb, hml, hr, hown, hts, hlocks⟩ := hC
  generalize hAe : va_A [(h, .inr (1, [.ref d, .int 0, .int ml, .int (nI n)])), (d, .inl (cB, k, .inl f))] s.heap.size = A at *
  have hA : ∀ q : Nat, s.heap.size ≤ q → A q := fun q h => by rw [← hAe]; exact Or.inr h
  obtain ⟨H, hHs⟩ : ∃ z : Heap, z = s.heap := ⟨_, rfl⟩
  rw [← hHs] at hP ⊢
  have hS : va_S A s.heap H [] := by rw [hHs]; exact va_S.rf
  have hl : lv_has ls 3 [(0, .ref h), (1, .int (nI q))] := hl
  refine lv_aload_n hx hb dJ5_ensureCapacityInternal_d00df_0 rfl (lv_at hl 0 rfl) ?_
  refine va_get (D := D) (ci := 1) (v := .ref d) (C := RJ4) (T := TJ4) (N := 4) hx hb hts (by decide +kernel) hown hK hP 0 rfl rfl 0 (by decide) (hts (.fieldLink RJ5 15 "java/lang/AbstractStringBuilder" "value" "[B") (by decide +kernel)) (fun _ h9 => h9) rfl dJ5_ensureCapacityInternal_d00df_1 ?_
  refine va_alen hx hb hK hP 1 0 rfl rfl (v := nI k) rfl dJ5_ensureCapacityInternal_d00df_4 ?_
  refine lv_aload_n hx hb dJ5_ensureCapacityInternal_d00df_5 rfl (lv_at hl 0 rfl) ?_
  refine va_get (D := D) (ci := 1) (v := .int 0) (C := RJ4) (T := TJ4) (N := 4) hx hb hts (by decide +kernel) hown hK hP 0 rfl rfl 1 (by decide) (hts (.fieldLink RJ5 22 "java/lang/AbstractStringBuilder" "coder" "B") (by decide +kernel)) (fun _ h9 => h9) rfl dJ5_ensureCapacityInternal_d00df_6 ?_
  refine lv_ishr hx hb dJ5_ensureCapacityInternal_d00df_9 ?_
  refine lv_topi (fun z_1 ez_1 => ?_)
  obtain rfl : z_1 = nI k := ez_1.trans (sb_shr0 _)
  refine lv_istore_n (lv' := [(2, .int (nI k)), (0, .ref h), (1, .int (nI q))]) hx hb dJ5_ensureCapacityInternal_d00df_10 rfl hl (by decide) rfl (fun ls hl => ?_)
  refine lv_iload_n hx hb dJ5_ensureCapacityInternal_d00df_11 rfl (lv_at hl 2 rfl) ?_
  refine lv_iload_n hx hb dJ5_ensureCapacityInternal_d00df_12 rfl (lv_at hl 0 rfl) ?_
  refine lv_isub hx hb dJ5_ensureCapacityInternal_d00df_13 ?_
  refine lv_topi (fun z_2 ez_2 => ?_)
  have ez : z_2.toInt = (q : Int) - k := by rw [ez_2]; exact pk_sub_toInt (by omega) (by omega)
  by_cases hqk : q ≤ k
  · refine lv_if_le (tgt := 38) hx hb dJ5_ensureCapacityInternal_d00df_14 (by decide) (fun c_3 => ?_) (fun c_3 => absurd (by rw [Int32.le_iff_toInt_le, ez, Int32.toInt_zero]; omega) c_3)
    have hP9 := hP.sub (ws' := [(h, .inr (1, [.ref d, .int 0, .int ml, .int (nI n)])), (d, .inl (cB, k, .inl f))]) [0, 1] rfl
    have hD9 := hD.sub (ws' := [(h, .inr (1, [.ref d, .int 0, .int ml, .int (nI n)])), (d, .inl (cB, k, .inl f))]) [0, 1] (by decide) rfl
    have hK9 := hK.sub (tys' := [(cB, .byte)]) [0] rfl
    refine W.widen (k := 1) (n := 1500) (by show 0 ≤ 1; omega) (by show 0 ≤ 1500; omega) ?_
    exact W.vret hx hb hr (zz_end hP9 hD9 hK9 hS (by rw [show zz_cap q k = k from if_pos hqk]; exact ⟨_, _, _, hf, rfl, rfl, rfl⟩)) hS.2.2 dJ5_ensureCapacityInternal_d00df_38
  · have hN2 : k + max (q - k) (k + 2) ≤ 1500 := by omega
    refine lv_if_le (tgt := 38) hx hb dJ5_ensureCapacityInternal_d00df_14 (by decide) (fun c_4 => absurd c_4 (by rw [Int32.le_iff_toInt_le, ez, Int32.toInt_zero]; omega)) (fun c_4 => ?_)
    refine lv_aload_n hx hb dJ5_ensureCapacityInternal_d00df_17 rfl (lv_at hl 1 rfl) ?_
    refine lv_aload_n hx hb dJ5_ensureCapacityInternal_d00df_18 rfl (lv_at hl 1 rfl) ?_
    refine va_get (D := D) (ci := 1) (v := .ref d) (C := RJ4) (T := TJ4) (N := 4) hx hb hts (by decide +kernel) hown hK hP 0 rfl rfl 0 (by decide) (hts (.fieldLink RJ5 15 "java/lang/AbstractStringBuilder" "value" "[B") (by decide +kernel)) (fun _ h9 => h9) rfl dJ5_ensureCapacityInternal_d00df_19 ?_
    refine lv_aload_n hx hb dJ5_ensureCapacityInternal_d00df_22 rfl (lv_at hl 1 rfl) ?_
    refine lv_iload_n hx hb dJ5_ensureCapacityInternal_d00df_23 rfl (lv_at hl 2 rfl) ?_
    have hFc := va_free (wc := [(h, .inr (1, [.ref d, .int 0, .int ml, .int (nI n)])), (d, .inl (cB, k, .inl f))]) hD hS hA [0, 1] rfl
    refine zz_after (wr := []) (va_runU (As := [.int (nI q)]) (rest := [.ref d, .ref h]) ⟨hx, hb, hml, hown, hts⟩ ((k_J5_newCapacity_0f7a4 l D h d ml n k f cB q (by omega) (by omega)) H.size) (va_cwU 1 hts gJ5_ensureCapacityInternal_d00df_J5_newCapacity_0f7a4_u104J4 rfl rfl rfl rfl (by decide +kernel) ⟨Nat.le_of_ble_eq_true rfl, Nat.le_of_ble_eq_true rfl⟩) (zz_pV (zz_pre (av := [.ref h, .int (nI q)]) (tyc := [(cB, .byte)]) (wc := [(h, .inr (1, [.ref d, .int 0, .int ml, .int (nI n)])), (d, .inl (cB, k, .inl f))]) (X := fun _ _ => True) (Xc := (fun _ _ => True)) hP hD hK hS [0, 1] [0] rfl (by decide) rfl zz_St_tt (fun _ _ _ => trivial)) (va_recv hK hP (ci := 1) (q0 := 0) rfl rfl)) rfl rfl hl.1 rfl (lv_room (Nat.le_of_ble_eq_true rfl)) dJ5_ensureCapacityInternal_d00df_24 ⟨by show 0 + 0 ≤ 1; omega, by show 0 + 0 ≤ 1500; omega⟩) hP hD hK hS hFc [0, 1] [] rfl rfl (by decide) (by decide) (fun v w1 ty1 H1 locs hq9 hz9 hk9 hP1 hD1 hK1 hS1 => ?_)
    obtain ⟨rfl, rfl, rfl⟩ := hq9
    clear hS hP hD hK hFc
    have hP : va_P D vwCl [(h, .inr (1, [.ref d, .int 0, .int ml, .int (nI n)])), (d, .inl (cB, k, .inl f))] H1 := hP1
    have hD : va_D A [(h, .inr (1, [.ref d, .int 0, .int ml, .int (nI n)])), (d, .inl (cB, k, .inl f))] := hD1
    have hK : va_K D vwCl [(cB, .byte), (cB, .byte)] s := hK1
    have hS := hS1
    clear hP1 hD1 hK1 hS1
    obtain ⟨H, rfl⟩ : ∃ z, z = H1 := ⟨_, rfl⟩
    refine W.eq (g2 := F0 mt0 27 ls [.int (nI (k + max (q - k) (k + 2))), .ref d, .ref h]) rfl ?_
    refine lv_aload_n hx hb dJ5_ensureCapacityInternal_d00df_27 rfl (lv_at hl 1 rfl) ?_
    refine va_get (D := D) (ci := 1) (v := .int 0) (C := RJ4) (T := TJ4) (N := 4) hx hb hts (by decide +kernel) hown hK hP 0 rfl rfl 1 (by decide) (hts (.fieldLink RJ5 22 "java/lang/AbstractStringBuilder" "coder" "B") (by decide +kernel)) (fun _ h9 => h9) rfl dJ5_ensureCapacityInternal_d00df_28 ?_
    refine lv_ishl hx hb dJ5_ensureCapacityInternal_d00df_31 ?_
    refine lv_topi (fun z_5 ez_5 => ?_)
    obtain rfl : z_5 = nI (k + max (q - k) (k + 2)) := ez_5.trans (sb_shl0 _)
    have hFc := va_free (wc := [(d, .inl (cB, k, .inl f))]) hD hS hA [1] rfl
    refine zz_after (wr := [(h, .inr (1, [.ref d, .int 0, .int ml, .int (nI n)]))]) (va_runS (As := [.ref d, .int (nI (k + max (q - k) (k + 2)))]) (rest := [.ref h]) ⟨hx, hb, hml, hown, hts⟩ ((k_J7_copyOf_9075b l D d k f cB (k + max (q - k) (k + 2)) (by omega) (hN2) (hf)) H.size) (va_cwS 2 hts gJ5_ensureCapacityInternal_d00df_J7_copyOf_9075b rfl rfl rfl (by decide +kernel) ⟨Nat.le_of_ble_eq_true rfl, Nat.le_of_ble_eq_true rfl⟩) (zz_pre (av := [.ref d, .int (nI (k + max (q - k) (k + 2)))]) (tyc := [(cB, .byte)]) (wc := [(d, .inl (cB, k, .inl f))]) (X := fun _ _ => True) (Xc := (fun _ _ => True)) hP hD hK hS [1] [0] rfl (by decide) rfl zz_St_tt (fun _ _ _ => trivial)) rfl rfl hl.1 rfl (lv_room (Nat.le_of_ble_eq_true rfl)) dJ5_ensureCapacityInternal_d00df_32 ⟨by show 0 + 0 + 1 ≤ 1; omega, by show 0 + 0 + 1500 ≤ 1500; omega⟩) hP hD hK hS hFc [1] [0] rfl rfl (by decide) (by decide) (fun v w1 ty1 H1 locs hq9 hz9 hk9 hP1 hD1 hK1 hS1 => ?_)
    obtain ⟨q2_6, cA2_7, f2_8, h_9, rfl, rfl, rfl⟩ := hq9
    clear hS hP hD hK hFc
    have hP : va_P D vwCl [(h, .inr (1, [.ref d, .int 0, .int ml, .int (nI n)])), (d, .inl (cB, k, .inl f)), (q2_6, .inl (cA2_7, (k + max (q - k) (k + 2)), .inl f2_8))] H1 := hP1
    have hD : va_D A [(h, .inr (1, [.ref d, .int 0, .int ml, .int (nI n)])), (d, .inl (cB, k, .inl f)), (q2_6, .inl (cA2_7, (k + max (q - k) (k + 2)), .inl f2_8))] := hD1
    have hK : va_K D vwCl [(cB, .byte), (cB, .byte), (cB, .byte), (cA2_7, .byte)] s := hK1
    have hS := hS1
    clear hP1 hD1 hK1 hS1
    obtain ⟨H, rfl⟩ : ∃ z, z = H1 := ⟨_, rfl⟩
    refine W.eq (g2 := F0 mt0 35 ls [.ref q2_6, .ref h]) rfl ?_
    refine va_put (D := D) (ci := 1) (v := .ref q2_6) (ty := .array .byte) (C := RJ4) (T := TJ4) (N := 4) hx hb hts (by decide +kernel) tyJ4 tyJ4_ok nmJ4 hown hK hP hD hS 0 rfl rfl 0 (by decide) (hts (.fieldLink RJ5 15 "java/lang/AbstractStringBuilder" "value" "[B") (by decide +kernel)) (fun _ h9 => h9) rfl (by decide +kernel) rfl rfl (Nat.le_of_ble_eq_true rfl) dJ5_ensureCapacityInternal_d00df_35 (fun H locs hP hD hS => ?_)
    have hP : va_P D vwCl [(h, .inr (1, [.ref q2_6, .int 0, .int ml, .int (nI n)])), (d, .inl (cB, k, .inl f)), (q2_6, .inl (cA2_7, (k + max (q - k) (k + 2)), .inl f2_8))] H := hP
    have hD : va_D A [(h, .inr (1, [.ref q2_6, .int 0, .int ml, .int (nI n)])), (d, .inl (cB, k, .inl f)), (q2_6, .inl (cA2_7, (k + max (q - k) (k + 2)), .inl f2_8))] := hD
    have hP9 := hP.sub (ws' := [(h, .inr (1, [.ref q2_6, .int 0, .int ml, .int (nI n)])), (q2_6, .inl (cA2_7, (k + max (q - k) (k + 2)), .inl f2_8))]) [0, 2] rfl
    have hD9 := hD.sub (ws' := [(h, .inr (1, [.ref q2_6, .int 0, .int ml, .int (nI n)])), (q2_6, .inl (cA2_7, (k + max (q - k) (k + 2)), .inl f2_8))]) [0, 2] (by decide) rfl
    have hK9 := hK.sub (tys' := [(cA2_7, .byte)]) [3] rfl
    refine W.widen (k := 1) (n := 1500) (by show 0 + 0 + 1 ≤ 1; omega) (by show 0 + 0 + 1500 ≤ 1500; omega) ?_
    exact W.vret hx hb hr (zz_end hP9 hD9 hK9 hS (by rw [show zz_cap q k = k + max (q - k) (k + 2) from if_neg hqk]; exact ⟨_, _, _, h_9, rfl, rfl, rfl⟩)) hS.2.2 dJ5_ensureCapacityInternal_d00df_38
end
section
set_option maxHeartbeats 4000000 in
set_option maxRecDepth 100000 in
theorem k_J5_inflateIfNeededFor_a7421 (l : Launch) (D : va_G) (h : Nat) (d : Nat) (ml : Int32) (n : Nat) (k : Nat) (f : Nat → Int32) (cB : ClassId) (q : Nat) (b : Nat) (w0 : Nat) (g : Nat → Int32) : zz_M l yJ5_inflateIfNeededFor_a7421 wsJ5_inflateIfNeededFor_a7421 ({ frames := 2, cells := 0, slots := 0, locals := 100 }) D [.ref h, .ref q] [(cB, .byte)] [(h, .inr (1, [.ref d, .int 0, .int ml, .int (nI n)])), (d, .inl (cB, k, .inl f))] (fun A U => zz_G A U ∧ zz_S q b w0 g A U) (fun H0 H1 v w t => v = none ∧ w = [(h, .inr (1, [.ref d, .int 0, .int ml, .int (nI n)])), (d, .inl (cB, k, .inl f))] ∧ t = [(cB, .byte)]) := by
  refine zz_M.mk (cc := cJ5_inflateIfNeededFor_a7421) (maxL := 2) (ret := none) (by decide) rfl (Nat.le_of_ble_eq_true rfl) ?_
  intro p0 e0 s mt0 bl0 meth0 cd0 ls hC hname hP hK hD hX hl
  obtain ⟨hx, hb, hml, hr, hown, hts, hlocks⟩ := hC
  obtain ⟨hX0, hX1⟩ := hX
  generalize hAe : va_A [(h, .inr (1, [.ref d, .int 0, .int ml, .int (nI n)])), (d, .inl (cB, k, .inl f))] s.heap.size = A at *
  have hA : ∀ q : Nat, s.heap.size ≤ q → A q := fun q h => by rw [← hAe]; exact Or.inr h
  obtain ⟨H, hHs⟩ : ∃ z : Heap, z = s.heap := ⟨_, rfl⟩
  rw [← hHs] at hP ⊢
  have hS : va_S A s.heap H [] := by rw [hHs]; exact va_S.rf
  have hl : lv_has ls 2 [(0, .ref h), (1, .ref q)] := hl
  refine va_gets hx hb (hX0.1) hS hown (hts (.fieldLink RJ5 18 "java/lang/String" "COMPACT_STRINGS" "Z") (by decide +kernel)) (fun _ h9 => h9) dJ5_inflateIfNeededFor_a7421_0 ?_
  refine lv_if_eq (tgt := 21) hx hb dJ5_inflateIfNeededFor_a7421_3 (by decide) (fun c_1 => absurd c_1 (by decide)) (fun c_1 => ?_)
  refine lv_aload_n hx hb dJ5_inflateIfNeededFor_a7421_6 rfl (lv_at hl 0 rfl) ?_
  refine va_get (D := D) (ci := 1) (v := .int 0) (C := RJ4) (T := TJ4) (N := 4) hx hb hts (by decide +kernel) hown hK hP 0 rfl rfl 1 (by decide) (hts (.fieldLink RJ5 22 "java/lang/AbstractStringBuilder" "coder" "B") (by decide +kernel)) (fun _ h9 => h9) rfl dJ5_inflateIfNeededFor_a7421_7 ?_
  refine lv_aload_n hx hb dJ5_inflateIfNeededFor_a7421_10 rfl (lv_at hl 1 rfl) ?_
  have hFc := va_free (wc := []) hD hS hA [] rfl
  have hO0 := zz_out zz_St_G hX0 hS hFc
  have hO1 := zz_out (zz_St_S q b w0 g) hX1 hS hFc
  refine zz_after (wr := [(h, .inr (1, [.ref d, .int 0, .int ml, .int (nI n)])), (d, .inl (cB, k, .inl f))]) (va_runV (As := []) (rest := [.int 0]) ⟨hx, hb, hml, hown, hts⟩ ((k_J0_coder_7d493 l D q b w0 g) H.size) (cwV 0 hts gJ5_inflateIfNeededFor_a7421_J0_coder_7d493 rfl rfl rfl (by decide +kernel) ⟨Nat.le_of_ble_eq_true rfl, Nat.le_of_ble_eq_true rfl⟩) (zz_pV (zz_pre (av := [.ref q]) (tyc := []) (wc := []) (X := fun _ _ => True) (Xc := (fun A U => zz_G A U ∧ zz_S q b w0 g A U)) hP hD hK hS [] [] rfl (by decide) rfl (zz_St_and zz_St_G (zz_St_S q b w0 g)) (fun U h1 h2 => ⟨hO0 U h1 h2, hO1 U h1 h2⟩)) (va_Orecv hX1.1 hS)) rfl rfl hl.1 rfl (lv_room (Nat.le_of_ble_eq_true rfl)) dJ5_inflateIfNeededFor_a7421_11 ⟨by show 0 + 0 ≤ 0; omega, by show 0 + 0 ≤ 0; omega⟩) hP hD hK hS hFc [] [0, 1] rfl rfl (by decide) (by decide) (fun v w1 ty1 H1 locs hq9 hz9 hk9 hP1 hD1 hK1 hS1 => ?_)
  obtain ⟨rfl, rfl, rfl⟩ := hq9
  clear hS hP hD hK hFc hO0 hO1
  have hP : va_P D vwCl [(h, .inr (1, [.ref d, .int 0, .int ml, .int (nI n)])), (d, .inl (cB, k, .inl f))] H1 := hP1
  have hD : va_D A [(h, .inr (1, [.ref d, .int 0, .int ml, .int (nI n)])), (d, .inl (cB, k, .inl f))] := hD1
  have hK : va_K D vwCl [(cB, .byte)] s := hK1
  have hS := hS1
  clear hP1 hD1 hK1 hS1
  obtain ⟨H, rfl⟩ : ∃ z, z = H1 := ⟨_, rfl⟩
  refine W.eq (g2 := F0 mt0 14 ls [.int 0, .int 0]) rfl ?_
  refine lv_icmp_eq (tgt := 21) hx hb dJ5_inflateIfNeededFor_a7421_14 (by decide) (fun c_2 => ?_) (fun c_2 => absurd (rfl) c_2)
  have hP9 := hP.sub (ws' := [(h, .inr (1, [.ref d, .int 0, .int ml, .int (nI n)])), (d, .inl (cB, k, .inl f))]) [0, 1] rfl
  have hD9 := hD.sub (ws' := [(h, .inr (1, [.ref d, .int 0, .int ml, .int (nI n)])), (d, .inl (cB, k, .inl f))]) [0, 1] (by decide) rfl
  have hK9 := hK.sub (tys' := [(cB, .byte)]) [0] rfl
  refine W.widen (k := 0) (n := 0) (by show 0 + 0 ≤ 0; omega) (by show 0 + 0 ≤ 0; omega) ?_
  exact W.vret hx hb hr (zz_end hP9 hD9 hK9 hS (⟨rfl, rfl, rfl⟩)) hS.2.2 dJ5_inflateIfNeededFor_a7421_21
set_option maxHeartbeats 4000000 in
set_option maxRecDepth 100000 in
theorem k_J0_getBytes_840e7 (l : Launch) (D : va_G) (q : Nat) (b : Nat) (w0 : Nat) (g : Nat → Int32) (d : Nat) (k : Nat) (f : Nat → Int32) (cB : ClassId) (j : Nat) (hj : j + w0 ≤ k) (hk : k ≤ 1500) (hf : sb_Fit f) : zz_M l yJ0_getBytes_840e7 wsJ0_getBytes_840e7 ({ frames := 2, cells := 0, slots := 0, locals := 3000 }) D [.ref q, .ref d, .int (nI j), .int 0] [(cB, .byte)] [(d, .inl (cB, k, .inl f))] (fun A U => zz_G A U ∧ zz_S q b w0 g A U) (fun H0 H1 v w t => ∃ f2 : Nat → Int32, sb_Fit f2 ∧ v = none ∧ w = [(d, .inl (cB, k, .inl f2))] ∧ t = [(cB, .byte)]) := by
  refine zz_M.mk (cc := cJ0_getBytes_840e7) (maxL := 4) (ret := none) (by decide) rfl (Nat.le_of_ble_eq_true rfl) ?_
  intro p0 e0 s mt0 bl0 meth0 cd0 ls hC hname hP hK hD hX hl
  obtain ⟨hx, hb, hml, hr, hown, hts, hlocks⟩ := hC
  obtain ⟨hX0, hX1⟩ := hX
  generalize hAe : va_A [(d, .inl (cB, k, .inl f))] s.heap.size = A at *
  have hA : ∀ q : Nat, s.heap.size ≤ q → A q := fun q h => by rw [← hAe]; exact Or.inr h
  obtain ⟨H, hHs⟩ : ∃ z : Heap, z = s.heap := ⟨_, rfl⟩
  rw [← hHs] at hP ⊢
  have hS : va_S A s.heap H [] := by rw [hHs]; exact va_S.rf
  have hl : lv_has ls 4 [(0, .ref q), (1, .ref d), (2, .int (nI j)), (3, .int 0)] := hl
  have hg := hX1.2.2.2.2.2
  refine lv_aload_n hx hb dJ0_getBytes_840e7_0 rfl (lv_at hl 0 rfl) ?_
  have hFc := va_free (wc := []) hD hS hA [] rfl
  have hO0 := zz_out zz_St_G hX0 hS hFc
  have hO1 := zz_out (zz_St_S q b w0 g) hX1 hS hFc
  refine zz_after (wr := [(d, .inl (cB, k, .inl f))]) (va_runV (As := []) (rest := []) ⟨hx, hb, hml, hown, hts⟩ ((k_J0_coder_7d493 l D q b w0 g) H.size) (cwV 0 hts gJ0_getBytes_840e7_J0_coder_7d493 rfl rfl rfl (by decide +kernel) ⟨Nat.le_of_ble_eq_true rfl, Nat.le_of_ble_eq_true rfl⟩) (zz_pV (zz_pre (av := [.ref q]) (tyc := []) (wc := []) (X := fun _ _ => True) (Xc := (fun A U => zz_G A U ∧ zz_S q b w0 g A U)) hP hD hK hS [] [] rfl (by decide) rfl (zz_St_and zz_St_G (zz_St_S q b w0 g)) (fun U h1 h2 => ⟨hO0 U h1 h2, hO1 U h1 h2⟩)) (va_Orecv hX1.1 hS)) rfl rfl hl.1 rfl (lv_room (Nat.le_of_ble_eq_true rfl)) dJ0_getBytes_840e7_1 ⟨by show 0 + 0 ≤ 0; omega, by show 0 + 0 ≤ 0; omega⟩) hP hD hK hS hFc [] [0] rfl rfl (by decide) (by decide) (fun v w1 ty1 H1 locs hq9 hz9 hk9 hP1 hD1 hK1 hS1 => ?_)
  obtain ⟨rfl, rfl, rfl⟩ := hq9
  clear hS hP hD hK hFc hO0 hO1
  have hP : va_P D vwCl [(d, .inl (cB, k, .inl f))] H1 := hP1
  have hD : va_D A [(d, .inl (cB, k, .inl f))] := hD1
  have hK : va_K D vwCl [(cB, .byte)] s := hK1
  have hS := hS1
  clear hP1 hD1 hK1 hS1
  obtain ⟨H, rfl⟩ : ∃ z, z = H1 := ⟨_, rfl⟩
  refine W.eq (g2 := F0 mt0 4 ls [.int 0]) rfl ?_
  refine lv_iload_n hx hb dJ0_getBytes_840e7_4 rfl (lv_at hl 3 rfl) ?_
  refine lv_icmp_ne (tgt := 28) hx hb dJ0_getBytes_840e7_5 (by decide) (fun c_1 => absurd (rfl) c_1) (fun c_1 => ?_)
  refine lv_aload_n hx hb dJ0_getBytes_840e7_8 rfl (lv_at hl 0 rfl) ?_
  refine vk_getf hx hb hX1.2.2.1 hS hown (hts (.fieldLink RJ0 9 "java/lang/String" "value" "[B") (by decide +kernel)) (fun _ h9 => h9) dJ0_getBytes_840e7_9 ?_
  refine lv_iconst (v := 0) hx hb dJ0_getBytes_840e7_12 (by decide) ?_
  refine lv_aload_n hx hb dJ0_getBytes_840e7_13 rfl (lv_at hl 1 rfl) ?_
  refine lv_iload_n hx hb dJ0_getBytes_840e7_14 rfl (lv_at hl 2 rfl) ?_
  refine lv_iload_n hx hb dJ0_getBytes_840e7_15 rfl (lv_at hl 3 rfl) ?_
  refine lv_ishl hx hb dJ0_getBytes_840e7_16 ?_
  refine lv_topi (fun z_2 ez_2 => ?_)
  obtain rfl : z_2 = nI j := ez_2.trans (sb_shl0 _)
  refine lv_aload_n hx hb dJ0_getBytes_840e7_17 rfl (lv_at hl 0 rfl) ?_
  refine vk_getf hx hb hX1.2.2.1 hS hown (hts (.fieldLink RJ0 9 "java/lang/String" "value" "[B") (by decide +kernel)) (fun _ h9 => h9) dJ0_getBytes_840e7_18 ?_
  refine va_tlen hx hb hX1.2.2.2.1 hS (v := nI w0) rfl dJ0_getBytes_840e7_21 ?_
  refine vk_copyt hx hb (by rw [hml]; exact hl.1.symm) hown (hts (.methodLink RJ0 212 arraycopyName) (by decide +kernel)) (hts (.native arraycopyName) (by decide +kernel)) (hts (.static arraycopyName) (by decide +kernel)) (hts (.initialized "java/lang/System") (by decide +kernel)) hK hP hD hS hX1.2.2.2.1 0 0 rfl rfl (by decide) (nI_pos (by omega)) (nI_pos (by omega)) (by rw [nI_clamp (by omega), sb_cl0]; omega) (by rw [nI_clamp (by omega), nI_clamp (by omega)]; omega) (fun i _ => hg _) (Nat.le_of_ble_eq_true rfl) (Nat.le_of_ble_eq_true rfl) dJ0_getBytes_840e7_22 (fun H locs hP hD hS => ?_)
  have hP : va_P D vwCl [(d, .inl (cB, k, .inl (va_cpy g f (0 : Int32).toNatClampNeg (nI j : Int32).toNatClampNeg (nI w0 : Int32).toNatClampNeg)))] H := hP
  have hD : va_D A [(d, .inl (cB, k, .inl (va_cpy g f (0 : Int32).toNatClampNeg (nI j : Int32).toNatClampNeg (nI w0 : Int32).toNatClampNeg)))] := hD
  refine lv_goto (tgt := 43) hx hb dJ0_getBytes_840e7_25 (by decide) ?_
  have hP9 := hP.sub (ws' := [(d, .inl (cB, k, .inl (va_cpy g f (0 : Int32).toNatClampNeg (nI j : Int32).toNatClampNeg (nI w0 : Int32).toNatClampNeg)))]) [0] rfl
  have hD9 := hD.sub (ws' := [(d, .inl (cB, k, .inl (va_cpy g f (0 : Int32).toNatClampNeg (nI j : Int32).toNatClampNeg (nI w0 : Int32).toNatClampNeg)))]) [0] (by decide) rfl
  have hK9 := hK.sub (tys' := [(cB, .byte)]) [0] rfl
  refine W.widen (k := 0) (n := 0) (by show 0 + 0 ≤ 0; omega) (by show 0 + 0 ≤ 0; omega) ?_
  exact W.vret hx hb hr (zz_end hP9 hD9 hK9 hS (⟨_, sb_fitC hg hf, rfl, rfl, rfl⟩)) hS.2.2 dJ0_getBytes_840e7_43
set_option maxHeartbeats 4000000 in
set_option maxRecDepth 100000 in
theorem k_J5_putStringAt_47b60 (l : Launch) (D : va_G) (h : Nat) (d : Nat) (ml : Int32) (n : Nat) (k : Nat) (f : Nat → Int32) (cB : ClassId) (q : Nat) (b : Nat) (w0 : Nat) (g : Nat → Int32) (j : Nat) (hj : j + w0 ≤ k) (hk : k ≤ 1500) (hf : sb_Fit f) : zz_M l yJ5_putStringAt_47b60 wsJ5_putStringAt_47b60 ({ frames := 3, cells := 0, slots := 0, locals := 3100 }) D [.ref h, .int (nI j), .ref q] [(cB, .byte)] [(h, .inr (1, [.ref d, .int 0, .int ml, .int (nI n)])), (d, .inl (cB, k, .inl f))] (fun A U => zz_G A U ∧ zz_S q b w0 g A U) (fun H0 H1 v w t => ∃ f2 : Nat → Int32, sb_Fit f2 ∧ v = none ∧ w = [(h, .inr (1, [.ref d, .int 0, .int ml, .int (nI n)])), (d, .inl (cB, k, .inl f2))] ∧ t = [(cB, .byte)]) := by
  refine zz_M.mk (cc := cJ5_putStringAt_47b60) (maxL := 3) (ret := none) (by decide) rfl (Nat.le_of_ble_eq_true rfl) ?_
  intro p0 e0 s mt0 bl0 meth0 cd0 ls hC hname hP hK hD hX hl
  obtain ⟨hx, hb, hml, hr, hown, hts, hlocks⟩ := hC
  obtain ⟨hX0, hX1⟩ := hX
  generalize hAe : va_A [(h, .inr (1, [.ref d, .int 0, .int ml, .int (nI n)])), (d, .inl (cB, k, .inl f))] s.heap.size = A at *
  have hA : ∀ q : Nat, s.heap.size ≤ q → A q := fun q h => by rw [← hAe]; exact Or.inr h
  obtain ⟨H, hHs⟩ : ∃ z : Heap, z = s.heap := ⟨_, rfl⟩
  rw [← hHs] at hP ⊢
  have hS : va_S A s.heap H [] := by rw [hHs]; exact va_S.rf
  have hl : lv_has ls 3 [(0, .ref h), (1, .int (nI j)), (2, .ref q)] := hl
  refine lv_aload_n hx hb dJ5_putStringAt_47b60_0 rfl (lv_at hl 0 rfl) ?_
  refine lv_aload_n hx hb dJ5_putStringAt_47b60_1 rfl (lv_at hl 2 rfl) ?_
  have hFc := va_free (wc := [(h, .inr (1, [.ref d, .int 0, .int ml, .int (nI n)])), (d, .inl (cB, k, .inl f))]) hD hS hA [0, 1] rfl
  have hO0 := zz_out zz_St_G hX0 hS hFc
  have hO1 := zz_out (zz_St_S q b w0 g) hX1 hS hFc
  refine zz_after (wr := []) (va_runU (As := [.ref q]) (rest := []) ⟨hx, hb, hml, hown, hts⟩ ((k_J5_inflateIfNeededFor_a7421 l D h d ml n k f cB q b w0 g) H.size) (va_cwU 1 hts gJ5_putStringAt_47b60_J5_inflateIfNeededFor_a7421_u397J4 rfl rfl rfl rfl (by decide +kernel) ⟨Nat.le_of_ble_eq_true rfl, Nat.le_of_ble_eq_true rfl⟩) (zz_pV (zz_pre (av := [.ref h, .ref q]) (tyc := [(cB, .byte)]) (wc := [(h, .inr (1, [.ref d, .int 0, .int ml, .int (nI n)])), (d, .inl (cB, k, .inl f))]) (X := fun _ _ => True) (Xc := (fun A U => zz_G A U ∧ zz_S q b w0 g A U)) hP hD hK hS [0, 1] [0] rfl (by decide) rfl (zz_St_and zz_St_G (zz_St_S q b w0 g)) (fun U h1 h2 => ⟨hO0 U h1 h2, hO1 U h1 h2⟩)) (va_recv hK hP (ci := 1) (q0 := 0) rfl rfl)) rfl rfl hl.1 rfl (lv_room (Nat.le_of_ble_eq_true rfl)) dJ5_putStringAt_47b60_2 ⟨by show 0 + 0 ≤ 0; omega, by show 0 + 0 ≤ 0; omega⟩) hP hD hK hS hFc [0, 1] [] rfl rfl (by decide) (by decide) (fun v w1 ty1 H1 locs hq9 hz9 hk9 hP1 hD1 hK1 hS1 => ?_)
  obtain ⟨rfl, rfl, rfl⟩ := hq9
  clear hS hP hD hK hFc hO0 hO1
  have hP : va_P D vwCl [(h, .inr (1, [.ref d, .int 0, .int ml, .int (nI n)])), (d, .inl (cB, k, .inl f))] H1 := hP1
  have hD : va_D A [(h, .inr (1, [.ref d, .int 0, .int ml, .int (nI n)])), (d, .inl (cB, k, .inl f))] := hD1
  have hK : va_K D vwCl [(cB, .byte), (cB, .byte)] s := hK1
  have hS := hS1
  clear hP1 hD1 hK1 hS1
  obtain ⟨H, rfl⟩ : ∃ z, z = H1 := ⟨_, rfl⟩
  refine W.eq (g2 := F0 mt0 5 ls []) rfl ?_
  refine lv_aload_n hx hb dJ5_putStringAt_47b60_5 rfl (lv_at hl 2 rfl) ?_
  refine lv_aload_n hx hb dJ5_putStringAt_47b60_6 rfl (lv_at hl 0 rfl) ?_
  refine va_get (D := D) (ci := 1) (v := .ref d) (C := RJ4) (T := TJ4) (N := 4) hx hb hts (by decide +kernel) hown hK hP 0 rfl rfl 0 (by decide) (hts (.fieldLink RJ5 15 "java/lang/AbstractStringBuilder" "value" "[B") (by decide +kernel)) (fun _ h9 => h9) rfl dJ5_putStringAt_47b60_7 ?_
  refine lv_iload_n hx hb dJ5_putStringAt_47b60_10 rfl (lv_at hl 1 rfl) ?_
  refine lv_aload_n hx hb dJ5_putStringAt_47b60_11 rfl (lv_at hl 0 rfl) ?_
  refine va_get (D := D) (ci := 1) (v := .int 0) (C := RJ4) (T := TJ4) (N := 4) hx hb hts (by decide +kernel) hown hK hP 0 rfl rfl 1 (by decide) (hts (.fieldLink RJ5 22 "java/lang/AbstractStringBuilder" "coder" "B") (by decide +kernel)) (fun _ h9 => h9) rfl dJ5_putStringAt_47b60_12 ?_
  have hFc := va_free (wc := [(d, .inl (cB, k, .inl f))]) hD hS hA [1] rfl
  have hO0 := zz_out zz_St_G hX0 hS hFc
  have hO1 := zz_out (zz_St_S q b w0 g) hX1 hS hFc
  refine zz_after (wr := [(h, .inr (1, [.ref d, .int 0, .int ml, .int (nI n)]))]) (va_runV (As := [.ref d, .int (nI j), .int 0]) (rest := []) ⟨hx, hb, hml, hown, hts⟩ ((k_J0_getBytes_840e7 l D q b w0 g d k f cB j (hj) (hk) (hf)) H.size) (cwV 3 hts gJ5_putStringAt_47b60_J0_getBytes_840e7 rfl rfl rfl (by decide +kernel) ⟨Nat.le_of_ble_eq_true rfl, Nat.le_of_ble_eq_true rfl⟩) (zz_pV (zz_pre (av := [.ref q, .ref d, .int (nI j), .int 0]) (tyc := [(cB, .byte)]) (wc := [(d, .inl (cB, k, .inl f))]) (X := fun _ _ => True) (Xc := (fun A U => zz_G A U ∧ zz_S q b w0 g A U)) hP hD hK hS [1] [0] rfl (by decide) rfl (zz_St_and zz_St_G (zz_St_S q b w0 g)) (fun U h1 h2 => ⟨hO0 U h1 h2, hO1 U h1 h2⟩)) (va_Orecv hX1.1 hS)) rfl rfl hl.1 rfl (lv_room (Nat.le_of_ble_eq_true rfl)) dJ5_putStringAt_47b60_15 ⟨by show 0 + 0 + 0 ≤ 0; omega, by show 0 + 0 + 0 ≤ 0; omega⟩) hP hD hK hS hFc [1] [0] rfl rfl (by decide) (by decide) (fun v w1 ty1 H1 locs hq9 hz9 hk9 hP1 hD1 hK1 hS1 => ?_)
  obtain ⟨f2_1, h_2, rfl, rfl, rfl⟩ := hq9
  clear hS hP hD hK hFc hO0 hO1
  have hP : va_P D vwCl [(h, .inr (1, [.ref d, .int 0, .int ml, .int (nI n)])), (d, .inl (cB, k, .inl f2_1))] H1 := hP1
  have hD : va_D A [(h, .inr (1, [.ref d, .int 0, .int ml, .int (nI n)])), (d, .inl (cB, k, .inl f2_1))] := hD1
  have hK : va_K D vwCl [(cB, .byte), (cB, .byte), (cB, .byte)] s := hK1
  have hS := hS1
  clear hP1 hD1 hK1 hS1
  obtain ⟨H, rfl⟩ : ∃ z, z = H1 := ⟨_, rfl⟩
  refine W.eq (g2 := F0 mt0 18 ls []) rfl ?_
  have hP9 := hP.sub (ws' := [(h, .inr (1, [.ref d, .int 0, .int ml, .int (nI n)])), (d, .inl (cB, k, .inl f2_1))]) [0, 1] rfl
  have hD9 := hD.sub (ws' := [(h, .inr (1, [.ref d, .int 0, .int ml, .int (nI n)])), (d, .inl (cB, k, .inl f2_1))]) [0, 1] (by decide) rfl
  have hK9 := hK.sub (tys' := [(cB, .byte)]) [0] rfl
  refine W.widen (k := 0) (n := 0) (by show 0 + 0 + 0 ≤ 0; omega) (by show 0 + 0 + 0 ≤ 0; omega) ?_
  exact W.vret hx hb hr (zz_end hP9 hD9 hK9 hS (⟨_, h_2, rfl, rfl, rfl⟩)) hS.2.2 dJ5_putStringAt_47b60_18
set_option maxHeartbeats 4000000 in
set_option maxRecDepth 100000 in
theorem k_J5_append_cf1ce (l : Launch) (D : va_G) (h : Nat) (d : Nat) (ml : Int32) (n : Nat) (k : Nat) (f : Nat → Int32) (cB : ClassId) (q : Nat) (b : Nat) (w0 : Nat) (g : Nat → Int32) (hn : n + w0 ≤ 400) (hk : k ≤ 1500) (hf : sb_Fit f) : zz_M l yJ5_append_cf1ce wsJ5_append_cf1ce ({ frames := 5, cells := 1, slots := 1500, locals := 3300 }) D [.ref h, .ref q] [(cB, .byte)] [(h, .inr (1, [.ref d, .int 0, .int ml, .int (nI n)])), (d, .inl (cB, k, .inl f))] (fun A U => zz_G A U ∧ zz_S q b w0 g A U) (fun H0 H1 v w t => ∃ d2 : Nat, ∃ cA2 : ClassId, ∃ f2 : Nat → Int32, sb_Fit f2 ∧ v = some (.ref h) ∧ w = [(h, .inr (1, [.ref d2, .int 0, .int ml, .int (nI (n + w0))])), (d2, .inl (cA2, (zz_cap (n + w0) k), .inl f2))] ∧ t = [(cA2, .byte)]) := by
  refine zz_M.mk (cc := cJ5_append_cf1ce) (maxL := 3) (ret := (some (.object "java/lang/AbstractStringBuilder"))) (by decide) rfl (Nat.le_of_ble_eq_true rfl) ?_
  intro p0 e0 s mt0 bl0 meth0 cd0 ls hC hname hP hK hD hX hl
  obtain ⟨hx, hb, hml, hr, hown, hts, hlocks⟩ := hC
  obtain ⟨hX0, hX1⟩ := hX
  generalize hAe : va_A [(h, .inr (1, [.ref d, .int 0, .int ml, .int (nI n)])), (d, .inl (cB, k, .inl f))] s.heap.size = A at *
  have hA : ∀ q : Nat, s.heap.size ≤ q → A q := fun q h => by rw [← hAe]; exact Or.inr h
  obtain ⟨H, hHs⟩ : ∃ z : Heap, z = s.heap := ⟨_, rfl⟩
  rw [← hHs] at hP ⊢
  have hS : va_S A s.heap H [] := by rw [hHs]; exact va_S.rf
  have hl : lv_has ls 3 [(0, .ref h), (1, .ref q)] := hl
  refine lv_aload_n hx hb dJ5_append_cf1ce_0 rfl (lv_at hl 1 rfl) ?_
  refine lv_ifnonnull (tgt := 9) hx hb dJ5_append_cf1ce_1 (by decide) ?_
  refine lv_aload_n hx hb dJ5_append_cf1ce_9 rfl (lv_at hl 1 rfl) ?_
  have hFc := va_free (wc := []) hD hS hA [] rfl
  have hO0 := zz_out zz_St_G hX0 hS hFc
  have hO1 := zz_out (zz_St_S q b w0 g) hX1 hS hFc
  refine zz_after (wr := [(h, .inr (1, [.ref d, .int 0, .int ml, .int (nI n)])), (d, .inl (cB, k, .inl f))]) (va_runV (As := []) (rest := []) ⟨hx, hb, hml, hown, hts⟩ ((k_J0_length_8abf5 l D q b w0 g) H.size) (cwV 0 hts gJ5_append_cf1ce_J0_length_8abf5 rfl rfl rfl (by decide +kernel) ⟨Nat.le_of_ble_eq_true rfl, Nat.le_of_ble_eq_true rfl⟩) (zz_pV (zz_pre (av := [.ref q]) (tyc := []) (wc := []) (X := fun _ _ => True) (Xc := (fun A U => zz_G A U ∧ zz_S q b w0 g A U)) hP hD hK hS [] [] rfl (by decide) rfl (zz_St_and zz_St_G (zz_St_S q b w0 g)) (fun U h1 h2 => ⟨hO0 U h1 h2, hO1 U h1 h2⟩)) (va_Orecv hX1.1 hS)) rfl rfl hl.1 rfl (lv_room (Nat.le_of_ble_eq_true rfl)) dJ5_append_cf1ce_10 ⟨by show 0 + 0 ≤ 1; omega, by show 0 + 0 ≤ 1500; omega⟩) hP hD hK hS hFc [] [0, 1] rfl rfl (by decide) (by decide) (fun v w1 ty1 H1 locs hq9 hz9 hk9 hP1 hD1 hK1 hS1 => ?_)
  obtain ⟨rfl, rfl, rfl⟩ := hq9
  clear hS hP hD hK hFc hO0 hO1
  have hP : va_P D vwCl [(h, .inr (1, [.ref d, .int 0, .int ml, .int (nI n)])), (d, .inl (cB, k, .inl f))] H1 := hP1
  have hD : va_D A [(h, .inr (1, [.ref d, .int 0, .int ml, .int (nI n)])), (d, .inl (cB, k, .inl f))] := hD1
  have hK : va_K D vwCl [(cB, .byte)] s := hK1
  have hS := hS1
  clear hP1 hD1 hK1 hS1
  obtain ⟨H, rfl⟩ : ∃ z, z = H1 := ⟨_, rfl⟩
  refine W.eq (g2 := F0 mt0 13 ls [.int (nI w0)]) rfl ?_
  refine lv_istore_n (lv' := [(2, .int (nI w0)), (0, .ref h), (1, .ref q)]) hx hb dJ5_append_cf1ce_13 rfl hl (by decide) rfl (fun ls hl => ?_)
  refine lv_aload_n hx hb dJ5_append_cf1ce_14 rfl (lv_at hl 1 rfl) ?_
  refine lv_aload_n hx hb dJ5_append_cf1ce_15 rfl (lv_at hl 1 rfl) ?_
  refine va_get (D := D) (ci := 1) (v := .int (nI n)) (C := RJ4) (T := TJ4) (N := 4) hx hb hts (by decide +kernel) hown hK hP 0 rfl rfl 3 (by decide) (hts (.fieldLink RJ5 79 "java/lang/AbstractStringBuilder" "count" "I") (by decide +kernel)) (fun _ h9 => h9) rfl dJ5_append_cf1ce_16 ?_
  refine lv_iload_n hx hb dJ5_append_cf1ce_19 rfl (lv_at hl 0 rfl) ?_
  refine lv_iadd hx hb dJ5_append_cf1ce_20 ?_
  refine lv_topi (fun z_1 ez_1 => ?_)
  obtain rfl : z_1 = nI (n + w0) := ez_1.trans (nI_add _ _)
  have hFc := va_free (wc := [(h, .inr (1, [.ref d, .int 0, .int ml, .int (nI n)])), (d, .inl (cB, k, .inl f))]) hD hS hA [0, 1] rfl
  refine zz_after (wr := []) (va_runU (As := [.int (nI (n + w0))]) (rest := []) ⟨hx, hb, hml, hown, hts⟩ ((k_J5_ensureCapacityInternal_d00df l D h d ml n k f cB (n + w0) (hn) (hk) (hf)) H.size) (va_cwU 1 hts gJ5_append_cf1ce_J5_ensureCapacityInternal_d00df_u100J4 rfl rfl rfl rfl (by decide +kernel) ⟨Nat.le_of_ble_eq_true rfl, Nat.le_of_ble_eq_true rfl⟩) (zz_pV (zz_pre (av := [.ref h, .int (nI (n + w0))]) (tyc := [(cB, .byte)]) (wc := [(h, .inr (1, [.ref d, .int 0, .int ml, .int (nI n)])), (d, .inl (cB, k, .inl f))]) (X := fun _ _ => True) (Xc := (fun _ _ => True)) hP hD hK hS [0, 1] [0] rfl (by decide) rfl zz_St_tt (fun _ _ _ => trivial)) (va_recv hK hP (ci := 1) (q0 := 0) rfl rfl)) rfl rfl hl.1 rfl (lv_room (Nat.le_of_ble_eq_true rfl)) dJ5_append_cf1ce_21 ⟨by show 0 + 0 + 1 ≤ 1; omega, by show 0 + 0 + 1500 ≤ 1500; omega⟩) hP hD hK hS hFc [0, 1] [] rfl rfl (by decide) (by decide) (fun v w1 ty1 H1 locs hq9 hz9 hk9 hP1 hD1 hK1 hS1 => ?_)
  obtain ⟨d2_2, cA2_3, f2_4, h_5, rfl, rfl, rfl⟩ := hq9
  clear hS hP hD hK hFc
  have hP : va_P D vwCl [(h, .inr (1, [.ref d2_2, .int 0, .int ml, .int (nI n)])), (d2_2, .inl (cA2_3, (zz_cap (n + w0) k), .inl f2_4))] H1 := hP1
  have hD : va_D A [(h, .inr (1, [.ref d2_2, .int 0, .int ml, .int (nI n)])), (d2_2, .inl (cA2_3, (zz_cap (n + w0) k), .inl f2_4))] := hD1
  have hK : va_K D vwCl [(cB, .byte), (cA2_3, .byte)] s := hK1
  have hS := hS1
  clear hP1 hD1 hK1 hS1
  obtain ⟨H, rfl⟩ : ∃ z, z = H1 := ⟨_, rfl⟩
  refine W.eq (g2 := F0 mt0 24 ls []) rfl ?_
  refine lv_aload_n hx hb dJ5_append_cf1ce_24 rfl (lv_at hl 1 rfl) ?_
  refine lv_aload_n hx hb dJ5_append_cf1ce_25 rfl (lv_at hl 1 rfl) ?_
  refine va_get (D := D) (ci := 1) (v := .int (nI n)) (C := RJ4) (T := TJ4) (N := 4) hx hb hts (by decide +kernel) hown hK hP 0 rfl rfl 3 (by decide) (hts (.fieldLink RJ5 79 "java/lang/AbstractStringBuilder" "count" "I") (by decide +kernel)) (fun _ h9 => h9) rfl dJ5_append_cf1ce_26 ?_
  refine lv_aload_n hx hb dJ5_append_cf1ce_29 rfl (lv_at hl 2 rfl) ?_
  have hFc := va_free (wc := [(h, .inr (1, [.ref d2_2, .int 0, .int ml, .int (nI n)])), (d2_2, .inl (cA2_3, (zz_cap (n + w0) k), .inl f2_4))]) hD hS hA [0, 1] rfl
  have hO0 := zz_out zz_St_G hX0 hS hFc
  have hO1 := zz_out (zz_St_S q b w0 g) hX1 hS hFc
  refine zz_after (wr := []) (va_runU (As := [.int (nI n), .ref q]) (rest := []) ⟨hx, hb, hml, hown, hts⟩ ((k_J5_putStringAt_47b60 l D h d2_2 ml n (zz_cap (n + w0) k) f2_4 cA2_3 q b w0 g n (zz_cap_ge _ _) (zz_cap_le hn hk) (h_5)) H.size) (va_cwU 2 hts gJ5_append_cf1ce_J5_putStringAt_47b60_u208J4 rfl rfl rfl rfl (by decide +kernel) ⟨Nat.le_of_ble_eq_true rfl, Nat.le_of_ble_eq_true rfl⟩) (zz_pV (zz_pre (av := [.ref h, .int (nI n), .ref q]) (tyc := [(cA2_3, .byte)]) (wc := [(h, .inr (1, [.ref d2_2, .int 0, .int ml, .int (nI n)])), (d2_2, .inl (cA2_3, (zz_cap (n + w0) k), .inl f2_4))]) (X := fun _ _ => True) (Xc := (fun A U => zz_G A U ∧ zz_S q b w0 g A U)) hP hD hK hS [0, 1] [1] rfl (by decide) rfl (zz_St_and zz_St_G (zz_St_S q b w0 g)) (fun U h1 h2 => ⟨hO0 U h1 h2, hO1 U h1 h2⟩)) (va_recv hK hP (ci := 1) (q0 := 0) rfl rfl)) rfl rfl hl.1 rfl (lv_room (Nat.le_of_ble_eq_true rfl)) dJ5_append_cf1ce_30 ⟨by show 0 + 0 + 1 + 0 ≤ 1; omega, by show 0 + 0 + 1500 + 0 ≤ 1500; omega⟩) hP hD hK hS hFc [0, 1] [] rfl rfl (by decide) (by decide) (fun v w1 ty1 H1 locs hq9 hz9 hk9 hP1 hD1 hK1 hS1 => ?_)
  obtain ⟨f2_6, h_7, rfl, rfl, rfl⟩ := hq9
  clear hS hP hD hK hFc hO0 hO1
  have hP : va_P D vwCl [(h, .inr (1, [.ref d2_2, .int 0, .int ml, .int (nI n)])), (d2_2, .inl (cA2_3, (zz_cap (n + w0) k), .inl f2_6))] H1 := hP1
  have hD : va_D A [(h, .inr (1, [.ref d2_2, .int 0, .int ml, .int (nI n)])), (d2_2, .inl (cA2_3, (zz_cap (n + w0) k), .inl f2_6))] := hD1
  have hK : va_K D vwCl [(cB, .byte), (cA2_3, .byte), (cA2_3, .byte)] s := hK1
  have hS := hS1
  clear hP1 hD1 hK1 hS1
  obtain ⟨H, rfl⟩ : ∃ z, z = H1 := ⟨_, rfl⟩
  refine W.eq (g2 := F0 mt0 33 ls []) rfl ?_
  refine lv_aload_n hx hb dJ5_append_cf1ce_33 rfl (lv_at hl 1 rfl) ?_
  refine lv_dup hx hb dJ5_append_cf1ce_34 rfl ?_
  refine va_get (D := D) (ci := 1) (v := .int (nI n)) (C := RJ4) (T := TJ4) (N := 4) hx hb hts (by decide +kernel) hown hK hP 0 rfl rfl 3 (by decide) (hts (.fieldLink RJ5 79 "java/lang/AbstractStringBuilder" "count" "I") (by decide +kernel)) (fun _ h9 => h9) rfl dJ5_append_cf1ce_35 ?_
  refine lv_iload_n hx hb dJ5_append_cf1ce_38 rfl (lv_at hl 0 rfl) ?_
  refine lv_iadd hx hb dJ5_append_cf1ce_39 ?_
  refine lv_topi (fun z_8 ez_8 => ?_)
  obtain rfl : z_8 = nI (n + w0) := ez_8.trans (nI_add _ _)
  refine va_put (D := D) (ci := 1) (v := .int (nI (n + w0))) (ty := .int) (C := RJ4) (T := TJ4) (N := 4) hx hb hts (by decide +kernel) tyJ4 tyJ4_ok nmJ4 hown hK hP hD hS 0 rfl rfl 3 (by decide) (hts (.fieldLink RJ5 79 "java/lang/AbstractStringBuilder" "count" "I") (by decide +kernel)) (fun _ h9 => h9) rfl (by decide +kernel) rfl rfl (Nat.le_of_ble_eq_true rfl) dJ5_append_cf1ce_40 (fun H locs hP hD hS => ?_)
  have hP : va_P D vwCl [(h, .inr (1, [.ref d2_2, .int 0, .int ml, .int (nI (n + w0))])), (d2_2, .inl (cA2_3, (zz_cap (n + w0) k), .inl f2_6))] H := hP
  have hD : va_D A [(h, .inr (1, [.ref d2_2, .int 0, .int ml, .int (nI (n + w0))])), (d2_2, .inl (cA2_3, (zz_cap (n + w0) k), .inl f2_6))] := hD
  refine lv_aload_n hx hb dJ5_append_cf1ce_43 rfl (lv_at hl 1 rfl) ?_
  have hP9 := hP.sub (ws' := [(h, .inr (1, [.ref d2_2, .int 0, .int ml, .int (nI (n + w0))])), (d2_2, .inl (cA2_3, (zz_cap (n + w0) k), .inl f2_6))]) [0, 1] rfl
  have hD9 := hD.sub (ws' := [(h, .inr (1, [.ref d2_2, .int 0, .int ml, .int (nI (n + w0))])), (d2_2, .inl (cA2_3, (zz_cap (n + w0) k), .inl f2_6))]) [0, 1] (by decide) rfl
  have hK9 := hK.sub (tys' := [(cA2_3, .byte)]) [1] rfl
  refine W.widen (k := 1) (n := 1500) (by show 0 + 0 + 1 + 0 ≤ 1; omega) (by show 0 + 0 + 1500 + 0 ≤ 1500; omega) ?_
  exact W.aret (v := .ref h) hx hb hr (Or.inl ⟨_, rfl⟩) (Or.inr ⟨_, rfl⟩) (zz_end hP9 hD9 hK9 hS (⟨_, _, _, h_7, rfl, rfl, rfl⟩)) hS.2.2 dJ5_append_cf1ce_44
set_option maxHeartbeats 4000000 in
set_option maxRecDepth 100000 in
theorem k_J4_append_15ec4 (l : Launch) (D : va_G) (h : Nat) (d : Nat) (ml : Int32) (n : Nat) (k : Nat) (f : Nat → Int32) (cB : ClassId) (q : Nat) (b : Nat) (w0 : Nat) (g : Nat → Int32) (hn : n + w0 ≤ 400) (hk : k ≤ 1500) (hf : sb_Fit f) : zz_M l yJ4_append_15ec4 wsJ4_append_15ec4 ({ frames := 6, cells := 1, slots := 1500, locals := 3400 }) D [.ref h, .ref q] [(cB, .byte)] [(h, .inr (1, [.ref d, .int 0, .int ml, .int (nI n)])), (d, .inl (cB, k, .inl f))] (fun A U => zz_G A U ∧ zz_S q b w0 g A U) (fun H0 H1 v w t => ∃ d2 : Nat, ∃ cA2 : ClassId, ∃ f2 : Nat → Int32, sb_Fit f2 ∧ v = some (.ref h) ∧ w = [(h, .inr (1, [.ref d2, .int 0, .int ml, .int (nI (n + w0))])), (d2, .inl (cA2, (zz_cap (n + w0) k), .inl f2))] ∧ t = [(cA2, .byte)]) := by
  refine zz_M.mk (cc := cJ4_append_15ec4) (maxL := 2) (ret := (some (.object "java/lang/StringBuilder"))) (by decide) rfl (Nat.le_of_ble_eq_true rfl) ?_
  intro p0 e0 s mt0 bl0 meth0 cd0 ls hC hname hP hK hD hX hl
  obtain ⟨hx, hb, hml, hr, hown, hts, hlocks⟩ := hC
  obtain ⟨hX0, hX1⟩ := hX
  generalize hAe : va_A [(h, .inr (1, [.ref d, .int 0, .int ml, .int (nI n)])), (d, .inl (cB, k, .inl f))] s.heap.size = A at *
  have hA : ∀ q : Nat, s.heap.size ≤ q → A q := fun q h => by rw [← hAe]; exact Or.inr h
  obtain ⟨H, hHs⟩ : ∃ z : Heap, z = s.heap := ⟨_, rfl⟩
  rw [← hHs] at hP ⊢
  have hS : va_S A s.heap H [] := by rw [hHs]; exact va_S.rf
  have hl : lv_has ls 2 [(0, .ref h), (1, .ref q)] := hl
  refine lv_aload_n hx hb dJ4_append_15ec4_0 rfl (lv_at hl 0 rfl) ?_
  refine lv_aload_n hx hb dJ4_append_15ec4_1 rfl (lv_at hl 1 rfl) ?_
  have hFc := va_free (wc := [(h, .inr (1, [.ref d, .int 0, .int ml, .int (nI n)])), (d, .inl (cB, k, .inl f))]) hD hS hA [0, 1] rfl
  have hO0 := zz_out zz_St_G hX0 hS hFc
  have hO1 := zz_out (zz_St_S q b w0 g) hX1 hS hFc
  refine zz_after (wr := []) (va_runSU (As := [.ref q]) (rest := []) (hK.1 1 _ rfl).2 ⟨hx, hb, hml, hown, hts⟩ ((k_J5_append_cf1ce l D h d ml n k f cB q b w0 g (hn) (hk) (hf)) H.size) (va_cwSU 1 hts gJ4_append_15ec4_J5_append_cf1ce_s29 rfl rfl rfl (by decide +kernel) ⟨Nat.le_of_ble_eq_true rfl, Nat.le_of_ble_eq_true rfl⟩) (zz_pV (zz_pre (av := [.ref h, .ref q]) (tyc := [(cB, .byte)]) (wc := [(h, .inr (1, [.ref d, .int 0, .int ml, .int (nI n)])), (d, .inl (cB, k, .inl f))]) (X := fun _ _ => True) (Xc := (fun A U => zz_G A U ∧ zz_S q b w0 g A U)) hP hD hK hS [0, 1] [0] rfl (by decide) rfl (zz_St_and zz_St_G (zz_St_S q b w0 g)) (fun U h1 h2 => ⟨hO0 U h1 h2, hO1 U h1 h2⟩)) (va_recv hK hP (ci := 1) (q0 := 0) rfl rfl)) rfl rfl hl.1 rfl (lv_room (Nat.le_of_ble_eq_true rfl)) dJ4_append_15ec4_2 ⟨by show 0 + 1 ≤ 1; omega, by show 0 + 1500 ≤ 1500; omega⟩) hP hD hK hS hFc [0, 1] [] rfl rfl (by decide) (by decide) (fun v w1 ty1 H1 locs hq9 hz9 hk9 hP1 hD1 hK1 hS1 => ?_)
  obtain ⟨d2_1, cA2_2, f2_3, h_4, rfl, rfl, rfl⟩ := hq9
  clear hS hP hD hK hFc hO0 hO1
  have hP : va_P D vwCl [(h, .inr (1, [.ref d2_1, .int 0, .int ml, .int (nI (n + w0))])), (d2_1, .inl (cA2_2, (zz_cap (n + w0) k), .inl f2_3))] H1 := hP1
  have hD : va_D A [(h, .inr (1, [.ref d2_1, .int 0, .int ml, .int (nI (n + w0))])), (d2_1, .inl (cA2_2, (zz_cap (n + w0) k), .inl f2_3))] := hD1
  have hK : va_K D vwCl [(cB, .byte), (cA2_2, .byte)] s := hK1
  have hS := hS1
  clear hP1 hD1 hK1 hS1
  obtain ⟨H, rfl⟩ : ∃ z, z = H1 := ⟨_, rfl⟩
  refine W.eq (g2 := F0 mt0 5 ls [.ref h]) rfl ?_
  refine lv_pop hx hb dJ4_append_15ec4_5 rfl ?_
  refine lv_aload_n hx hb dJ4_append_15ec4_6 rfl (lv_at hl 0 rfl) ?_
  have hP9 := hP.sub (ws' := [(h, .inr (1, [.ref d2_1, .int 0, .int ml, .int (nI (n + w0))])), (d2_1, .inl (cA2_2, (zz_cap (n + w0) k), .inl f2_3))]) [0, 1] rfl
  have hD9 := hD.sub (ws' := [(h, .inr (1, [.ref d2_1, .int 0, .int ml, .int (nI (n + w0))])), (d2_1, .inl (cA2_2, (zz_cap (n + w0) k), .inl f2_3))]) [0, 1] (by decide) rfl
  have hK9 := hK.sub (tys' := [(cA2_2, .byte)]) [1] rfl
  refine W.widen (k := 1) (n := 1500) (by show 0 + 1 ≤ 1; omega) (by show 0 + 1500 ≤ 1500; omega) ?_
  exact W.aret (v := .ref h) hx hb hr (Or.inl ⟨_, rfl⟩) (Or.inr ⟨_, rfl⟩) (zz_end hP9 hD9 hK9 hS (⟨_, _, _, h_4, rfl, rfl, rfl⟩)) hS.2.2 dJ4_append_15ec4_7
set_option maxHeartbeats 4000000 in
set_option maxRecDepth 100000 in
theorem k_J6_stringSize_0f7a4 (l : Launch) (D : va_G) (x : Nat) (hx1 : 10 ≤ x) (hx2 : x < 100) : zz_M l yJ6_stringSize_0f7a4 wsJ6_stringSize_0f7a4 ({ frames := 1, cells := 0, slots := 0, locals := 40 }) D [.int (nI x)] [] [] (fun _ _ => True) (fun H0 H1 v w t => v = some (.int 2) ∧ w = [] ∧ t = []) := by
  refine zz_M.mk (cc := cJ6_stringSize_0f7a4) (maxL := 4) (ret := (some .int)) (by decide) rfl (Nat.le_of_ble_eq_true rfl) ?_
  intro p0 e0 s mt0 bl0 meth0 cd0 ls hC hname hP hK hD hX hl
  obtain ⟨hx, hb, hml, hr, hown, hts, hlocks⟩ := hC
  generalize hAe : va_A [] s.heap.size = A at *
  have hA : ∀ q : Nat, s.heap.size ≤ q → A q := fun q h => by rw [← hAe]; exact Or.inr h
  obtain ⟨H, hHs⟩ : ∃ z : Heap, z = s.heap := ⟨_, rfl⟩
  rw [← hHs] at hP ⊢
  have hS : va_S A s.heap H [] := by rw [hHs]; exact va_S.rf
  have hl : lv_has ls 4 [(0, .int (nI x))] := hl
  refine lv_iconst (v := 1) hx hb dJ6_stringSize_0f7a4_0 (by decide) ?_
  refine lv_istore_n (lv' := [(1, .int 1), (0, .int (nI x))]) hx hb dJ6_stringSize_0f7a4_1 rfl hl (by decide) rfl (fun ls hl => ?_)
  refine lv_iload_n hx hb dJ6_stringSize_0f7a4_2 rfl (lv_at hl 1 rfl) ?_
  refine lv_if_lt (tgt := 11) hx hb dJ6_stringSize_0f7a4_3 (by decide) (fun c_1 => absurd c_1 (nI_pos (by omega))) (fun c_1 => ?_)
  refine lv_iconst (v := 0) hx hb dJ6_stringSize_0f7a4_6 (by decide) ?_
  refine lv_istore_n (lv' := [(1, .int 0), (0, .int (nI x))]) hx hb dJ6_stringSize_0f7a4_7 rfl hl (by decide) rfl (fun ls hl => ?_)
  refine lv_iload_n hx hb dJ6_stringSize_0f7a4_8 rfl (lv_at hl 1 rfl) ?_
  refine lv_ineg hx hb dJ6_stringSize_0f7a4_9 ?_
  refine lv_topi (fun z_2 ez_2 => ?_)
  obtain rfl : z_2 = -nI x := ez_2.trans (rfl)
  refine lv_istore_n (lv' := [(0, .int (-nI x)), (1, .int 0)]) hx hb dJ6_stringSize_0f7a4_10 rfl hl (by decide) rfl (fun ls hl => ?_)
  refine lv_bipush (v := (-10)) hx hb dJ6_stringSize_0f7a4_11 (by decide) ?_
  refine lv_istore_n (lv' := [(2, .int (-10)), (0, .int (-nI x)), (1, .int 0)]) hx hb dJ6_stringSize_0f7a4_13 rfl hl (by decide) rfl (fun ls hl => ?_)
  refine lv_iconst (v := 1) hx hb dJ6_stringSize_0f7a4_14 (by decide) ?_
  refine lv_istore_n (lv' := [(3, .int 1), (2, .int (-10)), (0, .int (-nI x)), (1, .int 0)]) hx hb dJ6_stringSize_0f7a4_15 rfl hl (by decide) rfl (fun ls hl => ?_)
  refine lv_iload_n hx hb dJ6_stringSize_0f7a4_16 rfl (lv_at hl 0 rfl) ?_
  refine lv_bipush (v := 10) hx hb dJ6_stringSize_0f7a4_17 (by decide) ?_
  refine lv_icmp_ge (tgt := 42) hx hb dJ6_stringSize_0f7a4_19 (by decide) (fun c_3 => absurd c_3 (by decide)) (fun c_3 => ?_)
  refine lv_iload_n hx hb dJ6_stringSize_0f7a4_22 rfl (lv_at hl 2 rfl) ?_
  refine lv_iload_n hx hb dJ6_stringSize_0f7a4_23 rfl (lv_at hl 1 rfl) ?_
  refine lv_icmp_le (tgt := 31) hx hb dJ6_stringSize_0f7a4_24 (by decide) (fun c_4 => ?_) (fun c_4 => absurd ((show -nI x ≤ -nI 10 from (zz_neg (by omega) (by decide)).mpr hx1)) c_4)
  refine lv_bipush (v := 10) hx hb dJ6_stringSize_0f7a4_31 (by decide) ?_
  refine lv_iload_n hx hb dJ6_stringSize_0f7a4_33 rfl (lv_at hl 1 rfl) ?_
  refine lv_imul hx hb dJ6_stringSize_0f7a4_34 ?_
  refine lv_topi (fun z_5 ez_5 => ?_)
  obtain rfl : z_5 = (-100) := ez_5.trans (by decide)
  refine lv_istore_n (lv' := [(2, .int (-100)), (3, .int 1), (0, .int (-nI x)), (1, .int 0)]) hx hb dJ6_stringSize_0f7a4_35 rfl hl (by decide) rfl (fun ls hl => ?_)
  refine lv_iinc (v := 2) (lv' := [(3, .int 2), (2, .int (-100)), (0, .int (-nI x)), (1, .int 0)]) hx hb dJ6_stringSize_0f7a4_36 hl (k := 1) rfl (by decide) (by decide) rfl (fun ls hl => ?_)
  refine lv_goto (tgt := 16) hx hb dJ6_stringSize_0f7a4_39 (by decide) ?_
  refine lv_iload_n hx hb dJ6_stringSize_0f7a4_16 rfl (lv_at hl 0 rfl) ?_
  refine lv_bipush (v := 10) hx hb dJ6_stringSize_0f7a4_17 (by decide) ?_
  refine lv_icmp_ge (tgt := 42) hx hb dJ6_stringSize_0f7a4_19 (by decide) (fun c_6 => absurd c_6 (by decide)) (fun c_6 => ?_)
  refine lv_iload_n hx hb dJ6_stringSize_0f7a4_22 rfl (lv_at hl 2 rfl) ?_
  refine lv_iload_n hx hb dJ6_stringSize_0f7a4_23 rfl (lv_at hl 1 rfl) ?_
  refine lv_icmp_le (tgt := 31) hx hb dJ6_stringSize_0f7a4_24 (by decide) (fun c_7 => absurd c_7 (fun z9 => by have := (zz_neg (x := x) (c := 100) (by omega) (by decide)).mp z9; omega)) (fun c_7 => ?_)
  refine lv_iload_n hx hb dJ6_stringSize_0f7a4_27 rfl (lv_at hl 0 rfl) ?_
  refine lv_iload_n hx hb dJ6_stringSize_0f7a4_28 rfl (lv_at hl 3 rfl) ?_
  refine lv_iadd hx hb dJ6_stringSize_0f7a4_29 ?_
  refine lv_topi (fun z_8 ez_8 => ?_)
  obtain rfl : z_8 = 2 := ez_8.trans (by decide)
  have hP9 := hP.sub (ws' := []) [] rfl
  have hD9 := hD.sub (ws' := []) [] (by decide) rfl
  have hK9 := hK.sub (tys' := []) [] rfl
  refine W.widen (k := 0) (n := 0) (by show 0 ≤ 0; omega) (by show 0 ≤ 0; omega) ?_
  exact W.iret (v := 2) hx hb hr (zz_end hP9 hD9 hK9 hS (⟨rfl, rfl, rfl⟩)) hS.2.2 dJ6_stringSize_0f7a4_30
set_option maxHeartbeats 4000000 in
set_option maxRecDepth 100000 in
theorem k_J6_getChars_ba4f3 (l : Launch) (D : va_G) (x : Nat) (d : Nat) (k : Nat) (f : Nat → Int32) (cB : ClassId) (j : Nat) (hx1 : 10 ≤ x) (hx2 : x < 100) (hj : 2 ≤ j ∧ j ≤ k) (hk : k ≤ 1500) (hf : sb_Fit f) : zz_M l yJ6_getChars_ba4f3 wsJ6_getChars_ba4f3 ({ frames := 1, cells := 0, slots := 0, locals := 100 }) D [.int (nI x), .int (nI j), .ref d] [(cB, .byte)] [(d, .inl (cB, k, .inl f))] (fun A U => zz_G A U) (fun H0 H1 v w t => ∃ rr : Int32, ∃ f2 : Nat → Int32, sb_Fit f2 ∧ v = some (.int rr) ∧ w = [(d, .inl (cB, k, .inl f2))] ∧ t = [(cB, .byte)]) := by
  refine zz_M.mk (cc := cJ6_getChars_ba4f3) (maxL := 7) (ret := (some .int)) (by decide) rfl (Nat.le_of_ble_eq_true rfl) ?_
  intro p0 e0 s mt0 bl0 meth0 cd0 ls hC hname hP hK hD hX hl
  obtain ⟨hx, hb, hml, hr, hown, hts, hlocks⟩ := hC
  have hX0 := hX
  generalize hAe : va_A [(d, .inl (cB, k, .inl f))] s.heap.size = A at *
  have hA : ∀ q : Nat, s.heap.size ≤ q → A q := fun q h => by rw [← hAe]; exact Or.inr h
  obtain ⟨H, hHs⟩ : ∃ z : Heap, z = s.heap := ⟨_, rfl⟩
  rw [← hHs] at hP ⊢
  have hS : va_S A s.heap H [] := by rw [hHs]; exact va_S.rf
  have hl : lv_has ls 7 [(0, .int (nI x)), (1, .int (nI j)), (2, .ref d)] := hl
  have hX0' := hX0
  obtain ⟨-, t1, t2, g1, g2, hZ1, hT1, hg1, hZ2, hT2, hg2⟩ := hX0'
  refine lv_iload_n hx hb dJ6_getChars_ba4f3_0 rfl (lv_at hl 1 rfl) ?_
  refine lv_istore (lv' := [(5, .int (nI j)), (0, .int (nI x)), (1, .int (nI j)), (2, .ref d)]) hx hb dJ6_getChars_ba4f3_1 hl (by decide) rfl (fun ls hl => ?_)
  refine lv_iload_n hx hb dJ6_getChars_ba4f3_3 rfl (lv_at hl 1 rfl) ?_
  refine lv_if_ge (tgt := 11) hx hb dJ6_getChars_ba4f3_4 (by decide) (fun c_1 => ?_) (fun c_1 => absurd (nI_pos' (by omega)) c_1)
  refine lv_iconst (v := 0) hx hb dJ6_getChars_ba4f3_11 (by decide) ?_
  refine lv_istore (lv' := [(6, .int 0), (5, .int (nI j)), (0, .int (nI x)), (1, .int (nI j)), (2, .ref d)]) hx hb dJ6_getChars_ba4f3_12 hl (by decide) rfl (fun ls hl => ?_)
  refine lv_iload hx hb dJ6_getChars_ba4f3_14 (lv_at hl 0 rfl) ?_
  refine lv_if_ne (tgt := 22) hx hb dJ6_getChars_ba4f3_16 (by decide) (fun c_2 => absurd (rfl) c_2) (fun c_2 => ?_)
  refine lv_iload_n hx hb dJ6_getChars_ba4f3_19 rfl (lv_at hl 2 rfl) ?_
  refine lv_ineg hx hb dJ6_getChars_ba4f3_20 ?_
  refine lv_topi (fun z_3 ez_3 => ?_)
  obtain rfl : z_3 = -nI x := ez_3.trans (rfl)
  refine lv_istore_n (lv' := [(0, .int (-nI x)), (6, .int 0), (5, .int (nI j)), (1, .int (nI j)), (2, .ref d)]) hx hb dJ6_getChars_ba4f3_21 rfl hl (by decide) rfl (fun ls hl => ?_)
  refine lv_iload_n hx hb dJ6_getChars_ba4f3_22 rfl (lv_at hl 0 rfl) ?_
  refine lv_bipush (v := (-100)) hx hb dJ6_getChars_ba4f3_23 (by decide) ?_
  refine lv_icmp_gt (tgt := 72) hx hb dJ6_getChars_ba4f3_25 (by decide) (fun c_4 => ?_) (fun c_4 => absurd (by have h9 : ((-100 : Int32)).toInt = -100 := (by decide); rw [Int32.lt_iff_toInt_lt, sb_negT (by omega)]; omega) c_4)
  refine lv_aload_n hx hb dJ6_getChars_ba4f3_72 rfl (lv_at hl 4 rfl) ?_
  refine lv_iinc (v := (nI (j - 1))) (lv' := [(5, .int (nI (j - 1))), (0, .int (-nI x)), (6, .int 0), (1, .int (nI j)), (2, .ref d)]) hx hb dJ6_getChars_ba4f3_73 hl (k := 2) rfl (sb_m1 (by omega)) (by decide) rfl (fun ls hl => ?_)
  refine lv_iload hx hb dJ6_getChars_ba4f3_76 (lv_at hl 0 rfl) ?_
  refine va_gets hx hb (hZ1) hS hown (hts (.fieldLink RJ6 83 "java/lang/Integer" "DigitOnes" "[B") (by decide +kernel)) (fun _ h9 => h9) dJ6_getChars_ba4f3_78 ?_
  refine lv_iload_n hx hb dJ6_getChars_ba4f3_81 rfl (lv_at hl 1 rfl) ?_
  refine lv_ineg hx hb dJ6_getChars_ba4f3_82 ?_
  refine lv_topi (fun z_5 ez_5 => ?_)
  obtain rfl : z_5 = nI x := ez_5.trans (zz_nn x)
  refine va_tb hx hb (hT1) hS (vp_in_nI (by omega) (by omega)) (v := .int (g1 (nI x).toNatClampNeg)) rfl dJ6_getChars_ba4f3_83 ?_
  refine va_bast hx hb hK hP hD hS 0 0 rfl rfl (vp_in_nI (by omega) (by omega)) dJ6_getChars_ba4f3_84 (fun H locs hP hD hS => ?_)
  have hP : va_P D vwCl [(d, .inl (cB, k, .inl (upd f (nI (j - 1) : Int32).toNatClampNeg (vp_nar .byte (g1 (nI x).toNatClampNeg)))))] H := hP
  have hD : va_D A [(d, .inl (cB, k, .inl (upd f (nI (j - 1) : Int32).toNatClampNeg (vp_nar .byte (g1 (nI x).toNatClampNeg)))))] := hD
  refine lv_iload_n hx hb dJ6_getChars_ba4f3_85 rfl (lv_at hl 1 rfl) ?_
  refine lv_bipush (v := (-9)) hx hb dJ6_getChars_ba4f3_86 (by decide) ?_
  refine lv_icmp_ge (tgt := 104) hx hb dJ6_getChars_ba4f3_88 (by decide) (fun c_6 => absurd c_6 (by have h9 : ((-9 : Int32)).toInt = -9 := (by decide); rw [Int32.le_iff_toInt_le, sb_negT (by omega)]; omega)) (fun c_6 => ?_)
  refine lv_aload_n hx hb dJ6_getChars_ba4f3_91 rfl (lv_at hl 4 rfl) ?_
  refine lv_iinc (v := (nI (j - 1 - 1))) (lv' := [(5, .int (nI (j - 1 - 1))), (0, .int (-nI x)), (6, .int 0), (1, .int (nI j)), (2, .ref d)]) hx hb dJ6_getChars_ba4f3_92 hl (k := 0) rfl (sb_m1 (by omega)) (by decide) rfl (fun ls hl => ?_)
  refine lv_iload hx hb dJ6_getChars_ba4f3_95 (lv_at hl 0 rfl) ?_
  refine va_gets hx hb (hZ2) hS hown (hts (.fieldLink RJ6 87 "java/lang/Integer" "DigitTens" "[B") (by decide +kernel)) (fun _ h9 => h9) dJ6_getChars_ba4f3_97 ?_
  refine lv_iload_n hx hb dJ6_getChars_ba4f3_100 rfl (lv_at hl 1 rfl) ?_
  refine lv_ineg hx hb dJ6_getChars_ba4f3_101 ?_
  refine lv_topi (fun z_7 ez_7 => ?_)
  obtain rfl : z_7 = nI x := ez_7.trans (zz_nn x)
  refine va_tb hx hb (hT2) hS (vp_in_nI (by omega) (by omega)) (v := .int (g2 (nI x).toNatClampNeg)) rfl dJ6_getChars_ba4f3_102 ?_
  refine va_bast hx hb hK hP hD hS 0 0 rfl rfl (vp_in_nI (by omega) (by omega)) dJ6_getChars_ba4f3_103 (fun H locs hP hD hS => ?_)
  have hP : va_P D vwCl [(d, .inl (cB, k, .inl (upd (upd f (nI (j - 1) : Int32).toNatClampNeg (vp_nar .byte (g1 (nI x).toNatClampNeg))) (nI (j - 1 - 1) : Int32).toNatClampNeg (vp_nar .byte (g2 (nI x).toNatClampNeg)))))] H := hP
  have hD : va_D A [(d, .inl (cB, k, .inl (upd (upd f (nI (j - 1) : Int32).toNatClampNeg (vp_nar .byte (g1 (nI x).toNatClampNeg))) (nI (j - 1 - 1) : Int32).toNatClampNeg (vp_nar .byte (g2 (nI x).toNatClampNeg)))))] := hD
  refine lv_iload hx hb dJ6_getChars_ba4f3_104 (lv_at hl 2 rfl) ?_
  refine lv_if_eq (tgt := 118) hx hb dJ6_getChars_ba4f3_106 (by decide) (fun c_8 => ?_) (fun c_8 => absurd (rfl) c_8)
  refine lv_iload hx hb dJ6_getChars_ba4f3_118 (lv_at hl 0 rfl) ?_
  have hP9 := hP.sub (ws' := [(d, .inl (cB, k, .inl (upd (upd f (nI (j - 1) : Int32).toNatClampNeg (vp_nar .byte (g1 (nI x).toNatClampNeg))) (nI (j - 1 - 1) : Int32).toNatClampNeg (vp_nar .byte (g2 (nI x).toNatClampNeg)))))]) [0] rfl
  have hD9 := hD.sub (ws' := [(d, .inl (cB, k, .inl (upd (upd f (nI (j - 1) : Int32).toNatClampNeg (vp_nar .byte (g1 (nI x).toNatClampNeg))) (nI (j - 1 - 1) : Int32).toNatClampNeg (vp_nar .byte (g2 (nI x).toNatClampNeg)))))]) [0] (by decide) rfl
  have hK9 := hK.sub (tys' := [(cB, .byte)]) [0] rfl
  refine W.widen (k := 0) (n := 0) (by show 0 ≤ 0; omega) (by show 0 ≤ 0; omega) ?_
  exact W.iret (v := nI (j - 1 - 1)) hx hb hr (zz_end hP9 hD9 hK9 hS (⟨_, _, sb_fitU (sb_fitU hf (zz_fitN _)) (zz_fitN _), rfl, rfl, rfl⟩)) hS.2.2 dJ6_getChars_ba4f3_120
set_option maxHeartbeats 4000000 in
set_option maxRecDepth 100000 in
theorem k_J5_append_c97b9 (l : Launch) (D : va_G) (h : Nat) (d : Nat) (ml : Int32) (n : Nat) (k : Nat) (f : Nat → Int32) (cB : ClassId) (x : Nat) (hx1 : 10 ≤ x) (hx2 : x < 100) (hn : n + 2 ≤ 400) (hk : k ≤ 1500) (hf : sb_Fit f) : zz_M l yJ5_append_c97b9 wsJ5_append_c97b9 ({ frames := 5, cells := 1, slots := 1500, locals := 3300 }) D [.ref h, .int (nI x)] [(cB, .byte)] [(h, .inr (1, [.ref d, .int 0, .int ml, .int (nI n)])), (d, .inl (cB, k, .inl f))] (fun A U => zz_G A U) (fun H0 H1 v w t => ∃ d2 : Nat, ∃ cA2 : ClassId, ∃ f2 : Nat → Int32, sb_Fit f2 ∧ v = some (.ref h) ∧ w = [(h, .inr (1, [.ref d2, .int 0, .int ml, .int (nI (n + 2))])), (d2, .inl (cA2, (zz_cap (n + 2) k), .inl f2))] ∧ t = [(cA2, .byte)]) := by
  refine zz_M.mk (cc := cJ5_append_c97b9) (maxL := 4) (ret := (some (.object "java/lang/AbstractStringBuilder"))) (by decide) rfl (Nat.le_of_ble_eq_true rfl) ?_
  intro p0 e0 s mt0 bl0 meth0 cd0 ls hC hname hP hK hD hX hl
  obtain ⟨hx, hb, hml, hr, hown, hts, hlocks⟩ := hC
  have hX0 := hX
  generalize hAe : va_A [(h, .inr (1, [.ref d, .int 0, .int ml, .int (nI n)])), (d, .inl (cB, k, .inl f))] s.heap.size = A at *
  have hA : ∀ q : Nat, s.heap.size ≤ q → A q := fun q h => by rw [← hAe]; exact Or.inr h
  obtain ⟨H, hHs⟩ : ∃ z : Heap, z = s.heap := ⟨_, rfl⟩
  rw [← hHs] at hP ⊢
  have hS : va_S A s.heap H [] := by rw [hHs]; exact va_S.rf
  have hl : lv_has ls 4 [(0, .ref h), (1, .int (nI x))] := hl
  refine lv_aload_n hx hb dJ5_append_c97b9_0 rfl (lv_at hl 0 rfl) ?_
  refine va_get (D := D) (ci := 1) (v := .int (nI n)) (C := RJ4) (T := TJ4) (N := 4) hx hb hts (by decide +kernel) hown hK hP 0 rfl rfl 3 (by decide) (hts (.fieldLink RJ5 79 "java/lang/AbstractStringBuilder" "count" "I") (by decide +kernel)) (fun _ h9 => h9) rfl dJ5_append_c97b9_1 ?_
  refine lv_istore_n (lv' := [(2, .int (nI n)), (0, .ref h), (1, .int (nI x))]) hx hb dJ5_append_c97b9_4 rfl hl (by decide) rfl (fun ls hl => ?_)
  refine lv_iload_n hx hb dJ5_append_c97b9_5 rfl (lv_at hl 0 rfl) ?_
  refine lv_iload_n hx hb dJ5_append_c97b9_6 rfl (lv_at hl 2 rfl) ?_
  have hFc := va_free (wc := []) hD hS hA [] rfl
  refine zz_after (wr := [(h, .inr (1, [.ref d, .int 0, .int ml, .int (nI n)])), (d, .inl (cB, k, .inl f))]) (va_runS (As := [.int (nI x)]) (rest := [.int (nI n)]) ⟨hx, hb, hml, hown, hts⟩ ((k_J6_stringSize_0f7a4 l D x (hx1) (hx2)) H.size) (va_cwS 1 hts gJ5_append_c97b9_J6_stringSize_0f7a4 rfl rfl rfl (by decide +kernel) ⟨Nat.le_of_ble_eq_true rfl, Nat.le_of_ble_eq_true rfl⟩) (zz_pre (av := [.int (nI x)]) (tyc := []) (wc := []) (X := fun _ _ => True) (Xc := (fun _ _ => True)) hP hD hK hS [] [] rfl (by decide) rfl zz_St_tt (fun _ _ _ => trivial)) rfl rfl hl.1 rfl (lv_room (Nat.le_of_ble_eq_true rfl)) dJ5_append_c97b9_7 ⟨by show 0 + 0 ≤ 1; omega, by show 0 + 0 ≤ 1500; omega⟩) hP hD hK hS hFc [] [0, 1] rfl rfl (by decide) (by decide) (fun v w1 ty1 H1 locs hq9 hz9 hk9 hP1 hD1 hK1 hS1 => ?_)
  obtain ⟨rfl, rfl, rfl⟩ := hq9
  clear hS hP hD hK hFc
  have hP : va_P D vwCl [(h, .inr (1, [.ref d, .int 0, .int ml, .int (nI n)])), (d, .inl (cB, k, .inl f))] H1 := hP1
  have hD : va_D A [(h, .inr (1, [.ref d, .int 0, .int ml, .int (nI n)])), (d, .inl (cB, k, .inl f))] := hD1
  have hK : va_K D vwCl [(cB, .byte)] s := hK1
  have hS := hS1
  clear hP1 hD1 hK1 hS1
  obtain ⟨H, rfl⟩ : ∃ z, z = H1 := ⟨_, rfl⟩
  refine W.eq (g2 := F0 mt0 10 ls [.int 2, .int (nI n)]) rfl ?_
  refine lv_iadd hx hb dJ5_append_c97b9_10 ?_
  refine lv_topi (fun z_1 ez_1 => ?_)
  obtain rfl : z_1 = nI (n + 2) := ez_1.trans (nI_add n 2)
  refine lv_istore_n (lv' := [(3, .int (nI (n + 2))), (2, .int (nI n)), (0, .ref h), (1, .int (nI x))]) hx hb dJ5_append_c97b9_11 rfl hl (by decide) rfl (fun ls hl => ?_)
  refine lv_aload_n hx hb dJ5_append_c97b9_12 rfl (lv_at hl 2 rfl) ?_
  refine lv_iload_n hx hb dJ5_append_c97b9_13 rfl (lv_at hl 0 rfl) ?_
  have hFc := va_free (wc := [(h, .inr (1, [.ref d, .int 0, .int ml, .int (nI n)])), (d, .inl (cB, k, .inl f))]) hD hS hA [0, 1] rfl
  refine zz_after (wr := []) (va_runU (As := [.int (nI (n + 2))]) (rest := []) ⟨hx, hb, hml, hown, hts⟩ ((k_J5_ensureCapacityInternal_d00df l D h d ml n k f cB (n + 2) (hn) (hk) (hf)) H.size) (va_cwU 1 hts gJ5_append_c97b9_J5_ensureCapacityInternal_d00df_u100J4 rfl rfl rfl rfl (by decide +kernel) ⟨Nat.le_of_ble_eq_true rfl, Nat.le_of_ble_eq_true rfl⟩) (zz_pV (zz_pre (av := [.ref h, .int (nI (n + 2))]) (tyc := [(cB, .byte)]) (wc := [(h, .inr (1, [.ref d, .int 0, .int ml, .int (nI n)])), (d, .inl (cB, k, .inl f))]) (X := fun _ _ => True) (Xc := (fun _ _ => True)) hP hD hK hS [0, 1] [0] rfl (by decide) rfl zz_St_tt (fun _ _ _ => trivial)) (va_recv hK hP (ci := 1) (q0 := 0) rfl rfl)) rfl rfl hl.1 rfl (lv_room (Nat.le_of_ble_eq_true rfl)) dJ5_append_c97b9_14 ⟨by show 0 + 0 + 1 ≤ 1; omega, by show 0 + 0 + 1500 ≤ 1500; omega⟩) hP hD hK hS hFc [0, 1] [] rfl rfl (by decide) (by decide) (fun v w1 ty1 H1 locs hq9 hz9 hk9 hP1 hD1 hK1 hS1 => ?_)
  obtain ⟨d2_2, cA2_3, f2_4, h_5, rfl, rfl, rfl⟩ := hq9
  clear hS hP hD hK hFc
  have hP : va_P D vwCl [(h, .inr (1, [.ref d2_2, .int 0, .int ml, .int (nI n)])), (d2_2, .inl (cA2_3, (zz_cap (n + 2) k), .inl f2_4))] H1 := hP1
  have hD : va_D A [(h, .inr (1, [.ref d2_2, .int 0, .int ml, .int (nI n)])), (d2_2, .inl (cA2_3, (zz_cap (n + 2) k), .inl f2_4))] := hD1
  have hK : va_K D vwCl [(cB, .byte), (cA2_3, .byte)] s := hK1
  have hS := hS1
  clear hP1 hD1 hK1 hS1
  obtain ⟨H, rfl⟩ : ∃ z, z = H1 := ⟨_, rfl⟩
  refine W.eq (g2 := F0 mt0 17 ls []) rfl ?_
  refine lv_aload_n hx hb dJ5_append_c97b9_17 rfl (lv_at hl 2 rfl) ?_
  have hFc := va_free (wc := [(h, .inr (1, [.ref d2_2, .int 0, .int ml, .int (nI n)])), (d2_2, .inl (cA2_3, (zz_cap (n + 2) k), .inl f2_4))]) hD hS hA [0, 1] rfl
  have hO0 := zz_out zz_St_G hX0 hS hFc
  refine zz_after (wr := []) (va_runU (As := []) (rest := []) ⟨hx, hb, hml, hown, hts⟩ ((k_J5_isLatin1_aae02 l D h d2_2 ml n (zz_cap (n + 2) k) f2_4 cA2_3) H.size) (va_cwU 0 hts gJ5_append_c97b9_J5_isLatin1_aae02_u83J4 rfl rfl rfl rfl (by decide +kernel) ⟨Nat.le_of_ble_eq_true rfl, Nat.le_of_ble_eq_true rfl⟩) (zz_pV (zz_pre (av := [.ref h]) (tyc := [(cA2_3, .byte)]) (wc := [(h, .inr (1, [.ref d2_2, .int 0, .int ml, .int (nI n)])), (d2_2, .inl (cA2_3, (zz_cap (n + 2) k), .inl f2_4))]) (X := fun _ _ => True) (Xc := (fun A U => zz_G A U)) hP hD hK hS [0, 1] [1] rfl (by decide) rfl zz_St_G (fun U h1 h2 => hO0 U h1 h2)) (va_recv hK hP (ci := 1) (q0 := 0) rfl rfl)) rfl rfl hl.1 rfl (lv_room (Nat.le_of_ble_eq_true rfl)) dJ5_append_c97b9_18 ⟨by show 0 + 0 + 1 + 0 ≤ 1; omega, by show 0 + 0 + 1500 + 0 ≤ 1500; omega⟩) hP hD hK hS hFc [0, 1] [] rfl rfl (by decide) (by decide) (fun v w1 ty1 H1 locs hq9 hz9 hk9 hP1 hD1 hK1 hS1 => ?_)
  obtain ⟨rfl, rfl, rfl⟩ := hq9
  clear hS hP hD hK hFc hO0
  have hP : va_P D vwCl [(h, .inr (1, [.ref d2_2, .int 0, .int ml, .int (nI n)])), (d2_2, .inl (cA2_3, (zz_cap (n + 2) k), .inl f2_4))] H1 := hP1
  have hD : va_D A [(h, .inr (1, [.ref d2_2, .int 0, .int ml, .int (nI n)])), (d2_2, .inl (cA2_3, (zz_cap (n + 2) k), .inl f2_4))] := hD1
  have hK : va_K D vwCl [(cB, .byte), (cA2_3, .byte), (cA2_3, .byte)] s := hK1
  have hS := hS1
  clear hP1 hD1 hK1 hS1
  obtain ⟨H, rfl⟩ : ∃ z, z = H1 := ⟨_, rfl⟩
  refine W.eq (g2 := F0 mt0 21 ls [.int 1]) rfl ?_
  refine lv_if_eq (tgt := 37) hx hb dJ5_append_c97b9_21 (by decide) (fun c_6 => absurd c_6 (by decide)) (fun c_6 => ?_)
  refine lv_iload_n hx hb dJ5_append_c97b9_24 rfl (lv_at hl 3 rfl) ?_
  refine lv_iload_n hx hb dJ5_append_c97b9_25 rfl (lv_at hl 0 rfl) ?_
  refine lv_aload_n hx hb dJ5_append_c97b9_26 rfl (lv_at hl 2 rfl) ?_
  refine va_get (D := D) (ci := 1) (v := .ref d2_2) (C := RJ4) (T := TJ4) (N := 4) hx hb hts (by decide +kernel) hown hK hP 0 rfl rfl 0 (by decide) (hts (.fieldLink RJ5 15 "java/lang/AbstractStringBuilder" "value" "[B") (by decide +kernel)) (fun _ h9 => h9) rfl dJ5_append_c97b9_27 ?_
  have hFc := va_free (wc := [(d2_2, .inl (cA2_3, (zz_cap (n + 2) k), .inl f2_4))]) hD hS hA [1] rfl
  have hO0 := zz_out zz_St_G hX0 hS hFc
  refine zz_after (wr := [(h, .inr (1, [.ref d2_2, .int 0, .int ml, .int (nI n)]))]) (va_runS (As := [.int (nI x), .int (nI (n + 2)), .ref d2_2]) (rest := []) ⟨hx, hb, hml, hown, hts⟩ ((k_J6_getChars_ba4f3 l D x d2_2 (zz_cap (n + 2) k) f2_4 cA2_3 (n + 2) (hx1) (hx2) (⟨by omega, zz_cap_ge _ _⟩) (zz_cap_le hn hk) (h_5)) H.size) (va_cwS 3 hts gJ5_append_c97b9_J6_getChars_ba4f3 rfl rfl rfl (by decide +kernel) ⟨Nat.le_of_ble_eq_true rfl, Nat.le_of_ble_eq_true rfl⟩) (zz_pre (av := [.int (nI x), .int (nI (n + 2)), .ref d2_2]) (tyc := [(cA2_3, .byte)]) (wc := [(d2_2, .inl (cA2_3, (zz_cap (n + 2) k), .inl f2_4))]) (X := fun _ _ => True) (Xc := (fun A U => zz_G A U)) hP hD hK hS [1] [1] rfl (by decide) rfl zz_St_G (fun U h1 h2 => hO0 U h1 h2)) rfl rfl hl.1 rfl (lv_room (Nat.le_of_ble_eq_true rfl)) dJ5_append_c97b9_30 ⟨by show 0 + 0 + 1 + 0 + 0 ≤ 1; omega, by show 0 + 0 + 1500 + 0 + 0 ≤ 1500; omega⟩) hP hD hK hS hFc [1] [0] rfl rfl (by decide) (by decide) (fun v w1 ty1 H1 locs hq9 hz9 hk9 hP1 hD1 hK1 hS1 => ?_)
  obtain ⟨rr_7, f2_8, h_9, rfl, rfl, rfl⟩ := hq9
  clear hS hP hD hK hFc hO0
  have hP : va_P D vwCl [(h, .inr (1, [.ref d2_2, .int 0, .int ml, .int (nI n)])), (d2_2, .inl (cA2_3, (zz_cap (n + 2) k), .inl f2_8))] H1 := hP1
  have hD : va_D A [(h, .inr (1, [.ref d2_2, .int 0, .int ml, .int (nI n)])), (d2_2, .inl (cA2_3, (zz_cap (n + 2) k), .inl f2_8))] := hD1
  have hK : va_K D vwCl [(cB, .byte), (cA2_3, .byte), (cA2_3, .byte), (cA2_3, .byte)] s := hK1
  have hS := hS1
  clear hP1 hD1 hK1 hS1
  obtain ⟨H, rfl⟩ : ∃ z, z = H1 := ⟨_, rfl⟩
  refine W.eq (g2 := F0 mt0 33 ls [.int rr_7]) rfl ?_
  refine lv_pop hx hb dJ5_append_c97b9_33 rfl ?_
  refine lv_goto (tgt := 48) hx hb dJ5_append_c97b9_34 (by decide) ?_
  refine lv_aload_n hx hb dJ5_append_c97b9_48 rfl (lv_at hl 2 rfl) ?_
  refine lv_iload_n hx hb dJ5_append_c97b9_49 rfl (lv_at hl 0 rfl) ?_
  refine va_put (D := D) (ci := 1) (v := .int (nI (n + 2))) (ty := .int) (C := RJ4) (T := TJ4) (N := 4) hx hb hts (by decide +kernel) tyJ4 tyJ4_ok nmJ4 hown hK hP hD hS 0 rfl rfl 3 (by decide) (hts (.fieldLink RJ5 79 "java/lang/AbstractStringBuilder" "count" "I") (by decide +kernel)) (fun _ h9 => h9) rfl (by decide +kernel) rfl rfl (Nat.le_of_ble_eq_true rfl) dJ5_append_c97b9_50 (fun H locs hP hD hS => ?_)
  have hP : va_P D vwCl [(h, .inr (1, [.ref d2_2, .int 0, .int ml, .int (nI (n + 2))])), (d2_2, .inl (cA2_3, (zz_cap (n + 2) k), .inl f2_8))] H := hP
  have hD : va_D A [(h, .inr (1, [.ref d2_2, .int 0, .int ml, .int (nI (n + 2))])), (d2_2, .inl (cA2_3, (zz_cap (n + 2) k), .inl f2_8))] := hD
  refine lv_aload_n hx hb dJ5_append_c97b9_53 rfl (lv_at hl 2 rfl) ?_
  have hP9 := hP.sub (ws' := [(h, .inr (1, [.ref d2_2, .int 0, .int ml, .int (nI (n + 2))])), (d2_2, .inl (cA2_3, (zz_cap (n + 2) k), .inl f2_8))]) [0, 1] rfl
  have hD9 := hD.sub (ws' := [(h, .inr (1, [.ref d2_2, .int 0, .int ml, .int (nI (n + 2))])), (d2_2, .inl (cA2_3, (zz_cap (n + 2) k), .inl f2_8))]) [0, 1] (by decide) rfl
  have hK9 := hK.sub (tys' := [(cA2_3, .byte)]) [1] rfl
  refine W.widen (k := 1) (n := 1500) (by show 0 + 0 + 1 + 0 + 0 ≤ 1; omega) (by show 0 + 0 + 1500 + 0 + 0 ≤ 1500; omega) ?_
  exact W.aret (v := .ref h) hx hb hr (Or.inl ⟨_, rfl⟩) (Or.inr ⟨_, rfl⟩) (zz_end hP9 hD9 hK9 hS (⟨_, _, _, h_9, rfl, rfl, rfl⟩)) hS.2.2 dJ5_append_c97b9_54
set_option maxHeartbeats 4000000 in
set_option maxRecDepth 100000 in
theorem k_J4_append_bf812 (l : Launch) (D : va_G) (h : Nat) (d : Nat) (ml : Int32) (n : Nat) (k : Nat) (f : Nat → Int32) (cB : ClassId) (x : Nat) (hx1 : 10 ≤ x) (hx2 : x < 100) (hn : n + 2 ≤ 400) (hk : k ≤ 1500) (hf : sb_Fit f) : zz_M l yJ4_append_bf812 wsJ4_append_bf812 ({ frames := 6, cells := 1, slots := 1500, locals := 3400 }) D [.ref h, .int (nI x)] [(cB, .byte)] [(h, .inr (1, [.ref d, .int 0, .int ml, .int (nI n)])), (d, .inl (cB, k, .inl f))] (fun A U => zz_G A U) (fun H0 H1 v w t => ∃ d2 : Nat, ∃ cA2 : ClassId, ∃ f2 : Nat → Int32, sb_Fit f2 ∧ v = some (.ref h) ∧ w = [(h, .inr (1, [.ref d2, .int 0, .int ml, .int (nI (n + 2))])), (d2, .inl (cA2, (zz_cap (n + 2) k), .inl f2))] ∧ t = [(cA2, .byte)]) := by
  refine zz_M.mk (cc := cJ4_append_bf812) (maxL := 2) (ret := (some (.object "java/lang/StringBuilder"))) (by decide) rfl (Nat.le_of_ble_eq_true rfl) ?_
  intro p0 e0 s mt0 bl0 meth0 cd0 ls hC hname hP hK hD hX hl
  obtain ⟨hx, hb, hml, hr, hown, hts, hlocks⟩ := hC
  have hX0 := hX
  generalize hAe : va_A [(h, .inr (1, [.ref d, .int 0, .int ml, .int (nI n)])), (d, .inl (cB, k, .inl f))] s.heap.size = A at *
  have hA : ∀ q : Nat, s.heap.size ≤ q → A q := fun q h => by rw [← hAe]; exact Or.inr h
  obtain ⟨H, hHs⟩ : ∃ z : Heap, z = s.heap := ⟨_, rfl⟩
  rw [← hHs] at hP ⊢
  have hS : va_S A s.heap H [] := by rw [hHs]; exact va_S.rf
  have hl : lv_has ls 2 [(0, .ref h), (1, .int (nI x))] := hl
  refine lv_aload_n hx hb dJ4_append_bf812_0 rfl (lv_at hl 0 rfl) ?_
  refine lv_iload_n hx hb dJ4_append_bf812_1 rfl (lv_at hl 1 rfl) ?_
  have hFc := va_free (wc := [(h, .inr (1, [.ref d, .int 0, .int ml, .int (nI n)])), (d, .inl (cB, k, .inl f))]) hD hS hA [0, 1] rfl
  have hO0 := zz_out zz_St_G hX0 hS hFc
  refine zz_after (wr := []) (va_runSU (As := [.int (nI x)]) (rest := []) (hK.1 1 _ rfl).2 ⟨hx, hb, hml, hown, hts⟩ ((k_J5_append_c97b9 l D h d ml n k f cB x (hx1) (hx2) (hn) (hk) (hf)) H.size) (va_cwSU 1 hts gJ4_append_bf812_J5_append_c97b9_s53 rfl rfl rfl (by decide +kernel) ⟨Nat.le_of_ble_eq_true rfl, Nat.le_of_ble_eq_true rfl⟩) (zz_pV (zz_pre (av := [.ref h, .int (nI x)]) (tyc := [(cB, .byte)]) (wc := [(h, .inr (1, [.ref d, .int 0, .int ml, .int (nI n)])), (d, .inl (cB, k, .inl f))]) (X := fun _ _ => True) (Xc := (fun A U => zz_G A U)) hP hD hK hS [0, 1] [0] rfl (by decide) rfl zz_St_G (fun U h1 h2 => hO0 U h1 h2)) (va_recv hK hP (ci := 1) (q0 := 0) rfl rfl)) rfl rfl hl.1 rfl (lv_room (Nat.le_of_ble_eq_true rfl)) dJ4_append_bf812_2 ⟨by show 0 + 1 ≤ 1; omega, by show 0 + 1500 ≤ 1500; omega⟩) hP hD hK hS hFc [0, 1] [] rfl rfl (by decide) (by decide) (fun v w1 ty1 H1 locs hq9 hz9 hk9 hP1 hD1 hK1 hS1 => ?_)
  obtain ⟨d2_1, cA2_2, f2_3, h_4, rfl, rfl, rfl⟩ := hq9
  clear hS hP hD hK hFc hO0
  have hP : va_P D vwCl [(h, .inr (1, [.ref d2_1, .int 0, .int ml, .int (nI (n + 2))])), (d2_1, .inl (cA2_2, (zz_cap (n + 2) k), .inl f2_3))] H1 := hP1
  have hD : va_D A [(h, .inr (1, [.ref d2_1, .int 0, .int ml, .int (nI (n + 2))])), (d2_1, .inl (cA2_2, (zz_cap (n + 2) k), .inl f2_3))] := hD1
  have hK : va_K D vwCl [(cB, .byte), (cA2_2, .byte)] s := hK1
  have hS := hS1
  clear hP1 hD1 hK1 hS1
  obtain ⟨H, rfl⟩ : ∃ z, z = H1 := ⟨_, rfl⟩
  refine W.eq (g2 := F0 mt0 5 ls [.ref h]) rfl ?_
  refine lv_pop hx hb dJ4_append_bf812_5 rfl ?_
  refine lv_aload_n hx hb dJ4_append_bf812_6 rfl (lv_at hl 0 rfl) ?_
  have hP9 := hP.sub (ws' := [(h, .inr (1, [.ref d2_1, .int 0, .int ml, .int (nI (n + 2))])), (d2_1, .inl (cA2_2, (zz_cap (n + 2) k), .inl f2_3))]) [0, 1] rfl
  have hD9 := hD.sub (ws' := [(h, .inr (1, [.ref d2_1, .int 0, .int ml, .int (nI (n + 2))])), (d2_1, .inl (cA2_2, (zz_cap (n + 2) k), .inl f2_3))]) [0, 1] (by decide) rfl
  have hK9 := hK.sub (tys' := [(cA2_2, .byte)]) [1] rfl
  refine W.widen (k := 1) (n := 1500) (by show 0 + 1 ≤ 1; omega) (by show 0 + 1500 ≤ 1500; omega) ?_
  exact W.aret (v := .ref h) hx hb hr (Or.inl ⟨_, rfl⟩) (Or.inr ⟨_, rfl⟩) (zz_end hP9 hD9 hK9 hS (⟨_, _, _, h_4, rfl, rfl, rfl⟩)) hS.2.2 dJ4_append_bf812_7
end
section
set_option maxHeartbeats 4000000 in
set_option maxRecDepth 100000 in
theorem k_J5_init_d00df (l : Launch) (D : va_G) (h : Nat) : zz_M l yJ5_init_d00df wsJ5_init_d00df ({ frames := 2, cells := 1, slots := 16, locals := 100 }) D [.ref h, .int 16] [] [(h, .inr (1, [.null, .int 0, .int 0, .int 0]))] (fun A U => zz_G A U) (fun H0 H1 v w t => ∃ d2 : Nat, ∃ cA2 : ClassId, v = none ∧ w = [(h, .inr (1, [.ref d2, .int 0, .int 0, .int (nI 0)])), (d2, .inl (cA2, 16, .inl (fun _ => 0)))] ∧ t = [(cA2, .byte)]) := by
  refine zz_M.mk (cc := cJ5_init_d00df) (maxL := 2) (ret := none) (by decide) rfl (Nat.le_of_ble_eq_true rfl) ?_
  intro p0 e0 s mt0 bl0 meth0 cd0 ls hC hname hP hK hD hX hl
  obtain ⟨hx, hb, hml, hr, hown, hts, hlocks⟩ := hC
  have hX0 := hX
  generalize hAe : va_A [(h, .inr (1, [.null, .int 0, .int 0, .int 0]))] s.heap.size = A at *
  have hA : ∀ q : Nat, s.heap.size ≤ q → A q := fun q h => by rw [← hAe]; exact Or.inr h
  obtain ⟨H, hHs⟩ : ∃ z : Heap, z = s.heap := ⟨_, rfl⟩
  rw [← hHs] at hP ⊢
  have hS : va_S A s.heap H [] := by rw [hHs]; exact va_S.rf
  have hl : lv_has ls 2 [(0, .ref h), (1, .int 16)] := hl
  refine lv_aload_n hx hb dJ5_init_d00df_0 rfl (lv_at hl 0 rfl) ?_
  refine W.objInit hx hb hown (hts (.methodLink RJ5 3 objectInit) (by decide +kernel)) (hts (.instanceMethod objectInit) (by decide +kernel)) (hts (.code objectInit ⟨#[0xb1]⟩ 1 none) (by decide +kernel)) rfl (by rw [hml]; exact hl.1) rfl dJ5_init_d00df_1 (Nat.le_of_ble_eq_true rfl) (Nat.le_of_ble_eq_true rfl) ?_
  refine W.eq (g2 := F0 mt0 4 ls []) rfl ?_
  refine va_gets hx hb (hX0.1) hS hown (hts (.fieldLink RJ5 18 "java/lang/String" "COMPACT_STRINGS" "Z") (by decide +kernel)) (fun _ h9 => h9) dJ5_init_d00df_4 ?_
  refine lv_if_eq (tgt := 25) hx hb dJ5_init_d00df_7 (by decide) (fun c_1 => absurd c_1 (by decide)) (fun c_1 => ?_)
  refine lv_aload_n hx hb dJ5_init_d00df_10 rfl (lv_at hl 0 rfl) ?_
  refine lv_iload_n hx hb dJ5_init_d00df_11 rfl (lv_at hl 1 rfl) ?_
  refine va_newa (atype := .byte) hx hb (hts (.arrayClass .byte) (by decide +kernel)) rfl hK hP hD hS hA (N' := 16) (a0 := (16, .inl (fun _ => 0))) (fun _ => rfl) (by decide) (by decide) (by decide) (by show 0 + 1 ≤ 1; omega) (by show 0 + 16 ≤ 16; omega) dJ5_init_d00df_12 (fun q_2 cA_3 H hK hP hD hS => ?_)
  have hK : va_K D vwCl [(cA_3, .byte)] s := hK
  have hP : va_P D vwCl [(h, .inr (1, [.null, .int 0, .int 0, .int 0])), (q_2, .inl (cA_3, 16, .inl (fun _ => 0)))] H := hP
  have hD : va_D A [(h, .inr (1, [.null, .int 0, .int 0, .int 0])), (q_2, .inl (cA_3, 16, .inl (fun _ => 0)))] := hD
  refine va_put (D := D) (ci := 1) (v := .ref q_2) (ty := .array .byte) (C := RJ4) (T := TJ4) (N := 4) hx hb hts (by decide +kernel) tyJ4 tyJ4_ok nmJ4 hown hK hP hD hS 0 rfl rfl 0 (by decide) (hts (.fieldLink RJ5 15 "java/lang/AbstractStringBuilder" "value" "[B") (by decide +kernel)) (fun _ h9 => h9) rfl (by decide +kernel) rfl rfl (Nat.le_of_ble_eq_true rfl) dJ5_init_d00df_14 (fun H locs hP hD hS => ?_)
  have hP : va_P D vwCl [(h, .inr (1, [.ref q_2, .int 0, .int 0, .int 0])), (q_2, .inl (cA_3, 16, .inl (fun _ => 0)))] H := hP
  have hD : va_D A [(h, .inr (1, [.ref q_2, .int 0, .int 0, .int 0])), (q_2, .inl (cA_3, 16, .inl (fun _ => 0)))] := hD
  refine lv_aload_n hx hb dJ5_init_d00df_17 rfl (lv_at hl 0 rfl) ?_
  refine lv_iconst (v := 0) hx hb dJ5_init_d00df_18 (by decide) ?_
  refine va_put (D := D) (ci := 1) (v := .int 0) (ty := .byte) (C := RJ4) (T := TJ4) (N := 4) hx hb hts (by decide +kernel) tyJ4 tyJ4_ok nmJ4 hown hK hP hD hS 0 rfl rfl 1 (by decide) (hts (.fieldLink RJ5 22 "java/lang/AbstractStringBuilder" "coder" "B") (by decide +kernel)) (fun _ h9 => h9) rfl (by decide +kernel) rfl rfl (Nat.le_of_ble_eq_true rfl) dJ5_init_d00df_19 (fun H locs hP hD hS => ?_)
  have hP : va_P D vwCl [(h, .inr (1, [.ref q_2, .int 0, .int 0, .int 0])), (q_2, .inl (cA_3, 16, .inl (fun _ => 0)))] H := hP
  have hD : va_D A [(h, .inr (1, [.ref q_2, .int 0, .int 0, .int 0])), (q_2, .inl (cA_3, 16, .inl (fun _ => 0)))] := hD
  refine lv_goto (tgt := 38) hx hb dJ5_init_d00df_22 (by decide) ?_
  have hP9 := hP.sub (ws' := [(h, .inr (1, [.ref q_2, .int 0, .int 0, .int 0])), (q_2, .inl (cA_3, 16, .inl (fun _ => 0)))]) [0, 1] rfl
  have hD9 := hD.sub (ws' := [(h, .inr (1, [.ref q_2, .int 0, .int 0, .int 0])), (q_2, .inl (cA_3, 16, .inl (fun _ => 0)))]) [0, 1] (by decide) rfl
  have hK9 := hK.sub (tys' := [(cA_3, .byte)]) [0] rfl
  refine W.widen (k := 1) (n := 16) (by show 0 + 1 ≤ 1; omega) (by show 0 + 16 ≤ 16; omega) ?_
  exact W.vret hx hb hr (zz_end hP9 hD9 hK9 hS (⟨_, _, rfl, rfl, rfl⟩)) hS.2.2 dJ5_init_d00df_38
set_option maxHeartbeats 4000000 in
set_option maxRecDepth 100000 in
theorem k_J4_init_da8c8 (l : Launch) (D : va_G) (h : Nat) : zz_M l yJ4_init_da8c8 wsJ4_init_da8c8 ({ frames := 3, cells := 1, slots := 16, locals := 200 }) D [.ref h] [] [(h, .inr (1, [.null, .int 0, .int 0, .int 0]))] (fun A U => zz_G A U) (fun H0 H1 v w t => ∃ d2 : Nat, ∃ cA2 : ClassId, v = none ∧ w = [(h, .inr (1, [.ref d2, .int 0, .int 0, .int (nI 0)])), (d2, .inl (cA2, 16, .inl (fun _ => 0)))] ∧ t = [(cA2, .byte)]) := by
  refine zz_M.mk (cc := cJ4_init_da8c8) (maxL := 1) (ret := none) (by decide) rfl (Nat.le_of_ble_eq_true rfl) ?_
  intro p0 e0 s mt0 bl0 meth0 cd0 ls hC hname hP hK hD hX hl
  obtain ⟨hx, hb, hml, hr, hown, hts, hlocks⟩ := hC
  have hX0 := hX
  generalize hAe : va_A [(h, .inr (1, [.null, .int 0, .int 0, .int 0]))] s.heap.size = A at *
  have hA : ∀ q : Nat, s.heap.size ≤ q → A q := fun q h => by rw [← hAe]; exact Or.inr h
  obtain ⟨H, hHs⟩ : ∃ z : Heap, z = s.heap := ⟨_, rfl⟩
  rw [← hHs] at hP ⊢
  have hS : va_S A s.heap H [] := by rw [hHs]; exact va_S.rf
  have hl : lv_has ls 1 [(0, .ref h)] := hl
  refine lv_aload_n hx hb dJ4_init_da8c8_0 rfl (lv_at hl 0 rfl) ?_
  refine lv_bipush (v := 16) hx hb dJ4_init_da8c8_1 (by decide) ?_
  have hFc := va_free (wc := [(h, .inr (1, [.null, .int 0, .int 0, .int 0]))]) hD hS hA [0] rfl
  have hO0 := zz_out zz_St_G hX0 hS hFc
  refine zz_after (wr := []) (va_runI (As := [.int 16]) (rest := []) ⟨hx, hb, hml, hown, hts⟩ ((k_J5_init_d00df l D h) H.size) (cwI 1 hts gJ4_init_da8c8_J5_init_d00df rfl rfl rfl (hts (.initialized RJ5) (by decide +kernel)) (hts (.methodLink RJ4 1 yJ5_init_d00df) (by decide +kernel)) (hts (.instanceMethod yJ5_init_d00df) (by decide +kernel)) rfl (by decide +kernel) ⟨Nat.le_of_ble_eq_true rfl, Nat.le_of_ble_eq_true rfl⟩) (zz_pre (av := [.ref h, .int 16]) (tyc := []) (wc := [(h, .inr (1, [.null, .int 0, .int 0, .int 0]))]) (X := fun _ _ => True) (Xc := (fun A U => zz_G A U)) hP hD hK hS [0] [] rfl (by decide) rfl zz_St_G (fun U h1 h2 => hO0 U h1 h2)) rfl rfl hl.1 rfl (lv_room (Nat.le_of_ble_eq_true rfl)) dJ4_init_da8c8_3 ⟨by show 0 + 1 ≤ 1; omega, by show 0 + 16 ≤ 16; omega⟩) hP hD hK hS hFc [0] [] rfl rfl (by decide) (by decide) (fun v w1 ty1 H1 locs hq9 hz9 hk9 hP1 hD1 hK1 hS1 => ?_)
  obtain ⟨d2_1, cA2_2, rfl, rfl, rfl⟩ := hq9
  clear hS hP hD hK hFc hO0
  have hP : va_P D vwCl [(h, .inr (1, [.ref d2_1, .int 0, .int 0, .int (nI 0)])), (d2_1, .inl (cA2_2, 16, .inl (fun _ => 0)))] H1 := hP1
  have hD : va_D A [(h, .inr (1, [.ref d2_1, .int 0, .int 0, .int (nI 0)])), (d2_1, .inl (cA2_2, 16, .inl (fun _ => 0)))] := hD1
  have hK : va_K D vwCl [(cA2_2, .byte)] s := hK1
  have hS := hS1
  clear hP1 hD1 hK1 hS1
  obtain ⟨H, rfl⟩ : ∃ z, z = H1 := ⟨_, rfl⟩
  refine W.eq (g2 := F0 mt0 6 ls []) rfl ?_
  have hP9 := hP.sub (ws' := [(h, .inr (1, [.ref d2_1, .int 0, .int 0, .int (nI 0)])), (d2_1, .inl (cA2_2, 16, .inl (fun _ => 0)))]) [0, 1] rfl
  have hD9 := hD.sub (ws' := [(h, .inr (1, [.ref d2_1, .int 0, .int 0, .int (nI 0)])), (d2_1, .inl (cA2_2, 16, .inl (fun _ => 0)))]) [0, 1] (by decide) rfl
  have hK9 := hK.sub (tys' := [(cA2_2, .byte)]) [0] rfl
  refine W.widen (k := 1) (n := 16) (by show 0 + 1 ≤ 1; omega) (by show 0 + 16 ≤ 16; omega) ?_
  exact W.vret hx hb hr (zz_end hP9 hD9 hK9 hS (⟨_, _, rfl, rfl, rfl⟩)) hS.2.2 dJ4_init_da8c8_6
set_option maxHeartbeats 4000000 in
set_option maxRecDepth 100000 in
theorem k_J7_checkLength_df160 (l : Launch) (D : va_G) (n : Nat) (hn : n < 2 ^ 31) : zz_M l yJ7_checkLength_df160 wsJ7_checkLength_df160 ({ frames := 1, cells := 0, slots := 0, locals := 60 }) D [.int 0, .int (nI n)] [] [] (fun _ _ => True) (fun H0 H1 v w t => v = none ∧ w = [] ∧ t = []) := by
  refine zz_M.mk (cc := cJ7_checkLength_df160) (maxL := 2) (ret := none) (by decide) rfl (Nat.le_of_ble_eq_true rfl) ?_
  intro p0 e0 s mt0 bl0 meth0 cd0 ls hC hname hP hK hD hX hl
  obtain ⟨hx, hb, hml, hr, hown, hts, hlocks⟩ := hC
  generalize hAe : va_A [] s.heap.size = A at *
  have hA : ∀ q : Nat, s.heap.size ≤ q → A q := fun q h => by rw [← hAe]; exact Or.inr h
  obtain ⟨H, hHs⟩ : ∃ z : Heap, z = s.heap := ⟨_, rfl⟩
  rw [← hHs] at hP ⊢
  have hS : va_S A s.heap H [] := by rw [hHs]; exact va_S.rf
  have hl : lv_has ls 2 [(0, .int 0), (1, .int (nI n))] := hl
  refine lv_iload_n hx hb dJ7_checkLength_df160_0 rfl (lv_at hl 1 rfl) ?_
  refine lv_iload_n hx hb dJ7_checkLength_df160_1 rfl (lv_at hl 0 rfl) ?_
  refine lv_icmp_ge (tgt := 37) hx hb dJ7_checkLength_df160_2 (by decide) (fun c_1 => ?_) (fun c_1 => absurd (nI_pos' hn) c_1)
  have hP9 := hP.sub (ws' := []) [] rfl
  have hD9 := hD.sub (ws' := []) [] (by decide) rfl
  have hK9 := hK.sub (tys' := []) [] rfl
  refine W.widen (k := 0) (n := 0) (by show 0 ≤ 0; omega) (by show 0 ≤ 0; omega) ?_
  exact W.vret hx hb hr (zz_end hP9 hD9 hK9 hS (⟨rfl, rfl, rfl⟩)) hS.2.2 dJ7_checkLength_df160_37
set_option maxHeartbeats 4000000 in
set_option maxRecDepth 100000 in
theorem k_J7_copyOfRangeByte_39247 (l : Launch) (D : va_G) (d : Nat) (k : Nat) (f : Nat → Int32) (cB : ClassId) (n : Nat) (hn : n < k) (hk : k ≤ 1500) (hf : sb_Fit f) : zz_M l yJ7_copyOfRangeByte_39247 wsJ7_copyOfRangeByte_39247 ({ frames := 2, cells := 1, slots := 1500, locals := 3000 }) D [.ref d, .int 0, .int (nI n)] [(cB, .byte)] [(d, .inl (cB, k, .inl f))] (fun _ _ => True) (fun H0 H1 v w t => ∃ q2 : Nat, ∃ cA2 : ClassId, ∃ f2 : Nat → Int32, sb_Fit f2 ∧ v = some (.ref q2) ∧ w = [(d, .inl (cB, k, .inl f)), (q2, .inl (cA2, n, .inl f2))] ∧ t = [(cB, .byte), (cA2, .byte)]) := by
  refine zz_M.mk (cc := cJ7_copyOfRangeByte_39247) (maxL := 5) (ret := (some (.array .byte))) (by decide) rfl (Nat.le_of_ble_eq_true rfl) ?_
  intro p0 e0 s mt0 bl0 meth0 cd0 ls hC hname hP hK hD hX hl
  obtain ⟨hx, hb, hml, hr, hown, hts, hlocks⟩ := hC
  generalize hAe : va_A [(d, .inl (cB, k, .inl f))] s.heap.size = A at *
  have hA : ∀ q : Nat, s.heap.size ≤ q → A q := fun q h => by rw [← hAe]; exact Or.inr h
  obtain ⟨H, hHs⟩ : ∃ z : Heap, z = s.heap := ⟨_, rfl⟩
  rw [← hHs] at hP ⊢
  have hS : va_S A s.heap H [] := by rw [hHs]; exact va_S.rf
  have hl : lv_has ls 5 [(0, .ref d), (1, .int 0), (2, .int (nI n))] := hl
  refine lv_iload_n hx hb dJ7_copyOfRangeByte_39247_0 rfl (lv_at hl 1 rfl) ?_
  refine lv_iload_n hx hb dJ7_copyOfRangeByte_39247_1 rfl (lv_at hl 2 rfl) ?_
  have hFc := va_free (wc := []) hD hS hA [] rfl
  refine zz_after (wr := [(d, .inl (cB, k, .inl f))]) (va_runS (As := [.int 0, .int (nI n)]) (rest := []) ⟨hx, hb, hml, hown, hts⟩ ((k_J7_checkLength_df160 l D n (by omega)) H.size) (va_cwS 2 hts gJ7_copyOfRangeByte_39247_J7_checkLength_df160 rfl rfl rfl (by decide +kernel) ⟨Nat.le_of_ble_eq_true rfl, Nat.le_of_ble_eq_true rfl⟩) (zz_pre (av := [.int 0, .int (nI n)]) (tyc := []) (wc := []) (X := fun _ _ => True) (Xc := (fun _ _ => True)) hP hD hK hS [] [] rfl (by decide) rfl zz_St_tt (fun _ _ _ => trivial)) rfl rfl hl.1 rfl (lv_room (Nat.le_of_ble_eq_true rfl)) dJ7_copyOfRangeByte_39247_2 ⟨by show 0 + 0 ≤ 1; omega, by show 0 + 0 ≤ 1500; omega⟩) hP hD hK hS hFc [] [0] rfl rfl (by decide) (by decide) (fun v w1 ty1 H1 locs hq9 hz9 hk9 hP1 hD1 hK1 hS1 => ?_)
  obtain ⟨rfl, rfl, rfl⟩ := hq9
  clear hS hP hD hK hFc
  have hP : va_P D vwCl [(d, .inl (cB, k, .inl f))] H1 := hP1
  have hD : va_D A [(d, .inl (cB, k, .inl f))] := hD1
  have hK : va_K D vwCl [(cB, .byte)] s := hK1
  have hS := hS1
  clear hP1 hD1 hK1 hS1
  obtain ⟨H, rfl⟩ : ∃ z, z = H1 := ⟨_, rfl⟩
  refine W.eq (g2 := F0 mt0 5 ls []) rfl ?_
  refine lv_iload_n hx hb dJ7_copyOfRangeByte_39247_5 rfl (lv_at hl 2 rfl) ?_
  refine lv_iload_n hx hb dJ7_copyOfRangeByte_39247_6 rfl (lv_at hl 1 rfl) ?_
  refine lv_isub hx hb dJ7_copyOfRangeByte_39247_7 ?_
  refine lv_topi (fun z_1 ez_1 => ?_)
  obtain rfl : z_1 = nI n := ez_1.trans (pk_sub (a := n) (b := 0) (by omega))
  refine lv_istore_n (lv' := [(3, .int (nI n)), (0, .ref d), (1, .int 0), (2, .int (nI n))]) hx hb dJ7_copyOfRangeByte_39247_8 rfl hl (by decide) rfl (fun ls hl => ?_)
  refine lv_iload_n hx hb dJ7_copyOfRangeByte_39247_9 rfl (lv_at hl 0 rfl) ?_
  refine va_newa (atype := .byte) hx hb (hts (.arrayClass .byte) (by decide +kernel)) rfl hK hP hD hS hA (N' := n) (a0 := (n, .inl (fun _ => 0))) (fun _ => rfl) (nI_pos (by omega)) (nI_clamp (by omega)) (by show _ * 1 ≤ _; omega) (by show 0 + 0 + 1 ≤ 1; omega) (by show 0 + 0 + n ≤ 1500; omega) dJ7_copyOfRangeByte_39247_10 (fun q_2 cA_3 H hK hP hD hS => ?_)
  have hK : va_K D vwCl [(cB, .byte), (cA_3, .byte)] s := hK
  have hP : va_P D vwCl [(d, .inl (cB, k, .inl f)), (q_2, .inl (cA_3, n, .inl (fun _ => 0)))] H := hP
  have hD : va_D A [(d, .inl (cB, k, .inl f)), (q_2, .inl (cA_3, n, .inl (fun _ => 0)))] := hD
  refine lv_astore (lv' := [(4, .ref q_2), (3, .int (nI n)), (0, .ref d), (1, .int 0), (2, .int (nI n))]) hx hb dJ7_copyOfRangeByte_39247_12 hl (by decide) rfl (fun ls hl => ?_)
  refine lv_aload_n hx hb dJ7_copyOfRangeByte_39247_14 rfl (lv_at hl 2 rfl) ?_
  refine lv_iload_n hx hb dJ7_copyOfRangeByte_39247_15 rfl (lv_at hl 3 rfl) ?_
  refine lv_aload hx hb dJ7_copyOfRangeByte_39247_16 (lv_at hl 0 rfl) ?_
  refine lv_iconst (v := 0) hx hb dJ7_copyOfRangeByte_39247_18 (by decide) ?_
  refine lv_aload_n hx hb dJ7_copyOfRangeByte_39247_19 rfl (lv_at hl 2 rfl) ?_
  refine va_alen hx hb hK hP 0 0 rfl rfl (v := nI k) rfl dJ7_copyOfRangeByte_39247_20 ?_
  refine lv_iload_n hx hb dJ7_copyOfRangeByte_39247_21 rfl (lv_at hl 3 rfl) ?_
  refine lv_isub hx hb dJ7_copyOfRangeByte_39247_22 ?_
  refine lv_topi (fun z_4 ez_4 => ?_)
  obtain rfl : z_4 = nI k := ez_4.trans (pk_sub (a := k) (b := 0) (by omega))
  refine lv_iload_n hx hb dJ7_copyOfRangeByte_39247_23 rfl (lv_at hl 1 rfl) ?_
  refine va_mmin hx hb (by rw [hml]; exact hl.1.symm) hown (hts (.methodLink RJ7 304 Lib.Math.min.name) (by decide +kernel)) (hts (.static Lib.Math.min.name) (by decide +kernel)) (hts (.initialized "java/lang/Math") (by decide +kernel)) (hts (.code Lib.Math.min.name Lib.Math.min.code 2 (some .int)) (by decide +kernel)) (Nat.le_of_ble_eq_true rfl) (Nat.le_of_ble_eq_true rfl) (by show 0 + 0 + 1 ≤ 1; omega) (by show 0 + 0 + n ≤ 1500; omega) dJ7_copyOfRangeByte_39247_24 ?_
  refine lv_topi (fun z_5 ez_5 => ?_)
  obtain rfl : z_5 = nI n := ez_5.trans ((zz_min (by omega) (by omega)).trans (by rw [Nat.min_eq_right (by omega)]))
  refine va_copyi hx hb (by rw [hml]; exact hl.1.symm) hown (hts (.methodLink RJ7 150 arraycopyName) (by decide +kernel)) (hts (.native arraycopyName) (by decide +kernel)) (hts (.static arraycopyName) (by decide +kernel)) (hts (.initialized "java/lang/System") (by decide +kernel)) hK hP hD hS 0 1 0 1 (ty := .byte) rfl rfl rfl rfl rfl (by decide) (by decide) (nI_pos (by omega)) (by rw [nI_clamp (by omega), sb_cl0]; omega) (by rw [nI_clamp (by omega), sb_cl0]; omega) (fun i _ => hf _) (Nat.le_of_ble_eq_true rfl) (Nat.le_of_ble_eq_true rfl) dJ7_copyOfRangeByte_39247_27 (fun H locs hP hD hS => ?_)
  have hP : va_P D vwCl [(d, .inl (cB, k, .inl f)), (q_2, .inl (cA_3, n, .inl (va_cpy f (fun _ => 0) (0 : Int32).toNatClampNeg (0 : Int32).toNatClampNeg (nI n : Int32).toNatClampNeg)))] H := hP
  have hD : va_D A [(d, .inl (cB, k, .inl f)), (q_2, .inl (cA_3, n, .inl (va_cpy f (fun _ => 0) (0 : Int32).toNatClampNeg (0 : Int32).toNatClampNeg (nI n : Int32).toNatClampNeg)))] := hD
  refine lv_aload hx hb dJ7_copyOfRangeByte_39247_30 (lv_at hl 0 rfl) ?_
  have hP9 := hP.sub (ws' := [(d, .inl (cB, k, .inl f)), (q_2, .inl (cA_3, n, .inl (va_cpy f (fun _ => 0) (0 : Int32).toNatClampNeg (0 : Int32).toNatClampNeg (nI n : Int32).toNatClampNeg)))]) [0, 1] rfl
  have hD9 := hD.sub (ws' := [(d, .inl (cB, k, .inl f)), (q_2, .inl (cA_3, n, .inl (va_cpy f (fun _ => 0) (0 : Int32).toNatClampNeg (0 : Int32).toNatClampNeg (nI n : Int32).toNatClampNeg)))]) [0, 1] (by decide) rfl
  have hK9 := hK.sub (tys' := [(cB, .byte), (cA_3, .byte)]) [0, 1] rfl
  refine W.widen (k := 1) (n := 1500) (by show 0 + 0 + 1 ≤ 1; omega) (by show 0 + 0 + n ≤ 1500; omega) ?_
  exact W.aret (v := .ref q_2) hx hb hr (Or.inr ⟨_, rfl⟩) (Or.inr ⟨_, rfl⟩) (zz_end hP9 hD9 hK9 hS (⟨_, _, _, sb_fitC hf sb_fit0, rfl, rfl, rfl⟩)) hS.2.2 dJ7_copyOfRangeByte_39247_32
set_option maxHeartbeats 4000000 in
set_option maxRecDepth 100000 in
theorem k_J7_copyOfRange_39247 (l : Launch) (D : va_G) (d : Nat) (k : Nat) (f : Nat → Int32) (cB : ClassId) (n : Nat) (hn : n < k) (hk : k ≤ 1500) (hf : sb_Fit f) : zz_M l yJ7_copyOfRange_39247 wsJ7_copyOfRange_39247 ({ frames := 3, cells := 1, slots := 1500, locals := 3100 }) D [.ref d, .int 0, .int (nI n)] [(cB, .byte)] [(d, .inl (cB, k, .inl f))] (fun _ _ => True) (fun H0 H1 v w t => ∃ q2 : Nat, ∃ cA2 : ClassId, ∃ f2 : Nat → Int32, sb_Fit f2 ∧ v = some (.ref q2) ∧ w = [(d, .inl (cB, k, .inl f)), (q2, .inl (cA2, n, .inl f2))] ∧ t = [(cB, .byte), (cA2, .byte)]) := by
  refine zz_M.mk (cc := cJ7_copyOfRange_39247) (maxL := 3) (ret := (some (.array .byte))) (by decide) rfl (Nat.le_of_ble_eq_true rfl) ?_
  intro p0 e0 s mt0 bl0 meth0 cd0 ls hC hname hP hK hD hX hl
  obtain ⟨hx, hb, hml, hr, hown, hts, hlocks⟩ := hC
  generalize hAe : va_A [(d, .inl (cB, k, .inl f))] s.heap.size = A at *
  have hA : ∀ q : Nat, s.heap.size ≤ q → A q := fun q h => by rw [← hAe]; exact Or.inr h
  obtain ⟨H, hHs⟩ : ∃ z : Heap, z = s.heap := ⟨_, rfl⟩
  rw [← hHs] at hP ⊢
  have hS : va_S A s.heap H [] := by rw [hHs]; exact va_S.rf
  have hl : lv_has ls 3 [(0, .ref d), (1, .int 0), (2, .int (nI n))] := hl
  refine lv_iload_n hx hb dJ7_copyOfRange_39247_0 rfl (lv_at hl 1 rfl) ?_
  refine lv_if_ne (tgt := 10) hx hb dJ7_copyOfRange_39247_1 (by decide) (fun c_1 => absurd (rfl) c_1) (fun c_1 => ?_)
  refine lv_iload_n hx hb dJ7_copyOfRange_39247_4 rfl (lv_at hl 2 rfl) ?_
  refine lv_aload_n hx hb dJ7_copyOfRange_39247_5 rfl (lv_at hl 0 rfl) ?_
  refine va_alen hx hb hK hP 0 0 rfl rfl (v := nI k) rfl dJ7_copyOfRange_39247_6 ?_
  refine lv_icmp_eq (tgt := 17) hx hb dJ7_copyOfRange_39247_7 (by decide) (fun c_2 => absurd c_2 (fun z9 => by have := (nI_eq (by omega) (by omega)).mp z9; omega)) (fun c_2 => ?_)
  refine lv_aload_n hx hb dJ7_copyOfRange_39247_10 rfl (lv_at hl 0 rfl) ?_
  refine lv_iload_n hx hb dJ7_copyOfRange_39247_11 rfl (lv_at hl 1 rfl) ?_
  refine lv_iload_n hx hb dJ7_copyOfRange_39247_12 rfl (lv_at hl 2 rfl) ?_
  have hFc := va_free (wc := [(d, .inl (cB, k, .inl f))]) hD hS hA [0] rfl
  refine zz_after (wr := []) (va_runS (As := [.ref d, .int 0, .int (nI n)]) (rest := []) ⟨hx, hb, hml, hown, hts⟩ ((k_J7_copyOfRangeByte_39247 l D d k f cB n (hn) (hk) (hf)) H.size) (va_cwS 3 hts gJ7_copyOfRange_39247_J7_copyOfRangeByte_39247 rfl rfl rfl (by decide +kernel) ⟨Nat.le_of_ble_eq_true rfl, Nat.le_of_ble_eq_true rfl⟩) (zz_pre (av := [.ref d, .int 0, .int (nI n)]) (tyc := [(cB, .byte)]) (wc := [(d, .inl (cB, k, .inl f))]) (X := fun _ _ => True) (Xc := (fun _ _ => True)) hP hD hK hS [0] [0] rfl (by decide) rfl zz_St_tt (fun _ _ _ => trivial)) rfl rfl hl.1 rfl (lv_room (Nat.le_of_ble_eq_true rfl)) dJ7_copyOfRange_39247_13 ⟨by show 0 + 1 ≤ 1; omega, by show 0 + 1500 ≤ 1500; omega⟩) hP hD hK hS hFc [0] [] rfl rfl (by decide) (by decide) (fun v w1 ty1 H1 locs hq9 hz9 hk9 hP1 hD1 hK1 hS1 => ?_)
  obtain ⟨q2_3, cA2_4, f2_5, h_6, rfl, rfl, rfl⟩ := hq9
  clear hS hP hD hK hFc
  have hP : va_P D vwCl [(d, .inl (cB, k, .inl f)), (q2_3, .inl (cA2_4, n, .inl f2_5))] H1 := hP1
  have hD : va_D A [(d, .inl (cB, k, .inl f)), (q2_3, .inl (cA2_4, n, .inl f2_5))] := hD1
  have hK : va_K D vwCl [(cB, .byte), (cB, .byte), (cA2_4, .byte)] s := hK1
  have hS := hS1
  clear hP1 hD1 hK1 hS1
  obtain ⟨H, rfl⟩ : ∃ z, z = H1 := ⟨_, rfl⟩
  refine W.eq (g2 := F0 mt0 16 ls [.ref q2_3]) rfl ?_
  have hP9 := hP.sub (ws' := [(d, .inl (cB, k, .inl f)), (q2_3, .inl (cA2_4, n, .inl f2_5))]) [0, 1] rfl
  have hD9 := hD.sub (ws' := [(d, .inl (cB, k, .inl f)), (q2_3, .inl (cA2_4, n, .inl f2_5))]) [0, 1] (by decide) rfl
  have hK9 := hK.sub (tys' := [(cB, .byte), (cA2_4, .byte)]) [0, 2] rfl
  refine W.widen (k := 1) (n := 1500) (by show 0 + 1 ≤ 1; omega) (by show 0 + 1500 ≤ 1500; omega) ?_
  exact W.aret (v := .ref q2_3) hx hb hr (Or.inr ⟨_, rfl⟩) (Or.inr ⟨_, rfl⟩) (zz_end hP9 hD9 hK9 hS (⟨_, _, _, h_6, rfl, rfl, rfl⟩)) hS.2.2 dJ7_copyOfRange_39247_16
set_option maxHeartbeats 4000000 in
set_option maxRecDepth 100000 in
theorem k_J0_init_db425 (l : Launch) (D : va_G) (u0 : Nat) (h : Nat) (d : Nat) (ml : Int32) (n : Nat) (k : Nat) (f : Nat → Int32) (cB : ClassId) (hn : n < k) (hk : k ≤ 1500) (hf : sb_Fit f) : zz_M l yJ0_init_db425 wsJ0_init_db425 ({ frames := 4, cells := 1, slots := 1500, locals := 3200 }) D [.ref u0, .ref h, .null] [(cB, .byte)] [(u0, .inr (0, [.null, .int 0, .int 0, .int 0])), (h, .inr (1, [.ref d, .int 0, .int ml, .int (nI n)])), (d, .inl (cB, k, .inl f))] (fun A U => zz_G A U) (fun H0 H1 v w t => ∃ b2 : Nat, ∃ cA2 : ClassId, ∃ f2 : Nat → Int32, sb_Fit f2 ∧ v = none ∧ w = [(u0, .inr (0, [.ref b2, .int 0, .int 0, .int 0])), (h, .inr (1, [.ref d, .int 0, .int ml, .int (nI n)])), (d, .inl (cB, k, .inl f)), (b2, .inl (cA2, n, .inl f2))] ∧ t = [(cB, .byte), (cA2, .byte)]) := by
  refine zz_M.mk (cc := cJ0_init_db425) (maxL := 5) (ret := none) (by decide) rfl (Nat.le_of_ble_eq_true rfl) ?_
  intro p0 e0 s mt0 bl0 meth0 cd0 ls hC hname hP hK hD hX hl
  obtain ⟨hx, hb, hml, hr, hown, hts, hlocks⟩ := hC
  have hX0 := hX
  generalize hAe : va_A [(u0, .inr (0, [.null, .int 0, .int 0, .int 0])), (h, .inr (1, [.ref d, .int 0, .int ml, .int (nI n)])), (d, .inl (cB, k, .inl f))] s.heap.size = A at *
  have hA : ∀ q : Nat, s.heap.size ≤ q → A q := fun q h => by rw [← hAe]; exact Or.inr h
  obtain ⟨H, hHs⟩ : ∃ z : Heap, z = s.heap := ⟨_, rfl⟩
  rw [← hHs] at hP ⊢
  have hS : va_S A s.heap H [] := by rw [hHs]; exact va_S.rf
  have hl : lv_has ls 5 [(0, .ref u0), (1, .ref h), (2, .null)] := hl
  refine lv_aload_n hx hb dJ0_init_db425_0 rfl (lv_at hl 0 rfl) ?_
  refine W.objInit hx hb hown (hts (.methodLink RJ0 1 objectInit) (by decide +kernel)) (hts (.instanceMethod objectInit) (by decide +kernel)) (hts (.code objectInit ⟨#[0xb1]⟩ 1 none) (by decide +kernel)) rfl (by rw [hml]; exact hl.1) rfl dJ0_init_db425_1 (Nat.le_of_ble_eq_true rfl) (Nat.le_of_ble_eq_true rfl) ?_
  refine W.eq (g2 := F0 mt0 4 ls []) rfl ?_
  refine lv_aload_n hx hb dJ0_init_db425_4 rfl (lv_at hl 1 rfl) ?_
  have hFc := va_free (wc := [(h, .inr (1, [.ref d, .int 0, .int ml, .int (nI n)])), (d, .inl (cB, k, .inl f))]) hD hS hA [1, 2] rfl
  refine zz_after (wr := [(u0, .inr (0, [.null, .int 0, .int 0, .int 0]))]) (va_runU (As := []) (rest := []) ⟨hx, hb, hml, hown, hts⟩ ((k_J5_getValue_6d5f1 l D h d ml n k f cB) H.size) (va_cwU 0 hts gJ0_init_db425_J5_getValue_6d5f1_u552J4 rfl rfl rfl rfl (by decide +kernel) ⟨Nat.le_of_ble_eq_true rfl, Nat.le_of_ble_eq_true rfl⟩) (zz_pV (zz_pre (av := [.ref h]) (tyc := [(cB, .byte)]) (wc := [(h, .inr (1, [.ref d, .int 0, .int ml, .int (nI n)])), (d, .inl (cB, k, .inl f))]) (X := fun _ _ => True) (Xc := (fun _ _ => True)) hP hD hK hS [1, 2] [0] rfl (by decide) rfl zz_St_tt (fun _ _ _ => trivial)) (va_recv hK hP (ci := 1) (q0 := 1) rfl rfl)) rfl rfl hl.1 rfl (lv_room (Nat.le_of_ble_eq_true rfl)) dJ0_init_db425_5 ⟨by show 0 + 0 ≤ 1; omega, by show 0 + 0 ≤ 1500; omega⟩) hP hD hK hS hFc [1, 2] [0] rfl rfl (by decide) (by decide) (fun v w1 ty1 H1 locs hq9 hz9 hk9 hP1 hD1 hK1 hS1 => ?_)
  obtain ⟨rfl, rfl, rfl⟩ := hq9
  clear hS hP hD hK hFc
  have hP : va_P D vwCl [(u0, .inr (0, [.null, .int 0, .int 0, .int 0])), (h, .inr (1, [.ref d, .int 0, .int ml, .int (nI n)])), (d, .inl (cB, k, .inl f))] H1 := hP1
  have hD : va_D A [(u0, .inr (0, [.null, .int 0, .int 0, .int 0])), (h, .inr (1, [.ref d, .int 0, .int ml, .int (nI n)])), (d, .inl (cB, k, .inl f))] := hD1
  have hK : va_K D vwCl [(cB, .byte), (cB, .byte)] s := hK1
  have hS := hS1
  clear hP1 hD1 hK1 hS1
  obtain ⟨H, rfl⟩ : ∃ z, z = H1 := ⟨_, rfl⟩
  refine W.eq (g2 := F0 mt0 8 ls [.ref d]) rfl ?_
  refine lv_astore_n (lv' := [(3, .ref d), (0, .ref u0), (1, .ref h), (2, .null)]) hx hb dJ0_init_db425_8 rfl hl (by decide) rfl (fun ls hl => ?_)
  refine lv_aload_n hx hb dJ0_init_db425_9 rfl (lv_at hl 2 rfl) ?_
  have hFc := va_free (wc := [(h, .inr (1, [.ref d, .int 0, .int ml, .int (nI n)])), (d, .inl (cB, k, .inl f))]) hD hS hA [1, 2] rfl
  refine zz_after (wr := [(u0, .inr (0, [.null, .int 0, .int 0, .int 0]))]) (va_runU (As := []) (rest := []) ⟨hx, hb, hml, hown, hts⟩ ((k_J4_length_8abf5 l D h d ml n k f cB) H.size) (va_cwO (b0 := cJ5_length_8abf5) (m0 := 1) (r0 := (some .int)) 0 hts gJ0_init_db425_J4_length_8abf5_u549J4 rfl rfl rfl (by decide +kernel) (by decide +kernel) ⟨Nat.le_of_ble_eq_true rfl, Nat.le_of_ble_eq_true rfl⟩) (zz_pV (zz_pre (av := [.ref h]) (tyc := [(cB, .byte)]) (wc := [(h, .inr (1, [.ref d, .int 0, .int ml, .int (nI n)])), (d, .inl (cB, k, .inl f))]) (X := fun _ _ => True) (Xc := (fun _ _ => True)) hP hD hK hS [1, 2] [0] rfl (by decide) rfl zz_St_tt (fun _ _ _ => trivial)) (va_recv hK hP (ci := 1) (q0 := 1) rfl rfl)) rfl rfl hl.1 rfl (lv_room (Nat.le_of_ble_eq_true rfl)) dJ0_init_db425_10 ⟨by show 0 + 0 + 0 ≤ 1; omega, by show 0 + 0 + 0 ≤ 1500; omega⟩) hP hD hK hS hFc [1, 2] [0] rfl rfl (by decide) (by decide) (fun v w1 ty1 H1 locs hq9 hz9 hk9 hP1 hD1 hK1 hS1 => ?_)
  obtain ⟨rfl, rfl, rfl⟩ := hq9
  clear hS hP hD hK hFc
  have hP : va_P D vwCl [(u0, .inr (0, [.null, .int 0, .int 0, .int 0])), (h, .inr (1, [.ref d, .int 0, .int ml, .int (nI n)])), (d, .inl (cB, k, .inl f))] H1 := hP1
  have hD : va_D A [(u0, .inr (0, [.null, .int 0, .int 0, .int 0])), (h, .inr (1, [.ref d, .int 0, .int ml, .int (nI n)])), (d, .inl (cB, k, .inl f))] := hD1
  have hK : va_K D vwCl [(cB, .byte), (cB, .byte), (cB, .byte)] s := hK1
  have hS := hS1
  clear hP1 hD1 hK1 hS1
  obtain ⟨H, rfl⟩ : ∃ z, z = H1 := ⟨_, rfl⟩
  refine W.eq (g2 := F0 mt0 13 ls [.int (nI n)]) rfl ?_
  refine lv_istore (lv' := [(4, .int (nI n)), (3, .ref d), (0, .ref u0), (1, .ref h), (2, .null)]) hx hb dJ0_init_db425_13 hl (by decide) rfl (fun ls hl => ?_)
  refine lv_aload_n hx hb dJ0_init_db425_15 rfl (lv_at hl 3 rfl) ?_
  have hFc := va_free (wc := [(h, .inr (1, [.ref d, .int 0, .int ml, .int (nI n)])), (d, .inl (cB, k, .inl f))]) hD hS hA [1, 2] rfl
  have hO0 := zz_out zz_St_G hX0 hS hFc
  refine zz_after (wr := [(u0, .inr (0, [.null, .int 0, .int 0, .int 0]))]) (va_runU (As := []) (rest := []) ⟨hx, hb, hml, hown, hts⟩ ((k_J5_isLatin1_aae02 l D h d ml n k f cB) H.size) (va_cwU 0 hts gJ0_init_db425_J5_isLatin1_aae02_u1047J4 rfl rfl rfl rfl (by decide +kernel) ⟨Nat.le_of_ble_eq_true rfl, Nat.le_of_ble_eq_true rfl⟩) (zz_pV (zz_pre (av := [.ref h]) (tyc := [(cB, .byte)]) (wc := [(h, .inr (1, [.ref d, .int 0, .int ml, .int (nI n)])), (d, .inl (cB, k, .inl f))]) (X := fun _ _ => True) (Xc := (fun A U => zz_G A U)) hP hD hK hS [1, 2] [0] rfl (by decide) rfl zz_St_G (fun U h1 h2 => hO0 U h1 h2)) (va_recv hK hP (ci := 1) (q0 := 1) rfl rfl)) rfl rfl hl.1 rfl (lv_room (Nat.le_of_ble_eq_true rfl)) dJ0_init_db425_16 ⟨by show 0 + 0 + 0 + 0 ≤ 1; omega, by show 0 + 0 + 0 + 0 ≤ 1500; omega⟩) hP hD hK hS hFc [1, 2] [0] rfl rfl (by decide) (by decide) (fun v w1 ty1 H1 locs hq9 hz9 hk9 hP1 hD1 hK1 hS1 => ?_)
  obtain ⟨rfl, rfl, rfl⟩ := hq9
  clear hS hP hD hK hFc hO0
  have hP : va_P D vwCl [(u0, .inr (0, [.null, .int 0, .int 0, .int 0])), (h, .inr (1, [.ref d, .int 0, .int ml, .int (nI n)])), (d, .inl (cB, k, .inl f))] H1 := hP1
  have hD : va_D A [(u0, .inr (0, [.null, .int 0, .int 0, .int 0])), (h, .inr (1, [.ref d, .int 0, .int ml, .int (nI n)])), (d, .inl (cB, k, .inl f))] := hD1
  have hK : va_K D vwCl [(cB, .byte), (cB, .byte), (cB, .byte), (cB, .byte)] s := hK1
  have hS := hS1
  clear hP1 hD1 hK1 hS1
  obtain ⟨H, rfl⟩ : ∃ z, z = H1 := ⟨_, rfl⟩
  refine W.eq (g2 := F0 mt0 19 ls [.int 1]) rfl ?_
  refine lv_if_eq (tgt := 41) hx hb dJ0_init_db425_19 (by decide) (fun c_1 => absurd c_1 (by decide)) (fun c_1 => ?_)
  refine lv_aload_n hx hb dJ0_init_db425_22 rfl (lv_at hl 2 rfl) ?_
  refine lv_iconst (v := 0) hx hb dJ0_init_db425_23 (by decide) ?_
  refine va_putF (D := D) (ci := 0) (v := .int 0) (ty := .byte) (C := RJ0) (T := TJ0) (N := 4) hx hb hts (by decide +kernel) tyJ0 tyJ0_ok nmJ0 hown hK hP hD hS 0 rfl rfl 1 (by decide) (hts (.fieldLink RJ0 15 "java/lang/String" "coder" "B") (by decide +kernel)) (fun _ h9 => h9) rfl hname rfl (by decide +kernel) rfl rfl (Nat.le_of_ble_eq_true rfl) dJ0_init_db425_24 (fun H locs hP hD hS => ?_)
  have hP : va_P D vwCl [(u0, .inr (0, [.null, .int 0, .int 0, .int 0])), (h, .inr (1, [.ref d, .int 0, .int ml, .int (nI n)])), (d, .inl (cB, k, .inl f))] H := hP
  have hD : va_D A [(u0, .inr (0, [.null, .int 0, .int 0, .int 0])), (h, .inr (1, [.ref d, .int 0, .int ml, .int (nI n)])), (d, .inl (cB, k, .inl f))] := hD
  refine lv_aload_n hx hb dJ0_init_db425_27 rfl (lv_at hl 2 rfl) ?_
  refine lv_aload_n hx hb dJ0_init_db425_28 rfl (lv_at hl 1 rfl) ?_
  refine lv_iconst (v := 0) hx hb dJ0_init_db425_29 (by decide) ?_
  refine lv_iload hx hb dJ0_init_db425_30 (lv_at hl 0 rfl) ?_
  have hFc := va_free (wc := [(d, .inl (cB, k, .inl f))]) hD hS hA [2] rfl
  refine zz_after (wr := [(u0, .inr (0, [.null, .int 0, .int 0, .int 0])), (h, .inr (1, [.ref d, .int 0, .int ml, .int (nI n)]))]) (va_runS (As := [.ref d, .int 0, .int (nI n)]) (rest := [.ref u0]) ⟨hx, hb, hml, hown, hts⟩ ((k_J7_copyOfRange_39247 l D d k f cB n (hn) (hk) (hf)) H.size) (va_cwS 3 hts gJ0_init_db425_J7_copyOfRange_39247 rfl rfl rfl (by decide +kernel) ⟨Nat.le_of_ble_eq_true rfl, Nat.le_of_ble_eq_true rfl⟩) (zz_pre (av := [.ref d, .int 0, .int (nI n)]) (tyc := [(cB, .byte)]) (wc := [(d, .inl (cB, k, .inl f))]) (X := fun _ _ => True) (Xc := (fun _ _ => True)) hP hD hK hS [2] [0] rfl (by decide) rfl zz_St_tt (fun _ _ _ => trivial)) rfl rfl hl.1 rfl (lv_room (Nat.le_of_ble_eq_true rfl)) dJ0_init_db425_32 ⟨by show 0 + 0 + 0 + 0 + 1 ≤ 1; omega, by show 0 + 0 + 0 + 0 + 1500 ≤ 1500; omega⟩) hP hD hK hS hFc [2] [0, 1] rfl rfl (by decide) (by decide) (fun v w1 ty1 H1 locs hq9 hz9 hk9 hP1 hD1 hK1 hS1 => ?_)
  obtain ⟨q2_2, cA2_3, f2_4, h_5, rfl, rfl, rfl⟩ := hq9
  clear hS hP hD hK hFc
  have hP : va_P D vwCl [(u0, .inr (0, [.null, .int 0, .int 0, .int 0])), (h, .inr (1, [.ref d, .int 0, .int ml, .int (nI n)])), (d, .inl (cB, k, .inl f)), (q2_2, .inl (cA2_3, n, .inl f2_4))] H1 := hP1
  have hD : va_D A [(u0, .inr (0, [.null, .int 0, .int 0, .int 0])), (h, .inr (1, [.ref d, .int 0, .int ml, .int (nI n)])), (d, .inl (cB, k, .inl f)), (q2_2, .inl (cA2_3, n, .inl f2_4))] := hD1
  have hK : va_K D vwCl [(cB, .byte), (cB, .byte), (cB, .byte), (cB, .byte), (cB, .byte), (cA2_3, .byte)] s := hK1
  have hS := hS1
  clear hP1 hD1 hK1 hS1
  obtain ⟨H, rfl⟩ : ∃ z, z = H1 := ⟨_, rfl⟩
  refine W.eq (g2 := F0 mt0 35 ls [.ref q2_2, .ref u0]) rfl ?_
  refine va_putF (D := D) (ci := 0) (v := .ref q2_2) (ty := .array .byte) (C := RJ0) (T := TJ0) (N := 4) hx hb hts (by decide +kernel) tyJ0 tyJ0_ok nmJ0 hown hK hP hD hS 0 rfl rfl 0 (by decide) (hts (.fieldLink RJ0 9 "java/lang/String" "value" "[B") (by decide +kernel)) (fun _ h9 => h9) rfl hname rfl (by decide +kernel) rfl rfl (Nat.le_of_ble_eq_true rfl) dJ0_init_db425_35 (fun H locs hP hD hS => ?_)
  have hP : va_P D vwCl [(u0, .inr (0, [.ref q2_2, .int 0, .int 0, .int 0])), (h, .inr (1, [.ref d, .int 0, .int ml, .int (nI n)])), (d, .inl (cB, k, .inl f)), (q2_2, .inl (cA2_3, n, .inl f2_4))] H := hP
  have hD : va_D A [(u0, .inr (0, [.ref q2_2, .int 0, .int 0, .int 0])), (h, .inr (1, [.ref d, .int 0, .int ml, .int (nI n)])), (d, .inl (cB, k, .inl f)), (q2_2, .inl (cA2_3, n, .inl f2_4))] := hD
  refine lv_goto (tgt := 97) hx hb dJ0_init_db425_38 (by decide) ?_
  have hP9 := hP.sub (ws' := [(u0, .inr (0, [.ref q2_2, .int 0, .int 0, .int 0])), (h, .inr (1, [.ref d, .int 0, .int ml, .int (nI n)])), (d, .inl (cB, k, .inl f)), (q2_2, .inl (cA2_3, n, .inl f2_4))]) [0, 1, 2, 3] rfl
  have hD9 := hD.sub (ws' := [(u0, .inr (0, [.ref q2_2, .int 0, .int 0, .int 0])), (h, .inr (1, [.ref d, .int 0, .int ml, .int (nI n)])), (d, .inl (cB, k, .inl f)), (q2_2, .inl (cA2_3, n, .inl f2_4))]) [0, 1, 2, 3] (by decide) rfl
  have hK9 := hK.sub (tys' := [(cB, .byte), (cA2_3, .byte)]) [0, 5] rfl
  refine W.widen (k := 1) (n := 1500) (by show 0 + 0 + 0 + 0 + 1 ≤ 1; omega) (by show 0 + 0 + 0 + 0 + 1500 ≤ 1500; omega) ?_
  exact W.vret hx hb hr (zz_end hP9 hD9 hK9 hS (⟨_, _, _, h_5, rfl, rfl, rfl⟩)) hS.2.2 dJ0_init_db425_97
set_option maxHeartbeats 4000000 in
set_option maxRecDepth 100000 in
theorem k_J0_init_81219 (l : Launch) (D : va_G) (u0 : Nat) (h : Nat) (d : Nat) (ml : Int32) (n : Nat) (k : Nat) (f : Nat → Int32) (cB : ClassId) (hn : n < k) (hk : k ≤ 1500) (hf : sb_Fit f) : zz_M l yJ0_init_81219 wsJ0_init_81219 ({ frames := 5, cells := 1, slots := 1500, locals := 3300 }) D [.ref u0, .ref h] [(cB, .byte)] [(u0, .inr (0, [.null, .int 0, .int 0, .int 0])), (h, .inr (1, [.ref d, .int 0, .int ml, .int (nI n)])), (d, .inl (cB, k, .inl f))] (fun A U => zz_G A U) (fun H0 H1 v w t => ∃ b2 : Nat, ∃ cA2 : ClassId, ∃ f2 : Nat → Int32, sb_Fit f2 ∧ v = none ∧ w = [(u0, .inr (0, [.ref b2, .int 0, .int 0, .int 0])), (h, .inr (1, [.ref d, .int 0, .int ml, .int (nI n)])), (d, .inl (cB, k, .inl f)), (b2, .inl (cA2, n, .inl f2))] ∧ t = [(cB, .byte), (cA2, .byte)]) := by
  refine zz_M.mk (cc := cJ0_init_81219) (maxL := 2) (ret := none) (by decide) rfl (Nat.le_of_ble_eq_true rfl) ?_
  intro p0 e0 s mt0 bl0 meth0 cd0 ls hC hname hP hK hD hX hl
  obtain ⟨hx, hb, hml, hr, hown, hts, hlocks⟩ := hC
  have hX0 := hX
  generalize hAe : va_A [(u0, .inr (0, [.null, .int 0, .int 0, .int 0])), (h, .inr (1, [.ref d, .int 0, .int ml, .int (nI n)])), (d, .inl (cB, k, .inl f))] s.heap.size = A at *
  have hA : ∀ q : Nat, s.heap.size ≤ q → A q := fun q h => by rw [← hAe]; exact Or.inr h
  obtain ⟨H, hHs⟩ : ∃ z : Heap, z = s.heap := ⟨_, rfl⟩
  rw [← hHs] at hP ⊢
  have hS : va_S A s.heap H [] := by rw [hHs]; exact va_S.rf
  have hl : lv_has ls 2 [(0, .ref u0), (1, .ref h)] := hl
  refine lv_aload_n hx hb dJ0_init_81219_0 rfl (lv_at hl 0 rfl) ?_
  refine lv_aload_n hx hb dJ0_init_81219_1 rfl (lv_at hl 1 rfl) ?_
  refine lv_null hx hb dJ0_init_81219_2 ?_
  have hFc := va_free (wc := [(u0, .inr (0, [.null, .int 0, .int 0, .int 0])), (h, .inr (1, [.ref d, .int 0, .int ml, .int (nI n)])), (d, .inl (cB, k, .inl f))]) hD hS hA [0, 1, 2] rfl
  have hO0 := zz_out zz_St_G hX0 hS hFc
  refine zz_after (wr := []) (va_runI (As := [.ref h, .null]) (rest := []) ⟨hx, hb, hml, hown, hts⟩ ((k_J0_init_db425 l D u0 h d ml n k f cB (hn) (hk) (hf)) H.size) (cwI 2 hts gJ0_init_81219_J0_init_db425 rfl rfl rfl (hts (.initialized RJ0) (by decide +kernel)) (hts (.methodLink RJ0 489 yJ0_init_db425) (by decide +kernel)) (hts (.instanceMethod yJ0_init_db425) (by decide +kernel)) rfl (by decide +kernel) ⟨Nat.le_of_ble_eq_true rfl, Nat.le_of_ble_eq_true rfl⟩) (zz_pre (av := [.ref u0, .ref h, .null]) (tyc := [(cB, .byte)]) (wc := [(u0, .inr (0, [.null, .int 0, .int 0, .int 0])), (h, .inr (1, [.ref d, .int 0, .int ml, .int (nI n)])), (d, .inl (cB, k, .inl f))]) (X := fun _ _ => True) (Xc := (fun A U => zz_G A U)) hP hD hK hS [0, 1, 2] [0] rfl (by decide) rfl zz_St_G (fun U h1 h2 => hO0 U h1 h2)) rfl rfl hl.1 rfl (lv_room (Nat.le_of_ble_eq_true rfl)) dJ0_init_81219_3 ⟨by show 0 + 1 ≤ 1; omega, by show 0 + 1500 ≤ 1500; omega⟩) hP hD hK hS hFc [0, 1, 2] [] rfl rfl (by decide) (by decide) (fun v w1 ty1 H1 locs hq9 hz9 hk9 hP1 hD1 hK1 hS1 => ?_)
  obtain ⟨b2_1, cA2_2, f2_3, h_4, rfl, rfl, rfl⟩ := hq9
  clear hS hP hD hK hFc hO0
  have hP : va_P D vwCl [(u0, .inr (0, [.ref b2_1, .int 0, .int 0, .int 0])), (h, .inr (1, [.ref d, .int 0, .int ml, .int (nI n)])), (d, .inl (cB, k, .inl f)), (b2_1, .inl (cA2_2, n, .inl f2_3))] H1 := hP1
  have hD : va_D A [(u0, .inr (0, [.ref b2_1, .int 0, .int 0, .int 0])), (h, .inr (1, [.ref d, .int 0, .int ml, .int (nI n)])), (d, .inl (cB, k, .inl f)), (b2_1, .inl (cA2_2, n, .inl f2_3))] := hD1
  have hK : va_K D vwCl [(cB, .byte), (cB, .byte), (cA2_2, .byte)] s := hK1
  have hS := hS1
  clear hP1 hD1 hK1 hS1
  obtain ⟨H, rfl⟩ : ∃ z, z = H1 := ⟨_, rfl⟩
  refine W.eq (g2 := F0 mt0 6 ls []) rfl ?_
  have hP9 := hP.sub (ws' := [(u0, .inr (0, [.ref b2_1, .int 0, .int 0, .int 0])), (h, .inr (1, [.ref d, .int 0, .int ml, .int (nI n)])), (d, .inl (cB, k, .inl f)), (b2_1, .inl (cA2_2, n, .inl f2_3))]) [0, 1, 2, 3] rfl
  have hD9 := hD.sub (ws' := [(u0, .inr (0, [.ref b2_1, .int 0, .int 0, .int 0])), (h, .inr (1, [.ref d, .int 0, .int ml, .int (nI n)])), (d, .inl (cB, k, .inl f)), (b2_1, .inl (cA2_2, n, .inl f2_3))]) [0, 1, 2, 3] (by decide) rfl
  have hK9 := hK.sub (tys' := [(cB, .byte), (cA2_2, .byte)]) [0, 2] rfl
  refine W.widen (k := 1) (n := 1500) (by show 0 + 1 ≤ 1; omega) (by show 0 + 1500 ≤ 1500; omega) ?_
  exact W.vret hx hb hr (zz_end hP9 hD9 hK9 hS (⟨_, _, _, h_4, rfl, rfl, rfl⟩)) hS.2.2 dJ0_init_81219_6
set_option maxHeartbeats 4000000 in
set_option maxRecDepth 100000 in
theorem k_J4_toString_0e30d (l : Launch) (D : va_G) (h : Nat) (d : Nat) (ml : Int32) (n : Nat) (k : Nat) (f : Nat → Int32) (cB : ClassId) (hn : n < k) (hk : k ≤ 1500) (hf : sb_Fit f) : zz_M l yJ4_toString_0e30d wsJ4_toString_0e30d ({ frames := 6, cells := 2, slots := 1504, locals := 3400 }) D [.ref h] [(cB, .byte)] [(h, .inr (1, [.ref d, .int 0, .int ml, .int (nI n)])), (d, .inl (cB, k, .inl f))] (fun A U => zz_G A U) (fun H0 H1 v w t => ∃ t2 : Nat, ∃ b2 : Nat, ∃ cA2 : ClassId, ∃ f2 : Nat → Int32, sb_Fit f2 ∧ v = some (.ref t2) ∧ w = [(t2, .inr (0, [.ref b2, .int 0, .int 0, .int 0])), (h, .inr (1, [.ref d, .int 0, .int ml, .int (nI n)])), (d, .inl (cB, k, .inl f)), (b2, .inl (cA2, n, .inl f2))] ∧ t = [(cB, .byte), (cA2, .byte)]) := by
  refine zz_M.mk (cc := cJ4_toString_0e30d) (maxL := 1) (ret := (some (.object "java/lang/String"))) (by decide) rfl (Nat.le_of_ble_eq_true rfl) ?_
  intro p0 e0 s mt0 bl0 meth0 cd0 ls hC hname hP hK hD hX hl
  obtain ⟨hx, hb, hml, hr, hown, hts, hlocks⟩ := hC
  have hX0 := hX
  generalize hAe : va_A [(h, .inr (1, [.ref d, .int 0, .int ml, .int (nI n)])), (d, .inl (cB, k, .inl f))] s.heap.size = A at *
  have hA : ∀ q : Nat, s.heap.size ≤ q → A q := fun q h => by rw [← hAe]; exact Or.inr h
  obtain ⟨H, hHs⟩ : ∃ z : Heap, z = s.heap := ⟨_, rfl⟩
  rw [← hHs] at hP ⊢
  have hS : va_S A s.heap H [] := by rw [hHs]; exact va_S.rf
  have hl : lv_has ls 1 [(0, .ref h)] := hl
  refine va_new (ci := 0) (fs := [.null, .int 0, .int 0, .int 0]) (C := RJ0) (T := TJ0) (N := 4) hx hb hts (by decide +kernel) tyJ0 tyJ0_ok hown (hts (.classLink RJ4 18 RJ0) (by decide +kernel)) (hts (.instantiable RJ0 4) (by decide +kernel)) (hts (.initialized RJ0) (by decide +kernel)) hK hP hD hS hA rfl (fun j hj => by rcases (show j = 0 ∨ j = 1 ∨ j = 2 ∨ j = 3 by omega) with rfl | rfl | rfl | rfl <;> rfl) (by show 0 + 1 ≤ 2; omega) (by show 0 + 4 ≤ 1504; omega) dJ4_toString_0e30d_0 (fun q_1 H hP hD hS => ?_)
  have hP : va_P D vwCl [(h, .inr (1, [.ref d, .int 0, .int ml, .int (nI n)])), (d, .inl (cB, k, .inl f)), (q_1, .inr (0, [.null, .int 0, .int 0, .int 0]))] H := hP
  have hD : va_D A [(h, .inr (1, [.ref d, .int 0, .int ml, .int (nI n)])), (d, .inl (cB, k, .inl f)), (q_1, .inr (0, [.null, .int 0, .int 0, .int 0]))] := hD
  refine lv_dup hx hb dJ4_toString_0e30d_3 rfl ?_
  refine lv_aload_n hx hb dJ4_toString_0e30d_4 rfl (lv_at hl 0 rfl) ?_
  have hFc := va_free (wc := [(q_1, .inr (0, [.null, .int 0, .int 0, .int 0])), (h, .inr (1, [.ref d, .int 0, .int ml, .int (nI n)])), (d, .inl (cB, k, .inl f))]) hD hS hA [2, 0, 1] rfl
  have hO0 := zz_out zz_St_G hX0 hS hFc
  refine zz_after (wr := []) (va_runI (As := [.ref h]) (rest := [.ref q_1]) ⟨hx, hb, hml, hown, hts⟩ ((k_J0_init_81219 l D q_1 h d ml n k f cB (hn) (hk) (hf)) H.size) (cwI 1 hts gJ4_toString_0e30d_J0_init_81219 rfl rfl rfl (hts (.initialized RJ0) (by decide +kernel)) (hts (.methodLink RJ4 137 yJ0_init_81219) (by decide +kernel)) (hts (.instanceMethod yJ0_init_81219) (by decide +kernel)) rfl (by decide +kernel) ⟨Nat.le_of_ble_eq_true rfl, Nat.le_of_ble_eq_true rfl⟩) (zz_pre (av := [.ref q_1, .ref h]) (tyc := [(cB, .byte)]) (wc := [(q_1, .inr (0, [.null, .int 0, .int 0, .int 0])), (h, .inr (1, [.ref d, .int 0, .int ml, .int (nI n)])), (d, .inl (cB, k, .inl f))]) (X := fun _ _ => True) (Xc := (fun A U => zz_G A U)) hP hD hK hS [2, 0, 1] [0] rfl (by decide) rfl zz_St_G (fun U h1 h2 => hO0 U h1 h2)) rfl rfl hl.1 rfl (lv_room (Nat.le_of_ble_eq_true rfl)) dJ4_toString_0e30d_5 ⟨by show 0 + 1 + 1 ≤ 2; omega, by show 0 + 4 + 1500 ≤ 1504; omega⟩) hP hD hK hS hFc [2, 0, 1] [] rfl rfl (by decide) (by decide) (fun v w1 ty1 H1 locs hq9 hz9 hk9 hP1 hD1 hK1 hS1 => ?_)
  obtain ⟨b2_2, cA2_3, f2_4, h_5, rfl, rfl, rfl⟩ := hq9
  clear hS hP hD hK hFc hO0
  have hP : va_P D vwCl [(q_1, .inr (0, [.ref b2_2, .int 0, .int 0, .int 0])), (h, .inr (1, [.ref d, .int 0, .int ml, .int (nI n)])), (d, .inl (cB, k, .inl f)), (b2_2, .inl (cA2_3, n, .inl f2_4))] H1 := hP1
  have hD : va_D A [(q_1, .inr (0, [.ref b2_2, .int 0, .int 0, .int 0])), (h, .inr (1, [.ref d, .int 0, .int ml, .int (nI n)])), (d, .inl (cB, k, .inl f)), (b2_2, .inl (cA2_3, n, .inl f2_4))] := hD1
  have hK : va_K D vwCl [(cB, .byte), (cB, .byte), (cA2_3, .byte)] s := hK1
  have hS := hS1
  clear hP1 hD1 hK1 hS1
  obtain ⟨H, rfl⟩ : ∃ z, z = H1 := ⟨_, rfl⟩
  refine W.eq (g2 := F0 mt0 8 ls [.ref q_1]) rfl ?_
  have hP9 := hP.sub (ws' := [(q_1, .inr (0, [.ref b2_2, .int 0, .int 0, .int 0])), (h, .inr (1, [.ref d, .int 0, .int ml, .int (nI n)])), (d, .inl (cB, k, .inl f)), (b2_2, .inl (cA2_3, n, .inl f2_4))]) [0, 1, 2, 3] rfl
  have hD9 := hD.sub (ws' := [(q_1, .inr (0, [.ref b2_2, .int 0, .int 0, .int 0])), (h, .inr (1, [.ref d, .int 0, .int ml, .int (nI n)])), (d, .inl (cB, k, .inl f)), (b2_2, .inl (cA2_3, n, .inl f2_4))]) [0, 1, 2, 3] (by decide) rfl
  have hK9 := hK.sub (tys' := [(cB, .byte), (cA2_3, .byte)]) [0, 2] rfl
  refine W.widen (k := 2) (n := 1504) (by show 0 + 1 + 1 ≤ 2; omega) (by show 0 + 4 + 1500 ≤ 1504; omega) ?_
  exact W.aret (v := .ref q_1) hx hb hr (Or.inl ⟨_, rfl⟩) (Or.inr ⟨_, rfl⟩) (zz_end hP9 hD9 hK9 hS (⟨_, _, _, _, h_5, rfl, rfl, rfl⟩)) hS.2.2 dJ4_toString_0e30d_8
end
section
/-! THE FRAME SINCE AN EARLIER HEAP; GARBAGE THAT STAYS -/
def zz_T (B : Nat → Prop) (H0 H : Heap) : Prop := H0.size ≤ H.size ∧ ∀ q : Nat, q < H0.size → ¬ B q → H[q]? = H0[q]?
theorem zz_T.rf {B : Nat → Prop} {H0 : Heap} : zz_T B H0 H0 := ⟨Nat.le_refl _, fun _ _ _ => rfl⟩
theorem zz_T.go {B C : Nat → Prop} {H0 H H1 : Heap} (h : zz_T B H0 H) (hz : H.size ≤ H1.size) (hk : ∀ q : Nat, q < H.size → ¬ C q → H1[q]? = H[q]?) (hC : ∀ q, C q → B q) : zz_T B H0 H1 :=
  ⟨Nat.le_trans h.1 hz, fun q h1 h2 => (hk q (Nat.lt_of_lt_of_le h1 h.1) (fun z => h2 (hC q z))).trans (h.2 q h1 h2)⟩
theorem zz_S1 {A C : Nat → Prop} {H0 H H1 : Heap} {locs L : List Loc} (h : va_S A H0 H locs) (hz : H.size ≤ H1.size) (hk : ∀ q : Nat, q < H.size → ¬ C q → H1[q]? = H[q]?) (hC : ∀ q, C q → A q) (hL : ∀ l ∈ L, C l.base) : va_S A H0 H1 (locs ++ L) :=
  ⟨Nat.le_trans h.1 hz, fun q h1 h2 => (hk q (Nat.lt_of_lt_of_le h1 h.1) (fun z => h2 (hC q z))).trans (h.2.1 q h1 h2), fun q hq => by
    rcases List.mem_append.mp hq with h9 | h9
    · exact h.2.2 q h9
    · exact hC _ (hL q h9)⟩
theorem zz_S2 {A : Nat → Prop} {H0 H H1 : Heap} {locs : List Loc} (h : va_S A H0 H locs) (hz : H1.size = H.size + 1) (hk : ∀ q : Nat, q < H.size → H1[q]? = H[q]?) : va_S A H0 H1 locs :=
  ⟨Nat.le_trans h.1 (by omega), fun q h1 h2 => (hk q (Nat.lt_of_lt_of_le h1 h.1)).trans (h.2.1 q h1 h2), h.2.2⟩
theorem zz_free {A0 : Nat → Prop} {ws wc : va_W} {H : Heap} (hD : va_D A0 ws) (hA : ∀ q, H.size ≤ q → A0 q) (isC : List Nat) (hC : isC.map (fun i => ws[i]?) = wc.map some) : ∀ q, va_A wc H.size q → A0 q :=
  va_free (H0 := H) (locs := []) hD va_S.rf hA isC hC
section ZT
variable {p : Program} {l : Launch} {e : Env} {R : Room} {s : State} {m : MethodId} {args : Array Value} {below : List Frame} {meth : Method} {c : Code} {H : Heap} {locs : List Loc} {cells slots : Nat} {Q : State → Prop}
variable {pc : Nat} {ls : Array Slot} {rest st0 : List Value} {A : Nat → Prop} {D : va_G} {ty ty' tyc : List (ClassId × FieldType)} {ws wc wr W' : va_W}
theorem zz_after0 {mc ms : Nat} {post : Heap → Heap → Option Value → va_W → List (ClassId × FieldType) → Prop} (hr : va_Run p l e R s m args below meth c H locs cells slots mc ms (F0 m pc ls st0) rest (zz_Q D (va_A wc H.size) post) (va_A wc H.size)) (hP : va_P D vwCl ws H) (hD : va_D A ws) (hK : va_K D vwCl ty s) (hF : ∀ q, va_A wc H.size q → A q) (isC isR : List Nat) (hC : isC.map (fun i => ws[i]?) = wc.map some) (hR : isR.map (fun i => ws[i]?) = wr.map some) (hn : va_nd isR = true) (hdis : ∀ i ∈ isR, i ∉ isC)
    (kk : ∀ (v : Option Value) (w1 : va_W) (ty1 : List (ClassId × FieldType)) (H1 : Heap) (L : List Loc), post H H1 v w1 ty1 → H.size ≤ H1.size → (∀ q : Nat, q < H.size → ¬ va_A wc H.size q → H1[q]? = H[q]?) → (∀ l ∈ L, va_A wc H.size l.base) → va_P D vwCl (wr ++ w1) H1 → (∀ A0 : Nat → Prop, va_D A0 ws → (∀ q, va_A wc H.size q → A0 q) → va_D A0 (wr ++ w1)) → va_K D vwCl (ty ++ ty1) s →
      W p l e R s m args below meth c H1 (locs ++ L) (cells + mc) (slots + ms) Q (F0 m (pc + 3) ls (v.toList ++ rest))) : W p l e R s m args below meth c H locs cells slots Q (F0 m pc ls st0) := by
  intro T hT X
  obtain ⟨v, st₀, t, T', L, h0, X', hL, e1, e2, ⟨⟨v', w1, ty1, hv, hp, hP1, hK1, hD1⟩, hz, hk⟩, st⟩ := hr T hT X
  cases hv
  rw [h0] at hz hk hp
  rw [← e1] at hp hz hk hP1
  have hvm : s.vm.Alike t.vm := by rw [← e2]; exact X'.warmed.alike
  have hj := fun (A0 : Nat → Prop) (hD0 : va_D A0 ws) (hF0 : ∀ q, va_A wc H.size q → A0 q) => va_join hP hD0 isC isR hC hR hn hdis hk hF0 hP1 hD1
  obtain ⟨t2, a1, b1⟩ := kk v w1 ty1 T'.heap L hp hz hk hL (hj A hD hF).1 (fun A0 h1 h2 => (hj A0 h1 h2).2) (hK.app (va_K.moved hvm.symm hK1)) T' rfl X'
  exact ⟨t2, st t2 a1, b1⟩
theorem zz_new0 {cc : ByteArray} (hexec : p.tables.exec = Jvm.exec) (hb : c.code = cc) {own C : String} {T : u_T} {N ci index : Nat} {Ts : List Cond} (hts : ∀ w ∈ Ts, w.before args s = true) (hin : ∀ w ∈ u_ws C T N, w ∈ Ts) (tyf : Nat → FieldType) (hty : ∀ k, k < N → parseFieldDescriptor (T k).2.2.1 = some (tyf k)) (hown : s.vm.findClass own = some m.cls) (hcl : (Cond.classLink own index C).before args s = true) (hinst : (Cond.instantiable C N).before args s = true) (hini : (Cond.initialized C).before args s = true)
    (hK : va_K D vwCl ty s) (hP : va_P D vwCl ws H) (hc : vwCl[ci]? = some (C, T, N)) {fs : List Value} (hfs : ∀ j, j < N → defaultValue (tyf j) = vp_V fs j) (hcells : cells + 1 ≤ R.cells) (hslots : slots + N ≤ R.slots) (hdg : decode cc pc = .ok (.new index, 3))
    (kk : ∀ (q : Nat) (H1 : Heap), q = H.size → H1.size = H.size + 1 → (∀ x : Nat, x < H.size → H1[x]? = H[x]?) → va_P D vwCl (ws ++ [(q, .inr (ci, fs))]) H1 → (∀ A0 : Nat → Prop, va_D A0 ws → A0 q → va_D A0 (ws ++ [(q, .inr (ci, fs))])) →
      W p l e R s m args below meth c H1 locs (cells + 1) (slots + N) Q (F0 m (pc + 3) ls (.ref q :: rest))) : W p l e R s m args below meth c H locs cells slots Q (F0 m pc ls rest) := by
  have hKn := hK.1 ci _ hc
  refine W.newcK hexec hb hown hcl hinst hini rfl hdg hcells hslots hKn.2.1 rfl fun H1 kC hkC e1 z1 o1 => ?_
  have hk : ∀ (k : Nat) (x : Nat × va_E), ws[k]? = some x → H1[x.1]? = H[x.1]? := fun k x hx => o1 x.1 ((hP k x hx).lt)
  refine kk H.size H1 rfl z1 o1 ((hP.kept hk).app (fun k x hx => ?_)) (fun A0 hD hA => hD.push hP rfl hA)
  have hz : k < 1 := (List.getElem?_eq_some_iff.mp hx).1
  rw [show k = 0 by omega] at hx
  cases hx
  exact ⟨_, hc, (u_born tyf hts hin hKn hkC e1 hty).to hfs⟩
/-- a text of the method's own cells, seen from a callee that doesn't have it -/
theorem zz_ofW {Ts : List Cond} (hts : ∀ w ∈ Ts, w.before args s = true) (hin : ∀ w ∈ u_ws RJ0 TJ0 4, w ∈ Ts) (hP : va_P D vwCl ws H) (hD : va_D A ws) (hK : va_K D vwCl ty s) (isC : List Nat) (hC : isC.map (fun i => ws[i]?) = wc.map some) (i j t0 : Nat) (hni : i ∉ isC) (hnj : j ∉ isC) {q b n : Nat} {f : Nat → Int32} {cB : ClassId} {h1 h2 : Value} (hi : ws[i]? = some (q, .inr (0, [.ref b, .int 0, h1, h2]))) (hj : ws[j]? = some (b, .inl (cB, n, .inl f))) (ht : ty[t0]? = some (cB, .byte)) (hn : n ≤ 65536) (hf : sb_Fit f) : ∀ U : State, U.heap = H → s.WarmedH U.vm → zz_S q b n f (va_A wc H.size) U := by
  intro U hU hW
  have apart : ∀ (k : Nat) (x : Nat × va_E), ws[k]? = some x → k ∉ isC → ¬ va_A wc H.size x.1 := by
    intro k x hk hkn h
    rcases h with ⟨k2, e, h⟩ | h
    · have h9 : (isC.map (fun i => ws[i]?))[k2]? = some (some (x.1, e)) := by rw [hC, List.getElem?_map, h]; rfl
      rw [List.getElem?_map] at h9
      cases hz : isC[k2]? with
      | none => rw [hz] at h9; cases h9
      | some i9 =>
        rw [hz] at h9
        have hw : ws[i9]? = some (x.1, e) := Option.some.inj h9
        have := hD.1 k i9 x (x.1, e) hk hw rfl
        subst this
        exact hkn (List.mem_of_getElem? hz)
    · have := (hP k x hk).lt
      omega
  obtain ⟨r, hr, cell, c1, c2, c3, c4⟩ := hP i _ hi
  cases hr
  have hq : q < H.size := (hP i _ hi).lt
  obtain ⟨hSl, hfc, kC, hkC, hkd⟩ := hK.1 0 _ rfl
  have hal := hW.alike
  have fld : ∀ k, k < 4 → ∀ v, vp_V [.ref b, .int 0, h1, h2] k = v → va_OF (TJ0 k).1 (TJ0 k).2.1 (TJ0 k).2.2.1 v q (va_A wc H.size) s H := by
    intro k hk v hv
    obtain ⟨cf, kf, fi, fd, e1, e2⟩ := hSl k hk
    have hst := (u_facts hfc hkC (u_lays hts hin hk) e1).1
    refine ⟨cf, kf, fi, fd, cell, e1, hst, c1, (by rw [c3]; intro z; cases z), ?_, apart i _ hi hni⟩
    rw [e2, c4 k hk, hv]
  obtain ⟨hAr, -⟩ := hK.2 t0 _ ht
  have hT : va_T .byte b n (fun j => .int (f j)) (va_A wc H.size) s H := by
    refine ⟨vp_cell cB (n, .inl f), hP j _ hj, hAr n (fun j => .int (f j)), (fun z => by cases z), ?_, ?_, ?_, apart j _ hj hnj⟩
    · show n ≤ (arrV _ _ _).slots.size; rw [arrV_size]; exact Nat.le_refl _
    · show (arrV _ _ _).slots.size.toInt32 = _; rw [arrV_size]
    · intro k hk; show (arrV _ _ _).slots[k]? = _; rw [arrV_read _ _ hk]
  refine ⟨?_, ?_, ?_, ?_, hn, hf⟩
  · have : va_O "java/lang/String" q (va_A wc H.size) s H := ⟨cell, c1, by rw [c3]; rfl, by rw [c2]; exact hfc, apart i _ hi hni⟩
    rw [hU]; exact va_O.moved hal this
  · rw [hU]; exact va_OF.moved hal (fld 1 (by decide) (.int 0) rfl)
  · rw [hU]; exact va_OF.moved hal (fld 0 (by decide) (.ref b) rfl)
  · rw [hU]; exact va_T.moved hal hT
/-- a reference out of an array of arrays -/
theorem zz_aldA {cc : ByteArray} {a : Nat} (hexec : p.tables.exec = Jvm.exec) (hb : c.code = cc) (hK : va_K D vwCl ty s) (hP : va_P D vwCl ws H) (q0 t0 : Nat) {cA : ClassId} {et : FieldType} {n : Nat} {f : Nat → Option Nat} (ha : ws[q0]? = some (a, .inl (cA, n, .inr (.inr (.inr (.inr f)))))) (ht : ty[t0]? = some (cA, et)) (het : et.isReference = true) {i : Int32} (hin : vp_in i n) {v : Value} (hv : va_rf (f i.toNatClampNeg) = v) (hdg : decode cc pc = .ok (.aaload, 1))
    (kk : W p l e R s m args below meth c H locs cells slots Q (F0 m (pc + 1) ls (v :: rest))) : W p l e R s m args below meth c H locs cells slots Q (F0 m pc ls (.int i :: .ref a :: rest)) := by
  subst hv
  have hlt : i.toNatClampNeg < n := Nat.not_le.mp fun q => hin (Or.inr q)
  exact W.aald (v := va_rf (f i.toNatClampNeg)) (ty := et) hexec hb (hP q0 _ ha) ((hK.2 t0 _ ht).1 n (fun j => va_rf (f j))) het (fun q => by cases q) (by show ¬ (i < 0 ∨ (arrV _ _ _).slots.size ≤ _); rw [arrV_size]; exact hin) (by show (arrV _ _ _).slots[_]? = _; rw [arrV_read _ _ hlt]) rfl rfl hdg kk
end ZT
/-- how many slots the cell a has -/
def zz_sz (H : Heap) (a : Nat) : Nat := match H[a]? with
  | some c => c.slots.size
  | none => 0
/-- GARBAGE: the cells L, apart, from lo on, with K slots at least -/
def zz_L (L : List Nat) (lo : Nat) (H : Heap) (K : Nat) : Prop := L.Nodup ∧ (∀ a ∈ L, lo ≤ a ∧ a < H.size) ∧ K ≤ (L.map (zz_sz H)).sum
/-- none of a world's -/
def zz_d (L : List Nat) (ws : va_W) : Prop := ∀ a ∈ L, ∀ (k : Nat) (q : Nat × va_E), ws[k]? = some q → q.1 ≠ a
theorem zz_L0 (lo : Nat) (H : Heap) : zz_L [] lo H 0 := ⟨List.nodup_nil, fun a h => (by cases h), Nat.le_refl _⟩
theorem zz_d0 (ws : va_W) : zz_d [] ws := fun a h => (by cases h)
/-- it stays -/
theorem zz_L.kept {L : List Nat} {lo K : Nat} {Hk H : Heap} {wk ws : va_W} (h : zz_L L lo Hk K) (hd : zz_d L wk) (hT : zz_T (va_A wk Hk.size) Hk H) (hD : va_D (va_A wk Hk.size) ws) : zz_L L lo H K ∧ zz_d L ws := by
  have hn : ∀ a ∈ L, ¬ va_A wk Hk.size a := by
    intro a ha z
    rcases z with ⟨k, e, z⟩ | z
    · exact hd a ha k _ z rfl
    · have := (h.2.1 a ha).2
      omega
  refine ⟨⟨h.1, fun a ha => ⟨(h.2.1 a ha).1, Nat.lt_of_lt_of_le (h.2.1 a ha).2 hT.1⟩, ?_⟩, fun a ha k q hq z => hn a ha (by rw [← z]; exact hD.2 k q hq)⟩
  have he : L.map (zz_sz H) = L.map (zz_sz Hk) := List.map_congr_left (fun a ha => by
    unfold zz_sz
    rw [hT.2 a (h.2.1 a ha).2 (hn a ha)])
  rw [he]
  exact h.2.2
/-- one cell of a world becomes garbage -/
theorem zz_L.add {L : List Nat} {lo K : Nat} {H : Heap} {D : va_G} {ws ws' : va_W} (h : zz_L L lo H K) (hd : zz_d L ws) {A : Nat → Prop} (hD : va_D A ws) (hP : va_P D vwCl ws H) (i : Nat) {a : Nat} {cA : ClassId} {n : Nat} {f : Nat → Int32} (hi : ws[i]? = some (a, .inl (cA, n, .inl f))) (hlo : lo ≤ a) (isR : List Nat) (hR : isR.map (fun i => ws[i]?) = ws'.map some) (hni : i ∉ isR) : zz_L (a :: L) lo H (K + n) ∧ zz_d (a :: L) ws' := by
  have hc : H[a]? = some (vp_cell cA (n, .inl f)) := hP i _ hi
  have hs : zz_sz H a = n := by unfold zz_sz; rw [hc]; show (arrV _ _ _).slots.size = n; rw [arrV_size]
  refine ⟨⟨List.nodup_cons.mpr ⟨fun z => hd a z i _ hi rfl, h.1⟩, fun x hx => ?_, ?_⟩, fun x hx k q hq z => ?_⟩
  · rcases List.mem_cons.mp hx with rfl | hx
    · exact ⟨hlo, (hP i _ hi).lt⟩
    · exact h.2.1 x hx
  · rw [List.map_cons, List.sum_cons, hs]
    have := h.2.2
    omega
  · have h1 : (isR.map (fun i => ws[i]?))[k]? = some (some q) := by rw [hR, List.getElem?_map, hq]; rfl
    rw [List.getElem?_map] at h1
    cases hz : isR[k]? with
    | none => rw [hz] at h1; cases h1
    | some j =>
      rw [hz] at h1
      have hj : ws[j]? = some q := Option.some.inj h1
      rcases List.mem_cons.mp hx with rfl | hx
      · have := hD.1 i j _ q hi hj z.symm
        subst this
        exact hni (List.mem_of_getElem? hz)
      · exact hd x hx j q hj z
theorem zz_d.sub {L : List Nat} {ws ws' : va_W} (hd : zz_d L ws) (isR : List Nat) (hR : isR.map (fun i => ws[i]?) = ws'.map some) : zz_d L ws' := by
  intro x hx k q hq z
  have h1 : (isR.map (fun i => ws[i]?))[k]? = some (some q) := by rw [hR, List.getElem?_map, hq]; rfl
  rw [List.getElem?_map] at h1
  cases hz : isR[k]? with
  | none => rw [hz] at h1; cases h1
  | some j => rw [hz] at h1; exact hd x hx j q (Option.some.inj h1) z
/-- a world's cell that isn't one of those at the start lies behind them -/
theorem zz_lo {A : Nat → Prop} {w0 ws : va_W} {lo : Nat} (hA : va_A w0 lo = A) (hD : va_D A ws) (is : List Nat) (h0 : is.map (fun i => (ws[i]?).map (·.1)) = w0.map (fun q => some q.1)) (i : Nat) (hni : i ∉ is) {q : Nat × va_E} (hi : ws[i]? = some q) : lo ≤ q.1 := by
  have h := hD.2 i q hi
  rw [← hA] at h
  rcases h with ⟨k, e, h⟩ | h
  · have h1 : (is.map (fun i => (ws[i]?).map (·.1)))[k]? = some (some q.1) := by rw [h0, List.getElem?_map, h]; rfl
    rw [List.getElem?_map] at h1
    cases hz : is[k]? with
    | none => rw [hz] at h1; cases h1
    | some j =>
      rw [hz] at h1
      have h2 : (ws[j]?).map (·.1) = some q.1 := Option.some.inj h1
      cases hj : ws[j]? with
      | none => rw [hj] at h2; cases h2
      | some x =>
        rw [hj] at h2
        have h3 : x.1 = q.1 := Option.some.inj h2
        have := hD.1 i j q x hi hj h3.symm
        subst this
        exact absurd (List.mem_of_getElem? hz) hni
  · exact h
/-- the whole heap's new slots are no fewer -/
theorem zz_L.sum {L : List Nat} {lo K : Nat} {H : Heap} (h : zz_L L lo H K) : K ≤ ((H.toList.drop lo).map (·.slots.size)).sum := by
  have key : ∀ (l : List Cell) (L : List Nat), L.Nodup → (∀ a ∈ L, a < l.length) → (L.map (fun a => match l[a]? with | some c => c.slots.size | none => 0)).sum ≤ (l.map (·.slots.size)).sum := by
    intro l
    induction l with
    | nil =>
      intro L _ hl
      cases L with
      | nil => exact Nat.le_refl _
      | cons a L => exact absurd (hl a List.mem_cons_self) (Nat.not_lt_zero _)
    | cons c l ih =>
      intro L hn hl
      have hs : ∀ M : List Nat, M.Nodup → (∀ a ∈ M, a < l.length + 1) → (M.map (fun a => match (c :: l)[a]? with | some c => c.slots.size | none => 0)).sum ≤ (if 0 ∈ M then c.slots.size else 0) + (((M.filter (· ≠ 0)).map (· - 1)).map (fun a => match l[a]? with | some c => c.slots.size | none => 0)).sum := by
        intro M
        induction M with
        | nil => intro _ _; simp
        | cons a M ihM =>
          intro hM hMl
          have h1 := ihM (List.nodup_cons.mp hM).2 (fun x hx => hMl x (List.mem_cons_of_mem _ hx))
          cases a with
          | zero =>
            have h0 : 0 ∉ M := (List.nodup_cons.mp hM).1
            rw [if_neg h0] at h1
            simp only [List.map_cons, List.sum_cons, List.getElem?_cons_zero, List.mem_cons, true_or, if_true]
            have hf : ((0 :: M).filter (· ≠ 0)) = M.filter (· ≠ 0) := by simp
            rw [hf]
            omega
          | succ a =>
            have hf : ((a + 1) :: M).filter (· ≠ 0) = (a + 1) :: M.filter (· ≠ 0) := by simp
            rw [hf]
            simp only [List.map_cons, List.sum_cons, List.getElem?_cons_succ, Nat.add_sub_cancel]
            have h00 : (0 ∈ (a + 1) :: M) ↔ 0 ∈ M := by simp
            by_cases hm : 0 ∈ M
            · rw [if_pos (h00.mpr hm)]; rw [if_pos hm] at h1; omega
            · rw [if_neg (fun z => hm (h00.mp z))]; rw [if_neg hm] at h1; omega
      have h2 := hs L hn (by simpa using hl)
      have h3 := ih ((L.filter (· ≠ 0)).map (· - 1)) ?_ ?_
      · have h4 : (if 0 ∈ L then c.slots.size else 0) ≤ c.slots.size := by split <;> omega
        simp only [List.map_cons, List.sum_cons]
        exact Nat.le_trans h2 (Nat.add_le_add h4 h3)
      · have hf := hn.filter (fun x => decide (x ≠ 0))
        show List.Pairwise (· ≠ ·) _
        rw [List.pairwise_map]
        refine List.Pairwise.imp_of_mem ?_ hf
        intro a b ha hb hab
        have ha0 : a ≠ 0 := by simpa using (List.mem_filter.mp ha).2
        have hb0 : b ≠ 0 := by simpa using (List.mem_filter.mp hb).2
        omega
      · intro a ha
        obtain ⟨b, hb, rfl⟩ := List.mem_map.mp ha
        have hb0 : b ≠ 0 := by simpa using (List.mem_filter.mp hb).2
        have := hl b (List.mem_filter.mp hb).1
        simp only [List.length_cons] at this
        omega
  refine Nat.le_trans h.2.2 ?_
  have h1 := key (H.toList.drop lo) (L.map (· - lo)) ?_ ?_
  · refine Nat.le_trans (Nat.le_of_eq ?_) h1
    rw [List.map_map]
    congr 1
    refine List.map_congr_left (fun a ha => ?_)
    have h2 := (h.2.1 a ha).1
    unfold zz_sz
    simp only [Function.comp]
    rw [List.getElem?_drop, show lo + (a - lo) = a by omega, Array.getElem?_toList]
  · show List.Pairwise (· ≠ ·) _
    rw [List.pairwise_map]
    refine List.Pairwise.imp_of_mem ?_ h.1
    intro a b ha hb hab
    have h2 := (h.2.1 a ha).1
    have h3 := (h.2.1 b hb).1
    omega
  · intro a ha
    obtain ⟨b, hb, rfl⟩ := List.mem_map.mp ha
    have h2 := h.2.1 b hb
    rw [List.length_drop, Array.length_toList]
    omega
theorem zz_L.le {L : List Nat} {lo K K' : Nat} {H : Heap} (h : zz_L L lo H K) (hk : K' ≤ K) : zz_L L lo H K' := ⟨h.1, h.2.1, Nat.le_trans hk h.2.2⟩
theorem zz_L.low {L : List Nat} {lo lo' K : Nat} {H : Heap} (h : zz_L L lo H K) (hk : lo' ≤ lo) : zz_L L lo' H K := ⟨h.1, fun a ha => ⟨Nat.le_trans hk (h.2.1 a ha).1, (h.2.1 a ha).2⟩, h.2.2⟩

/-- four rows of an array of arrays -/
def zz_r4 (a b c d : Nat) : Nat → Option Nat := fun i => if i < 4 then some (if i = 0 then a else if i = 1 then b else if i = 2 then c else d) else none
section ZM
variable {p : Program} {l : Launch} {e : Env} {R : Room} {s : State} {m : MethodId} {args : Array Value} {below : List Frame} {meth : Method} {c : Code} {H H0 : Heap} {locs : List Loc} {cells slots : Nat} {Q : State → Prop}
variable {pc : Nat} {ls : Array Slot} {rest st0 : List Value} {A : Nat → Prop} {D : va_G} {ty : List (ClassId × FieldType)} {ws : va_W}
theorem zz_mna4 {cc : ByteArray} (hexec : p.tables.exec = Jvm.exec) (hb : c.code = cc) {own : String} {index : Nat} (hown : s.vm.findClass own = some m.cls) (hclink : (Cond.classLink own index "[[I").before args s = true) (hover : va_AOA .int s) (harr : (Cond.arrayClass .int).before args s = true)
    (hK : va_K D vwCl ty s) (hP : va_P D vwCl ws H) (hD : va_D A ws) (hS : va_S A H0 H locs) (hA : ∀ q, H0.size ≤ q → A q) (hcells : cells + 5 ≤ R.cells) (hslots : slots + 260 ≤ R.slots) (hdg : decode cc pc = .ok (.multianewarray index 2, 4))
    (kk : ∀ (q r0 r1 r2 r3 : Nat) (cA cy : ClassId) (H1 : Heap), va_K D vwCl (ty ++ [(cA, .array .int), (cy, .int)]) s →
      va_P D vwCl (ws ++ [(q, .inl (cA, 4, .inr (.inr (.inr (.inr (zz_r4 r0 r1 r2 r3)))))), (r0, .inl (cy, 64, .inl (fun _ => 0))), (r1, .inl (cy, 64, .inl (fun _ => 0))), (r2, .inl (cy, 64, .inl (fun _ => 0))), (r3, .inl (cy, 64, .inl (fun _ => 0)))]) H1 →
      va_D A (ws ++ [(q, .inl (cA, 4, .inr (.inr (.inr (.inr (zz_r4 r0 r1 r2 r3)))))), (r0, .inl (cy, 64, .inl (fun _ => 0))), (r1, .inl (cy, 64, .inl (fun _ => 0))), (r2, .inl (cy, 64, .inl (fun _ => 0))), (r3, .inl (cy, 64, .inl (fun _ => 0)))]) → va_S A H0 H1 locs →
      W p l e R s m args below meth c H1 locs (cells + 5) (slots + 260) Q (F0 m (pc + 4) ls (.ref q :: rest))) : W p l e R s m args below meth c H locs cells slots Q (F0 m pc ls (.int 64 :: .int 4 :: rest)) := by
  obtain ⟨cy, ky, comp, y1, y2, y3⟩ := Cond.arrayClass_spec harr
  have e0 : ws ++ va_pl [] (fun _ => (.inl (cy, 64, .inl (fun _ => 0)) : va_E)) = ws := List.append_nil ws
  refine va_mna (X := ws) (L := []) (f := fun _ => .inl (cy, 64, .inl (fun _ => 0))) (cy := cy) (N' := 4) (K' := 64) (z := (64, .inl (fun _ => 0))) hexec hb hown hclink hover harr y1 hK (by rw [e0]; exact hP) (by rw [e0]; exact hD) hS hA (by decide) (by decide) (by decide) (by decide) (by decide) (by decide) (by decide) rfl rfl hcells hslots (fun c9 => ?_) hdg ?_
  · show ({ cls := c9, slots := Array.replicate 64 (.int 0), vm := .none } : Cell) = _
    rw [arrV_new]
    rfl
  · intro q r cA H1 _ _ hK1 hP1 hD1 hS1
    have er : (fun i => if i < 4 then some (r i) else none) = zz_r4 (r 0) (r 1) (r 2) (r 3) := by
      funext i
      unfold zz_r4
      by_cases h : i < 4
      · rw [if_pos h, if_pos h]
        rcases (show i = 0 ∨ i = 1 ∨ i = 2 ∨ i = 3 by omega) with rfl | rfl | rfl | rfl <;> rfl
      · rw [if_neg h, if_neg h]
    rw [er, ← vr_rows (fun a _ h => by cases h)] at hP1 hD1
    have hw : ws ++ [(q, .inl (cA, 4, .inr (.inr (.inr (.inr (zz_r4 (r 0) (r 1) (r 2) (r 3)))))))] ++ (va_pl [] (fun _ => (.inl (cy, 64, .inl (fun _ => 0)) : va_E)) ++ ((List.range 4).map r).map (fun a => (a, (.inl (cy, 64, .inl (fun _ => 0)) : va_E)))) = ws ++ [(q, .inl (cA, 4, .inr (.inr (.inr (.inr (zz_r4 (r 0) (r 1) (r 2) (r 3))))))), (r 0, .inl (cy, 64, .inl (fun _ => 0))), (r 1, .inl (cy, 64, .inl (fun _ => 0))), (r 2, .inl (cy, 64, .inl (fun _ => 0))), (r 3, .inl (cy, 64, .inl (fun _ => 0)))] := by
      rw [List.append_assoc]; rfl
    rw [hw] at hP1 hD1
    have hK2 : va_K D vwCl (ty ++ [(cA, .array .int), (cy, .int)]) s := by
      have h9 : va_K D vwCl [(cy, .int)] s := ⟨hK.1, fun k x hx => by
        have h0 : k < 1 := (List.getElem?_eq_some_iff.mp hx).1
        rw [show k = 0 by omega] at hx
        cases hx
        exact ⟨fun n z => ⟨fun k h => (by cases h), ky, y2, comp, y3⟩, y1⟩⟩
      have h8 := hK1.app h9
      rw [List.append_assoc] at h8
      exact h8
    exact kk q (r 0) (r 1) (r 2) (r 3) cA cy H1 hK2 hP1 hD1 hS1
end ZM
end
section
set_option maxHeartbeats 4000000 in
set_option maxRecDepth 100000 in
theorem tx_A {p0 : Program} {l : Launch} {e0 : Env} {s : State} {mt0 : MethodId} {args : Array Value} {bl0 : List Frame} {meth0 : Method} {cd0 : Code} {Q : State → Prop} {A : Nat → Prop} {H : Heap} {locs : List Loc} {ls : Array Slot} (D : va_G) (h : Nat) (th : Int32) (ho : Nat) (hd : Nat) (hs : Nat) (hu : Nat) (hv : Nat) (kn : Int32) (cR : ClassId) (R0 : Nat → Option Nat) (y0 : Nat) (cI : ClassId) (f0 : Nat → Int32) (qe : Nat) (be : Nat) (fe : Nat → Int32) (qq : Nat) (bq : Nat) (fq : Nat → Int32) (qs : Nat) (bs : Nat) (fs : Nat → Int32) (k : Nat) (hC : zz_C p0 s mt0 meth0 cd0 args RX5 cX5_textOf 5 (some (.object "java/lang/String")) wsX5_textOf) (hX0 : zz_G A s) (hX1 : zz_S qe be 0 fe A s) (hX2 : vk_R RX5 116 "" qe s) (hX3 : zz_S qq bq 1 fq A s) (hX4 : vk_R RX5 134 "=" qq s) (hX5 : zz_S qs bs 2 fs A s) (hA : ∀ q, s.heap.size ≤ q → A q) (hK : va_K D vwCl [(cR, .array .int), (cI, .int)] s) (hP : va_P D vwCl [(h, .inr (9, [.int th, .ref ho, .ref hd, .ref hs, .ref hu, .ref hv, .int kn])), (ho, .inl (cR, 4, .inr (.inr (.inr (.inr R0))))), (y0, .inl (cI, 64, .inl f0))] H) (hD : va_D A [(h, .inr (9, [.int th, .ref ho, .ref hd, .ref hs, .ref hu, .ref hv, .int kn])), (ho, .inl (cR, 4, .inr (.inr (.inr (.inr R0))))), (y0, .inl (cI, 64, .inl f0))]) (hS : va_S A s.heap H locs) (hl : lv_has ls 5 [(4, .int (nI k)), (3, .ref qe), (0, .ref h), (1, .int 0), (2, .ref qs)]) (hR : R0 0 = some y0) (hk : k < 10) (hf1 : ∀ n, n < 10 → f0 n = -1) (kk : ∀ ls : Array Slot, lv_has ls 5 [(4, .int (nI (k + 1))), (3, .ref qe), (0, .ref h), (1, .int 0), (2, .ref qs)] → W p0 l e0 ({ frames := 8, cells := 486, slots := 487296, locals := 3600 } : Room) s mt0 args bl0 meth0 cd0 H locs 0 0 Q (F0 mt0 6 ls [])) : W p0 l e0 ({ frames := 8, cells := 486, slots := 487296, locals := 3600 } : Room) s mt0 args bl0 meth0 cd0 H locs (0) (0) Q (F0 mt0 6 ls []) := by
  obtain ⟨hx, hb, hml, hr, hown, hts, hlocks⟩ := hC
  refine lv_iload hx hb dX5_textOf_6 (lv_at hl 0 rfl) ?_
  refine lv_bipush (v := 64) hx hb dX5_textOf_8 (by decide) ?_
  refine lv_icmp_ge (tgt := 85) hx hb dX5_textOf_10 (by decide) (fun c_1 => absurd c_1 (show ¬ nI 64 ≤ nI k from nI_ge (by omega) (by decide))) (fun c_1 => ?_)
  refine lv_aload_n hx hb dX5_textOf_13 rfl (lv_at hl 2 rfl) ?_
  refine va_get (D := D) (ci := 9) (v := .ref ho) (C := RX5) (T := TX5) (N := 7) hx hb hts (by decide +kernel) hown hK hP 0 rfl rfl 1 (by decide) (hts (.fieldLink RX5 11 "HashladderModel" "rows" "[[I") (by decide +kernel)) (fun _ h9 => h9) rfl dX5_textOf_14 ?_
  refine lv_iload_n hx hb dX5_textOf_17 rfl (lv_at hl 3 rfl) ?_
  refine zz_aldA hx hb hK hP 1 0 rfl rfl rfl ((show vp_in (0 : Int32) 4 from vp_in_nI (n := 0) (by decide) (by decide))) (v := .ref y0) (by rw [show ((0 : Int32)).toNatClampNeg = 0 from by decide, hR]; rfl) dX5_textOf_18 ?_
  refine lv_iload hx hb dX5_textOf_19 (lv_at hl 0 rfl) ?_
  refine va_iald hx hb hK hP 2 1 rfl rfl (vp_in_nI (by omega) (by decide)) dX5_textOf_21 ?_
  refine lv_topi (fun z_2 ez_2 => ?_)
  obtain rfl : z_2 = (-1) := ez_2.trans (by rw [nI_clamp (by omega)]; exact hf1 k hk)
  refine lv_iconst (v := (-1)) hx hb dX5_textOf_22 (by decide) ?_
  refine lv_icmp_eq (tgt := 79) hx hb dX5_textOf_23 (by decide) (fun c_3 => ?_) (fun c_3 => absurd (rfl) c_3)
  refine lv_iinc (v := (nI (k + 1))) (lv' := [(4, .int (nI (k + 1))), (3, .ref qe), (0, .ref h), (1, .int 0), (2, .ref qs)]) hx hb dX5_textOf_79 hl (k := 0) rfl (nI_1 k) (by decide) rfl (fun ls hl => ?_)
  refine lv_goto (tgt := 6) hx hb dX5_textOf_82 (by decide) ?_
  exact kk _ (lv_sub hl [0, 1, 2, 3, 4] rfl)
set_option maxHeartbeats 4000000 in
theorem tx_As {p0 : Program} {l : Launch} {e0 : Env} {s : State} {mt0 : MethodId} {args : Array Value} {bl0 : List Frame} {meth0 : Method} {cd0 : Code} {Q : State → Prop} {A : Nat → Prop} {H : Heap} {locs : List Loc} (D : va_G) (h : Nat) (th : Int32) (ho : Nat) (hd : Nat) (hs : Nat) (hu : Nat) (hv : Nat) (kn : Int32) (cR : ClassId) (R0 : Nat → Option Nat) (y0 : Nat) (cI : ClassId) (f0 : Nat → Int32) (qe : Nat) (be : Nat) (fe : Nat → Int32) (qq : Nat) (bq : Nat) (fq : Nat → Int32) (qs : Nat) (bs : Nat) (fs : Nat → Int32) (hC : zz_C p0 s mt0 meth0 cd0 args RX5 cX5_textOf 5 (some (.object "java/lang/String")) wsX5_textOf) (hX0 : zz_G A s) (hX1 : zz_S qe be 0 fe A s) (hX2 : vk_R RX5 116 "" qe s) (hX3 : zz_S qq bq 1 fq A s) (hX4 : vk_R RX5 134 "=" qq s) (hX5 : zz_S qs bs 2 fs A s) (hA : ∀ q, s.heap.size ≤ q → A q) (hK : va_K D vwCl [(cR, .array .int), (cI, .int)] s) (hP : va_P D vwCl [(h, .inr (9, [.int th, .ref ho, .ref hd, .ref hs, .ref hu, .ref hv, .int kn])), (ho, .inl (cR, 4, .inr (.inr (.inr (.inr R0))))), (y0, .inl (cI, 64, .inl f0))] H) (hD : va_D A [(h, .inr (9, [.int th, .ref ho, .ref hd, .ref hs, .ref hu, .ref hv, .int kn])), (ho, .inl (cR, 4, .inr (.inr (.inr (.inr R0))))), (y0, .inl (cI, 64, .inl f0))]) (hS : va_S A s.heap H locs)  (hR : R0 0 = some y0) (hf1 : ∀ n, n < 10 → f0 n = -1) (kk : ∀ ls : Array Slot, lv_has ls 5 [(4, .int (nI 10)), (3, .ref qe), (0, .ref h), (1, .int 0), (2, .ref qs)] → W p0 l e0 ({ frames := 8, cells := 486, slots := 487296, locals := 3600 } : Room) s mt0 args bl0 meth0 cd0 H locs 0 0 Q (F0 mt0 6 ls [])) : ∀ (n k : Nat), k + n = 10 → ∀ ls : Array Slot, lv_has ls 5 [(4, .int (nI k)), (3, .ref qe), (0, .ref h), (1, .int 0), (2, .ref qs)] → W p0 l e0 ({ frames := 8, cells := 486, slots := 487296, locals := 3600 } : Room) s mt0 args bl0 meth0 cd0 H locs 0 0 Q (F0 mt0 6 ls []) := by
  intro n
  induction n with
  | zero => intro k hk ls hl; obtain rfl : k = 10 := by omega
            exact kk ls hl
  | succ n ih => intro k hk ls hl
                 exact tx_A D h th ho hd hs hu hv kn cR R0 y0 cI f0 qe be fe qq bq fq qs bs fs k hC hX0 hX1 hX2 hX3 hX4 hX5 hA hK hP hD hS hl hR (by omega) hf1 (fun ls hl => ih (k + 1) (by omega) ls hl)
set_option maxHeartbeats 4000000 in
set_option maxRecDepth 100000 in
theorem tx_B {p0 : Program} {l : Launch} {e0 : Env} {s : State} {mt0 : MethodId} {args : Array Value} {bl0 : List Frame} {meth0 : Method} {cd0 : Code} {Q : State → Prop} {A : Nat → Prop} {H : Heap} {locs : List Loc} {ls : Array Slot} (D : va_G) (h : Nat) (th : Int32) (ho : Nat) (hd : Nat) (hs : Nat) (hu : Nat) (hv : Nat) (kn : Int32) (cR : ClassId) (R0 : Nat → Option Nat) (y0 : Nat) (cI : ClassId) (f0 : Nat → Int32) (qe : Nat) (be : Nat) (fe : Nat → Int32) (qq : Nat) (bq : Nat) (fq : Nat → Int32) (qs : Nat) (bs : Nat) (fs : Nat → Int32) (Lg : List Nat) (K0 : Nat) (hC : zz_C p0 s mt0 meth0 cd0 args RX5 cX5_textOf 5 (some (.object "java/lang/String")) wsX5_textOf) (hX0 : zz_G A s) (hX1 : zz_S qe be 0 fe A s) (hX2 : vk_R RX5 116 "" qe s) (hX3 : zz_S qq bq 1 fq A s) (hX4 : vk_R RX5 134 "=" qq s) (hX5 : zz_S qs bs 2 fs A s) (hA : ∀ q, s.heap.size ≤ q → A q) (hK : va_K D vwCl [(cR, .array .int), (cI, .int)] s) (hP : va_P D vwCl [(h, .inr (9, [.int th, .ref ho, .ref hd, .ref hs, .ref hu, .ref hv, .int kn])), (ho, .inl (cR, 4, .inr (.inr (.inr (.inr R0))))), (y0, .inl (cI, 64, .inl f0))] H) (hD : va_D A [(h, .inr (9, [.int th, .ref ho, .ref hd, .ref hs, .ref hu, .ref hv, .int kn])), (ho, .inl (cR, 4, .inr (.inr (.inr (.inr R0))))), (y0, .inl (cI, 64, .inl f0))]) (hS : va_S A s.heap H locs) (hl : lv_has ls 5 [(4, .int (nI 10)), (3, .ref qe), (0, .ref h), (1, .int 0), (2, .ref qs)]) (hR : R0 0 = some y0) (hf2 : ∀ n, 10 ≤ n → n < 64 → f0 n = 99) (hAe : va_A [(h, .inr (9, [.int th, .ref ho, .ref hd, .ref hs, .ref hu, .ref hv, .int kn])), (ho, .inl (cR, 4, .inr (.inr (.inr (.inr R0))))), (y0, .inl (cI, 64, .inl f0))] s.heap.size = A) (hL : zz_L Lg s.heap.size H K0) (hd9 : zz_d Lg [(h, .inr (9, [.int th, .ref ho, .ref hd, .ref hs, .ref hu, .ref hv, .int kn])), (ho, .inl (cR, 4, .inr (.inr (.inr (.inr R0))))), (y0, .inl (cI, 64, .inl f0))]) (kk : ∀ (q' b' : Nat) (cA' : ClassId) (f' : Nat → Int32) (L' : List Nat) (H' : Heap) (locs' : List Loc) (ls' : Array Slot), sb_Fit f' → va_K D vwCl [(cR, .array .int), (cI, .int), (cA', .byte)] s → va_P D vwCl [(h, .inr (9, [.int th, .ref ho, .ref hd, .ref hs, .ref hu, .ref hv, .int kn])), (ho, .inl (cR, 4, .inr (.inr (.inr (.inr R0))))), (y0, .inl (cI, 64, .inl f0)), (q', .inr (0, [.ref b', .int 0, .int 0, .int 0])), (b', .inl (cA', 5, .inl f'))] H' → va_D A [(h, .inr (9, [.int th, .ref ho, .ref hd, .ref hs, .ref hu, .ref hv, .int kn])), (ho, .inl (cR, 4, .inr (.inr (.inr (.inr R0))))), (y0, .inl (cI, 64, .inl f0)), (q', .inr (0, [.ref b', .int 0, .int 0, .int 0])), (b', .inl (cA', 5, .inl f'))] → va_S A s.heap H' locs' → lv_has ls' 5 [(4, .int (nI (10 + 1))), (3, .ref q'), (0, .ref h), (1, .int 0), (2, .ref qs)] → zz_L L' s.heap.size H' (K0 + 6) → zz_d L' [(h, .inr (9, [.int th, .ref ho, .ref hd, .ref hs, .ref hu, .ref hv, .int kn])), (ho, .inl (cR, 4, .inr (.inr (.inr (.inr R0))))), (y0, .inl (cI, 64, .inl f0)), (q', .inr (0, [.ref b', .int 0, .int 0, .int 0])), (b', .inl (cA', 5, .inl f'))] → W p0 l e0 ({ frames := 8, cells := 486, slots := 487296, locals := 3600 } : Room) s mt0 args bl0 meth0 cd0 H' locs' (9) (9024) Q (F0 mt0 6 ls' [])) : W p0 l e0 ({ frames := 8, cells := 486, slots := 487296, locals := 3600 } : Room) s mt0 args bl0 meth0 cd0 H locs (0) (0) Q (F0 mt0 6 ls []) := by
  obtain ⟨hx, hb, hml, hr, hown, hts, hlocks⟩ := hC
  have hDB := hD.self (sz := H.size)
  obtain ⟨B, hB⟩ : ∃ z, z = va_A [(h, .inr (9, [.int th, .ref ho, .ref hd, .ref hs, .ref hu, .ref hv, .int kn])), (ho, .inl (cR, 4, .inr (.inr (.inr (.inr R0))))), (y0, .inl (cI, 64, .inl f0))] H.size := ⟨_, rfl⟩
  rw [← hB] at hDB
  obtain ⟨Hk, hHk⟩ : ∃ z, z = H := ⟨_, rfl⟩
  have hBge : ∀ q, Hk.size ≤ q → B q := by intro q h; rw [hB, ← hHk]; exact Or.inr h
  have hT : zz_T B Hk H := by rw [hHk]; exact zz_T.rf
  rw [← hHk] at hB hL
  refine lv_iload hx hb dX5_textOf_6 (lv_at hl 0 rfl) ?_
  refine lv_bipush (v := 64) hx hb dX5_textOf_8 (by decide) ?_
  refine lv_icmp_ge (tgt := 85) hx hb dX5_textOf_10 (by decide) (fun c_1 => absurd c_1 (show ¬ nI 64 ≤ nI 10 from nI_ge (by omega) (by decide))) (fun c_1 => ?_)
  refine lv_aload_n hx hb dX5_textOf_13 rfl (lv_at hl 2 rfl) ?_
  refine va_get (D := D) (ci := 9) (v := .ref ho) (C := RX5) (T := TX5) (N := 7) hx hb hts (by decide +kernel) hown hK hP 0 rfl rfl 1 (by decide) (hts (.fieldLink RX5 11 "HashladderModel" "rows" "[[I") (by decide +kernel)) (fun _ h9 => h9) rfl dX5_textOf_14 ?_
  refine lv_iload_n hx hb dX5_textOf_17 rfl (lv_at hl 3 rfl) ?_
  refine zz_aldA hx hb hK hP 1 0 rfl rfl rfl ((show vp_in (0 : Int32) 4 from vp_in_nI (n := 0) (by decide) (by decide))) (v := .ref y0) (by rw [show ((0 : Int32)).toNatClampNeg = 0 from by decide, hR]; rfl) dX5_textOf_18 ?_
  refine lv_iload hx hb dX5_textOf_19 (lv_at hl 0 rfl) ?_
  refine va_iald hx hb hK hP 2 1 rfl rfl (vp_in_nI (by omega) (by decide)) dX5_textOf_21 ?_
  refine lv_topi (fun z_2 ez_2 => ?_)
  obtain rfl : z_2 = nI 99 := ez_2.trans (by rw [nI_clamp (by omega)]; exact hf2 10 (by omega) (by omega))
  refine lv_iconst (v := (-1)) hx hb dX5_textOf_22 (by decide) ?_
  refine lv_icmp_eq (tgt := 79) hx hb dX5_textOf_23 (by decide) (fun c_3 => absurd c_3 (by decide)) (fun c_3 => ?_)
  refine zz_new0 (ci := 1) (fs := [.null, .int 0, .int 0, .int 0]) (C := RJ4) (T := TJ4) (N := 4) hx hb hts (by decide +kernel) tyJ4 tyJ4_ok hown (hts (.classLink RX5 118 RJ4) (by decide +kernel)) (hts (.instantiable RJ4 4) (by decide +kernel)) (hts (.initialized RJ4) (by decide +kernel)) hK hP rfl (fun j hj => by rcases (show j = 0 ∨ j = 1 ∨ j = 2 ∨ j = 3 by omega) with rfl | rfl | rfl | rfl <;> rfl) (by show 0 + 1 ≤ 486; omega) (by show 0 + 4 ≤ 487296; omega) dX5_textOf_26 (fun q_4 H1 hq9 hz9 hk9 hP1 hDf => ?_)
  have hS1 := zz_S2 hS hz9 hk9
  have hT1 := hT.go (C := fun _ => False) (by omega) (fun x h1 _ => hk9 x h1) (fun _ h => h.elim)
  have hD1 := hDf A hD (hA _ (by rw [hq9]; exact hS.1))
  have hDB1 := hDf B hDB (hBge _ (by rw [hq9]; exact hT.1))
  clear hS hP hD hT hDB hz9 hk9 hDf hq9
  obtain ⟨H, rfl⟩ : ∃ z, z = H1 := ⟨_, rfl⟩
  have hS := hS1
  have hT := hT1
  have hDB : va_D B [(h, .inr (9, [.int th, .ref ho, .ref hd, .ref hs, .ref hu, .ref hv, .int kn])), (ho, .inl (cR, 4, .inr (.inr (.inr (.inr R0))))), (y0, .inl (cI, 64, .inl f0)), (q_4, .inr (1, [.null, .int 0, .int 0, .int 0]))] := hDB1
  have hP := hP1
  have hD := hD1
  clear hS1 hT1 hDB1 hP1 hD1
  have hP : va_P D vwCl [(h, .inr (9, [.int th, .ref ho, .ref hd, .ref hs, .ref hu, .ref hv, .int kn])), (ho, .inl (cR, 4, .inr (.inr (.inr (.inr R0))))), (y0, .inl (cI, 64, .inl f0)), (q_4, .inr (1, [.null, .int 0, .int 0, .int 0]))] H := hP
  have hD : va_D A [(h, .inr (9, [.int th, .ref ho, .ref hd, .ref hs, .ref hu, .ref hv, .int kn])), (ho, .inl (cR, 4, .inr (.inr (.inr (.inr R0))))), (y0, .inl (cI, 64, .inl f0)), (q_4, .inr (1, [.null, .int 0, .int 0, .int 0]))] := hD
  refine lv_dup hx hb dX5_textOf_29 rfl ?_
  have hFc := zz_free (wc := [(q_4, .inr (1, [.null, .int 0, .int 0, .int 0]))]) hD (fun q h => hA q (Nat.le_trans hS.1 h)) [3] rfl
  have hFB := zz_free (wc := [(q_4, .inr (1, [.null, .int 0, .int 0, .int 0]))]) hDB (fun q h => hBge q (Nat.le_trans hT.1 h)) [3] rfl
  have hO0 := zz_out zz_St_G hX0 hS hFc
  refine zz_after0 (wr := [(h, .inr (9, [.int th, .ref ho, .ref hd, .ref hs, .ref hu, .ref hv, .int kn])), (ho, .inl (cR, 4, .inr (.inr (.inr (.inr R0))))), (y0, .inl (cI, 64, .inl f0))]) (va_runI (As := []) (rest := [.ref q_4]) ⟨hx, hb, hml, hown, hts⟩ ((k_J4_init_da8c8 l D q_4) H.size) (cwI 0 hts gX5_textOf_J4_init_da8c8 rfl rfl rfl (hts (.initialized RJ4) (by decide +kernel)) (hts (.methodLink RX5 120 yJ4_init_da8c8) (by decide +kernel)) (hts (.instanceMethod yJ4_init_da8c8) (by decide +kernel)) rfl (by decide +kernel) ⟨Nat.le_of_ble_eq_true rfl, Nat.le_of_ble_eq_true rfl⟩) (zz_pre (av := [.ref q_4]) (tyc := []) (wc := [(q_4, .inr (1, [.null, .int 0, .int 0, .int 0]))]) (X := fun _ _ => True) (Xc := (fun A U => zz_G A U)) hP hD hK hS [3] [] rfl (by decide) rfl zz_St_G (fun U h1 h2 => hO0 U h1 h2)) rfl rfl hl.1 rfl (lv_room (Nat.le_of_ble_eq_true rfl)) dX5_textOf_30 ⟨by show 0 + 1 + 1 ≤ 486; omega, by show 0 + 4 + 16 ≤ 487296; omega⟩) hP hD hK hFc [3] [0, 1, 2] rfl rfl (by decide) (by decide) (fun v w1 ty1 H1 L9 hq9 hz9 hk9 hL9 hP1 hDf hK1 => ?_)
  have hS1 := zz_S1 hS hz9 hk9 hFc hL9
  have hT1 := hT.go hz9 hk9 hFB
  have hD1 := hDf A hD hFc
  have hDB1 := hDf B hDB hFB
  obtain ⟨locs, elocs⟩ : ∃ z, z = locs ++ L9 := ⟨_, rfl⟩
  rw [← elocs] at hS1 ⊢
  clear elocs hz9 hk9 hL9 hDf
  obtain ⟨d2_5, cA2_6, rfl, rfl, rfl⟩ := hq9
  clear hS hP hD hK hFc hO0 hT hDB hFB
  have hP : va_P D vwCl [(h, .inr (9, [.int th, .ref ho, .ref hd, .ref hs, .ref hu, .ref hv, .int kn])), (ho, .inl (cR, 4, .inr (.inr (.inr (.inr R0))))), (y0, .inl (cI, 64, .inl f0)), (q_4, .inr (1, [.ref d2_5, .int 0, .int 0, .int (nI 0)])), (d2_5, .inl (cA2_6, 16, .inl (fun _ => 0)))] H1 := hP1
  have hD : va_D A [(h, .inr (9, [.int th, .ref ho, .ref hd, .ref hs, .ref hu, .ref hv, .int kn])), (ho, .inl (cR, 4, .inr (.inr (.inr (.inr R0))))), (y0, .inl (cI, 64, .inl f0)), (q_4, .inr (1, [.ref d2_5, .int 0, .int 0, .int (nI 0)])), (d2_5, .inl (cA2_6, 16, .inl (fun _ => 0)))] := hD1
  have hK : va_K D vwCl [(cR, .array .int), (cI, .int), (cA2_6, .byte)] s := hK1
  have hS := hS1
  have hT := hT1
  have hDB : va_D B [(h, .inr (9, [.int th, .ref ho, .ref hd, .ref hs, .ref hu, .ref hv, .int kn])), (ho, .inl (cR, 4, .inr (.inr (.inr (.inr R0))))), (y0, .inl (cI, 64, .inl f0)), (q_4, .inr (1, [.ref d2_5, .int 0, .int 0, .int (nI 0)])), (d2_5, .inl (cA2_6, 16, .inl (fun _ => 0)))] := hDB1
  clear hT1 hDB1
  clear hP1 hD1 hK1 hS1
  obtain ⟨H, rfl⟩ : ∃ z, z = H1 := ⟨_, rfl⟩
  refine W.eq (g2 := F0 mt0 33 ls [.ref q_4]) rfl ?_
  refine lv_aload_n hx hb dX5_textOf_33 rfl (lv_at hl 1 rfl) ?_
  have hFc := zz_free (wc := [(q_4, .inr (1, [.ref d2_5, .int 0, .int 0, .int (nI 0)])), (d2_5, .inl (cA2_6, 16, .inl (fun _ => 0)))]) hD (fun q h => hA q (Nat.le_trans hS.1 h)) [3, 4] rfl
  have hFB := zz_free (wc := [(q_4, .inr (1, [.ref d2_5, .int 0, .int 0, .int (nI 0)])), (d2_5, .inl (cA2_6, 16, .inl (fun _ => 0)))]) hDB (fun q h => hBge q (Nat.le_trans hT.1 h)) [3, 4] rfl
  have hO0 := zz_out zz_St_G hX0 hS hFc
  have hO1 := zz_out (zz_St_S qe be 0 fe) hX1 hS hFc
  refine zz_after0 (wr := [(h, .inr (9, [.int th, .ref ho, .ref hd, .ref hs, .ref hu, .ref hv, .int kn])), (ho, .inl (cR, 4, .inr (.inr (.inr (.inr R0))))), (y0, .inl (cI, 64, .inl f0))]) (va_runV (As := [.ref qe]) (rest := []) ⟨hx, hb, hml, hown, hts⟩ ((k_J4_append_15ec4 l D q_4 d2_5 0 0 16 (fun _ => 0) cA2_6 qe be 0 fe (by omega) (by omega) (sb_fit0)) H.size) (cwV 1 hts gX5_textOf_J4_append_15ec4 rfl rfl rfl (by decide +kernel) ⟨Nat.le_of_ble_eq_true rfl, Nat.le_of_ble_eq_true rfl⟩) (zz_pV (zz_pre (av := [.ref q_4, .ref qe]) (tyc := [(cA2_6, .byte)]) (wc := [(q_4, .inr (1, [.ref d2_5, .int 0, .int 0, .int (nI 0)])), (d2_5, .inl (cA2_6, 16, .inl (fun _ => 0)))]) (X := fun _ _ => True) (Xc := (fun A U => zz_G A U ∧ zz_S qe be 0 fe A U)) hP hD hK hS [3, 4] [2] rfl (by decide) rfl (zz_St_and zz_St_G (zz_St_S qe be 0 fe)) (fun U h1 h2 => ⟨hO0 U h1 h2, hO1 U h1 h2⟩)) (va_recv hK hP (ci := 1) (q0 := 3) rfl rfl)) rfl rfl hl.1 rfl (lv_room (Nat.le_of_ble_eq_true rfl)) dX5_textOf_34 ⟨by show 0 + 1 + 1 + 1 ≤ 486; omega, by show 0 + 4 + 16 + 1500 ≤ 487296; omega⟩) hP hD hK hFc [3, 4] [0, 1, 2] rfl rfl (by decide) (by decide) (fun v w1 ty1 H1 L9 hq9 hz9 hk9 hL9 hP1 hDf hK1 => ?_)
  have hS1 := zz_S1 hS hz9 hk9 hFc hL9
  have hT1 := hT.go hz9 hk9 hFB
  have hD1 := hDf A hD hFc
  have hDB1 := hDf B hDB hFB
  obtain ⟨locs, elocs⟩ : ∃ z, z = locs ++ L9 := ⟨_, rfl⟩
  rw [← elocs] at hS1 ⊢
  clear elocs hz9 hk9 hL9 hDf
  obtain ⟨d2_7, cA2_8, f2_9, h_10, rfl, rfl, rfl⟩ := hq9
  clear hS hP hD hK hFc hO0 hO1 hT hDB hFB
  have hP : va_P D vwCl [(h, .inr (9, [.int th, .ref ho, .ref hd, .ref hs, .ref hu, .ref hv, .int kn])), (ho, .inl (cR, 4, .inr (.inr (.inr (.inr R0))))), (y0, .inl (cI, 64, .inl f0)), (q_4, .inr (1, [.ref d2_7, .int 0, .int 0, .int (nI (0 + 0))])), (d2_7, .inl (cA2_8, (zz_cap (0 + 0) 16), .inl f2_9))] H1 := hP1
  have hD : va_D A [(h, .inr (9, [.int th, .ref ho, .ref hd, .ref hs, .ref hu, .ref hv, .int kn])), (ho, .inl (cR, 4, .inr (.inr (.inr (.inr R0))))), (y0, .inl (cI, 64, .inl f0)), (q_4, .inr (1, [.ref d2_7, .int 0, .int 0, .int (nI (0 + 0))])), (d2_7, .inl (cA2_8, (zz_cap (0 + 0) 16), .inl f2_9))] := hD1
  have hK : va_K D vwCl [(cR, .array .int), (cI, .int), (cA2_6, .byte), (cA2_8, .byte)] s := hK1
  have hS := hS1
  have hT := hT1
  have hDB : va_D B [(h, .inr (9, [.int th, .ref ho, .ref hd, .ref hs, .ref hu, .ref hv, .int kn])), (ho, .inl (cR, 4, .inr (.inr (.inr (.inr R0))))), (y0, .inl (cI, 64, .inl f0)), (q_4, .inr (1, [.ref d2_7, .int 0, .int 0, .int (nI (0 + 0))])), (d2_7, .inl (cA2_8, (zz_cap (0 + 0) 16), .inl f2_9))] := hDB1
  clear hT1 hDB1
  clear hP1 hD1 hK1 hS1
  obtain ⟨H, rfl⟩ : ∃ z, z = H1 := ⟨_, rfl⟩
  refine W.eq (g2 := F0 mt0 37 ls [.ref q_4]) rfl ?_
  obtain ⟨k1, ek1⟩ : ∃ z, z = (zz_cap (0 + 0) 16) := ⟨_, rfl⟩
  rw [← ek1] at hP hD hDB
  have ok1 := zz_cap_or (0 + 0) 16; rw [← ek1] at ok1
  have hk1 : k1 ≤ 1500 := by omega
  refine lv_aload_n hx hb dX5_textOf_37 rfl (lv_at hl 1 rfl) ?_
  have hFc := zz_free (wc := []) hD (fun q h => hA q (Nat.le_trans hS.1 h)) [] rfl
  have hFB := zz_free (wc := []) hDB (fun q h => hBge q (Nat.le_trans hT.1 h)) [] rfl
  have hO0 := zz_out (zz_St_S qe be 0 fe) hX1 hS hFc
  refine zz_after0 (wr := [(h, .inr (9, [.int th, .ref ho, .ref hd, .ref hs, .ref hu, .ref hv, .int kn])), (ho, .inl (cR, 4, .inr (.inr (.inr (.inr R0))))), (y0, .inl (cI, 64, .inl f0)), (q_4, .inr (1, [.ref d2_7, .int 0, .int 0, .int (nI (0 + 0))])), (d2_7, .inl (cA2_8, k1, .inl f2_9))]) (va_runV (As := []) (rest := [.ref q_4]) ⟨hx, hb, hml, hown, hts⟩ ((k_isEmpty_0 l D qe be 0 fe (rfl)) H.size) (cwV 0 hts gX5_textOf_J0_isEmpty_aae02 rfl rfl rfl (by decide +kernel) ⟨Nat.le_of_ble_eq_true rfl, Nat.le_of_ble_eq_true rfl⟩) (zz_pV (zz_pre (av := [.ref qe]) (tyc := []) (wc := []) (X := fun _ _ => True) (Xc := (fun A U => zz_S qe be 0 fe A U)) hP hD hK hS [] [] rfl (by decide) rfl (zz_St_S qe be 0 fe) (fun U h1 h2 => hO0 U h1 h2)) (va_Orecv hX1.1 hS)) rfl rfl hl.1 rfl (lv_room (Nat.le_of_ble_eq_true rfl)) dX5_textOf_38 ⟨by show 0 + 1 + 1 + 1 + 0 ≤ 486; omega, by show 0 + 4 + 16 + 1500 + 0 ≤ 487296; omega⟩) hP hD hK hFc [] [0, 1, 2, 3, 4] rfl rfl (by decide) (by decide) (fun v w1 ty1 H1 L9 hq9 hz9 hk9 hL9 hP1 hDf hK1 => ?_)
  have hS1 := zz_S1 hS hz9 hk9 hFc hL9
  have hT1 := hT.go hz9 hk9 hFB
  have hD1 := hDf A hD hFc
  have hDB1 := hDf B hDB hFB
  obtain ⟨locs, elocs⟩ : ∃ z, z = locs ++ L9 := ⟨_, rfl⟩
  rw [← elocs] at hS1 ⊢
  clear elocs hz9 hk9 hL9 hDf
  obtain ⟨rfl, rfl, rfl⟩ := hq9
  clear hS hP hD hK hFc hO0 hT hDB hFB
  have hP : va_P D vwCl [(h, .inr (9, [.int th, .ref ho, .ref hd, .ref hs, .ref hu, .ref hv, .int kn])), (ho, .inl (cR, 4, .inr (.inr (.inr (.inr R0))))), (y0, .inl (cI, 64, .inl f0)), (q_4, .inr (1, [.ref d2_7, .int 0, .int 0, .int (nI (0 + 0))])), (d2_7, .inl (cA2_8, k1, .inl f2_9))] H1 := hP1
  have hD : va_D A [(h, .inr (9, [.int th, .ref ho, .ref hd, .ref hs, .ref hu, .ref hv, .int kn])), (ho, .inl (cR, 4, .inr (.inr (.inr (.inr R0))))), (y0, .inl (cI, 64, .inl f0)), (q_4, .inr (1, [.ref d2_7, .int 0, .int 0, .int (nI (0 + 0))])), (d2_7, .inl (cA2_8, k1, .inl f2_9))] := hD1
  have hK : va_K D vwCl [(cR, .array .int), (cI, .int), (cA2_6, .byte), (cA2_8, .byte)] s := hK1
  have hS := hS1
  have hT := hT1
  have hDB : va_D B [(h, .inr (9, [.int th, .ref ho, .ref hd, .ref hs, .ref hu, .ref hv, .int kn])), (ho, .inl (cR, 4, .inr (.inr (.inr (.inr R0))))), (y0, .inl (cI, 64, .inl f0)), (q_4, .inr (1, [.ref d2_7, .int 0, .int 0, .int (nI (0 + 0))])), (d2_7, .inl (cA2_8, k1, .inl f2_9))] := hDB1
  clear hT1 hDB1
  clear hP1 hD1 hK1 hS1
  obtain ⟨H, rfl⟩ : ∃ z, z = H1 := ⟨_, rfl⟩
  refine W.eq (g2 := F0 mt0 41 ls [.int 1, .ref q_4]) rfl ?_
  refine lv_if_eq (tgt := 49) hx hb dX5_textOf_41 (by decide) (fun c_11 => absurd c_11 (by decide)) (fun c_11 => ?_)
  refine va_ldcS hx hb hown hX2 dX5_textOf_44 ?_
  refine lv_goto (tgt := 50) hx hb dX5_textOf_46 (by decide) ?_
  have hFc := zz_free (wc := [(q_4, .inr (1, [.ref d2_7, .int 0, .int 0, .int (nI (0 + 0))])), (d2_7, .inl (cA2_8, k1, .inl f2_9))]) hD (fun q h => hA q (Nat.le_trans hS.1 h)) [3, 4] rfl
  have hFB := zz_free (wc := [(q_4, .inr (1, [.ref d2_7, .int 0, .int 0, .int (nI (0 + 0))])), (d2_7, .inl (cA2_8, k1, .inl f2_9))]) hDB (fun q h => hBge q (Nat.le_trans hT.1 h)) [3, 4] rfl
  have hO0 := zz_out zz_St_G hX0 hS hFc
  have hO1 := zz_out (zz_St_S qe be 0 fe) hX1 hS hFc
  refine zz_after0 (wr := [(h, .inr (9, [.int th, .ref ho, .ref hd, .ref hs, .ref hu, .ref hv, .int kn])), (ho, .inl (cR, 4, .inr (.inr (.inr (.inr R0))))), (y0, .inl (cI, 64, .inl f0))]) (va_runV (As := [.ref qe]) (rest := []) ⟨hx, hb, hml, hown, hts⟩ ((k_J4_append_15ec4 l D q_4 d2_7 0 (0 + 0) k1 f2_9 cA2_8 qe be 0 fe (by omega) (by omega) (h_10)) H.size) (cwV 1 hts gX5_textOf_J4_append_15ec4 rfl rfl rfl (by decide +kernel) ⟨Nat.le_of_ble_eq_true rfl, Nat.le_of_ble_eq_true rfl⟩) (zz_pV (zz_pre (av := [.ref q_4, .ref qe]) (tyc := [(cA2_8, .byte)]) (wc := [(q_4, .inr (1, [.ref d2_7, .int 0, .int 0, .int (nI (0 + 0))])), (d2_7, .inl (cA2_8, k1, .inl f2_9))]) (X := fun _ _ => True) (Xc := (fun A U => zz_G A U ∧ zz_S qe be 0 fe A U)) hP hD hK hS [3, 4] [3] rfl (by decide) rfl (zz_St_and zz_St_G (zz_St_S qe be 0 fe)) (fun U h1 h2 => ⟨hO0 U h1 h2, hO1 U h1 h2⟩)) (va_recv hK hP (ci := 1) (q0 := 3) rfl rfl)) rfl rfl hl.1 rfl (lv_room (Nat.le_of_ble_eq_true rfl)) dX5_textOf_50 ⟨by show 0 + 1 + 1 + 1 + 0 + 1 ≤ 486; omega, by show 0 + 4 + 16 + 1500 + 0 + 1500 ≤ 487296; omega⟩) hP hD hK hFc [3, 4] [0, 1, 2] rfl rfl (by decide) (by decide) (fun v w1 ty1 H1 L9 hq9 hz9 hk9 hL9 hP1 hDf hK1 => ?_)
  have hS1 := zz_S1 hS hz9 hk9 hFc hL9
  have hT1 := hT.go hz9 hk9 hFB
  have hD1 := hDf A hD hFc
  have hDB1 := hDf B hDB hFB
  obtain ⟨locs, elocs⟩ : ∃ z, z = locs ++ L9 := ⟨_, rfl⟩
  rw [← elocs] at hS1 ⊢
  clear elocs hz9 hk9 hL9 hDf
  obtain ⟨d2_12, cA2_13, f2_14, h_15, rfl, rfl, rfl⟩ := hq9
  clear hS hP hD hK hFc hO0 hO1 hT hDB hFB
  have hP : va_P D vwCl [(h, .inr (9, [.int th, .ref ho, .ref hd, .ref hs, .ref hu, .ref hv, .int kn])), (ho, .inl (cR, 4, .inr (.inr (.inr (.inr R0))))), (y0, .inl (cI, 64, .inl f0)), (q_4, .inr (1, [.ref d2_12, .int 0, .int 0, .int (nI ((0 + 0) + 0))])), (d2_12, .inl (cA2_13, (zz_cap ((0 + 0) + 0) k1), .inl f2_14))] H1 := hP1
  have hD : va_D A [(h, .inr (9, [.int th, .ref ho, .ref hd, .ref hs, .ref hu, .ref hv, .int kn])), (ho, .inl (cR, 4, .inr (.inr (.inr (.inr R0))))), (y0, .inl (cI, 64, .inl f0)), (q_4, .inr (1, [.ref d2_12, .int 0, .int 0, .int (nI ((0 + 0) + 0))])), (d2_12, .inl (cA2_13, (zz_cap ((0 + 0) + 0) k1), .inl f2_14))] := hD1
  have hK : va_K D vwCl [(cR, .array .int), (cI, .int), (cA2_6, .byte), (cA2_8, .byte), (cA2_13, .byte)] s := hK1
  have hS := hS1
  have hT := hT1
  have hDB : va_D B [(h, .inr (9, [.int th, .ref ho, .ref hd, .ref hs, .ref hu, .ref hv, .int kn])), (ho, .inl (cR, 4, .inr (.inr (.inr (.inr R0))))), (y0, .inl (cI, 64, .inl f0)), (q_4, .inr (1, [.ref d2_12, .int 0, .int 0, .int (nI ((0 + 0) + 0))])), (d2_12, .inl (cA2_13, (zz_cap ((0 + 0) + 0) k1), .inl f2_14))] := hDB1
  clear hT1 hDB1
  clear hP1 hD1 hK1 hS1
  obtain ⟨H, rfl⟩ : ∃ z, z = H1 := ⟨_, rfl⟩
  refine W.eq (g2 := F0 mt0 53 ls [.ref q_4]) rfl ?_
  obtain ⟨k2, ek2⟩ : ∃ z, z = (zz_cap ((0 + 0) + 0) k1) := ⟨_, rfl⟩
  rw [← ek2] at hP hD hDB
  have ok2 := zz_cap_or ((0 + 0) + 0) k1; rw [← ek2] at ok2
  have hk2 : k2 ≤ 1500 := by omega
  refine lv_iload hx hb dX5_textOf_53 (lv_at hl 0 rfl) ?_
  have hFc := zz_free (wc := [(q_4, .inr (1, [.ref d2_12, .int 0, .int 0, .int (nI ((0 + 0) + 0))])), (d2_12, .inl (cA2_13, k2, .inl f2_14))]) hD (fun q h => hA q (Nat.le_trans hS.1 h)) [3, 4] rfl
  have hFB := zz_free (wc := [(q_4, .inr (1, [.ref d2_12, .int 0, .int 0, .int (nI ((0 + 0) + 0))])), (d2_12, .inl (cA2_13, k2, .inl f2_14))]) hDB (fun q h => hBge q (Nat.le_trans hT.1 h)) [3, 4] rfl
  have hO0 := zz_out zz_St_G hX0 hS hFc
  refine zz_after0 (wr := [(h, .inr (9, [.int th, .ref ho, .ref hd, .ref hs, .ref hu, .ref hv, .int kn])), (ho, .inl (cR, 4, .inr (.inr (.inr (.inr R0))))), (y0, .inl (cI, 64, .inl f0))]) (va_runV (As := [.int (nI 10)]) (rest := []) ⟨hx, hb, hml, hown, hts⟩ ((k_J4_append_bf812 l D q_4 d2_12 0 ((0 + 0) + 0) k2 f2_14 cA2_13 10 (by omega) (by omega) (by omega) (by omega) (h_15)) H.size) (cwV 1 hts gX5_textOf_J4_append_bf812 rfl rfl rfl (by decide +kernel) ⟨Nat.le_of_ble_eq_true rfl, Nat.le_of_ble_eq_true rfl⟩) (zz_pV (zz_pre (av := [.ref q_4, .int (nI 10)]) (tyc := [(cA2_13, .byte)]) (wc := [(q_4, .inr (1, [.ref d2_12, .int 0, .int 0, .int (nI ((0 + 0) + 0))])), (d2_12, .inl (cA2_13, k2, .inl f2_14))]) (X := fun _ _ => True) (Xc := (fun A U => zz_G A U)) hP hD hK hS [3, 4] [4] rfl (by decide) rfl zz_St_G (fun U h1 h2 => hO0 U h1 h2)) (va_recv hK hP (ci := 1) (q0 := 3) rfl rfl)) rfl rfl hl.1 rfl (lv_room (Nat.le_of_ble_eq_true rfl)) dX5_textOf_55 ⟨by show 0 + 1 + 1 + 1 + 0 + 1 + 1 ≤ 486; omega, by show 0 + 4 + 16 + 1500 + 0 + 1500 + 1500 ≤ 487296; omega⟩) hP hD hK hFc [3, 4] [0, 1, 2] rfl rfl (by decide) (by decide) (fun v w1 ty1 H1 L9 hq9 hz9 hk9 hL9 hP1 hDf hK1 => ?_)
  have hS1 := zz_S1 hS hz9 hk9 hFc hL9
  have hT1 := hT.go hz9 hk9 hFB
  have hD1 := hDf A hD hFc
  have hDB1 := hDf B hDB hFB
  obtain ⟨locs, elocs⟩ : ∃ z, z = locs ++ L9 := ⟨_, rfl⟩
  rw [← elocs] at hS1 ⊢
  clear elocs hz9 hk9 hL9 hDf
  obtain ⟨d2_16, cA2_17, f2_18, h_19, rfl, rfl, rfl⟩ := hq9
  clear hS hP hD hK hFc hO0 hT hDB hFB
  have hP : va_P D vwCl [(h, .inr (9, [.int th, .ref ho, .ref hd, .ref hs, .ref hu, .ref hv, .int kn])), (ho, .inl (cR, 4, .inr (.inr (.inr (.inr R0))))), (y0, .inl (cI, 64, .inl f0)), (q_4, .inr (1, [.ref d2_16, .int 0, .int 0, .int (nI (((0 + 0) + 0) + 2))])), (d2_16, .inl (cA2_17, (zz_cap (((0 + 0) + 0) + 2) k2), .inl f2_18))] H1 := hP1
  have hD : va_D A [(h, .inr (9, [.int th, .ref ho, .ref hd, .ref hs, .ref hu, .ref hv, .int kn])), (ho, .inl (cR, 4, .inr (.inr (.inr (.inr R0))))), (y0, .inl (cI, 64, .inl f0)), (q_4, .inr (1, [.ref d2_16, .int 0, .int 0, .int (nI (((0 + 0) + 0) + 2))])), (d2_16, .inl (cA2_17, (zz_cap (((0 + 0) + 0) + 2) k2), .inl f2_18))] := hD1
  have hK : va_K D vwCl [(cR, .array .int), (cI, .int), (cA2_6, .byte), (cA2_8, .byte), (cA2_13, .byte), (cA2_17, .byte)] s := hK1
  have hS := hS1
  have hT := hT1
  have hDB : va_D B [(h, .inr (9, [.int th, .ref ho, .ref hd, .ref hs, .ref hu, .ref hv, .int kn])), (ho, .inl (cR, 4, .inr (.inr (.inr (.inr R0))))), (y0, .inl (cI, 64, .inl f0)), (q_4, .inr (1, [.ref d2_16, .int 0, .int 0, .int (nI (((0 + 0) + 0) + 2))])), (d2_16, .inl (cA2_17, (zz_cap (((0 + 0) + 0) + 2) k2), .inl f2_18))] := hDB1
  clear hT1 hDB1
  clear hP1 hD1 hK1 hS1
  obtain ⟨H, rfl⟩ : ∃ z, z = H1 := ⟨_, rfl⟩
  refine W.eq (g2 := F0 mt0 58 ls [.ref q_4]) rfl ?_
  obtain ⟨k3, ek3⟩ : ∃ z, z = (zz_cap (((0 + 0) + 0) + 2) k2) := ⟨_, rfl⟩
  rw [← ek3] at hP hD hDB
  have ok3 := zz_cap_or (((0 + 0) + 0) + 2) k2; rw [← ek3] at ok3
  have hk3 : k3 ≤ 1500 := by omega
  refine va_ldcS hx hb hown hX4 dX5_textOf_58 ?_
  have hFc := zz_free (wc := [(q_4, .inr (1, [.ref d2_16, .int 0, .int 0, .int (nI (((0 + 0) + 0) + 2))])), (d2_16, .inl (cA2_17, k3, .inl f2_18))]) hD (fun q h => hA q (Nat.le_trans hS.1 h)) [3, 4] rfl
  have hFB := zz_free (wc := [(q_4, .inr (1, [.ref d2_16, .int 0, .int 0, .int (nI (((0 + 0) + 0) + 2))])), (d2_16, .inl (cA2_17, k3, .inl f2_18))]) hDB (fun q h => hBge q (Nat.le_trans hT.1 h)) [3, 4] rfl
  have hO0 := zz_out zz_St_G hX0 hS hFc
  have hO1 := zz_out (zz_St_S qq bq 1 fq) hX3 hS hFc
  refine zz_after0 (wr := [(h, .inr (9, [.int th, .ref ho, .ref hd, .ref hs, .ref hu, .ref hv, .int kn])), (ho, .inl (cR, 4, .inr (.inr (.inr (.inr R0))))), (y0, .inl (cI, 64, .inl f0))]) (va_runV (As := [.ref qq]) (rest := []) ⟨hx, hb, hml, hown, hts⟩ ((k_J4_append_15ec4 l D q_4 d2_16 0 (((0 + 0) + 0) + 2) k3 f2_18 cA2_17 qq bq 1 fq (by omega) (by omega) (h_19)) H.size) (cwV 1 hts gX5_textOf_J4_append_15ec4 rfl rfl rfl (by decide +kernel) ⟨Nat.le_of_ble_eq_true rfl, Nat.le_of_ble_eq_true rfl⟩) (zz_pV (zz_pre (av := [.ref q_4, .ref qq]) (tyc := [(cA2_17, .byte)]) (wc := [(q_4, .inr (1, [.ref d2_16, .int 0, .int 0, .int (nI (((0 + 0) + 0) + 2))])), (d2_16, .inl (cA2_17, k3, .inl f2_18))]) (X := fun _ _ => True) (Xc := (fun A U => zz_G A U ∧ zz_S qq bq 1 fq A U)) hP hD hK hS [3, 4] [5] rfl (by decide) rfl (zz_St_and zz_St_G (zz_St_S qq bq 1 fq)) (fun U h1 h2 => ⟨hO0 U h1 h2, hO1 U h1 h2⟩)) (va_recv hK hP (ci := 1) (q0 := 3) rfl rfl)) rfl rfl hl.1 rfl (lv_room (Nat.le_of_ble_eq_true rfl)) dX5_textOf_60 ⟨by show 0 + 1 + 1 + 1 + 0 + 1 + 1 + 1 ≤ 486; omega, by show 0 + 4 + 16 + 1500 + 0 + 1500 + 1500 + 1500 ≤ 487296; omega⟩) hP hD hK hFc [3, 4] [0, 1, 2] rfl rfl (by decide) (by decide) (fun v w1 ty1 H1 L9 hq9 hz9 hk9 hL9 hP1 hDf hK1 => ?_)
  have hS1 := zz_S1 hS hz9 hk9 hFc hL9
  have hT1 := hT.go hz9 hk9 hFB
  have hD1 := hDf A hD hFc
  have hDB1 := hDf B hDB hFB
  obtain ⟨locs, elocs⟩ : ∃ z, z = locs ++ L9 := ⟨_, rfl⟩
  rw [← elocs] at hS1 ⊢
  clear elocs hz9 hk9 hL9 hDf
  obtain ⟨d2_20, cA2_21, f2_22, h_23, rfl, rfl, rfl⟩ := hq9
  clear hS hP hD hK hFc hO0 hO1 hT hDB hFB
  have hP : va_P D vwCl [(h, .inr (9, [.int th, .ref ho, .ref hd, .ref hs, .ref hu, .ref hv, .int kn])), (ho, .inl (cR, 4, .inr (.inr (.inr (.inr R0))))), (y0, .inl (cI, 64, .inl f0)), (q_4, .inr (1, [.ref d2_20, .int 0, .int 0, .int (nI ((((0 + 0) + 0) + 2) + 1))])), (d2_20, .inl (cA2_21, (zz_cap ((((0 + 0) + 0) + 2) + 1) k3), .inl f2_22))] H1 := hP1
  have hD : va_D A [(h, .inr (9, [.int th, .ref ho, .ref hd, .ref hs, .ref hu, .ref hv, .int kn])), (ho, .inl (cR, 4, .inr (.inr (.inr (.inr R0))))), (y0, .inl (cI, 64, .inl f0)), (q_4, .inr (1, [.ref d2_20, .int 0, .int 0, .int (nI ((((0 + 0) + 0) + 2) + 1))])), (d2_20, .inl (cA2_21, (zz_cap ((((0 + 0) + 0) + 2) + 1) k3), .inl f2_22))] := hD1
  have hK : va_K D vwCl [(cR, .array .int), (cI, .int), (cA2_6, .byte), (cA2_8, .byte), (cA2_13, .byte), (cA2_17, .byte), (cA2_21, .byte)] s := hK1
  have hS := hS1
  have hT := hT1
  have hDB : va_D B [(h, .inr (9, [.int th, .ref ho, .ref hd, .ref hs, .ref hu, .ref hv, .int kn])), (ho, .inl (cR, 4, .inr (.inr (.inr (.inr R0))))), (y0, .inl (cI, 64, .inl f0)), (q_4, .inr (1, [.ref d2_20, .int 0, .int 0, .int (nI ((((0 + 0) + 0) + 2) + 1))])), (d2_20, .inl (cA2_21, (zz_cap ((((0 + 0) + 0) + 2) + 1) k3), .inl f2_22))] := hDB1
  clear hT1 hDB1
  clear hP1 hD1 hK1 hS1
  obtain ⟨H, rfl⟩ : ∃ z, z = H1 := ⟨_, rfl⟩
  refine W.eq (g2 := F0 mt0 63 ls [.ref q_4]) rfl ?_
  obtain ⟨k4, ek4⟩ : ∃ z, z = (zz_cap ((((0 + 0) + 0) + 2) + 1) k3) := ⟨_, rfl⟩
  rw [← ek4] at hP hD hDB
  have ok4 := zz_cap_or ((((0 + 0) + 0) + 2) + 1) k3; rw [← ek4] at ok4
  have hk4 : k4 ≤ 1500 := by omega
  refine lv_aload_n hx hb dX5_textOf_63 rfl (lv_at hl 2 rfl) ?_
  refine va_get (D := D) (ci := 9) (v := .ref ho) (C := RX5) (T := TX5) (N := 7) hx hb hts (by decide +kernel) hown hK hP 0 rfl rfl 1 (by decide) (hts (.fieldLink RX5 11 "HashladderModel" "rows" "[[I") (by decide +kernel)) (fun _ h9 => h9) rfl dX5_textOf_64 ?_
  refine lv_iload_n hx hb dX5_textOf_67 rfl (lv_at hl 3 rfl) ?_
  refine zz_aldA hx hb hK hP 1 0 rfl rfl rfl ((show vp_in (0 : Int32) 4 from vp_in_nI (n := 0) (by decide) (by decide))) (v := .ref y0) (by rw [show ((0 : Int32)).toNatClampNeg = 0 from by decide, hR]; rfl) dX5_textOf_68 ?_
  refine lv_iload hx hb dX5_textOf_69 (lv_at hl 0 rfl) ?_
  refine va_iald hx hb hK hP 2 1 rfl rfl (vp_in_nI (by omega) (by decide)) dX5_textOf_71 ?_
  refine lv_topi (fun z_24 ez_24 => ?_)
  obtain rfl : z_24 = nI 99 := ez_24.trans (by rw [nI_clamp (by omega)]; exact hf2 10 (by omega) (by omega))
  have hFc := zz_free (wc := [(q_4, .inr (1, [.ref d2_20, .int 0, .int 0, .int (nI ((((0 + 0) + 0) + 2) + 1))])), (d2_20, .inl (cA2_21, k4, .inl f2_22))]) hD (fun q h => hA q (Nat.le_trans hS.1 h)) [3, 4] rfl
  have hFB := zz_free (wc := [(q_4, .inr (1, [.ref d2_20, .int 0, .int 0, .int (nI ((((0 + 0) + 0) + 2) + 1))])), (d2_20, .inl (cA2_21, k4, .inl f2_22))]) hDB (fun q h => hBge q (Nat.le_trans hT.1 h)) [3, 4] rfl
  have hO0 := zz_out zz_St_G hX0 hS hFc
  refine zz_after0 (wr := [(h, .inr (9, [.int th, .ref ho, .ref hd, .ref hs, .ref hu, .ref hv, .int kn])), (ho, .inl (cR, 4, .inr (.inr (.inr (.inr R0))))), (y0, .inl (cI, 64, .inl f0))]) (va_runV (As := [.int (nI 99)]) (rest := []) ⟨hx, hb, hml, hown, hts⟩ ((k_J4_append_bf812 l D q_4 d2_20 0 ((((0 + 0) + 0) + 2) + 1) k4 f2_22 cA2_21 99 (by decide) (by decide) (by omega) (by omega) (h_23)) H.size) (cwV 1 hts gX5_textOf_J4_append_bf812 rfl rfl rfl (by decide +kernel) ⟨Nat.le_of_ble_eq_true rfl, Nat.le_of_ble_eq_true rfl⟩) (zz_pV (zz_pre (av := [.ref q_4, .int (nI 99)]) (tyc := [(cA2_21, .byte)]) (wc := [(q_4, .inr (1, [.ref d2_20, .int 0, .int 0, .int (nI ((((0 + 0) + 0) + 2) + 1))])), (d2_20, .inl (cA2_21, k4, .inl f2_22))]) (X := fun _ _ => True) (Xc := (fun A U => zz_G A U)) hP hD hK hS [3, 4] [6] rfl (by decide) rfl zz_St_G (fun U h1 h2 => hO0 U h1 h2)) (va_recv hK hP (ci := 1) (q0 := 3) rfl rfl)) rfl rfl hl.1 rfl (lv_room (Nat.le_of_ble_eq_true rfl)) dX5_textOf_72 ⟨by show 0 + 1 + 1 + 1 + 0 + 1 + 1 + 1 + 1 ≤ 486; omega, by show 0 + 4 + 16 + 1500 + 0 + 1500 + 1500 + 1500 + 1500 ≤ 487296; omega⟩) hP hD hK hFc [3, 4] [0, 1, 2] rfl rfl (by decide) (by decide) (fun v w1 ty1 H1 L9 hq9 hz9 hk9 hL9 hP1 hDf hK1 => ?_)
  have hS1 := zz_S1 hS hz9 hk9 hFc hL9
  have hT1 := hT.go hz9 hk9 hFB
  have hD1 := hDf A hD hFc
  have hDB1 := hDf B hDB hFB
  obtain ⟨locs, elocs⟩ : ∃ z, z = locs ++ L9 := ⟨_, rfl⟩
  rw [← elocs] at hS1 ⊢
  clear elocs hz9 hk9 hL9 hDf
  obtain ⟨d2_25, cA2_26, f2_27, h_28, rfl, rfl, rfl⟩ := hq9
  clear hS hP hD hK hFc hO0 hT hDB hFB
  have hP : va_P D vwCl [(h, .inr (9, [.int th, .ref ho, .ref hd, .ref hs, .ref hu, .ref hv, .int kn])), (ho, .inl (cR, 4, .inr (.inr (.inr (.inr R0))))), (y0, .inl (cI, 64, .inl f0)), (q_4, .inr (1, [.ref d2_25, .int 0, .int 0, .int (nI (((((0 + 0) + 0) + 2) + 1) + 2))])), (d2_25, .inl (cA2_26, (zz_cap (((((0 + 0) + 0) + 2) + 1) + 2) k4), .inl f2_27))] H1 := hP1
  have hD : va_D A [(h, .inr (9, [.int th, .ref ho, .ref hd, .ref hs, .ref hu, .ref hv, .int kn])), (ho, .inl (cR, 4, .inr (.inr (.inr (.inr R0))))), (y0, .inl (cI, 64, .inl f0)), (q_4, .inr (1, [.ref d2_25, .int 0, .int 0, .int (nI (((((0 + 0) + 0) + 2) + 1) + 2))])), (d2_25, .inl (cA2_26, (zz_cap (((((0 + 0) + 0) + 2) + 1) + 2) k4), .inl f2_27))] := hD1
  have hK : va_K D vwCl [(cR, .array .int), (cI, .int), (cA2_6, .byte), (cA2_8, .byte), (cA2_13, .byte), (cA2_17, .byte), (cA2_21, .byte), (cA2_26, .byte)] s := hK1
  have hS := hS1
  have hT := hT1
  have hDB : va_D B [(h, .inr (9, [.int th, .ref ho, .ref hd, .ref hs, .ref hu, .ref hv, .int kn])), (ho, .inl (cR, 4, .inr (.inr (.inr (.inr R0))))), (y0, .inl (cI, 64, .inl f0)), (q_4, .inr (1, [.ref d2_25, .int 0, .int 0, .int (nI (((((0 + 0) + 0) + 2) + 1) + 2))])), (d2_25, .inl (cA2_26, (zz_cap (((((0 + 0) + 0) + 2) + 1) + 2) k4), .inl f2_27))] := hDB1
  clear hT1 hDB1
  clear hP1 hD1 hK1 hS1
  obtain ⟨H, rfl⟩ : ∃ z, z = H1 := ⟨_, rfl⟩
  refine W.eq (g2 := F0 mt0 75 ls [.ref q_4]) rfl ?_
  obtain ⟨k5, ek5⟩ : ∃ z, z = (zz_cap (((((0 + 0) + 0) + 2) + 1) + 2) k4) := ⟨_, rfl⟩
  rw [← ek5] at hP hD hDB
  have ok5 := zz_cap_or (((((0 + 0) + 0) + 2) + 1) + 2) k4; rw [← ek5] at ok5
  have hk5 : k5 ≤ 1500 := by omega
  have hlast : (((((0 + 0) + 0) + 2) + 1) + 2) < k5 := by omega
  have hFc := zz_free (wc := [(q_4, .inr (1, [.ref d2_25, .int 0, .int 0, .int (nI (((((0 + 0) + 0) + 2) + 1) + 2))])), (d2_25, .inl (cA2_26, k5, .inl f2_27))]) hD (fun q h => hA q (Nat.le_trans hS.1 h)) [3, 4] rfl
  have hFB := zz_free (wc := [(q_4, .inr (1, [.ref d2_25, .int 0, .int 0, .int (nI (((((0 + 0) + 0) + 2) + 1) + 2))])), (d2_25, .inl (cA2_26, k5, .inl f2_27))]) hDB (fun q h => hBge q (Nat.le_trans hT.1 h)) [3, 4] rfl
  have hO0 := zz_out zz_St_G hX0 hS hFc
  refine zz_after0 (wr := [(h, .inr (9, [.int th, .ref ho, .ref hd, .ref hs, .ref hu, .ref hv, .int kn])), (ho, .inl (cR, 4, .inr (.inr (.inr (.inr R0))))), (y0, .inl (cI, 64, .inl f0))]) (va_runV (As := []) (rest := []) ⟨hx, hb, hml, hown, hts⟩ ((k_J4_toString_0e30d l D q_4 d2_25 0 (((((0 + 0) + 0) + 2) + 1) + 2) k5 f2_27 cA2_26 (hlast) (by omega) (h_28)) H.size) (cwV 0 hts gX5_textOf_J4_toString_0e30d rfl rfl rfl (by decide +kernel) ⟨Nat.le_of_ble_eq_true rfl, Nat.le_of_ble_eq_true rfl⟩) (zz_pV (zz_pre (av := [.ref q_4]) (tyc := [(cA2_26, .byte)]) (wc := [(q_4, .inr (1, [.ref d2_25, .int 0, .int 0, .int (nI (((((0 + 0) + 0) + 2) + 1) + 2))])), (d2_25, .inl (cA2_26, k5, .inl f2_27))]) (X := fun _ _ => True) (Xc := (fun A U => zz_G A U)) hP hD hK hS [3, 4] [7] rfl (by decide) rfl zz_St_G (fun U h1 h2 => hO0 U h1 h2)) (va_recv hK hP (ci := 1) (q0 := 3) rfl rfl)) rfl rfl hl.1 rfl (lv_room (Nat.le_of_ble_eq_true rfl)) dX5_textOf_75 ⟨by show 0 + 1 + 1 + 1 + 0 + 1 + 1 + 1 + 1 + 2 ≤ 486; omega, by show 0 + 4 + 16 + 1500 + 0 + 1500 + 1500 + 1500 + 1500 + 1504 ≤ 487296; omega⟩) hP hD hK hFc [3, 4] [0, 1, 2] rfl rfl (by decide) (by decide) (fun v w1 ty1 H1 L9 hq9 hz9 hk9 hL9 hP1 hDf hK1 => ?_)
  have hS1 := zz_S1 hS hz9 hk9 hFc hL9
  have hT1 := hT.go hz9 hk9 hFB
  have hD1 := hDf A hD hFc
  have hDB1 := hDf B hDB hFB
  obtain ⟨locs, elocs⟩ : ∃ z, z = locs ++ L9 := ⟨_, rfl⟩
  rw [← elocs] at hS1 ⊢
  clear elocs hz9 hk9 hL9 hDf
  obtain ⟨t2_29, b2_30, cA2_31, f2_32, h_33, rfl, rfl, rfl⟩ := hq9
  clear hS hP hD hK hFc hO0 hT hDB hFB
  have hP : va_P D vwCl [(h, .inr (9, [.int th, .ref ho, .ref hd, .ref hs, .ref hu, .ref hv, .int kn])), (ho, .inl (cR, 4, .inr (.inr (.inr (.inr R0))))), (y0, .inl (cI, 64, .inl f0)), (t2_29, .inr (0, [.ref b2_30, .int 0, .int 0, .int 0])), (q_4, .inr (1, [.ref d2_25, .int 0, .int 0, .int (nI (((((0 + 0) + 0) + 2) + 1) + 2))])), (d2_25, .inl (cA2_26, k5, .inl f2_27)), (b2_30, .inl (cA2_31, (((((0 + 0) + 0) + 2) + 1) + 2), .inl f2_32))] H1 := hP1
  have hD : va_D A [(h, .inr (9, [.int th, .ref ho, .ref hd, .ref hs, .ref hu, .ref hv, .int kn])), (ho, .inl (cR, 4, .inr (.inr (.inr (.inr R0))))), (y0, .inl (cI, 64, .inl f0)), (t2_29, .inr (0, [.ref b2_30, .int 0, .int 0, .int 0])), (q_4, .inr (1, [.ref d2_25, .int 0, .int 0, .int (nI (((((0 + 0) + 0) + 2) + 1) + 2))])), (d2_25, .inl (cA2_26, k5, .inl f2_27)), (b2_30, .inl (cA2_31, (((((0 + 0) + 0) + 2) + 1) + 2), .inl f2_32))] := hD1
  have hK : va_K D vwCl [(cR, .array .int), (cI, .int), (cA2_6, .byte), (cA2_8, .byte), (cA2_13, .byte), (cA2_17, .byte), (cA2_21, .byte), (cA2_26, .byte), (cA2_26, .byte), (cA2_31, .byte)] s := hK1
  have hS := hS1
  have hT := hT1
  have hDB : va_D B [(h, .inr (9, [.int th, .ref ho, .ref hd, .ref hs, .ref hu, .ref hv, .int kn])), (ho, .inl (cR, 4, .inr (.inr (.inr (.inr R0))))), (y0, .inl (cI, 64, .inl f0)), (t2_29, .inr (0, [.ref b2_30, .int 0, .int 0, .int 0])), (q_4, .inr (1, [.ref d2_25, .int 0, .int 0, .int (nI (((((0 + 0) + 0) + 2) + 1) + 2))])), (d2_25, .inl (cA2_26, k5, .inl f2_27)), (b2_30, .inl (cA2_31, (((((0 + 0) + 0) + 2) + 1) + 2), .inl f2_32))] := hDB1
  clear hT1 hDB1
  clear hP1 hD1 hK1 hS1
  obtain ⟨H, rfl⟩ : ∃ z, z = H1 := ⟨_, rfl⟩
  refine W.eq (g2 := F0 mt0 78 ls [.ref t2_29]) rfl ?_
  refine lv_astore_n (lv' := [(3, .ref t2_29), (4, .int (nI 10)), (0, .ref h), (1, .int 0), (2, .ref qs)]) hx hb dX5_textOf_78 rfl hl (by decide) rfl (fun ls hl => ?_)
  refine lv_iinc (v := (nI (10 + 1))) (lv' := [(4, .int (nI (10 + 1))), (3, .ref t2_29), (0, .ref h), (1, .int 0), (2, .ref qs)]) hx hb dX5_textOf_79 hl (k := 1) rfl (nI_1 10) (by decide) rfl (fun ls hl => ?_)
  refine lv_goto (tgt := 6) hx hb dX5_textOf_82 (by decide) ?_
  rw [hB] at hT hDB
  obtain ⟨hLa, hda⟩ := zz_L.kept hL hd9 hT hDB
  obtain ⟨hLb, hdb⟩ := zz_L.add (ws' := [(h, .inr (9, [.int th, .ref ho, .ref hd, .ref hs, .ref hu, .ref hv, .int kn])), (ho, .inl (cR, 4, .inr (.inr (.inr (.inr R0))))), (y0, .inl (cI, 64, .inl f0)), (t2_29, .inr (0, [.ref b2_30, .int 0, .int 0, .int 0])), (q_4, .inr (1, [.ref d2_25, .int 0, .int 0, .int (nI (((((0 + 0) + 0) + 2) + 1) + 2))])), (b2_30, .inl (cA2_31, (((((0 + 0) + 0) + 2) + 1) + 2), .inl f2_32))]) hLa hda hD hP 5 rfl (zz_lo hAe hD [0, 1, 2] rfl 5 (by decide) rfl) [0, 1, 2, 3, 4, 6] rfl (by decide)
  have hLc := hLb
  have hdc := hdb.sub (ws' := [(h, .inr (9, [.int th, .ref ho, .ref hd, .ref hs, .ref hu, .ref hv, .int kn])), (ho, .inl (cR, 4, .inr (.inr (.inr (.inr R0))))), (y0, .inl (cI, 64, .inl f0)), (t2_29, .inr (0, [.ref b2_30, .int 0, .int 0, .int 0])), (b2_30, .inl (cA2_31, (((((0 + 0) + 0) + 2) + 1) + 2), .inl f2_32))]) [0, 1, 2, 3, 5] rfl
  have en : (((((0 + 0) + 0) + 2) + 1) + 2) = 5 := by omega
  have hP7 := hP.sub (ws' := [(h, .inr (9, [.int th, .ref ho, .ref hd, .ref hs, .ref hu, .ref hv, .int kn])), (ho, .inl (cR, 4, .inr (.inr (.inr (.inr R0))))), (y0, .inl (cI, 64, .inl f0)), (t2_29, .inr (0, [.ref b2_30, .int 0, .int 0, .int 0])), (b2_30, .inl (cA2_31, (((((0 + 0) + 0) + 2) + 1) + 2), .inl f2_32))]) [0, 1, 2, 3, 6] rfl
  have hD7 := hD.sub (ws' := [(h, .inr (9, [.int th, .ref ho, .ref hd, .ref hs, .ref hu, .ref hv, .int kn])), (ho, .inl (cR, 4, .inr (.inr (.inr (.inr R0))))), (y0, .inl (cI, 64, .inl f0)), (t2_29, .inr (0, [.ref b2_30, .int 0, .int 0, .int 0])), (b2_30, .inl (cA2_31, (((((0 + 0) + 0) + 2) + 1) + 2), .inl f2_32))]) [0, 1, 2, 3, 6] (by decide) rfl
  have hK7 := hK.sub (tys' := [(cR, .array .int), (cI, .int), (cA2_31, .byte)]) [0, 1, 9] rfl
  rw [en] at hP7 hD7 hdc
  refine W.widen (k := 9) (n := 9024) (by show 0 + 1 + 1 + 1 + 0 + 1 + 1 + 1 + 1 + 2 ≤ 9; omega) (by show 0 + 4 + 16 + 1500 + 0 + 1500 + 1500 + 1500 + 1500 + 1504 ≤ 9024; omega) ?_
  exact kk _ _ _ _ _ _ _ _ h_33 hK7 hP7 hD7 hS (lv_sub hl [0, 1, 2, 3, 4] rfl) (zz_L.le hLc (by omega)) hdc
set_option maxHeartbeats 4000000 in
set_option maxRecDepth 100000 in
theorem tx_C {p0 : Program} {l : Launch} {e0 : Env} {s : State} {mt0 : MethodId} {args : Array Value} {bl0 : List Frame} {meth0 : Method} {cd0 : Code} {Q : State → Prop} {A : Nat → Prop} {H : Heap} {locs : List Loc} {ls : Array Slot} (D : va_G) (h : Nat) (th : Int32) (ho : Nat) (hd : Nat) (hs : Nat) (hu : Nat) (hv : Nat) (kn : Int32) (cR : ClassId) (R0 : Nat → Option Nat) (y0 : Nat) (cI : ClassId) (f0 : Nat → Int32) (qe : Nat) (be : Nat) (fe : Nat → Int32) (qq : Nat) (bq : Nat) (fq : Nat → Int32) (qs : Nat) (bs : Nat) (fs : Nat → Int32) (j : Nat) (qm : Nat) (bm : Nat) (cM : ClassId) (fm : Nat → Int32) (Lg : List Nat) (K0 : Nat) (hC : zz_C p0 s mt0 meth0 cd0 args RX5 cX5_textOf 5 (some (.object "java/lang/String")) wsX5_textOf) (hX0 : zz_G A s) (hX1 : zz_S qe be 0 fe A s) (hX2 : vk_R RX5 116 "" qe s) (hX3 : zz_S qq bq 1 fq A s) (hX4 : vk_R RX5 134 "=" qq s) (hX5 : zz_S qs bs 2 fs A s) (hA : ∀ q, s.heap.size ≤ q → A q) (hK : va_K D vwCl [(cR, .array .int), (cI, .int), (cM, .byte)] s) (hP : va_P D vwCl [(h, .inr (9, [.int th, .ref ho, .ref hd, .ref hs, .ref hu, .ref hv, .int kn])), (ho, .inl (cR, 4, .inr (.inr (.inr (.inr R0))))), (y0, .inl (cI, 64, .inl f0)), (qm, .inr (0, [.ref bm, .int 0, .int 0, .int 0])), (bm, .inl (cM, (7 * j + 5), .inl fm))] H) (hD : va_D A [(h, .inr (9, [.int th, .ref ho, .ref hd, .ref hs, .ref hu, .ref hv, .int kn])), (ho, .inl (cR, 4, .inr (.inr (.inr (.inr R0))))), (y0, .inl (cI, 64, .inl f0)), (qm, .inr (0, [.ref bm, .int 0, .int 0, .int 0])), (bm, .inl (cM, (7 * j + 5), .inl fm))]) (hS : va_S A s.heap H locs) (hl : lv_has ls 5 [(4, .int (nI (11 + j))), (3, .ref qm), (0, .ref h), (1, .int 0), (2, .ref qs)]) (hR : R0 0 = some y0) (hf2 : ∀ n, 10 ≤ n → n < 64 → f0 n = 99) (hAe : va_A [(h, .inr (9, [.int th, .ref ho, .ref hd, .ref hs, .ref hu, .ref hv, .int kn])), (ho, .inl (cR, 4, .inr (.inr (.inr (.inr R0))))), (y0, .inl (cI, 64, .inl f0))] s.heap.size = A) (hj : j < 53) (hfm : sb_Fit fm) (hL : zz_L Lg s.heap.size H K0) (hd9 : zz_d Lg [(h, .inr (9, [.int th, .ref ho, .ref hd, .ref hs, .ref hu, .ref hv, .int kn])), (ho, .inl (cR, 4, .inr (.inr (.inr (.inr R0))))), (y0, .inl (cI, 64, .inl f0)), (qm, .inr (0, [.ref bm, .int 0, .int 0, .int 0])), (bm, .inl (cM, (7 * j + 5), .inl fm))]) (kk : ∀ (q' b' : Nat) (cA' : ClassId) (f' : Nat → Int32) (L' : List Nat) (H' : Heap) (locs' : List Loc) (ls' : Array Slot), sb_Fit f' → va_K D vwCl [(cR, .array .int), (cI, .int), (cA', .byte)] s → va_P D vwCl [(h, .inr (9, [.int th, .ref ho, .ref hd, .ref hs, .ref hu, .ref hv, .int kn])), (ho, .inl (cR, 4, .inr (.inr (.inr (.inr R0))))), (y0, .inl (cI, 64, .inl f0)), (q', .inr (0, [.ref b', .int 0, .int 0, .int 0])), (b', .inl (cA', (7 * (j + 1) + 5), .inl f'))] H' → va_D A [(h, .inr (9, [.int th, .ref ho, .ref hd, .ref hs, .ref hu, .ref hv, .int kn])), (ho, .inl (cR, 4, .inr (.inr (.inr (.inr R0))))), (y0, .inl (cI, 64, .inl f0)), (q', .inr (0, [.ref b', .int 0, .int 0, .int 0])), (b', .inl (cA', (7 * (j + 1) + 5), .inl f'))] → va_S A s.heap H' locs' → lv_has ls' 5 [(4, .int (nI ((11 + j) + 1))), (3, .ref q'), (0, .ref h), (1, .int 0), (2, .ref qs)] → zz_L L' s.heap.size H' (K0 + (14 * j + 18)) → zz_d L' [(h, .inr (9, [.int th, .ref ho, .ref hd, .ref hs, .ref hu, .ref hv, .int kn])), (ho, .inl (cR, 4, .inr (.inr (.inr (.inr R0))))), (y0, .inl (cI, 64, .inl f0)), (q', .inr (0, [.ref b', .int 0, .int 0, .int 0])), (b', .inl (cA', (7 * (j + 1) + 5), .inl f'))] → W p0 l e0 ({ frames := 8, cells := 486, slots := 487296, locals := 3600 } : Room) s mt0 args bl0 meth0 cd0 H' locs' (9 * (j + 1 + 1)) (9024 * (j + 1 + 1)) Q (F0 mt0 6 ls' [])) : W p0 l e0 ({ frames := 8, cells := 486, slots := 487296, locals := 3600 } : Room) s mt0 args bl0 meth0 cd0 H locs (9 * (j + 1)) (9024 * (j + 1)) Q (F0 mt0 6 ls []) := by
  obtain ⟨hx, hb, hml, hr, hown, hts, hlocks⟩ := hC
  have hDB := hD.self (sz := H.size)
  obtain ⟨B, hB⟩ : ∃ z, z = va_A [(h, .inr (9, [.int th, .ref ho, .ref hd, .ref hs, .ref hu, .ref hv, .int kn])), (ho, .inl (cR, 4, .inr (.inr (.inr (.inr R0))))), (y0, .inl (cI, 64, .inl f0)), (qm, .inr (0, [.ref bm, .int 0, .int 0, .int 0])), (bm, .inl (cM, (7 * j + 5), .inl fm))] H.size := ⟨_, rfl⟩
  rw [← hB] at hDB
  obtain ⟨Hk, hHk⟩ : ∃ z, z = H := ⟨_, rfl⟩
  have hBge : ∀ q, Hk.size ≤ q → B q := by intro q h; rw [hB, ← hHk]; exact Or.inr h
  have hT : zz_T B Hk H := by rw [hHk]; exact zz_T.rf
  rw [← hHk] at hB hL
  refine lv_iload hx hb dX5_textOf_6 (lv_at hl 0 rfl) ?_
  refine lv_bipush (v := 64) hx hb dX5_textOf_8 (by decide) ?_
  refine lv_icmp_ge (tgt := 85) hx hb dX5_textOf_10 (by decide) (fun c_1 => absurd c_1 (show ¬ nI 64 ≤ nI (11 + j) from nI_ge (by omega) (by decide))) (fun c_1 => ?_)
  refine lv_aload_n hx hb dX5_textOf_13 rfl (lv_at hl 2 rfl) ?_
  refine va_get (D := D) (ci := 9) (v := .ref ho) (C := RX5) (T := TX5) (N := 7) hx hb hts (by decide +kernel) hown hK hP 0 rfl rfl 1 (by decide) (hts (.fieldLink RX5 11 "HashladderModel" "rows" "[[I") (by decide +kernel)) (fun _ h9 => h9) rfl dX5_textOf_14 ?_
  refine lv_iload_n hx hb dX5_textOf_17 rfl (lv_at hl 3 rfl) ?_
  refine zz_aldA hx hb hK hP 1 0 rfl rfl rfl ((show vp_in (0 : Int32) 4 from vp_in_nI (n := 0) (by decide) (by decide))) (v := .ref y0) (by rw [show ((0 : Int32)).toNatClampNeg = 0 from by decide, hR]; rfl) dX5_textOf_18 ?_
  refine lv_iload hx hb dX5_textOf_19 (lv_at hl 0 rfl) ?_
  refine va_iald hx hb hK hP 2 1 rfl rfl (vp_in_nI (by omega) (by decide)) dX5_textOf_21 ?_
  refine lv_topi (fun z_2 ez_2 => ?_)
  obtain rfl : z_2 = nI 99 := ez_2.trans (by rw [nI_clamp (by omega)]; exact hf2 (11 + j) (by omega) (by omega))
  refine lv_iconst (v := (-1)) hx hb dX5_textOf_22 (by decide) ?_
  refine lv_icmp_eq (tgt := 79) hx hb dX5_textOf_23 (by decide) (fun c_3 => absurd c_3 (by decide)) (fun c_3 => ?_)
  refine zz_new0 (ci := 1) (fs := [.null, .int 0, .int 0, .int 0]) (C := RJ4) (T := TJ4) (N := 4) hx hb hts (by decide +kernel) tyJ4 tyJ4_ok hown (hts (.classLink RX5 118 RJ4) (by decide +kernel)) (hts (.instantiable RJ4 4) (by decide +kernel)) (hts (.initialized RJ4) (by decide +kernel)) hK hP rfl (fun j hj => by rcases (show j = 0 ∨ j = 1 ∨ j = 2 ∨ j = 3 by omega) with rfl | rfl | rfl | rfl <;> rfl) (by show 9 * (j + 1) + 1 ≤ 486; omega) (by show 9024 * (j + 1) + 4 ≤ 487296; omega) dX5_textOf_26 (fun q_4 H1 hq9 hz9 hk9 hP1 hDf => ?_)
  have hS1 := zz_S2 hS hz9 hk9
  have hT1 := hT.go (C := fun _ => False) (by omega) (fun x h1 _ => hk9 x h1) (fun _ h => h.elim)
  have hD1 := hDf A hD (hA _ (by rw [hq9]; exact hS.1))
  have hDB1 := hDf B hDB (hBge _ (by rw [hq9]; exact hT.1))
  clear hS hP hD hT hDB hz9 hk9 hDf hq9
  obtain ⟨H, rfl⟩ : ∃ z, z = H1 := ⟨_, rfl⟩
  have hS := hS1
  have hT := hT1
  have hDB : va_D B [(h, .inr (9, [.int th, .ref ho, .ref hd, .ref hs, .ref hu, .ref hv, .int kn])), (ho, .inl (cR, 4, .inr (.inr (.inr (.inr R0))))), (y0, .inl (cI, 64, .inl f0)), (qm, .inr (0, [.ref bm, .int 0, .int 0, .int 0])), (bm, .inl (cM, (7 * j + 5), .inl fm)), (q_4, .inr (1, [.null, .int 0, .int 0, .int 0]))] := hDB1
  have hP := hP1
  have hD := hD1
  clear hS1 hT1 hDB1 hP1 hD1
  have hP : va_P D vwCl [(h, .inr (9, [.int th, .ref ho, .ref hd, .ref hs, .ref hu, .ref hv, .int kn])), (ho, .inl (cR, 4, .inr (.inr (.inr (.inr R0))))), (y0, .inl (cI, 64, .inl f0)), (qm, .inr (0, [.ref bm, .int 0, .int 0, .int 0])), (bm, .inl (cM, (7 * j + 5), .inl fm)), (q_4, .inr (1, [.null, .int 0, .int 0, .int 0]))] H := hP
  have hD : va_D A [(h, .inr (9, [.int th, .ref ho, .ref hd, .ref hs, .ref hu, .ref hv, .int kn])), (ho, .inl (cR, 4, .inr (.inr (.inr (.inr R0))))), (y0, .inl (cI, 64, .inl f0)), (qm, .inr (0, [.ref bm, .int 0, .int 0, .int 0])), (bm, .inl (cM, (7 * j + 5), .inl fm)), (q_4, .inr (1, [.null, .int 0, .int 0, .int 0]))] := hD
  refine lv_dup hx hb dX5_textOf_29 rfl ?_
  have hFc := zz_free (wc := [(q_4, .inr (1, [.null, .int 0, .int 0, .int 0]))]) hD (fun q h => hA q (Nat.le_trans hS.1 h)) [5] rfl
  have hFB := zz_free (wc := [(q_4, .inr (1, [.null, .int 0, .int 0, .int 0]))]) hDB (fun q h => hBge q (Nat.le_trans hT.1 h)) [5] rfl
  have hO0 := zz_out zz_St_G hX0 hS hFc
  refine zz_after0 (wr := [(h, .inr (9, [.int th, .ref ho, .ref hd, .ref hs, .ref hu, .ref hv, .int kn])), (ho, .inl (cR, 4, .inr (.inr (.inr (.inr R0))))), (y0, .inl (cI, 64, .inl f0)), (qm, .inr (0, [.ref bm, .int 0, .int 0, .int 0])), (bm, .inl (cM, (7 * j + 5), .inl fm))]) (va_runI (As := []) (rest := [.ref q_4]) ⟨hx, hb, hml, hown, hts⟩ ((k_J4_init_da8c8 l D q_4) H.size) (cwI 0 hts gX5_textOf_J4_init_da8c8 rfl rfl rfl (hts (.initialized RJ4) (by decide +kernel)) (hts (.methodLink RX5 120 yJ4_init_da8c8) (by decide +kernel)) (hts (.instanceMethod yJ4_init_da8c8) (by decide +kernel)) rfl (by decide +kernel) ⟨Nat.le_of_ble_eq_true rfl, Nat.le_of_ble_eq_true rfl⟩) (zz_pre (av := [.ref q_4]) (tyc := []) (wc := [(q_4, .inr (1, [.null, .int 0, .int 0, .int 0]))]) (X := fun _ _ => True) (Xc := (fun A U => zz_G A U)) hP hD hK hS [5] [] rfl (by decide) rfl zz_St_G (fun U h1 h2 => hO0 U h1 h2)) rfl rfl hl.1 rfl (lv_room (Nat.le_of_ble_eq_true rfl)) dX5_textOf_30 ⟨by show 9 * (j + 1) + 1 + 1 ≤ 486; omega, by show 9024 * (j + 1) + 4 + 16 ≤ 487296; omega⟩) hP hD hK hFc [5] [0, 1, 2, 3, 4] rfl rfl (by decide) (by decide) (fun v w1 ty1 H1 L9 hq9 hz9 hk9 hL9 hP1 hDf hK1 => ?_)
  have hS1 := zz_S1 hS hz9 hk9 hFc hL9
  have hT1 := hT.go hz9 hk9 hFB
  have hD1 := hDf A hD hFc
  have hDB1 := hDf B hDB hFB
  obtain ⟨locs, elocs⟩ : ∃ z, z = locs ++ L9 := ⟨_, rfl⟩
  rw [← elocs] at hS1 ⊢
  clear elocs hz9 hk9 hL9 hDf
  obtain ⟨d2_5, cA2_6, rfl, rfl, rfl⟩ := hq9
  clear hS hP hD hK hFc hO0 hT hDB hFB
  have hP : va_P D vwCl [(h, .inr (9, [.int th, .ref ho, .ref hd, .ref hs, .ref hu, .ref hv, .int kn])), (ho, .inl (cR, 4, .inr (.inr (.inr (.inr R0))))), (y0, .inl (cI, 64, .inl f0)), (qm, .inr (0, [.ref bm, .int 0, .int 0, .int 0])), (bm, .inl (cM, (7 * j + 5), .inl fm)), (q_4, .inr (1, [.ref d2_5, .int 0, .int 0, .int (nI 0)])), (d2_5, .inl (cA2_6, 16, .inl (fun _ => 0)))] H1 := hP1
  have hD : va_D A [(h, .inr (9, [.int th, .ref ho, .ref hd, .ref hs, .ref hu, .ref hv, .int kn])), (ho, .inl (cR, 4, .inr (.inr (.inr (.inr R0))))), (y0, .inl (cI, 64, .inl f0)), (qm, .inr (0, [.ref bm, .int 0, .int 0, .int 0])), (bm, .inl (cM, (7 * j + 5), .inl fm)), (q_4, .inr (1, [.ref d2_5, .int 0, .int 0, .int (nI 0)])), (d2_5, .inl (cA2_6, 16, .inl (fun _ => 0)))] := hD1
  have hK : va_K D vwCl [(cR, .array .int), (cI, .int), (cM, .byte), (cA2_6, .byte)] s := hK1
  have hS := hS1
  have hT := hT1
  have hDB : va_D B [(h, .inr (9, [.int th, .ref ho, .ref hd, .ref hs, .ref hu, .ref hv, .int kn])), (ho, .inl (cR, 4, .inr (.inr (.inr (.inr R0))))), (y0, .inl (cI, 64, .inl f0)), (qm, .inr (0, [.ref bm, .int 0, .int 0, .int 0])), (bm, .inl (cM, (7 * j + 5), .inl fm)), (q_4, .inr (1, [.ref d2_5, .int 0, .int 0, .int (nI 0)])), (d2_5, .inl (cA2_6, 16, .inl (fun _ => 0)))] := hDB1
  clear hT1 hDB1
  clear hP1 hD1 hK1 hS1
  obtain ⟨H, rfl⟩ : ∃ z, z = H1 := ⟨_, rfl⟩
  refine W.eq (g2 := F0 mt0 33 ls [.ref q_4]) rfl ?_
  refine lv_aload_n hx hb dX5_textOf_33 rfl (lv_at hl 1 rfl) ?_
  have hFc := zz_free (wc := [(q_4, .inr (1, [.ref d2_5, .int 0, .int 0, .int (nI 0)])), (d2_5, .inl (cA2_6, 16, .inl (fun _ => 0)))]) hD (fun q h => hA q (Nat.le_trans hS.1 h)) [5, 6] rfl
  have hFB := zz_free (wc := [(q_4, .inr (1, [.ref d2_5, .int 0, .int 0, .int (nI 0)])), (d2_5, .inl (cA2_6, 16, .inl (fun _ => 0)))]) hDB (fun q h => hBge q (Nat.le_trans hT.1 h)) [5, 6] rfl
  have hO0 := zz_out zz_St_G hX0 hS hFc
  have hO1 := zz_ofW hts (by decide +kernel) hP hD hK (wc := [(q_4, .inr (1, [.ref d2_5, .int 0, .int 0, .int (nI 0)])), (d2_5, .inl (cA2_6, 16, .inl (fun _ => 0)))]) [5, 6] rfl 3 4 2 (by decide) (by decide) rfl rfl rfl (by omega) (hfm)
  refine zz_after0 (wr := [(h, .inr (9, [.int th, .ref ho, .ref hd, .ref hs, .ref hu, .ref hv, .int kn])), (ho, .inl (cR, 4, .inr (.inr (.inr (.inr R0))))), (y0, .inl (cI, 64, .inl f0)), (qm, .inr (0, [.ref bm, .int 0, .int 0, .int 0])), (bm, .inl (cM, (7 * j + 5), .inl fm))]) (va_runV (As := [.ref qm]) (rest := []) ⟨hx, hb, hml, hown, hts⟩ ((k_J4_append_15ec4 l D q_4 d2_5 0 0 16 (fun _ => 0) cA2_6 qm bm (7 * j + 5) fm (by omega) (by omega) (sb_fit0)) H.size) (cwV 1 hts gX5_textOf_J4_append_15ec4 rfl rfl rfl (by decide +kernel) ⟨Nat.le_of_ble_eq_true rfl, Nat.le_of_ble_eq_true rfl⟩) (zz_pV (zz_pre (av := [.ref q_4, .ref qm]) (tyc := [(cA2_6, .byte)]) (wc := [(q_4, .inr (1, [.ref d2_5, .int 0, .int 0, .int (nI 0)])), (d2_5, .inl (cA2_6, 16, .inl (fun _ => 0)))]) (X := fun _ _ => True) (Xc := (fun A U => zz_G A U ∧ zz_S qm bm (7 * j + 5) fm A U)) hP hD hK hS [5, 6] [3] rfl (by decide) rfl (zz_St_and zz_St_G (zz_St_S qm bm (7 * j + 5) fm)) (fun U h1 h2 => ⟨hO0 U h1 h2, hO1 U h1 h2⟩)) (va_recv hK hP (ci := 1) (q0 := 5) rfl rfl)) rfl rfl hl.1 rfl (lv_room (Nat.le_of_ble_eq_true rfl)) dX5_textOf_34 ⟨by show 9 * (j + 1) + 1 + 1 + 1 ≤ 486; omega, by show 9024 * (j + 1) + 4 + 16 + 1500 ≤ 487296; omega⟩) hP hD hK hFc [5, 6] [0, 1, 2, 3, 4] rfl rfl (by decide) (by decide) (fun v w1 ty1 H1 L9 hq9 hz9 hk9 hL9 hP1 hDf hK1 => ?_)
  have hS1 := zz_S1 hS hz9 hk9 hFc hL9
  have hT1 := hT.go hz9 hk9 hFB
  have hD1 := hDf A hD hFc
  have hDB1 := hDf B hDB hFB
  obtain ⟨locs, elocs⟩ : ∃ z, z = locs ++ L9 := ⟨_, rfl⟩
  rw [← elocs] at hS1 ⊢
  clear elocs hz9 hk9 hL9 hDf
  obtain ⟨d2_7, cA2_8, f2_9, h_10, rfl, rfl, rfl⟩ := hq9
  clear hS hP hD hK hFc hO0 hO1 hT hDB hFB
  have hP : va_P D vwCl [(h, .inr (9, [.int th, .ref ho, .ref hd, .ref hs, .ref hu, .ref hv, .int kn])), (ho, .inl (cR, 4, .inr (.inr (.inr (.inr R0))))), (y0, .inl (cI, 64, .inl f0)), (qm, .inr (0, [.ref bm, .int 0, .int 0, .int 0])), (bm, .inl (cM, (7 * j + 5), .inl fm)), (q_4, .inr (1, [.ref d2_7, .int 0, .int 0, .int (nI (0 + (7 * j + 5)))])), (d2_7, .inl (cA2_8, (zz_cap (0 + (7 * j + 5)) 16), .inl f2_9))] H1 := hP1
  have hD : va_D A [(h, .inr (9, [.int th, .ref ho, .ref hd, .ref hs, .ref hu, .ref hv, .int kn])), (ho, .inl (cR, 4, .inr (.inr (.inr (.inr R0))))), (y0, .inl (cI, 64, .inl f0)), (qm, .inr (0, [.ref bm, .int 0, .int 0, .int 0])), (bm, .inl (cM, (7 * j + 5), .inl fm)), (q_4, .inr (1, [.ref d2_7, .int 0, .int 0, .int (nI (0 + (7 * j + 5)))])), (d2_7, .inl (cA2_8, (zz_cap (0 + (7 * j + 5)) 16), .inl f2_9))] := hD1
  have hK : va_K D vwCl [(cR, .array .int), (cI, .int), (cM, .byte), (cA2_6, .byte), (cA2_8, .byte)] s := hK1
  have hS := hS1
  have hT := hT1
  have hDB : va_D B [(h, .inr (9, [.int th, .ref ho, .ref hd, .ref hs, .ref hu, .ref hv, .int kn])), (ho, .inl (cR, 4, .inr (.inr (.inr (.inr R0))))), (y0, .inl (cI, 64, .inl f0)), (qm, .inr (0, [.ref bm, .int 0, .int 0, .int 0])), (bm, .inl (cM, (7 * j + 5), .inl fm)), (q_4, .inr (1, [.ref d2_7, .int 0, .int 0, .int (nI (0 + (7 * j + 5)))])), (d2_7, .inl (cA2_8, (zz_cap (0 + (7 * j + 5)) 16), .inl f2_9))] := hDB1
  clear hT1 hDB1
  clear hP1 hD1 hK1 hS1
  obtain ⟨H, rfl⟩ : ∃ z, z = H1 := ⟨_, rfl⟩
  refine W.eq (g2 := F0 mt0 37 ls [.ref q_4]) rfl ?_
  obtain ⟨k1, ek1⟩ : ∃ z, z = (zz_cap (0 + (7 * j + 5)) 16) := ⟨_, rfl⟩
  rw [← ek1] at hP hD hDB
  have ok1 := zz_cap_or (0 + (7 * j + 5)) 16; rw [← ek1] at ok1
  have hk1 : k1 ≤ 1500 := by omega
  refine lv_aload_n hx hb dX5_textOf_37 rfl (lv_at hl 1 rfl) ?_
  have hFc := zz_free (wc := []) hD (fun q h => hA q (Nat.le_trans hS.1 h)) [] rfl
  have hFB := zz_free (wc := []) hDB (fun q h => hBge q (Nat.le_trans hT.1 h)) [] rfl
  have hO0 := zz_ofW hts (by decide +kernel) hP hD hK (wc := []) [] rfl 3 4 2 (by decide) (by decide) rfl rfl rfl (by omega) (hfm)
  refine zz_after0 (wr := [(h, .inr (9, [.int th, .ref ho, .ref hd, .ref hs, .ref hu, .ref hv, .int kn])), (ho, .inl (cR, 4, .inr (.inr (.inr (.inr R0))))), (y0, .inl (cI, 64, .inl f0)), (qm, .inr (0, [.ref bm, .int 0, .int 0, .int 0])), (bm, .inl (cM, (7 * j + 5), .inl fm)), (q_4, .inr (1, [.ref d2_7, .int 0, .int 0, .int (nI (0 + (7 * j + 5)))])), (d2_7, .inl (cA2_8, k1, .inl f2_9))]) (va_runV (As := []) (rest := [.ref q_4]) ⟨hx, hb, hml, hown, hts⟩ ((k_isEmpty_1 l D qm bm (7 * j + 5) fm (by omega) (by omega)) H.size) (cwV 0 hts gX5_textOf_J0_isEmpty_aae02 rfl rfl rfl (by decide +kernel) ⟨Nat.le_of_ble_eq_true rfl, Nat.le_of_ble_eq_true rfl⟩) (zz_pV (zz_pre (av := [.ref qm]) (tyc := []) (wc := []) (X := fun _ _ => True) (Xc := (fun A U => zz_S qm bm (7 * j + 5) fm A U)) hP hD hK hS [] [] rfl (by decide) rfl (zz_St_S qm bm (7 * j + 5) fm) (fun U h1 h2 => hO0 U h1 h2)) (va_recv hK hP (ci := 0) (q0 := 3) rfl rfl)) rfl rfl hl.1 rfl (lv_room (Nat.le_of_ble_eq_true rfl)) dX5_textOf_38 ⟨by show 9 * (j + 1) + 1 + 1 + 1 + 0 ≤ 486; omega, by show 9024 * (j + 1) + 4 + 16 + 1500 + 0 ≤ 487296; omega⟩) hP hD hK hFc [] [0, 1, 2, 3, 4, 5, 6] rfl rfl (by decide) (by decide) (fun v w1 ty1 H1 L9 hq9 hz9 hk9 hL9 hP1 hDf hK1 => ?_)
  have hS1 := zz_S1 hS hz9 hk9 hFc hL9
  have hT1 := hT.go hz9 hk9 hFB
  have hD1 := hDf A hD hFc
  have hDB1 := hDf B hDB hFB
  obtain ⟨locs, elocs⟩ : ∃ z, z = locs ++ L9 := ⟨_, rfl⟩
  rw [← elocs] at hS1 ⊢
  clear elocs hz9 hk9 hL9 hDf
  obtain ⟨rfl, rfl, rfl⟩ := hq9
  clear hS hP hD hK hFc hO0 hT hDB hFB
  have hP : va_P D vwCl [(h, .inr (9, [.int th, .ref ho, .ref hd, .ref hs, .ref hu, .ref hv, .int kn])), (ho, .inl (cR, 4, .inr (.inr (.inr (.inr R0))))), (y0, .inl (cI, 64, .inl f0)), (qm, .inr (0, [.ref bm, .int 0, .int 0, .int 0])), (bm, .inl (cM, (7 * j + 5), .inl fm)), (q_4, .inr (1, [.ref d2_7, .int 0, .int 0, .int (nI (0 + (7 * j + 5)))])), (d2_7, .inl (cA2_8, k1, .inl f2_9))] H1 := hP1
  have hD : va_D A [(h, .inr (9, [.int th, .ref ho, .ref hd, .ref hs, .ref hu, .ref hv, .int kn])), (ho, .inl (cR, 4, .inr (.inr (.inr (.inr R0))))), (y0, .inl (cI, 64, .inl f0)), (qm, .inr (0, [.ref bm, .int 0, .int 0, .int 0])), (bm, .inl (cM, (7 * j + 5), .inl fm)), (q_4, .inr (1, [.ref d2_7, .int 0, .int 0, .int (nI (0 + (7 * j + 5)))])), (d2_7, .inl (cA2_8, k1, .inl f2_9))] := hD1
  have hK : va_K D vwCl [(cR, .array .int), (cI, .int), (cM, .byte), (cA2_6, .byte), (cA2_8, .byte)] s := hK1
  have hS := hS1
  have hT := hT1
  have hDB : va_D B [(h, .inr (9, [.int th, .ref ho, .ref hd, .ref hs, .ref hu, .ref hv, .int kn])), (ho, .inl (cR, 4, .inr (.inr (.inr (.inr R0))))), (y0, .inl (cI, 64, .inl f0)), (qm, .inr (0, [.ref bm, .int 0, .int 0, .int 0])), (bm, .inl (cM, (7 * j + 5), .inl fm)), (q_4, .inr (1, [.ref d2_7, .int 0, .int 0, .int (nI (0 + (7 * j + 5)))])), (d2_7, .inl (cA2_8, k1, .inl f2_9))] := hDB1
  clear hT1 hDB1
  clear hP1 hD1 hK1 hS1
  obtain ⟨H, rfl⟩ : ∃ z, z = H1 := ⟨_, rfl⟩
  refine W.eq (g2 := F0 mt0 41 ls [.int 0, .ref q_4]) rfl ?_
  refine lv_if_eq (tgt := 49) hx hb dX5_textOf_41 (by decide) (fun c_11 => ?_) (fun c_11 => absurd (rfl) c_11)
  refine lv_aload_n hx hb dX5_textOf_49 rfl (lv_at hl 4 rfl) ?_
  have hFc := zz_free (wc := [(q_4, .inr (1, [.ref d2_7, .int 0, .int 0, .int (nI (0 + (7 * j + 5)))])), (d2_7, .inl (cA2_8, k1, .inl f2_9))]) hD (fun q h => hA q (Nat.le_trans hS.1 h)) [5, 6] rfl
  have hFB := zz_free (wc := [(q_4, .inr (1, [.ref d2_7, .int 0, .int 0, .int (nI (0 + (7 * j + 5)))])), (d2_7, .inl (cA2_8, k1, .inl f2_9))]) hDB (fun q h => hBge q (Nat.le_trans hT.1 h)) [5, 6] rfl
  have hO0 := zz_out zz_St_G hX0 hS hFc
  have hO1 := zz_out (zz_St_S qs bs 2 fs) hX5 hS hFc
  refine zz_after0 (wr := [(h, .inr (9, [.int th, .ref ho, .ref hd, .ref hs, .ref hu, .ref hv, .int kn])), (ho, .inl (cR, 4, .inr (.inr (.inr (.inr R0))))), (y0, .inl (cI, 64, .inl f0)), (qm, .inr (0, [.ref bm, .int 0, .int 0, .int 0])), (bm, .inl (cM, (7 * j + 5), .inl fm))]) (va_runV (As := [.ref qs]) (rest := []) ⟨hx, hb, hml, hown, hts⟩ ((k_J4_append_15ec4 l D q_4 d2_7 0 (0 + (7 * j + 5)) k1 f2_9 cA2_8 qs bs 2 fs (by omega) (by omega) (h_10)) H.size) (cwV 1 hts gX5_textOf_J4_append_15ec4 rfl rfl rfl (by decide +kernel) ⟨Nat.le_of_ble_eq_true rfl, Nat.le_of_ble_eq_true rfl⟩) (zz_pV (zz_pre (av := [.ref q_4, .ref qs]) (tyc := [(cA2_8, .byte)]) (wc := [(q_4, .inr (1, [.ref d2_7, .int 0, .int 0, .int (nI (0 + (7 * j + 5)))])), (d2_7, .inl (cA2_8, k1, .inl f2_9))]) (X := fun _ _ => True) (Xc := (fun A U => zz_G A U ∧ zz_S qs bs 2 fs A U)) hP hD hK hS [5, 6] [4] rfl (by decide) rfl (zz_St_and zz_St_G (zz_St_S qs bs 2 fs)) (fun U h1 h2 => ⟨hO0 U h1 h2, hO1 U h1 h2⟩)) (va_recv hK hP (ci := 1) (q0 := 5) rfl rfl)) rfl rfl hl.1 rfl (lv_room (Nat.le_of_ble_eq_true rfl)) dX5_textOf_50 ⟨by show 9 * (j + 1) + 1 + 1 + 1 + 0 + 1 ≤ 486; omega, by show 9024 * (j + 1) + 4 + 16 + 1500 + 0 + 1500 ≤ 487296; omega⟩) hP hD hK hFc [5, 6] [0, 1, 2, 3, 4] rfl rfl (by decide) (by decide) (fun v w1 ty1 H1 L9 hq9 hz9 hk9 hL9 hP1 hDf hK1 => ?_)
  have hS1 := zz_S1 hS hz9 hk9 hFc hL9
  have hT1 := hT.go hz9 hk9 hFB
  have hD1 := hDf A hD hFc
  have hDB1 := hDf B hDB hFB
  obtain ⟨locs, elocs⟩ : ∃ z, z = locs ++ L9 := ⟨_, rfl⟩
  rw [← elocs] at hS1 ⊢
  clear elocs hz9 hk9 hL9 hDf
  obtain ⟨d2_12, cA2_13, f2_14, h_15, rfl, rfl, rfl⟩ := hq9
  clear hS hP hD hK hFc hO0 hO1 hT hDB hFB
  have hP : va_P D vwCl [(h, .inr (9, [.int th, .ref ho, .ref hd, .ref hs, .ref hu, .ref hv, .int kn])), (ho, .inl (cR, 4, .inr (.inr (.inr (.inr R0))))), (y0, .inl (cI, 64, .inl f0)), (qm, .inr (0, [.ref bm, .int 0, .int 0, .int 0])), (bm, .inl (cM, (7 * j + 5), .inl fm)), (q_4, .inr (1, [.ref d2_12, .int 0, .int 0, .int (nI ((0 + (7 * j + 5)) + 2))])), (d2_12, .inl (cA2_13, (zz_cap ((0 + (7 * j + 5)) + 2) k1), .inl f2_14))] H1 := hP1
  have hD : va_D A [(h, .inr (9, [.int th, .ref ho, .ref hd, .ref hs, .ref hu, .ref hv, .int kn])), (ho, .inl (cR, 4, .inr (.inr (.inr (.inr R0))))), (y0, .inl (cI, 64, .inl f0)), (qm, .inr (0, [.ref bm, .int 0, .int 0, .int 0])), (bm, .inl (cM, (7 * j + 5), .inl fm)), (q_4, .inr (1, [.ref d2_12, .int 0, .int 0, .int (nI ((0 + (7 * j + 5)) + 2))])), (d2_12, .inl (cA2_13, (zz_cap ((0 + (7 * j + 5)) + 2) k1), .inl f2_14))] := hD1
  have hK : va_K D vwCl [(cR, .array .int), (cI, .int), (cM, .byte), (cA2_6, .byte), (cA2_8, .byte), (cA2_13, .byte)] s := hK1
  have hS := hS1
  have hT := hT1
  have hDB : va_D B [(h, .inr (9, [.int th, .ref ho, .ref hd, .ref hs, .ref hu, .ref hv, .int kn])), (ho, .inl (cR, 4, .inr (.inr (.inr (.inr R0))))), (y0, .inl (cI, 64, .inl f0)), (qm, .inr (0, [.ref bm, .int 0, .int 0, .int 0])), (bm, .inl (cM, (7 * j + 5), .inl fm)), (q_4, .inr (1, [.ref d2_12, .int 0, .int 0, .int (nI ((0 + (7 * j + 5)) + 2))])), (d2_12, .inl (cA2_13, (zz_cap ((0 + (7 * j + 5)) + 2) k1), .inl f2_14))] := hDB1
  clear hT1 hDB1
  clear hP1 hD1 hK1 hS1
  obtain ⟨H, rfl⟩ : ∃ z, z = H1 := ⟨_, rfl⟩
  refine W.eq (g2 := F0 mt0 53 ls [.ref q_4]) rfl ?_
  obtain ⟨k2, ek2⟩ : ∃ z, z = (zz_cap ((0 + (7 * j + 5)) + 2) k1) := ⟨_, rfl⟩
  rw [← ek2] at hP hD hDB
  have ok2 := zz_cap_or ((0 + (7 * j + 5)) + 2) k1; rw [← ek2] at ok2
  have hk2 : k2 ≤ 1500 := by omega
  refine lv_iload hx hb dX5_textOf_53 (lv_at hl 0 rfl) ?_
  have hFc := zz_free (wc := [(q_4, .inr (1, [.ref d2_12, .int 0, .int 0, .int (nI ((0 + (7 * j + 5)) + 2))])), (d2_12, .inl (cA2_13, k2, .inl f2_14))]) hD (fun q h => hA q (Nat.le_trans hS.1 h)) [5, 6] rfl
  have hFB := zz_free (wc := [(q_4, .inr (1, [.ref d2_12, .int 0, .int 0, .int (nI ((0 + (7 * j + 5)) + 2))])), (d2_12, .inl (cA2_13, k2, .inl f2_14))]) hDB (fun q h => hBge q (Nat.le_trans hT.1 h)) [5, 6] rfl
  have hO0 := zz_out zz_St_G hX0 hS hFc
  refine zz_after0 (wr := [(h, .inr (9, [.int th, .ref ho, .ref hd, .ref hs, .ref hu, .ref hv, .int kn])), (ho, .inl (cR, 4, .inr (.inr (.inr (.inr R0))))), (y0, .inl (cI, 64, .inl f0)), (qm, .inr (0, [.ref bm, .int 0, .int 0, .int 0])), (bm, .inl (cM, (7 * j + 5), .inl fm))]) (va_runV (As := [.int (nI (11 + j))]) (rest := []) ⟨hx, hb, hml, hown, hts⟩ ((k_J4_append_bf812 l D q_4 d2_12 0 ((0 + (7 * j + 5)) + 2) k2 f2_14 cA2_13 (11 + j) (by omega) (by omega) (by omega) (by omega) (h_15)) H.size) (cwV 1 hts gX5_textOf_J4_append_bf812 rfl rfl rfl (by decide +kernel) ⟨Nat.le_of_ble_eq_true rfl, Nat.le_of_ble_eq_true rfl⟩) (zz_pV (zz_pre (av := [.ref q_4, .int (nI (11 + j))]) (tyc := [(cA2_13, .byte)]) (wc := [(q_4, .inr (1, [.ref d2_12, .int 0, .int 0, .int (nI ((0 + (7 * j + 5)) + 2))])), (d2_12, .inl (cA2_13, k2, .inl f2_14))]) (X := fun _ _ => True) (Xc := (fun A U => zz_G A U)) hP hD hK hS [5, 6] [5] rfl (by decide) rfl zz_St_G (fun U h1 h2 => hO0 U h1 h2)) (va_recv hK hP (ci := 1) (q0 := 5) rfl rfl)) rfl rfl hl.1 rfl (lv_room (Nat.le_of_ble_eq_true rfl)) dX5_textOf_55 ⟨by show 9 * (j + 1) + 1 + 1 + 1 + 0 + 1 + 1 ≤ 486; omega, by show 9024 * (j + 1) + 4 + 16 + 1500 + 0 + 1500 + 1500 ≤ 487296; omega⟩) hP hD hK hFc [5, 6] [0, 1, 2, 3, 4] rfl rfl (by decide) (by decide) (fun v w1 ty1 H1 L9 hq9 hz9 hk9 hL9 hP1 hDf hK1 => ?_)
  have hS1 := zz_S1 hS hz9 hk9 hFc hL9
  have hT1 := hT.go hz9 hk9 hFB
  have hD1 := hDf A hD hFc
  have hDB1 := hDf B hDB hFB
  obtain ⟨locs, elocs⟩ : ∃ z, z = locs ++ L9 := ⟨_, rfl⟩
  rw [← elocs] at hS1 ⊢
  clear elocs hz9 hk9 hL9 hDf
  obtain ⟨d2_16, cA2_17, f2_18, h_19, rfl, rfl, rfl⟩ := hq9
  clear hS hP hD hK hFc hO0 hT hDB hFB
  have hP : va_P D vwCl [(h, .inr (9, [.int th, .ref ho, .ref hd, .ref hs, .ref hu, .ref hv, .int kn])), (ho, .inl (cR, 4, .inr (.inr (.inr (.inr R0))))), (y0, .inl (cI, 64, .inl f0)), (qm, .inr (0, [.ref bm, .int 0, .int 0, .int 0])), (bm, .inl (cM, (7 * j + 5), .inl fm)), (q_4, .inr (1, [.ref d2_16, .int 0, .int 0, .int (nI (((0 + (7 * j + 5)) + 2) + 2))])), (d2_16, .inl (cA2_17, (zz_cap (((0 + (7 * j + 5)) + 2) + 2) k2), .inl f2_18))] H1 := hP1
  have hD : va_D A [(h, .inr (9, [.int th, .ref ho, .ref hd, .ref hs, .ref hu, .ref hv, .int kn])), (ho, .inl (cR, 4, .inr (.inr (.inr (.inr R0))))), (y0, .inl (cI, 64, .inl f0)), (qm, .inr (0, [.ref bm, .int 0, .int 0, .int 0])), (bm, .inl (cM, (7 * j + 5), .inl fm)), (q_4, .inr (1, [.ref d2_16, .int 0, .int 0, .int (nI (((0 + (7 * j + 5)) + 2) + 2))])), (d2_16, .inl (cA2_17, (zz_cap (((0 + (7 * j + 5)) + 2) + 2) k2), .inl f2_18))] := hD1
  have hK : va_K D vwCl [(cR, .array .int), (cI, .int), (cM, .byte), (cA2_6, .byte), (cA2_8, .byte), (cA2_13, .byte), (cA2_17, .byte)] s := hK1
  have hS := hS1
  have hT := hT1
  have hDB : va_D B [(h, .inr (9, [.int th, .ref ho, .ref hd, .ref hs, .ref hu, .ref hv, .int kn])), (ho, .inl (cR, 4, .inr (.inr (.inr (.inr R0))))), (y0, .inl (cI, 64, .inl f0)), (qm, .inr (0, [.ref bm, .int 0, .int 0, .int 0])), (bm, .inl (cM, (7 * j + 5), .inl fm)), (q_4, .inr (1, [.ref d2_16, .int 0, .int 0, .int (nI (((0 + (7 * j + 5)) + 2) + 2))])), (d2_16, .inl (cA2_17, (zz_cap (((0 + (7 * j + 5)) + 2) + 2) k2), .inl f2_18))] := hDB1
  clear hT1 hDB1
  clear hP1 hD1 hK1 hS1
  obtain ⟨H, rfl⟩ : ∃ z, z = H1 := ⟨_, rfl⟩
  refine W.eq (g2 := F0 mt0 58 ls [.ref q_4]) rfl ?_
  obtain ⟨k3, ek3⟩ : ∃ z, z = (zz_cap (((0 + (7 * j + 5)) + 2) + 2) k2) := ⟨_, rfl⟩
  rw [← ek3] at hP hD hDB
  have ok3 := zz_cap_or (((0 + (7 * j + 5)) + 2) + 2) k2; rw [← ek3] at ok3
  have hk3 : k3 ≤ 1500 := by omega
  refine va_ldcS hx hb hown hX4 dX5_textOf_58 ?_
  have hFc := zz_free (wc := [(q_4, .inr (1, [.ref d2_16, .int 0, .int 0, .int (nI (((0 + (7 * j + 5)) + 2) + 2))])), (d2_16, .inl (cA2_17, k3, .inl f2_18))]) hD (fun q h => hA q (Nat.le_trans hS.1 h)) [5, 6] rfl
  have hFB := zz_free (wc := [(q_4, .inr (1, [.ref d2_16, .int 0, .int 0, .int (nI (((0 + (7 * j + 5)) + 2) + 2))])), (d2_16, .inl (cA2_17, k3, .inl f2_18))]) hDB (fun q h => hBge q (Nat.le_trans hT.1 h)) [5, 6] rfl
  have hO0 := zz_out zz_St_G hX0 hS hFc
  have hO1 := zz_out (zz_St_S qq bq 1 fq) hX3 hS hFc
  refine zz_after0 (wr := [(h, .inr (9, [.int th, .ref ho, .ref hd, .ref hs, .ref hu, .ref hv, .int kn])), (ho, .inl (cR, 4, .inr (.inr (.inr (.inr R0))))), (y0, .inl (cI, 64, .inl f0)), (qm, .inr (0, [.ref bm, .int 0, .int 0, .int 0])), (bm, .inl (cM, (7 * j + 5), .inl fm))]) (va_runV (As := [.ref qq]) (rest := []) ⟨hx, hb, hml, hown, hts⟩ ((k_J4_append_15ec4 l D q_4 d2_16 0 (((0 + (7 * j + 5)) + 2) + 2) k3 f2_18 cA2_17 qq bq 1 fq (by omega) (by omega) (h_19)) H.size) (cwV 1 hts gX5_textOf_J4_append_15ec4 rfl rfl rfl (by decide +kernel) ⟨Nat.le_of_ble_eq_true rfl, Nat.le_of_ble_eq_true rfl⟩) (zz_pV (zz_pre (av := [.ref q_4, .ref qq]) (tyc := [(cA2_17, .byte)]) (wc := [(q_4, .inr (1, [.ref d2_16, .int 0, .int 0, .int (nI (((0 + (7 * j + 5)) + 2) + 2))])), (d2_16, .inl (cA2_17, k3, .inl f2_18))]) (X := fun _ _ => True) (Xc := (fun A U => zz_G A U ∧ zz_S qq bq 1 fq A U)) hP hD hK hS [5, 6] [6] rfl (by decide) rfl (zz_St_and zz_St_G (zz_St_S qq bq 1 fq)) (fun U h1 h2 => ⟨hO0 U h1 h2, hO1 U h1 h2⟩)) (va_recv hK hP (ci := 1) (q0 := 5) rfl rfl)) rfl rfl hl.1 rfl (lv_room (Nat.le_of_ble_eq_true rfl)) dX5_textOf_60 ⟨by show 9 * (j + 1) + 1 + 1 + 1 + 0 + 1 + 1 + 1 ≤ 486; omega, by show 9024 * (j + 1) + 4 + 16 + 1500 + 0 + 1500 + 1500 + 1500 ≤ 487296; omega⟩) hP hD hK hFc [5, 6] [0, 1, 2, 3, 4] rfl rfl (by decide) (by decide) (fun v w1 ty1 H1 L9 hq9 hz9 hk9 hL9 hP1 hDf hK1 => ?_)
  have hS1 := zz_S1 hS hz9 hk9 hFc hL9
  have hT1 := hT.go hz9 hk9 hFB
  have hD1 := hDf A hD hFc
  have hDB1 := hDf B hDB hFB
  obtain ⟨locs, elocs⟩ : ∃ z, z = locs ++ L9 := ⟨_, rfl⟩
  rw [← elocs] at hS1 ⊢
  clear elocs hz9 hk9 hL9 hDf
  obtain ⟨d2_20, cA2_21, f2_22, h_23, rfl, rfl, rfl⟩ := hq9
  clear hS hP hD hK hFc hO0 hO1 hT hDB hFB
  have hP : va_P D vwCl [(h, .inr (9, [.int th, .ref ho, .ref hd, .ref hs, .ref hu, .ref hv, .int kn])), (ho, .inl (cR, 4, .inr (.inr (.inr (.inr R0))))), (y0, .inl (cI, 64, .inl f0)), (qm, .inr (0, [.ref bm, .int 0, .int 0, .int 0])), (bm, .inl (cM, (7 * j + 5), .inl fm)), (q_4, .inr (1, [.ref d2_20, .int 0, .int 0, .int (nI ((((0 + (7 * j + 5)) + 2) + 2) + 1))])), (d2_20, .inl (cA2_21, (zz_cap ((((0 + (7 * j + 5)) + 2) + 2) + 1) k3), .inl f2_22))] H1 := hP1
  have hD : va_D A [(h, .inr (9, [.int th, .ref ho, .ref hd, .ref hs, .ref hu, .ref hv, .int kn])), (ho, .inl (cR, 4, .inr (.inr (.inr (.inr R0))))), (y0, .inl (cI, 64, .inl f0)), (qm, .inr (0, [.ref bm, .int 0, .int 0, .int 0])), (bm, .inl (cM, (7 * j + 5), .inl fm)), (q_4, .inr (1, [.ref d2_20, .int 0, .int 0, .int (nI ((((0 + (7 * j + 5)) + 2) + 2) + 1))])), (d2_20, .inl (cA2_21, (zz_cap ((((0 + (7 * j + 5)) + 2) + 2) + 1) k3), .inl f2_22))] := hD1
  have hK : va_K D vwCl [(cR, .array .int), (cI, .int), (cM, .byte), (cA2_6, .byte), (cA2_8, .byte), (cA2_13, .byte), (cA2_17, .byte), (cA2_21, .byte)] s := hK1
  have hS := hS1
  have hT := hT1
  have hDB : va_D B [(h, .inr (9, [.int th, .ref ho, .ref hd, .ref hs, .ref hu, .ref hv, .int kn])), (ho, .inl (cR, 4, .inr (.inr (.inr (.inr R0))))), (y0, .inl (cI, 64, .inl f0)), (qm, .inr (0, [.ref bm, .int 0, .int 0, .int 0])), (bm, .inl (cM, (7 * j + 5), .inl fm)), (q_4, .inr (1, [.ref d2_20, .int 0, .int 0, .int (nI ((((0 + (7 * j + 5)) + 2) + 2) + 1))])), (d2_20, .inl (cA2_21, (zz_cap ((((0 + (7 * j + 5)) + 2) + 2) + 1) k3), .inl f2_22))] := hDB1
  clear hT1 hDB1
  clear hP1 hD1 hK1 hS1
  obtain ⟨H, rfl⟩ : ∃ z, z = H1 := ⟨_, rfl⟩
  refine W.eq (g2 := F0 mt0 63 ls [.ref q_4]) rfl ?_
  obtain ⟨k4, ek4⟩ : ∃ z, z = (zz_cap ((((0 + (7 * j + 5)) + 2) + 2) + 1) k3) := ⟨_, rfl⟩
  rw [← ek4] at hP hD hDB
  have ok4 := zz_cap_or ((((0 + (7 * j + 5)) + 2) + 2) + 1) k3; rw [← ek4] at ok4
  have hk4 : k4 ≤ 1500 := by omega
  refine lv_aload_n hx hb dX5_textOf_63 rfl (lv_at hl 2 rfl) ?_
  refine va_get (D := D) (ci := 9) (v := .ref ho) (C := RX5) (T := TX5) (N := 7) hx hb hts (by decide +kernel) hown hK hP 0 rfl rfl 1 (by decide) (hts (.fieldLink RX5 11 "HashladderModel" "rows" "[[I") (by decide +kernel)) (fun _ h9 => h9) rfl dX5_textOf_64 ?_
  refine lv_iload_n hx hb dX5_textOf_67 rfl (lv_at hl 3 rfl) ?_
  refine zz_aldA hx hb hK hP 1 0 rfl rfl rfl ((show vp_in (0 : Int32) 4 from vp_in_nI (n := 0) (by decide) (by decide))) (v := .ref y0) (by rw [show ((0 : Int32)).toNatClampNeg = 0 from by decide, hR]; rfl) dX5_textOf_68 ?_
  refine lv_iload hx hb dX5_textOf_69 (lv_at hl 0 rfl) ?_
  refine va_iald hx hb hK hP 2 1 rfl rfl (vp_in_nI (by omega) (by decide)) dX5_textOf_71 ?_
  refine lv_topi (fun z_24 ez_24 => ?_)
  obtain rfl : z_24 = nI 99 := ez_24.trans (by rw [nI_clamp (by omega)]; exact hf2 (11 + j) (by omega) (by omega))
  have hFc := zz_free (wc := [(q_4, .inr (1, [.ref d2_20, .int 0, .int 0, .int (nI ((((0 + (7 * j + 5)) + 2) + 2) + 1))])), (d2_20, .inl (cA2_21, k4, .inl f2_22))]) hD (fun q h => hA q (Nat.le_trans hS.1 h)) [5, 6] rfl
  have hFB := zz_free (wc := [(q_4, .inr (1, [.ref d2_20, .int 0, .int 0, .int (nI ((((0 + (7 * j + 5)) + 2) + 2) + 1))])), (d2_20, .inl (cA2_21, k4, .inl f2_22))]) hDB (fun q h => hBge q (Nat.le_trans hT.1 h)) [5, 6] rfl
  have hO0 := zz_out zz_St_G hX0 hS hFc
  refine zz_after0 (wr := [(h, .inr (9, [.int th, .ref ho, .ref hd, .ref hs, .ref hu, .ref hv, .int kn])), (ho, .inl (cR, 4, .inr (.inr (.inr (.inr R0))))), (y0, .inl (cI, 64, .inl f0)), (qm, .inr (0, [.ref bm, .int 0, .int 0, .int 0])), (bm, .inl (cM, (7 * j + 5), .inl fm))]) (va_runV (As := [.int (nI 99)]) (rest := []) ⟨hx, hb, hml, hown, hts⟩ ((k_J4_append_bf812 l D q_4 d2_20 0 ((((0 + (7 * j + 5)) + 2) + 2) + 1) k4 f2_22 cA2_21 99 (by decide) (by decide) (by omega) (by omega) (h_23)) H.size) (cwV 1 hts gX5_textOf_J4_append_bf812 rfl rfl rfl (by decide +kernel) ⟨Nat.le_of_ble_eq_true rfl, Nat.le_of_ble_eq_true rfl⟩) (zz_pV (zz_pre (av := [.ref q_4, .int (nI 99)]) (tyc := [(cA2_21, .byte)]) (wc := [(q_4, .inr (1, [.ref d2_20, .int 0, .int 0, .int (nI ((((0 + (7 * j + 5)) + 2) + 2) + 1))])), (d2_20, .inl (cA2_21, k4, .inl f2_22))]) (X := fun _ _ => True) (Xc := (fun A U => zz_G A U)) hP hD hK hS [5, 6] [7] rfl (by decide) rfl zz_St_G (fun U h1 h2 => hO0 U h1 h2)) (va_recv hK hP (ci := 1) (q0 := 5) rfl rfl)) rfl rfl hl.1 rfl (lv_room (Nat.le_of_ble_eq_true rfl)) dX5_textOf_72 ⟨by show 9 * (j + 1) + 1 + 1 + 1 + 0 + 1 + 1 + 1 + 1 ≤ 486; omega, by show 9024 * (j + 1) + 4 + 16 + 1500 + 0 + 1500 + 1500 + 1500 + 1500 ≤ 487296; omega⟩) hP hD hK hFc [5, 6] [0, 1, 2, 3, 4] rfl rfl (by decide) (by decide) (fun v w1 ty1 H1 L9 hq9 hz9 hk9 hL9 hP1 hDf hK1 => ?_)
  have hS1 := zz_S1 hS hz9 hk9 hFc hL9
  have hT1 := hT.go hz9 hk9 hFB
  have hD1 := hDf A hD hFc
  have hDB1 := hDf B hDB hFB
  obtain ⟨locs, elocs⟩ : ∃ z, z = locs ++ L9 := ⟨_, rfl⟩
  rw [← elocs] at hS1 ⊢
  clear elocs hz9 hk9 hL9 hDf
  obtain ⟨d2_25, cA2_26, f2_27, h_28, rfl, rfl, rfl⟩ := hq9
  clear hS hP hD hK hFc hO0 hT hDB hFB
  have hP : va_P D vwCl [(h, .inr (9, [.int th, .ref ho, .ref hd, .ref hs, .ref hu, .ref hv, .int kn])), (ho, .inl (cR, 4, .inr (.inr (.inr (.inr R0))))), (y0, .inl (cI, 64, .inl f0)), (qm, .inr (0, [.ref bm, .int 0, .int 0, .int 0])), (bm, .inl (cM, (7 * j + 5), .inl fm)), (q_4, .inr (1, [.ref d2_25, .int 0, .int 0, .int (nI (((((0 + (7 * j + 5)) + 2) + 2) + 1) + 2))])), (d2_25, .inl (cA2_26, (zz_cap (((((0 + (7 * j + 5)) + 2) + 2) + 1) + 2) k4), .inl f2_27))] H1 := hP1
  have hD : va_D A [(h, .inr (9, [.int th, .ref ho, .ref hd, .ref hs, .ref hu, .ref hv, .int kn])), (ho, .inl (cR, 4, .inr (.inr (.inr (.inr R0))))), (y0, .inl (cI, 64, .inl f0)), (qm, .inr (0, [.ref bm, .int 0, .int 0, .int 0])), (bm, .inl (cM, (7 * j + 5), .inl fm)), (q_4, .inr (1, [.ref d2_25, .int 0, .int 0, .int (nI (((((0 + (7 * j + 5)) + 2) + 2) + 1) + 2))])), (d2_25, .inl (cA2_26, (zz_cap (((((0 + (7 * j + 5)) + 2) + 2) + 1) + 2) k4), .inl f2_27))] := hD1
  have hK : va_K D vwCl [(cR, .array .int), (cI, .int), (cM, .byte), (cA2_6, .byte), (cA2_8, .byte), (cA2_13, .byte), (cA2_17, .byte), (cA2_21, .byte), (cA2_26, .byte)] s := hK1
  have hS := hS1
  have hT := hT1
  have hDB : va_D B [(h, .inr (9, [.int th, .ref ho, .ref hd, .ref hs, .ref hu, .ref hv, .int kn])), (ho, .inl (cR, 4, .inr (.inr (.inr (.inr R0))))), (y0, .inl (cI, 64, .inl f0)), (qm, .inr (0, [.ref bm, .int 0, .int 0, .int 0])), (bm, .inl (cM, (7 * j + 5), .inl fm)), (q_4, .inr (1, [.ref d2_25, .int 0, .int 0, .int (nI (((((0 + (7 * j + 5)) + 2) + 2) + 1) + 2))])), (d2_25, .inl (cA2_26, (zz_cap (((((0 + (7 * j + 5)) + 2) + 2) + 1) + 2) k4), .inl f2_27))] := hDB1
  clear hT1 hDB1
  clear hP1 hD1 hK1 hS1
  obtain ⟨H, rfl⟩ : ∃ z, z = H1 := ⟨_, rfl⟩
  refine W.eq (g2 := F0 mt0 75 ls [.ref q_4]) rfl ?_
  obtain ⟨k5, ek5⟩ : ∃ z, z = (zz_cap (((((0 + (7 * j + 5)) + 2) + 2) + 1) + 2) k4) := ⟨_, rfl⟩
  rw [← ek5] at hP hD hDB
  have ok5 := zz_cap_or (((((0 + (7 * j + 5)) + 2) + 2) + 1) + 2) k4; rw [← ek5] at ok5
  have hk5 : k5 ≤ 1500 := by omega
  have hlast : (((((0 + (7 * j + 5)) + 2) + 2) + 1) + 2) < k5 := by omega
  have hFc := zz_free (wc := [(q_4, .inr (1, [.ref d2_25, .int 0, .int 0, .int (nI (((((0 + (7 * j + 5)) + 2) + 2) + 1) + 2))])), (d2_25, .inl (cA2_26, k5, .inl f2_27))]) hD (fun q h => hA q (Nat.le_trans hS.1 h)) [5, 6] rfl
  have hFB := zz_free (wc := [(q_4, .inr (1, [.ref d2_25, .int 0, .int 0, .int (nI (((((0 + (7 * j + 5)) + 2) + 2) + 1) + 2))])), (d2_25, .inl (cA2_26, k5, .inl f2_27))]) hDB (fun q h => hBge q (Nat.le_trans hT.1 h)) [5, 6] rfl
  have hO0 := zz_out zz_St_G hX0 hS hFc
  refine zz_after0 (wr := [(h, .inr (9, [.int th, .ref ho, .ref hd, .ref hs, .ref hu, .ref hv, .int kn])), (ho, .inl (cR, 4, .inr (.inr (.inr (.inr R0))))), (y0, .inl (cI, 64, .inl f0)), (qm, .inr (0, [.ref bm, .int 0, .int 0, .int 0])), (bm, .inl (cM, (7 * j + 5), .inl fm))]) (va_runV (As := []) (rest := []) ⟨hx, hb, hml, hown, hts⟩ ((k_J4_toString_0e30d l D q_4 d2_25 0 (((((0 + (7 * j + 5)) + 2) + 2) + 1) + 2) k5 f2_27 cA2_26 (hlast) (by omega) (h_28)) H.size) (cwV 0 hts gX5_textOf_J4_toString_0e30d rfl rfl rfl (by decide +kernel) ⟨Nat.le_of_ble_eq_true rfl, Nat.le_of_ble_eq_true rfl⟩) (zz_pV (zz_pre (av := [.ref q_4]) (tyc := [(cA2_26, .byte)]) (wc := [(q_4, .inr (1, [.ref d2_25, .int 0, .int 0, .int (nI (((((0 + (7 * j + 5)) + 2) + 2) + 1) + 2))])), (d2_25, .inl (cA2_26, k5, .inl f2_27))]) (X := fun _ _ => True) (Xc := (fun A U => zz_G A U)) hP hD hK hS [5, 6] [8] rfl (by decide) rfl zz_St_G (fun U h1 h2 => hO0 U h1 h2)) (va_recv hK hP (ci := 1) (q0 := 5) rfl rfl)) rfl rfl hl.1 rfl (lv_room (Nat.le_of_ble_eq_true rfl)) dX5_textOf_75 ⟨by show 9 * (j + 1) + 1 + 1 + 1 + 0 + 1 + 1 + 1 + 1 + 2 ≤ 486; omega, by show 9024 * (j + 1) + 4 + 16 + 1500 + 0 + 1500 + 1500 + 1500 + 1500 + 1504 ≤ 487296; omega⟩) hP hD hK hFc [5, 6] [0, 1, 2, 3, 4] rfl rfl (by decide) (by decide) (fun v w1 ty1 H1 L9 hq9 hz9 hk9 hL9 hP1 hDf hK1 => ?_)
  have hS1 := zz_S1 hS hz9 hk9 hFc hL9
  have hT1 := hT.go hz9 hk9 hFB
  have hD1 := hDf A hD hFc
  have hDB1 := hDf B hDB hFB
  obtain ⟨locs, elocs⟩ : ∃ z, z = locs ++ L9 := ⟨_, rfl⟩
  rw [← elocs] at hS1 ⊢
  clear elocs hz9 hk9 hL9 hDf
  obtain ⟨t2_29, b2_30, cA2_31, f2_32, h_33, rfl, rfl, rfl⟩ := hq9
  clear hS hP hD hK hFc hO0 hT hDB hFB
  have hP : va_P D vwCl [(h, .inr (9, [.int th, .ref ho, .ref hd, .ref hs, .ref hu, .ref hv, .int kn])), (ho, .inl (cR, 4, .inr (.inr (.inr (.inr R0))))), (y0, .inl (cI, 64, .inl f0)), (qm, .inr (0, [.ref bm, .int 0, .int 0, .int 0])), (bm, .inl (cM, (7 * j + 5), .inl fm)), (t2_29, .inr (0, [.ref b2_30, .int 0, .int 0, .int 0])), (q_4, .inr (1, [.ref d2_25, .int 0, .int 0, .int (nI (((((0 + (7 * j + 5)) + 2) + 2) + 1) + 2))])), (d2_25, .inl (cA2_26, k5, .inl f2_27)), (b2_30, .inl (cA2_31, (((((0 + (7 * j + 5)) + 2) + 2) + 1) + 2), .inl f2_32))] H1 := hP1
  have hD : va_D A [(h, .inr (9, [.int th, .ref ho, .ref hd, .ref hs, .ref hu, .ref hv, .int kn])), (ho, .inl (cR, 4, .inr (.inr (.inr (.inr R0))))), (y0, .inl (cI, 64, .inl f0)), (qm, .inr (0, [.ref bm, .int 0, .int 0, .int 0])), (bm, .inl (cM, (7 * j + 5), .inl fm)), (t2_29, .inr (0, [.ref b2_30, .int 0, .int 0, .int 0])), (q_4, .inr (1, [.ref d2_25, .int 0, .int 0, .int (nI (((((0 + (7 * j + 5)) + 2) + 2) + 1) + 2))])), (d2_25, .inl (cA2_26, k5, .inl f2_27)), (b2_30, .inl (cA2_31, (((((0 + (7 * j + 5)) + 2) + 2) + 1) + 2), .inl f2_32))] := hD1
  have hK : va_K D vwCl [(cR, .array .int), (cI, .int), (cM, .byte), (cA2_6, .byte), (cA2_8, .byte), (cA2_13, .byte), (cA2_17, .byte), (cA2_21, .byte), (cA2_26, .byte), (cA2_26, .byte), (cA2_31, .byte)] s := hK1
  have hS := hS1
  have hT := hT1
  have hDB : va_D B [(h, .inr (9, [.int th, .ref ho, .ref hd, .ref hs, .ref hu, .ref hv, .int kn])), (ho, .inl (cR, 4, .inr (.inr (.inr (.inr R0))))), (y0, .inl (cI, 64, .inl f0)), (qm, .inr (0, [.ref bm, .int 0, .int 0, .int 0])), (bm, .inl (cM, (7 * j + 5), .inl fm)), (t2_29, .inr (0, [.ref b2_30, .int 0, .int 0, .int 0])), (q_4, .inr (1, [.ref d2_25, .int 0, .int 0, .int (nI (((((0 + (7 * j + 5)) + 2) + 2) + 1) + 2))])), (d2_25, .inl (cA2_26, k5, .inl f2_27)), (b2_30, .inl (cA2_31, (((((0 + (7 * j + 5)) + 2) + 2) + 1) + 2), .inl f2_32))] := hDB1
  clear hT1 hDB1
  clear hP1 hD1 hK1 hS1
  obtain ⟨H, rfl⟩ : ∃ z, z = H1 := ⟨_, rfl⟩
  refine W.eq (g2 := F0 mt0 78 ls [.ref t2_29]) rfl ?_
  refine lv_astore_n (lv' := [(3, .ref t2_29), (4, .int (nI (11 + j))), (0, .ref h), (1, .int 0), (2, .ref qs)]) hx hb dX5_textOf_78 rfl hl (by decide) rfl (fun ls hl => ?_)
  refine lv_iinc (v := (nI ((11 + j) + 1))) (lv' := [(4, .int (nI ((11 + j) + 1))), (3, .ref t2_29), (0, .ref h), (1, .int 0), (2, .ref qs)]) hx hb dX5_textOf_79 hl (k := 1) rfl (nI_1 (11 + j)) (by decide) rfl (fun ls hl => ?_)
  refine lv_goto (tgt := 6) hx hb dX5_textOf_82 (by decide) ?_
  rw [hB] at hT hDB
  obtain ⟨hLa, hda⟩ := zz_L.kept hL hd9 hT hDB
  obtain ⟨hLb, hdb⟩ := zz_L.add (ws' := [(h, .inr (9, [.int th, .ref ho, .ref hd, .ref hs, .ref hu, .ref hv, .int kn])), (ho, .inl (cR, 4, .inr (.inr (.inr (.inr R0))))), (y0, .inl (cI, 64, .inl f0)), (qm, .inr (0, [.ref bm, .int 0, .int 0, .int 0])), (bm, .inl (cM, (7 * j + 5), .inl fm)), (t2_29, .inr (0, [.ref b2_30, .int 0, .int 0, .int 0])), (q_4, .inr (1, [.ref d2_25, .int 0, .int 0, .int (nI (((((0 + (7 * j + 5)) + 2) + 2) + 1) + 2))])), (b2_30, .inl (cA2_31, (((((0 + (7 * j + 5)) + 2) + 2) + 1) + 2), .inl f2_32))]) hLa hda hD hP 7 rfl (zz_lo hAe hD [0, 1, 2] rfl 7 (by decide) rfl) [0, 1, 2, 3, 4, 5, 6, 8] rfl (by decide)
  have hD8 := hD.sub (ws' := [(h, .inr (9, [.int th, .ref ho, .ref hd, .ref hs, .ref hu, .ref hv, .int kn])), (ho, .inl (cR, 4, .inr (.inr (.inr (.inr R0))))), (y0, .inl (cI, 64, .inl f0)), (qm, .inr (0, [.ref bm, .int 0, .int 0, .int 0])), (bm, .inl (cM, (7 * j + 5), .inl fm)), (t2_29, .inr (0, [.ref b2_30, .int 0, .int 0, .int 0])), (q_4, .inr (1, [.ref d2_25, .int 0, .int 0, .int (nI (((((0 + (7 * j + 5)) + 2) + 2) + 1) + 2))])), (b2_30, .inl (cA2_31, (((((0 + (7 * j + 5)) + 2) + 2) + 1) + 2), .inl f2_32))]) [0, 1, 2, 3, 4, 5, 6, 8] (by decide) rfl
  have hP8 := hP.sub (ws' := [(h, .inr (9, [.int th, .ref ho, .ref hd, .ref hs, .ref hu, .ref hv, .int kn])), (ho, .inl (cR, 4, .inr (.inr (.inr (.inr R0))))), (y0, .inl (cI, 64, .inl f0)), (qm, .inr (0, [.ref bm, .int 0, .int 0, .int 0])), (bm, .inl (cM, (7 * j + 5), .inl fm)), (t2_29, .inr (0, [.ref b2_30, .int 0, .int 0, .int 0])), (q_4, .inr (1, [.ref d2_25, .int 0, .int 0, .int (nI (((((0 + (7 * j + 5)) + 2) + 2) + 1) + 2))])), (b2_30, .inl (cA2_31, (((((0 + (7 * j + 5)) + 2) + 2) + 1) + 2), .inl f2_32))]) [0, 1, 2, 3, 4, 5, 6, 8] rfl
  obtain ⟨hLc, hdc⟩ := zz_L.add (ws' := [(h, .inr (9, [.int th, .ref ho, .ref hd, .ref hs, .ref hu, .ref hv, .int kn])), (ho, .inl (cR, 4, .inr (.inr (.inr (.inr R0))))), (y0, .inl (cI, 64, .inl f0)), (t2_29, .inr (0, [.ref b2_30, .int 0, .int 0, .int 0])), (b2_30, .inl (cA2_31, (((((0 + (7 * j + 5)) + 2) + 2) + 1) + 2), .inl f2_32))]) hLb hdb hD8 hP8 4 rfl (zz_lo hAe hD8 [0, 1, 2] rfl 4 (by decide) rfl) [0, 1, 2, 5, 7] rfl (by decide)
  have en : (((((0 + (7 * j + 5)) + 2) + 2) + 1) + 2) = (7 * (j + 1) + 5) := by omega
  have hP7 := hP.sub (ws' := [(h, .inr (9, [.int th, .ref ho, .ref hd, .ref hs, .ref hu, .ref hv, .int kn])), (ho, .inl (cR, 4, .inr (.inr (.inr (.inr R0))))), (y0, .inl (cI, 64, .inl f0)), (t2_29, .inr (0, [.ref b2_30, .int 0, .int 0, .int 0])), (b2_30, .inl (cA2_31, (((((0 + (7 * j + 5)) + 2) + 2) + 1) + 2), .inl f2_32))]) [0, 1, 2, 5, 8] rfl
  have hD7 := hD.sub (ws' := [(h, .inr (9, [.int th, .ref ho, .ref hd, .ref hs, .ref hu, .ref hv, .int kn])), (ho, .inl (cR, 4, .inr (.inr (.inr (.inr R0))))), (y0, .inl (cI, 64, .inl f0)), (t2_29, .inr (0, [.ref b2_30, .int 0, .int 0, .int 0])), (b2_30, .inl (cA2_31, (((((0 + (7 * j + 5)) + 2) + 2) + 1) + 2), .inl f2_32))]) [0, 1, 2, 5, 8] (by decide) rfl
  have hK7 := hK.sub (tys' := [(cR, .array .int), (cI, .int), (cA2_31, .byte)]) [0, 1, 10] rfl
  rw [en] at hP7 hD7 hdc
  refine W.widen (k := 9 * (j + 1 + 1)) (n := 9024 * (j + 1 + 1)) (by show 9 * (j + 1) + 1 + 1 + 1 + 0 + 1 + 1 + 1 + 1 + 2 ≤ 9 * (j + 1 + 1); omega) (by show 9024 * (j + 1) + 4 + 16 + 1500 + 0 + 1500 + 1500 + 1500 + 1500 + 1504 ≤ 9024 * (j + 1 + 1); omega) ?_
  exact kk _ _ _ _ _ _ _ _ h_33 hK7 hP7 hD7 hS (lv_sub hl [0, 1, 2, 3, 4] rfl) (zz_L.le hLc (by omega)) hdc
def zz_K : Nat → Nat
  | 0 => 6
  | j + 1 => zz_K j + (14 * j + 18)
theorem zz_K53 : zz_K 53 = 20252 := by decide
set_option maxHeartbeats 4000000 in
theorem tx_Cs {p0 : Program} {l : Launch} {e0 : Env} {s : State} {mt0 : MethodId} {args : Array Value} {bl0 : List Frame} {meth0 : Method} {cd0 : Code} {Q : State → Prop} {A : Nat → Prop} (D : va_G) (h : Nat) (th : Int32) (ho : Nat) (hd : Nat) (hs : Nat) (hu : Nat) (hv : Nat) (kn : Int32) (cR : ClassId) (R0 : Nat → Option Nat) (y0 : Nat) (cI : ClassId) (f0 : Nat → Int32) (qe : Nat) (be : Nat) (fe : Nat → Int32) (qq : Nat) (bq : Nat) (fq : Nat → Int32) (qs : Nat) (bs : Nat) (fs : Nat → Int32) (hC : zz_C p0 s mt0 meth0 cd0 args RX5 cX5_textOf 5 (some (.object "java/lang/String")) wsX5_textOf) (hX0 : zz_G A s) (hX1 : zz_S qe be 0 fe A s) (hX2 : vk_R RX5 116 "" qe s) (hX3 : zz_S qq bq 1 fq A s) (hX4 : vk_R RX5 134 "=" qq s) (hX5 : zz_S qs bs 2 fs A s) (hA : ∀ q, s.heap.size ≤ q → A q) (hR : R0 0 = some y0) (hf2 : ∀ n, 10 ≤ n → n < 64 → f0 n = 99) (hAe : va_A [(h, .inr (9, [.int th, .ref ho, .ref hd, .ref hs, .ref hu, .ref hv, .int kn])), (ho, .inl (cR, 4, .inr (.inr (.inr (.inr R0))))), (y0, .inl (cI, 64, .inl f0))] s.heap.size = A) (kk : ∀ (q' b' : Nat) (cA' : ClassId) (f' : Nat → Int32) (L' : List Nat) (H' : Heap) (locs' : List Loc) (ls' : Array Slot), sb_Fit f' → va_K D vwCl [(cR, .array .int), (cI, .int), (cA', .byte)] s → va_P D vwCl [(h, .inr (9, [.int th, .ref ho, .ref hd, .ref hs, .ref hu, .ref hv, .int kn])), (ho, .inl (cR, 4, .inr (.inr (.inr (.inr R0))))), (y0, .inl (cI, 64, .inl f0)), (q', .inr (0, [.ref b', .int 0, .int 0, .int 0])), (b', .inl (cA', (7 * 53 + 5), .inl f'))] H' → va_D A [(h, .inr (9, [.int th, .ref ho, .ref hd, .ref hs, .ref hu, .ref hv, .int kn])), (ho, .inl (cR, 4, .inr (.inr (.inr (.inr R0))))), (y0, .inl (cI, 64, .inl f0)), (q', .inr (0, [.ref b', .int 0, .int 0, .int 0])), (b', .inl (cA', (7 * 53 + 5), .inl f'))] → va_S A s.heap H' locs' → lv_has ls' 5 [(4, .int (nI (11 + 53))), (3, .ref q'), (0, .ref h), (1, .int 0), (2, .ref qs)] → zz_L L' s.heap.size H' (zz_K 53) → zz_d L' [(h, .inr (9, [.int th, .ref ho, .ref hd, .ref hs, .ref hu, .ref hv, .int kn])), (ho, .inl (cR, 4, .inr (.inr (.inr (.inr R0))))), (y0, .inl (cI, 64, .inl f0)), (q', .inr (0, [.ref b', .int 0, .int 0, .int 0])), (b', .inl (cA', (7 * 53 + 5), .inl f'))] → W p0 l e0 ({ frames := 8, cells := 486, slots := 487296, locals := 3600 } : Room) s mt0 args bl0 meth0 cd0 H' locs' (9 * (53 + 1)) (9024 * (53 + 1)) Q (F0 mt0 6 ls' [])) : ∀ (n j : Nat), j + n = 53 → ∀ (q' b' : Nat) (cA' : ClassId) (f' : Nat → Int32) (L' : List Nat) (H' : Heap) (locs' : List Loc) (ls' : Array Slot), sb_Fit f' → va_K D vwCl [(cR, .array .int), (cI, .int), (cA', .byte)] s → va_P D vwCl [(h, .inr (9, [.int th, .ref ho, .ref hd, .ref hs, .ref hu, .ref hv, .int kn])), (ho, .inl (cR, 4, .inr (.inr (.inr (.inr R0))))), (y0, .inl (cI, 64, .inl f0)), (q', .inr (0, [.ref b', .int 0, .int 0, .int 0])), (b', .inl (cA', (7 * j + 5), .inl f'))] H' → va_D A [(h, .inr (9, [.int th, .ref ho, .ref hd, .ref hs, .ref hu, .ref hv, .int kn])), (ho, .inl (cR, 4, .inr (.inr (.inr (.inr R0))))), (y0, .inl (cI, 64, .inl f0)), (q', .inr (0, [.ref b', .int 0, .int 0, .int 0])), (b', .inl (cA', (7 * j + 5), .inl f'))] → va_S A s.heap H' locs' → lv_has ls' 5 [(4, .int (nI (11 + j))), (3, .ref q'), (0, .ref h), (1, .int 0), (2, .ref qs)] → zz_L L' s.heap.size H' (zz_K j) → zz_d L' [(h, .inr (9, [.int th, .ref ho, .ref hd, .ref hs, .ref hu, .ref hv, .int kn])), (ho, .inl (cR, 4, .inr (.inr (.inr (.inr R0))))), (y0, .inl (cI, 64, .inl f0)), (q', .inr (0, [.ref b', .int 0, .int 0, .int 0])), (b', .inl (cA', (7 * j + 5), .inl f'))] → W p0 l e0 ({ frames := 8, cells := 486, slots := 487296, locals := 3600 } : Room) s mt0 args bl0 meth0 cd0 H' locs' (9 * (j + 1)) (9024 * (j + 1)) Q (F0 mt0 6 ls' []) := by
  intro n
  induction n with
  | zero => intro j hj
            obtain rfl : j = 53 := by omega
            exact kk
  | succ n ih => intro j hj q' b' cA' f' L' H' locs' ls' h1 hK hP hD hS hl hL hdd
                 exact tx_C D h th ho hd hs hu hv kn cR R0 y0 cI f0 qe be fe qq bq fq qs bs fs j q' b' cA' f' L' (zz_K j) hC hX0 hX1 hX2 hX3 hX4 hX5 hA hK hP hD hS hl hR hf2 hAe (by omega) h1 hL hdd (ih (j + 1) (by omega))
set_option maxHeartbeats 4000000 in
set_option maxRecDepth 100000 in
theorem k_X5_textOf (l : Launch) (D : va_G) (h : Nat) (th : Int32) (ho : Nat) (hd : Nat) (hs : Nat) (hu : Nat) (hv : Nat) (kn : Int32) (cR : ClassId) (R0 : Nat → Option Nat) (y0 : Nat) (cI : ClassId) (f0 : Nat → Int32) (qe : Nat) (be : Nat) (fe : Nat → Int32) (qq : Nat) (bq : Nat) (fq : Nat → Int32) (qs : Nat) (bs : Nat) (fs : Nat → Int32) (hR : R0 0 = some y0) (hf1 : ∀ n, n < 10 → f0 n = -1) (hf2 : ∀ n, 10 ≤ n → n < 64 → f0 n = 99) : zz_M l yX5_textOf wsX5_textOf ({ frames := 8, cells := 486, slots := 487296, locals := 3600 }) D [.ref h, .int 0, .ref qs] [(cR, .array .int), (cI, .int)] [(h, .inr (9, [.int th, .ref ho, .ref hd, .ref hs, .ref hu, .ref hv, .int kn])), (ho, .inl (cR, 4, .inr (.inr (.inr (.inr R0))))), (y0, .inl (cI, 64, .inl f0))] (fun A U => zz_G A U ∧ zz_S qe be 0 fe A U ∧ vk_R RX5 116 "" qe U ∧ zz_S qq bq 1 fq A U ∧ vk_R RX5 134 "=" qq U ∧ zz_S qs bs 2 fs A U) (fun H0 H1 v w t => ∃ t2 : Nat, ∃ b2 : Nat, ∃ cA2 : ClassId, ∃ f2 : Nat → Int32, ∃ L2 : List Nat, sb_Fit f2 ∧ zz_L L2 H0.size H1 20252 ∧ zz_d L2 [(h, .inr (9, [.int th, .ref ho, .ref hd, .ref hs, .ref hu, .ref hv, .int kn])), (ho, .inl (cR, 4, .inr (.inr (.inr (.inr R0))))), (y0, .inl (cI, 64, .inl f0)), (t2, .inr (0, [.ref b2, .int 0, .int 0, .int 0])), (b2, .inl (cA2, 376, .inl f2))] ∧ v = some (.ref t2) ∧ w = [(h, .inr (9, [.int th, .ref ho, .ref hd, .ref hs, .ref hu, .ref hv, .int kn])), (ho, .inl (cR, 4, .inr (.inr (.inr (.inr R0))))), (y0, .inl (cI, 64, .inl f0)), (t2, .inr (0, [.ref b2, .int 0, .int 0, .int 0])), (b2, .inl (cA2, 376, .inl f2))] ∧ t = [(cR, .array .int), (cI, .int), (cA2, .byte)]) := by
  refine zz_M.mk (cc := cX5_textOf) (maxL := 5) (ret := (some (.object "java/lang/String"))) (by decide) rfl (Nat.le_of_ble_eq_true rfl) ?_
  intro p0 e0 s mt0 bl0 meth0 cd0 ls hC hname hP hK hD hX hl
  obtain ⟨hx, hb, hml, hr, hown, hts, hlocks⟩ := hC
  obtain ⟨hX0, hX1, hX2, hX3, hX4, hX5⟩ := hX
  generalize hAe : va_A [(h, .inr (9, [.int th, .ref ho, .ref hd, .ref hs, .ref hu, .ref hv, .int kn])), (ho, .inl (cR, 4, .inr (.inr (.inr (.inr R0))))), (y0, .inl (cI, 64, .inl f0))] s.heap.size = A at *
  have hA : ∀ q : Nat, s.heap.size ≤ q → A q := fun q h => by rw [← hAe]; exact Or.inr h
  obtain ⟨H, hHs⟩ : ∃ z : Heap, z = s.heap := ⟨_, rfl⟩
  rw [← hHs] at hP ⊢
  have hS : va_S A s.heap H [] := by rw [hHs]; exact va_S.rf
  have hl : lv_has ls 5 [(0, .ref h), (1, .int 0), (2, .ref qs)] := hl
  refine va_ldcS hx hb hown hX2 dX5_textOf_0 ?_
  refine lv_astore_n (lv' := [(3, .ref qe), (0, .ref h), (1, .int 0), (2, .ref qs)]) hx hb dX5_textOf_2 rfl hl (by decide) rfl (fun ls hl => ?_)
  refine lv_iconst (v := 0) hx hb dX5_textOf_3 (by decide) ?_
  refine lv_istore (lv' := [(4, .int 0), (3, .ref qe), (0, .ref h), (1, .int 0), (2, .ref qs)]) hx hb dX5_textOf_4 hl (by decide) rfl (fun ls hl => ?_)
  refine tx_As D h th ho hd hs hu hv kn cR R0 y0 cI f0 qe be fe qq bq fq qs bs fs ⟨hx, hb, hml, hr, hown, hts, hlocks⟩ hX0 hX1 hX2 hX3 hX4 hX5 hA hK hP hD hS hR hf1 (fun ls hl => ?_) 10 0 rfl ls (lv_sub hl [0, 1, 2, 3, 4] rfl)
  refine tx_B D h th ho hd hs hu hv kn cR R0 y0 cI f0 qe be fe qq bq fq qs bs fs [] 0 ⟨hx, hb, hml, hr, hown, hts, hlocks⟩ hX0 hX1 hX2 hX3 hX4 hX5 hA hK hP hD hS hl hR hf2 hAe (zz_L0 _ _) (zz_d0 _) ?_
  refine tx_Cs D h th ho hd hs hu hv kn cR R0 y0 cI f0 qe be fe qq bq fq qs bs fs ⟨hx, hb, hml, hr, hown, hts, hlocks⟩ hX0 hX1 hX2 hX3 hX4 hX5 hA hR hf2 hAe ?_ 53 0 rfl
  intro q' b' cA' f' L' H' locs' ls' h1 hK hP hD hS hl hL hdd
  rw [zz_K53] at hL
  obtain ⟨H, rfl⟩ : ∃ z, z = H' := ⟨_, rfl⟩
  obtain ⟨locs, rfl⟩ : ∃ z, z = locs' := ⟨_, rfl⟩
  obtain ⟨ls, rfl⟩ : ∃ z, z = ls' := ⟨_, rfl⟩
  refine lv_iload hx hb dX5_textOf_6 (lv_at hl 0 rfl) ?_
  refine lv_bipush (v := 64) hx hb dX5_textOf_8 (by decide) ?_
  refine lv_icmp_ge (tgt := 85) hx hb dX5_textOf_10 (by decide) (fun c_1 => ?_) (fun c_1 => absurd ((show nI 64 ≤ nI (11 + 53) from Int32.le_refl _)) c_1)
  refine lv_aload_n hx hb dX5_textOf_85 rfl (lv_at hl 1 rfl) ?_
  have hP9 := hP.sub (ws' := [(h, .inr (9, [.int th, .ref ho, .ref hd, .ref hs, .ref hu, .ref hv, .int kn])), (ho, .inl (cR, 4, .inr (.inr (.inr (.inr R0))))), (y0, .inl (cI, 64, .inl f0)), (q', .inr (0, [.ref b', .int 0, .int 0, .int 0])), (b', .inl (cA', (7 * 53 + 5), .inl f'))]) [0, 1, 2, 3, 4] rfl
  have hD9 := hD.sub (ws' := [(h, .inr (9, [.int th, .ref ho, .ref hd, .ref hs, .ref hu, .ref hv, .int kn])), (ho, .inl (cR, 4, .inr (.inr (.inr (.inr R0))))), (y0, .inl (cI, 64, .inl f0)), (q', .inr (0, [.ref b', .int 0, .int 0, .int 0])), (b', .inl (cA', (7 * 53 + 5), .inl f'))]) [0, 1, 2, 3, 4] (by decide) rfl
  have hK9 := hK.sub (tys' := [(cR, .array .int), (cI, .int), (cA', .byte)]) [0, 1, 2] rfl
  refine W.widen (k := 486) (n := 487296) (by show 9 * (53 + 1) ≤ 486; omega) (by show 9024 * (53 + 1) ≤ 487296; omega) ?_
  exact W.aret (v := .ref q') hx hb hr (Or.inl ⟨_, rfl⟩) (Or.inr ⟨_, rfl⟩) (zz_end hP9 hD9 hK9 hS (⟨_, _, _, _, _, h1, hL, hdd, rfl, rfl, rfl⟩)) hS.2.2 dX5_textOf_86
end
section
set_option maxHeartbeats 4000000 in
set_option maxRecDepth 100000 in
theorem k_X5_isIn (l : Launch) (D : va_G) (x : Int32) (y : Int32) (z : Int32) (h1 : ¬ x < y) (h2 : ¬ z < x) : zz_M l yX5_isIn wsX5_isIn ({ frames := 1, cells := 0, slots := 0, locals := 40 }) D [.int x, .int y, .int z] [] [] (fun _ _ => True) (fun H0 H1 v w t => v = some (.int 1) ∧ w = [] ∧ t = []) := by
  refine zz_M.mk (cc := cX5_isIn) (maxL := 3) (ret := (some .boolean)) (by decide) rfl (Nat.le_of_ble_eq_true rfl) ?_
  intro p0 e0 s mt0 bl0 meth0 cd0 ls hC hname hP hK hD hX hl
  obtain ⟨hx, hb, hml, hr, hown, hts, hlocks⟩ := hC
  generalize hAe : va_A [] s.heap.size = A at *
  have hA : ∀ q : Nat, s.heap.size ≤ q → A q := fun q h => by rw [← hAe]; exact Or.inr h
  obtain ⟨H, hHs⟩ : ∃ z : Heap, z = s.heap := ⟨_, rfl⟩
  rw [← hHs] at hP ⊢
  have hS : va_S A s.heap H [] := by rw [hHs]; exact va_S.rf
  have hl : lv_has ls 3 [(0, .int x), (1, .int y), (2, .int z)] := hl
  refine lv_iload_n hx hb dX5_isIn_0 rfl (lv_at hl 0 rfl) ?_
  refine lv_iload_n hx hb dX5_isIn_1 rfl (lv_at hl 1 rfl) ?_
  refine lv_icmp_lt (tgt := 14) hx hb dX5_isIn_2 (by decide) (fun c_1 => absurd c_1 (h1)) (fun c_1 => ?_)
  refine lv_iload_n hx hb dX5_isIn_5 rfl (lv_at hl 0 rfl) ?_
  refine lv_iload_n hx hb dX5_isIn_6 rfl (lv_at hl 2 rfl) ?_
  refine lv_icmp_gt (tgt := 14) hx hb dX5_isIn_7 (by decide) (fun c_2 => absurd c_2 (h2)) (fun c_2 => ?_)
  refine lv_iconst (v := 1) hx hb dX5_isIn_10 (by decide) ?_
  refine lv_goto (tgt := 15) hx hb dX5_isIn_11 (by decide) ?_
  have hP9 := hP.sub (ws' := []) [] rfl
  have hD9 := hD.sub (ws' := []) [] (by decide) rfl
  have hK9 := hK.sub (tys' := []) [] rfl
  refine W.widen (k := 0) (n := 0) (by show 0 ≤ 0; omega) (by show 0 ≤ 0; omega) ?_
  exact W.zret (v := 1) hx hb hr (rfl) (zz_end hP9 hD9 hK9 hS (⟨rfl, rfl, rfl⟩)) hS.2.2 dX5_isIn_15
set_option maxHeartbeats 4000000 in
set_option maxRecDepth 100000 in
theorem k_X5_isNo (l : Launch) (D : va_G)  : zz_M l yX5_isNo wsX5_isNo ({ frames := 2, cells := 0, slots := 0, locals := 100 }) D [.int 0] [] [] (fun _ _ => True) (fun H0 H1 v w t => v = some (.int 0) ∧ w = [] ∧ t = []) := by
  refine zz_M.mk (cc := cX5_isNo) (maxL := 1) (ret := (some .boolean)) (by decide) rfl (Nat.le_of_ble_eq_true rfl) ?_
  intro p0 e0 s mt0 bl0 meth0 cd0 ls hC hname hP hK hD hX hl
  obtain ⟨hx, hb, hml, hr, hown, hts, hlocks⟩ := hC
  generalize hAe : va_A [] s.heap.size = A at *
  have hA : ∀ q : Nat, s.heap.size ≤ q → A q := fun q h => by rw [← hAe]; exact Or.inr h
  obtain ⟨H, hHs⟩ : ∃ z : Heap, z = s.heap := ⟨_, rfl⟩
  rw [← hHs] at hP ⊢
  have hS : va_S A s.heap H [] := by rw [hHs]; exact va_S.rf
  have hl : lv_has ls 1 [(0, .int 0)] := hl
  refine lv_iload_n hx hb dX5_isNo_0 rfl (lv_at hl 0 rfl) ?_
  refine lv_iconst (v := 0) hx hb dX5_isNo_1 (by decide) ?_
  refine lv_iconst (v := 3) hx hb dX5_isNo_2 (by decide) ?_
  have hFc := va_free (wc := []) hD hS hA [] rfl
  refine zz_after (wr := []) (va_runS (As := [.int 0, .int 0, .int 3]) (rest := []) ⟨hx, hb, hml, hown, hts⟩ ((k_X5_isIn l D 0 0 3 (by decide) (by decide)) H.size) (va_cwS 3 hts gX5_isNo_X5_isIn rfl rfl rfl (by decide +kernel) ⟨Nat.le_of_ble_eq_true rfl, Nat.le_of_ble_eq_true rfl⟩) (zz_pre (av := [.int 0, .int 0, .int 3]) (tyc := []) (wc := []) (X := fun _ _ => True) (Xc := (fun _ _ => True)) hP hD hK hS [] [] rfl (by decide) rfl zz_St_tt (fun _ _ _ => trivial)) rfl rfl hl.1 rfl (lv_room (Nat.le_of_ble_eq_true rfl)) dX5_isNo_3 ⟨by show 0 + 0 ≤ 0; omega, by show 0 + 0 ≤ 0; omega⟩) hP hD hK hS hFc [] [] rfl rfl (by decide) (by decide) (fun v w1 ty1 H1 locs hq9 hz9 hk9 hP1 hD1 hK1 hS1 => ?_)
  obtain ⟨rfl, rfl, rfl⟩ := hq9
  clear hS hP hD hK hFc
  have hP : va_P D vwCl [] H1 := hP1
  have hD : va_D A [] := hD1
  have hK : va_K D vwCl [] s := hK1
  have hS := hS1
  clear hP1 hD1 hK1 hS1
  obtain ⟨H, rfl⟩ : ∃ z, z = H1 := ⟨_, rfl⟩
  refine W.eq (g2 := F0 mt0 6 ls [.int 1]) rfl ?_
  refine lv_if_ne (tgt := 13) hx hb dX5_isNo_6 (by decide) (fun c_1 => ?_) (fun c_1 => absurd c_1 (by decide))
  refine lv_iconst (v := 0) hx hb dX5_isNo_13 (by decide) ?_
  have hP9 := hP.sub (ws' := []) [] rfl
  have hD9 := hD.sub (ws' := []) [] (by decide) rfl
  have hK9 := hK.sub (tys' := []) [] rfl
  refine W.widen (k := 0) (n := 0) (by show 0 + 0 ≤ 0; omega) (by show 0 + 0 ≤ 0; omega) ?_
  exact W.zret (v := 0) hx hb hr (rfl) (zz_end hP9 hD9 hK9 hS (⟨rfl, rfl, rfl⟩)) hS.2.2 dX5_isNo_14
set_option maxHeartbeats 4000000 in
set_option maxRecDepth 100000 in
theorem k_X5_isNoName (l : Launch) (D : va_G) (n : Nat) (hn : n < 64) : zz_M l yX5_isNoName wsX5_isNoName ({ frames := 2, cells := 0, slots := 0, locals := 100 }) D [.int (nI n)] [] [] (fun _ _ => True) (fun H0 H1 v w t => v = some (.int 0) ∧ w = [] ∧ t = []) := by
  refine zz_M.mk (cc := cX5_isNoName) (maxL := 1) (ret := (some .boolean)) (by decide) rfl (Nat.le_of_ble_eq_true rfl) ?_
  intro p0 e0 s mt0 bl0 meth0 cd0 ls hC hname hP hK hD hX hl
  obtain ⟨hx, hb, hml, hr, hown, hts, hlocks⟩ := hC
  generalize hAe : va_A [] s.heap.size = A at *
  have hA : ∀ q : Nat, s.heap.size ≤ q → A q := fun q h => by rw [← hAe]; exact Or.inr h
  obtain ⟨H, hHs⟩ : ∃ z : Heap, z = s.heap := ⟨_, rfl⟩
  rw [← hHs] at hP ⊢
  have hS : va_S A s.heap H [] := by rw [hHs]; exact va_S.rf
  have hl : lv_has ls 1 [(0, .int (nI n))] := hl
  refine lv_iload_n hx hb dX5_isNoName_0 rfl (lv_at hl 0 rfl) ?_
  refine lv_iconst (v := 0) hx hb dX5_isNoName_1 (by decide) ?_
  refine lv_bipush (v := 63) hx hb dX5_isNoName_2 (by decide) ?_
  have hFc := va_free (wc := []) hD hS hA [] rfl
  refine zz_after (wr := []) (va_runS (As := [.int (nI n), .int 0, .int 63]) (rest := []) ⟨hx, hb, hml, hown, hts⟩ ((k_X5_isIn l D (nI n) 0 63 (nI_pos (by omega)) (show ¬ nI 63 < nI n from nI_nlt (by omega) (by decide))) H.size) (va_cwS 3 hts gX5_isNoName_X5_isIn rfl rfl rfl (by decide +kernel) ⟨Nat.le_of_ble_eq_true rfl, Nat.le_of_ble_eq_true rfl⟩) (zz_pre (av := [.int (nI n), .int 0, .int 63]) (tyc := []) (wc := []) (X := fun _ _ => True) (Xc := (fun _ _ => True)) hP hD hK hS [] [] rfl (by decide) rfl zz_St_tt (fun _ _ _ => trivial)) rfl rfl hl.1 rfl (lv_room (Nat.le_of_ble_eq_true rfl)) dX5_isNoName_4 ⟨by show 0 + 0 ≤ 0; omega, by show 0 + 0 ≤ 0; omega⟩) hP hD hK hS hFc [] [] rfl rfl (by decide) (by decide) (fun v w1 ty1 H1 locs hq9 hz9 hk9 hP1 hD1 hK1 hS1 => ?_)
  obtain ⟨rfl, rfl, rfl⟩ := hq9
  clear hS hP hD hK hFc
  have hP : va_P D vwCl [] H1 := hP1
  have hD : va_D A [] := hD1
  have hK : va_K D vwCl [] s := hK1
  have hS := hS1
  clear hP1 hD1 hK1 hS1
  obtain ⟨H, rfl⟩ : ∃ z, z = H1 := ⟨_, rfl⟩
  refine W.eq (g2 := F0 mt0 7 ls [.int 1]) rfl ?_
  refine lv_if_ne (tgt := 14) hx hb dX5_isNoName_7 (by decide) (fun c_1 => ?_) (fun c_1 => absurd c_1 (by decide))
  refine lv_iconst (v := 0) hx hb dX5_isNoName_14 (by decide) ?_
  have hP9 := hP.sub (ws' := []) [] rfl
  have hD9 := hD.sub (ws' := []) [] (by decide) rfl
  have hK9 := hK.sub (tys' := []) [] rfl
  refine W.widen (k := 0) (n := 0) (by show 0 + 0 ≤ 0; omega) (by show 0 + 0 ≤ 0; omega) ?_
  exact W.zret (v := 0) hx hb hr (rfl) (zz_end hP9 hD9 hK9 hS (⟨rfl, rfl, rfl⟩)) hS.2.2 dX5_isNoName_15
set_option maxHeartbeats 4000000 in
set_option maxRecDepth 100000 in
theorem k_X5_isNoWorth (l : Launch) (D : va_G)  : zz_M l yX5_isNoWorth wsX5_isNoWorth ({ frames := 2, cells := 0, slots := 0, locals := 100 }) D [.int 99] [] [] (fun _ _ => True) (fun H0 H1 v w t => v = some (.int 0) ∧ w = [] ∧ t = []) := by
  refine zz_M.mk (cc := cX5_isNoWorth) (maxL := 1) (ret := (some .boolean)) (by decide) rfl (Nat.le_of_ble_eq_true rfl) ?_
  intro p0 e0 s mt0 bl0 meth0 cd0 ls hC hname hP hK hD hX hl
  obtain ⟨hx, hb, hml, hr, hown, hts, hlocks⟩ := hC
  generalize hAe : va_A [] s.heap.size = A at *
  have hA : ∀ q : Nat, s.heap.size ≤ q → A q := fun q h => by rw [← hAe]; exact Or.inr h
  obtain ⟨H, hHs⟩ : ∃ z : Heap, z = s.heap := ⟨_, rfl⟩
  rw [← hHs] at hP ⊢
  have hS : va_S A s.heap H [] := by rw [hHs]; exact va_S.rf
  have hl : lv_has ls 1 [(0, .int 99)] := hl
  refine lv_iload_n hx hb dX5_isNoWorth_0 rfl (lv_at hl 0 rfl) ?_
  refine lv_iconst (v := 0) hx hb dX5_isNoWorth_1 (by decide) ?_
  refine lv_bipush (v := 99) hx hb dX5_isNoWorth_2 (by decide) ?_
  have hFc := va_free (wc := []) hD hS hA [] rfl
  refine zz_after (wr := []) (va_runS (As := [.int 99, .int 0, .int 99]) (rest := []) ⟨hx, hb, hml, hown, hts⟩ ((k_X5_isIn l D 99 0 99 (by decide) (by decide)) H.size) (va_cwS 3 hts gX5_isNoWorth_X5_isIn rfl rfl rfl (by decide +kernel) ⟨Nat.le_of_ble_eq_true rfl, Nat.le_of_ble_eq_true rfl⟩) (zz_pre (av := [.int 99, .int 0, .int 99]) (tyc := []) (wc := []) (X := fun _ _ => True) (Xc := (fun _ _ => True)) hP hD hK hS [] [] rfl (by decide) rfl zz_St_tt (fun _ _ _ => trivial)) rfl rfl hl.1 rfl (lv_room (Nat.le_of_ble_eq_true rfl)) dX5_isNoWorth_4 ⟨by show 0 + 0 ≤ 0; omega, by show 0 + 0 ≤ 0; omega⟩) hP hD hK hS hFc [] [] rfl rfl (by decide) (by decide) (fun v w1 ty1 H1 locs hq9 hz9 hk9 hP1 hD1 hK1 hS1 => ?_)
  obtain ⟨rfl, rfl, rfl⟩ := hq9
  clear hS hP hD hK hFc
  have hP : va_P D vwCl [] H1 := hP1
  have hD : va_D A [] := hD1
  have hK : va_K D vwCl [] s := hK1
  have hS := hS1
  clear hP1 hD1 hK1 hS1
  obtain ⟨H, rfl⟩ : ∃ z, z = H1 := ⟨_, rfl⟩
  refine W.eq (g2 := F0 mt0 7 ls [.int 1]) rfl ?_
  refine lv_if_ne (tgt := 14) hx hb dX5_isNoWorth_7 (by decide) (fun c_1 => ?_) (fun c_1 => absurd c_1 (by decide))
  refine lv_iconst (v := 0) hx hb dX5_isNoWorth_14 (by decide) ?_
  have hP9 := hP.sub (ws' := []) [] rfl
  have hD9 := hD.sub (ws' := []) [] (by decide) rfl
  have hK9 := hK.sub (tys' := []) [] rfl
  refine W.widen (k := 0) (n := 0) (by show 0 + 0 ≤ 0; omega) (by show 0 + 0 ≤ 0; omega) ?_
  exact W.zret (v := 0) hx hb hr (rfl) (zz_end hP9 hD9 hK9 hS (⟨rfl, rfl, rfl⟩)) hS.2.2 dX5_isNoWorth_15
set_option maxHeartbeats 4000000 in
set_option maxRecDepth 100000 in
theorem k_X5_fails (l : Launch) (D : va_G) (h : Nat) (th : Int32) (ho : Nat) (hd : Nat) (hs : Nat) (hu : Nat) (hv : Nat) (kn : Int32) : zz_M l yX5_fails wsX5_fails ({ frames := 1, cells := 0, slots := 0, locals := 40 }) D [.ref h, .int 0, .int 0, .int 0] [] [(h, .inr (9, [.int th, .ref ho, .ref hd, .ref hs, .ref hu, .ref hv, .int kn]))] (fun _ _ => True) (fun H0 H1 v w t => v = some (.int 0) ∧ w = [(h, .inr (9, [.int 0, .ref ho, .ref hd, .ref hs, .ref hu, .ref hv, .int kn]))] ∧ t = []) := by
  refine zz_M.mk (cc := cX5_fails) (maxL := 4) (ret := (some .boolean)) (by decide) rfl (Nat.le_of_ble_eq_true rfl) ?_
  intro p0 e0 s mt0 bl0 meth0 cd0 ls hC hname hP hK hD hX hl
  obtain ⟨hx, hb, hml, hr, hown, hts, hlocks⟩ := hC
  generalize hAe : va_A [(h, .inr (9, [.int th, .ref ho, .ref hd, .ref hs, .ref hu, .ref hv, .int kn]))] s.heap.size = A at *
  have hA : ∀ q : Nat, s.heap.size ≤ q → A q := fun q h => by rw [← hAe]; exact Or.inr h
  obtain ⟨H, hHs⟩ : ∃ z : Heap, z = s.heap := ⟨_, rfl⟩
  rw [← hHs] at hP ⊢
  have hS : va_S A s.heap H [] := by rw [hHs]; exact va_S.rf
  have hl : lv_has ls 4 [(0, .ref h), (1, .int 0), (2, .int 0), (3, .int 0)] := hl
  refine lv_aload_n hx hb dX5_fails_0 rfl (lv_at hl 0 rfl) ?_
  refine lv_iload_n hx hb dX5_fails_1 rfl (lv_at hl 1 rfl) ?_
  refine lv_if_eq (tgt := 9) hx hb dX5_fails_2 (by decide) (fun c_1 => ?_) (fun c_1 => absurd (rfl) c_1)
  refine lv_iload_n hx hb dX5_fails_9 rfl (lv_at hl 2 rfl) ?_
  refine lv_if_eq (tgt := 17) hx hb dX5_fails_10 (by decide) (fun c_2 => ?_) (fun c_2 => absurd (rfl) c_2)
  refine lv_iload_n hx hb dX5_fails_17 rfl (lv_at hl 3 rfl) ?_
  refine lv_if_eq (tgt := 25) hx hb dX5_fails_18 (by decide) (fun c_3 => ?_) (fun c_3 => absurd (rfl) c_3)
  refine lv_iconst (v := 0) hx hb dX5_fails_25 (by decide) ?_
  refine va_put (D := D) (ci := 9) (v := .int 0) (ty := .int) (C := RX5) (T := TX5) (N := 7) hx hb hts (by decide +kernel) tyX5 tyX5_ok nmX5 hown hK hP hD hS 0 rfl rfl 0 (by decide) (hts (.fieldLink RX5 31 "HashladderModel" "thrown" "I") (by decide +kernel)) (fun _ h9 => h9) rfl (by decide +kernel) rfl rfl (Nat.le_of_ble_eq_true rfl) dX5_fails_26 (fun H locs hP hD hS => ?_)
  have hP : va_P D vwCl [(h, .inr (9, [.int 0, .ref ho, .ref hd, .ref hs, .ref hu, .ref hv, .int kn]))] H := hP
  have hD : va_D A [(h, .inr (9, [.int 0, .ref ho, .ref hd, .ref hs, .ref hu, .ref hv, .int kn]))] := hD
  refine lv_aload_n hx hb dX5_fails_29 rfl (lv_at hl 0 rfl) ?_
  refine va_get (D := D) (ci := 9) (v := .int 0) (C := RX5) (T := TX5) (N := 7) hx hb hts (by decide +kernel) hown hK hP 0 rfl rfl 0 (by decide) (hts (.fieldLink RX5 31 "HashladderModel" "thrown" "I") (by decide +kernel)) (fun _ h9 => h9) rfl dX5_fails_30 ?_
  refine lv_if_le (tgt := 40) hx hb dX5_fails_33 (by decide) (fun c_4 => ?_) (fun c_4 => absurd (by decide) c_4)
  refine lv_iconst (v := 0) hx hb dX5_fails_40 (by decide) ?_
  have hP9 := hP.sub (ws' := [(h, .inr (9, [.int 0, .ref ho, .ref hd, .ref hs, .ref hu, .ref hv, .int kn]))]) [0] rfl
  have hD9 := hD.sub (ws' := [(h, .inr (9, [.int 0, .ref ho, .ref hd, .ref hs, .ref hu, .ref hv, .int kn]))]) [0] (by decide) rfl
  have hK9 := hK.sub (tys' := []) [] rfl
  refine W.widen (k := 0) (n := 0) (by show 0 ≤ 0; omega) (by show 0 ≤ 0; omega) ?_
  exact W.zret (v := 0) hx hb hr (rfl) (zz_end hP9 hD9 hK9 hS (⟨rfl, rfl, rfl⟩)) hS.2.2 dX5_fails_41
set_option maxHeartbeats 4000000 in
set_option maxRecDepth 100000 in
theorem k_X5_fails_ (l : Launch) (D : va_G) (h : Nat) (th : Int32) (ho : Nat) (hd : Nat) (hs : Nat) (hu : Nat) (hv : Nat) (kn : Int32) : zz_M l yX5_fails_ wsX5_fails_ ({ frames := 2, cells := 0, slots := 0, locals := 100 }) D [.ref h, .int 0, .int 0] [] [(h, .inr (9, [.int th, .ref ho, .ref hd, .ref hs, .ref hu, .ref hv, .int kn]))] (fun _ _ => True) (fun H0 H1 v w t => v = some (.int 0) ∧ w = [(h, .inr (9, [.int 0, .ref ho, .ref hd, .ref hs, .ref hu, .ref hv, .int kn]))] ∧ t = []) := by
  refine zz_M.mk (cc := cX5_fails_) (maxL := 3) (ret := (some .boolean)) (by decide) rfl (Nat.le_of_ble_eq_true rfl) ?_
  intro p0 e0 s mt0 bl0 meth0 cd0 ls hC hname hP hK hD hX hl
  obtain ⟨hx, hb, hml, hr, hown, hts, hlocks⟩ := hC
  generalize hAe : va_A [(h, .inr (9, [.int th, .ref ho, .ref hd, .ref hs, .ref hu, .ref hv, .int kn]))] s.heap.size = A at *
  have hA : ∀ q : Nat, s.heap.size ≤ q → A q := fun q h => by rw [← hAe]; exact Or.inr h
  obtain ⟨H, hHs⟩ : ∃ z : Heap, z = s.heap := ⟨_, rfl⟩
  rw [← hHs] at hP ⊢
  have hS : va_S A s.heap H [] := by rw [hHs]; exact va_S.rf
  have hl : lv_has ls 3 [(0, .ref h), (1, .int 0), (2, .int 0)] := hl
  refine lv_aload_n hx hb dX5_fails__0 rfl (lv_at hl 0 rfl) ?_
  refine lv_iload_n hx hb dX5_fails__1 rfl (lv_at hl 1 rfl) ?_
  refine lv_iload_n hx hb dX5_fails__2 rfl (lv_at hl 2 rfl) ?_
  refine lv_iconst (v := 0) hx hb dX5_fails__3 (by decide) ?_
  have hFc := va_free (wc := [(h, .inr (9, [.int th, .ref ho, .ref hd, .ref hs, .ref hu, .ref hv, .int kn]))]) hD hS hA [0] rfl
  refine zz_after (wr := []) (va_runV (As := [.int 0, .int 0, .int 0]) (rest := []) ⟨hx, hb, hml, hown, hts⟩ ((k_X5_fails l D h th ho hd hs hu hv kn) H.size) (cwV 3 hts gX5_fails__X5_fails rfl rfl rfl (by decide +kernel) ⟨Nat.le_of_ble_eq_true rfl, Nat.le_of_ble_eq_true rfl⟩) (zz_pV (zz_pre (av := [.ref h, .int 0, .int 0, .int 0]) (tyc := []) (wc := [(h, .inr (9, [.int th, .ref ho, .ref hd, .ref hs, .ref hu, .ref hv, .int kn]))]) (X := fun _ _ => True) (Xc := (fun _ _ => True)) hP hD hK hS [0] [] rfl (by decide) rfl zz_St_tt (fun _ _ _ => trivial)) (va_recv hK hP (ci := 9) (q0 := 0) rfl rfl)) rfl rfl hl.1 rfl (lv_room (Nat.le_of_ble_eq_true rfl)) dX5_fails__4 ⟨by show 0 + 0 ≤ 0; omega, by show 0 + 0 ≤ 0; omega⟩) hP hD hK hS hFc [0] [] rfl rfl (by decide) (by decide) (fun v w1 ty1 H1 locs hq9 hz9 hk9 hP1 hD1 hK1 hS1 => ?_)
  obtain ⟨rfl, rfl, rfl⟩ := hq9
  clear hS hP hD hK hFc
  have hP : va_P D vwCl [(h, .inr (9, [.int 0, .ref ho, .ref hd, .ref hs, .ref hu, .ref hv, .int kn]))] H1 := hP1
  have hD : va_D A [(h, .inr (9, [.int 0, .ref ho, .ref hd, .ref hs, .ref hu, .ref hv, .int kn]))] := hD1
  have hK : va_K D vwCl [] s := hK1
  have hS := hS1
  clear hP1 hD1 hK1 hS1
  obtain ⟨H, rfl⟩ : ∃ z, z = H1 := ⟨_, rfl⟩
  refine W.eq (g2 := F0 mt0 7 ls [.int 0]) rfl ?_
  have hP9 := hP.sub (ws' := [(h, .inr (9, [.int 0, .ref ho, .ref hd, .ref hs, .ref hu, .ref hv, .int kn]))]) [0] rfl
  have hD9 := hD.sub (ws' := [(h, .inr (9, [.int 0, .ref ho, .ref hd, .ref hs, .ref hu, .ref hv, .int kn]))]) [0] (by decide) rfl
  have hK9 := hK.sub (tys' := []) [] rfl
  refine W.widen (k := 0) (n := 0) (by show 0 + 0 ≤ 0; omega) (by show 0 + 0 ≤ 0; omega) ?_
  exact W.zret (v := 0) hx hb hr (rfl) (zz_end hP9 hD9 hK9 hS (⟨rfl, rfl, rfl⟩)) hS.2.2 dX5_fails__7
set_option maxHeartbeats 4000000 in
set_option maxRecDepth 100000 in
theorem k_X5_tell (l : Launch) (D : va_G) (h : Nat) (th : Int32) (ho : Nat) (hd : Nat) (hs : Nat) (hu : Nat) (hv : Nat) (kn : Int32) (cD : ClassId) (fd : Nat → Int32) : zz_M l yX5_tell wsX5_tell ({ frames := 1, cells := 0, slots := 0, locals := 40 }) D [.ref h, .int 0] [(cD, .int)] [(h, .inr (9, [.int th, .ref ho, .ref hd, .ref hs, .ref hu, .ref hv, .int kn])), (hd, .inl (cD, 4, .inl fd))] (fun _ _ => True) (fun H0 H1 v w t => ∃ f2 : Nat → Int32, v = none ∧ w = [(h, .inr (9, [.int th, .ref ho, .ref hd, .ref hs, .ref hu, .ref hv, .int kn])), (hd, .inl (cD, 4, .inl f2))] ∧ t = [(cD, .int)]) := by
  refine zz_M.mk (cc := cX5_tell) (maxL := 2) (ret := none) (by decide) rfl (Nat.le_of_ble_eq_true rfl) ?_
  intro p0 e0 s mt0 bl0 meth0 cd0 ls hC hname hP hK hD hX hl
  obtain ⟨hx, hb, hml, hr, hown, hts, hlocks⟩ := hC
  generalize hAe : va_A [(h, .inr (9, [.int th, .ref ho, .ref hd, .ref hs, .ref hu, .ref hv, .int kn])), (hd, .inl (cD, 4, .inl fd))] s.heap.size = A at *
  have hA : ∀ q : Nat, s.heap.size ≤ q → A q := fun q h => by rw [← hAe]; exact Or.inr h
  obtain ⟨H, hHs⟩ : ∃ z : Heap, z = s.heap := ⟨_, rfl⟩
  rw [← hHs] at hP ⊢
  have hS : va_S A s.heap H [] := by rw [hHs]; exact va_S.rf
  have hl : lv_has ls 2 [(0, .ref h), (1, .int 0)] := hl
  refine lv_aload_n hx hb dX5_tell_0 rfl (lv_at hl 0 rfl) ?_
  refine va_get (D := D) (ci := 9) (v := .ref hd) (C := RX5) (T := TX5) (N := 7) hx hb hts (by decide +kernel) hown hK hP 0 rfl rfl 2 (by decide) (hts (.fieldLink RX5 14 "HashladderModel" "done" "[I") (by decide +kernel)) (fun _ h9 => h9) rfl dX5_tell_1 ?_
  refine lv_iload_n hx hb dX5_tell_4 rfl (lv_at hl 1 rfl) ?_
  refine lv_iconst (v := (-1)) hx hb dX5_tell_5 (by decide) ?_
  refine va_iast hx hb hK hP hD hS 1 0 rfl rfl ((show vp_in (0 : Int32) 4 from vp_in_nI (n := 0) (by decide) (by decide))) dX5_tell_6 (fun H locs hP hD hS => ?_)
  have hP : va_P D vwCl [(h, .inr (9, [.int th, .ref ho, .ref hd, .ref hs, .ref hu, .ref hv, .int kn])), (hd, .inl (cD, 4, .inl (upd fd (0 : Int32).toNatClampNeg (-1))))] H := hP
  have hD : va_D A [(h, .inr (9, [.int th, .ref ho, .ref hd, .ref hs, .ref hu, .ref hv, .int kn])), (hd, .inl (cD, 4, .inl (upd fd (0 : Int32).toNatClampNeg (-1))))] := hD
  have hP9 := hP.sub (ws' := [(h, .inr (9, [.int th, .ref ho, .ref hd, .ref hs, .ref hu, .ref hv, .int kn])), (hd, .inl (cD, 4, .inl (upd fd (0 : Int32).toNatClampNeg (-1))))]) [0, 1] rfl
  have hD9 := hD.sub (ws' := [(h, .inr (9, [.int th, .ref ho, .ref hd, .ref hs, .ref hu, .ref hv, .int kn])), (hd, .inl (cD, 4, .inl (upd fd (0 : Int32).toNatClampNeg (-1))))]) [0, 1] (by decide) rfl
  have hK9 := hK.sub (tys' := [(cD, .int)]) [0] rfl
  refine W.widen (k := 0) (n := 0) (by show 0 ≤ 0; omega) (by show 0 ≤ 0; omega) ?_
  exact W.vret hx hb hr (zz_end hP9 hD9 hK9 hS (⟨_, rfl, rfl, rfl⟩)) hS.2.2 dX5_tell_7
set_option maxHeartbeats 4000000 in
set_option maxRecDepth 100000 in
theorem k_X5_set (l : Launch) (D : va_G) (h : Nat) (th : Int32) (ho : Nat) (hd : Nat) (hs : Nat) (hu : Nat) (hv : Nat) (kn : Int32) (cR : ClassId) (R0 : Nat → Option Nat) (y0 : Nat) (cI : ClassId) (f0 : Nat → Int32) (n : Nat) (hR : R0 0 = some y0) (hn : n < 64) : zz_M l yX5_set wsX5_set ({ frames := 1, cells := 0, slots := 0, locals := 40 }) D [.ref h, .int 0, .int (nI n), .int 99] [(cR, .array .int), (cI, .int)] [(h, .inr (9, [.int th, .ref ho, .ref hd, .ref hs, .ref hu, .ref hv, .int kn])), (ho, .inl (cR, 4, .inr (.inr (.inr (.inr R0))))), (y0, .inl (cI, 64, .inl f0))] (fun _ _ => True) (fun H0 H1 v w t => v = some (.int (f0 n)) ∧ w = [(h, .inr (9, [.int th, .ref ho, .ref hd, .ref hs, .ref hu, .ref hv, .int kn])), (ho, .inl (cR, 4, .inr (.inr (.inr (.inr R0))))), (y0, .inl (cI, 64, .inl (upd f0 n 99)))] ∧ t = [(cR, .array .int), (cI, .int)]) := by
  refine zz_M.mk (cc := cX5_set) (maxL := 5) (ret := (some .int)) (by decide) rfl (Nat.le_of_ble_eq_true rfl) ?_
  intro p0 e0 s mt0 bl0 meth0 cd0 ls hC hname hP hK hD hX hl
  obtain ⟨hx, hb, hml, hr, hown, hts, hlocks⟩ := hC
  generalize hAe : va_A [(h, .inr (9, [.int th, .ref ho, .ref hd, .ref hs, .ref hu, .ref hv, .int kn])), (ho, .inl (cR, 4, .inr (.inr (.inr (.inr R0))))), (y0, .inl (cI, 64, .inl f0))] s.heap.size = A at *
  have hA : ∀ q : Nat, s.heap.size ≤ q → A q := fun q h => by rw [← hAe]; exact Or.inr h
  obtain ⟨H, hHs⟩ : ∃ z : Heap, z = s.heap := ⟨_, rfl⟩
  rw [← hHs] at hP ⊢
  have hS : va_S A s.heap H [] := by rw [hHs]; exact va_S.rf
  have hl : lv_has ls 5 [(0, .ref h), (1, .int 0), (2, .int (nI n)), (3, .int 99)] := hl
  refine lv_aload_n hx hb dX5_set_0 rfl (lv_at hl 0 rfl) ?_
  refine va_get (D := D) (ci := 9) (v := .ref ho) (C := RX5) (T := TX5) (N := 7) hx hb hts (by decide +kernel) hown hK hP 0 rfl rfl 1 (by decide) (hts (.fieldLink RX5 11 "HashladderModel" "rows" "[[I") (by decide +kernel)) (fun _ h9 => h9) rfl dX5_set_1 ?_
  refine lv_iload_n hx hb dX5_set_4 rfl (lv_at hl 1 rfl) ?_
  refine zz_aldA hx hb hK hP 1 0 rfl rfl rfl ((show vp_in (0 : Int32) 4 from vp_in_nI (n := 0) (by decide) (by decide))) (v := .ref y0) (by rw [show ((0 : Int32)).toNatClampNeg = 0 from by decide, hR]; rfl) dX5_set_5 ?_
  refine lv_iload_n hx hb dX5_set_6 rfl (lv_at hl 2 rfl) ?_
  refine va_iald hx hb hK hP 2 1 rfl rfl (vp_in_nI hn (by decide)) dX5_set_7 ?_
  refine lv_topi (fun z_1 ez_1 => ?_)
  obtain rfl : z_1 = f0 n := ez_1.trans (by rw [nI_clamp (by omega)])
  refine lv_istore (lv' := [(4, .int (f0 n)), (0, .ref h), (1, .int 0), (2, .int (nI n)), (3, .int 99)]) hx hb dX5_set_8 hl (by decide) rfl (fun ls hl => ?_)
  refine lv_aload_n hx hb dX5_set_10 rfl (lv_at hl 1 rfl) ?_
  refine va_get (D := D) (ci := 9) (v := .ref ho) (C := RX5) (T := TX5) (N := 7) hx hb hts (by decide +kernel) hown hK hP 0 rfl rfl 1 (by decide) (hts (.fieldLink RX5 11 "HashladderModel" "rows" "[[I") (by decide +kernel)) (fun _ h9 => h9) rfl dX5_set_11 ?_
  refine lv_iload_n hx hb dX5_set_14 rfl (lv_at hl 2 rfl) ?_
  refine zz_aldA hx hb hK hP 1 0 rfl rfl rfl ((show vp_in (0 : Int32) 4 from vp_in_nI (n := 0) (by decide) (by decide))) (v := .ref y0) (by rw [show ((0 : Int32)).toNatClampNeg = 0 from by decide, hR]; rfl) dX5_set_15 ?_
  refine lv_iload_n hx hb dX5_set_16 rfl (lv_at hl 3 rfl) ?_
  refine lv_iload_n hx hb dX5_set_17 rfl (lv_at hl 4 rfl) ?_
  refine va_iast hx hb hK hP hD hS 2 1 rfl rfl (vp_in_nI hn (by decide)) dX5_set_18 (fun H locs hP hD hS => ?_)
  have hP : va_P D vwCl [(h, .inr (9, [.int th, .ref ho, .ref hd, .ref hs, .ref hu, .ref hv, .int kn])), (ho, .inl (cR, 4, .inr (.inr (.inr (.inr R0))))), (y0, .inl (cI, 64, .inl (upd f0 (nI n : Int32).toNatClampNeg 99)))] H := hP
  have hD : va_D A [(h, .inr (9, [.int th, .ref ho, .ref hd, .ref hs, .ref hu, .ref hv, .int kn])), (ho, .inl (cR, 4, .inr (.inr (.inr (.inr R0))))), (y0, .inl (cI, 64, .inl (upd f0 (nI n : Int32).toNatClampNeg 99)))] := hD
  have ef : upd f0 (nI n : Int32).toNatClampNeg 99 = upd f0 n 99 := by rw [nI_clamp (by omega)]
  rw [ef] at hP hD
  refine lv_iload hx hb dX5_set_19 (lv_at hl 0 rfl) ?_
  have hP9 := hP.sub (ws' := [(h, .inr (9, [.int th, .ref ho, .ref hd, .ref hs, .ref hu, .ref hv, .int kn])), (ho, .inl (cR, 4, .inr (.inr (.inr (.inr R0))))), (y0, .inl (cI, 64, .inl (upd f0 n 99)))]) [0, 1, 2] rfl
  have hD9 := hD.sub (ws' := [(h, .inr (9, [.int th, .ref ho, .ref hd, .ref hs, .ref hu, .ref hv, .int kn])), (ho, .inl (cR, 4, .inr (.inr (.inr (.inr R0))))), (y0, .inl (cI, 64, .inl (upd f0 n 99)))]) [0, 1, 2] (by decide) rfl
  have hK9 := hK.sub (tys' := [(cR, .array .int), (cI, .int)]) [0, 1] rfl
  refine W.widen (k := 0) (n := 0) (by show 0 ≤ 0; omega) (by show 0 ≤ 0; omega) ?_
  exact W.iret (v := f0 n) hx hb hr (zz_end hP9 hD9 hK9 hS (⟨rfl, rfl, rfl⟩)) hS.2.2 dX5_set_21
set_option maxHeartbeats 4000000 in
set_option maxRecDepth 100000 in
theorem k_X5_put (l : Launch) (D : va_G) (h : Nat) (th : Int32) (ho : Nat) (hd : Nat) (hs : Nat) (hu : Nat) (hv : Nat) (kn : Int32) (cR : ClassId) (R0 : Nat → Option Nat) (y0 : Nat) (cI : ClassId) (f0 : Nat → Int32) (cD : ClassId) (fd : Nat → Int32) (n : Nat) (hR : R0 0 = some y0) (hn : n < 64) : zz_M l yX5_put wsX5_put ({ frames := 4, cells := 0, slots := 0, locals := 200 }) D [.ref h, .int 0, .int (nI n), .int 99] [(cR, .array .int), (cI, .int), (cD, .int)] [(h, .inr (9, [.int th, .ref ho, .ref hd, .ref hs, .ref hu, .ref hv, .int kn])), (ho, .inl (cR, 4, .inr (.inr (.inr (.inr R0))))), (y0, .inl (cI, 64, .inl f0)), (hd, .inl (cD, 4, .inl fd))] (fun _ _ => True) (fun H0 H1 v w t => ∃ f2 : Nat → Int32, v = some (.int (f0 n)) ∧ w = [(h, .inr (9, [.int 0, .ref ho, .ref hd, .ref hs, .ref hu, .ref hv, .int kn])), (ho, .inl (cR, 4, .inr (.inr (.inr (.inr R0))))), (y0, .inl (cI, 64, .inl (upd f0 n 99))), (hd, .inl (cD, 4, .inl f2))] ∧ t = [(cR, .array .int), (cI, .int), (cD, .int)]) := by
  refine zz_M.mk (cc := cX5_put) (maxL := 4) (ret := (some .int)) (by decide) rfl (Nat.le_of_ble_eq_true rfl) ?_
  intro p0 e0 s mt0 bl0 meth0 cd0 ls hC hname hP hK hD hX hl
  obtain ⟨hx, hb, hml, hr, hown, hts, hlocks⟩ := hC
  generalize hAe : va_A [(h, .inr (9, [.int th, .ref ho, .ref hd, .ref hs, .ref hu, .ref hv, .int kn])), (ho, .inl (cR, 4, .inr (.inr (.inr (.inr R0))))), (y0, .inl (cI, 64, .inl f0)), (hd, .inl (cD, 4, .inl fd))] s.heap.size = A at *
  have hA : ∀ q : Nat, s.heap.size ≤ q → A q := fun q h => by rw [← hAe]; exact Or.inr h
  obtain ⟨H, hHs⟩ : ∃ z : Heap, z = s.heap := ⟨_, rfl⟩
  rw [← hHs] at hP ⊢
  have hS : va_S A s.heap H [] := by rw [hHs]; exact va_S.rf
  have hl : lv_has ls 4 [(0, .ref h), (1, .int 0), (2, .int (nI n)), (3, .int 99)] := hl
  refine lv_aload_n hx hb dX5_put_0 rfl (lv_at hl 0 rfl) ?_
  refine lv_iload_n hx hb dX5_put_1 rfl (lv_at hl 1 rfl) ?_
  have hFc := va_free (wc := []) hD hS hA [] rfl
  refine zz_after (wr := [(h, .inr (9, [.int th, .ref ho, .ref hd, .ref hs, .ref hu, .ref hv, .int kn])), (ho, .inl (cR, 4, .inr (.inr (.inr (.inr R0))))), (y0, .inl (cI, 64, .inl f0)), (hd, .inl (cD, 4, .inl fd))]) (va_runS (As := [.int 0]) (rest := [.ref h]) ⟨hx, hb, hml, hown, hts⟩ ((k_X5_isNo l D ) H.size) (va_cwS 1 hts gX5_put_X5_isNo rfl rfl rfl (by decide +kernel) ⟨Nat.le_of_ble_eq_true rfl, Nat.le_of_ble_eq_true rfl⟩) (zz_pre (av := [.int 0]) (tyc := []) (wc := []) (X := fun _ _ => True) (Xc := (fun _ _ => True)) hP hD hK hS [] [] rfl (by decide) rfl zz_St_tt (fun _ _ _ => trivial)) rfl rfl hl.1 rfl (lv_room (Nat.le_of_ble_eq_true rfl)) dX5_put_2 ⟨by show 0 + 0 ≤ 0; omega, by show 0 + 0 ≤ 0; omega⟩) hP hD hK hS hFc [] [0, 1, 2, 3] rfl rfl (by decide) (by decide) (fun v w1 ty1 H1 locs hq9 hz9 hk9 hP1 hD1 hK1 hS1 => ?_)
  obtain ⟨rfl, rfl, rfl⟩ := hq9
  clear hS hP hD hK hFc
  have hP : va_P D vwCl [(h, .inr (9, [.int th, .ref ho, .ref hd, .ref hs, .ref hu, .ref hv, .int kn])), (ho, .inl (cR, 4, .inr (.inr (.inr (.inr R0))))), (y0, .inl (cI, 64, .inl f0)), (hd, .inl (cD, 4, .inl fd))] H1 := hP1
  have hD : va_D A [(h, .inr (9, [.int th, .ref ho, .ref hd, .ref hs, .ref hu, .ref hv, .int kn])), (ho, .inl (cR, 4, .inr (.inr (.inr (.inr R0))))), (y0, .inl (cI, 64, .inl f0)), (hd, .inl (cD, 4, .inl fd))] := hD1
  have hK : va_K D vwCl [(cR, .array .int), (cI, .int), (cD, .int)] s := hK1
  have hS := hS1
  clear hP1 hD1 hK1 hS1
  obtain ⟨H, rfl⟩ : ∃ z, z = H1 := ⟨_, rfl⟩
  refine W.eq (g2 := F0 mt0 5 ls [.int 0, .ref h]) rfl ?_
  refine lv_iload_n hx hb dX5_put_5 rfl (lv_at hl 2 rfl) ?_
  have hFc := va_free (wc := []) hD hS hA [] rfl
  refine zz_after (wr := [(h, .inr (9, [.int th, .ref ho, .ref hd, .ref hs, .ref hu, .ref hv, .int kn])), (ho, .inl (cR, 4, .inr (.inr (.inr (.inr R0))))), (y0, .inl (cI, 64, .inl f0)), (hd, .inl (cD, 4, .inl fd))]) (va_runS (As := [.int (nI n)]) (rest := [.int 0, .ref h]) ⟨hx, hb, hml, hown, hts⟩ ((k_X5_isNoName l D n (hn)) H.size) (va_cwS 1 hts gX5_put_X5_isNoName rfl rfl rfl (by decide +kernel) ⟨Nat.le_of_ble_eq_true rfl, Nat.le_of_ble_eq_true rfl⟩) (zz_pre (av := [.int (nI n)]) (tyc := []) (wc := []) (X := fun _ _ => True) (Xc := (fun _ _ => True)) hP hD hK hS [] [] rfl (by decide) rfl zz_St_tt (fun _ _ _ => trivial)) rfl rfl hl.1 rfl (lv_room (Nat.le_of_ble_eq_true rfl)) dX5_put_6 ⟨by show 0 + 0 + 0 ≤ 0; omega, by show 0 + 0 + 0 ≤ 0; omega⟩) hP hD hK hS hFc [] [0, 1, 2, 3] rfl rfl (by decide) (by decide) (fun v w1 ty1 H1 locs hq9 hz9 hk9 hP1 hD1 hK1 hS1 => ?_)
  obtain ⟨rfl, rfl, rfl⟩ := hq9
  clear hS hP hD hK hFc
  have hP : va_P D vwCl [(h, .inr (9, [.int th, .ref ho, .ref hd, .ref hs, .ref hu, .ref hv, .int kn])), (ho, .inl (cR, 4, .inr (.inr (.inr (.inr R0))))), (y0, .inl (cI, 64, .inl f0)), (hd, .inl (cD, 4, .inl fd))] H1 := hP1
  have hD : va_D A [(h, .inr (9, [.int th, .ref ho, .ref hd, .ref hs, .ref hu, .ref hv, .int kn])), (ho, .inl (cR, 4, .inr (.inr (.inr (.inr R0))))), (y0, .inl (cI, 64, .inl f0)), (hd, .inl (cD, 4, .inl fd))] := hD1
  have hK : va_K D vwCl [(cR, .array .int), (cI, .int), (cD, .int)] s := hK1
  have hS := hS1
  clear hP1 hD1 hK1 hS1
  obtain ⟨H, rfl⟩ : ∃ z, z = H1 := ⟨_, rfl⟩
  refine W.eq (g2 := F0 mt0 9 ls [.int 0, .int 0, .ref h]) rfl ?_
  refine lv_if_ne (tgt := 19) hx hb dX5_put_9 (by decide) (fun c_1 => absurd (rfl) c_1) (fun c_1 => ?_)
  refine lv_iload_n hx hb dX5_put_12 rfl (lv_at hl 3 rfl) ?_
  have hFc := va_free (wc := []) hD hS hA [] rfl
  refine zz_after (wr := [(h, .inr (9, [.int th, .ref ho, .ref hd, .ref hs, .ref hu, .ref hv, .int kn])), (ho, .inl (cR, 4, .inr (.inr (.inr (.inr R0))))), (y0, .inl (cI, 64, .inl f0)), (hd, .inl (cD, 4, .inl fd))]) (va_runS (As := [.int 99]) (rest := [.int 0, .ref h]) ⟨hx, hb, hml, hown, hts⟩ ((k_X5_isNoWorth l D ) H.size) (va_cwS 1 hts gX5_put_X5_isNoWorth rfl rfl rfl (by decide +kernel) ⟨Nat.le_of_ble_eq_true rfl, Nat.le_of_ble_eq_true rfl⟩) (zz_pre (av := [.int 99]) (tyc := []) (wc := []) (X := fun _ _ => True) (Xc := (fun _ _ => True)) hP hD hK hS [] [] rfl (by decide) rfl zz_St_tt (fun _ _ _ => trivial)) rfl rfl hl.1 rfl (lv_room (Nat.le_of_ble_eq_true rfl)) dX5_put_13 ⟨by show 0 + 0 + 0 + 0 ≤ 0; omega, by show 0 + 0 + 0 + 0 ≤ 0; omega⟩) hP hD hK hS hFc [] [0, 1, 2, 3] rfl rfl (by decide) (by decide) (fun v w1 ty1 H1 locs hq9 hz9 hk9 hP1 hD1 hK1 hS1 => ?_)
  obtain ⟨rfl, rfl, rfl⟩ := hq9
  clear hS hP hD hK hFc
  have hP : va_P D vwCl [(h, .inr (9, [.int th, .ref ho, .ref hd, .ref hs, .ref hu, .ref hv, .int kn])), (ho, .inl (cR, 4, .inr (.inr (.inr (.inr R0))))), (y0, .inl (cI, 64, .inl f0)), (hd, .inl (cD, 4, .inl fd))] H1 := hP1
  have hD : va_D A [(h, .inr (9, [.int th, .ref ho, .ref hd, .ref hs, .ref hu, .ref hv, .int kn])), (ho, .inl (cR, 4, .inr (.inr (.inr (.inr R0))))), (y0, .inl (cI, 64, .inl f0)), (hd, .inl (cD, 4, .inl fd))] := hD1
  have hK : va_K D vwCl [(cR, .array .int), (cI, .int), (cD, .int)] s := hK1
  have hS := hS1
  clear hP1 hD1 hK1 hS1
  obtain ⟨H, rfl⟩ : ∃ z, z = H1 := ⟨_, rfl⟩
  refine W.eq (g2 := F0 mt0 16 ls [.int 0, .int 0, .ref h]) rfl ?_
  refine lv_if_eq (tgt := 23) hx hb dX5_put_16 (by decide) (fun c_2 => ?_) (fun c_2 => absurd (rfl) c_2)
  refine lv_iconst (v := 0) hx hb dX5_put_23 (by decide) ?_
  have hFc := va_free (wc := [(h, .inr (9, [.int th, .ref ho, .ref hd, .ref hs, .ref hu, .ref hv, .int kn]))]) hD hS hA [0] rfl
  refine zz_after (wr := [(ho, .inl (cR, 4, .inr (.inr (.inr (.inr R0))))), (y0, .inl (cI, 64, .inl f0)), (hd, .inl (cD, 4, .inl fd))]) (va_runV (As := [.int 0, .int 0]) (rest := []) ⟨hx, hb, hml, hown, hts⟩ ((k_X5_fails_ l D h th ho hd hs hu hv kn) H.size) (cwV 2 hts gX5_put_X5_fails_ rfl rfl rfl (by decide +kernel) ⟨Nat.le_of_ble_eq_true rfl, Nat.le_of_ble_eq_true rfl⟩) (zz_pV (zz_pre (av := [.ref h, .int 0, .int 0]) (tyc := []) (wc := [(h, .inr (9, [.int th, .ref ho, .ref hd, .ref hs, .ref hu, .ref hv, .int kn]))]) (X := fun _ _ => True) (Xc := (fun _ _ => True)) hP hD hK hS [0] [] rfl (by decide) rfl zz_St_tt (fun _ _ _ => trivial)) (va_recv hK hP (ci := 9) (q0 := 0) rfl rfl)) rfl rfl hl.1 rfl (lv_room (Nat.le_of_ble_eq_true rfl)) dX5_put_24 ⟨by show 0 + 0 + 0 + 0 + 0 ≤ 0; omega, by show 0 + 0 + 0 + 0 + 0 ≤ 0; omega⟩) hP hD hK hS hFc [0] [1, 2, 3] rfl rfl (by decide) (by decide) (fun v w1 ty1 H1 locs hq9 hz9 hk9 hP1 hD1 hK1 hS1 => ?_)
  obtain ⟨rfl, rfl, rfl⟩ := hq9
  clear hS hP hD hK hFc
  have hP : va_P D vwCl [(ho, .inl (cR, 4, .inr (.inr (.inr (.inr R0))))), (y0, .inl (cI, 64, .inl f0)), (hd, .inl (cD, 4, .inl fd)), (h, .inr (9, [.int 0, .ref ho, .ref hd, .ref hs, .ref hu, .ref hv, .int kn]))] H1 := hP1
  have hD : va_D A [(ho, .inl (cR, 4, .inr (.inr (.inr (.inr R0))))), (y0, .inl (cI, 64, .inl f0)), (hd, .inl (cD, 4, .inl fd)), (h, .inr (9, [.int 0, .ref ho, .ref hd, .ref hs, .ref hu, .ref hv, .int kn]))] := hD1
  have hK : va_K D vwCl [(cR, .array .int), (cI, .int), (cD, .int)] s := hK1
  have hS := hS1
  clear hP1 hD1 hK1 hS1
  obtain ⟨H, rfl⟩ : ∃ z, z = H1 := ⟨_, rfl⟩
  refine W.eq (g2 := F0 mt0 27 ls [.int 0]) rfl ?_
  refine lv_if_eq (tgt := 32) hx hb dX5_put_27 (by decide) (fun c_3 => ?_) (fun c_3 => absurd (rfl) c_3)
  refine lv_aload_n hx hb dX5_put_32 rfl (lv_at hl 0 rfl) ?_
  refine lv_iload_n hx hb dX5_put_33 rfl (lv_at hl 1 rfl) ?_
  have hFc := va_free (wc := [(h, .inr (9, [.int 0, .ref ho, .ref hd, .ref hs, .ref hu, .ref hv, .int kn])), (hd, .inl (cD, 4, .inl fd))]) hD hS hA [3, 2] rfl
  refine zz_after (wr := [(ho, .inl (cR, 4, .inr (.inr (.inr (.inr R0))))), (y0, .inl (cI, 64, .inl f0))]) (va_runV (As := [.int 0]) (rest := []) ⟨hx, hb, hml, hown, hts⟩ ((k_X5_tell l D h 0 ho hd hs hu hv kn cD fd) H.size) (cwV 1 hts gX5_put_X5_tell rfl rfl rfl (by decide +kernel) ⟨Nat.le_of_ble_eq_true rfl, Nat.le_of_ble_eq_true rfl⟩) (zz_pV (zz_pre (av := [.ref h, .int 0]) (tyc := [(cD, .int)]) (wc := [(h, .inr (9, [.int 0, .ref ho, .ref hd, .ref hs, .ref hu, .ref hv, .int kn])), (hd, .inl (cD, 4, .inl fd))]) (X := fun _ _ => True) (Xc := (fun _ _ => True)) hP hD hK hS [3, 2] [2] rfl (by decide) rfl zz_St_tt (fun _ _ _ => trivial)) (va_recv hK hP (ci := 9) (q0 := 3) rfl rfl)) rfl rfl hl.1 rfl (lv_room (Nat.le_of_ble_eq_true rfl)) dX5_put_34 ⟨by show 0 + 0 + 0 + 0 + 0 + 0 ≤ 0; omega, by show 0 + 0 + 0 + 0 + 0 + 0 ≤ 0; omega⟩) hP hD hK hS hFc [3, 2] [0, 1] rfl rfl (by decide) (by decide) (fun v w1 ty1 H1 locs hq9 hz9 hk9 hP1 hD1 hK1 hS1 => ?_)
  obtain ⟨f2_4, rfl, rfl, rfl⟩ := hq9
  clear hS hP hD hK hFc
  have hP : va_P D vwCl [(ho, .inl (cR, 4, .inr (.inr (.inr (.inr R0))))), (y0, .inl (cI, 64, .inl f0)), (h, .inr (9, [.int 0, .ref ho, .ref hd, .ref hs, .ref hu, .ref hv, .int kn])), (hd, .inl (cD, 4, .inl f2_4))] H1 := hP1
  have hD : va_D A [(ho, .inl (cR, 4, .inr (.inr (.inr (.inr R0))))), (y0, .inl (cI, 64, .inl f0)), (h, .inr (9, [.int 0, .ref ho, .ref hd, .ref hs, .ref hu, .ref hv, .int kn])), (hd, .inl (cD, 4, .inl f2_4))] := hD1
  have hK : va_K D vwCl [(cR, .array .int), (cI, .int), (cD, .int), (cD, .int)] s := hK1
  have hS := hS1
  clear hP1 hD1 hK1 hS1
  obtain ⟨H, rfl⟩ : ∃ z, z = H1 := ⟨_, rfl⟩
  refine W.eq (g2 := F0 mt0 37 ls []) rfl ?_
  refine lv_aload_n hx hb dX5_put_37 rfl (lv_at hl 0 rfl) ?_
  refine lv_iload_n hx hb dX5_put_38 rfl (lv_at hl 1 rfl) ?_
  refine lv_iload_n hx hb dX5_put_39 rfl (lv_at hl 2 rfl) ?_
  refine lv_iload_n hx hb dX5_put_40 rfl (lv_at hl 3 rfl) ?_
  have hFc := va_free (wc := [(h, .inr (9, [.int 0, .ref ho, .ref hd, .ref hs, .ref hu, .ref hv, .int kn])), (ho, .inl (cR, 4, .inr (.inr (.inr (.inr R0))))), (y0, .inl (cI, 64, .inl f0))]) hD hS hA [2, 0, 1] rfl
  refine zz_after (wr := [(hd, .inl (cD, 4, .inl f2_4))]) (va_runV (As := [.int 0, .int (nI n), .int 99]) (rest := []) ⟨hx, hb, hml, hown, hts⟩ ((k_X5_set l D h 0 ho hd hs hu hv kn cR R0 y0 cI f0 n (hR) (hn)) H.size) (cwV 3 hts gX5_put_X5_set rfl rfl rfl (by decide +kernel) ⟨Nat.le_of_ble_eq_true rfl, Nat.le_of_ble_eq_true rfl⟩) (zz_pV (zz_pre (av := [.ref h, .int 0, .int (nI n), .int 99]) (tyc := [(cR, .array .int), (cI, .int)]) (wc := [(h, .inr (9, [.int 0, .ref ho, .ref hd, .ref hs, .ref hu, .ref hv, .int kn])), (ho, .inl (cR, 4, .inr (.inr (.inr (.inr R0))))), (y0, .inl (cI, 64, .inl f0))]) (X := fun _ _ => True) (Xc := (fun _ _ => True)) hP hD hK hS [2, 0, 1] [0, 1] rfl (by decide) rfl zz_St_tt (fun _ _ _ => trivial)) (va_recv hK hP (ci := 9) (q0 := 2) rfl rfl)) rfl rfl hl.1 rfl (lv_room (Nat.le_of_ble_eq_true rfl)) dX5_put_41 ⟨by show 0 + 0 + 0 + 0 + 0 + 0 + 0 ≤ 0; omega, by show 0 + 0 + 0 + 0 + 0 + 0 + 0 ≤ 0; omega⟩) hP hD hK hS hFc [2, 0, 1] [3] rfl rfl (by decide) (by decide) (fun v w1 ty1 H1 locs hq9 hz9 hk9 hP1 hD1 hK1 hS1 => ?_)
  obtain ⟨rfl, rfl, rfl⟩ := hq9
  clear hS hP hD hK hFc
  have hP : va_P D vwCl [(hd, .inl (cD, 4, .inl f2_4)), (h, .inr (9, [.int 0, .ref ho, .ref hd, .ref hs, .ref hu, .ref hv, .int kn])), (ho, .inl (cR, 4, .inr (.inr (.inr (.inr R0))))), (y0, .inl (cI, 64, .inl (upd f0 n 99)))] H1 := hP1
  have hD : va_D A [(hd, .inl (cD, 4, .inl f2_4)), (h, .inr (9, [.int 0, .ref ho, .ref hd, .ref hs, .ref hu, .ref hv, .int kn])), (ho, .inl (cR, 4, .inr (.inr (.inr (.inr R0))))), (y0, .inl (cI, 64, .inl (upd f0 n 99)))] := hD1
  have hK : va_K D vwCl [(cR, .array .int), (cI, .int), (cD, .int), (cD, .int), (cR, .array .int), (cI, .int)] s := hK1
  have hS := hS1
  clear hP1 hD1 hK1 hS1
  obtain ⟨H, rfl⟩ : ∃ z, z = H1 := ⟨_, rfl⟩
  refine W.eq (g2 := F0 mt0 44 ls [.int (f0 n)]) rfl ?_
  have hP9 := hP.sub (ws' := [(h, .inr (9, [.int 0, .ref ho, .ref hd, .ref hs, .ref hu, .ref hv, .int kn])), (ho, .inl (cR, 4, .inr (.inr (.inr (.inr R0))))), (y0, .inl (cI, 64, .inl (upd f0 n 99))), (hd, .inl (cD, 4, .inl f2_4))]) [1, 2, 3, 0] rfl
  have hD9 := hD.sub (ws' := [(h, .inr (9, [.int 0, .ref ho, .ref hd, .ref hs, .ref hu, .ref hv, .int kn])), (ho, .inl (cR, 4, .inr (.inr (.inr (.inr R0))))), (y0, .inl (cI, 64, .inl (upd f0 n 99))), (hd, .inl (cD, 4, .inl f2_4))]) [1, 2, 3, 0] (by decide) rfl
  have hK9 := hK.sub (tys' := [(cR, .array .int), (cI, .int), (cD, .int)]) [0, 1, 2] rfl
  refine W.widen (k := 0) (n := 0) (by show 0 + 0 + 0 + 0 + 0 + 0 + 0 ≤ 0; omega) (by show 0 + 0 + 0 + 0 + 0 + 0 + 0 ≤ 0; omega) ?_
  exact W.iret (v := f0 n) hx hb hr (zz_end hP9 hD9 hK9 hS (⟨_, rfl, rfl, rfl⟩)) hS.2.2 dX5_put_44
set_option maxHeartbeats 4000000 in
set_option maxRecDepth 100000 in
theorem k_X5_width (l : Launch) (D : va_G) (h : Nat) (th : Int32) (ho : Nat) (hd : Nat) (hs : Nat) (hu : Nat) (hv : Nat) (kn : Int32) (cR : ClassId) (R0 : Nat → Option Nat) (y0 : Nat) (cI : ClassId) (f0 : Nat → Int32) (qe : Nat) (be : Nat) (fe : Nat → Int32) (qq : Nat) (bq : Nat) (fq : Nat → Int32) (qs : Nat) (bs : Nat) (fs : Nat → Int32) (hR : R0 0 = some y0) (hf1 : ∀ n, n < 10 → f0 n = -1) (hf2 : ∀ n, 10 ≤ n → n < 64 → f0 n = 99) : zz_M l yX5_width wsX5_width ({ frames := 9, cells := 486, slots := 487296, locals := 3700 }) D [.ref h, .int 0] [(cR, .array .int), (cI, .int)] [(h, .inr (9, [.int th, .ref ho, .ref hd, .ref hs, .ref hu, .ref hv, .int kn])), (ho, .inl (cR, 4, .inr (.inr (.inr (.inr R0))))), (y0, .inl (cI, 64, .inl f0))] (fun A U => zz_G A U ∧ zz_S qe be 0 fe A U ∧ vk_R RX5 116 "" qe U ∧ zz_S qq bq 1 fq A U ∧ vk_R RX5 134 "=" qq U ∧ zz_S qs bs 2 fs A U ∧ vk_R RX5 152 ", " qs U) (fun H0 H1 v w t => ∃ L2 : List Nat, zz_L L2 H0.size H1 20252 ∧ zz_d L2 [(h, .inr (9, [.int 0, .ref ho, .ref hd, .ref hs, .ref hu, .ref hv, .int kn])), (ho, .inl (cR, 4, .inr (.inr (.inr (.inr R0))))), (y0, .inl (cI, 64, .inl f0))] ∧ v = some (.int (nI 378)) ∧ w = [(h, .inr (9, [.int 0, .ref ho, .ref hd, .ref hs, .ref hu, .ref hv, .int kn])), (ho, .inl (cR, 4, .inr (.inr (.inr (.inr R0))))), (y0, .inl (cI, 64, .inl f0))] ∧ t = [(cR, .array .int), (cI, .int)]) := by
  refine zz_M.mk (cc := cX5_width) (maxL := 2) (ret := (some .int)) (by decide) rfl (Nat.le_of_ble_eq_true rfl) ?_
  intro p0 e0 s mt0 bl0 meth0 cd0 ls hC hname hP hK hD hX hl
  obtain ⟨hx, hb, hml, hr, hown, hts, hlocks⟩ := hC
  obtain ⟨hX0, hX1, hX2, hX3, hX4, hX5, hX6⟩ := hX
  generalize hAe : va_A [(h, .inr (9, [.int th, .ref ho, .ref hd, .ref hs, .ref hu, .ref hv, .int kn])), (ho, .inl (cR, 4, .inr (.inr (.inr (.inr R0))))), (y0, .inl (cI, 64, .inl f0))] s.heap.size = A at *
  have hA : ∀ q : Nat, s.heap.size ≤ q → A q := fun q h => by rw [← hAe]; exact Or.inr h
  obtain ⟨H, hHs⟩ : ∃ z : Heap, z = s.heap := ⟨_, rfl⟩
  rw [← hHs] at hP ⊢
  have hS : va_S A s.heap H [] := by rw [hHs]; exact va_S.rf
  have hl : lv_has ls 2 [(0, .ref h), (1, .int 0)] := hl
  refine lv_aload_n hx hb dX5_width_0 rfl (lv_at hl 0 rfl) ?_
  refine lv_iload_n hx hb dX5_width_1 rfl (lv_at hl 1 rfl) ?_
  have hFc := va_free (wc := []) hD hS hA [] rfl
  refine zz_after (wr := [(h, .inr (9, [.int th, .ref ho, .ref hd, .ref hs, .ref hu, .ref hv, .int kn])), (ho, .inl (cR, 4, .inr (.inr (.inr (.inr R0))))), (y0, .inl (cI, 64, .inl f0))]) (va_runS (As := [.int 0]) (rest := [.ref h]) ⟨hx, hb, hml, hown, hts⟩ ((k_X5_isNo l D ) H.size) (va_cwS 1 hts gX5_width_X5_isNo rfl rfl rfl (by decide +kernel) ⟨Nat.le_of_ble_eq_true rfl, Nat.le_of_ble_eq_true rfl⟩) (zz_pre (av := [.int 0]) (tyc := []) (wc := []) (X := fun _ _ => True) (Xc := (fun _ _ => True)) hP hD hK hS [] [] rfl (by decide) rfl zz_St_tt (fun _ _ _ => trivial)) rfl rfl hl.1 rfl (lv_room (Nat.le_of_ble_eq_true rfl)) dX5_width_2 ⟨by show 0 + 0 ≤ 486; omega, by show 0 + 0 ≤ 487296; omega⟩) hP hD hK hS hFc [] [0, 1, 2] rfl rfl (by decide) (by decide) (fun v w1 ty1 H1 locs hq9 hz9 hk9 hP1 hD1 hK1 hS1 => ?_)
  obtain ⟨rfl, rfl, rfl⟩ := hq9
  clear hS hP hD hK hFc
  have hP : va_P D vwCl [(h, .inr (9, [.int th, .ref ho, .ref hd, .ref hs, .ref hu, .ref hv, .int kn])), (ho, .inl (cR, 4, .inr (.inr (.inr (.inr R0))))), (y0, .inl (cI, 64, .inl f0))] H1 := hP1
  have hD : va_D A [(h, .inr (9, [.int th, .ref ho, .ref hd, .ref hs, .ref hu, .ref hv, .int kn])), (ho, .inl (cR, 4, .inr (.inr (.inr (.inr R0))))), (y0, .inl (cI, 64, .inl f0))] := hD1
  have hK : va_K D vwCl [(cR, .array .int), (cI, .int)] s := hK1
  have hS := hS1
  clear hP1 hD1 hK1 hS1
  obtain ⟨H, rfl⟩ : ∃ z, z = H1 := ⟨_, rfl⟩
  refine W.eq (g2 := F0 mt0 5 ls [.int 0, .ref h]) rfl ?_
  refine lv_iconst (v := 0) hx hb dX5_width_5 (by decide) ?_
  have hFc := va_free (wc := [(h, .inr (9, [.int th, .ref ho, .ref hd, .ref hs, .ref hu, .ref hv, .int kn]))]) hD hS hA [0] rfl
  refine zz_after (wr := [(ho, .inl (cR, 4, .inr (.inr (.inr (.inr R0))))), (y0, .inl (cI, 64, .inl f0))]) (va_runV (As := [.int 0, .int 0]) (rest := []) ⟨hx, hb, hml, hown, hts⟩ ((k_X5_fails_ l D h th ho hd hs hu hv kn) H.size) (cwV 2 hts gX5_width_X5_fails_ rfl rfl rfl (by decide +kernel) ⟨Nat.le_of_ble_eq_true rfl, Nat.le_of_ble_eq_true rfl⟩) (zz_pV (zz_pre (av := [.ref h, .int 0, .int 0]) (tyc := []) (wc := [(h, .inr (9, [.int th, .ref ho, .ref hd, .ref hs, .ref hu, .ref hv, .int kn]))]) (X := fun _ _ => True) (Xc := (fun _ _ => True)) hP hD hK hS [0] [] rfl (by decide) rfl zz_St_tt (fun _ _ _ => trivial)) (va_recv hK hP (ci := 9) (q0 := 0) rfl rfl)) rfl rfl hl.1 rfl (lv_room (Nat.le_of_ble_eq_true rfl)) dX5_width_6 ⟨by show 0 + 0 + 0 ≤ 486; omega, by show 0 + 0 + 0 ≤ 487296; omega⟩) hP hD hK hS hFc [0] [1, 2] rfl rfl (by decide) (by decide) (fun v w1 ty1 H1 locs hq9 hz9 hk9 hP1 hD1 hK1 hS1 => ?_)
  obtain ⟨rfl, rfl, rfl⟩ := hq9
  clear hS hP hD hK hFc
  have hP : va_P D vwCl [(ho, .inl (cR, 4, .inr (.inr (.inr (.inr R0))))), (y0, .inl (cI, 64, .inl f0)), (h, .inr (9, [.int 0, .ref ho, .ref hd, .ref hs, .ref hu, .ref hv, .int kn]))] H1 := hP1
  have hD : va_D A [(ho, .inl (cR, 4, .inr (.inr (.inr (.inr R0))))), (y0, .inl (cI, 64, .inl f0)), (h, .inr (9, [.int 0, .ref ho, .ref hd, .ref hs, .ref hu, .ref hv, .int kn]))] := hD1
  have hK : va_K D vwCl [(cR, .array .int), (cI, .int)] s := hK1
  have hS := hS1
  clear hP1 hD1 hK1 hS1
  obtain ⟨H, rfl⟩ : ∃ z, z = H1 := ⟨_, rfl⟩
  refine W.eq (g2 := F0 mt0 9 ls [.int 0]) rfl ?_
  refine lv_if_eq (tgt := 16) hx hb dX5_width_9 (by decide) (fun c_1 => ?_) (fun c_1 => absurd (rfl) c_1)
  refine lv_iconst (v := 2) hx hb dX5_width_16 (by decide) ?_
  refine lv_aload_n hx hb dX5_width_17 rfl (lv_at hl 0 rfl) ?_
  refine lv_iload_n hx hb dX5_width_18 rfl (lv_at hl 1 rfl) ?_
  refine va_ldcS hx hb hown hX6 dX5_width_19 ?_
  have hz0 := hS.1
  have hFc := va_free (wc := [(h, .inr (9, [.int 0, .ref ho, .ref hd, .ref hs, .ref hu, .ref hv, .int kn])), (ho, .inl (cR, 4, .inr (.inr (.inr (.inr R0))))), (y0, .inl (cI, 64, .inl f0))]) hD hS hA [2, 0, 1] rfl
  have hO0 := zz_out zz_St_G hX0 hS hFc
  have hO1 := zz_out (zz_St_S qe be 0 fe) hX1 hS hFc
  have hO2 := zz_out (X := fun A U => vk_R RX5 116 "" qe U) (zz_St_R RX5 "" 116 qe) hX2 hS hFc
  have hO3 := zz_out (zz_St_S qq bq 1 fq) hX3 hS hFc
  have hO4 := zz_out (X := fun A U => vk_R RX5 134 "=" qq U) (zz_St_R RX5 "=" 134 qq) hX4 hS hFc
  have hO5 := zz_out (zz_St_S qs bs 2 fs) hX5 hS hFc
  refine zz_after (wr := []) (va_runV (As := [.int 0, .ref qs]) (rest := [.int 2]) ⟨hx, hb, hml, hown, hts⟩ ((k_X5_textOf l D h 0 ho hd hs hu hv kn cR R0 y0 cI f0 qe be fe qq bq fq qs bs fs (hR) (hf1) (hf2)) H.size) (cwV 2 hts gX5_width_X5_textOf rfl rfl rfl (by decide +kernel) ⟨Nat.le_of_ble_eq_true rfl, Nat.le_of_ble_eq_true rfl⟩) (zz_pV (zz_pre (av := [.ref h, .int 0, .ref qs]) (tyc := [(cR, .array .int), (cI, .int)]) (wc := [(h, .inr (9, [.int 0, .ref ho, .ref hd, .ref hs, .ref hu, .ref hv, .int kn])), (ho, .inl (cR, 4, .inr (.inr (.inr (.inr R0))))), (y0, .inl (cI, 64, .inl f0))]) (X := fun _ _ => True) (Xc := (fun A U => zz_G A U ∧ zz_S qe be 0 fe A U ∧ vk_R RX5 116 "" qe U ∧ zz_S qq bq 1 fq A U ∧ vk_R RX5 134 "=" qq U ∧ zz_S qs bs 2 fs A U)) hP hD hK hS [2, 0, 1] [0, 1] rfl (by decide) rfl (zz_St_and zz_St_G (zz_St_and (zz_St_S qe be 0 fe) (zz_St_and (zz_St_R RX5 "" 116 qe) (zz_St_and (zz_St_S qq bq 1 fq) (zz_St_and (zz_St_R RX5 "=" 134 qq) (zz_St_S qs bs 2 fs)))))) (fun U h1 h2 => ⟨hO0 U h1 h2, hO1 U h1 h2, hO2 U h1 h2, hO3 U h1 h2, hO4 U h1 h2, hO5 U h1 h2⟩)) (va_recv hK hP (ci := 9) (q0 := 2) rfl rfl)) rfl rfl hl.1 rfl (lv_room (Nat.le_of_ble_eq_true rfl)) dX5_width_21 ⟨by show 0 + 0 + 0 + 486 ≤ 486; omega, by show 0 + 0 + 0 + 487296 ≤ 487296; omega⟩) hP hD hK hS hFc [2, 0, 1] [] rfl rfl (by decide) (by decide) (fun v w1 ty1 H1 locs hq9 hz9 hk9 hP1 hD1 hK1 hS1 => ?_)
  obtain ⟨t2_2, b2_3, cA2_4, f2_5, L2_6, h_7, h_8, h_9, rfl, rfl, rfl⟩ := hq9
  clear hS hP hD hK hFc hO0 hO1 hO2 hO3 hO4 hO5
  have hP : va_P D vwCl [(h, .inr (9, [.int 0, .ref ho, .ref hd, .ref hs, .ref hu, .ref hv, .int kn])), (ho, .inl (cR, 4, .inr (.inr (.inr (.inr R0))))), (y0, .inl (cI, 64, .inl f0)), (t2_2, .inr (0, [.ref b2_3, .int 0, .int 0, .int 0])), (b2_3, .inl (cA2_4, 376, .inl f2_5))] H1 := hP1
  have hD : va_D A [(h, .inr (9, [.int 0, .ref ho, .ref hd, .ref hs, .ref hu, .ref hv, .int kn])), (ho, .inl (cR, 4, .inr (.inr (.inr (.inr R0))))), (y0, .inl (cI, 64, .inl f0)), (t2_2, .inr (0, [.ref b2_3, .int 0, .int 0, .int 0])), (b2_3, .inl (cA2_4, 376, .inl f2_5))] := hD1
  have hK : va_K D vwCl [(cR, .array .int), (cI, .int), (cR, .array .int), (cI, .int), (cA2_4, .byte)] s := hK1
  have hS := hS1
  clear hP1 hD1 hK1 hS1
  obtain ⟨H, rfl⟩ : ∃ z, z = H1 := ⟨_, rfl⟩
  refine W.eq (g2 := F0 mt0 24 ls [.ref t2_2, .int 2]) rfl ?_
  have hLw := zz_L.low h_8 hz0
  have hDB := hD.self (sz := H.size)
  obtain ⟨B, hB⟩ : ∃ z, z = va_A [(h, .inr (9, [.int 0, .ref ho, .ref hd, .ref hs, .ref hu, .ref hv, .int kn])), (ho, .inl (cR, 4, .inr (.inr (.inr (.inr R0))))), (y0, .inl (cI, 64, .inl f0)), (t2_2, .inr (0, [.ref b2_3, .int 0, .int 0, .int 0])), (b2_3, .inl (cA2_4, 376, .inl f2_5))] H.size := ⟨_, rfl⟩
  rw [← hB] at hDB
  obtain ⟨Hk, hHk⟩ : ∃ z, z = H := ⟨_, rfl⟩
  have hBge : ∀ q, Hk.size ≤ q → B q := by intro q h; rw [hB, ← hHk]; exact Or.inr h
  have hT : zz_T B Hk H := by rw [hHk]; exact zz_T.rf
  rw [← hHk] at hB hLw
  have hFc := zz_free (wc := []) hD (fun q h => hA q (Nat.le_trans hS.1 h)) [] rfl
  have hFB := zz_free (wc := []) hDB (fun q h => hBge q (Nat.le_trans hT.1 h)) [] rfl
  have hO0 := zz_out zz_St_G hX0 hS hFc
  have hO1 := zz_ofW hts (by decide +kernel) hP hD hK (wc := []) [] rfl 3 4 4 (by decide) (by decide) rfl rfl rfl (by omega) (h_7)
  refine zz_after0 (wr := [(h, .inr (9, [.int 0, .ref ho, .ref hd, .ref hs, .ref hu, .ref hv, .int kn])), (ho, .inl (cR, 4, .inr (.inr (.inr (.inr R0))))), (y0, .inl (cI, 64, .inl f0)), (t2_2, .inr (0, [.ref b2_3, .int 0, .int 0, .int 0])), (b2_3, .inl (cA2_4, 376, .inl f2_5))]) (va_runV (As := []) (rest := [.int 2]) ⟨hx, hb, hml, hown, hts⟩ ((k_J0_length_8abf5 l D t2_2 b2_3 376 f2_5) H.size) (cwV 0 hts gX5_width_J0_length_8abf5 rfl rfl rfl (by decide +kernel) ⟨Nat.le_of_ble_eq_true rfl, Nat.le_of_ble_eq_true rfl⟩) (zz_pV (zz_pre (av := [.ref t2_2]) (tyc := []) (wc := []) (X := fun _ _ => True) (Xc := (fun A U => zz_G A U ∧ zz_S t2_2 b2_3 376 f2_5 A U)) hP hD hK hS [] [] rfl (by decide) rfl (zz_St_and zz_St_G (zz_St_S t2_2 b2_3 376 f2_5)) (fun U h1 h2 => ⟨hO0 U h1 h2, hO1 U h1 h2⟩)) (va_recv hK hP (ci := 0) (q0 := 3) rfl rfl)) rfl rfl hl.1 rfl (lv_room (Nat.le_of_ble_eq_true rfl)) dX5_width_24 ⟨by show 0 + 0 + 0 + 486 + 0 ≤ 486; omega, by show 0 + 0 + 0 + 487296 + 0 ≤ 487296; omega⟩) hP hD hK hFc [] [0, 1, 2, 3, 4] rfl rfl (by decide) (by decide) (fun v w1 ty1 H1 L9 hq9 hz9 hk9 hL9 hP1 hDf hK1 => ?_)
  have hS1 := zz_S1 hS hz9 hk9 hFc hL9
  have hT1 := hT.go hz9 hk9 hFB
  have hD1 := hDf A hD hFc
  have hDB1 := hDf B hDB hFB
  obtain ⟨locs, elocs⟩ : ∃ z, z = locs ++ L9 := ⟨_, rfl⟩
  rw [← elocs] at hS1 ⊢
  clear elocs hz9 hk9 hL9 hDf
  obtain ⟨rfl, rfl, rfl⟩ := hq9
  clear hS hP hD hK hFc hO0 hO1 hT hDB hFB
  have hP : va_P D vwCl [(h, .inr (9, [.int 0, .ref ho, .ref hd, .ref hs, .ref hu, .ref hv, .int kn])), (ho, .inl (cR, 4, .inr (.inr (.inr (.inr R0))))), (y0, .inl (cI, 64, .inl f0)), (t2_2, .inr (0, [.ref b2_3, .int 0, .int 0, .int 0])), (b2_3, .inl (cA2_4, 376, .inl f2_5))] H1 := hP1
  have hD : va_D A [(h, .inr (9, [.int 0, .ref ho, .ref hd, .ref hs, .ref hu, .ref hv, .int kn])), (ho, .inl (cR, 4, .inr (.inr (.inr (.inr R0))))), (y0, .inl (cI, 64, .inl f0)), (t2_2, .inr (0, [.ref b2_3, .int 0, .int 0, .int 0])), (b2_3, .inl (cA2_4, 376, .inl f2_5))] := hD1
  have hK : va_K D vwCl [(cR, .array .int), (cI, .int), (cR, .array .int), (cI, .int), (cA2_4, .byte)] s := hK1
  have hS := hS1
  have hT := hT1
  have hDB : va_D B [(h, .inr (9, [.int 0, .ref ho, .ref hd, .ref hs, .ref hu, .ref hv, .int kn])), (ho, .inl (cR, 4, .inr (.inr (.inr (.inr R0))))), (y0, .inl (cI, 64, .inl f0)), (t2_2, .inr (0, [.ref b2_3, .int 0, .int 0, .int 0])), (b2_3, .inl (cA2_4, 376, .inl f2_5))] := hDB1
  clear hT1 hDB1
  clear hP1 hD1 hK1 hS1
  obtain ⟨H, rfl⟩ : ∃ z, z = H1 := ⟨_, rfl⟩
  refine W.eq (g2 := F0 mt0 27 ls [.int (nI 376), .int 2]) rfl ?_
  refine lv_iadd hx hb dX5_width_27 ?_
  refine lv_topi (fun z_10 ez_10 => ?_)
  obtain rfl : z_10 = nI 378 := ez_10.trans (by decide)
  rw [hB] at hT hDB
  obtain ⟨hLa, hda⟩ := zz_L.kept hLw h_9 hT hDB
  have hdb := hda.sub (ws' := [(h, .inr (9, [.int 0, .ref ho, .ref hd, .ref hs, .ref hu, .ref hv, .int kn])), (ho, .inl (cR, 4, .inr (.inr (.inr (.inr R0))))), (y0, .inl (cI, 64, .inl f0))]) [0, 1, 2] rfl
  have hP9 := hP.sub (ws' := [(h, .inr (9, [.int 0, .ref ho, .ref hd, .ref hs, .ref hu, .ref hv, .int kn])), (ho, .inl (cR, 4, .inr (.inr (.inr (.inr R0))))), (y0, .inl (cI, 64, .inl f0))]) [0, 1, 2] rfl
  have hD9 := hD.sub (ws' := [(h, .inr (9, [.int 0, .ref ho, .ref hd, .ref hs, .ref hu, .ref hv, .int kn])), (ho, .inl (cR, 4, .inr (.inr (.inr (.inr R0))))), (y0, .inl (cI, 64, .inl f0))]) [0, 1, 2] (by decide) rfl
  have hK9 := hK.sub (tys' := [(cR, .array .int), (cI, .int)]) [0, 1] rfl
  refine W.widen (k := 486) (n := 487296) (by show 0 + 0 + 0 + 486 + 0 ≤ 486; omega) (by show 0 + 0 + 0 + 487296 + 0 ≤ 487296; omega) ?_
  exact W.iret (v := nI 378) hx hb hr (zz_end hP9 hD9 hK9 hS (⟨_, hLa, hdb, rfl, rfl, rfl⟩)) hS.2.2 dX5_width_28
set_option maxHeartbeats 4000000 in
set_option maxRecDepth 100000 in
theorem em_S {p0 : Program} {l : Launch} {e0 : Env} {s : State} {mt0 : MethodId} {args : Array Value} {bl0 : List Frame} {meth0 : Method} {cd0 : Code} {Q : State → Prop} {A : Nat → Prop} {H : Heap} {locs : List Loc} {ls : Array Slot} (D : va_G) (h : Nat) (th : Int32) (ho : Nat) (hd : Value) (hs : Value) (hu : Value) (hv : Value) (kn : Int32) (cR : ClassId) (R0 : Nat → Option Nat) (y : Nat) (cI : ClassId) (ti : Int32) (k : Nat) (f : Nat → Int32) (hC : zz_C p0 s mt0 meth0 cd0 args RX5 cX5_empty 3 none wsX5_empty)  (hA : ∀ q, s.heap.size ≤ q → A q) (hK : va_K D vwCl [(cR, .array .int), (cI, .int)] s) (hP : va_P D vwCl [(h, .inr (9, [.int th, .ref ho, hd, hs, hu, hv, .int kn])), (ho, .inl (cR, 4, .inr (.inr (.inr (.inr R0))))), (y, .inl (cI, 64, .inl f))] H) (hD : va_D A [(h, .inr (9, [.int th, .ref ho, hd, hs, hu, hv, .int kn])), (ho, .inl (cR, 4, .inr (.inr (.inr (.inr R0))))), (y, .inl (cI, 64, .inl f))]) (hS : va_S A s.heap H locs) (hl : lv_has ls 3 [(2, .int (nI k)), (0, .ref h), (1, .int ti)]) (hti : vp_in ti 4) (hR : R0 ti.toNatClampNeg = some y) (hk : k < 64) (kk : ∀ (H' : Heap) (locs' : List Loc) (ls' : Array Slot), va_K D vwCl [(cR, .array .int), (cI, .int)] s → va_P D vwCl [(h, .inr (9, [.int th, .ref ho, hd, hs, hu, hv, .int kn])), (ho, .inl (cR, 4, .inr (.inr (.inr (.inr R0))))), (y, .inl (cI, 64, .inl (upd f k (-1))))] H' → va_D A [(h, .inr (9, [.int th, .ref ho, hd, hs, hu, hv, .int kn])), (ho, .inl (cR, 4, .inr (.inr (.inr (.inr R0))))), (y, .inl (cI, 64, .inl (upd f k (-1))))] → va_S A s.heap H' locs' → lv_has ls' 3 [(2, .int (nI (k + 1))), (0, .ref h), (1, .int ti)] → W p0 l e0 ({ frames := 1, cells := 0, slots := 0, locals := 60 } : Room) s mt0 args bl0 meth0 cd0 H' locs' (0) (0) Q (F0 mt0 2 ls' [])) : W p0 l e0 ({ frames := 1, cells := 0, slots := 0, locals := 60 } : Room) s mt0 args bl0 meth0 cd0 H locs (0) (0) Q (F0 mt0 2 ls []) := by
  obtain ⟨hx, hb, hml, hr, hown, hts, hlocks⟩ := hC
  refine lv_iload_n hx hb dX5_empty_2 rfl (lv_at hl 0 rfl) ?_
  refine lv_bipush (v := 64) hx hb dX5_empty_3 (by decide) ?_
  refine lv_icmp_ge (tgt := 23) hx hb dX5_empty_5 (by decide) (fun c_1 => absurd c_1 (show ¬ nI 64 ≤ nI k from nI_ge (by omega) (by decide))) (fun c_1 => ?_)
  refine lv_aload_n hx hb dX5_empty_8 rfl (lv_at hl 1 rfl) ?_
  refine va_get (D := D) (ci := 9) (v := .ref ho) (C := RX5) (T := TX5) (N := 7) hx hb hts (by decide +kernel) hown hK hP 0 rfl rfl 1 (by decide) (hts (.fieldLink RX5 11 "HashladderModel" "rows" "[[I") (by decide +kernel)) (fun _ h9 => h9) rfl dX5_empty_9 ?_
  refine lv_iload_n hx hb dX5_empty_12 rfl (lv_at hl 2 rfl) ?_
  refine zz_aldA hx hb hK hP 1 0 rfl rfl rfl (hti) (v := .ref y) (by rw [hR]; rfl) dX5_empty_13 ?_
  refine lv_iload_n hx hb dX5_empty_14 rfl (lv_at hl 0 rfl) ?_
  refine lv_iconst (v := (-1)) hx hb dX5_empty_15 (by decide) ?_
  refine va_iast hx hb hK hP hD hS 2 1 rfl rfl (vp_in_nI hk (by decide)) dX5_empty_16 (fun H locs hP hD hS => ?_)
  have hP : va_P D vwCl [(h, .inr (9, [.int th, .ref ho, hd, hs, hu, hv, .int kn])), (ho, .inl (cR, 4, .inr (.inr (.inr (.inr R0))))), (y, .inl (cI, 64, .inl (upd f (nI k : Int32).toNatClampNeg (-1))))] H := hP
  have hD : va_D A [(h, .inr (9, [.int th, .ref ho, hd, hs, hu, hv, .int kn])), (ho, .inl (cR, 4, .inr (.inr (.inr (.inr R0))))), (y, .inl (cI, 64, .inl (upd f (nI k : Int32).toNatClampNeg (-1))))] := hD
  have ef : upd f (nI k : Int32).toNatClampNeg (-1) = upd f k (-1) := by rw [nI_clamp (by omega)]
  rw [ef] at hP hD
  refine lv_iinc (v := (nI (k + 1))) (lv' := [(2, .int (nI (k + 1))), (0, .ref h), (1, .int ti)]) hx hb dX5_empty_17 hl (k := 0) rfl (nI_1 k) (by decide) rfl (fun ls hl => ?_)
  refine lv_goto (tgt := 2) hx hb dX5_empty_20 (by decide) ?_
  exact kk _ _ _ (hK.sub [0, 1] rfl) (hP.sub [0, 1, 2] rfl) (hD.sub [0, 1, 2] (by decide) rfl) hS (lv_sub hl [0, 1, 2] rfl)
set_option maxHeartbeats 4000000 in
theorem em_L {p0 : Program} {l : Launch} {e0 : Env} {s : State} {mt0 : MethodId} {args : Array Value} {bl0 : List Frame} {meth0 : Method} {cd0 : Code} {Q : State → Prop} {A : Nat → Prop} (D : va_G) (h : Nat) (th : Int32) (ho : Nat) (hd : Value) (hs : Value) (hu : Value) (hv : Value) (kn : Int32) (cR : ClassId) (R0 : Nat → Option Nat) (y : Nat) (cI : ClassId) (ti : Int32) (hC : zz_C p0 s mt0 meth0 cd0 args RX5 cX5_empty 3 none wsX5_empty)  (hA : ∀ q, s.heap.size ≤ q → A q) (hK : va_K D vwCl [(cR, .array .int), (cI, .int)] s) (hti : vp_in ti 4) (hR : R0 ti.toNatClampNeg = some y) (kk : ∀ (f : Nat → Int32) (H : Heap) (locs : List Loc) (ls : Array Slot), (∀ i, i < 64 → f i = -1) → va_P D vwCl [(h, .inr (9, [.int th, .ref ho, hd, hs, hu, hv, .int kn])), (ho, .inl (cR, 4, .inr (.inr (.inr (.inr R0))))), (y, .inl (cI, 64, .inl f))] H → va_D A [(h, .inr (9, [.int th, .ref ho, hd, hs, hu, hv, .int kn])), (ho, .inl (cR, 4, .inr (.inr (.inr (.inr R0))))), (y, .inl (cI, 64, .inl f))] → va_S A s.heap H locs → lv_has ls 3 [(2, .int (nI 64)), (0, .ref h), (1, .int ti)] → W p0 l e0 ({ frames := 1, cells := 0, slots := 0, locals := 60 } : Room) s mt0 args bl0 meth0 cd0 H locs 0 0 Q (F0 mt0 2 ls [])) : ∀ (n k : Nat), k + n = 64 → ∀ (f : Nat → Int32) (H : Heap) (locs : List Loc) (ls : Array Slot), (∀ i, i < k → f i = -1) → va_P D vwCl [(h, .inr (9, [.int th, .ref ho, hd, hs, hu, hv, .int kn])), (ho, .inl (cR, 4, .inr (.inr (.inr (.inr R0))))), (y, .inl (cI, 64, .inl f))] H → va_D A [(h, .inr (9, [.int th, .ref ho, hd, hs, hu, hv, .int kn])), (ho, .inl (cR, 4, .inr (.inr (.inr (.inr R0))))), (y, .inl (cI, 64, .inl f))] → va_S A s.heap H locs → lv_has ls 3 [(2, .int (nI k)), (0, .ref h), (1, .int ti)] → W p0 l e0 ({ frames := 1, cells := 0, slots := 0, locals := 60 } : Room) s mt0 args bl0 meth0 cd0 H locs 0 0 Q (F0 mt0 2 ls []) := by
  intro n
  induction n with
  | zero => intro k hk f H locs ls hf hP hD hS hl
            obtain rfl : k = 64 := by omega
            exact kk f H locs ls hf hP hD hS hl
  | succ n ih => intro k hk f H locs ls hf hP hD hS hl
                 exact em_S D h th ho hd hs hu hv kn cR R0 y cI ti k f hC hA hK hP hD hS hl hti hR (by omega) (fun H' locs' ls' _ hP' hD' hS' hl' => ih (k + 1) (by omega) (upd f k (-1)) H' locs' ls' (fun i hi => by
                   by_cases e : i = k
                   · subst e; exact pk_us
                   · rw [pk_un e]; exact hf i (by omega)) hP' hD' hS' hl')
set_option maxHeartbeats 4000000 in
set_option maxRecDepth 100000 in
theorem k_X5_empty (l : Launch) (D : va_G) (h : Nat) (th : Int32) (ho : Nat) (hd : Value) (hs : Value) (hu : Value) (hv : Value) (kn : Int32) (cR : ClassId) (R0 : Nat → Option Nat) (y : Nat) (cI : ClassId) (ti : Int32) (f : Nat → Int32) (hti : vp_in ti 4) (hR : R0 ti.toNatClampNeg = some y) : zz_M l yX5_empty wsX5_empty ({ frames := 1, cells := 0, slots := 0, locals := 60 }) D [.ref h, .int ti] [(cR, .array .int), (cI, .int)] [(h, .inr (9, [.int th, .ref ho, hd, hs, hu, hv, .int kn])), (ho, .inl (cR, 4, .inr (.inr (.inr (.inr R0))))), (y, .inl (cI, 64, .inl f))] (fun _ _ => True) (fun H0 H1 v w t => ∃ f2 : Nat → Int32, (∀ i, i < 64 → f2 i = -1) ∧ v = none ∧ w = [(h, .inr (9, [.int th, .ref ho, hd, hs, hu, hv, .int kn])), (ho, .inl (cR, 4, .inr (.inr (.inr (.inr R0))))), (y, .inl (cI, 64, .inl f2))] ∧ t = [(cR, .array .int), (cI, .int)]) := by
  refine zz_M.mk (cc := cX5_empty) (maxL := 3) (ret := none) (by decide) rfl (Nat.le_of_ble_eq_true rfl) ?_
  intro p0 e0 s mt0 bl0 meth0 cd0 ls hC hname hP hK hD hX hl
  obtain ⟨hx, hb, hml, hr, hown, hts, hlocks⟩ := hC
  generalize hAe : va_A [(h, .inr (9, [.int th, .ref ho, hd, hs, hu, hv, .int kn])), (ho, .inl (cR, 4, .inr (.inr (.inr (.inr R0))))), (y, .inl (cI, 64, .inl f))] s.heap.size = A at *
  have hA : ∀ q : Nat, s.heap.size ≤ q → A q := fun q h => by rw [← hAe]; exact Or.inr h
  obtain ⟨H, hHs⟩ : ∃ z : Heap, z = s.heap := ⟨_, rfl⟩
  rw [← hHs] at hP ⊢
  have hS : va_S A s.heap H [] := by rw [hHs]; exact va_S.rf
  have hl : lv_has ls 3 [(0, .ref h), (1, .int ti)] := hl
  refine lv_iconst (v := 0) hx hb dX5_empty_0 (by decide) ?_
  refine lv_istore_n (lv' := [(2, .int 0), (0, .ref h), (1, .int ti)]) hx hb dX5_empty_1 rfl hl (by decide) rfl (fun ls hl => ?_)
  refine em_L D h th ho hd hs hu hv kn cR R0 y cI ti ⟨hx, hb, hml, hr, hown, hts, hlocks⟩ hA hK hti hR ?_ 64 0 rfl f H _ ls (fun i h => absurd h (Nat.not_lt_zero i)) hP hD hS (lv_sub hl [0, 1, 2] rfl)
  intro f1 H locs ls hf1 hP hD hS hl
  refine lv_iload_n hx hb dX5_empty_2 rfl (lv_at hl 0 rfl) ?_
  refine lv_bipush (v := 64) hx hb dX5_empty_3 (by decide) ?_
  refine lv_icmp_ge (tgt := 23) hx hb dX5_empty_5 (by decide) (fun c_1 => ?_) (fun c_1 => absurd (Int32.le_refl _) c_1)
  have hP9 := hP.sub (ws' := [(h, .inr (9, [.int th, .ref ho, hd, hs, hu, hv, .int kn])), (ho, .inl (cR, 4, .inr (.inr (.inr (.inr R0))))), (y, .inl (cI, 64, .inl f1))]) [0, 1, 2] rfl
  have hD9 := hD.sub (ws' := [(h, .inr (9, [.int th, .ref ho, hd, hs, hu, hv, .int kn])), (ho, .inl (cR, 4, .inr (.inr (.inr (.inr R0))))), (y, .inl (cI, 64, .inl f1))]) [0, 1, 2] (by decide) rfl
  have hK9 := hK.sub (tys' := [(cR, .array .int), (cI, .int)]) [0, 1] rfl
  refine W.widen (k := 0) (n := 0) (by show 0 ≤ 0; omega) (by show 0 ≤ 0; omega) ?_
  exact W.vret hx hb hr (zz_end hP9 hD9 hK9 hS (⟨_, hf1, rfl, rfl, rfl⟩)) hS.2.2 dX5_empty_23
set_option maxHeartbeats 4000000 in
set_option maxRecDepth 100000 in
theorem k_X5_init (l : Launch) (D : va_G) (h : Nat) : zz_M l yX5_init wsX5_init ({ frames := 2, cells := 9, slots := 276, locals := 100 }) D [.ref h] [] [(h, .inr (9, [.int 0, .null, .null, .null, .null, .null, .int 0]))] (fun A U => va_AOA .int U) (fun H0 H1 v w t => ∃ ho : Nat, ∃ hd : Nat, ∃ hs : Nat, ∃ hu : Nat, ∃ hv : Nat, ∃ y0 : Nat, ∃ cR : ClassId, ∃ cI : ClassId, ∃ cD : ClassId, ∃ R0 : Nat → Option Nat, ∃ g0 : Nat → Int32, ∃ fd : Nat → Int32, R0 0 = some y0 ∧ (∀ i, i < 64 → g0 i = -1) ∧ v = none ∧ w = [(h, .inr (9, [.int 0, .ref ho, .ref hd, .ref hs, .ref hu, .ref hv, .int 0])), (ho, .inl (cR, 4, .inr (.inr (.inr (.inr R0))))), (y0, .inl (cI, 64, .inl g0)), (hd, .inl (cD, 4, .inl fd))] ∧ t = [(cR, .array .int), (cI, .int), (cD, .int)]) := by
  refine zz_M.mk (cc := cX5_init) (maxL := 2) (ret := none) (by decide) rfl (Nat.le_of_ble_eq_true rfl) ?_
  intro p0 e0 s mt0 bl0 meth0 cd0 ls hC hname hP hK hD hX hl
  obtain ⟨hx, hb, hml, hr, hown, hts, hlocks⟩ := hC
  have hX0 := hX
  generalize hAe : va_A [(h, .inr (9, [.int 0, .null, .null, .null, .null, .null, .int 0]))] s.heap.size = A at *
  have hA : ∀ q : Nat, s.heap.size ≤ q → A q := fun q h => by rw [← hAe]; exact Or.inr h
  obtain ⟨H, hHs⟩ : ∃ z : Heap, z = s.heap := ⟨_, rfl⟩
  rw [← hHs] at hP ⊢
  have hS : va_S A s.heap H [] := by rw [hHs]; exact va_S.rf
  have hl : lv_has ls 2 [(0, .ref h)] := hl
  refine lv_aload_n hx hb dX5_init_0 rfl (lv_at hl 0 rfl) ?_
  refine W.objInit hx hb hown (hts (.methodLink RX5 1 objectInit) (by decide +kernel)) (hts (.instanceMethod objectInit) (by decide +kernel)) (hts (.code objectInit ⟨#[0xb1]⟩ 1 none) (by decide +kernel)) rfl (by rw [hml]; exact hl.1) rfl dX5_init_1 (Nat.le_of_ble_eq_true rfl) (Nat.le_of_ble_eq_true rfl) ?_
  refine W.eq (g2 := F0 mt0 4 ls []) rfl ?_
  refine lv_aload_n hx hb dX5_init_4 rfl (lv_at hl 0 rfl) ?_
  refine lv_iconst (v := 4) hx hb dX5_init_5 (by decide) ?_
  refine lv_bipush (v := 64) hx hb dX5_init_6 (by decide) ?_
  refine zz_mna4 hx hb hown (hts (.classLink RX5 9 "[[I") (by decide +kernel)) hX0 (hts (.arrayClass .int) (by decide +kernel)) hK hP hD hS hA (by show 0 + 5 ≤ 9; omega) (by show 0 + 260 ≤ 276; omega) dX5_init_8 (fun q_1 r_2 r_3 r_4 r_5 cA_6 cy_7 H hK hP hD hS => ?_)
  have hK : va_K D vwCl [(cA_6, .array .int), (cy_7, .int)] s := hK
  have hP : va_P D vwCl [(h, .inr (9, [.int 0, .null, .null, .null, .null, .null, .int 0])), (q_1, .inl (cA_6, 4, .inr (.inr (.inr (.inr (zz_r4 r_2 r_3 r_4 r_5)))))), (r_2, .inl (cy_7, 64, .inl (fun _ => 0))), (r_3, .inl (cy_7, 64, .inl (fun _ => 0))), (r_4, .inl (cy_7, 64, .inl (fun _ => 0))), (r_5, .inl (cy_7, 64, .inl (fun _ => 0)))] H := hP
  have hD : va_D A [(h, .inr (9, [.int 0, .null, .null, .null, .null, .null, .int 0])), (q_1, .inl (cA_6, 4, .inr (.inr (.inr (.inr (zz_r4 r_2 r_3 r_4 r_5)))))), (r_2, .inl (cy_7, 64, .inl (fun _ => 0))), (r_3, .inl (cy_7, 64, .inl (fun _ => 0))), (r_4, .inl (cy_7, 64, .inl (fun _ => 0))), (r_5, .inl (cy_7, 64, .inl (fun _ => 0)))] := hD
  refine va_put (D := D) (ci := 9) (v := .ref q_1) (ty := .array (.array .int)) (C := RX5) (T := TX5) (N := 7) hx hb hts (by decide +kernel) tyX5 tyX5_ok nmX5 hown hK hP hD hS 0 rfl rfl 1 (by decide) (hts (.fieldLink RX5 11 "HashladderModel" "rows" "[[I") (by decide +kernel)) (fun _ h9 => h9) rfl (by decide +kernel) rfl rfl (Nat.le_of_ble_eq_true rfl) dX5_init_12 (fun H locs hP hD hS => ?_)
  have hP : va_P D vwCl [(h, .inr (9, [.int 0, .ref q_1, .null, .null, .null, .null, .int 0])), (q_1, .inl (cA_6, 4, .inr (.inr (.inr (.inr (zz_r4 r_2 r_3 r_4 r_5)))))), (r_2, .inl (cy_7, 64, .inl (fun _ => 0))), (r_3, .inl (cy_7, 64, .inl (fun _ => 0))), (r_4, .inl (cy_7, 64, .inl (fun _ => 0))), (r_5, .inl (cy_7, 64, .inl (fun _ => 0)))] H := hP
  have hD : va_D A [(h, .inr (9, [.int 0, .ref q_1, .null, .null, .null, .null, .int 0])), (q_1, .inl (cA_6, 4, .inr (.inr (.inr (.inr (zz_r4 r_2 r_3 r_4 r_5)))))), (r_2, .inl (cy_7, 64, .inl (fun _ => 0))), (r_3, .inl (cy_7, 64, .inl (fun _ => 0))), (r_4, .inl (cy_7, 64, .inl (fun _ => 0))), (r_5, .inl (cy_7, 64, .inl (fun _ => 0)))] := hD
  refine lv_aload_n hx hb dX5_init_15 rfl (lv_at hl 0 rfl) ?_
  refine lv_iconst (v := 4) hx hb dX5_init_16 (by decide) ?_
  refine va_newa (atype := .int) hx hb (hts (.arrayClass .int) (by decide +kernel)) rfl hK hP hD hS hA (N' := 4) (a0 := (4, .inl (fun _ => 0))) (fun _ => rfl) (by decide) (by decide) (by decide) (by show 0 + 5 + 1 ≤ 9; omega) (by show 0 + 260 + 4 ≤ 276; omega) dX5_init_17 (fun q_8 cA_9 H hK hP hD hS => ?_)
  have hK : va_K D vwCl [(cA_6, .array .int), (cy_7, .int), (cA_9, .int)] s := hK
  have hP : va_P D vwCl [(h, .inr (9, [.int 0, .ref q_1, .null, .null, .null, .null, .int 0])), (q_1, .inl (cA_6, 4, .inr (.inr (.inr (.inr (zz_r4 r_2 r_3 r_4 r_5)))))), (r_2, .inl (cy_7, 64, .inl (fun _ => 0))), (r_3, .inl (cy_7, 64, .inl (fun _ => 0))), (r_4, .inl (cy_7, 64, .inl (fun _ => 0))), (r_5, .inl (cy_7, 64, .inl (fun _ => 0))), (q_8, .inl (cA_9, 4, .inl (fun _ => 0)))] H := hP
  have hD : va_D A [(h, .inr (9, [.int 0, .ref q_1, .null, .null, .null, .null, .int 0])), (q_1, .inl (cA_6, 4, .inr (.inr (.inr (.inr (zz_r4 r_2 r_3 r_4 r_5)))))), (r_2, .inl (cy_7, 64, .inl (fun _ => 0))), (r_3, .inl (cy_7, 64, .inl (fun _ => 0))), (r_4, .inl (cy_7, 64, .inl (fun _ => 0))), (r_5, .inl (cy_7, 64, .inl (fun _ => 0))), (q_8, .inl (cA_9, 4, .inl (fun _ => 0)))] := hD
  refine lv_dup hx hb dX5_init_19 rfl ?_
  refine lv_iconst (v := 0) hx hb dX5_init_20 (by decide) ?_
  refine lv_iconst (v := (-1)) hx hb dX5_init_21 (by decide) ?_
  refine va_iast hx hb hK hP hD hS 6 2 rfl rfl ((show vp_in (0 : Int32) 4 from vp_in_nI (n := 0) (by decide) (by decide))) dX5_init_22 (fun H locs hP hD hS => ?_)
  have hP : va_P D vwCl [(h, .inr (9, [.int 0, .ref q_1, .null, .null, .null, .null, .int 0])), (q_1, .inl (cA_6, 4, .inr (.inr (.inr (.inr (zz_r4 r_2 r_3 r_4 r_5)))))), (r_2, .inl (cy_7, 64, .inl (fun _ => 0))), (r_3, .inl (cy_7, 64, .inl (fun _ => 0))), (r_4, .inl (cy_7, 64, .inl (fun _ => 0))), (r_5, .inl (cy_7, 64, .inl (fun _ => 0))), (q_8, .inl (cA_9, 4, .inl (upd (fun _ => 0) (0 : Int32).toNatClampNeg (-1))))] H := hP
  have hD : va_D A [(h, .inr (9, [.int 0, .ref q_1, .null, .null, .null, .null, .int 0])), (q_1, .inl (cA_6, 4, .inr (.inr (.inr (.inr (zz_r4 r_2 r_3 r_4 r_5)))))), (r_2, .inl (cy_7, 64, .inl (fun _ => 0))), (r_3, .inl (cy_7, 64, .inl (fun _ => 0))), (r_4, .inl (cy_7, 64, .inl (fun _ => 0))), (r_5, .inl (cy_7, 64, .inl (fun _ => 0))), (q_8, .inl (cA_9, 4, .inl (upd (fun _ => 0) (0 : Int32).toNatClampNeg (-1))))] := hD
  refine lv_dup hx hb dX5_init_23 rfl ?_
  refine lv_iconst (v := 1) hx hb dX5_init_24 (by decide) ?_
  refine lv_iconst (v := (-1)) hx hb dX5_init_25 (by decide) ?_
  refine va_iast hx hb hK hP hD hS 6 2 rfl rfl ((show vp_in (1 : Int32) 4 from vp_in_nI (n := 1) (by decide) (by decide))) dX5_init_26 (fun H locs hP hD hS => ?_)
  have hP : va_P D vwCl [(h, .inr (9, [.int 0, .ref q_1, .null, .null, .null, .null, .int 0])), (q_1, .inl (cA_6, 4, .inr (.inr (.inr (.inr (zz_r4 r_2 r_3 r_4 r_5)))))), (r_2, .inl (cy_7, 64, .inl (fun _ => 0))), (r_3, .inl (cy_7, 64, .inl (fun _ => 0))), (r_4, .inl (cy_7, 64, .inl (fun _ => 0))), (r_5, .inl (cy_7, 64, .inl (fun _ => 0))), (q_8, .inl (cA_9, 4, .inl (upd (upd (fun _ => 0) (0 : Int32).toNatClampNeg (-1)) (1 : Int32).toNatClampNeg (-1))))] H := hP
  have hD : va_D A [(h, .inr (9, [.int 0, .ref q_1, .null, .null, .null, .null, .int 0])), (q_1, .inl (cA_6, 4, .inr (.inr (.inr (.inr (zz_r4 r_2 r_3 r_4 r_5)))))), (r_2, .inl (cy_7, 64, .inl (fun _ => 0))), (r_3, .inl (cy_7, 64, .inl (fun _ => 0))), (r_4, .inl (cy_7, 64, .inl (fun _ => 0))), (r_5, .inl (cy_7, 64, .inl (fun _ => 0))), (q_8, .inl (cA_9, 4, .inl (upd (upd (fun _ => 0) (0 : Int32).toNatClampNeg (-1)) (1 : Int32).toNatClampNeg (-1))))] := hD
  refine lv_dup hx hb dX5_init_27 rfl ?_
  refine lv_iconst (v := 2) hx hb dX5_init_28 (by decide) ?_
  refine lv_iconst (v := (-1)) hx hb dX5_init_29 (by decide) ?_
  refine va_iast hx hb hK hP hD hS 6 2 rfl rfl ((show vp_in (2 : Int32) 4 from vp_in_nI (n := 2) (by decide) (by decide))) dX5_init_30 (fun H locs hP hD hS => ?_)
  have hP : va_P D vwCl [(h, .inr (9, [.int 0, .ref q_1, .null, .null, .null, .null, .int 0])), (q_1, .inl (cA_6, 4, .inr (.inr (.inr (.inr (zz_r4 r_2 r_3 r_4 r_5)))))), (r_2, .inl (cy_7, 64, .inl (fun _ => 0))), (r_3, .inl (cy_7, 64, .inl (fun _ => 0))), (r_4, .inl (cy_7, 64, .inl (fun _ => 0))), (r_5, .inl (cy_7, 64, .inl (fun _ => 0))), (q_8, .inl (cA_9, 4, .inl (upd (upd (upd (fun _ => 0) (0 : Int32).toNatClampNeg (-1)) (1 : Int32).toNatClampNeg (-1)) (2 : Int32).toNatClampNeg (-1))))] H := hP
  have hD : va_D A [(h, .inr (9, [.int 0, .ref q_1, .null, .null, .null, .null, .int 0])), (q_1, .inl (cA_6, 4, .inr (.inr (.inr (.inr (zz_r4 r_2 r_3 r_4 r_5)))))), (r_2, .inl (cy_7, 64, .inl (fun _ => 0))), (r_3, .inl (cy_7, 64, .inl (fun _ => 0))), (r_4, .inl (cy_7, 64, .inl (fun _ => 0))), (r_5, .inl (cy_7, 64, .inl (fun _ => 0))), (q_8, .inl (cA_9, 4, .inl (upd (upd (upd (fun _ => 0) (0 : Int32).toNatClampNeg (-1)) (1 : Int32).toNatClampNeg (-1)) (2 : Int32).toNatClampNeg (-1))))] := hD
  refine lv_dup hx hb dX5_init_31 rfl ?_
  refine lv_iconst (v := 3) hx hb dX5_init_32 (by decide) ?_
  refine lv_iconst (v := (-1)) hx hb dX5_init_33 (by decide) ?_
  refine va_iast hx hb hK hP hD hS 6 2 rfl rfl ((show vp_in (3 : Int32) 4 from vp_in_nI (n := 3) (by decide) (by decide))) dX5_init_34 (fun H locs hP hD hS => ?_)
  have hP : va_P D vwCl [(h, .inr (9, [.int 0, .ref q_1, .null, .null, .null, .null, .int 0])), (q_1, .inl (cA_6, 4, .inr (.inr (.inr (.inr (zz_r4 r_2 r_3 r_4 r_5)))))), (r_2, .inl (cy_7, 64, .inl (fun _ => 0))), (r_3, .inl (cy_7, 64, .inl (fun _ => 0))), (r_4, .inl (cy_7, 64, .inl (fun _ => 0))), (r_5, .inl (cy_7, 64, .inl (fun _ => 0))), (q_8, .inl (cA_9, 4, .inl (upd (upd (upd (upd (fun _ => 0) (0 : Int32).toNatClampNeg (-1)) (1 : Int32).toNatClampNeg (-1)) (2 : Int32).toNatClampNeg (-1)) (3 : Int32).toNatClampNeg (-1))))] H := hP
  have hD : va_D A [(h, .inr (9, [.int 0, .ref q_1, .null, .null, .null, .null, .int 0])), (q_1, .inl (cA_6, 4, .inr (.inr (.inr (.inr (zz_r4 r_2 r_3 r_4 r_5)))))), (r_2, .inl (cy_7, 64, .inl (fun _ => 0))), (r_3, .inl (cy_7, 64, .inl (fun _ => 0))), (r_4, .inl (cy_7, 64, .inl (fun _ => 0))), (r_5, .inl (cy_7, 64, .inl (fun _ => 0))), (q_8, .inl (cA_9, 4, .inl (upd (upd (upd (upd (fun _ => 0) (0 : Int32).toNatClampNeg (-1)) (1 : Int32).toNatClampNeg (-1)) (2 : Int32).toNatClampNeg (-1)) (3 : Int32).toNatClampNeg (-1))))] := hD
  refine va_putF (D := D) (ci := 9) (v := .ref q_8) (ty := .array .int) (C := RX5) (T := TX5) (N := 7) hx hb hts (by decide +kernel) tyX5 tyX5_ok nmX5 hown hK hP hD hS 0 rfl rfl 2 (by decide) (hts (.fieldLink RX5 14 "HashladderModel" "done" "[I") (by decide +kernel)) (fun _ h9 => h9) rfl hname rfl (by decide +kernel) rfl rfl (Nat.le_of_ble_eq_true rfl) dX5_init_35 (fun H locs hP hD hS => ?_)
  have hP : va_P D vwCl [(h, .inr (9, [.int 0, .ref q_1, .ref q_8, .null, .null, .null, .int 0])), (q_1, .inl (cA_6, 4, .inr (.inr (.inr (.inr (zz_r4 r_2 r_3 r_4 r_5)))))), (r_2, .inl (cy_7, 64, .inl (fun _ => 0))), (r_3, .inl (cy_7, 64, .inl (fun _ => 0))), (r_4, .inl (cy_7, 64, .inl (fun _ => 0))), (r_5, .inl (cy_7, 64, .inl (fun _ => 0))), (q_8, .inl (cA_9, 4, .inl (upd (upd (upd (upd (fun _ => 0) (0 : Int32).toNatClampNeg (-1)) (1 : Int32).toNatClampNeg (-1)) (2 : Int32).toNatClampNeg (-1)) (3 : Int32).toNatClampNeg (-1))))] H := hP
  have hD : va_D A [(h, .inr (9, [.int 0, .ref q_1, .ref q_8, .null, .null, .null, .int 0])), (q_1, .inl (cA_6, 4, .inr (.inr (.inr (.inr (zz_r4 r_2 r_3 r_4 r_5)))))), (r_2, .inl (cy_7, 64, .inl (fun _ => 0))), (r_3, .inl (cy_7, 64, .inl (fun _ => 0))), (r_4, .inl (cy_7, 64, .inl (fun _ => 0))), (r_5, .inl (cy_7, 64, .inl (fun _ => 0))), (q_8, .inl (cA_9, 4, .inl (upd (upd (upd (upd (fun _ => 0) (0 : Int32).toNatClampNeg (-1)) (1 : Int32).toNatClampNeg (-1)) (2 : Int32).toNatClampNeg (-1)) (3 : Int32).toNatClampNeg (-1))))] := hD
  refine lv_aload_n hx hb dX5_init_38 rfl (lv_at hl 0 rfl) ?_
  refine lv_iconst (v := 4) hx hb dX5_init_39 (by decide) ?_
  refine va_newa (atype := .int) hx hb (hts (.arrayClass .int) (by decide +kernel)) rfl hK hP hD hS hA (N' := 4) (a0 := (4, .inl (fun _ => 0))) (fun _ => rfl) (by decide) (by decide) (by decide) (by show 0 + 5 + 1 + 1 ≤ 9; omega) (by show 0 + 260 + 4 + 4 ≤ 276; omega) dX5_init_40 (fun q_10 cA_11 H hK hP hD hS => ?_)
  have hK : va_K D vwCl [(cA_6, .array .int), (cy_7, .int), (cA_9, .int), (cA_11, .int)] s := hK
  have hP : va_P D vwCl [(h, .inr (9, [.int 0, .ref q_1, .ref q_8, .null, .null, .null, .int 0])), (q_1, .inl (cA_6, 4, .inr (.inr (.inr (.inr (zz_r4 r_2 r_3 r_4 r_5)))))), (r_2, .inl (cy_7, 64, .inl (fun _ => 0))), (r_3, .inl (cy_7, 64, .inl (fun _ => 0))), (r_4, .inl (cy_7, 64, .inl (fun _ => 0))), (r_5, .inl (cy_7, 64, .inl (fun _ => 0))), (q_8, .inl (cA_9, 4, .inl (upd (upd (upd (upd (fun _ => 0) (0 : Int32).toNatClampNeg (-1)) (1 : Int32).toNatClampNeg (-1)) (2 : Int32).toNatClampNeg (-1)) (3 : Int32).toNatClampNeg (-1)))), (q_10, .inl (cA_11, 4, .inl (fun _ => 0)))] H := hP
  have hD : va_D A [(h, .inr (9, [.int 0, .ref q_1, .ref q_8, .null, .null, .null, .int 0])), (q_1, .inl (cA_6, 4, .inr (.inr (.inr (.inr (zz_r4 r_2 r_3 r_4 r_5)))))), (r_2, .inl (cy_7, 64, .inl (fun _ => 0))), (r_3, .inl (cy_7, 64, .inl (fun _ => 0))), (r_4, .inl (cy_7, 64, .inl (fun _ => 0))), (r_5, .inl (cy_7, 64, .inl (fun _ => 0))), (q_8, .inl (cA_9, 4, .inl (upd (upd (upd (upd (fun _ => 0) (0 : Int32).toNatClampNeg (-1)) (1 : Int32).toNatClampNeg (-1)) (2 : Int32).toNatClampNeg (-1)) (3 : Int32).toNatClampNeg (-1)))), (q_10, .inl (cA_11, 4, .inl (fun _ => 0)))] := hD
  refine va_putF (D := D) (ci := 9) (v := .ref q_10) (ty := .array .int) (C := RX5) (T := TX5) (N := 7) hx hb hts (by decide +kernel) tyX5 tyX5_ok nmX5 hown hK hP hD hS 0 rfl rfl 3 (by decide) (hts (.fieldLink RX5 18 "HashladderModel" "steps" "[I") (by decide +kernel)) (fun _ h9 => h9) rfl hname rfl (by decide +kernel) rfl rfl (Nat.le_of_ble_eq_true rfl) dX5_init_42 (fun H locs hP hD hS => ?_)
  have hP : va_P D vwCl [(h, .inr (9, [.int 0, .ref q_1, .ref q_8, .ref q_10, .null, .null, .int 0])), (q_1, .inl (cA_6, 4, .inr (.inr (.inr (.inr (zz_r4 r_2 r_3 r_4 r_5)))))), (r_2, .inl (cy_7, 64, .inl (fun _ => 0))), (r_3, .inl (cy_7, 64, .inl (fun _ => 0))), (r_4, .inl (cy_7, 64, .inl (fun _ => 0))), (r_5, .inl (cy_7, 64, .inl (fun _ => 0))), (q_8, .inl (cA_9, 4, .inl (upd (upd (upd (upd (fun _ => 0) (0 : Int32).toNatClampNeg (-1)) (1 : Int32).toNatClampNeg (-1)) (2 : Int32).toNatClampNeg (-1)) (3 : Int32).toNatClampNeg (-1)))), (q_10, .inl (cA_11, 4, .inl (fun _ => 0)))] H := hP
  have hD : va_D A [(h, .inr (9, [.int 0, .ref q_1, .ref q_8, .ref q_10, .null, .null, .int 0])), (q_1, .inl (cA_6, 4, .inr (.inr (.inr (.inr (zz_r4 r_2 r_3 r_4 r_5)))))), (r_2, .inl (cy_7, 64, .inl (fun _ => 0))), (r_3, .inl (cy_7, 64, .inl (fun _ => 0))), (r_4, .inl (cy_7, 64, .inl (fun _ => 0))), (r_5, .inl (cy_7, 64, .inl (fun _ => 0))), (q_8, .inl (cA_9, 4, .inl (upd (upd (upd (upd (fun _ => 0) (0 : Int32).toNatClampNeg (-1)) (1 : Int32).toNatClampNeg (-1)) (2 : Int32).toNatClampNeg (-1)) (3 : Int32).toNatClampNeg (-1)))), (q_10, .inl (cA_11, 4, .inl (fun _ => 0)))] := hD
  refine lv_aload_n hx hb dX5_init_45 rfl (lv_at hl 0 rfl) ?_
  refine lv_iconst (v := 4) hx hb dX5_init_46 (by decide) ?_
  refine va_newa (atype := .int) hx hb (hts (.arrayClass .int) (by decide +kernel)) rfl hK hP hD hS hA (N' := 4) (a0 := (4, .inl (fun _ => 0))) (fun _ => rfl) (by decide) (by decide) (by decide) (by show 0 + 5 + 1 + 1 + 1 ≤ 9; omega) (by show 0 + 260 + 4 + 4 + 4 ≤ 276; omega) dX5_init_47 (fun q_12 cA_13 H hK hP hD hS => ?_)
  have hK : va_K D vwCl [(cA_6, .array .int), (cy_7, .int), (cA_9, .int), (cA_11, .int), (cA_13, .int)] s := hK
  have hP : va_P D vwCl [(h, .inr (9, [.int 0, .ref q_1, .ref q_8, .ref q_10, .null, .null, .int 0])), (q_1, .inl (cA_6, 4, .inr (.inr (.inr (.inr (zz_r4 r_2 r_3 r_4 r_5)))))), (r_2, .inl (cy_7, 64, .inl (fun _ => 0))), (r_3, .inl (cy_7, 64, .inl (fun _ => 0))), (r_4, .inl (cy_7, 64, .inl (fun _ => 0))), (r_5, .inl (cy_7, 64, .inl (fun _ => 0))), (q_8, .inl (cA_9, 4, .inl (upd (upd (upd (upd (fun _ => 0) (0 : Int32).toNatClampNeg (-1)) (1 : Int32).toNatClampNeg (-1)) (2 : Int32).toNatClampNeg (-1)) (3 : Int32).toNatClampNeg (-1)))), (q_10, .inl (cA_11, 4, .inl (fun _ => 0))), (q_12, .inl (cA_13, 4, .inl (fun _ => 0)))] H := hP
  have hD : va_D A [(h, .inr (9, [.int 0, .ref q_1, .ref q_8, .ref q_10, .null, .null, .int 0])), (q_1, .inl (cA_6, 4, .inr (.inr (.inr (.inr (zz_r4 r_2 r_3 r_4 r_5)))))), (r_2, .inl (cy_7, 64, .inl (fun _ => 0))), (r_3, .inl (cy_7, 64, .inl (fun _ => 0))), (r_4, .inl (cy_7, 64, .inl (fun _ => 0))), (r_5, .inl (cy_7, 64, .inl (fun _ => 0))), (q_8, .inl (cA_9, 4, .inl (upd (upd (upd (upd (fun _ => 0) (0 : Int32).toNatClampNeg (-1)) (1 : Int32).toNatClampNeg (-1)) (2 : Int32).toNatClampNeg (-1)) (3 : Int32).toNatClampNeg (-1)))), (q_10, .inl (cA_11, 4, .inl (fun _ => 0))), (q_12, .inl (cA_13, 4, .inl (fun _ => 0)))] := hD
  refine va_putF (D := D) (ci := 9) (v := .ref q_12) (ty := .array .int) (C := RX5) (T := TX5) (N := 7) hx hb hts (by decide +kernel) tyX5 tyX5_ok nmX5 hown hK hP hD hS 0 rfl rfl 4 (by decide) (hts (.fieldLink RX5 21 "HashladderModel" "sums" "[I") (by decide +kernel)) (fun _ h9 => h9) rfl hname rfl (by decide +kernel) rfl rfl (Nat.le_of_ble_eq_true rfl) dX5_init_49 (fun H locs hP hD hS => ?_)
  have hP : va_P D vwCl [(h, .inr (9, [.int 0, .ref q_1, .ref q_8, .ref q_10, .ref q_12, .null, .int 0])), (q_1, .inl (cA_6, 4, .inr (.inr (.inr (.inr (zz_r4 r_2 r_3 r_4 r_5)))))), (r_2, .inl (cy_7, 64, .inl (fun _ => 0))), (r_3, .inl (cy_7, 64, .inl (fun _ => 0))), (r_4, .inl (cy_7, 64, .inl (fun _ => 0))), (r_5, .inl (cy_7, 64, .inl (fun _ => 0))), (q_8, .inl (cA_9, 4, .inl (upd (upd (upd (upd (fun _ => 0) (0 : Int32).toNatClampNeg (-1)) (1 : Int32).toNatClampNeg (-1)) (2 : Int32).toNatClampNeg (-1)) (3 : Int32).toNatClampNeg (-1)))), (q_10, .inl (cA_11, 4, .inl (fun _ => 0))), (q_12, .inl (cA_13, 4, .inl (fun _ => 0)))] H := hP
  have hD : va_D A [(h, .inr (9, [.int 0, .ref q_1, .ref q_8, .ref q_10, .ref q_12, .null, .int 0])), (q_1, .inl (cA_6, 4, .inr (.inr (.inr (.inr (zz_r4 r_2 r_3 r_4 r_5)))))), (r_2, .inl (cy_7, 64, .inl (fun _ => 0))), (r_3, .inl (cy_7, 64, .inl (fun _ => 0))), (r_4, .inl (cy_7, 64, .inl (fun _ => 0))), (r_5, .inl (cy_7, 64, .inl (fun _ => 0))), (q_8, .inl (cA_9, 4, .inl (upd (upd (upd (upd (fun _ => 0) (0 : Int32).toNatClampNeg (-1)) (1 : Int32).toNatClampNeg (-1)) (2 : Int32).toNatClampNeg (-1)) (3 : Int32).toNatClampNeg (-1)))), (q_10, .inl (cA_11, 4, .inl (fun _ => 0))), (q_12, .inl (cA_13, 4, .inl (fun _ => 0)))] := hD
  refine lv_aload_n hx hb dX5_init_52 rfl (lv_at hl 0 rfl) ?_
  refine lv_iconst (v := 4) hx hb dX5_init_53 (by decide) ?_
  refine va_newa (atype := .int) hx hb (hts (.arrayClass .int) (by decide +kernel)) rfl hK hP hD hS hA (N' := 4) (a0 := (4, .inl (fun _ => 0))) (fun _ => rfl) (by decide) (by decide) (by decide) (by show 0 + 5 + 1 + 1 + 1 + 1 ≤ 9; omega) (by show 0 + 260 + 4 + 4 + 4 + 4 ≤ 276; omega) dX5_init_54 (fun q_14 cA_15 H hK hP hD hS => ?_)
  have hK : va_K D vwCl [(cA_6, .array .int), (cy_7, .int), (cA_9, .int), (cA_11, .int), (cA_13, .int), (cA_15, .int)] s := hK
  have hP : va_P D vwCl [(h, .inr (9, [.int 0, .ref q_1, .ref q_8, .ref q_10, .ref q_12, .null, .int 0])), (q_1, .inl (cA_6, 4, .inr (.inr (.inr (.inr (zz_r4 r_2 r_3 r_4 r_5)))))), (r_2, .inl (cy_7, 64, .inl (fun _ => 0))), (r_3, .inl (cy_7, 64, .inl (fun _ => 0))), (r_4, .inl (cy_7, 64, .inl (fun _ => 0))), (r_5, .inl (cy_7, 64, .inl (fun _ => 0))), (q_8, .inl (cA_9, 4, .inl (upd (upd (upd (upd (fun _ => 0) (0 : Int32).toNatClampNeg (-1)) (1 : Int32).toNatClampNeg (-1)) (2 : Int32).toNatClampNeg (-1)) (3 : Int32).toNatClampNeg (-1)))), (q_10, .inl (cA_11, 4, .inl (fun _ => 0))), (q_12, .inl (cA_13, 4, .inl (fun _ => 0))), (q_14, .inl (cA_15, 4, .inl (fun _ => 0)))] H := hP
  have hD : va_D A [(h, .inr (9, [.int 0, .ref q_1, .ref q_8, .ref q_10, .ref q_12, .null, .int 0])), (q_1, .inl (cA_6, 4, .inr (.inr (.inr (.inr (zz_r4 r_2 r_3 r_4 r_5)))))), (r_2, .inl (cy_7, 64, .inl (fun _ => 0))), (r_3, .inl (cy_7, 64, .inl (fun _ => 0))), (r_4, .inl (cy_7, 64, .inl (fun _ => 0))), (r_5, .inl (cy_7, 64, .inl (fun _ => 0))), (q_8, .inl (cA_9, 4, .inl (upd (upd (upd (upd (fun _ => 0) (0 : Int32).toNatClampNeg (-1)) (1 : Int32).toNatClampNeg (-1)) (2 : Int32).toNatClampNeg (-1)) (3 : Int32).toNatClampNeg (-1)))), (q_10, .inl (cA_11, 4, .inl (fun _ => 0))), (q_12, .inl (cA_13, 4, .inl (fun _ => 0))), (q_14, .inl (cA_15, 4, .inl (fun _ => 0)))] := hD
  refine lv_dup hx hb dX5_init_56 rfl ?_
  refine lv_iconst (v := 0) hx hb dX5_init_57 (by decide) ?_
  refine lv_iconst (v := (-1)) hx hb dX5_init_58 (by decide) ?_
  refine va_iast hx hb hK hP hD hS 9 5 rfl rfl ((show vp_in (0 : Int32) 4 from vp_in_nI (n := 0) (by decide) (by decide))) dX5_init_59 (fun H locs hP hD hS => ?_)
  have hP : va_P D vwCl [(h, .inr (9, [.int 0, .ref q_1, .ref q_8, .ref q_10, .ref q_12, .null, .int 0])), (q_1, .inl (cA_6, 4, .inr (.inr (.inr (.inr (zz_r4 r_2 r_3 r_4 r_5)))))), (r_2, .inl (cy_7, 64, .inl (fun _ => 0))), (r_3, .inl (cy_7, 64, .inl (fun _ => 0))), (r_4, .inl (cy_7, 64, .inl (fun _ => 0))), (r_5, .inl (cy_7, 64, .inl (fun _ => 0))), (q_8, .inl (cA_9, 4, .inl (upd (upd (upd (upd (fun _ => 0) (0 : Int32).toNatClampNeg (-1)) (1 : Int32).toNatClampNeg (-1)) (2 : Int32).toNatClampNeg (-1)) (3 : Int32).toNatClampNeg (-1)))), (q_10, .inl (cA_11, 4, .inl (fun _ => 0))), (q_12, .inl (cA_13, 4, .inl (fun _ => 0))), (q_14, .inl (cA_15, 4, .inl (upd (fun _ => 0) (0 : Int32).toNatClampNeg (-1))))] H := hP
  have hD : va_D A [(h, .inr (9, [.int 0, .ref q_1, .ref q_8, .ref q_10, .ref q_12, .null, .int 0])), (q_1, .inl (cA_6, 4, .inr (.inr (.inr (.inr (zz_r4 r_2 r_3 r_4 r_5)))))), (r_2, .inl (cy_7, 64, .inl (fun _ => 0))), (r_3, .inl (cy_7, 64, .inl (fun _ => 0))), (r_4, .inl (cy_7, 64, .inl (fun _ => 0))), (r_5, .inl (cy_7, 64, .inl (fun _ => 0))), (q_8, .inl (cA_9, 4, .inl (upd (upd (upd (upd (fun _ => 0) (0 : Int32).toNatClampNeg (-1)) (1 : Int32).toNatClampNeg (-1)) (2 : Int32).toNatClampNeg (-1)) (3 : Int32).toNatClampNeg (-1)))), (q_10, .inl (cA_11, 4, .inl (fun _ => 0))), (q_12, .inl (cA_13, 4, .inl (fun _ => 0))), (q_14, .inl (cA_15, 4, .inl (upd (fun _ => 0) (0 : Int32).toNatClampNeg (-1))))] := hD
  refine lv_dup hx hb dX5_init_60 rfl ?_
  refine lv_iconst (v := 1) hx hb dX5_init_61 (by decide) ?_
  refine lv_iconst (v := (-1)) hx hb dX5_init_62 (by decide) ?_
  refine va_iast hx hb hK hP hD hS 9 5 rfl rfl ((show vp_in (1 : Int32) 4 from vp_in_nI (n := 1) (by decide) (by decide))) dX5_init_63 (fun H locs hP hD hS => ?_)
  have hP : va_P D vwCl [(h, .inr (9, [.int 0, .ref q_1, .ref q_8, .ref q_10, .ref q_12, .null, .int 0])), (q_1, .inl (cA_6, 4, .inr (.inr (.inr (.inr (zz_r4 r_2 r_3 r_4 r_5)))))), (r_2, .inl (cy_7, 64, .inl (fun _ => 0))), (r_3, .inl (cy_7, 64, .inl (fun _ => 0))), (r_4, .inl (cy_7, 64, .inl (fun _ => 0))), (r_5, .inl (cy_7, 64, .inl (fun _ => 0))), (q_8, .inl (cA_9, 4, .inl (upd (upd (upd (upd (fun _ => 0) (0 : Int32).toNatClampNeg (-1)) (1 : Int32).toNatClampNeg (-1)) (2 : Int32).toNatClampNeg (-1)) (3 : Int32).toNatClampNeg (-1)))), (q_10, .inl (cA_11, 4, .inl (fun _ => 0))), (q_12, .inl (cA_13, 4, .inl (fun _ => 0))), (q_14, .inl (cA_15, 4, .inl (upd (upd (fun _ => 0) (0 : Int32).toNatClampNeg (-1)) (1 : Int32).toNatClampNeg (-1))))] H := hP
  have hD : va_D A [(h, .inr (9, [.int 0, .ref q_1, .ref q_8, .ref q_10, .ref q_12, .null, .int 0])), (q_1, .inl (cA_6, 4, .inr (.inr (.inr (.inr (zz_r4 r_2 r_3 r_4 r_5)))))), (r_2, .inl (cy_7, 64, .inl (fun _ => 0))), (r_3, .inl (cy_7, 64, .inl (fun _ => 0))), (r_4, .inl (cy_7, 64, .inl (fun _ => 0))), (r_5, .inl (cy_7, 64, .inl (fun _ => 0))), (q_8, .inl (cA_9, 4, .inl (upd (upd (upd (upd (fun _ => 0) (0 : Int32).toNatClampNeg (-1)) (1 : Int32).toNatClampNeg (-1)) (2 : Int32).toNatClampNeg (-1)) (3 : Int32).toNatClampNeg (-1)))), (q_10, .inl (cA_11, 4, .inl (fun _ => 0))), (q_12, .inl (cA_13, 4, .inl (fun _ => 0))), (q_14, .inl (cA_15, 4, .inl (upd (upd (fun _ => 0) (0 : Int32).toNatClampNeg (-1)) (1 : Int32).toNatClampNeg (-1))))] := hD
  refine lv_dup hx hb dX5_init_64 rfl ?_
  refine lv_iconst (v := 2) hx hb dX5_init_65 (by decide) ?_
  refine lv_iconst (v := (-1)) hx hb dX5_init_66 (by decide) ?_
  refine va_iast hx hb hK hP hD hS 9 5 rfl rfl ((show vp_in (2 : Int32) 4 from vp_in_nI (n := 2) (by decide) (by decide))) dX5_init_67 (fun H locs hP hD hS => ?_)
  have hP : va_P D vwCl [(h, .inr (9, [.int 0, .ref q_1, .ref q_8, .ref q_10, .ref q_12, .null, .int 0])), (q_1, .inl (cA_6, 4, .inr (.inr (.inr (.inr (zz_r4 r_2 r_3 r_4 r_5)))))), (r_2, .inl (cy_7, 64, .inl (fun _ => 0))), (r_3, .inl (cy_7, 64, .inl (fun _ => 0))), (r_4, .inl (cy_7, 64, .inl (fun _ => 0))), (r_5, .inl (cy_7, 64, .inl (fun _ => 0))), (q_8, .inl (cA_9, 4, .inl (upd (upd (upd (upd (fun _ => 0) (0 : Int32).toNatClampNeg (-1)) (1 : Int32).toNatClampNeg (-1)) (2 : Int32).toNatClampNeg (-1)) (3 : Int32).toNatClampNeg (-1)))), (q_10, .inl (cA_11, 4, .inl (fun _ => 0))), (q_12, .inl (cA_13, 4, .inl (fun _ => 0))), (q_14, .inl (cA_15, 4, .inl (upd (upd (upd (fun _ => 0) (0 : Int32).toNatClampNeg (-1)) (1 : Int32).toNatClampNeg (-1)) (2 : Int32).toNatClampNeg (-1))))] H := hP
  have hD : va_D A [(h, .inr (9, [.int 0, .ref q_1, .ref q_8, .ref q_10, .ref q_12, .null, .int 0])), (q_1, .inl (cA_6, 4, .inr (.inr (.inr (.inr (zz_r4 r_2 r_3 r_4 r_5)))))), (r_2, .inl (cy_7, 64, .inl (fun _ => 0))), (r_3, .inl (cy_7, 64, .inl (fun _ => 0))), (r_4, .inl (cy_7, 64, .inl (fun _ => 0))), (r_5, .inl (cy_7, 64, .inl (fun _ => 0))), (q_8, .inl (cA_9, 4, .inl (upd (upd (upd (upd (fun _ => 0) (0 : Int32).toNatClampNeg (-1)) (1 : Int32).toNatClampNeg (-1)) (2 : Int32).toNatClampNeg (-1)) (3 : Int32).toNatClampNeg (-1)))), (q_10, .inl (cA_11, 4, .inl (fun _ => 0))), (q_12, .inl (cA_13, 4, .inl (fun _ => 0))), (q_14, .inl (cA_15, 4, .inl (upd (upd (upd (fun _ => 0) (0 : Int32).toNatClampNeg (-1)) (1 : Int32).toNatClampNeg (-1)) (2 : Int32).toNatClampNeg (-1))))] := hD
  refine lv_dup hx hb dX5_init_68 rfl ?_
  refine lv_iconst (v := 3) hx hb dX5_init_69 (by decide) ?_
  refine lv_iconst (v := (-1)) hx hb dX5_init_70 (by decide) ?_
  refine va_iast hx hb hK hP hD hS 9 5 rfl rfl ((show vp_in (3 : Int32) 4 from vp_in_nI (n := 3) (by decide) (by decide))) dX5_init_71 (fun H locs hP hD hS => ?_)
  have hP : va_P D vwCl [(h, .inr (9, [.int 0, .ref q_1, .ref q_8, .ref q_10, .ref q_12, .null, .int 0])), (q_1, .inl (cA_6, 4, .inr (.inr (.inr (.inr (zz_r4 r_2 r_3 r_4 r_5)))))), (r_2, .inl (cy_7, 64, .inl (fun _ => 0))), (r_3, .inl (cy_7, 64, .inl (fun _ => 0))), (r_4, .inl (cy_7, 64, .inl (fun _ => 0))), (r_5, .inl (cy_7, 64, .inl (fun _ => 0))), (q_8, .inl (cA_9, 4, .inl (upd (upd (upd (upd (fun _ => 0) (0 : Int32).toNatClampNeg (-1)) (1 : Int32).toNatClampNeg (-1)) (2 : Int32).toNatClampNeg (-1)) (3 : Int32).toNatClampNeg (-1)))), (q_10, .inl (cA_11, 4, .inl (fun _ => 0))), (q_12, .inl (cA_13, 4, .inl (fun _ => 0))), (q_14, .inl (cA_15, 4, .inl (upd (upd (upd (upd (fun _ => 0) (0 : Int32).toNatClampNeg (-1)) (1 : Int32).toNatClampNeg (-1)) (2 : Int32).toNatClampNeg (-1)) (3 : Int32).toNatClampNeg (-1))))] H := hP
  have hD : va_D A [(h, .inr (9, [.int 0, .ref q_1, .ref q_8, .ref q_10, .ref q_12, .null, .int 0])), (q_1, .inl (cA_6, 4, .inr (.inr (.inr (.inr (zz_r4 r_2 r_3 r_4 r_5)))))), (r_2, .inl (cy_7, 64, .inl (fun _ => 0))), (r_3, .inl (cy_7, 64, .inl (fun _ => 0))), (r_4, .inl (cy_7, 64, .inl (fun _ => 0))), (r_5, .inl (cy_7, 64, .inl (fun _ => 0))), (q_8, .inl (cA_9, 4, .inl (upd (upd (upd (upd (fun _ => 0) (0 : Int32).toNatClampNeg (-1)) (1 : Int32).toNatClampNeg (-1)) (2 : Int32).toNatClampNeg (-1)) (3 : Int32).toNatClampNeg (-1)))), (q_10, .inl (cA_11, 4, .inl (fun _ => 0))), (q_12, .inl (cA_13, 4, .inl (fun _ => 0))), (q_14, .inl (cA_15, 4, .inl (upd (upd (upd (upd (fun _ => 0) (0 : Int32).toNatClampNeg (-1)) (1 : Int32).toNatClampNeg (-1)) (2 : Int32).toNatClampNeg (-1)) (3 : Int32).toNatClampNeg (-1))))] := hD
  refine va_putF (D := D) (ci := 9) (v := .ref q_14) (ty := .array .int) (C := RX5) (T := TX5) (N := 7) hx hb hts (by decide +kernel) tyX5 tyX5_ok nmX5 hown hK hP hD hS 0 rfl rfl 5 (by decide) (hts (.fieldLink RX5 24 "HashladderModel" "views" "[I") (by decide +kernel)) (fun _ h9 => h9) rfl hname rfl (by decide +kernel) rfl rfl (Nat.le_of_ble_eq_true rfl) dX5_init_72 (fun H locs hP hD hS => ?_)
  have hP : va_P D vwCl [(h, .inr (9, [.int 0, .ref q_1, .ref q_8, .ref q_10, .ref q_12, .ref q_14, .int 0])), (q_1, .inl (cA_6, 4, .inr (.inr (.inr (.inr (zz_r4 r_2 r_3 r_4 r_5)))))), (r_2, .inl (cy_7, 64, .inl (fun _ => 0))), (r_3, .inl (cy_7, 64, .inl (fun _ => 0))), (r_4, .inl (cy_7, 64, .inl (fun _ => 0))), (r_5, .inl (cy_7, 64, .inl (fun _ => 0))), (q_8, .inl (cA_9, 4, .inl (upd (upd (upd (upd (fun _ => 0) (0 : Int32).toNatClampNeg (-1)) (1 : Int32).toNatClampNeg (-1)) (2 : Int32).toNatClampNeg (-1)) (3 : Int32).toNatClampNeg (-1)))), (q_10, .inl (cA_11, 4, .inl (fun _ => 0))), (q_12, .inl (cA_13, 4, .inl (fun _ => 0))), (q_14, .inl (cA_15, 4, .inl (upd (upd (upd (upd (fun _ => 0) (0 : Int32).toNatClampNeg (-1)) (1 : Int32).toNatClampNeg (-1)) (2 : Int32).toNatClampNeg (-1)) (3 : Int32).toNatClampNeg (-1))))] H := hP
  have hD : va_D A [(h, .inr (9, [.int 0, .ref q_1, .ref q_8, .ref q_10, .ref q_12, .ref q_14, .int 0])), (q_1, .inl (cA_6, 4, .inr (.inr (.inr (.inr (zz_r4 r_2 r_3 r_4 r_5)))))), (r_2, .inl (cy_7, 64, .inl (fun _ => 0))), (r_3, .inl (cy_7, 64, .inl (fun _ => 0))), (r_4, .inl (cy_7, 64, .inl (fun _ => 0))), (r_5, .inl (cy_7, 64, .inl (fun _ => 0))), (q_8, .inl (cA_9, 4, .inl (upd (upd (upd (upd (fun _ => 0) (0 : Int32).toNatClampNeg (-1)) (1 : Int32).toNatClampNeg (-1)) (2 : Int32).toNatClampNeg (-1)) (3 : Int32).toNatClampNeg (-1)))), (q_10, .inl (cA_11, 4, .inl (fun _ => 0))), (q_12, .inl (cA_13, 4, .inl (fun _ => 0))), (q_14, .inl (cA_15, 4, .inl (upd (upd (upd (upd (fun _ => 0) (0 : Int32).toNatClampNeg (-1)) (1 : Int32).toNatClampNeg (-1)) (2 : Int32).toNatClampNeg (-1)) (3 : Int32).toNatClampNeg (-1))))] := hD
  refine lv_iconst (v := 0) hx hb dX5_init_75 (by decide) ?_
  refine lv_istore_n (lv' := [(1, .int 0), (0, .ref h)]) hx hb dX5_init_76 rfl hl (by decide) rfl (fun ls hl => ?_)
  refine lv_iload_n hx hb dX5_init_77 rfl (lv_at hl 0 rfl) ?_
  refine lv_iconst (v := 4) hx hb dX5_init_78 (by decide) ?_
  refine lv_icmp_ge (tgt := 93) hx hb dX5_init_79 (by decide) (fun c_16 => absurd c_16 (by decide)) (fun c_16 => ?_)
  refine lv_aload_n hx hb dX5_init_82 rfl (lv_at hl 1 rfl) ?_
  refine lv_iload_n hx hb dX5_init_83 rfl (lv_at hl 0 rfl) ?_
  have hFc := va_free (wc := [(h, .inr (9, [.int 0, .ref q_1, .ref q_8, .ref q_10, .ref q_12, .ref q_14, .int 0])), (q_1, .inl (cA_6, 4, .inr (.inr (.inr (.inr (zz_r4 r_2 r_3 r_4 r_5)))))), (r_2, .inl (cy_7, 64, .inl (fun _ => 0)))]) hD hS hA [0, 1, 2] rfl
  refine zz_after (wr := [(r_3, .inl (cy_7, 64, .inl (fun _ => 0))), (r_4, .inl (cy_7, 64, .inl (fun _ => 0))), (r_5, .inl (cy_7, 64, .inl (fun _ => 0))), (q_8, .inl (cA_9, 4, .inl (upd (upd (upd (upd (fun _ => 0) (0 : Int32).toNatClampNeg (-1)) (1 : Int32).toNatClampNeg (-1)) (2 : Int32).toNatClampNeg (-1)) (3 : Int32).toNatClampNeg (-1)))), (q_10, .inl (cA_11, 4, .inl (fun _ => 0))), (q_12, .inl (cA_13, 4, .inl (fun _ => 0))), (q_14, .inl (cA_15, 4, .inl (upd (upd (upd (upd (fun _ => 0) (0 : Int32).toNatClampNeg (-1)) (1 : Int32).toNatClampNeg (-1)) (2 : Int32).toNatClampNeg (-1)) (3 : Int32).toNatClampNeg (-1))))]) (va_runV (As := [.int 0]) (rest := []) ⟨hx, hb, hml, hown, hts⟩ ((k_X5_empty l D h 0 q_1 (.ref q_8) (.ref q_10) (.ref q_12) (.ref q_14) 0 cA_6 (zz_r4 r_2 r_3 r_4 r_5) r_2 cy_7 0 (fun _ => 0) ((show vp_in (0 : Int32) 4 from vp_in_nI (n := 0) (by decide) (by decide))) (by rw [show ((0 : Int32)).toNatClampNeg = 0 from by decide]; rfl)) H.size) (cwV 1 hts gX5_init_X5_empty rfl rfl rfl (by decide +kernel) ⟨Nat.le_of_ble_eq_true rfl, Nat.le_of_ble_eq_true rfl⟩) (zz_pV (zz_pre (av := [.ref h, .int 0]) (tyc := [(cA_6, .array .int), (cy_7, .int)]) (wc := [(h, .inr (9, [.int 0, .ref q_1, .ref q_8, .ref q_10, .ref q_12, .ref q_14, .int 0])), (q_1, .inl (cA_6, 4, .inr (.inr (.inr (.inr (zz_r4 r_2 r_3 r_4 r_5)))))), (r_2, .inl (cy_7, 64, .inl (fun _ => 0)))]) (X := fun _ _ => True) (Xc := (fun _ _ => True)) hP hD hK hS [0, 1, 2] [0, 1] rfl (by decide) rfl zz_St_tt (fun _ _ _ => trivial)) (va_recv hK hP (ci := 9) (q0 := 0) rfl rfl)) rfl rfl hl.1 rfl (lv_room (Nat.le_of_ble_eq_true rfl)) dX5_init_84 ⟨by show 0 + 5 + 1 + 1 + 1 + 1 + 0 ≤ 9; omega, by show 0 + 260 + 4 + 4 + 4 + 4 + 0 ≤ 276; omega⟩) hP hD hK hS hFc [0, 1, 2] [3, 4, 5, 6, 7, 8, 9] rfl rfl (by decide) (by decide) (fun v w1 ty1 H1 locs hq9 hz9 hk9 hP1 hD1 hK1 hS1 => ?_)
  obtain ⟨f2_17, h_18, rfl, rfl, rfl⟩ := hq9
  clear hS hP hD hK hFc
  have hP : va_P D vwCl [(r_3, .inl (cy_7, 64, .inl (fun _ => 0))), (r_4, .inl (cy_7, 64, .inl (fun _ => 0))), (r_5, .inl (cy_7, 64, .inl (fun _ => 0))), (q_8, .inl (cA_9, 4, .inl (upd (upd (upd (upd (fun _ => 0) (0 : Int32).toNatClampNeg (-1)) (1 : Int32).toNatClampNeg (-1)) (2 : Int32).toNatClampNeg (-1)) (3 : Int32).toNatClampNeg (-1)))), (q_10, .inl (cA_11, 4, .inl (fun _ => 0))), (q_12, .inl (cA_13, 4, .inl (fun _ => 0))), (q_14, .inl (cA_15, 4, .inl (upd (upd (upd (upd (fun _ => 0) (0 : Int32).toNatClampNeg (-1)) (1 : Int32).toNatClampNeg (-1)) (2 : Int32).toNatClampNeg (-1)) (3 : Int32).toNatClampNeg (-1)))), (h, .inr (9, [.int 0, .ref q_1, .ref q_8, .ref q_10, .ref q_12, .ref q_14, .int 0])), (q_1, .inl (cA_6, 4, .inr (.inr (.inr (.inr (zz_r4 r_2 r_3 r_4 r_5)))))), (r_2, .inl (cy_7, 64, .inl f2_17))] H1 := hP1
  have hD : va_D A [(r_3, .inl (cy_7, 64, .inl (fun _ => 0))), (r_4, .inl (cy_7, 64, .inl (fun _ => 0))), (r_5, .inl (cy_7, 64, .inl (fun _ => 0))), (q_8, .inl (cA_9, 4, .inl (upd (upd (upd (upd (fun _ => 0) (0 : Int32).toNatClampNeg (-1)) (1 : Int32).toNatClampNeg (-1)) (2 : Int32).toNatClampNeg (-1)) (3 : Int32).toNatClampNeg (-1)))), (q_10, .inl (cA_11, 4, .inl (fun _ => 0))), (q_12, .inl (cA_13, 4, .inl (fun _ => 0))), (q_14, .inl (cA_15, 4, .inl (upd (upd (upd (upd (fun _ => 0) (0 : Int32).toNatClampNeg (-1)) (1 : Int32).toNatClampNeg (-1)) (2 : Int32).toNatClampNeg (-1)) (3 : Int32).toNatClampNeg (-1)))), (h, .inr (9, [.int 0, .ref q_1, .ref q_8, .ref q_10, .ref q_12, .ref q_14, .int 0])), (q_1, .inl (cA_6, 4, .inr (.inr (.inr (.inr (zz_r4 r_2 r_3 r_4 r_5)))))), (r_2, .inl (cy_7, 64, .inl f2_17))] := hD1
  have hK : va_K D vwCl [(cA_6, .array .int), (cy_7, .int), (cA_9, .int), (cA_11, .int), (cA_13, .int), (cA_15, .int), (cA_6, .array .int), (cy_7, .int)] s := hK1
  have hS := hS1
  clear hP1 hD1 hK1 hS1
  obtain ⟨H, rfl⟩ : ∃ z, z = H1 := ⟨_, rfl⟩
  refine W.eq (g2 := F0 mt0 87 ls []) rfl ?_
  refine lv_iinc (v := 1) (lv' := [(1, .int 1), (0, .ref h)]) hx hb dX5_init_87 hl (k := 0) rfl (by decide) (by decide) rfl (fun ls hl => ?_)
  refine lv_goto (tgt := 77) hx hb dX5_init_90 (by decide) ?_
  refine lv_iload_n hx hb dX5_init_77 rfl (lv_at hl 0 rfl) ?_
  refine lv_iconst (v := 4) hx hb dX5_init_78 (by decide) ?_
  refine lv_icmp_ge (tgt := 93) hx hb dX5_init_79 (by decide) (fun c_19 => absurd c_19 (by decide)) (fun c_19 => ?_)
  refine lv_aload_n hx hb dX5_init_82 rfl (lv_at hl 1 rfl) ?_
  refine lv_iload_n hx hb dX5_init_83 rfl (lv_at hl 0 rfl) ?_
  have hFc := va_free (wc := [(h, .inr (9, [.int 0, .ref q_1, .ref q_8, .ref q_10, .ref q_12, .ref q_14, .int 0])), (q_1, .inl (cA_6, 4, .inr (.inr (.inr (.inr (zz_r4 r_2 r_3 r_4 r_5)))))), (r_3, .inl (cy_7, 64, .inl (fun _ => 0)))]) hD hS hA [7, 8, 0] rfl
  refine zz_after (wr := [(r_4, .inl (cy_7, 64, .inl (fun _ => 0))), (r_5, .inl (cy_7, 64, .inl (fun _ => 0))), (q_8, .inl (cA_9, 4, .inl (upd (upd (upd (upd (fun _ => 0) (0 : Int32).toNatClampNeg (-1)) (1 : Int32).toNatClampNeg (-1)) (2 : Int32).toNatClampNeg (-1)) (3 : Int32).toNatClampNeg (-1)))), (q_10, .inl (cA_11, 4, .inl (fun _ => 0))), (q_12, .inl (cA_13, 4, .inl (fun _ => 0))), (q_14, .inl (cA_15, 4, .inl (upd (upd (upd (upd (fun _ => 0) (0 : Int32).toNatClampNeg (-1)) (1 : Int32).toNatClampNeg (-1)) (2 : Int32).toNatClampNeg (-1)) (3 : Int32).toNatClampNeg (-1)))), (r_2, .inl (cy_7, 64, .inl f2_17))]) (va_runV (As := [.int 1]) (rest := []) ⟨hx, hb, hml, hown, hts⟩ ((k_X5_empty l D h 0 q_1 (.ref q_8) (.ref q_10) (.ref q_12) (.ref q_14) 0 cA_6 (zz_r4 r_2 r_3 r_4 r_5) r_3 cy_7 1 (fun _ => 0) ((show vp_in (1 : Int32) 4 from vp_in_nI (n := 1) (by decide) (by decide))) (by rw [show ((1 : Int32)).toNatClampNeg = 1 from by decide]; rfl)) H.size) (cwV 1 hts gX5_init_X5_empty rfl rfl rfl (by decide +kernel) ⟨Nat.le_of_ble_eq_true rfl, Nat.le_of_ble_eq_true rfl⟩) (zz_pV (zz_pre (av := [.ref h, .int 1]) (tyc := [(cA_6, .array .int), (cy_7, .int)]) (wc := [(h, .inr (9, [.int 0, .ref q_1, .ref q_8, .ref q_10, .ref q_12, .ref q_14, .int 0])), (q_1, .inl (cA_6, 4, .inr (.inr (.inr (.inr (zz_r4 r_2 r_3 r_4 r_5)))))), (r_3, .inl (cy_7, 64, .inl (fun _ => 0)))]) (X := fun _ _ => True) (Xc := (fun _ _ => True)) hP hD hK hS [7, 8, 0] [0, 1] rfl (by decide) rfl zz_St_tt (fun _ _ _ => trivial)) (va_recv hK hP (ci := 9) (q0 := 7) rfl rfl)) rfl rfl hl.1 rfl (lv_room (Nat.le_of_ble_eq_true rfl)) dX5_init_84 ⟨by show 0 + 5 + 1 + 1 + 1 + 1 + 0 + 0 ≤ 9; omega, by show 0 + 260 + 4 + 4 + 4 + 4 + 0 + 0 ≤ 276; omega⟩) hP hD hK hS hFc [7, 8, 0] [1, 2, 3, 4, 5, 6, 9] rfl rfl (by decide) (by decide) (fun v w1 ty1 H1 locs hq9 hz9 hk9 hP1 hD1 hK1 hS1 => ?_)
  obtain ⟨f2_20, h_21, rfl, rfl, rfl⟩ := hq9
  clear hS hP hD hK hFc
  have hP : va_P D vwCl [(r_4, .inl (cy_7, 64, .inl (fun _ => 0))), (r_5, .inl (cy_7, 64, .inl (fun _ => 0))), (q_8, .inl (cA_9, 4, .inl (upd (upd (upd (upd (fun _ => 0) (0 : Int32).toNatClampNeg (-1)) (1 : Int32).toNatClampNeg (-1)) (2 : Int32).toNatClampNeg (-1)) (3 : Int32).toNatClampNeg (-1)))), (q_10, .inl (cA_11, 4, .inl (fun _ => 0))), (q_12, .inl (cA_13, 4, .inl (fun _ => 0))), (q_14, .inl (cA_15, 4, .inl (upd (upd (upd (upd (fun _ => 0) (0 : Int32).toNatClampNeg (-1)) (1 : Int32).toNatClampNeg (-1)) (2 : Int32).toNatClampNeg (-1)) (3 : Int32).toNatClampNeg (-1)))), (r_2, .inl (cy_7, 64, .inl f2_17)), (h, .inr (9, [.int 0, .ref q_1, .ref q_8, .ref q_10, .ref q_12, .ref q_14, .int 0])), (q_1, .inl (cA_6, 4, .inr (.inr (.inr (.inr (zz_r4 r_2 r_3 r_4 r_5)))))), (r_3, .inl (cy_7, 64, .inl f2_20))] H1 := hP1
  have hD : va_D A [(r_4, .inl (cy_7, 64, .inl (fun _ => 0))), (r_5, .inl (cy_7, 64, .inl (fun _ => 0))), (q_8, .inl (cA_9, 4, .inl (upd (upd (upd (upd (fun _ => 0) (0 : Int32).toNatClampNeg (-1)) (1 : Int32).toNatClampNeg (-1)) (2 : Int32).toNatClampNeg (-1)) (3 : Int32).toNatClampNeg (-1)))), (q_10, .inl (cA_11, 4, .inl (fun _ => 0))), (q_12, .inl (cA_13, 4, .inl (fun _ => 0))), (q_14, .inl (cA_15, 4, .inl (upd (upd (upd (upd (fun _ => 0) (0 : Int32).toNatClampNeg (-1)) (1 : Int32).toNatClampNeg (-1)) (2 : Int32).toNatClampNeg (-1)) (3 : Int32).toNatClampNeg (-1)))), (r_2, .inl (cy_7, 64, .inl f2_17)), (h, .inr (9, [.int 0, .ref q_1, .ref q_8, .ref q_10, .ref q_12, .ref q_14, .int 0])), (q_1, .inl (cA_6, 4, .inr (.inr (.inr (.inr (zz_r4 r_2 r_3 r_4 r_5)))))), (r_3, .inl (cy_7, 64, .inl f2_20))] := hD1
  have hK : va_K D vwCl [(cA_6, .array .int), (cy_7, .int), (cA_9, .int), (cA_11, .int), (cA_13, .int), (cA_15, .int), (cA_6, .array .int), (cy_7, .int), (cA_6, .array .int), (cy_7, .int)] s := hK1
  have hS := hS1
  clear hP1 hD1 hK1 hS1
  obtain ⟨H, rfl⟩ : ∃ z, z = H1 := ⟨_, rfl⟩
  refine W.eq (g2 := F0 mt0 87 ls []) rfl ?_
  refine lv_iinc (v := 2) (lv' := [(1, .int 2), (0, .ref h)]) hx hb dX5_init_87 hl (k := 0) rfl (by decide) (by decide) rfl (fun ls hl => ?_)
  refine lv_goto (tgt := 77) hx hb dX5_init_90 (by decide) ?_
  refine lv_iload_n hx hb dX5_init_77 rfl (lv_at hl 0 rfl) ?_
  refine lv_iconst (v := 4) hx hb dX5_init_78 (by decide) ?_
  refine lv_icmp_ge (tgt := 93) hx hb dX5_init_79 (by decide) (fun c_22 => absurd c_22 (by decide)) (fun c_22 => ?_)
  refine lv_aload_n hx hb dX5_init_82 rfl (lv_at hl 1 rfl) ?_
  refine lv_iload_n hx hb dX5_init_83 rfl (lv_at hl 0 rfl) ?_
  have hFc := va_free (wc := [(h, .inr (9, [.int 0, .ref q_1, .ref q_8, .ref q_10, .ref q_12, .ref q_14, .int 0])), (q_1, .inl (cA_6, 4, .inr (.inr (.inr (.inr (zz_r4 r_2 r_3 r_4 r_5)))))), (r_4, .inl (cy_7, 64, .inl (fun _ => 0)))]) hD hS hA [7, 8, 0] rfl
  refine zz_after (wr := [(r_5, .inl (cy_7, 64, .inl (fun _ => 0))), (q_8, .inl (cA_9, 4, .inl (upd (upd (upd (upd (fun _ => 0) (0 : Int32).toNatClampNeg (-1)) (1 : Int32).toNatClampNeg (-1)) (2 : Int32).toNatClampNeg (-1)) (3 : Int32).toNatClampNeg (-1)))), (q_10, .inl (cA_11, 4, .inl (fun _ => 0))), (q_12, .inl (cA_13, 4, .inl (fun _ => 0))), (q_14, .inl (cA_15, 4, .inl (upd (upd (upd (upd (fun _ => 0) (0 : Int32).toNatClampNeg (-1)) (1 : Int32).toNatClampNeg (-1)) (2 : Int32).toNatClampNeg (-1)) (3 : Int32).toNatClampNeg (-1)))), (r_2, .inl (cy_7, 64, .inl f2_17)), (r_3, .inl (cy_7, 64, .inl f2_20))]) (va_runV (As := [.int 2]) (rest := []) ⟨hx, hb, hml, hown, hts⟩ ((k_X5_empty l D h 0 q_1 (.ref q_8) (.ref q_10) (.ref q_12) (.ref q_14) 0 cA_6 (zz_r4 r_2 r_3 r_4 r_5) r_4 cy_7 2 (fun _ => 0) ((show vp_in (2 : Int32) 4 from vp_in_nI (n := 2) (by decide) (by decide))) (by rw [show ((2 : Int32)).toNatClampNeg = 2 from by decide]; rfl)) H.size) (cwV 1 hts gX5_init_X5_empty rfl rfl rfl (by decide +kernel) ⟨Nat.le_of_ble_eq_true rfl, Nat.le_of_ble_eq_true rfl⟩) (zz_pV (zz_pre (av := [.ref h, .int 2]) (tyc := [(cA_6, .array .int), (cy_7, .int)]) (wc := [(h, .inr (9, [.int 0, .ref q_1, .ref q_8, .ref q_10, .ref q_12, .ref q_14, .int 0])), (q_1, .inl (cA_6, 4, .inr (.inr (.inr (.inr (zz_r4 r_2 r_3 r_4 r_5)))))), (r_4, .inl (cy_7, 64, .inl (fun _ => 0)))]) (X := fun _ _ => True) (Xc := (fun _ _ => True)) hP hD hK hS [7, 8, 0] [0, 1] rfl (by decide) rfl zz_St_tt (fun _ _ _ => trivial)) (va_recv hK hP (ci := 9) (q0 := 7) rfl rfl)) rfl rfl hl.1 rfl (lv_room (Nat.le_of_ble_eq_true rfl)) dX5_init_84 ⟨by show 0 + 5 + 1 + 1 + 1 + 1 + 0 + 0 + 0 ≤ 9; omega, by show 0 + 260 + 4 + 4 + 4 + 4 + 0 + 0 + 0 ≤ 276; omega⟩) hP hD hK hS hFc [7, 8, 0] [1, 2, 3, 4, 5, 6, 9] rfl rfl (by decide) (by decide) (fun v w1 ty1 H1 locs hq9 hz9 hk9 hP1 hD1 hK1 hS1 => ?_)
  obtain ⟨f2_23, h_24, rfl, rfl, rfl⟩ := hq9
  clear hS hP hD hK hFc
  have hP : va_P D vwCl [(r_5, .inl (cy_7, 64, .inl (fun _ => 0))), (q_8, .inl (cA_9, 4, .inl (upd (upd (upd (upd (fun _ => 0) (0 : Int32).toNatClampNeg (-1)) (1 : Int32).toNatClampNeg (-1)) (2 : Int32).toNatClampNeg (-1)) (3 : Int32).toNatClampNeg (-1)))), (q_10, .inl (cA_11, 4, .inl (fun _ => 0))), (q_12, .inl (cA_13, 4, .inl (fun _ => 0))), (q_14, .inl (cA_15, 4, .inl (upd (upd (upd (upd (fun _ => 0) (0 : Int32).toNatClampNeg (-1)) (1 : Int32).toNatClampNeg (-1)) (2 : Int32).toNatClampNeg (-1)) (3 : Int32).toNatClampNeg (-1)))), (r_2, .inl (cy_7, 64, .inl f2_17)), (r_3, .inl (cy_7, 64, .inl f2_20)), (h, .inr (9, [.int 0, .ref q_1, .ref q_8, .ref q_10, .ref q_12, .ref q_14, .int 0])), (q_1, .inl (cA_6, 4, .inr (.inr (.inr (.inr (zz_r4 r_2 r_3 r_4 r_5)))))), (r_4, .inl (cy_7, 64, .inl f2_23))] H1 := hP1
  have hD : va_D A [(r_5, .inl (cy_7, 64, .inl (fun _ => 0))), (q_8, .inl (cA_9, 4, .inl (upd (upd (upd (upd (fun _ => 0) (0 : Int32).toNatClampNeg (-1)) (1 : Int32).toNatClampNeg (-1)) (2 : Int32).toNatClampNeg (-1)) (3 : Int32).toNatClampNeg (-1)))), (q_10, .inl (cA_11, 4, .inl (fun _ => 0))), (q_12, .inl (cA_13, 4, .inl (fun _ => 0))), (q_14, .inl (cA_15, 4, .inl (upd (upd (upd (upd (fun _ => 0) (0 : Int32).toNatClampNeg (-1)) (1 : Int32).toNatClampNeg (-1)) (2 : Int32).toNatClampNeg (-1)) (3 : Int32).toNatClampNeg (-1)))), (r_2, .inl (cy_7, 64, .inl f2_17)), (r_3, .inl (cy_7, 64, .inl f2_20)), (h, .inr (9, [.int 0, .ref q_1, .ref q_8, .ref q_10, .ref q_12, .ref q_14, .int 0])), (q_1, .inl (cA_6, 4, .inr (.inr (.inr (.inr (zz_r4 r_2 r_3 r_4 r_5)))))), (r_4, .inl (cy_7, 64, .inl f2_23))] := hD1
  have hK : va_K D vwCl [(cA_6, .array .int), (cy_7, .int), (cA_9, .int), (cA_11, .int), (cA_13, .int), (cA_15, .int), (cA_6, .array .int), (cy_7, .int), (cA_6, .array .int), (cy_7, .int), (cA_6, .array .int), (cy_7, .int)] s := hK1
  have hS := hS1
  clear hP1 hD1 hK1 hS1
  obtain ⟨H, rfl⟩ : ∃ z, z = H1 := ⟨_, rfl⟩
  refine W.eq (g2 := F0 mt0 87 ls []) rfl ?_
  refine lv_iinc (v := 3) (lv' := [(1, .int 3), (0, .ref h)]) hx hb dX5_init_87 hl (k := 0) rfl (by decide) (by decide) rfl (fun ls hl => ?_)
  refine lv_goto (tgt := 77) hx hb dX5_init_90 (by decide) ?_
  refine lv_iload_n hx hb dX5_init_77 rfl (lv_at hl 0 rfl) ?_
  refine lv_iconst (v := 4) hx hb dX5_init_78 (by decide) ?_
  refine lv_icmp_ge (tgt := 93) hx hb dX5_init_79 (by decide) (fun c_25 => absurd c_25 (by decide)) (fun c_25 => ?_)
  refine lv_aload_n hx hb dX5_init_82 rfl (lv_at hl 1 rfl) ?_
  refine lv_iload_n hx hb dX5_init_83 rfl (lv_at hl 0 rfl) ?_
  have hFc := va_free (wc := [(h, .inr (9, [.int 0, .ref q_1, .ref q_8, .ref q_10, .ref q_12, .ref q_14, .int 0])), (q_1, .inl (cA_6, 4, .inr (.inr (.inr (.inr (zz_r4 r_2 r_3 r_4 r_5)))))), (r_5, .inl (cy_7, 64, .inl (fun _ => 0)))]) hD hS hA [7, 8, 0] rfl
  refine zz_after (wr := [(q_8, .inl (cA_9, 4, .inl (upd (upd (upd (upd (fun _ => 0) (0 : Int32).toNatClampNeg (-1)) (1 : Int32).toNatClampNeg (-1)) (2 : Int32).toNatClampNeg (-1)) (3 : Int32).toNatClampNeg (-1)))), (q_10, .inl (cA_11, 4, .inl (fun _ => 0))), (q_12, .inl (cA_13, 4, .inl (fun _ => 0))), (q_14, .inl (cA_15, 4, .inl (upd (upd (upd (upd (fun _ => 0) (0 : Int32).toNatClampNeg (-1)) (1 : Int32).toNatClampNeg (-1)) (2 : Int32).toNatClampNeg (-1)) (3 : Int32).toNatClampNeg (-1)))), (r_2, .inl (cy_7, 64, .inl f2_17)), (r_3, .inl (cy_7, 64, .inl f2_20)), (r_4, .inl (cy_7, 64, .inl f2_23))]) (va_runV (As := [.int 3]) (rest := []) ⟨hx, hb, hml, hown, hts⟩ ((k_X5_empty l D h 0 q_1 (.ref q_8) (.ref q_10) (.ref q_12) (.ref q_14) 0 cA_6 (zz_r4 r_2 r_3 r_4 r_5) r_5 cy_7 3 (fun _ => 0) ((show vp_in (3 : Int32) 4 from vp_in_nI (n := 3) (by decide) (by decide))) (by rw [show ((3 : Int32)).toNatClampNeg = 3 from by decide]; rfl)) H.size) (cwV 1 hts gX5_init_X5_empty rfl rfl rfl (by decide +kernel) ⟨Nat.le_of_ble_eq_true rfl, Nat.le_of_ble_eq_true rfl⟩) (zz_pV (zz_pre (av := [.ref h, .int 3]) (tyc := [(cA_6, .array .int), (cy_7, .int)]) (wc := [(h, .inr (9, [.int 0, .ref q_1, .ref q_8, .ref q_10, .ref q_12, .ref q_14, .int 0])), (q_1, .inl (cA_6, 4, .inr (.inr (.inr (.inr (zz_r4 r_2 r_3 r_4 r_5)))))), (r_5, .inl (cy_7, 64, .inl (fun _ => 0)))]) (X := fun _ _ => True) (Xc := (fun _ _ => True)) hP hD hK hS [7, 8, 0] [0, 1] rfl (by decide) rfl zz_St_tt (fun _ _ _ => trivial)) (va_recv hK hP (ci := 9) (q0 := 7) rfl rfl)) rfl rfl hl.1 rfl (lv_room (Nat.le_of_ble_eq_true rfl)) dX5_init_84 ⟨by show 0 + 5 + 1 + 1 + 1 + 1 + 0 + 0 + 0 + 0 ≤ 9; omega, by show 0 + 260 + 4 + 4 + 4 + 4 + 0 + 0 + 0 + 0 ≤ 276; omega⟩) hP hD hK hS hFc [7, 8, 0] [1, 2, 3, 4, 5, 6, 9] rfl rfl (by decide) (by decide) (fun v w1 ty1 H1 locs hq9 hz9 hk9 hP1 hD1 hK1 hS1 => ?_)
  obtain ⟨f2_26, h_27, rfl, rfl, rfl⟩ := hq9
  clear hS hP hD hK hFc
  have hP : va_P D vwCl [(q_8, .inl (cA_9, 4, .inl (upd (upd (upd (upd (fun _ => 0) (0 : Int32).toNatClampNeg (-1)) (1 : Int32).toNatClampNeg (-1)) (2 : Int32).toNatClampNeg (-1)) (3 : Int32).toNatClampNeg (-1)))), (q_10, .inl (cA_11, 4, .inl (fun _ => 0))), (q_12, .inl (cA_13, 4, .inl (fun _ => 0))), (q_14, .inl (cA_15, 4, .inl (upd (upd (upd (upd (fun _ => 0) (0 : Int32).toNatClampNeg (-1)) (1 : Int32).toNatClampNeg (-1)) (2 : Int32).toNatClampNeg (-1)) (3 : Int32).toNatClampNeg (-1)))), (r_2, .inl (cy_7, 64, .inl f2_17)), (r_3, .inl (cy_7, 64, .inl f2_20)), (r_4, .inl (cy_7, 64, .inl f2_23)), (h, .inr (9, [.int 0, .ref q_1, .ref q_8, .ref q_10, .ref q_12, .ref q_14, .int 0])), (q_1, .inl (cA_6, 4, .inr (.inr (.inr (.inr (zz_r4 r_2 r_3 r_4 r_5)))))), (r_5, .inl (cy_7, 64, .inl f2_26))] H1 := hP1
  have hD : va_D A [(q_8, .inl (cA_9, 4, .inl (upd (upd (upd (upd (fun _ => 0) (0 : Int32).toNatClampNeg (-1)) (1 : Int32).toNatClampNeg (-1)) (2 : Int32).toNatClampNeg (-1)) (3 : Int32).toNatClampNeg (-1)))), (q_10, .inl (cA_11, 4, .inl (fun _ => 0))), (q_12, .inl (cA_13, 4, .inl (fun _ => 0))), (q_14, .inl (cA_15, 4, .inl (upd (upd (upd (upd (fun _ => 0) (0 : Int32).toNatClampNeg (-1)) (1 : Int32).toNatClampNeg (-1)) (2 : Int32).toNatClampNeg (-1)) (3 : Int32).toNatClampNeg (-1)))), (r_2, .inl (cy_7, 64, .inl f2_17)), (r_3, .inl (cy_7, 64, .inl f2_20)), (r_4, .inl (cy_7, 64, .inl f2_23)), (h, .inr (9, [.int 0, .ref q_1, .ref q_8, .ref q_10, .ref q_12, .ref q_14, .int 0])), (q_1, .inl (cA_6, 4, .inr (.inr (.inr (.inr (zz_r4 r_2 r_3 r_4 r_5)))))), (r_5, .inl (cy_7, 64, .inl f2_26))] := hD1
  have hK : va_K D vwCl [(cA_6, .array .int), (cy_7, .int), (cA_9, .int), (cA_11, .int), (cA_13, .int), (cA_15, .int), (cA_6, .array .int), (cy_7, .int), (cA_6, .array .int), (cy_7, .int), (cA_6, .array .int), (cy_7, .int), (cA_6, .array .int), (cy_7, .int)] s := hK1
  have hS := hS1
  clear hP1 hD1 hK1 hS1
  obtain ⟨H, rfl⟩ : ∃ z, z = H1 := ⟨_, rfl⟩
  refine W.eq (g2 := F0 mt0 87 ls []) rfl ?_
  refine lv_iinc (v := 4) (lv' := [(1, .int 4), (0, .ref h)]) hx hb dX5_init_87 hl (k := 0) rfl (by decide) (by decide) rfl (fun ls hl => ?_)
  refine lv_goto (tgt := 77) hx hb dX5_init_90 (by decide) ?_
  refine lv_iload_n hx hb dX5_init_77 rfl (lv_at hl 0 rfl) ?_
  refine lv_iconst (v := 4) hx hb dX5_init_78 (by decide) ?_
  refine lv_icmp_ge (tgt := 93) hx hb dX5_init_79 (by decide) (fun c_28 => ?_) (fun c_28 => absurd (by decide) c_28)
  have hP9 := hP.sub (ws' := [(h, .inr (9, [.int 0, .ref q_1, .ref q_8, .ref q_10, .ref q_12, .ref q_14, .int 0])), (q_1, .inl (cA_6, 4, .inr (.inr (.inr (.inr (zz_r4 r_2 r_3 r_4 r_5)))))), (r_2, .inl (cy_7, 64, .inl f2_17)), (q_8, .inl (cA_9, 4, .inl (upd (upd (upd (upd (fun _ => 0) (0 : Int32).toNatClampNeg (-1)) (1 : Int32).toNatClampNeg (-1)) (2 : Int32).toNatClampNeg (-1)) (3 : Int32).toNatClampNeg (-1))))]) [7, 8, 4, 0] rfl
  have hD9 := hD.sub (ws' := [(h, .inr (9, [.int 0, .ref q_1, .ref q_8, .ref q_10, .ref q_12, .ref q_14, .int 0])), (q_1, .inl (cA_6, 4, .inr (.inr (.inr (.inr (zz_r4 r_2 r_3 r_4 r_5)))))), (r_2, .inl (cy_7, 64, .inl f2_17)), (q_8, .inl (cA_9, 4, .inl (upd (upd (upd (upd (fun _ => 0) (0 : Int32).toNatClampNeg (-1)) (1 : Int32).toNatClampNeg (-1)) (2 : Int32).toNatClampNeg (-1)) (3 : Int32).toNatClampNeg (-1))))]) [7, 8, 4, 0] (by decide) rfl
  have hK9 := hK.sub (tys' := [(cA_6, .array .int), (cy_7, .int), (cA_9, .int)]) [0, 1, 2] rfl
  refine W.widen (k := 9) (n := 276) (by show 0 + 5 + 1 + 1 + 1 + 1 + 0 + 0 + 0 + 0 ≤ 9; omega) (by show 0 + 260 + 4 + 4 + 4 + 4 + 0 + 0 + 0 + 0 ≤ 276; omega) ?_
  exact W.vret hx hb hr (zz_end hP9 hD9 hK9 hS (⟨q_1, q_8, q_10, q_12, q_14, r_2, cA_6, cy_7, cA_9, zz_r4 r_2 r_3 r_4 r_5, f2_17, upd (upd (upd (upd (fun _ => 0) (0 : Int32).toNatClampNeg (-1)) (1 : Int32).toNatClampNeg (-1)) (2 : Int32).toNatClampNeg (-1)) (3 : Int32).toNatClampNeg (-1), rfl, h_18, rfl, rfl, rfl⟩)) hS.2.2 dX5_init_93
end
section
set_option maxHeartbeats 4000000 in
set_option maxRecDepth 100000 in
theorem k_X1_worthAt (l : Launch) (D : va_G) (tb : Nat) (wo : Nat) (ti : Nat) (pn : Nat) (wk : Nat) (vw : Int32) (cW : ClassId) (g : Nat → Int32) (n : Nat) (hn : n < 64) : zz_M l yX1_worthAt wsX1_worthAt ({ frames := 1, cells := 0, slots := 0, locals := 40 }) D [.ref tb, .int (nI n)] [(cW, .int)] [(tb, .inr (5, [.ref wo, .ref ti, .int (nI pn), .ref wk, .int vw])), (wo, .inl (cW, 64, .inl g))] (fun _ _ => True) (fun H0 H1 v w t => v = some (.int (g n)) ∧ w = [(tb, .inr (5, [.ref wo, .ref ti, .int (nI pn), .ref wk, .int vw])), (wo, .inl (cW, 64, .inl g))] ∧ t = [(cW, .int)]) := by
  refine zz_M.mk (cc := cX1_worthAt) (maxL := 2) (ret := (some .int)) (by decide) rfl (Nat.le_of_ble_eq_true rfl) ?_
  intro p0 e0 s mt0 bl0 meth0 cd0 ls hC hname hP hK hD hX hl
  obtain ⟨hx, hb, hml, hr, hown, hts, hlocks⟩ := hC
  generalize hAe : va_A [(tb, .inr (5, [.ref wo, .ref ti, .int (nI pn), .ref wk, .int vw])), (wo, .inl (cW, 64, .inl g))] s.heap.size = A at *
  have hA : ∀ q : Nat, s.heap.size ≤ q → A q := fun q h => by rw [← hAe]; exact Or.inr h
  obtain ⟨H, hHs⟩ : ∃ z : Heap, z = s.heap := ⟨_, rfl⟩
  rw [← hHs] at hP ⊢
  have hS : va_S A s.heap H [] := by rw [hHs]; exact va_S.rf
  have hl : lv_has ls 2 [(0, .ref tb), (1, .int (nI n))] := hl
  refine lv_iload_n hx hb dX1_worthAt_0 rfl (lv_at hl 1 rfl) ?_
  refine lv_if_lt (tgt := 22) hx hb dX1_worthAt_1 (by decide) (fun c_1 => absurd c_1 (nI_pos (by omega))) (fun c_1 => ?_)
  refine lv_iload_n hx hb dX1_worthAt_4 rfl (lv_at hl 1 rfl) ?_
  refine lv_aload_n hx hb dX1_worthAt_5 rfl (lv_at hl 0 rfl) ?_
  refine va_get (D := D) (ci := 5) (v := .ref wo) (C := RX1) (T := TX1) (N := 5) hx hb hts (by decide +kernel) hown hK hP 0 rfl rfl 0 (by decide) (hts (.fieldLink RX1 9 "Hashladder$Table" "worthOf" "[I") (by decide +kernel)) (fun _ h9 => h9) rfl dX1_worthAt_6 ?_
  refine va_alen hx hb hK hP 1 0 rfl rfl (v := nI 64) rfl dX1_worthAt_9 ?_
  refine lv_icmp_ge (tgt := 22) hx hb dX1_worthAt_10 (by decide) (fun c_2 => absurd c_2 (show ¬ nI 64 ≤ nI n from nI_ge (by omega) (by decide))) (fun c_2 => ?_)
  refine lv_aload_n hx hb dX1_worthAt_13 rfl (lv_at hl 0 rfl) ?_
  refine va_get (D := D) (ci := 5) (v := .ref wo) (C := RX1) (T := TX1) (N := 5) hx hb hts (by decide +kernel) hown hK hP 0 rfl rfl 0 (by decide) (hts (.fieldLink RX1 9 "Hashladder$Table" "worthOf" "[I") (by decide +kernel)) (fun _ h9 => h9) rfl dX1_worthAt_14 ?_
  refine lv_iload_n hx hb dX1_worthAt_17 rfl (lv_at hl 1 rfl) ?_
  refine va_iald hx hb hK hP 1 0 rfl rfl (vp_in_nI hn (by decide)) dX1_worthAt_18 ?_
  refine lv_topi (fun z_3 ez_3 => ?_)
  obtain rfl : z_3 = g n := ez_3.trans (by rw [nI_clamp (by omega)])
  refine lv_goto (tgt := 23) hx hb dX1_worthAt_19 (by decide) ?_
  have hP9 := hP.sub (ws' := [(tb, .inr (5, [.ref wo, .ref ti, .int (nI pn), .ref wk, .int vw])), (wo, .inl (cW, 64, .inl g))]) [0, 1] rfl
  have hD9 := hD.sub (ws' := [(tb, .inr (5, [.ref wo, .ref ti, .int (nI pn), .ref wk, .int vw])), (wo, .inl (cW, 64, .inl g))]) [0, 1] (by decide) rfl
  have hK9 := hK.sub (tys' := [(cW, .int)]) [0] rfl
  refine W.widen (k := 0) (n := 0) (by show 0 ≤ 0; omega) (by show 0 ≤ 0; omega) ?_
  exact W.iret (v := g n) hx hb hr (zz_end hP9 hD9 hK9 hS (⟨rfl, rfl, rfl⟩)) hS.2.2 dX1_worthAt_23
set_option maxHeartbeats 4000000 in
set_option maxRecDepth 100000 in
theorem k_X1_signsOf (l : Launch) (D : va_G) (n : Nat) (hn : 10 ≤ n) (hm9 : n < 100) : zz_M l yX1_signsOf wsX1_signsOf ({ frames := 1, cells := 0, slots := 0, locals := 40 }) D [.int (nI n)] [] [] (fun _ _ => True) (fun H0 H1 v w t => v = some (.int 2) ∧ w = [] ∧ t = []) := by
  refine zz_M.mk (cc := cX1_signsOf) (maxL := 1) (ret := (some .int)) (by decide) rfl (Nat.le_of_ble_eq_true rfl) ?_
  intro p0 e0 s mt0 bl0 meth0 cd0 ls hC hname hP hK hD hX hl
  obtain ⟨hx, hb, hml, hr, hown, hts, hlocks⟩ := hC
  generalize hAe : va_A [] s.heap.size = A at *
  have hA : ∀ q : Nat, s.heap.size ≤ q → A q := fun q h => by rw [← hAe]; exact Or.inr h
  obtain ⟨H, hHs⟩ : ∃ z : Heap, z = s.heap := ⟨_, rfl⟩
  rw [← hHs] at hP ⊢
  have hS : va_S A s.heap H [] := by rw [hHs]; exact va_S.rf
  have hl : lv_has ls 1 [(0, .int (nI n))] := hl
  refine lv_iload_n hx hb dX1_signsOf_0 rfl (lv_at hl 0 rfl) ?_
  refine lv_bipush (v := 10) hx hb dX1_signsOf_1 (by decide) ?_
  refine lv_icmp_ge (tgt := 10) hx hb dX1_signsOf_3 (by decide) (fun c_1 => ?_) (fun c_1 => absurd (show nI 10 ≤ nI n from nI_le hn (by omega)) c_1)
  refine lv_iconst (v := 2) hx hb dX1_signsOf_10 (by decide) ?_
  have hP9 := hP.sub (ws' := []) [] rfl
  have hD9 := hD.sub (ws' := []) [] (by decide) rfl
  have hK9 := hK.sub (tys' := []) [] rfl
  refine W.widen (k := 0) (n := 0) (by show 0 ≤ 0; omega) (by show 0 ≤ 0; omega) ?_
  exact W.iret (v := 2) hx hb hr (zz_end hP9 hD9 hK9 hS (⟨rfl, rfl, rfl⟩)) hS.2.2 dX1_signsOf_11
set_option maxHeartbeats 4000000 in
set_option maxRecDepth 100000 in
theorem k_X1_lift (l : Launch) (D : va_G) (tb : Nat) (wo : Nat) (ti : Nat) (pn : Nat) (wk : Nat) (vw : Int32) (cW : ClassId) (g : Nat → Int32) (cT : ClassId) (tm : Nat → Int32) (n : Nat) (hn : n < 64) (hg : g n = -1) : zz_M l yX1_lift wsX1_lift ({ frames := 2, cells := 0, slots := 0, locals := 100 }) D [.ref tb, .int (nI n)] [(cW, .int)] [(tb, .inr (5, [.ref wo, .ref ti, .int (nI pn), .ref wk, .int vw])), (wo, .inl (cW, 64, .inl g))] (fun _ _ => True) (fun H0 H1 v w t => v = some (.int (-1)) ∧ w = [(tb, .inr (5, [.ref wo, .ref ti, .int (nI pn), .ref wk, .int vw])), (wo, .inl (cW, 64, .inl g))] ∧ t = [(cW, .int)]) := by
  refine zz_M.mk (cc := cX1_lift) (maxL := 3) (ret := (some .int)) (by decide) rfl (Nat.le_of_ble_eq_true rfl) ?_
  intro p0 e0 s mt0 bl0 meth0 cd0 ls hC hname hP hK hD hX hl
  obtain ⟨hx, hb, hml, hr, hown, hts, hlocks⟩ := hC
  generalize hAe : va_A [(tb, .inr (5, [.ref wo, .ref ti, .int (nI pn), .ref wk, .int vw])), (wo, .inl (cW, 64, .inl g))] s.heap.size = A at *
  have hA : ∀ q : Nat, s.heap.size ≤ q → A q := fun q h => by rw [← hAe]; exact Or.inr h
  obtain ⟨H, hHs⟩ : ∃ z : Heap, z = s.heap := ⟨_, rfl⟩
  rw [← hHs] at hP ⊢
  have hS : va_S A s.heap H [] := by rw [hHs]; exact va_S.rf
  have hl : lv_has ls 3 [(0, .ref tb), (1, .int (nI n))] := hl
  refine lv_aload_n hx hb dX1_lift_0 rfl (lv_at hl 0 rfl) ?_
  refine lv_iload_n hx hb dX1_lift_1 rfl (lv_at hl 1 rfl) ?_
  have hFc := va_free (wc := [(tb, .inr (5, [.ref wo, .ref ti, .int (nI pn), .ref wk, .int vw])), (wo, .inl (cW, 64, .inl g))]) hD hS hA [0, 1] rfl
  refine zz_after (wr := []) (va_runV (As := [.int (nI n)]) (rest := []) ⟨hx, hb, hml, hown, hts⟩ ((k_X1_worthAt l D tb wo ti pn wk vw cW g n (hn)) H.size) (cwV 1 hts gX1_lift_X1_worthAt rfl rfl rfl (by decide +kernel) ⟨Nat.le_of_ble_eq_true rfl, Nat.le_of_ble_eq_true rfl⟩) (zz_pV (zz_pre (av := [.ref tb, .int (nI n)]) (tyc := [(cW, .int)]) (wc := [(tb, .inr (5, [.ref wo, .ref ti, .int (nI pn), .ref wk, .int vw])), (wo, .inl (cW, 64, .inl g))]) (X := fun _ _ => True) (Xc := (fun _ _ => True)) hP hD hK hS [0, 1] [0] rfl (by decide) rfl zz_St_tt (fun _ _ _ => trivial)) (va_recv hK hP (ci := 5) (q0 := 0) rfl rfl)) rfl rfl hl.1 rfl (lv_room (Nat.le_of_ble_eq_true rfl)) dX1_lift_2 ⟨by show 0 + 0 ≤ 0; omega, by show 0 + 0 ≤ 0; omega⟩) hP hD hK hS hFc [0, 1] [] rfl rfl (by decide) (by decide) (fun v w1 ty1 H1 locs hq9 hz9 hk9 hP1 hD1 hK1 hS1 => ?_)
  obtain ⟨rfl, rfl, rfl⟩ := hq9
  clear hS hP hD hK hFc
  have hP : va_P D vwCl [(tb, .inr (5, [.ref wo, .ref ti, .int (nI pn), .ref wk, .int vw])), (wo, .inl (cW, 64, .inl g))] H1 := hP1
  have hD : va_D A [(tb, .inr (5, [.ref wo, .ref ti, .int (nI pn), .ref wk, .int vw])), (wo, .inl (cW, 64, .inl g))] := hD1
  have hK : va_K D vwCl [(cW, .int), (cW, .int)] s := hK1
  have hS := hS1
  clear hP1 hD1 hK1 hS1
  obtain ⟨H, rfl⟩ : ∃ z, z = H1 := ⟨_, rfl⟩
  refine W.eq (g2 := F0 mt0 5 ls [.int (g n)]) rfl ?_
  rw [hg]
  refine lv_istore_n (lv' := [(2, .int (-1)), (0, .ref tb), (1, .int (nI n))]) hx hb dX1_lift_5 rfl hl (by decide) rfl (fun ls hl => ?_)
  refine lv_iload_n hx hb dX1_lift_6 rfl (lv_at hl 2 rfl) ?_
  refine lv_if_lt (tgt := 59) hx hb dX1_lift_7 (by decide) (fun c_1 => absurd c_1 (nI_pos (by omega))) (fun c_1 => ?_)
  refine lv_iload_n hx hb dX1_lift_10 rfl (lv_at hl 2 rfl) ?_
  refine lv_aload_n hx hb dX1_lift_11 rfl (lv_at hl 1 rfl) ?_
  refine va_get (D := D) (ci := 5) (v := .ref wo) (C := RX1) (T := TX1) (N := 5) hx hb hts (by decide +kernel) hown hK hP 0 rfl rfl 0 (by decide) (hts (.fieldLink RX1 9 "Hashladder$Table" "worthOf" "[I") (by decide +kernel)) (fun _ h9 => h9) rfl dX1_lift_12 ?_
  refine va_alen hx hb hK hP 1 0 rfl rfl (v := nI 64) rfl dX1_lift_15 ?_
  refine lv_icmp_ge (tgt := 59) hx hb dX1_lift_16 (by decide) (fun c_2 => absurd c_2 (show ¬ nI 64 ≤ nI n from nI_ge (by omega) (by decide))) (fun c_2 => ?_)
  refine lv_iload_n hx hb dX1_lift_19 rfl (lv_at hl 0 rfl) ?_
  refine lv_if_lt (tgt := 59) hx hb dX1_lift_20 (by decide) (fun c_3 => ?_) (fun c_3 => absurd (by decide) c_3)
  refine lv_iload_n hx hb dX1_lift_59 rfl (lv_at hl 0 rfl) ?_
  have hP9 := hP.sub (ws' := [(tb, .inr (5, [.ref wo, .ref ti, .int (nI pn), .ref wk, .int vw])), (wo, .inl (cW, 64, .inl g))]) [0, 1] rfl
  have hD9 := hD.sub (ws' := [(tb, .inr (5, [.ref wo, .ref ti, .int (nI pn), .ref wk, .int vw])), (wo, .inl (cW, 64, .inl g))]) [0, 1] (by decide) rfl
  have hK9 := hK.sub (tys' := [(cW, .int)]) [0] rfl
  refine W.widen (k := 0) (n := 0) (by show 0 + 0 ≤ 0; omega) (by show 0 + 0 ≤ 0; omega) ?_
  exact W.iret (v := -1) hx hb hr (zz_end hP9 hD9 hK9 hS (⟨rfl, rfl, rfl⟩)) hS.2.2 dX1_lift_60
set_option maxHeartbeats 4000000 in
set_option maxRecDepth 100000 in
theorem k_X1_lay (l : Launch) (D : va_G) (tb : Nat) (wo : Nat) (ti : Nat) (pn : Nat) (wk : Nat) (vw : Int32) (cW : ClassId) (g : Nat → Int32) (cT : ClassId) (tm : Nat → Int32) (n : Nat) (hn : n < 64) (hg : g n = -1) (hp : pn < 1000) : zz_M l yX1_lay wsX1_lay ({ frames := 3, cells := 0, slots := 0, locals := 160 }) D [.ref tb, .int (nI n), .int 99] [(cW, .int), (cT, .int)] [(tb, .inr (5, [.ref wo, .ref ti, .int (nI pn), .ref wk, .int vw])), (wo, .inl (cW, 64, .inl g)), (ti, .inl (cT, 100, .inl tm))] (fun _ _ => True) (fun H0 H1 v w t => ∃ tm2 : Nat → Int32, v = some (.int (-1)) ∧ w = [(tb, .inr (5, [.ref wo, .ref ti, .int (nI (pn + 1)), .ref wk, .int vw])), (wo, .inl (cW, 64, .inl (upd g n 99))), (ti, .inl (cT, 100, .inl tm2))] ∧ t = [(cW, .int), (cT, .int)]) := by
  refine zz_M.mk (cc := cX1_lay) (maxL := 4) (ret := (some .int)) (by decide) rfl (Nat.le_of_ble_eq_true rfl) ?_
  intro p0 e0 s mt0 bl0 meth0 cd0 ls hC hname hP hK hD hX hl
  obtain ⟨hx, hb, hml, hr, hown, hts, hlocks⟩ := hC
  generalize hAe : va_A [(tb, .inr (5, [.ref wo, .ref ti, .int (nI pn), .ref wk, .int vw])), (wo, .inl (cW, 64, .inl g)), (ti, .inl (cT, 100, .inl tm))] s.heap.size = A at *
  have hA : ∀ q : Nat, s.heap.size ≤ q → A q := fun q h => by rw [← hAe]; exact Or.inr h
  obtain ⟨H, hHs⟩ : ∃ z : Heap, z = s.heap := ⟨_, rfl⟩
  rw [← hHs] at hP ⊢
  have hS : va_S A s.heap H [] := by rw [hHs]; exact va_S.rf
  have hl : lv_has ls 4 [(0, .ref tb), (1, .int (nI n)), (2, .int 99)] := hl
  refine lv_aload_n hx hb dX1_lay_0 rfl (lv_at hl 0 rfl) ?_
  refine lv_iload_n hx hb dX1_lay_1 rfl (lv_at hl 1 rfl) ?_
  have hFc := va_free (wc := [(tb, .inr (5, [.ref wo, .ref ti, .int (nI pn), .ref wk, .int vw])), (wo, .inl (cW, 64, .inl g))]) hD hS hA [0, 1] rfl
  refine zz_after (wr := [(ti, .inl (cT, 100, .inl tm))]) (va_runV (As := [.int (nI n)]) (rest := []) ⟨hx, hb, hml, hown, hts⟩ ((k_X1_lift l D tb wo ti pn wk vw cW g cT tm n (hn) (hg)) H.size) (cwV 1 hts gX1_lay_X1_lift rfl rfl rfl (by decide +kernel) ⟨Nat.le_of_ble_eq_true rfl, Nat.le_of_ble_eq_true rfl⟩) (zz_pV (zz_pre (av := [.ref tb, .int (nI n)]) (tyc := [(cW, .int)]) (wc := [(tb, .inr (5, [.ref wo, .ref ti, .int (nI pn), .ref wk, .int vw])), (wo, .inl (cW, 64, .inl g))]) (X := fun _ _ => True) (Xc := (fun _ _ => True)) hP hD hK hS [0, 1] [0] rfl (by decide) rfl zz_St_tt (fun _ _ _ => trivial)) (va_recv hK hP (ci := 5) (q0 := 0) rfl rfl)) rfl rfl hl.1 rfl (lv_room (Nat.le_of_ble_eq_true rfl)) dX1_lay_2 ⟨by show 0 + 0 ≤ 0; omega, by show 0 + 0 ≤ 0; omega⟩) hP hD hK hS hFc [0, 1] [2] rfl rfl (by decide) (by decide) (fun v w1 ty1 H1 locs hq9 hz9 hk9 hP1 hD1 hK1 hS1 => ?_)
  obtain ⟨rfl, rfl, rfl⟩ := hq9
  clear hS hP hD hK hFc
  have hP : va_P D vwCl [(ti, .inl (cT, 100, .inl tm)), (tb, .inr (5, [.ref wo, .ref ti, .int (nI pn), .ref wk, .int vw])), (wo, .inl (cW, 64, .inl g))] H1 := hP1
  have hD : va_D A [(ti, .inl (cT, 100, .inl tm)), (tb, .inr (5, [.ref wo, .ref ti, .int (nI pn), .ref wk, .int vw])), (wo, .inl (cW, 64, .inl g))] := hD1
  have hK : va_K D vwCl [(cW, .int), (cT, .int), (cW, .int)] s := hK1
  have hS := hS1
  clear hP1 hD1 hK1 hS1
  obtain ⟨H, rfl⟩ : ∃ z, z = H1 := ⟨_, rfl⟩
  refine W.eq (g2 := F0 mt0 5 ls [.int (-1)]) rfl ?_
  refine lv_istore_n (lv' := [(3, .int (-1)), (0, .ref tb), (1, .int (nI n)), (2, .int 99)]) hx hb dX1_lay_5 rfl hl (by decide) rfl (fun ls hl => ?_)
  refine lv_iload_n hx hb dX1_lay_6 rfl (lv_at hl 2 rfl) ?_
  refine lv_if_lt (tgt := 59) hx hb dX1_lay_7 (by decide) (fun c_1 => absurd c_1 (nI_pos (by omega))) (fun c_1 => ?_)
  refine lv_iload_n hx hb dX1_lay_10 rfl (lv_at hl 2 rfl) ?_
  refine lv_aload_n hx hb dX1_lay_11 rfl (lv_at hl 1 rfl) ?_
  refine va_get (D := D) (ci := 5) (v := .ref wo) (C := RX1) (T := TX1) (N := 5) hx hb hts (by decide +kernel) hown hK hP 1 rfl rfl 0 (by decide) (hts (.fieldLink RX1 9 "Hashladder$Table" "worthOf" "[I") (by decide +kernel)) (fun _ h9 => h9) rfl dX1_lay_12 ?_
  refine va_alen hx hb hK hP 2 0 rfl rfl (v := nI 64) rfl dX1_lay_15 ?_
  refine lv_icmp_ge (tgt := 59) hx hb dX1_lay_16 (by decide) (fun c_2 => absurd c_2 (show ¬ nI 64 ≤ nI n from nI_ge (by omega) (by decide))) (fun c_2 => ?_)
  refine lv_iload_n hx hb dX1_lay_19 rfl (lv_at hl 3 rfl) ?_
  refine lv_if_lt (tgt := 59) hx hb dX1_lay_20 (by decide) (fun c_3 => absurd c_3 (by decide)) (fun c_3 => ?_)
  refine lv_iload_n hx hb dX1_lay_23 rfl (lv_at hl 3 rfl) ?_
  refine lv_aload_n hx hb dX1_lay_24 rfl (lv_at hl 1 rfl) ?_
  refine va_get (D := D) (ci := 5) (v := .ref ti) (C := RX1) (T := TX1) (N := 5) hx hb hts (by decide +kernel) hown hK hP 1 rfl rfl 1 (by decide) (hts (.fieldLink RX1 15 "Hashladder$Table" "times" "[I") (by decide +kernel)) (fun _ h9 => h9) rfl dX1_lay_25 ?_
  refine va_alen hx hb hK hP 0 1 rfl rfl (v := nI 100) rfl dX1_lay_28 ?_
  refine lv_icmp_ge (tgt := 59) hx hb dX1_lay_29 (by decide) (fun c_4 => absurd c_4 (show ¬ nI 100 ≤ nI 99 from by decide)) (fun c_4 => ?_)
  refine lv_aload_n hx hb dX1_lay_32 rfl (lv_at hl 1 rfl) ?_
  refine va_get (D := D) (ci := 5) (v := .ref wo) (C := RX1) (T := TX1) (N := 5) hx hb hts (by decide +kernel) hown hK hP 1 rfl rfl 0 (by decide) (hts (.fieldLink RX1 9 "Hashladder$Table" "worthOf" "[I") (by decide +kernel)) (fun _ h9 => h9) rfl dX1_lay_33 ?_
  refine lv_iload_n hx hb dX1_lay_36 rfl (lv_at hl 2 rfl) ?_
  refine lv_iload_n hx hb dX1_lay_37 rfl (lv_at hl 3 rfl) ?_
  refine va_iast hx hb hK hP hD hS 2 0 rfl rfl (vp_in_nI hn (by decide)) dX1_lay_38 (fun H locs hP hD hS => ?_)
  have hP : va_P D vwCl [(ti, .inl (cT, 100, .inl tm)), (tb, .inr (5, [.ref wo, .ref ti, .int (nI pn), .ref wk, .int vw])), (wo, .inl (cW, 64, .inl (upd g (nI n : Int32).toNatClampNeg 99)))] H := hP
  have hD : va_D A [(ti, .inl (cT, 100, .inl tm)), (tb, .inr (5, [.ref wo, .ref ti, .int (nI pn), .ref wk, .int vw])), (wo, .inl (cW, 64, .inl (upd g (nI n : Int32).toNatClampNeg 99)))] := hD
  have ef : upd g (nI n : Int32).toNatClampNeg 99 = upd g n 99 := by rw [nI_clamp (by omega)]
  rw [ef] at hP hD
  refine lv_aload_n hx hb dX1_lay_39 rfl (lv_at hl 1 rfl) ?_
  refine va_get (D := D) (ci := 5) (v := .ref ti) (C := RX1) (T := TX1) (N := 5) hx hb hts (by decide +kernel) hown hK hP 1 rfl rfl 1 (by decide) (hts (.fieldLink RX1 15 "Hashladder$Table" "times" "[I") (by decide +kernel)) (fun _ h9 => h9) rfl dX1_lay_40 ?_
  refine lv_iload_n hx hb dX1_lay_43 rfl (lv_at hl 3 rfl) ?_
  refine lv_dup2_11 hx hb dX1_lay_44 rfl rfl ?_
  refine va_iald hx hb hK hP 0 1 rfl rfl ((show vp_in (99 : Int32) 100 from vp_in_nI (n := 99) (by decide) (by decide))) dX1_lay_45 ?_
  refine lv_iconst (v := 1) hx hb dX1_lay_46 (by decide) ?_
  refine lv_iadd hx hb dX1_lay_47 ?_
  refine lv_topi (fun z_5 ez_5 => ?_)
  refine va_iast hx hb hK hP hD hS 0 1 rfl rfl ((show vp_in (99 : Int32) 100 from vp_in_nI (n := 99) (by decide) (by decide))) dX1_lay_48 (fun H locs hP hD hS => ?_)
  have hP : va_P D vwCl [(ti, .inl (cT, 100, .inl (upd tm (99 : Int32).toNatClampNeg z_5))), (tb, .inr (5, [.ref wo, .ref ti, .int (nI pn), .ref wk, .int vw])), (wo, .inl (cW, 64, .inl (upd g n 99)))] H := hP
  have hD : va_D A [(ti, .inl (cT, 100, .inl (upd tm (99 : Int32).toNatClampNeg z_5))), (tb, .inr (5, [.ref wo, .ref ti, .int (nI pn), .ref wk, .int vw])), (wo, .inl (cW, 64, .inl (upd g n 99)))] := hD
  refine lv_aload_n hx hb dX1_lay_49 rfl (lv_at hl 1 rfl) ?_
  refine lv_dup hx hb dX1_lay_50 rfl ?_
  refine va_get (D := D) (ci := 5) (v := .int (nI pn)) (C := RX1) (T := TX1) (N := 5) hx hb hts (by decide +kernel) hown hK hP 1 rfl rfl 2 (by decide) (hts (.fieldLink RX1 29 "Hashladder$Table" "pairs" "I") (by decide +kernel)) (fun _ h9 => h9) rfl dX1_lay_51 ?_
  refine lv_iconst (v := 1) hx hb dX1_lay_54 (by decide) ?_
  refine lv_iadd hx hb dX1_lay_55 ?_
  refine lv_topi (fun z_6 ez_6 => ?_)
  obtain rfl : z_6 = nI (pn + 1) := ez_6.trans (nI_1 pn)
  refine va_put (D := D) (ci := 5) (v := .int (nI (pn + 1))) (ty := .int) (C := RX1) (T := TX1) (N := 5) hx hb hts (by decide +kernel) tyX1 tyX1_ok nmX1 hown hK hP hD hS 1 rfl rfl 2 (by decide) (hts (.fieldLink RX1 29 "Hashladder$Table" "pairs" "I") (by decide +kernel)) (fun _ h9 => h9) rfl (by decide +kernel) rfl rfl (Nat.le_of_ble_eq_true rfl) dX1_lay_56 (fun H locs hP hD hS => ?_)
  have hP : va_P D vwCl [(ti, .inl (cT, 100, .inl (upd tm (99 : Int32).toNatClampNeg z_5))), (tb, .inr (5, [.ref wo, .ref ti, .int (nI (pn + 1)), .ref wk, .int vw])), (wo, .inl (cW, 64, .inl (upd g n 99)))] H := hP
  have hD : va_D A [(ti, .inl (cT, 100, .inl (upd tm (99 : Int32).toNatClampNeg z_5))), (tb, .inr (5, [.ref wo, .ref ti, .int (nI (pn + 1)), .ref wk, .int vw])), (wo, .inl (cW, 64, .inl (upd g n 99)))] := hD
  refine lv_iload_n hx hb dX1_lay_59 rfl (lv_at hl 0 rfl) ?_
  have hP9 := hP.sub (ws' := [(tb, .inr (5, [.ref wo, .ref ti, .int (nI (pn + 1)), .ref wk, .int vw])), (wo, .inl (cW, 64, .inl (upd g n 99))), (ti, .inl (cT, 100, .inl (upd tm (99 : Int32).toNatClampNeg z_5)))]) [1, 2, 0] rfl
  have hD9 := hD.sub (ws' := [(tb, .inr (5, [.ref wo, .ref ti, .int (nI (pn + 1)), .ref wk, .int vw])), (wo, .inl (cW, 64, .inl (upd g n 99))), (ti, .inl (cT, 100, .inl (upd tm (99 : Int32).toNatClampNeg z_5)))]) [1, 2, 0] (by decide) rfl
  have hK9 := hK.sub (tys' := [(cW, .int), (cT, .int)]) [0, 1] rfl
  refine W.widen (k := 0) (n := 0) (by show 0 + 0 ≤ 0; omega) (by show 0 + 0 ≤ 0; omega) ?_
  exact W.iret (v := -1) hx hb hr (zz_end hP9 hD9 hK9 hS (⟨_, rfl, rfl, rfl⟩)) hS.2.2 dX1_lay_60
set_option maxHeartbeats 4000000 in
set_option maxRecDepth 100000 in
theorem k_X2_end (l : Launch) (D : va_G) (wk : Nat) (wi : Int32) (w1 : Int32) (w2 : Int32) (w3 : Int32) (w4 : Int32) : zz_M l yX2_end wsX2_end ({ frames := 1, cells := 0, slots := 0, locals := 40 }) D [.ref wk] [] [(wk, .inr (6, [.int wi, .int w1, .int w2, .int w3, .int w4]))] (fun _ _ => True) (fun H0 H1 v w t => v = none ∧ w = [(wk, .inr (6, [.int 0, .int w1, .int w2, .int w3, .int w4]))] ∧ t = []) := by
  refine zz_M.mk (cc := cX2_end) (maxL := 1) (ret := none) (by decide) rfl (Nat.le_of_ble_eq_true rfl) ?_
  intro p0 e0 s mt0 bl0 meth0 cd0 ls hC hname hP hK hD hX hl
  obtain ⟨hx, hb, hml, hr, hown, hts, hlocks⟩ := hC
  generalize hAe : va_A [(wk, .inr (6, [.int wi, .int w1, .int w2, .int w3, .int w4]))] s.heap.size = A at *
  have hA : ∀ q : Nat, s.heap.size ≤ q → A q := fun q h => by rw [← hAe]; exact Or.inr h
  obtain ⟨H, hHs⟩ : ∃ z : Heap, z = s.heap := ⟨_, rfl⟩
  rw [← hHs] at hP ⊢
  have hS : va_S A s.heap H [] := by rw [hHs]; exact va_S.rf
  have hl : lv_has ls 1 [(0, .ref wk)] := hl
  refine lv_aload_n hx hb dX2_end_0 rfl (lv_at hl 0 rfl) ?_
  refine lv_iconst (v := 0) hx hb dX2_end_1 (by decide) ?_
  refine va_put (D := D) (ci := 6) (v := .int 0) (ty := .boolean) (C := RX2) (T := TX2) (N := 5) hx hb hts (by decide +kernel) tyX2 tyX2_ok nmX2 hown hK hP hD hS 0 rfl rfl 0 (by decide) (hts (.fieldLink RX2 9 "Hashladder$Walk" "isThere" "Z") (by decide +kernel)) (fun _ h9 => h9) rfl (by decide +kernel) rfl rfl (Nat.le_of_ble_eq_true rfl) dX2_end_2 (fun H locs hP hD hS => ?_)
  have hP : va_P D vwCl [(wk, .inr (6, [.int 0, .int w1, .int w2, .int w3, .int w4]))] H := hP
  have hD : va_D A [(wk, .inr (6, [.int 0, .int w1, .int w2, .int w3, .int w4]))] := hD
  have hP9 := hP.sub (ws' := [(wk, .inr (6, [.int 0, .int w1, .int w2, .int w3, .int w4]))]) [0] rfl
  have hD9 := hD.sub (ws' := [(wk, .inr (6, [.int 0, .int w1, .int w2, .int w3, .int w4]))]) [0] (by decide) rfl
  have hK9 := hK.sub (tys' := []) [] rfl
  refine W.widen (k := 0) (n := 0) (by show 0 ≤ 0; omega) (by show 0 ≤ 0; omega) ?_
  exact W.vret hx hb hr (zz_end hP9 hD9 hK9 hS (⟨rfl, rfl, rfl⟩)) hS.2.2 dX2_end_5
set_option maxHeartbeats 4000000 in
set_option maxRecDepth 100000 in
theorem k_X1_tell (l : Launch) (D : va_G) (tb : Nat) (wo : Nat) (ti : Nat) (pn : Nat) (wk : Nat) (vw : Int32) (cW : ClassId) (g : Nat → Int32) (wi : Int32) (w1 : Int32) (w2 : Int32) (w3 : Int32) (w4 : Int32) : zz_M l yX1_tell wsX1_tell ({ frames := 2, cells := 0, slots := 0, locals := 100 }) D [.ref tb] [] [(tb, .inr (5, [.ref wo, .ref ti, .int (nI pn), .ref wk, .int vw])), (wk, .inr (6, [.int wi, .int w1, .int w2, .int w3, .int w4]))] (fun _ _ => True) (fun H0 H1 v w t => v = none ∧ w = [(tb, .inr (5, [.ref wo, .ref ti, .int (nI pn), .ref wk, .int vw])), (wk, .inr (6, [.int 0, .int w1, .int w2, .int w3, .int w4]))] ∧ t = []) := by
  refine zz_M.mk (cc := cX1_tell) (maxL := 1) (ret := none) (by decide) rfl (Nat.le_of_ble_eq_true rfl) ?_
  intro p0 e0 s mt0 bl0 meth0 cd0 ls hC hname hP hK hD hX hl
  obtain ⟨hx, hb, hml, hr, hown, hts, hlocks⟩ := hC
  generalize hAe : va_A [(tb, .inr (5, [.ref wo, .ref ti, .int (nI pn), .ref wk, .int vw])), (wk, .inr (6, [.int wi, .int w1, .int w2, .int w3, .int w4]))] s.heap.size = A at *
  have hA : ∀ q : Nat, s.heap.size ≤ q → A q := fun q h => by rw [← hAe]; exact Or.inr h
  obtain ⟨H, hHs⟩ : ∃ z : Heap, z = s.heap := ⟨_, rfl⟩
  rw [← hHs] at hP ⊢
  have hS : va_S A s.heap H [] := by rw [hHs]; exact va_S.rf
  have hl : lv_has ls 1 [(0, .ref tb)] := hl
  refine lv_aload_n hx hb dX1_tell_0 rfl (lv_at hl 0 rfl) ?_
  refine va_get (D := D) (ci := 5) (v := .ref wk) (C := RX1) (T := TX1) (N := 5) hx hb hts (by decide +kernel) hown hK hP 0 rfl rfl 3 (by decide) (hts (.fieldLink RX1 21 "Hashladder$Table" "walk" "LHashladder$Walk;") (by decide +kernel)) (fun _ h9 => h9) rfl dX1_tell_1 ?_
  have hFc := va_free (wc := [(wk, .inr (6, [.int wi, .int w1, .int w2, .int w3, .int w4]))]) hD hS hA [1] rfl
  refine zz_after (wr := [(tb, .inr (5, [.ref wo, .ref ti, .int (nI pn), .ref wk, .int vw]))]) (va_runV (As := []) (rest := []) ⟨hx, hb, hml, hown, hts⟩ ((k_X2_end l D wk wi w1 w2 w3 w4) H.size) (cwV 0 hts gX1_tell_X2_end rfl rfl rfl (by decide +kernel) ⟨Nat.le_of_ble_eq_true rfl, Nat.le_of_ble_eq_true rfl⟩) (zz_pV (zz_pre (av := [.ref wk]) (tyc := []) (wc := [(wk, .inr (6, [.int wi, .int w1, .int w2, .int w3, .int w4]))]) (X := fun _ _ => True) (Xc := (fun _ _ => True)) hP hD hK hS [1] [] rfl (by decide) rfl zz_St_tt (fun _ _ _ => trivial)) (va_recv hK hP (ci := 6) (q0 := 1) rfl rfl)) rfl rfl hl.1 rfl (lv_room (Nat.le_of_ble_eq_true rfl)) dX1_tell_4 ⟨by show 0 + 0 ≤ 0; omega, by show 0 + 0 ≤ 0; omega⟩) hP hD hK hS hFc [1] [0] rfl rfl (by decide) (by decide) (fun v w1 ty1 H1 locs hq9 hz9 hk9 hP1 hD1 hK1 hS1 => ?_)
  obtain ⟨rfl, rfl, rfl⟩ := hq9
  clear hS hP hD hK hFc
  have hP : va_P D vwCl [(tb, .inr (5, [.ref wo, .ref ti, .int (nI pn), .ref wk, .int vw])), (wk, .inr (6, [.int 0, .int w1, .int w2, .int w3, .int w4]))] H1 := hP1
  have hD : va_D A [(tb, .inr (5, [.ref wo, .ref ti, .int (nI pn), .ref wk, .int vw])), (wk, .inr (6, [.int 0, .int w1, .int w2, .int w3, .int w4]))] := hD1
  have hK : va_K D vwCl [] s := hK1
  have hS := hS1
  clear hP1 hD1 hK1 hS1
  obtain ⟨H, rfl⟩ : ∃ z, z = H1 := ⟨_, rfl⟩
  refine W.eq (g2 := F0 mt0 7 ls []) rfl ?_
  have hP9 := hP.sub (ws' := [(tb, .inr (5, [.ref wo, .ref ti, .int (nI pn), .ref wk, .int vw])), (wk, .inr (6, [.int 0, .int w1, .int w2, .int w3, .int w4]))]) [0, 1] rfl
  have hD9 := hD.sub (ws' := [(tb, .inr (5, [.ref wo, .ref ti, .int (nI pn), .ref wk, .int vw])), (wk, .inr (6, [.int 0, .int w1, .int w2, .int w3, .int w4]))]) [0, 1] (by decide) rfl
  have hK9 := hK.sub (tys' := []) [] rfl
  refine W.widen (k := 0) (n := 0) (by show 0 + 0 ≤ 0; omega) (by show 0 + 0 ≤ 0; omega) ?_
  exact W.vret hx hb hr (zz_end hP9 hD9 hK9 hS (⟨rfl, rfl, rfl⟩)) hS.2.2 dX1_tell_7
set_option maxHeartbeats 4000000 in
set_option maxRecDepth 100000 in
theorem k_X3_tableAt (l : Launch) (D : va_G) (hh : Nat) (tA : Nat) (kn : Int32) (sp : Value) (rx : Value) (pb : Value) (pg : Value) (cB : ClassId) (T0 : Nat → Option Nat) (tb : Nat) (hT : T0 0 = some tb) : zz_M l yX3_tableAt wsX3_tableAt ({ frames := 1, cells := 0, slots := 0, locals := 40 }) D [.ref hh, .int 0] [(cB, .object "Hashladder$Table")] [(hh, .inr (7, [.ref tA, .int kn, sp, rx, pb, pg])), (tA, .inl (cB, 4, .inr (.inr (.inr (.inr T0)))))] (fun _ _ => True) (fun H0 H1 v w t => v = some (.ref tb) ∧ w = [(hh, .inr (7, [.ref tA, .int kn, sp, rx, pb, pg])), (tA, .inl (cB, 4, .inr (.inr (.inr (.inr T0)))))] ∧ t = [(cB, .object "Hashladder$Table")]) := by
  refine zz_M.mk (cc := cX3_tableAt) (maxL := 2) (ret := (some (.object "Hashladder$Table"))) (by decide) rfl (Nat.le_of_ble_eq_true rfl) ?_
  intro p0 e0 s mt0 bl0 meth0 cd0 ls hC hname hP hK hD hX hl
  obtain ⟨hx, hb, hml, hr, hown, hts, hlocks⟩ := hC
  generalize hAe : va_A [(hh, .inr (7, [.ref tA, .int kn, sp, rx, pb, pg])), (tA, .inl (cB, 4, .inr (.inr (.inr (.inr T0)))))] s.heap.size = A at *
  have hA : ∀ q : Nat, s.heap.size ≤ q → A q := fun q h => by rw [← hAe]; exact Or.inr h
  obtain ⟨H, hHs⟩ : ∃ z : Heap, z = s.heap := ⟨_, rfl⟩
  rw [← hHs] at hP ⊢
  have hS : va_S A s.heap H [] := by rw [hHs]; exact va_S.rf
  have hl : lv_has ls 2 [(0, .ref hh), (1, .int 0)] := hl
  refine lv_iload_n hx hb dX3_tableAt_0 rfl (lv_at hl 1 rfl) ?_
  refine lv_if_lt (tgt := 13) hx hb dX3_tableAt_1 (by decide) (fun c_1 => absurd c_1 (by decide)) (fun c_1 => ?_)
  refine lv_iload_n hx hb dX3_tableAt_4 rfl (lv_at hl 1 rfl) ?_
  refine lv_aload_n hx hb dX3_tableAt_5 rfl (lv_at hl 0 rfl) ?_
  refine va_get (D := D) (ci := 7) (v := .ref tA) (C := RX3) (T := TX3) (N := 6) hx hb hts (by decide +kernel) hown hK hP 0 rfl rfl 0 (by decide) (hts (.fieldLink RX3 11 "Hashladder" "tables" "[LHashladder$Table;") (by decide +kernel)) (fun _ h9 => h9) rfl dX3_tableAt_6 ?_
  refine va_alen hx hb hK hP 1 0 rfl rfl (v := nI 4) rfl dX3_tableAt_9 ?_
  refine lv_icmp_lt (tgt := 23) hx hb dX3_tableAt_10 (by decide) (fun c_2 => ?_) (fun c_2 => absurd (show (0 : Int32) < nI 4 from by decide) c_2)
  refine lv_aload_n hx hb dX3_tableAt_23 rfl (lv_at hl 0 rfl) ?_
  refine va_get (D := D) (ci := 7) (v := .ref tA) (C := RX3) (T := TX3) (N := 6) hx hb hts (by decide +kernel) hown hK hP 0 rfl rfl 0 (by decide) (hts (.fieldLink RX3 11 "Hashladder" "tables" "[LHashladder$Table;") (by decide +kernel)) (fun _ h9 => h9) rfl dX3_tableAt_24 ?_
  refine lv_iload_n hx hb dX3_tableAt_27 rfl (lv_at hl 1 rfl) ?_
  refine zz_aldA hx hb hK hP 1 0 rfl rfl rfl ((show vp_in (0 : Int32) 4 from vp_in_nI (n := 0) (by decide) (by decide))) (v := .ref tb) (by rw [show ((0 : Int32)).toNatClampNeg = 0 from by decide, hT]; rfl) dX3_tableAt_28 ?_
  have hP9 := hP.sub (ws' := [(hh, .inr (7, [.ref tA, .int kn, sp, rx, pb, pg])), (tA, .inl (cB, 4, .inr (.inr (.inr (.inr T0)))))]) [0, 1] rfl
  have hD9 := hD.sub (ws' := [(hh, .inr (7, [.ref tA, .int kn, sp, rx, pb, pg])), (tA, .inl (cB, 4, .inr (.inr (.inr (.inr T0)))))]) [0, 1] (by decide) rfl
  have hK9 := hK.sub (tys' := [(cB, .object "Hashladder$Table")]) [0] rfl
  refine W.widen (k := 0) (n := 0) (by show 0 ≤ 0; omega) (by show 0 ≤ 0; omega) ?_
  exact W.aret (v := .ref tb) hx hb hr (Or.inl ⟨_, rfl⟩) (Or.inr ⟨_, rfl⟩) (zz_end hP9 hD9 hK9 hS (⟨rfl, rfl, rfl⟩)) hS.2.2 dX3_tableAt_29
set_option maxHeartbeats 4000000 in
set_option maxRecDepth 100000 in
theorem k_X3_needIn (l : Launch) (D : va_G) (x : Int32) (y : Int32) (z : Int32) (h1 : ¬ x < y) (h2 : x ≤ z) : zz_M l yX3_needIn wsX3_needIn ({ frames := 1, cells := 0, slots := 0, locals := 40 }) D [.int x, .int y, .int z] [] [] (fun _ _ => True) (fun H0 H1 v w t => v = none ∧ w = [] ∧ t = []) := by
  refine zz_M.mk (cc := cX3_needIn) (maxL := 3) (ret := none) (by decide) rfl (Nat.le_of_ble_eq_true rfl) ?_
  intro p0 e0 s mt0 bl0 meth0 cd0 ls hC hname hP hK hD hX hl
  obtain ⟨hx, hb, hml, hr, hown, hts, hlocks⟩ := hC
  generalize hAe : va_A [] s.heap.size = A at *
  have hA : ∀ q : Nat, s.heap.size ≤ q → A q := fun q h => by rw [← hAe]; exact Or.inr h
  obtain ⟨H, hHs⟩ : ∃ z : Heap, z = s.heap := ⟨_, rfl⟩
  rw [← hHs] at hP ⊢
  have hS : va_S A s.heap H [] := by rw [hHs]; exact va_S.rf
  have hl : lv_has ls 3 [(0, .int x), (1, .int y), (2, .int z)] := hl
  refine lv_iload_n hx hb dX3_needIn_0 rfl (lv_at hl 0 rfl) ?_
  refine lv_iload_n hx hb dX3_needIn_1 rfl (lv_at hl 1 rfl) ?_
  refine lv_icmp_lt (tgt := 10) hx hb dX3_needIn_2 (by decide) (fun c_1 => absurd c_1 (h1)) (fun c_1 => ?_)
  refine lv_iload_n hx hb dX3_needIn_5 rfl (lv_at hl 0 rfl) ?_
  refine lv_iload_n hx hb dX3_needIn_6 rfl (lv_at hl 2 rfl) ?_
  refine lv_icmp_le (tgt := 20) hx hb dX3_needIn_7 (by decide) (fun c_2 => ?_) (fun c_2 => absurd (h2) c_2)
  have hP9 := hP.sub (ws' := []) [] rfl
  have hD9 := hD.sub (ws' := []) [] (by decide) rfl
  have hK9 := hK.sub (tys' := []) [] rfl
  refine W.widen (k := 0) (n := 0) (by show 0 ≤ 0; omega) (by show 0 ≤ 0; omega) ?_
  exact W.vret hx hb hr (zz_end hP9 hD9 hK9 hS (⟨rfl, rfl, rfl⟩)) hS.2.2 dX3_needIn_20
set_option maxHeartbeats 4000000 in
set_option maxRecDepth 100000 in
theorem k_X3_needName (l : Launch) (D : va_G) (n : Nat) (hn : n < 64) : zz_M l yX3_needName wsX3_needName ({ frames := 2, cells := 0, slots := 0, locals := 100 }) D [.int (nI n)] [] [] (fun _ _ => True) (fun H0 H1 v w t => v = none ∧ w = [] ∧ t = []) := by
  refine zz_M.mk (cc := cX3_needName) (maxL := 1) (ret := none) (by decide) rfl (Nat.le_of_ble_eq_true rfl) ?_
  intro p0 e0 s mt0 bl0 meth0 cd0 ls hC hname hP hK hD hX hl
  obtain ⟨hx, hb, hml, hr, hown, hts, hlocks⟩ := hC
  generalize hAe : va_A [] s.heap.size = A at *
  have hA : ∀ q : Nat, s.heap.size ≤ q → A q := fun q h => by rw [← hAe]; exact Or.inr h
  obtain ⟨H, hHs⟩ : ∃ z : Heap, z = s.heap := ⟨_, rfl⟩
  rw [← hHs] at hP ⊢
  have hS : va_S A s.heap H [] := by rw [hHs]; exact va_S.rf
  have hl : lv_has ls 1 [(0, .int (nI n))] := hl
  refine lv_iload_n hx hb dX3_needName_0 rfl (lv_at hl 0 rfl) ?_
  refine lv_iconst (v := 0) hx hb dX3_needName_1 (by decide) ?_
  refine lv_bipush (v := 63) hx hb dX3_needName_2 (by decide) ?_
  have hFc := va_free (wc := []) hD hS hA [] rfl
  refine zz_after (wr := []) (va_runS (As := [.int (nI n), .int 0, .int 63]) (rest := []) ⟨hx, hb, hml, hown, hts⟩ ((k_X3_needIn l D (nI n) 0 63 (nI_pos (by omega)) (show nI n ≤ nI 63 from nI_le (by omega) (by decide))) H.size) (va_cwS 3 hts gX3_needName_X3_needIn rfl rfl rfl (by decide +kernel) ⟨Nat.le_of_ble_eq_true rfl, Nat.le_of_ble_eq_true rfl⟩) (zz_pre (av := [.int (nI n), .int 0, .int 63]) (tyc := []) (wc := []) (X := fun _ _ => True) (Xc := (fun _ _ => True)) hP hD hK hS [] [] rfl (by decide) rfl zz_St_tt (fun _ _ _ => trivial)) rfl rfl hl.1 rfl (lv_room (Nat.le_of_ble_eq_true rfl)) dX3_needName_4 ⟨by show 0 + 0 ≤ 0; omega, by show 0 + 0 ≤ 0; omega⟩) hP hD hK hS hFc [] [] rfl rfl (by decide) (by decide) (fun v w1 ty1 H1 locs hq9 hz9 hk9 hP1 hD1 hK1 hS1 => ?_)
  obtain ⟨rfl, rfl, rfl⟩ := hq9
  clear hS hP hD hK hFc
  have hP : va_P D vwCl [] H1 := hP1
  have hD : va_D A [] := hD1
  have hK : va_K D vwCl [] s := hK1
  have hS := hS1
  clear hP1 hD1 hK1 hS1
  obtain ⟨H, rfl⟩ : ∃ z, z = H1 := ⟨_, rfl⟩
  refine W.eq (g2 := F0 mt0 7 ls []) rfl ?_
  have hP9 := hP.sub (ws' := []) [] rfl
  have hD9 := hD.sub (ws' := []) [] (by decide) rfl
  have hK9 := hK.sub (tys' := []) [] rfl
  refine W.widen (k := 0) (n := 0) (by show 0 + 0 ≤ 0; omega) (by show 0 + 0 ≤ 0; omega) ?_
  exact W.vret hx hb hr (zz_end hP9 hD9 hK9 hS (⟨rfl, rfl, rfl⟩)) hS.2.2 dX3_needName_7
set_option maxHeartbeats 4000000 in
set_option maxRecDepth 100000 in
theorem k_X3_needWorth (l : Launch) (D : va_G)  : zz_M l yX3_needWorth wsX3_needWorth ({ frames := 2, cells := 0, slots := 0, locals := 100 }) D [.int 99] [] [] (fun _ _ => True) (fun H0 H1 v w t => v = none ∧ w = [] ∧ t = []) := by
  refine zz_M.mk (cc := cX3_needWorth) (maxL := 1) (ret := none) (by decide) rfl (Nat.le_of_ble_eq_true rfl) ?_
  intro p0 e0 s mt0 bl0 meth0 cd0 ls hC hname hP hK hD hX hl
  obtain ⟨hx, hb, hml, hr, hown, hts, hlocks⟩ := hC
  generalize hAe : va_A [] s.heap.size = A at *
  have hA : ∀ q : Nat, s.heap.size ≤ q → A q := fun q h => by rw [← hAe]; exact Or.inr h
  obtain ⟨H, hHs⟩ : ∃ z : Heap, z = s.heap := ⟨_, rfl⟩
  rw [← hHs] at hP ⊢
  have hS : va_S A s.heap H [] := by rw [hHs]; exact va_S.rf
  have hl : lv_has ls 1 [(0, .int 99)] := hl
  refine lv_iload_n hx hb dX3_needWorth_0 rfl (lv_at hl 0 rfl) ?_
  refine lv_iconst (v := 0) hx hb dX3_needWorth_1 (by decide) ?_
  refine lv_bipush (v := 99) hx hb dX3_needWorth_2 (by decide) ?_
  have hFc := va_free (wc := []) hD hS hA [] rfl
  refine zz_after (wr := []) (va_runS (As := [.int 99, .int 0, .int 99]) (rest := []) ⟨hx, hb, hml, hown, hts⟩ ((k_X3_needIn l D 99 0 99 (by decide) (by decide)) H.size) (va_cwS 3 hts gX3_needWorth_X3_needIn rfl rfl rfl (by decide +kernel) ⟨Nat.le_of_ble_eq_true rfl, Nat.le_of_ble_eq_true rfl⟩) (zz_pre (av := [.int 99, .int 0, .int 99]) (tyc := []) (wc := []) (X := fun _ _ => True) (Xc := (fun _ _ => True)) hP hD hK hS [] [] rfl (by decide) rfl zz_St_tt (fun _ _ _ => trivial)) rfl rfl hl.1 rfl (lv_room (Nat.le_of_ble_eq_true rfl)) dX3_needWorth_4 ⟨by show 0 + 0 ≤ 0; omega, by show 0 + 0 ≤ 0; omega⟩) hP hD hK hS hFc [] [] rfl rfl (by decide) (by decide) (fun v w1 ty1 H1 locs hq9 hz9 hk9 hP1 hD1 hK1 hS1 => ?_)
  obtain ⟨rfl, rfl, rfl⟩ := hq9
  clear hS hP hD hK hFc
  have hP : va_P D vwCl [] H1 := hP1
  have hD : va_D A [] := hD1
  have hK : va_K D vwCl [] s := hK1
  have hS := hS1
  clear hP1 hD1 hK1 hS1
  obtain ⟨H, rfl⟩ : ∃ z, z = H1 := ⟨_, rfl⟩
  refine W.eq (g2 := F0 mt0 7 ls []) rfl ?_
  have hP9 := hP.sub (ws' := []) [] rfl
  have hD9 := hD.sub (ws' := []) [] (by decide) rfl
  have hK9 := hK.sub (tys' := []) [] rfl
  refine W.widen (k := 0) (n := 0) (by show 0 + 0 ≤ 0; omega) (by show 0 + 0 ≤ 0; omega) ?_
  exact W.vret hx hb hr (zz_end hP9 hD9 hK9 hS (⟨rfl, rfl, rfl⟩)) hS.2.2 dX3_needWorth_7
set_option maxHeartbeats 4000000 in
set_option maxRecDepth 100000 in
theorem k_X3_put (l : Launch) (D : va_G) (hh : Nat) (tA : Nat) (kn : Int32) (sp : Value) (rx : Value) (pb : Value) (pg : Value) (cB : ClassId) (T0 : Nat → Option Nat) (tb : Nat) (wo : Nat) (ti : Nat) (pn : Nat) (wk : Nat) (vw : Int32) (cW : ClassId) (g : Nat → Int32) (cT : ClassId) (tm : Nat → Int32) (wi : Int32) (w1 : Int32) (w2 : Int32) (w3 : Int32) (w4 : Int32) (n : Nat) (hT : T0 0 = some tb) (hn : n < 64) (hg : g n = -1) (hp : pn < 1000) : zz_M l yX3_put wsX3_put ({ frames := 4, cells := 0, slots := 0, locals := 240 }) D [.ref hh, .int 0, .int (nI n), .int 99] [(cB, .object "Hashladder$Table"), (cW, .int), (cT, .int)] [(hh, .inr (7, [.ref tA, .int kn, sp, rx, pb, pg])), (tA, .inl (cB, 4, .inr (.inr (.inr (.inr T0))))), (tb, .inr (5, [.ref wo, .ref ti, .int (nI pn), .ref wk, .int vw])), (wo, .inl (cW, 64, .inl g)), (ti, .inl (cT, 100, .inl tm)), (wk, .inr (6, [.int wi, .int w1, .int w2, .int w3, .int w4]))] (fun _ _ => True) (fun H0 H1 v w t => ∃ tm2 : Nat → Int32, v = some (.int (-1)) ∧ w = [(hh, .inr (7, [.ref tA, .int kn, sp, rx, pb, pg])), (tA, .inl (cB, 4, .inr (.inr (.inr (.inr T0))))), (tb, .inr (5, [.ref wo, .ref ti, .int (nI (pn + 1)), .ref wk, .int vw])), (wo, .inl (cW, 64, .inl (upd g n 99))), (ti, .inl (cT, 100, .inl tm2)), (wk, .inr (6, [.int 0, .int w1, .int w2, .int w3, .int w4]))] ∧ t = [(cB, .object "Hashladder$Table"), (cW, .int), (cT, .int)]) := by
  refine zz_M.mk (cc := cX3_put) (maxL := 5) (ret := (some .int)) (by decide) rfl (Nat.le_of_ble_eq_true rfl) ?_
  intro p0 e0 s mt0 bl0 meth0 cd0 ls hC hname hP hK hD hX hl
  obtain ⟨hx, hb, hml, hr, hown, hts, hlocks⟩ := hC
  generalize hAe : va_A [(hh, .inr (7, [.ref tA, .int kn, sp, rx, pb, pg])), (tA, .inl (cB, 4, .inr (.inr (.inr (.inr T0))))), (tb, .inr (5, [.ref wo, .ref ti, .int (nI pn), .ref wk, .int vw])), (wo, .inl (cW, 64, .inl g)), (ti, .inl (cT, 100, .inl tm)), (wk, .inr (6, [.int wi, .int w1, .int w2, .int w3, .int w4]))] s.heap.size = A at *
  have hA : ∀ q : Nat, s.heap.size ≤ q → A q := fun q h => by rw [← hAe]; exact Or.inr h
  obtain ⟨H, hHs⟩ : ∃ z : Heap, z = s.heap := ⟨_, rfl⟩
  rw [← hHs] at hP ⊢
  have hS : va_S A s.heap H [] := by rw [hHs]; exact va_S.rf
  have hl : lv_has ls 5 [(0, .ref hh), (1, .int 0), (2, .int (nI n)), (3, .int 99)] := hl
  refine lv_aload_n hx hb dX3_put_0 rfl (lv_at hl 0 rfl) ?_
  refine lv_iload_n hx hb dX3_put_1 rfl (lv_at hl 1 rfl) ?_
  have hFc := va_free (wc := [(hh, .inr (7, [.ref tA, .int kn, sp, rx, pb, pg])), (tA, .inl (cB, 4, .inr (.inr (.inr (.inr T0)))))]) hD hS hA [0, 1] rfl
  refine zz_after (wr := [(tb, .inr (5, [.ref wo, .ref ti, .int (nI pn), .ref wk, .int vw])), (wo, .inl (cW, 64, .inl g)), (ti, .inl (cT, 100, .inl tm)), (wk, .inr (6, [.int wi, .int w1, .int w2, .int w3, .int w4]))]) (va_runV (As := [.int 0]) (rest := []) ⟨hx, hb, hml, hown, hts⟩ ((k_X3_tableAt l D hh tA kn sp rx pb pg cB T0 tb (hT)) H.size) (cwV 1 hts gX3_put_X3_tableAt rfl rfl rfl (by decide +kernel) ⟨Nat.le_of_ble_eq_true rfl, Nat.le_of_ble_eq_true rfl⟩) (zz_pV (zz_pre (av := [.ref hh, .int 0]) (tyc := [(cB, .object "Hashladder$Table")]) (wc := [(hh, .inr (7, [.ref tA, .int kn, sp, rx, pb, pg])), (tA, .inl (cB, 4, .inr (.inr (.inr (.inr T0)))))]) (X := fun _ _ => True) (Xc := (fun _ _ => True)) hP hD hK hS [0, 1] [0] rfl (by decide) rfl zz_St_tt (fun _ _ _ => trivial)) (va_recv hK hP (ci := 7) (q0 := 0) rfl rfl)) rfl rfl hl.1 rfl (lv_room (Nat.le_of_ble_eq_true rfl)) dX3_put_2 ⟨by show 0 + 0 ≤ 0; omega, by show 0 + 0 ≤ 0; omega⟩) hP hD hK hS hFc [0, 1] [2, 3, 4, 5] rfl rfl (by decide) (by decide) (fun v w1 ty1 H1 locs hq9 hz9 hk9 hP1 hD1 hK1 hS1 => ?_)
  obtain ⟨rfl, rfl, rfl⟩ := hq9
  clear hS hP hD hK hFc
  have hP : va_P D vwCl [(tb, .inr (5, [.ref wo, .ref ti, .int (nI pn), .ref wk, .int vw])), (wo, .inl (cW, 64, .inl g)), (ti, .inl (cT, 100, .inl tm)), (wk, .inr (6, [.int wi, .int w1, .int w2, .int w3, .int w4])), (hh, .inr (7, [.ref tA, .int kn, sp, rx, pb, pg])), (tA, .inl (cB, 4, .inr (.inr (.inr (.inr T0)))))] H1 := hP1
  have hD : va_D A [(tb, .inr (5, [.ref wo, .ref ti, .int (nI pn), .ref wk, .int vw])), (wo, .inl (cW, 64, .inl g)), (ti, .inl (cT, 100, .inl tm)), (wk, .inr (6, [.int wi, .int w1, .int w2, .int w3, .int w4])), (hh, .inr (7, [.ref tA, .int kn, sp, rx, pb, pg])), (tA, .inl (cB, 4, .inr (.inr (.inr (.inr T0)))))] := hD1
  have hK : va_K D vwCl [(cB, .object "Hashladder$Table"), (cW, .int), (cT, .int), (cB, .object "Hashladder$Table")] s := hK1
  have hS := hS1
  clear hP1 hD1 hK1 hS1
  obtain ⟨H, rfl⟩ : ∃ z, z = H1 := ⟨_, rfl⟩
  refine W.eq (g2 := F0 mt0 5 ls [.ref tb]) rfl ?_
  refine lv_astore (lv' := [(4, .ref tb), (0, .ref hh), (1, .int 0), (2, .int (nI n)), (3, .int 99)]) hx hb dX3_put_5 hl (by decide) rfl (fun ls hl => ?_)
  refine lv_iload_n hx hb dX3_put_7 rfl (lv_at hl 3 rfl) ?_
  have hFc := va_free (wc := []) hD hS hA [] rfl
  refine zz_after (wr := [(tb, .inr (5, [.ref wo, .ref ti, .int (nI pn), .ref wk, .int vw])), (wo, .inl (cW, 64, .inl g)), (ti, .inl (cT, 100, .inl tm)), (wk, .inr (6, [.int wi, .int w1, .int w2, .int w3, .int w4])), (hh, .inr (7, [.ref tA, .int kn, sp, rx, pb, pg])), (tA, .inl (cB, 4, .inr (.inr (.inr (.inr T0)))))]) (va_runS (As := [.int (nI n)]) (rest := []) ⟨hx, hb, hml, hown, hts⟩ ((k_X3_needName l D n (hn)) H.size) (va_cwS 1 hts gX3_put_X3_needName rfl rfl rfl (by decide +kernel) ⟨Nat.le_of_ble_eq_true rfl, Nat.le_of_ble_eq_true rfl⟩) (zz_pre (av := [.int (nI n)]) (tyc := []) (wc := []) (X := fun _ _ => True) (Xc := (fun _ _ => True)) hP hD hK hS [] [] rfl (by decide) rfl zz_St_tt (fun _ _ _ => trivial)) rfl rfl hl.1 rfl (lv_room (Nat.le_of_ble_eq_true rfl)) dX3_put_8 ⟨by show 0 + 0 + 0 ≤ 0; omega, by show 0 + 0 + 0 ≤ 0; omega⟩) hP hD hK hS hFc [] [0, 1, 2, 3, 4, 5] rfl rfl (by decide) (by decide) (fun v w1 ty1 H1 locs hq9 hz9 hk9 hP1 hD1 hK1 hS1 => ?_)
  obtain ⟨rfl, rfl, rfl⟩ := hq9
  clear hS hP hD hK hFc
  have hP : va_P D vwCl [(tb, .inr (5, [.ref wo, .ref ti, .int (nI pn), .ref wk, .int vw])), (wo, .inl (cW, 64, .inl g)), (ti, .inl (cT, 100, .inl tm)), (wk, .inr (6, [.int wi, .int w1, .int w2, .int w3, .int w4])), (hh, .inr (7, [.ref tA, .int kn, sp, rx, pb, pg])), (tA, .inl (cB, 4, .inr (.inr (.inr (.inr T0)))))] H1 := hP1
  have hD : va_D A [(tb, .inr (5, [.ref wo, .ref ti, .int (nI pn), .ref wk, .int vw])), (wo, .inl (cW, 64, .inl g)), (ti, .inl (cT, 100, .inl tm)), (wk, .inr (6, [.int wi, .int w1, .int w2, .int w3, .int w4])), (hh, .inr (7, [.ref tA, .int kn, sp, rx, pb, pg])), (tA, .inl (cB, 4, .inr (.inr (.inr (.inr T0)))))] := hD1
  have hK : va_K D vwCl [(cB, .object "Hashladder$Table"), (cW, .int), (cT, .int), (cB, .object "Hashladder$Table")] s := hK1
  have hS := hS1
  clear hP1 hD1 hK1 hS1
  obtain ⟨H, rfl⟩ : ∃ z, z = H1 := ⟨_, rfl⟩
  refine W.eq (g2 := F0 mt0 11 ls []) rfl ?_
  refine lv_iload_n hx hb dX3_put_11 rfl (lv_at hl 4 rfl) ?_
  have hFc := va_free (wc := []) hD hS hA [] rfl
  refine zz_after (wr := [(tb, .inr (5, [.ref wo, .ref ti, .int (nI pn), .ref wk, .int vw])), (wo, .inl (cW, 64, .inl g)), (ti, .inl (cT, 100, .inl tm)), (wk, .inr (6, [.int wi, .int w1, .int w2, .int w3, .int w4])), (hh, .inr (7, [.ref tA, .int kn, sp, rx, pb, pg])), (tA, .inl (cB, 4, .inr (.inr (.inr (.inr T0)))))]) (va_runS (As := [.int 99]) (rest := []) ⟨hx, hb, hml, hown, hts⟩ ((k_X3_needWorth l D ) H.size) (va_cwS 1 hts gX3_put_X3_needWorth rfl rfl rfl (by decide +kernel) ⟨Nat.le_of_ble_eq_true rfl, Nat.le_of_ble_eq_true rfl⟩) (zz_pre (av := [.int 99]) (tyc := []) (wc := []) (X := fun _ _ => True) (Xc := (fun _ _ => True)) hP hD hK hS [] [] rfl (by decide) rfl zz_St_tt (fun _ _ _ => trivial)) rfl rfl hl.1 rfl (lv_room (Nat.le_of_ble_eq_true rfl)) dX3_put_12 ⟨by show 0 + 0 + 0 + 0 ≤ 0; omega, by show 0 + 0 + 0 + 0 ≤ 0; omega⟩) hP hD hK hS hFc [] [0, 1, 2, 3, 4, 5] rfl rfl (by decide) (by decide) (fun v w1 ty1 H1 locs hq9 hz9 hk9 hP1 hD1 hK1 hS1 => ?_)
  obtain ⟨rfl, rfl, rfl⟩ := hq9
  clear hS hP hD hK hFc
  have hP : va_P D vwCl [(tb, .inr (5, [.ref wo, .ref ti, .int (nI pn), .ref wk, .int vw])), (wo, .inl (cW, 64, .inl g)), (ti, .inl (cT, 100, .inl tm)), (wk, .inr (6, [.int wi, .int w1, .int w2, .int w3, .int w4])), (hh, .inr (7, [.ref tA, .int kn, sp, rx, pb, pg])), (tA, .inl (cB, 4, .inr (.inr (.inr (.inr T0)))))] H1 := hP1
  have hD : va_D A [(tb, .inr (5, [.ref wo, .ref ti, .int (nI pn), .ref wk, .int vw])), (wo, .inl (cW, 64, .inl g)), (ti, .inl (cT, 100, .inl tm)), (wk, .inr (6, [.int wi, .int w1, .int w2, .int w3, .int w4])), (hh, .inr (7, [.ref tA, .int kn, sp, rx, pb, pg])), (tA, .inl (cB, 4, .inr (.inr (.inr (.inr T0)))))] := hD1
  have hK : va_K D vwCl [(cB, .object "Hashladder$Table"), (cW, .int), (cT, .int), (cB, .object "Hashladder$Table")] s := hK1
  have hS := hS1
  clear hP1 hD1 hK1 hS1
  obtain ⟨H, rfl⟩ : ∃ z, z = H1 := ⟨_, rfl⟩
  refine W.eq (g2 := F0 mt0 15 ls []) rfl ?_
  refine lv_aload hx hb dX3_put_15 (lv_at hl 0 rfl) ?_
  have hFc := va_free (wc := [(tb, .inr (5, [.ref wo, .ref ti, .int (nI pn), .ref wk, .int vw])), (wk, .inr (6, [.int wi, .int w1, .int w2, .int w3, .int w4]))]) hD hS hA [0, 3] rfl
  refine zz_after (wr := [(wo, .inl (cW, 64, .inl g)), (ti, .inl (cT, 100, .inl tm)), (hh, .inr (7, [.ref tA, .int kn, sp, rx, pb, pg])), (tA, .inl (cB, 4, .inr (.inr (.inr (.inr T0)))))]) (va_runV (As := []) (rest := []) ⟨hx, hb, hml, hown, hts⟩ ((k_X1_tell l D tb wo ti pn wk vw cW g wi w1 w2 w3 w4) H.size) (cwV 0 hts gX3_put_X1_tell rfl rfl rfl (by decide +kernel) ⟨Nat.le_of_ble_eq_true rfl, Nat.le_of_ble_eq_true rfl⟩) (zz_pV (zz_pre (av := [.ref tb]) (tyc := []) (wc := [(tb, .inr (5, [.ref wo, .ref ti, .int (nI pn), .ref wk, .int vw])), (wk, .inr (6, [.int wi, .int w1, .int w2, .int w3, .int w4]))]) (X := fun _ _ => True) (Xc := (fun _ _ => True)) hP hD hK hS [0, 3] [] rfl (by decide) rfl zz_St_tt (fun _ _ _ => trivial)) (va_recv hK hP (ci := 5) (q0 := 0) rfl rfl)) rfl rfl hl.1 rfl (lv_room (Nat.le_of_ble_eq_true rfl)) dX3_put_17 ⟨by show 0 + 0 + 0 + 0 + 0 ≤ 0; omega, by show 0 + 0 + 0 + 0 + 0 ≤ 0; omega⟩) hP hD hK hS hFc [0, 3] [1, 2, 4, 5] rfl rfl (by decide) (by decide) (fun v w1 ty1 H1 locs hq9 hz9 hk9 hP1 hD1 hK1 hS1 => ?_)
  obtain ⟨rfl, rfl, rfl⟩ := hq9
  clear hS hP hD hK hFc
  have hP : va_P D vwCl [(wo, .inl (cW, 64, .inl g)), (ti, .inl (cT, 100, .inl tm)), (hh, .inr (7, [.ref tA, .int kn, sp, rx, pb, pg])), (tA, .inl (cB, 4, .inr (.inr (.inr (.inr T0))))), (tb, .inr (5, [.ref wo, .ref ti, .int (nI pn), .ref wk, .int vw])), (wk, .inr (6, [.int 0, .int w1, .int w2, .int w3, .int w4]))] H1 := hP1
  have hD : va_D A [(wo, .inl (cW, 64, .inl g)), (ti, .inl (cT, 100, .inl tm)), (hh, .inr (7, [.ref tA, .int kn, sp, rx, pb, pg])), (tA, .inl (cB, 4, .inr (.inr (.inr (.inr T0))))), (tb, .inr (5, [.ref wo, .ref ti, .int (nI pn), .ref wk, .int vw])), (wk, .inr (6, [.int 0, .int w1, .int w2, .int w3, .int w4]))] := hD1
  have hK : va_K D vwCl [(cB, .object "Hashladder$Table"), (cW, .int), (cT, .int), (cB, .object "Hashladder$Table")] s := hK1
  have hS := hS1
  clear hP1 hD1 hK1 hS1
  obtain ⟨H, rfl⟩ : ∃ z, z = H1 := ⟨_, rfl⟩
  refine W.eq (g2 := F0 mt0 20 ls []) rfl ?_
  refine lv_aload hx hb dX3_put_20 (lv_at hl 0 rfl) ?_
  refine lv_iload_n hx hb dX3_put_22 rfl (lv_at hl 3 rfl) ?_
  refine lv_iload_n hx hb dX3_put_23 rfl (lv_at hl 4 rfl) ?_
  have hFc := va_free (wc := [(tb, .inr (5, [.ref wo, .ref ti, .int (nI pn), .ref wk, .int vw])), (wo, .inl (cW, 64, .inl g)), (ti, .inl (cT, 100, .inl tm))]) hD hS hA [4, 0, 1] rfl
  refine zz_after (wr := [(hh, .inr (7, [.ref tA, .int kn, sp, rx, pb, pg])), (tA, .inl (cB, 4, .inr (.inr (.inr (.inr T0))))), (wk, .inr (6, [.int 0, .int w1, .int w2, .int w3, .int w4]))]) (va_runV (As := [.int (nI n), .int 99]) (rest := []) ⟨hx, hb, hml, hown, hts⟩ ((k_X1_lay l D tb wo ti pn wk vw cW g cT tm n (hn) (hg) (hp)) H.size) (cwV 2 hts gX3_put_X1_lay rfl rfl rfl (by decide +kernel) ⟨Nat.le_of_ble_eq_true rfl, Nat.le_of_ble_eq_true rfl⟩) (zz_pV (zz_pre (av := [.ref tb, .int (nI n), .int 99]) (tyc := [(cW, .int), (cT, .int)]) (wc := [(tb, .inr (5, [.ref wo, .ref ti, .int (nI pn), .ref wk, .int vw])), (wo, .inl (cW, 64, .inl g)), (ti, .inl (cT, 100, .inl tm))]) (X := fun _ _ => True) (Xc := (fun _ _ => True)) hP hD hK hS [4, 0, 1] [1, 2] rfl (by decide) rfl zz_St_tt (fun _ _ _ => trivial)) (va_recv hK hP (ci := 5) (q0 := 4) rfl rfl)) rfl rfl hl.1 rfl (lv_room (Nat.le_of_ble_eq_true rfl)) dX3_put_24 ⟨by show 0 + 0 + 0 + 0 + 0 + 0 ≤ 0; omega, by show 0 + 0 + 0 + 0 + 0 + 0 ≤ 0; omega⟩) hP hD hK hS hFc [4, 0, 1] [2, 3, 5] rfl rfl (by decide) (by decide) (fun v w1 ty1 H1 locs hq9 hz9 hk9 hP1 hD1 hK1 hS1 => ?_)
  obtain ⟨tm2_1, rfl, rfl, rfl⟩ := hq9
  clear hS hP hD hK hFc
  have hP : va_P D vwCl [(hh, .inr (7, [.ref tA, .int kn, sp, rx, pb, pg])), (tA, .inl (cB, 4, .inr (.inr (.inr (.inr T0))))), (wk, .inr (6, [.int 0, .int w1, .int w2, .int w3, .int w4])), (tb, .inr (5, [.ref wo, .ref ti, .int (nI (pn + 1)), .ref wk, .int vw])), (wo, .inl (cW, 64, .inl (upd g n 99))), (ti, .inl (cT, 100, .inl tm2_1))] H1 := hP1
  have hD : va_D A [(hh, .inr (7, [.ref tA, .int kn, sp, rx, pb, pg])), (tA, .inl (cB, 4, .inr (.inr (.inr (.inr T0))))), (wk, .inr (6, [.int 0, .int w1, .int w2, .int w3, .int w4])), (tb, .inr (5, [.ref wo, .ref ti, .int (nI (pn + 1)), .ref wk, .int vw])), (wo, .inl (cW, 64, .inl (upd g n 99))), (ti, .inl (cT, 100, .inl tm2_1))] := hD1
  have hK : va_K D vwCl [(cB, .object "Hashladder$Table"), (cW, .int), (cT, .int), (cB, .object "Hashladder$Table"), (cW, .int), (cT, .int)] s := hK1
  have hS := hS1
  clear hP1 hD1 hK1 hS1
  obtain ⟨H, rfl⟩ : ∃ z, z = H1 := ⟨_, rfl⟩
  refine W.eq (g2 := F0 mt0 27 ls [.int (-1)]) rfl ?_
  have hP9 := hP.sub (ws' := [(hh, .inr (7, [.ref tA, .int kn, sp, rx, pb, pg])), (tA, .inl (cB, 4, .inr (.inr (.inr (.inr T0))))), (tb, .inr (5, [.ref wo, .ref ti, .int (nI (pn + 1)), .ref wk, .int vw])), (wo, .inl (cW, 64, .inl (upd g n 99))), (ti, .inl (cT, 100, .inl tm2_1)), (wk, .inr (6, [.int 0, .int w1, .int w2, .int w3, .int w4]))]) [0, 1, 3, 4, 5, 2] rfl
  have hD9 := hD.sub (ws' := [(hh, .inr (7, [.ref tA, .int kn, sp, rx, pb, pg])), (tA, .inl (cB, 4, .inr (.inr (.inr (.inr T0))))), (tb, .inr (5, [.ref wo, .ref ti, .int (nI (pn + 1)), .ref wk, .int vw])), (wo, .inl (cW, 64, .inl (upd g n 99))), (ti, .inl (cT, 100, .inl tm2_1)), (wk, .inr (6, [.int 0, .int w1, .int w2, .int w3, .int w4]))]) [0, 1, 3, 4, 5, 2] (by decide) rfl
  have hK9 := hK.sub (tys' := [(cB, .object "Hashladder$Table"), (cW, .int), (cT, .int)]) [0, 1, 2] rfl
  refine W.widen (k := 0) (n := 0) (by show 0 + 0 + 0 + 0 + 0 + 0 ≤ 0; omega) (by show 0 + 0 + 0 + 0 + 0 + 0 ≤ 0; omega) ?_
  exact W.iret (v := -1) hx hb hr (zz_end hP9 hD9 hK9 hS (⟨_, rfl, rfl, rfl⟩)) hS.2.2 dX3_put_27
set_option maxHeartbeats 4000000 in
set_option maxRecDepth 100000 in
theorem rw_A {p0 : Program} {l : Launch} {e0 : Env} {s : State} {mt0 : MethodId} {args : Array Value} {bl0 : List Frame} {meth0 : Method} {cd0 : Code} {Q : State → Prop} {A : Nat → Prop} {H : Heap} {locs : List Loc} {ls : Array Slot} (D : va_G) (tb : Nat) (wo : Nat) (ti : Nat) (pn : Nat) (wk : Nat) (vw : Int32) (cW : ClassId) (g : Nat → Int32) (k : Nat) (hC : zz_C p0 s mt0 meth0 cd0 args RX1 cX1_reckonWidth 4 (some .int) wsX1_reckonWidth)  (hA : ∀ q, s.heap.size ≤ q → A q) (hK : va_K D vwCl [(cW, .int)] s) (hP : va_P D vwCl [(tb, .inr (5, [.ref wo, .ref ti, .int (nI pn), .ref wk, .int vw])), (wo, .inl (cW, 64, .inl g))] H) (hD : va_D A [(tb, .inr (5, [.ref wo, .ref ti, .int (nI pn), .ref wk, .int vw])), (wo, .inl (cW, 64, .inl g))]) (hS : va_S A s.heap H locs) (hl : lv_has ls 4 [(2, .int (nI k)), (1, .int (nI 2)), (0, .ref tb)]) (hg1 : ∀ n, n < 10 → g n = -1) (hg2 : ∀ n, 10 ≤ n → n < 64 → g n = 99) (hk : k < 10) (kk : ∀ (H' : Heap) (locs' : List Loc) (ls' : Array Slot), va_K D vwCl [(cW, .int)] s → va_P D vwCl [(tb, .inr (5, [.ref wo, .ref ti, .int (nI pn), .ref wk, .int vw])), (wo, .inl (cW, 64, .inl g))] H' → va_D A [(tb, .inr (5, [.ref wo, .ref ti, .int (nI pn), .ref wk, .int vw])), (wo, .inl (cW, 64, .inl g))] → va_S A s.heap H' locs' → lv_has ls' 4 [(2, .int (nI (k + 1))), (1, .int (nI 2)), (0, .ref tb)] → W p0 l e0 ({ frames := 2, cells := 0, slots := 0, locals := 140 } : Room) s mt0 args bl0 meth0 cd0 H' locs' (0) (0) Q (F0 mt0 4 ls' [])) : W p0 l e0 ({ frames := 2, cells := 0, slots := 0, locals := 140 } : Room) s mt0 args bl0 meth0 cd0 H locs (0) (0) Q (F0 mt0 4 ls []) := by
  obtain ⟨hx, hb, hml, hr, hown, hts, hlocks⟩ := hC
  refine lv_iload_n hx hb dX1_reckonWidth_4 rfl (lv_at hl 0 rfl) ?_
  refine lv_bipush (v := 64) hx hb dX1_reckonWidth_5 (by decide) ?_
  refine lv_icmp_ge (tgt := 41) hx hb dX1_reckonWidth_7 (by decide) (fun c_1 => absurd c_1 (show ¬ nI 64 ≤ nI k from nI_ge (by omega) (by decide))) (fun c_1 => ?_)
  refine lv_aload_n hx hb dX1_reckonWidth_10 rfl (lv_at hl 2 rfl) ?_
  refine lv_iload_n hx hb dX1_reckonWidth_11 rfl (lv_at hl 0 rfl) ?_
  have hFc := va_free (wc := [(tb, .inr (5, [.ref wo, .ref ti, .int (nI pn), .ref wk, .int vw])), (wo, .inl (cW, 64, .inl g))]) hD hS hA [0, 1] rfl
  refine zz_after (wr := []) (va_runV (As := [.int (nI k)]) (rest := []) ⟨hx, hb, hml, hown, hts⟩ ((k_X1_worthAt l D tb wo ti pn wk vw cW g k (by omega)) H.size) (cwV 1 hts gX1_reckonWidth_X1_worthAt rfl rfl rfl (by decide +kernel) ⟨Nat.le_of_ble_eq_true rfl, Nat.le_of_ble_eq_true rfl⟩) (zz_pV (zz_pre (av := [.ref tb, .int (nI k)]) (tyc := [(cW, .int)]) (wc := [(tb, .inr (5, [.ref wo, .ref ti, .int (nI pn), .ref wk, .int vw])), (wo, .inl (cW, 64, .inl g))]) (X := fun _ _ => True) (Xc := (fun _ _ => True)) hP hD hK hS [0, 1] [0] rfl (by decide) rfl zz_St_tt (fun _ _ _ => trivial)) (va_recv hK hP (ci := 5) (q0 := 0) rfl rfl)) rfl rfl hl.1 rfl (lv_room (Nat.le_of_ble_eq_true rfl)) dX1_reckonWidth_12 ⟨by show 0 + 0 ≤ 0; omega, by show 0 + 0 ≤ 0; omega⟩) hP hD hK hS hFc [0, 1] [] rfl rfl (by decide) (by decide) (fun v w1 ty1 H1 locs hq9 hz9 hk9 hP1 hD1 hK1 hS1 => ?_)
  obtain ⟨rfl, rfl, rfl⟩ := hq9
  clear hS hP hD hK hFc
  have hP : va_P D vwCl [(tb, .inr (5, [.ref wo, .ref ti, .int (nI pn), .ref wk, .int vw])), (wo, .inl (cW, 64, .inl g))] H1 := hP1
  have hD : va_D A [(tb, .inr (5, [.ref wo, .ref ti, .int (nI pn), .ref wk, .int vw])), (wo, .inl (cW, 64, .inl g))] := hD1
  have hK : va_K D vwCl [(cW, .int), (cW, .int)] s := hK1
  have hS := hS1
  clear hP1 hD1 hK1 hS1
  obtain ⟨H, rfl⟩ : ∃ z, z = H1 := ⟨_, rfl⟩
  refine W.eq (g2 := F0 mt0 15 ls [.int (g k)]) rfl ?_
  rw [hg1 k hk]
  refine lv_istore_n (lv' := [(3, .int (-1)), (2, .int (nI k)), (1, .int (nI 2)), (0, .ref tb)]) hx hb dX1_reckonWidth_15 rfl hl (by decide) rfl (fun ls hl => ?_)
  refine lv_iload_n hx hb dX1_reckonWidth_16 rfl (lv_at hl 0 rfl) ?_
  refine lv_iconst (v := (-1)) hx hb dX1_reckonWidth_17 (by decide) ?_
  refine lv_icmp_eq (tgt := 35) hx hb dX1_reckonWidth_18 (by decide) (fun c_2 => ?_) (fun c_2 => absurd (rfl) c_2)
  refine lv_iinc (v := (nI (k + 1))) (lv' := [(2, .int (nI (k + 1))), (3, .int (-1)), (1, .int (nI 2)), (0, .ref tb)]) hx hb dX1_reckonWidth_35 hl (k := 1) rfl (nI_1 k) (by decide) rfl (fun ls hl => ?_)
  refine lv_goto (tgt := 4) hx hb dX1_reckonWidth_38 (by decide) ?_
  exact kk _ _ _ (hK.sub [0] rfl) (hP.sub [0, 1] rfl) (hD.sub [0, 1] (by decide) rfl) hS (lv_sub hl [0, 2, 3] rfl)
set_option maxHeartbeats 4000000 in
theorem rw_As {p0 : Program} {l : Launch} {e0 : Env} {s : State} {mt0 : MethodId} {args : Array Value} {bl0 : List Frame} {meth0 : Method} {cd0 : Code} {Q : State → Prop} {A : Nat → Prop} (D : va_G) (tb : Nat) (wo : Nat) (ti : Nat) (pn : Nat) (wk : Nat) (vw : Int32) (cW : ClassId) (g : Nat → Int32) (hC : zz_C p0 s mt0 meth0 cd0 args RX1 cX1_reckonWidth 4 (some .int) wsX1_reckonWidth)  (hA : ∀ q, s.heap.size ≤ q → A q) (hK : va_K D vwCl [(cW, .int)] s) (hg1 : ∀ n, n < 10 → g n = -1) (hg2 : ∀ n, 10 ≤ n → n < 64 → g n = 99) (kk : ∀ (H : Heap) (locs : List Loc) (ls : Array Slot), va_P D vwCl [(tb, .inr (5, [.ref wo, .ref ti, .int (nI pn), .ref wk, .int vw])), (wo, .inl (cW, 64, .inl g))] H → va_D A [(tb, .inr (5, [.ref wo, .ref ti, .int (nI pn), .ref wk, .int vw])), (wo, .inl (cW, 64, .inl g))] → va_S A s.heap H locs → lv_has ls 4 [(2, .int (nI 10)), (1, .int (nI 2)), (0, .ref tb)] → W p0 l e0 ({ frames := 2, cells := 0, slots := 0, locals := 140 } : Room) s mt0 args bl0 meth0 cd0 H locs 0 0 Q (F0 mt0 4 ls [])) : ∀ (n k : Nat), k + n = 10 → ∀ (H : Heap) (locs : List Loc) (ls : Array Slot), va_P D vwCl [(tb, .inr (5, [.ref wo, .ref ti, .int (nI pn), .ref wk, .int vw])), (wo, .inl (cW, 64, .inl g))] H → va_D A [(tb, .inr (5, [.ref wo, .ref ti, .int (nI pn), .ref wk, .int vw])), (wo, .inl (cW, 64, .inl g))] → va_S A s.heap H locs → lv_has ls 4 [(2, .int (nI k)), (1, .int (nI 2)), (0, .ref tb)] → W p0 l e0 ({ frames := 2, cells := 0, slots := 0, locals := 140 } : Room) s mt0 args bl0 meth0 cd0 H locs 0 0 Q (F0 mt0 4 ls []) := by
  intro n
  induction n with
  | zero => intro k hk H locs ls hP hD hS hl
            obtain rfl : k = 10 := by omega
            exact kk H locs ls hP hD hS hl
  | succ n ih => intro k hk H locs ls hP hD hS hl
                 exact rw_A D tb wo ti pn wk vw cW g k hC hA hK hP hD hS hl hg1 hg2 (by omega) (fun H' locs' ls' _ hP' hD' hS' hl' => ih (k + 1) (by omega) H' locs' ls' hP' hD' hS' hl')
set_option maxHeartbeats 4000000 in
set_option maxRecDepth 100000 in
theorem rw_B {p0 : Program} {l : Launch} {e0 : Env} {s : State} {mt0 : MethodId} {args : Array Value} {bl0 : List Frame} {meth0 : Method} {cd0 : Code} {Q : State → Prop} {A : Nat → Prop} {H : Heap} {locs : List Loc} {ls : Array Slot} (D : va_G) (tb : Nat) (wo : Nat) (ti : Nat) (pn : Nat) (wk : Nat) (vw : Int32) (cW : ClassId) (g : Nat → Int32) (k : Nat) (hC : zz_C p0 s mt0 meth0 cd0 args RX1 cX1_reckonWidth 4 (some .int) wsX1_reckonWidth)  (hA : ∀ q, s.heap.size ≤ q → A q) (hK : va_K D vwCl [(cW, .int)] s) (hP : va_P D vwCl [(tb, .inr (5, [.ref wo, .ref ti, .int (nI pn), .ref wk, .int vw])), (wo, .inl (cW, 64, .inl g))] H) (hD : va_D A [(tb, .inr (5, [.ref wo, .ref ti, .int (nI pn), .ref wk, .int vw])), (wo, .inl (cW, 64, .inl g))]) (hS : va_S A s.heap H locs) (hl : lv_has ls 4 [(2, .int (nI (10 + k))), (1, .int (nI (2 + 5 * k))), (0, .ref tb)]) (hg1 : ∀ n, n < 10 → g n = -1) (hg2 : ∀ n, 10 ≤ n → n < 64 → g n = 99) (hk : k < 54) (kk : ∀ (H' : Heap) (locs' : List Loc) (ls' : Array Slot), va_K D vwCl [(cW, .int)] s → va_P D vwCl [(tb, .inr (5, [.ref wo, .ref ti, .int (nI pn), .ref wk, .int vw])), (wo, .inl (cW, 64, .inl g))] H' → va_D A [(tb, .inr (5, [.ref wo, .ref ti, .int (nI pn), .ref wk, .int vw])), (wo, .inl (cW, 64, .inl g))] → va_S A s.heap H' locs' → lv_has ls' 4 [(2, .int (nI (10 + (k + 1)))), (1, .int (nI (2 + 5 * (k + 1)))), (0, .ref tb)] → W p0 l e0 ({ frames := 2, cells := 0, slots := 0, locals := 140 } : Room) s mt0 args bl0 meth0 cd0 H' locs' (0) (0) Q (F0 mt0 4 ls' [])) : W p0 l e0 ({ frames := 2, cells := 0, slots := 0, locals := 140 } : Room) s mt0 args bl0 meth0 cd0 H locs (0) (0) Q (F0 mt0 4 ls []) := by
  obtain ⟨hx, hb, hml, hr, hown, hts, hlocks⟩ := hC
  refine lv_iload_n hx hb dX1_reckonWidth_4 rfl (lv_at hl 0 rfl) ?_
  refine lv_bipush (v := 64) hx hb dX1_reckonWidth_5 (by decide) ?_
  refine lv_icmp_ge (tgt := 41) hx hb dX1_reckonWidth_7 (by decide) (fun c_1 => absurd c_1 (show ¬ nI 64 ≤ nI (10 + k) from nI_ge (by omega) (by decide))) (fun c_1 => ?_)
  refine lv_aload_n hx hb dX1_reckonWidth_10 rfl (lv_at hl 2 rfl) ?_
  refine lv_iload_n hx hb dX1_reckonWidth_11 rfl (lv_at hl 0 rfl) ?_
  have hFc := va_free (wc := [(tb, .inr (5, [.ref wo, .ref ti, .int (nI pn), .ref wk, .int vw])), (wo, .inl (cW, 64, .inl g))]) hD hS hA [0, 1] rfl
  refine zz_after (wr := []) (va_runV (As := [.int (nI (10 + k))]) (rest := []) ⟨hx, hb, hml, hown, hts⟩ ((k_X1_worthAt l D tb wo ti pn wk vw cW g (10 + k) (by omega)) H.size) (cwV 1 hts gX1_reckonWidth_X1_worthAt rfl rfl rfl (by decide +kernel) ⟨Nat.le_of_ble_eq_true rfl, Nat.le_of_ble_eq_true rfl⟩) (zz_pV (zz_pre (av := [.ref tb, .int (nI (10 + k))]) (tyc := [(cW, .int)]) (wc := [(tb, .inr (5, [.ref wo, .ref ti, .int (nI pn), .ref wk, .int vw])), (wo, .inl (cW, 64, .inl g))]) (X := fun _ _ => True) (Xc := (fun _ _ => True)) hP hD hK hS [0, 1] [0] rfl (by decide) rfl zz_St_tt (fun _ _ _ => trivial)) (va_recv hK hP (ci := 5) (q0 := 0) rfl rfl)) rfl rfl hl.1 rfl (lv_room (Nat.le_of_ble_eq_true rfl)) dX1_reckonWidth_12 ⟨by show 0 + 0 ≤ 0; omega, by show 0 + 0 ≤ 0; omega⟩) hP hD hK hS hFc [0, 1] [] rfl rfl (by decide) (by decide) (fun v w1 ty1 H1 locs hq9 hz9 hk9 hP1 hD1 hK1 hS1 => ?_)
  obtain ⟨rfl, rfl, rfl⟩ := hq9
  clear hS hP hD hK hFc
  have hP : va_P D vwCl [(tb, .inr (5, [.ref wo, .ref ti, .int (nI pn), .ref wk, .int vw])), (wo, .inl (cW, 64, .inl g))] H1 := hP1
  have hD : va_D A [(tb, .inr (5, [.ref wo, .ref ti, .int (nI pn), .ref wk, .int vw])), (wo, .inl (cW, 64, .inl g))] := hD1
  have hK : va_K D vwCl [(cW, .int), (cW, .int)] s := hK1
  have hS := hS1
  clear hP1 hD1 hK1 hS1
  obtain ⟨H, rfl⟩ : ∃ z, z = H1 := ⟨_, rfl⟩
  refine W.eq (g2 := F0 mt0 15 ls [.int (g (10 + k))]) rfl ?_
  rw [hg2 (10 + k) (by omega) (by omega)]
  refine W.eq (g2 := F0 mt0 15 ls [.int (nI 99)]) rfl ?_
  refine lv_istore_n (lv' := [(3, .int (nI 99)), (2, .int (nI (10 + k))), (1, .int (nI (2 + 5 * k))), (0, .ref tb)]) hx hb dX1_reckonWidth_15 rfl hl (by decide) rfl (fun ls hl => ?_)
  refine lv_iload_n hx hb dX1_reckonWidth_16 rfl (lv_at hl 0 rfl) ?_
  refine lv_iconst (v := (-1)) hx hb dX1_reckonWidth_17 (by decide) ?_
  refine lv_icmp_eq (tgt := 35) hx hb dX1_reckonWidth_18 (by decide) (fun c_2 => absurd c_2 (by decide)) (fun c_2 => ?_)
  refine lv_iload_n hx hb dX1_reckonWidth_21 rfl (lv_at hl 2 rfl) ?_
  refine lv_iload_n hx hb dX1_reckonWidth_22 rfl (lv_at hl 1 rfl) ?_
  have hFc := va_free (wc := []) hD hS hA [] rfl
  refine zz_after (wr := [(tb, .inr (5, [.ref wo, .ref ti, .int (nI pn), .ref wk, .int vw])), (wo, .inl (cW, 64, .inl g))]) (va_runS (As := [.int (nI (10 + k))]) (rest := [.int (nI (2 + 5 * k))]) ⟨hx, hb, hml, hown, hts⟩ ((k_X1_signsOf l D (10 + k) (by omega) (by omega)) H.size) (va_cwS 1 hts gX1_reckonWidth_X1_signsOf rfl rfl rfl (by decide +kernel) ⟨Nat.le_of_ble_eq_true rfl, Nat.le_of_ble_eq_true rfl⟩) (zz_pre (av := [.int (nI (10 + k))]) (tyc := []) (wc := []) (X := fun _ _ => True) (Xc := (fun _ _ => True)) hP hD hK hS [] [] rfl (by decide) rfl zz_St_tt (fun _ _ _ => trivial)) rfl rfl hl.1 rfl (lv_room (Nat.le_of_ble_eq_true rfl)) dX1_reckonWidth_23 ⟨by show 0 + 0 + 0 ≤ 0; omega, by show 0 + 0 + 0 ≤ 0; omega⟩) hP hD hK hS hFc [] [0, 1] rfl rfl (by decide) (by decide) (fun v w1 ty1 H1 locs hq9 hz9 hk9 hP1 hD1 hK1 hS1 => ?_)
  obtain ⟨rfl, rfl, rfl⟩ := hq9
  clear hS hP hD hK hFc
  have hP : va_P D vwCl [(tb, .inr (5, [.ref wo, .ref ti, .int (nI pn), .ref wk, .int vw])), (wo, .inl (cW, 64, .inl g))] H1 := hP1
  have hD : va_D A [(tb, .inr (5, [.ref wo, .ref ti, .int (nI pn), .ref wk, .int vw])), (wo, .inl (cW, 64, .inl g))] := hD1
  have hK : va_K D vwCl [(cW, .int), (cW, .int)] s := hK1
  have hS := hS1
  clear hP1 hD1 hK1 hS1
  obtain ⟨H, rfl⟩ : ∃ z, z = H1 := ⟨_, rfl⟩
  refine W.eq (g2 := F0 mt0 26 ls [.int 2, .int (nI (2 + 5 * k))]) rfl ?_
  refine lv_iconst (v := 1) hx hb dX1_reckonWidth_26 (by decide) ?_
  refine lv_iadd hx hb dX1_reckonWidth_27 ?_
  refine lv_topi (fun z_3 ez_3 => ?_)
  obtain rfl : z_3 = 3 := ez_3.trans (by decide)
  refine lv_iload_n hx hb dX1_reckonWidth_28 rfl (lv_at hl 0 rfl) ?_
  have hFc := va_free (wc := []) hD hS hA [] rfl
  refine zz_after (wr := [(tb, .inr (5, [.ref wo, .ref ti, .int (nI pn), .ref wk, .int vw])), (wo, .inl (cW, 64, .inl g))]) (va_runS (As := [.int (nI 99)]) (rest := [.int 3, .int (nI (2 + 5 * k))]) ⟨hx, hb, hml, hown, hts⟩ ((k_X1_signsOf l D 99 (by decide) (by decide)) H.size) (va_cwS 1 hts gX1_reckonWidth_X1_signsOf rfl rfl rfl (by decide +kernel) ⟨Nat.le_of_ble_eq_true rfl, Nat.le_of_ble_eq_true rfl⟩) (zz_pre (av := [.int (nI 99)]) (tyc := []) (wc := []) (X := fun _ _ => True) (Xc := (fun _ _ => True)) hP hD hK hS [] [] rfl (by decide) rfl zz_St_tt (fun _ _ _ => trivial)) rfl rfl hl.1 rfl (lv_room (Nat.le_of_ble_eq_true rfl)) dX1_reckonWidth_29 ⟨by show 0 + 0 + 0 + 0 ≤ 0; omega, by show 0 + 0 + 0 + 0 ≤ 0; omega⟩) hP hD hK hS hFc [] [0, 1] rfl rfl (by decide) (by decide) (fun v w1 ty1 H1 locs hq9 hz9 hk9 hP1 hD1 hK1 hS1 => ?_)
  obtain ⟨rfl, rfl, rfl⟩ := hq9
  clear hS hP hD hK hFc
  have hP : va_P D vwCl [(tb, .inr (5, [.ref wo, .ref ti, .int (nI pn), .ref wk, .int vw])), (wo, .inl (cW, 64, .inl g))] H1 := hP1
  have hD : va_D A [(tb, .inr (5, [.ref wo, .ref ti, .int (nI pn), .ref wk, .int vw])), (wo, .inl (cW, 64, .inl g))] := hD1
  have hK : va_K D vwCl [(cW, .int), (cW, .int)] s := hK1
  have hS := hS1
  clear hP1 hD1 hK1 hS1
  obtain ⟨H, rfl⟩ : ∃ z, z = H1 := ⟨_, rfl⟩
  refine W.eq (g2 := F0 mt0 32 ls [.int 2, .int 3, .int (nI (2 + 5 * k))]) rfl ?_
  refine lv_iadd hx hb dX1_reckonWidth_32 ?_
  refine lv_topi (fun z_4 ez_4 => ?_)
  obtain rfl : z_4 = 5 := ez_4.trans (by decide)
  refine lv_iadd hx hb dX1_reckonWidth_33 ?_
  refine lv_topi (fun z_5 ez_5 => ?_)
  obtain rfl : z_5 = nI (2 + 5 * (k + 1)) := ez_5.trans (by rw [show (5 : Int32) = nI 5 from rfl, nI_add]; exact congrArg nI (by omega))
  refine lv_istore_n (lv' := [(1, .int (nI (2 + 5 * (k + 1)))), (3, .int (nI 99)), (2, .int (nI (10 + k))), (0, .ref tb)]) hx hb dX1_reckonWidth_34 rfl hl (by decide) rfl (fun ls hl => ?_)
  refine lv_iinc (v := (nI (10 + (k + 1)))) (lv' := [(2, .int (nI (10 + (k + 1)))), (1, .int (nI (2 + 5 * (k + 1)))), (3, .int (nI 99)), (0, .ref tb)]) hx hb dX1_reckonWidth_35 hl (k := 2) rfl (nI_1 (10 + k)) (by decide) rfl (fun ls hl => ?_)
  refine lv_goto (tgt := 4) hx hb dX1_reckonWidth_38 (by decide) ?_
  exact kk _ _ _ (hK.sub [0] rfl) (hP.sub [0, 1] rfl) (hD.sub [0, 1] (by decide) rfl) hS (lv_sub hl [0, 1, 3] rfl)
set_option maxHeartbeats 4000000 in
theorem rw_Bs {p0 : Program} {l : Launch} {e0 : Env} {s : State} {mt0 : MethodId} {args : Array Value} {bl0 : List Frame} {meth0 : Method} {cd0 : Code} {Q : State → Prop} {A : Nat → Prop} (D : va_G) (tb : Nat) (wo : Nat) (ti : Nat) (pn : Nat) (wk : Nat) (vw : Int32) (cW : ClassId) (g : Nat → Int32) (hC : zz_C p0 s mt0 meth0 cd0 args RX1 cX1_reckonWidth 4 (some .int) wsX1_reckonWidth)  (hA : ∀ q, s.heap.size ≤ q → A q) (hK : va_K D vwCl [(cW, .int)] s) (hg1 : ∀ n, n < 10 → g n = -1) (hg2 : ∀ n, 10 ≤ n → n < 64 → g n = 99) (kk : ∀ (H : Heap) (locs : List Loc) (ls : Array Slot), va_P D vwCl [(tb, .inr (5, [.ref wo, .ref ti, .int (nI pn), .ref wk, .int vw])), (wo, .inl (cW, 64, .inl g))] H → va_D A [(tb, .inr (5, [.ref wo, .ref ti, .int (nI pn), .ref wk, .int vw])), (wo, .inl (cW, 64, .inl g))] → va_S A s.heap H locs → lv_has ls 4 [(2, .int (nI (10 + 54))), (1, .int (nI (2 + 5 * 54))), (0, .ref tb)] → W p0 l e0 ({ frames := 2, cells := 0, slots := 0, locals := 140 } : Room) s mt0 args bl0 meth0 cd0 H locs 0 0 Q (F0 mt0 4 ls [])) : ∀ (n k : Nat), k + n = 54 → ∀ (H : Heap) (locs : List Loc) (ls : Array Slot), va_P D vwCl [(tb, .inr (5, [.ref wo, .ref ti, .int (nI pn), .ref wk, .int vw])), (wo, .inl (cW, 64, .inl g))] H → va_D A [(tb, .inr (5, [.ref wo, .ref ti, .int (nI pn), .ref wk, .int vw])), (wo, .inl (cW, 64, .inl g))] → va_S A s.heap H locs → lv_has ls 4 [(2, .int (nI (10 + k))), (1, .int (nI (2 + 5 * k))), (0, .ref tb)] → W p0 l e0 ({ frames := 2, cells := 0, slots := 0, locals := 140 } : Room) s mt0 args bl0 meth0 cd0 H locs 0 0 Q (F0 mt0 4 ls []) := by
  intro n
  induction n with
  | zero => intro k hk H locs ls hP hD hS hl
            obtain rfl : k = 54 := by omega
            exact kk H locs ls hP hD hS hl
  | succ n ih => intro k hk H locs ls hP hD hS hl
                 exact rw_B D tb wo ti pn wk vw cW g k hC hA hK hP hD hS hl hg1 hg2 (by omega) (fun H' locs' ls' _ hP' hD' hS' hl' => ih (k + 1) (by omega) H' locs' ls' hP' hD' hS' hl')
set_option maxHeartbeats 4000000 in
set_option maxRecDepth 100000 in
theorem k_X1_reckonWidth (l : Launch) (D : va_G) (tb : Nat) (wo : Nat) (ti : Nat) (wk : Nat) (vw : Int32) (cW : ClassId) (g : Nat → Int32) (hg1 : ∀ n, n < 10 → g n = -1) (hg2 : ∀ n, 10 ≤ n → n < 64 → g n = 99) : zz_M l yX1_reckonWidth wsX1_reckonWidth ({ frames := 2, cells := 0, slots := 0, locals := 140 }) D [.ref tb] [(cW, .int)] [(tb, .inr (5, [.ref wo, .ref ti, .int (nI 54), .ref wk, .int vw])), (wo, .inl (cW, 64, .inl g))] (fun _ _ => True) (fun H0 H1 v w t => v = some (.int (nI 378)) ∧ w = [(tb, .inr (5, [.ref wo, .ref ti, .int (nI 54), .ref wk, .int vw])), (wo, .inl (cW, 64, .inl g))] ∧ t = [(cW, .int)]) := by
  refine zz_M.mk (cc := cX1_reckonWidth) (maxL := 4) (ret := (some .int)) (by decide) rfl (Nat.le_of_ble_eq_true rfl) ?_
  intro p0 e0 s mt0 bl0 meth0 cd0 ls hC hname hP hK hD hX hl
  obtain ⟨hx, hb, hml, hr, hown, hts, hlocks⟩ := hC
  generalize hAe : va_A [(tb, .inr (5, [.ref wo, .ref ti, .int (nI 54), .ref wk, .int vw])), (wo, .inl (cW, 64, .inl g))] s.heap.size = A at *
  have hA : ∀ q : Nat, s.heap.size ≤ q → A q := fun q h => by rw [← hAe]; exact Or.inr h
  obtain ⟨H, hHs⟩ : ∃ z : Heap, z = s.heap := ⟨_, rfl⟩
  rw [← hHs] at hP ⊢
  have hS : va_S A s.heap H [] := by rw [hHs]; exact va_S.rf
  have hl : lv_has ls 4 [(0, .ref tb)] := hl
  refine lv_iconst (v := 2) hx hb dX1_reckonWidth_0 (by decide) ?_
  refine lv_istore_n (lv' := [(1, .int 2), (0, .ref tb)]) hx hb dX1_reckonWidth_1 rfl hl (by decide) rfl (fun ls hl => ?_)
  refine lv_iconst (v := 0) hx hb dX1_reckonWidth_2 (by decide) ?_
  refine lv_istore_n (lv' := [(2, .int 0), (1, .int 2), (0, .ref tb)]) hx hb dX1_reckonWidth_3 rfl hl (by decide) rfl (fun ls hl => ?_)
  refine rw_As D tb wo ti 54 wk vw cW g ⟨hx, hb, hml, hr, hown, hts, hlocks⟩ hA hK hg1 hg2 ?_ 10 0 rfl H _ ls hP hD hS (lv_sub hl [0, 1, 2] rfl)
  intro H locs ls hP hD hS hl
  refine rw_Bs D tb wo ti 54 wk vw cW g ⟨hx, hb, hml, hr, hown, hts, hlocks⟩ hA hK hg1 hg2 ?_ 54 0 rfl H locs ls hP hD hS (lv_sub hl [0, 1, 2] rfl)
  intro H locs ls hP hD hS hl
  refine lv_iload_n hx hb dX1_reckonWidth_4 rfl (lv_at hl 0 rfl) ?_
  refine lv_bipush (v := 64) hx hb dX1_reckonWidth_5 (by decide) ?_
  refine lv_icmp_ge (tgt := 41) hx hb dX1_reckonWidth_7 (by decide) (fun c_1 => ?_) (fun c_1 => absurd (show nI 64 ≤ nI (10 + 54) from Int32.le_refl _) c_1)
  refine lv_aload_n hx hb dX1_reckonWidth_41 rfl (lv_at hl 2 rfl) ?_
  refine va_get (D := D) (ci := 5) (v := .int (nI 54)) (C := RX1) (T := TX1) (N := 5) hx hb hts (by decide +kernel) hown hK hP 0 rfl rfl 2 (by decide) (hts (.fieldLink RX1 29 "Hashladder$Table" "pairs" "I") (by decide +kernel)) (fun _ h9 => h9) rfl dX1_reckonWidth_42 ?_
  refine lv_iconst (v := 1) hx hb dX1_reckonWidth_45 (by decide) ?_
  refine lv_icmp_le (tgt := 62) hx hb dX1_reckonWidth_46 (by decide) (fun c_2 => absurd c_2 (by decide)) (fun c_2 => ?_)
  refine lv_iload_n hx hb dX1_reckonWidth_49 rfl (lv_at hl 1 rfl) ?_
  refine lv_iconst (v := 2) hx hb dX1_reckonWidth_50 (by decide) ?_
  refine lv_aload_n hx hb dX1_reckonWidth_51 rfl (lv_at hl 2 rfl) ?_
  refine va_get (D := D) (ci := 5) (v := .int (nI 54)) (C := RX1) (T := TX1) (N := 5) hx hb hts (by decide +kernel) hown hK hP 0 rfl rfl 2 (by decide) (hts (.fieldLink RX1 29 "Hashladder$Table" "pairs" "I") (by decide +kernel)) (fun _ h9 => h9) rfl dX1_reckonWidth_52 ?_
  refine lv_iconst (v := 1) hx hb dX1_reckonWidth_55 (by decide) ?_
  refine lv_isub hx hb dX1_reckonWidth_56 ?_
  refine lv_topi (fun z_3 ez_3 => ?_)
  obtain rfl : z_3 = 53 := ez_3.trans (by decide)
  refine lv_imul hx hb dX1_reckonWidth_57 ?_
  refine lv_topi (fun z_4 ez_4 => ?_)
  obtain rfl : z_4 = 106 := ez_4.trans (by decide)
  refine lv_iadd hx hb dX1_reckonWidth_58 ?_
  refine lv_topi (fun z_5 ez_5 => ?_)
  obtain rfl : z_5 = nI 378 := ez_5.trans (by decide)
  refine lv_goto (tgt := 63) hx hb dX1_reckonWidth_59 (by decide) ?_
  have hP9 := hP.sub (ws' := [(tb, .inr (5, [.ref wo, .ref ti, .int (nI 54), .ref wk, .int vw])), (wo, .inl (cW, 64, .inl g))]) [0, 1] rfl
  have hD9 := hD.sub (ws' := [(tb, .inr (5, [.ref wo, .ref ti, .int (nI 54), .ref wk, .int vw])), (wo, .inl (cW, 64, .inl g))]) [0, 1] (by decide) rfl
  have hK9 := hK.sub (tys' := [(cW, .int)]) [0] rfl
  refine W.widen (k := 0) (n := 0) (by show 0 ≤ 0; omega) (by show 0 ≤ 0; omega) ?_
  exact W.iret (v := nI 378) hx hb hr (zz_end hP9 hD9 hK9 hS (⟨rfl, rfl, rfl⟩)) hS.2.2 dX1_reckonWidth_63
set_option maxHeartbeats 4000000 in
set_option maxRecDepth 100000 in
theorem k_X3_width (l : Launch) (D : va_G) (hh : Nat) (tA : Nat) (kn : Int32) (sp : Value) (rx : Value) (pb : Value) (pg : Value) (cB : ClassId) (T0 : Nat → Option Nat) (tb : Nat) (wo : Nat) (ti : Nat) (wk : Nat) (vw : Int32) (cW : ClassId) (g : Nat → Int32) (hT : T0 0 = some tb) (hg1 : ∀ n, n < 10 → g n = -1) (hg2 : ∀ n, 10 ≤ n → n < 64 → g n = 99) : zz_M l yX3_width wsX3_width ({ frames := 3, cells := 0, slots := 0, locals := 200 }) D [.ref hh, .int 0] [(cB, .object "Hashladder$Table"), (cW, .int)] [(hh, .inr (7, [.ref tA, .int kn, sp, rx, pb, pg])), (tA, .inl (cB, 4, .inr (.inr (.inr (.inr T0))))), (tb, .inr (5, [.ref wo, .ref ti, .int (nI 54), .ref wk, .int vw])), (wo, .inl (cW, 64, .inl g))] (fun _ _ => True) (fun H0 H1 v w t => v = some (.int (nI 378)) ∧ w = [(hh, .inr (7, [.ref tA, .int kn, sp, rx, pb, pg])), (tA, .inl (cB, 4, .inr (.inr (.inr (.inr T0))))), (tb, .inr (5, [.ref wo, .ref ti, .int (nI 54), .ref wk, .int vw])), (wo, .inl (cW, 64, .inl g))] ∧ t = [(cB, .object "Hashladder$Table"), (cW, .int)]) := by
  refine zz_M.mk (cc := cX3_width) (maxL := 2) (ret := (some .int)) (by decide) rfl (Nat.le_of_ble_eq_true rfl) ?_
  intro p0 e0 s mt0 bl0 meth0 cd0 ls hC hname hP hK hD hX hl
  obtain ⟨hx, hb, hml, hr, hown, hts, hlocks⟩ := hC
  generalize hAe : va_A [(hh, .inr (7, [.ref tA, .int kn, sp, rx, pb, pg])), (tA, .inl (cB, 4, .inr (.inr (.inr (.inr T0))))), (tb, .inr (5, [.ref wo, .ref ti, .int (nI 54), .ref wk, .int vw])), (wo, .inl (cW, 64, .inl g))] s.heap.size = A at *
  have hA : ∀ q : Nat, s.heap.size ≤ q → A q := fun q h => by rw [← hAe]; exact Or.inr h
  obtain ⟨H, hHs⟩ : ∃ z : Heap, z = s.heap := ⟨_, rfl⟩
  rw [← hHs] at hP ⊢
  have hS : va_S A s.heap H [] := by rw [hHs]; exact va_S.rf
  have hl : lv_has ls 2 [(0, .ref hh), (1, .int 0)] := hl
  refine lv_aload_n hx hb dX3_width_0 rfl (lv_at hl 0 rfl) ?_
  refine lv_iload_n hx hb dX3_width_1 rfl (lv_at hl 1 rfl) ?_
  have hFc := va_free (wc := [(hh, .inr (7, [.ref tA, .int kn, sp, rx, pb, pg])), (tA, .inl (cB, 4, .inr (.inr (.inr (.inr T0)))))]) hD hS hA [0, 1] rfl
  refine zz_after (wr := [(tb, .inr (5, [.ref wo, .ref ti, .int (nI 54), .ref wk, .int vw])), (wo, .inl (cW, 64, .inl g))]) (va_runV (As := [.int 0]) (rest := []) ⟨hx, hb, hml, hown, hts⟩ ((k_X3_tableAt l D hh tA kn sp rx pb pg cB T0 tb (hT)) H.size) (cwV 1 hts gX3_width_X3_tableAt rfl rfl rfl (by decide +kernel) ⟨Nat.le_of_ble_eq_true rfl, Nat.le_of_ble_eq_true rfl⟩) (zz_pV (zz_pre (av := [.ref hh, .int 0]) (tyc := [(cB, .object "Hashladder$Table")]) (wc := [(hh, .inr (7, [.ref tA, .int kn, sp, rx, pb, pg])), (tA, .inl (cB, 4, .inr (.inr (.inr (.inr T0)))))]) (X := fun _ _ => True) (Xc := (fun _ _ => True)) hP hD hK hS [0, 1] [0] rfl (by decide) rfl zz_St_tt (fun _ _ _ => trivial)) (va_recv hK hP (ci := 7) (q0 := 0) rfl rfl)) rfl rfl hl.1 rfl (lv_room (Nat.le_of_ble_eq_true rfl)) dX3_width_2 ⟨by show 0 + 0 ≤ 0; omega, by show 0 + 0 ≤ 0; omega⟩) hP hD hK hS hFc [0, 1] [2, 3] rfl rfl (by decide) (by decide) (fun v w1 ty1 H1 locs hq9 hz9 hk9 hP1 hD1 hK1 hS1 => ?_)
  obtain ⟨rfl, rfl, rfl⟩ := hq9
  clear hS hP hD hK hFc
  have hP : va_P D vwCl [(tb, .inr (5, [.ref wo, .ref ti, .int (nI 54), .ref wk, .int vw])), (wo, .inl (cW, 64, .inl g)), (hh, .inr (7, [.ref tA, .int kn, sp, rx, pb, pg])), (tA, .inl (cB, 4, .inr (.inr (.inr (.inr T0)))))] H1 := hP1
  have hD : va_D A [(tb, .inr (5, [.ref wo, .ref ti, .int (nI 54), .ref wk, .int vw])), (wo, .inl (cW, 64, .inl g)), (hh, .inr (7, [.ref tA, .int kn, sp, rx, pb, pg])), (tA, .inl (cB, 4, .inr (.inr (.inr (.inr T0)))))] := hD1
  have hK : va_K D vwCl [(cB, .object "Hashladder$Table"), (cW, .int), (cB, .object "Hashladder$Table")] s := hK1
  have hS := hS1
  clear hP1 hD1 hK1 hS1
  obtain ⟨H, rfl⟩ : ∃ z, z = H1 := ⟨_, rfl⟩
  refine W.eq (g2 := F0 mt0 5 ls [.ref tb]) rfl ?_
  have hFc := va_free (wc := [(tb, .inr (5, [.ref wo, .ref ti, .int (nI 54), .ref wk, .int vw])), (wo, .inl (cW, 64, .inl g))]) hD hS hA [0, 1] rfl
  refine zz_after (wr := [(hh, .inr (7, [.ref tA, .int kn, sp, rx, pb, pg])), (tA, .inl (cB, 4, .inr (.inr (.inr (.inr T0)))))]) (va_runV (As := []) (rest := []) ⟨hx, hb, hml, hown, hts⟩ ((k_X1_reckonWidth l D tb wo ti wk vw cW g (hg1) (hg2)) H.size) (cwV 0 hts gX3_width_X1_reckonWidth rfl rfl rfl (by decide +kernel) ⟨Nat.le_of_ble_eq_true rfl, Nat.le_of_ble_eq_true rfl⟩) (zz_pV (zz_pre (av := [.ref tb]) (tyc := [(cW, .int)]) (wc := [(tb, .inr (5, [.ref wo, .ref ti, .int (nI 54), .ref wk, .int vw])), (wo, .inl (cW, 64, .inl g))]) (X := fun _ _ => True) (Xc := (fun _ _ => True)) hP hD hK hS [0, 1] [1] rfl (by decide) rfl zz_St_tt (fun _ _ _ => trivial)) (va_recv hK hP (ci := 5) (q0 := 0) rfl rfl)) rfl rfl hl.1 rfl (lv_room (Nat.le_of_ble_eq_true rfl)) dX3_width_5 ⟨by show 0 + 0 + 0 ≤ 0; omega, by show 0 + 0 + 0 ≤ 0; omega⟩) hP hD hK hS hFc [0, 1] [2, 3] rfl rfl (by decide) (by decide) (fun v w1 ty1 H1 locs hq9 hz9 hk9 hP1 hD1 hK1 hS1 => ?_)
  obtain ⟨rfl, rfl, rfl⟩ := hq9
  clear hS hP hD hK hFc
  have hP : va_P D vwCl [(hh, .inr (7, [.ref tA, .int kn, sp, rx, pb, pg])), (tA, .inl (cB, 4, .inr (.inr (.inr (.inr T0))))), (tb, .inr (5, [.ref wo, .ref ti, .int (nI 54), .ref wk, .int vw])), (wo, .inl (cW, 64, .inl g))] H1 := hP1
  have hD : va_D A [(hh, .inr (7, [.ref tA, .int kn, sp, rx, pb, pg])), (tA, .inl (cB, 4, .inr (.inr (.inr (.inr T0))))), (tb, .inr (5, [.ref wo, .ref ti, .int (nI 54), .ref wk, .int vw])), (wo, .inl (cW, 64, .inl g))] := hD1
  have hK : va_K D vwCl [(cB, .object "Hashladder$Table"), (cW, .int), (cB, .object "Hashladder$Table"), (cW, .int)] s := hK1
  have hS := hS1
  clear hP1 hD1 hK1 hS1
  obtain ⟨H, rfl⟩ : ∃ z, z = H1 := ⟨_, rfl⟩
  refine W.eq (g2 := F0 mt0 8 ls [.int (nI 378)]) rfl ?_
  have hP9 := hP.sub (ws' := [(hh, .inr (7, [.ref tA, .int kn, sp, rx, pb, pg])), (tA, .inl (cB, 4, .inr (.inr (.inr (.inr T0))))), (tb, .inr (5, [.ref wo, .ref ti, .int (nI 54), .ref wk, .int vw])), (wo, .inl (cW, 64, .inl g))]) [0, 1, 2, 3] rfl
  have hD9 := hD.sub (ws' := [(hh, .inr (7, [.ref tA, .int kn, sp, rx, pb, pg])), (tA, .inl (cB, 4, .inr (.inr (.inr (.inr T0))))), (tb, .inr (5, [.ref wo, .ref ti, .int (nI 54), .ref wk, .int vw])), (wo, .inl (cW, 64, .inl g))]) [0, 1, 2, 3] (by decide) rfl
  have hK9 := hK.sub (tys' := [(cB, .object "Hashladder$Table"), (cW, .int)]) [0, 1] rfl
  refine W.widen (k := 0) (n := 0) (by show 0 + 0 + 0 ≤ 0; omega) (by show 0 + 0 + 0 ≤ 0; omega) ?_
  exact W.iret (v := nI 378) hx hb hr (zz_end hP9 hD9 hK9 hS (⟨rfl, rfl, rfl⟩)) hS.2.2 dX3_width_8
end
