/-- the worth at the names so far: 10 to 9 + k have 99, no other has a pair -/
def zz_I (g : Nat → Int32) (k : Nat) : Prop := ∀ n, n < 64 → ((10 ≤ n ∧ n < 10 + k) → g n = 99) ∧ ((n < 10 ∨ 10 + k ≤ n) → g n = -1)
theorem zz_I.at {g : Nat → Int32} {k : Nat} (h : zz_I g k) (hk : k < 54) : g (10 + k) = -1 := (h (10 + k) (by omega)).2 (Or.inr (Nat.le_refl _))
theorem zz_I.up {g : Nat → Int32} {k : Nat} (h : zz_I g k) : zz_I (upd g (10 + k) 99) (k + 1) := by
  intro n hn
  by_cases e : n = 10 + k
  · subst e
    exact ⟨fun _ => pk_us, fun z => by omega⟩
  · rw [pk_un e]
    exact ⟨fun z => (h n hn).1 (by omega), fun z => (h n hn).2 (by omega)⟩
theorem zz_I.zero {g : Nat → Int32} (h : ∀ i, i < 64 → g i = -1) : zz_I g 0 := fun n hn => ⟨fun z => by omega, fun _ => h n hn⟩
theorem zz_I.lo {g : Nat → Int32} (h : zz_I g 54) : ∀ n, n < 10 → g n = -1 := fun n hn => (h n (by omega)).2 (Or.inl hn)
theorem zz_I.hi {g : Nat → Int32} (h : zz_I g 54) : ∀ n, 10 ≤ n → n < 64 → g n = 99 := fun n h1 h2 => (h n h2).1 (by omega)
/-- the script -/
def zz_X (xs : Nat → Int32) : Prop := (∀ k, k < 54 → xs (5 * k) = 0 ∧ xs (5 * k + 1) = 0 ∧ xs (5 * k + 2) = nI (10 + k) ∧ xs (5 * k + 3) = 99) ∧ ∀ k, k < 450 → xs (5 * (54 + k)) = 33 ∧ xs (5 * (54 + k) + 1) = 0
/-- garbage of two times -/
theorem zz_L.app {L L2 : List Nat} {lo M K K2 : Nat} {H : Heap} (h1 : zz_L L lo H K) (hlt : ∀ a ∈ L, a < M) (h2 : zz_L L2 M H K2) (hlo : lo ≤ M) : zz_L (L ++ L2) lo H (K + K2) := by
  refine ⟨List.nodup_append.mpr ⟨h1.1, h2.1, fun a ha b hb e => ?_⟩, fun a ha => ?_, ?_⟩
  · have := hlt a ha
    have := (h2.2.1 b hb).1
    omega
  · rcases List.mem_append.mp ha with h | h
    · exact h1.2.1 a h
    · exact ⟨Nat.le_trans hlo (h2.2.1 a h).1, (h2.2.1 a h).2⟩
  · rw [List.map_append, List.sum_append]
    have := h1.2.2
    have := h2.2.2
    omega
theorem zz_d.app {L L2 : List Nat} {ws : va_W} (h1 : zz_d L ws) (h2 : zz_d L2 ws) : zz_d (L ++ L2) ws := fun a ha => (List.mem_append.mp ha).elim (h1 a) (h2 a)
/-- what came later is none of an elder world's -/
theorem zz_d.later {L : List Nat} {Hm H : Heap} {K : Nat} {D : va_G} {ws ws' : va_W} (hP : va_P D vwCl ws Hm) (h : zz_L L Hm.size H K) (is : List Nat) (hs : is.map (fun i => (ws[i]?).map (·.1)) = ws'.map (fun q => some q.1)) : zz_d L ws' := by
  intro a ha k q hq z
  have h1 : (is.map (fun i => (ws[i]?).map (·.1)))[k]? = some (some q.1) := by rw [hs, List.getElem?_map, hq]; rfl
  rw [List.getElem?_map] at h1
  cases hz : is[k]? with
  | none => rw [hz] at h1; cases h1
  | some j =>
    rw [hz] at h1
    have h2 : (ws[j]?).map (·.1) = some q.1 := Option.some.inj h1
    cases hj : ws[j]? with
    | none => rw [hj] at h2; cases h2
    | some x =>
      rw [hj] at h2
      have h3 : x.1 = q.1 := Option.some.inj h2
      have h4 : x.1 < Hm.size := (hP j x hj).lt
      have := (h.2.1 a ha).1
      omega
set_option maxHeartbeats 4000000 in
set_option maxRecDepth 100000 in
theorem lp_S {p0 : Program} {l : Launch} {e0 : Env} {s : State} {mt0 : MethodId} {args : Array Value} {bl0 : List Frame} {meth0 : Method} {cd0 : Code} {Q : State → Prop} {A : Nat → Prop} {H : Heap} {locs : List Loc} {ls : Array Slot} (D : va_G) (sb : Nat) (xs : Nat → Int32) (hh : Nat) (tA : Nat) (sp : Value) (rx : Value) (pb : Value) (pg : Value) (cB : ClassId) (T0 : Nat → Option Nat) (tb : Nat) (wo : Nat) (ti : Nat) (wk : Nat) (cW : ClassId) (cT : ClassId) (oo : Nat) (os : Value) (h : Nat) (ho : Nat) (hd : Nat) (hs : Nat) (hu : Nat) (hv : Nat) (cR : ClassId) (R0 : Nat → Option Nat) (y0 : Nat) (cI : ClassId) (cD : ClassId) (qe : Nat) (be : Nat) (fe : Nat → Int32) (qq : Nat) (bq : Nat) (fq : Nat → Int32) (qs : Nat) (bs : Nat) (fs : Nat → Int32) (k : Nat) (g f tm fd : Nat → Int32) (on : Int64) (hC : zz_C p0 s mt0 meth0 cd0 args RL cL_law 7 (some .boolean) zz_ws) (hX0 : zz_G A s) (hX1 : zz_S qe be 0 fe A s) (hX2 : vk_R RX5 116 "" qe s) (hX3 : zz_S qq bq 1 fq A s) (hX4 : vk_R RX5 134 "=" qq s) (hX5 : zz_S qs bs 2 fs A s) (hX6 : vk_R RX5 152 ", " qs s) (hX7 : va_Nw (.fieldLinkNest RL 13 "HashladderLaw$Out" "n" "J" "HashladderLaw") s) (hX8 : (va_X sb 2520 xs s s.heap ∧ sb < s.heap.size ∧ ¬ A sb)) (hA : ∀ q, s.heap.size ≤ q → A q) (hK : va_K D vwCl [(cB, .object "Hashladder$Table"), (cW, .int), (cT, .int), (cR, .array .int), (cI, .int), (cD, .int)] s) (hP : va_P D vwCl [(hh, .inr (7, [.ref tA, .int 0, sp, rx, pb, pg])), (tA, .inl (cB, 4, .inr (.inr (.inr (.inr T0))))), (tb, .inr (5, [.ref wo, .ref ti, .int (nI k), .ref wk, .int (-1)])), (wo, .inl (cW, 64, .inl g)), (ti, .inl (cT, 100, .inl tm)), (wk, .inr (6, [.int 0, .int 0, .int 0, .int 0, .int 0])), (oo, .inr (8, [.long on, os])), (h, .inr (9, [.int 0, .ref ho, .ref hd, .ref hs, .ref hu, .ref hv, .int 0])), (ho, .inl (cR, 4, .inr (.inr (.inr (.inr R0))))), (y0, .inl (cI, 64, .inl f)), (hd, .inl (cD, 4, .inl fd))] H) (hD : va_D A [(hh, .inr (7, [.ref tA, .int 0, sp, rx, pb, pg])), (tA, .inl (cB, 4, .inr (.inr (.inr (.inr T0))))), (tb, .inr (5, [.ref wo, .ref ti, .int (nI k), .ref wk, .int (-1)])), (wo, .inl (cW, 64, .inl g)), (ti, .inl (cT, 100, .inl tm)), (wk, .inr (6, [.int 0, .int 0, .int 0, .int 0, .int 0])), (oo, .inr (8, [.long on, os])), (h, .inr (9, [.int 0, .ref ho, .ref hd, .ref hs, .ref hu, .ref hv, .int 0])), (ho, .inl (cR, 4, .inr (.inr (.inr (.inr R0))))), (y0, .inl (cI, 64, .inl f)), (hd, .inl (cD, 4, .inl fd))]) (hS : va_S A s.heap H locs) (hl : lv_has ls 7 [(4, .int (nI (5 * k))), (3, .ref oo), (2, .ref h), (1, .ref hh), (0, .ref sb)]) (hT0 : T0 0 = some tb) (hR : R0 0 = some y0) (hxs : zz_X xs) (hk : k < 54) (hg : zz_I g k) (hf : zz_I f k) (kk : ∀ (g' f' tm' fd' : Nat → Int32) (on' : Int64) (H' : Heap) (locs' : List Loc) (ls' : Array Slot), zz_I g' (k + 1) → zz_I f' (k + 1) → va_K D vwCl [(cB, .object "Hashladder$Table"), (cW, .int), (cT, .int), (cR, .array .int), (cI, .int), (cD, .int)] s → va_P D vwCl [(hh, .inr (7, [.ref tA, .int 0, sp, rx, pb, pg])), (tA, .inl (cB, 4, .inr (.inr (.inr (.inr T0))))), (tb, .inr (5, [.ref wo, .ref ti, .int (nI (k + 1)), .ref wk, .int (-1)])), (wo, .inl (cW, 64, .inl g')), (ti, .inl (cT, 100, .inl tm')), (wk, .inr (6, [.int 0, .int 0, .int 0, .int 0, .int 0])), (oo, .inr (8, [.long on', os])), (h, .inr (9, [.int 0, .ref ho, .ref hd, .ref hs, .ref hu, .ref hv, .int 0])), (ho, .inl (cR, 4, .inr (.inr (.inr (.inr R0))))), (y0, .inl (cI, 64, .inl f')), (hd, .inl (cD, 4, .inl fd'))] H' → va_D A [(hh, .inr (7, [.ref tA, .int 0, sp, rx, pb, pg])), (tA, .inl (cB, 4, .inr (.inr (.inr (.inr T0))))), (tb, .inr (5, [.ref wo, .ref ti, .int (nI (k + 1)), .ref wk, .int (-1)])), (wo, .inl (cW, 64, .inl g')), (ti, .inl (cT, 100, .inl tm')), (wk, .inr (6, [.int 0, .int 0, .int 0, .int 0, .int 0])), (oo, .inr (8, [.long on', os])), (h, .inr (9, [.int 0, .ref ho, .ref hd, .ref hs, .ref hu, .ref hv, .int 0])), (ho, .inl (cR, 4, .inr (.inr (.inr (.inr R0))))), (y0, .inl (cI, 64, .inl f')), (hd, .inl (cD, 4, .inl fd'))] → va_S A s.heap H' locs' → lv_has ls' 7 [(4, .int (nI (5 * (k + 1)))), (3, .ref oo), (2, .ref h), (1, .ref hh), (0, .ref sb)] → W p0 l e0 ({ frames := 2048, cells := 700000, slots := 300000000, locals := 84000 } : Room) s mt0 args bl0 meth0 cd0 H' locs' (39) (1321) Q (F0 mt0 27 ls' [])) : W p0 l e0 ({ frames := 2048, cells := 700000, slots := 300000000, locals := 84000 } : Room) s mt0 args bl0 meth0 cd0 H locs (39) (1321) Q (F0 mt0 27 ls []) := by
  obtain ⟨hx, hb, hml, hr, hown, hts, hlocks⟩ := hC
  refine lv_iload hx hb dL_law_27 (lv_at hl 0 rfl) ?_
  refine lv_aload_n hx hb dL_law_29 rfl (lv_at hl 4 rfl) ?_
  refine va_slen hx hb hX8.1 hX8.2.1 hX8.2.2 hS dL_law_30 ?_
  refine lv_iconst (v := 5) hx hb dL_law_31 (by decide) ?_
  refine lv_isub hx hb dL_law_32 ?_
  refine lv_topi (fun z_1 ez_1 => ?_)
  obtain rfl : z_1 = nI 2515 := ez_1.trans (by decide)
  refine lv_icmp_gt (tgt := 2389) hx hb dL_law_33 (by decide) (fun c_2 => absurd c_2 (nI_nlt (by omega) (by decide))) (fun c_2 => ?_)
  refine lv_aload_n hx hb dL_law_36 rfl (lv_at hl 4 rfl) ?_
  refine lv_iload hx hb dL_law_37 (lv_at hl 0 rfl) ?_
  refine va_sld hx hb hX8.1 hX8.2.1 hX8.2.2 hS (vp_in_nI (by omega) (by decide)) dL_law_39 ?_
  refine lv_topi (fun z_3 ez_3 => ?_)
  obtain rfl : z_3 = 0 := ez_3.trans (by rw [nI_clamp (by omega)]; exact (hxs.1 k hk).1)
  refine lv_bipush (v := 63) hx hb dL_law_40 (by decide) ?_
  refine lv_iand hx hb dL_law_42 ?_
  refine lv_topi (fun z_4 ez_4 => ?_)
  obtain rfl : z_4 = 0 := ez_4.trans (by decide)
  refine lv_tableIn (off := 217) (tgt := 260) hx hb dL_law_43 (by decide) (by decide) (by decide +kernel) (by decide) ?_
  refine lv_aload_n hx hb dL_law_260 rfl (lv_at hl 3 rfl) ?_
  refine lv_aload_n hx hb dL_law_261 rfl (lv_at hl 4 rfl) ?_
  refine lv_iload hx hb dL_law_262 (lv_at hl 0 rfl) ?_
  refine lv_iconst (v := 1) hx hb dL_law_264 (by decide) ?_
  refine lv_iadd hx hb dL_law_265 ?_
  refine lv_topi (fun z_5 ez_5 => ?_)
  obtain rfl : z_5 = nI (5 * k + 1) := ez_5.trans (nI_1 (5 * k))
  refine va_sld hx hb hX8.1 hX8.2.1 hX8.2.2 hS (vp_in_nI (by omega) (by decide)) dL_law_266 ?_
  refine lv_topi (fun z_6 ez_6 => ?_)
  obtain rfl : z_6 = 0 := ez_6.trans (by rw [nI_clamp (by omega)]; exact (hxs.1 k hk).2.1)
  refine lv_aload_n hx hb dL_law_267 rfl (lv_at hl 4 rfl) ?_
  refine lv_iload hx hb dL_law_268 (lv_at hl 0 rfl) ?_
  refine lv_iconst (v := 2) hx hb dL_law_270 (by decide) ?_
  refine lv_iadd hx hb dL_law_271 ?_
  refine lv_topi (fun z_7 ez_7 => ?_)
  obtain rfl : z_7 = nI (5 * k + 2) := ez_7.trans (by rw [show (2 : Int32) = nI 2 from rfl, nI_add])
  refine va_sld hx hb hX8.1 hX8.2.1 hX8.2.2 hS (vp_in_nI (by omega) (by decide)) dL_law_272 ?_
  refine lv_topi (fun z_8 ez_8 => ?_)
  obtain rfl : z_8 = (nI (10 + k)) := ez_8.trans (by rw [nI_clamp (by omega)]; exact (hxs.1 k hk).2.2.1)
  refine lv_aload_n hx hb dL_law_273 rfl (lv_at hl 4 rfl) ?_
  refine lv_iload hx hb dL_law_274 (lv_at hl 0 rfl) ?_
  refine lv_iconst (v := 3) hx hb dL_law_276 (by decide) ?_
  refine lv_iadd hx hb dL_law_277 ?_
  refine lv_topi (fun z_9 ez_9 => ?_)
  obtain rfl : z_9 = nI (5 * k + 3) := ez_9.trans (by rw [show (3 : Int32) = nI 3 from rfl, nI_add])
  refine va_sld hx hb hX8.1 hX8.2.1 hX8.2.2 hS (vp_in_nI (by omega) (by decide)) dL_law_278 ?_
  refine lv_topi (fun z_10 ez_10 => ?_)
  obtain rfl : z_10 = 99 := ez_10.trans (by rw [nI_clamp (by omega)]; exact (hxs.1 k hk).2.2.2)
  refine lv_aload_n hx hb dL_law_279 rfl (lv_at hl 1 rfl) ?_
  have hFc := va_free (wc := [(hh, .inr (7, [.ref tA, .int 0, sp, rx, pb, pg])), (tA, .inl (cB, 4, .inr (.inr (.inr (.inr T0))))), (tb, .inr (5, [.ref wo, .ref ti, .int (nI k), .ref wk, .int (-1)])), (wo, .inl (cW, 64, .inl g)), (ti, .inl (cT, 100, .inl tm)), (wk, .inr (6, [.int 0, .int 0, .int 0, .int 0, .int 0])), (oo, .inr (8, [.long on, os]))]) hD hS hA [0, 1, 2, 3, 4, 5, 6] rfl
  have hO0 := zz_out (X := fun A U => va_Nw (.fieldLinkNest RL 13 "HashladderLaw$Out" "n" "J" "HashladderLaw") U) (zz_St_FN RL 13 "HashladderLaw$Out" "n" "J" "HashladderLaw") hX7 hS hFc
  refine zz_after (wr := [(h, .inr (9, [.int 0, .ref ho, .ref hd, .ref hs, .ref hu, .ref hv, .int 0])), (ho, .inl (cR, 4, .inr (.inr (.inr (.inr R0))))), (y0, .inl (cI, 64, .inl f)), (hd, .inl (cD, 4, .inl fd))]) (vx_runSW (As := [.ref hh, .int 0, .int (nI (10 + k)), .int 99, .ref oo]) (rest := []) ⟨hx, hb, hml, hown, hts⟩ ((k_L_put l D hh tA 0 sp rx pb pg cB T0 tb wo ti k wk (-1) cW g cT tm 0 0 0 0 0 oo on os (10 + k) (hT0) (by omega) (hg.at hk) (by omega)) H.size) (vx_cwSW 5 hts gL_law_L_put rfl rfl rfl (by decide +kernel) ⟨Nat.le_of_ble_eq_true rfl, Nat.le_of_ble_eq_true rfl⟩) (zz_pre (av := [.ref hh, .int 0, .int (nI (10 + k)), .int 99, .ref oo]) (tyc := [(cB, .object "Hashladder$Table"), (cW, .int), (cT, .int)]) (wc := [(hh, .inr (7, [.ref tA, .int 0, sp, rx, pb, pg])), (tA, .inl (cB, 4, .inr (.inr (.inr (.inr T0))))), (tb, .inr (5, [.ref wo, .ref ti, .int (nI k), .ref wk, .int (-1)])), (wo, .inl (cW, 64, .inl g)), (ti, .inl (cT, 100, .inl tm)), (wk, .inr (6, [.int 0, .int 0, .int 0, .int 0, .int 0])), (oo, .inr (8, [.long on, os]))]) (X := fun _ _ => True) (Xc := (fun A U => va_Nw (.fieldLinkNest RL 13 "HashladderLaw$Out" "n" "J" "HashladderLaw") U)) hP hD hK hS [0, 1, 2, 3, 4, 5, 6] [0, 1, 2] rfl (by decide) rfl (zz_St_FN RL 13 "HashladderLaw$Out" "n" "J" "HashladderLaw") (fun U h1 h2 => hO0 U h1 h2)) rfl rfl hl.1 rfl (lv_room (Nat.le_of_ble_eq_true rfl)) dL_law_280 ⟨by show 39 + 0 ≤ 700000; omega, by show 1321 + 0 ≤ 300000000; omega⟩) hP hD hK hS hFc [0, 1, 2, 3, 4, 5, 6] [7, 8, 9, 10] rfl rfl (by decide) (by decide) (fun v w1 ty1 H1 locs hq9 hz9 hk9 hP1 hD1 hK1 hS1 => ?_)
  obtain ⟨tm2_11, on2_12, rfl, rfl, rfl⟩ := hq9
  clear hS hP hD hK hFc hO0
  have hP : va_P D vwCl [(h, .inr (9, [.int 0, .ref ho, .ref hd, .ref hs, .ref hu, .ref hv, .int 0])), (ho, .inl (cR, 4, .inr (.inr (.inr (.inr R0))))), (y0, .inl (cI, 64, .inl f)), (hd, .inl (cD, 4, .inl fd)), (hh, .inr (7, [.ref tA, .int 0, sp, rx, pb, pg])), (tA, .inl (cB, 4, .inr (.inr (.inr (.inr T0))))), (tb, .inr (5, [.ref wo, .ref ti, .int (nI (k + 1)), .ref wk, .int (-1)])), (wo, .inl (cW, 64, .inl (upd g (10 + k) 99))), (ti, .inl (cT, 100, .inl tm2_11)), (wk, .inr (6, [.int 0, .int 0, .int 0, .int 0, .int 0])), (oo, .inr (8, [.long on2_12, os]))] H1 := hP1
  have hD : va_D A [(h, .inr (9, [.int 0, .ref ho, .ref hd, .ref hs, .ref hu, .ref hv, .int 0])), (ho, .inl (cR, 4, .inr (.inr (.inr (.inr R0))))), (y0, .inl (cI, 64, .inl f)), (hd, .inl (cD, 4, .inl fd)), (hh, .inr (7, [.ref tA, .int 0, sp, rx, pb, pg])), (tA, .inl (cB, 4, .inr (.inr (.inr (.inr T0))))), (tb, .inr (5, [.ref wo, .ref ti, .int (nI (k + 1)), .ref wk, .int (-1)])), (wo, .inl (cW, 64, .inl (upd g (10 + k) 99))), (ti, .inl (cT, 100, .inl tm2_11)), (wk, .inr (6, [.int 0, .int 0, .int 0, .int 0, .int 0])), (oo, .inr (8, [.long on2_12, os]))] := hD1
  have hK : va_K D vwCl [(cB, .object "Hashladder$Table"), (cW, .int), (cT, .int), (cR, .array .int), (cI, .int), (cD, .int), (cB, .object "Hashladder$Table"), (cW, .int), (cT, .int)] s := hK1
  have hS := hS1
  clear hP1 hD1 hK1 hS1
  obtain ⟨H, rfl⟩ : ∃ z, z = H1 := ⟨_, rfl⟩
  refine W.eq (g2 := F0 mt0 283 ls [.int 0]) rfl ?_
  refine lv_istore (lv' := [(5, .int 0), (4, .int (nI (5 * k))), (3, .ref oo), (2, .ref h), (1, .ref hh), (0, .ref sb)]) hx hb dL_law_283 hl (by decide) rfl (fun ls hl => ?_)
  refine lv_aload_n hx hb dL_law_285 rfl (lv_at hl 3 rfl) ?_
  refine lv_aload_n hx hb dL_law_286 rfl (lv_at hl 5 rfl) ?_
  refine lv_iload hx hb dL_law_287 (lv_at hl 1 rfl) ?_
  refine lv_iconst (v := 1) hx hb dL_law_289 (by decide) ?_
  refine lv_iadd hx hb dL_law_290 ?_
  refine lv_topi (fun z_13 ez_13 => ?_)
  obtain rfl : z_13 = nI (5 * k + 1) := ez_13.trans (nI_1 (5 * k))
  refine va_sld hx hb hX8.1 hX8.2.1 hX8.2.2 hS (vp_in_nI (by omega) (by decide)) dL_law_291 ?_
  refine lv_topi (fun z_14 ez_14 => ?_)
  obtain rfl : z_14 = 0 := ez_14.trans (by rw [nI_clamp (by omega)]; exact (hxs.1 k hk).2.1)
  refine lv_aload_n hx hb dL_law_292 rfl (lv_at hl 5 rfl) ?_
  refine lv_iload hx hb dL_law_293 (lv_at hl 1 rfl) ?_
  refine lv_iconst (v := 2) hx hb dL_law_295 (by decide) ?_
  refine lv_iadd hx hb dL_law_296 ?_
  refine lv_topi (fun z_15 ez_15 => ?_)
  obtain rfl : z_15 = nI (5 * k + 2) := ez_15.trans (by rw [show (2 : Int32) = nI 2 from rfl, nI_add])
  refine va_sld hx hb hX8.1 hX8.2.1 hX8.2.2 hS (vp_in_nI (by omega) (by decide)) dL_law_297 ?_
  refine lv_topi (fun z_16 ez_16 => ?_)
  obtain rfl : z_16 = (nI (10 + k)) := ez_16.trans (by rw [nI_clamp (by omega)]; exact (hxs.1 k hk).2.2.1)
  refine lv_aload_n hx hb dL_law_298 rfl (lv_at hl 5 rfl) ?_
  refine lv_iload hx hb dL_law_299 (lv_at hl 1 rfl) ?_
  refine lv_iconst (v := 3) hx hb dL_law_301 (by decide) ?_
  refine lv_iadd hx hb dL_law_302 ?_
  refine lv_topi (fun z_17 ez_17 => ?_)
  obtain rfl : z_17 = nI (5 * k + 3) := ez_17.trans (by rw [show (3 : Int32) = nI 3 from rfl, nI_add])
  refine va_sld hx hb hX8.1 hX8.2.1 hX8.2.2 hS (vp_in_nI (by omega) (by decide)) dL_law_303 ?_
  refine lv_topi (fun z_18 ez_18 => ?_)
  obtain rfl : z_18 = 99 := ez_18.trans (by rw [nI_clamp (by omega)]; exact (hxs.1 k hk).2.2.2)
  have hFc := va_free (wc := [(h, .inr (9, [.int 0, .ref ho, .ref hd, .ref hs, .ref hu, .ref hv, .int 0])), (ho, .inl (cR, 4, .inr (.inr (.inr (.inr R0))))), (y0, .inl (cI, 64, .inl f)), (hd, .inl (cD, 4, .inl fd))]) hD hS hA [0, 1, 2, 3] rfl
  refine zz_after (wr := [(hh, .inr (7, [.ref tA, .int 0, sp, rx, pb, pg])), (tA, .inl (cB, 4, .inr (.inr (.inr (.inr T0))))), (tb, .inr (5, [.ref wo, .ref ti, .int (nI (k + 1)), .ref wk, .int (-1)])), (wo, .inl (cW, 64, .inl (upd g (10 + k) 99))), (ti, .inl (cT, 100, .inl tm2_11)), (wk, .inr (6, [.int 0, .int 0, .int 0, .int 0, .int 0])), (oo, .inr (8, [.long on2_12, os]))]) (va_runV (As := [.int 0, .int (nI (10 + k)), .int 99]) (rest := []) ⟨hx, hb, hml, hown, hts⟩ ((k_X5_put l D h 0 ho hd hs hu hv 0 cR R0 y0 cI f cD fd (10 + k) (hR) (by omega)) H.size) (cwV 3 hts gL_law_X5_put rfl rfl rfl (by decide +kernel) ⟨Nat.le_of_ble_eq_true rfl, Nat.le_of_ble_eq_true rfl⟩) (zz_pV (zz_pre (av := [.ref h, .int 0, .int (nI (10 + k)), .int 99]) (tyc := [(cR, .array .int), (cI, .int), (cD, .int)]) (wc := [(h, .inr (9, [.int 0, .ref ho, .ref hd, .ref hs, .ref hu, .ref hv, .int 0])), (ho, .inl (cR, 4, .inr (.inr (.inr (.inr R0))))), (y0, .inl (cI, 64, .inl f)), (hd, .inl (cD, 4, .inl fd))]) (X := fun _ _ => True) (Xc := (fun _ _ => True)) hP hD hK hS [0, 1, 2, 3] [3, 4, 5] rfl (by decide) rfl zz_St_tt (fun _ _ _ => trivial)) (va_recv hK hP (ci := 9) (q0 := 0) rfl rfl)) rfl rfl hl.1 rfl (lv_room (Nat.le_of_ble_eq_true rfl)) dL_law_304 ⟨by show 39 + 0 + 0 ≤ 700000; omega, by show 1321 + 0 + 0 ≤ 300000000; omega⟩) hP hD hK hS hFc [0, 1, 2, 3] [4, 5, 6, 7, 8, 9, 10] rfl rfl (by decide) (by decide) (fun v w1 ty1 H1 locs hq9 hz9 hk9 hP1 hD1 hK1 hS1 => ?_)
  obtain ⟨f2_19, rfl, rfl, rfl⟩ := hq9
  clear hS hP hD hK hFc
  have hP : va_P D vwCl [(hh, .inr (7, [.ref tA, .int 0, sp, rx, pb, pg])), (tA, .inl (cB, 4, .inr (.inr (.inr (.inr T0))))), (tb, .inr (5, [.ref wo, .ref ti, .int (nI (k + 1)), .ref wk, .int (-1)])), (wo, .inl (cW, 64, .inl (upd g (10 + k) 99))), (ti, .inl (cT, 100, .inl tm2_11)), (wk, .inr (6, [.int 0, .int 0, .int 0, .int 0, .int 0])), (oo, .inr (8, [.long on2_12, os])), (h, .inr (9, [.int 0, .ref ho, .ref hd, .ref hs, .ref hu, .ref hv, .int 0])), (ho, .inl (cR, 4, .inr (.inr (.inr (.inr R0))))), (y0, .inl (cI, 64, .inl (upd f (10 + k) 99))), (hd, .inl (cD, 4, .inl f2_19))] H1 := hP1
  have hD : va_D A [(hh, .inr (7, [.ref tA, .int 0, sp, rx, pb, pg])), (tA, .inl (cB, 4, .inr (.inr (.inr (.inr T0))))), (tb, .inr (5, [.ref wo, .ref ti, .int (nI (k + 1)), .ref wk, .int (-1)])), (wo, .inl (cW, 64, .inl (upd g (10 + k) 99))), (ti, .inl (cT, 100, .inl tm2_11)), (wk, .inr (6, [.int 0, .int 0, .int 0, .int 0, .int 0])), (oo, .inr (8, [.long on2_12, os])), (h, .inr (9, [.int 0, .ref ho, .ref hd, .ref hs, .ref hu, .ref hv, .int 0])), (ho, .inl (cR, 4, .inr (.inr (.inr (.inr R0))))), (y0, .inl (cI, 64, .inl (upd f (10 + k) 99))), (hd, .inl (cD, 4, .inl f2_19))] := hD1
  have hK : va_K D vwCl [(cB, .object "Hashladder$Table"), (cW, .int), (cT, .int), (cR, .array .int), (cI, .int), (cD, .int), (cB, .object "Hashladder$Table"), (cW, .int), (cT, .int), (cR, .array .int), (cI, .int), (cD, .int)] s := hK1
  have hS := hS1
  clear hP1 hD1 hK1 hS1
  obtain ⟨H, rfl⟩ : ∃ z, z = H1 := ⟨_, rfl⟩
  refine W.eq (g2 := F0 mt0 307 ls [.int (f (10 + k))]) rfl ?_
  refine lv_istore (lv' := [(6, .int (f (10 + k))), (5, .int 0), (4, .int (nI (5 * k))), (3, .ref oo), (2, .ref h), (1, .ref hh), (0, .ref sb)]) hx hb dL_law_307 hl (by decide) rfl (fun ls hl => ?_)
  refine lv_goto (tgt := 2383) hx hb dL_law_309 (by decide) ?_
  refine lv_iinc (v := (nI (5 * (k + 1)))) (lv' := [(4, .int (nI (5 * (k + 1)))), (6, .int (f (10 + k))), (5, .int 0), (3, .ref oo), (2, .ref h), (1, .ref hh), (0, .ref sb)]) hx hb dL_law_2383 hl (k := 2) rfl (by rw [show Int32.ofInt 5 = nI 5 from by decide, nI_add]; exact congrArg nI (by omega)) (by decide) rfl (fun ls hl => ?_)
  refine lv_goto (tgt := 27) hx hb dL_law_2386 (by decide) ?_
  refine W.widen (k := 39) (n := 1321) (by show 39 + 0 + 0 ≤ _; omega) (by show 1321 + 0 + 0 ≤ _; omega) ?_
  exact kk _ _ _ _ _ _ _ _ hg.up hf.up (hK.sub [0, 1, 2, 3, 4, 5] rfl) (hP.sub (ws' := [(hh, .inr (7, [.ref tA, .int 0, sp, rx, pb, pg])), (tA, .inl (cB, 4, .inr (.inr (.inr (.inr T0))))), (tb, .inr (5, [.ref wo, .ref ti, .int (nI (k + 1)), .ref wk, .int (-1)])), (wo, .inl (cW, 64, .inl (upd g (10 + k) 99))), (ti, .inl (cT, 100, .inl tm2_11)), (wk, .inr (6, [.int 0, .int 0, .int 0, .int 0, .int 0])), (oo, .inr (8, [.long on2_12, os])), (h, .inr (9, [.int 0, .ref ho, .ref hd, .ref hs, .ref hu, .ref hv, .int 0])), (ho, .inl (cR, 4, .inr (.inr (.inr (.inr R0))))), (y0, .inl (cI, 64, .inl (upd f (10 + k) 99))), (hd, .inl (cD, 4, .inl f2_19))]) [0, 1, 2, 3, 4, 5, 6, 7, 8, 9, 10] rfl) (hD.sub (ws' := [(hh, .inr (7, [.ref tA, .int 0, sp, rx, pb, pg])), (tA, .inl (cB, 4, .inr (.inr (.inr (.inr T0))))), (tb, .inr (5, [.ref wo, .ref ti, .int (nI (k + 1)), .ref wk, .int (-1)])), (wo, .inl (cW, 64, .inl (upd g (10 + k) 99))), (ti, .inl (cT, 100, .inl tm2_11)), (wk, .inr (6, [.int 0, .int 0, .int 0, .int 0, .int 0])), (oo, .inr (8, [.long on2_12, os])), (h, .inr (9, [.int 0, .ref ho, .ref hd, .ref hs, .ref hu, .ref hv, .int 0])), (ho, .inl (cR, 4, .inr (.inr (.inr (.inr R0))))), (y0, .inl (cI, 64, .inl (upd f (10 + k) 99))), (hd, .inl (cD, 4, .inl f2_19))]) [0, 1, 2, 3, 4, 5, 6, 7, 8, 9, 10] (by decide) rfl) hS (lv_sub hl [0, 3, 4, 5, 6] rfl)
set_option maxHeartbeats 4000000 in
theorem lp_L {p0 : Program} {l : Launch} {e0 : Env} {s : State} {mt0 : MethodId} {args : Array Value} {bl0 : List Frame} {meth0 : Method} {cd0 : Code} {Q : State → Prop} {A : Nat → Prop} (D : va_G) (sb : Nat) (xs : Nat → Int32) (hh : Nat) (tA : Nat) (sp : Value) (rx : Value) (pb : Value) (pg : Value) (cB : ClassId) (T0 : Nat → Option Nat) (tb : Nat) (wo : Nat) (ti : Nat) (wk : Nat) (cW : ClassId) (cT : ClassId) (oo : Nat) (os : Value) (h : Nat) (ho : Nat) (hd : Nat) (hs : Nat) (hu : Nat) (hv : Nat) (cR : ClassId) (R0 : Nat → Option Nat) (y0 : Nat) (cI : ClassId) (cD : ClassId) (qe : Nat) (be : Nat) (fe : Nat → Int32) (qq : Nat) (bq : Nat) (fq : Nat → Int32) (qs : Nat) (bs : Nat) (fs : Nat → Int32) (hC : zz_C p0 s mt0 meth0 cd0 args RL cL_law 7 (some .boolean) zz_ws) (hX0 : zz_G A s) (hX1 : zz_S qe be 0 fe A s) (hX2 : vk_R RX5 116 "" qe s) (hX3 : zz_S qq bq 1 fq A s) (hX4 : vk_R RX5 134 "=" qq s) (hX5 : zz_S qs bs 2 fs A s) (hX6 : vk_R RX5 152 ", " qs s) (hX7 : va_Nw (.fieldLinkNest RL 13 "HashladderLaw$Out" "n" "J" "HashladderLaw") s) (hX8 : (va_X sb 2520 xs s s.heap ∧ sb < s.heap.size ∧ ¬ A sb)) (hA : ∀ q, s.heap.size ≤ q → A q) (hT0 : T0 0 = some tb) (hR : R0 0 = some y0) (hxs : zz_X xs) (kk : ∀ (g' f' tm' fd' : Nat → Int32) (on' : Int64) (H' : Heap) (locs' : List Loc) (ls' : Array Slot), zz_I g' 54 → zz_I f' 54 → va_K D vwCl [(cB, .object "Hashladder$Table"), (cW, .int), (cT, .int), (cR, .array .int), (cI, .int), (cD, .int)] s → va_P D vwCl [(hh, .inr (7, [.ref tA, .int 0, sp, rx, pb, pg])), (tA, .inl (cB, 4, .inr (.inr (.inr (.inr T0))))), (tb, .inr (5, [.ref wo, .ref ti, .int (nI 54), .ref wk, .int (-1)])), (wo, .inl (cW, 64, .inl g')), (ti, .inl (cT, 100, .inl tm')), (wk, .inr (6, [.int 0, .int 0, .int 0, .int 0, .int 0])), (oo, .inr (8, [.long on', os])), (h, .inr (9, [.int 0, .ref ho, .ref hd, .ref hs, .ref hu, .ref hv, .int 0])), (ho, .inl (cR, 4, .inr (.inr (.inr (.inr R0))))), (y0, .inl (cI, 64, .inl f')), (hd, .inl (cD, 4, .inl fd'))] H' → va_D A [(hh, .inr (7, [.ref tA, .int 0, sp, rx, pb, pg])), (tA, .inl (cB, 4, .inr (.inr (.inr (.inr T0))))), (tb, .inr (5, [.ref wo, .ref ti, .int (nI 54), .ref wk, .int (-1)])), (wo, .inl (cW, 64, .inl g')), (ti, .inl (cT, 100, .inl tm')), (wk, .inr (6, [.int 0, .int 0, .int 0, .int 0, .int 0])), (oo, .inr (8, [.long on', os])), (h, .inr (9, [.int 0, .ref ho, .ref hd, .ref hs, .ref hu, .ref hv, .int 0])), (ho, .inl (cR, 4, .inr (.inr (.inr (.inr R0))))), (y0, .inl (cI, 64, .inl f')), (hd, .inl (cD, 4, .inl fd'))] → va_S A s.heap H' locs' → lv_has ls' 7 [(4, .int (nI (5 * 54))), (3, .ref oo), (2, .ref h), (1, .ref hh), (0, .ref sb)] → W p0 l e0 ({ frames := 2048, cells := 700000, slots := 300000000, locals := 84000 } : Room) s mt0 args bl0 meth0 cd0 H' locs' (39) (1321) Q (F0 mt0 27 ls' [])) : ∀ (n k : Nat), k + n = 54 → ∀ (g' f' tm' fd' : Nat → Int32) (on' : Int64) (H' : Heap) (locs' : List Loc) (ls' : Array Slot), zz_I g' k → zz_I f' k → va_K D vwCl [(cB, .object "Hashladder$Table"), (cW, .int), (cT, .int), (cR, .array .int), (cI, .int), (cD, .int)] s → va_P D vwCl [(hh, .inr (7, [.ref tA, .int 0, sp, rx, pb, pg])), (tA, .inl (cB, 4, .inr (.inr (.inr (.inr T0))))), (tb, .inr (5, [.ref wo, .ref ti, .int (nI k), .ref wk, .int (-1)])), (wo, .inl (cW, 64, .inl g')), (ti, .inl (cT, 100, .inl tm')), (wk, .inr (6, [.int 0, .int 0, .int 0, .int 0, .int 0])), (oo, .inr (8, [.long on', os])), (h, .inr (9, [.int 0, .ref ho, .ref hd, .ref hs, .ref hu, .ref hv, .int 0])), (ho, .inl (cR, 4, .inr (.inr (.inr (.inr R0))))), (y0, .inl (cI, 64, .inl f')), (hd, .inl (cD, 4, .inl fd'))] H' → va_D A [(hh, .inr (7, [.ref tA, .int 0, sp, rx, pb, pg])), (tA, .inl (cB, 4, .inr (.inr (.inr (.inr T0))))), (tb, .inr (5, [.ref wo, .ref ti, .int (nI k), .ref wk, .int (-1)])), (wo, .inl (cW, 64, .inl g')), (ti, .inl (cT, 100, .inl tm')), (wk, .inr (6, [.int 0, .int 0, .int 0, .int 0, .int 0])), (oo, .inr (8, [.long on', os])), (h, .inr (9, [.int 0, .ref ho, .ref hd, .ref hs, .ref hu, .ref hv, .int 0])), (ho, .inl (cR, 4, .inr (.inr (.inr (.inr R0))))), (y0, .inl (cI, 64, .inl f')), (hd, .inl (cD, 4, .inl fd'))] → va_S A s.heap H' locs' → lv_has ls' 7 [(4, .int (nI (5 * k))), (3, .ref oo), (2, .ref h), (1, .ref hh), (0, .ref sb)] → W p0 l e0 ({ frames := 2048, cells := 700000, slots := 300000000, locals := 84000 } : Room) s mt0 args bl0 meth0 cd0 H' locs' (39) (1321) Q (F0 mt0 27 ls' []) := by
  intro n
  induction n with
  | zero => intro k hk
            obtain rfl : k = 54 := by omega
            exact kk
  | succ n ih => intro k hk g f tm fd on H locs ls hg hf hK hP hD hS hl
                 exact lp_S D sb xs hh tA sp rx pb pg cB T0 tb wo ti wk cW cT oo os h ho hd hs hu hv cR R0 y0 cI cD qe be fe qq bq fq qs bs fs k g f tm fd on hC hX0 hX1 hX2 hX3 hX4 hX5 hX6 hX7 hX8 hA hK hP hD hS hl hT0 hR hxs (by omega) hg hf (ih (k + 1) (by omega))
set_option maxHeartbeats 4000000 in
set_option maxRecDepth 100000 in
theorem lw_S {p0 : Program} {l : Launch} {e0 : Env} {s : State} {mt0 : MethodId} {args : Array Value} {bl0 : List Frame} {meth0 : Method} {cd0 : Code} {Q : State → Prop} {A : Nat → Prop} {H : Heap} {locs : List Loc} {ls : Array Slot} (D : va_G) (sb : Nat) (xs : Nat → Int32) (hh : Nat) (tA : Nat) (sp : Value) (rx : Value) (pb : Value) (pg : Value) (cB : ClassId) (T0 : Nat → Option Nat) (tb : Nat) (wo : Nat) (ti : Nat) (wk : Nat) (cW : ClassId) (cT : ClassId) (oo : Nat) (os : Value) (h : Nat) (ho : Nat) (hd : Nat) (hs : Nat) (hu : Nat) (hv : Nat) (cR : ClassId) (R0 : Nat → Option Nat) (y0 : Nat) (cI : ClassId) (cD : ClassId) (qe : Nat) (be : Nat) (fe : Nat → Int32) (qq : Nat) (bq : Nat) (fq : Nat → Int32) (qs : Nat) (bs : Nat) (fs : Nat → Int32) (k : Nat) (g f tm fd : Nat → Int32) (on : Int64) (Lg : List Nat) (hC : zz_C p0 s mt0 meth0 cd0 args RL cL_law 7 (some .boolean) zz_ws) (hX0 : zz_G A s) (hX1 : zz_S qe be 0 fe A s) (hX2 : vk_R RX5 116 "" qe s) (hX3 : zz_S qq bq 1 fq A s) (hX4 : vk_R RX5 134 "=" qq s) (hX5 : zz_S qs bs 2 fs A s) (hX6 : vk_R RX5 152 ", " qs s) (hX7 : va_Nw (.fieldLinkNest RL 13 "HashladderLaw$Out" "n" "J" "HashladderLaw") s) (hX8 : (va_X sb 2520 xs s s.heap ∧ sb < s.heap.size ∧ ¬ A sb)) (hA : ∀ q, s.heap.size ≤ q → A q) (hK : va_K D vwCl [(cB, .object "Hashladder$Table"), (cW, .int), (cT, .int), (cR, .array .int), (cI, .int), (cD, .int)] s) (hP : va_P D vwCl [(hh, .inr (7, [.ref tA, .int 0, sp, rx, pb, pg])), (tA, .inl (cB, 4, .inr (.inr (.inr (.inr T0))))), (tb, .inr (5, [.ref wo, .ref ti, .int (nI 54), .ref wk, .int (-1)])), (wo, .inl (cW, 64, .inl g)), (ti, .inl (cT, 100, .inl tm)), (wk, .inr (6, [.int 0, .int 0, .int 0, .int 0, .int 0])), (oo, .inr (8, [.long on, os])), (h, .inr (9, [.int 0, .ref ho, .ref hd, .ref hs, .ref hu, .ref hv, .int 0])), (ho, .inl (cR, 4, .inr (.inr (.inr (.inr R0))))), (y0, .inl (cI, 64, .inl f)), (hd, .inl (cD, 4, .inl fd))] H) (hD : va_D A [(hh, .inr (7, [.ref tA, .int 0, sp, rx, pb, pg])), (tA, .inl (cB, 4, .inr (.inr (.inr (.inr T0))))), (tb, .inr (5, [.ref wo, .ref ti, .int (nI 54), .ref wk, .int (-1)])), (wo, .inl (cW, 64, .inl g)), (ti, .inl (cT, 100, .inl tm)), (wk, .inr (6, [.int 0, .int 0, .int 0, .int 0, .int 0])), (oo, .inr (8, [.long on, os])), (h, .inr (9, [.int 0, .ref ho, .ref hd, .ref hs, .ref hu, .ref hv, .int 0])), (ho, .inl (cR, 4, .inr (.inr (.inr (.inr R0))))), (y0, .inl (cI, 64, .inl f)), (hd, .inl (cD, 4, .inl fd))]) (hS : va_S A s.heap H locs) (hl : lv_has ls 7 [(4, .int (nI (5 * (54 + k)))), (3, .ref oo), (2, .ref h), (1, .ref hh), (0, .ref sb)]) (hT0 : T0 0 = some tb) (hR : R0 0 = some y0) (hxs : zz_X xs) (hk : k < 450) (hg : zz_I g 54) (hf : zz_I f 54) (hL : zz_L Lg s.heap.size H (20252 * k)) (hd9 : zz_d Lg [(hh, .inr (7, [.ref tA, .int 0, sp, rx, pb, pg])), (tA, .inl (cB, 4, .inr (.inr (.inr (.inr T0))))), (tb, .inr (5, [.ref wo, .ref ti, .int (nI 54), .ref wk, .int (-1)])), (wo, .inl (cW, 64, .inl g)), (ti, .inl (cT, 100, .inl tm)), (wk, .inr (6, [.int 0, .int 0, .int 0, .int 0, .int 0])), (oo, .inr (8, [.long on, os])), (h, .inr (9, [.int 0, .ref ho, .ref hd, .ref hs, .ref hu, .ref hv, .int 0])), (ho, .inl (cR, 4, .inr (.inr (.inr (.inr R0))))), (y0, .inl (cI, 64, .inl f)), (hd, .inl (cD, 4, .inl fd))]) (kk : ∀ (on' : Int64) (L' : List Nat) (H' : Heap) (locs' : List Loc) (ls' : Array Slot), va_K D vwCl [(cB, .object "Hashladder$Table"), (cW, .int), (cT, .int), (cR, .array .int), (cI, .int), (cD, .int)] s → va_P D vwCl [(hh, .inr (7, [.ref tA, .int 0, sp, rx, pb, pg])), (tA, .inl (cB, 4, .inr (.inr (.inr (.inr T0))))), (tb, .inr (5, [.ref wo, .ref ti, .int (nI 54), .ref wk, .int (-1)])), (wo, .inl (cW, 64, .inl g)), (ti, .inl (cT, 100, .inl tm)), (wk, .inr (6, [.int 0, .int 0, .int 0, .int 0, .int 0])), (oo, .inr (8, [.long on', os])), (h, .inr (9, [.int 0, .ref ho, .ref hd, .ref hs, .ref hu, .ref hv, .int 0])), (ho, .inl (cR, 4, .inr (.inr (.inr (.inr R0))))), (y0, .inl (cI, 64, .inl f)), (hd, .inl (cD, 4, .inl fd))] H' → va_D A [(hh, .inr (7, [.ref tA, .int 0, sp, rx, pb, pg])), (tA, .inl (cB, 4, .inr (.inr (.inr (.inr T0))))), (tb, .inr (5, [.ref wo, .ref ti, .int (nI 54), .ref wk, .int (-1)])), (wo, .inl (cW, 64, .inl g)), (ti, .inl (cT, 100, .inl tm)), (wk, .inr (6, [.int 0, .int 0, .int 0, .int 0, .int 0])), (oo, .inr (8, [.long on', os])), (h, .inr (9, [.int 0, .ref ho, .ref hd, .ref hs, .ref hu, .ref hv, .int 0])), (ho, .inl (cR, 4, .inr (.inr (.inr (.inr R0))))), (y0, .inl (cI, 64, .inl f)), (hd, .inl (cD, 4, .inl fd))] → va_S A s.heap H' locs' → lv_has ls' 7 [(4, .int (nI (5 * (54 + (k + 1))))), (3, .ref oo), (2, .ref h), (1, .ref hh), (0, .ref sb)] → zz_L L' s.heap.size H' (20252 * (k + 1)) → zz_d L' [(hh, .inr (7, [.ref tA, .int 0, sp, rx, pb, pg])), (tA, .inl (cB, 4, .inr (.inr (.inr (.inr T0))))), (tb, .inr (5, [.ref wo, .ref ti, .int (nI 54), .ref wk, .int (-1)])), (wo, .inl (cW, 64, .inl g)), (ti, .inl (cT, 100, .inl tm)), (wk, .inr (6, [.int 0, .int 0, .int 0, .int 0, .int 0])), (oo, .inr (8, [.long on', os])), (h, .inr (9, [.int 0, .ref ho, .ref hd, .ref hs, .ref hu, .ref hv, .int 0])), (ho, .inl (cR, 4, .inr (.inr (.inr (.inr R0))))), (y0, .inl (cI, 64, .inl f)), (hd, .inl (cD, 4, .inl fd))] → W p0 l e0 ({ frames := 2048, cells := 700000, slots := 300000000, locals := 84000 } : Room) s mt0 args bl0 meth0 cd0 H' locs' (39 + 486 * (k + 1)) (1321 + 487296 * (k + 1)) Q (F0 mt0 27 ls' [])) : W p0 l e0 ({ frames := 2048, cells := 700000, slots := 300000000, locals := 84000 } : Room) s mt0 args bl0 meth0 cd0 H locs (39 + 486 * k) (1321 + 487296 * k) Q (F0 mt0 27 ls []) := by
  obtain ⟨hx, hb, hml, hr, hown, hts, hlocks⟩ := hC
  have hDB := hD.self (sz := H.size)
  obtain ⟨B, hB⟩ : ∃ z, z = va_A [(hh, .inr (7, [.ref tA, .int 0, sp, rx, pb, pg])), (tA, .inl (cB, 4, .inr (.inr (.inr (.inr T0))))), (tb, .inr (5, [.ref wo, .ref ti, .int (nI 54), .ref wk, .int (-1)])), (wo, .inl (cW, 64, .inl g)), (ti, .inl (cT, 100, .inl tm)), (wk, .inr (6, [.int 0, .int 0, .int 0, .int 0, .int 0])), (oo, .inr (8, [.long on, os])), (h, .inr (9, [.int 0, .ref ho, .ref hd, .ref hs, .ref hu, .ref hv, .int 0])), (ho, .inl (cR, 4, .inr (.inr (.inr (.inr R0))))), (y0, .inl (cI, 64, .inl f)), (hd, .inl (cD, 4, .inl fd))] H.size := ⟨_, rfl⟩
  rw [← hB] at hDB
  obtain ⟨Hk, hHk⟩ : ∃ z, z = H := ⟨_, rfl⟩
  have hBge : ∀ q, Hk.size ≤ q → B q := by intro q h; rw [hB, ← hHk]; exact Or.inr h
  have hT : zz_T B Hk H := by rw [hHk]; exact zz_T.rf
  rw [← hHk] at hB hL
  refine lv_iload hx hb dL_law_27 (lv_at hl 0 rfl) ?_
  refine lv_aload_n hx hb dL_law_29 rfl (lv_at hl 4 rfl) ?_
  refine va_slen hx hb hX8.1 hX8.2.1 hX8.2.2 hS dL_law_30 ?_
  refine lv_iconst (v := 5) hx hb dL_law_31 (by decide) ?_
  refine lv_isub hx hb dL_law_32 ?_
  refine lv_topi (fun z_1 ez_1 => ?_)
  obtain rfl : z_1 = nI 2515 := ez_1.trans (by decide)
  refine lv_icmp_gt (tgt := 2389) hx hb dL_law_33 (by decide) (fun c_2 => absurd c_2 (nI_nlt (by omega) (by decide))) (fun c_2 => ?_)
  refine lv_aload_n hx hb dL_law_36 rfl (lv_at hl 4 rfl) ?_
  refine lv_iload hx hb dL_law_37 (lv_at hl 0 rfl) ?_
  refine va_sld hx hb hX8.1 hX8.2.1 hX8.2.2 hS (vp_in_nI (by omega) (by decide)) dL_law_39 ?_
  refine lv_topi (fun z_3 ez_3 => ?_)
  obtain rfl : z_3 = 33 := ez_3.trans (by rw [nI_clamp (by omega)]; exact (hxs.2 k hk).1)
  refine lv_bipush (v := 63) hx hb dL_law_40 (by decide) ?_
  refine lv_iand hx hb dL_law_42 ?_
  refine lv_topi (fun z_4 ez_4 => ?_)
  obtain rfl : z_4 = 33 := ez_4.trans (by decide)
  refine lv_tableIn (off := 1717) (tgt := 1760) hx hb dL_law_43 (by decide) (by decide) (by decide +kernel) (by decide) ?_
  refine lv_aload_n hx hb dL_law_1760 rfl (lv_at hl 3 rfl) ?_
  refine lv_aload_n hx hb dL_law_1761 rfl (lv_at hl 4 rfl) ?_
  refine lv_iload hx hb dL_law_1762 (lv_at hl 0 rfl) ?_
  refine lv_iconst (v := 1) hx hb dL_law_1764 (by decide) ?_
  refine lv_iadd hx hb dL_law_1765 ?_
  refine lv_topi (fun z_5 ez_5 => ?_)
  obtain rfl : z_5 = nI (5 * (54 + k) + 1) := ez_5.trans (nI_1 (5 * (54 + k)))
  refine va_sld hx hb hX8.1 hX8.2.1 hX8.2.2 hS (vp_in_nI (by omega) (by decide)) dL_law_1766 ?_
  refine lv_topi (fun z_6 ez_6 => ?_)
  obtain rfl : z_6 = 0 := ez_6.trans (by rw [nI_clamp (by omega)]; exact (hxs.2 k hk).2)
  refine lv_aload_n hx hb dL_law_1767 rfl (lv_at hl 1 rfl) ?_
  have hFc := zz_free (wc := [(hh, .inr (7, [.ref tA, .int 0, sp, rx, pb, pg])), (tA, .inl (cB, 4, .inr (.inr (.inr (.inr T0))))), (tb, .inr (5, [.ref wo, .ref ti, .int (nI 54), .ref wk, .int (-1)])), (wo, .inl (cW, 64, .inl g)), (oo, .inr (8, [.long on, os]))]) hD (fun q h => hA q (Nat.le_trans hS.1 h)) [0, 1, 2, 3, 6] rfl
  have hFB := zz_free (wc := [(hh, .inr (7, [.ref tA, .int 0, sp, rx, pb, pg])), (tA, .inl (cB, 4, .inr (.inr (.inr (.inr T0))))), (tb, .inr (5, [.ref wo, .ref ti, .int (nI 54), .ref wk, .int (-1)])), (wo, .inl (cW, 64, .inl g)), (oo, .inr (8, [.long on, os]))]) hDB (fun q h => hBge q (Nat.le_trans hT.1 h)) [0, 1, 2, 3, 6] rfl
  have hO0 := zz_out (X := fun A U => va_Nw (.fieldLinkNest RL 13 "HashladderLaw$Out" "n" "J" "HashladderLaw") U) (zz_St_FN RL 13 "HashladderLaw$Out" "n" "J" "HashladderLaw") hX7 hS hFc
  refine zz_after0 (wr := [(ti, .inl (cT, 100, .inl tm)), (wk, .inr (6, [.int 0, .int 0, .int 0, .int 0, .int 0])), (h, .inr (9, [.int 0, .ref ho, .ref hd, .ref hs, .ref hu, .ref hv, .int 0])), (ho, .inl (cR, 4, .inr (.inr (.inr (.inr R0))))), (y0, .inl (cI, 64, .inl f)), (hd, .inl (cD, 4, .inl fd))]) (vx_runSW (As := [.ref hh, .int 0, .ref oo]) (rest := []) ⟨hx, hb, hml, hown, hts⟩ ((k_L_width l D hh tA 0 sp rx pb pg cB T0 tb wo ti wk (-1) cW g oo on os (hT0) (hg.lo) (hg.hi)) H.size) (vx_cwSW 3 hts gL_law_L_width rfl rfl rfl (by decide +kernel) ⟨Nat.le_of_ble_eq_true rfl, Nat.le_of_ble_eq_true rfl⟩) (zz_pre (av := [.ref hh, .int 0, .ref oo]) (tyc := [(cB, .object "Hashladder$Table"), (cW, .int)]) (wc := [(hh, .inr (7, [.ref tA, .int 0, sp, rx, pb, pg])), (tA, .inl (cB, 4, .inr (.inr (.inr (.inr T0))))), (tb, .inr (5, [.ref wo, .ref ti, .int (nI 54), .ref wk, .int (-1)])), (wo, .inl (cW, 64, .inl g)), (oo, .inr (8, [.long on, os]))]) (X := fun _ _ => True) (Xc := (fun A U => va_Nw (.fieldLinkNest RL 13 "HashladderLaw$Out" "n" "J" "HashladderLaw") U)) hP hD hK hS [0, 1, 2, 3, 6] [0, 1] rfl (by decide) rfl (zz_St_FN RL 13 "HashladderLaw$Out" "n" "J" "HashladderLaw") (fun U h1 h2 => hO0 U h1 h2)) rfl rfl hl.1 rfl (lv_room (Nat.le_of_ble_eq_true rfl)) dL_law_1768 ⟨by show 39 + 486 * k + 0 ≤ 700000; omega, by show 1321 + 487296 * k + 0 ≤ 300000000; omega⟩) hP hD hK hFc [0, 1, 2, 3, 6] [4, 5, 7, 8, 9, 10] rfl rfl (by decide) (by decide) (fun v w1 ty1 H1 L9 hq9 hz9 hk9 hL9 hP1 hDf hK1 => ?_)
  have hS1 := zz_S1 hS hz9 hk9 hFc hL9
  have hT1 := hT.go hz9 hk9 hFB
  have hD1 := hDf A hD hFc
  have hDB1 := hDf B hDB hFB
  obtain ⟨locs, elocs⟩ : ∃ z, z = locs ++ L9 := ⟨_, rfl⟩
  rw [← elocs] at hS1 ⊢
  clear elocs hz9 hk9 hL9 hDf
  obtain ⟨on2_7, rfl, rfl, rfl⟩ := hq9
  clear hS hP hD hK hFc hO0 hT hDB hFB
  have hP : va_P D vwCl [(ti, .inl (cT, 100, .inl tm)), (wk, .inr (6, [.int 0, .int 0, .int 0, .int 0, .int 0])), (h, .inr (9, [.int 0, .ref ho, .ref hd, .ref hs, .ref hu, .ref hv, .int 0])), (ho, .inl (cR, 4, .inr (.inr (.inr (.inr R0))))), (y0, .inl (cI, 64, .inl f)), (hd, .inl (cD, 4, .inl fd)), (hh, .inr (7, [.ref tA, .int 0, sp, rx, pb, pg])), (tA, .inl (cB, 4, .inr (.inr (.inr (.inr T0))))), (tb, .inr (5, [.ref wo, .ref ti, .int (nI 54), .ref wk, .int (-1)])), (wo, .inl (cW, 64, .inl g)), (oo, .inr (8, [.long on2_7, os]))] H1 := hP1
  have hD : va_D A [(ti, .inl (cT, 100, .inl tm)), (wk, .inr (6, [.int 0, .int 0, .int 0, .int 0, .int 0])), (h, .inr (9, [.int 0, .ref ho, .ref hd, .ref hs, .ref hu, .ref hv, .int 0])), (ho, .inl (cR, 4, .inr (.inr (.inr (.inr R0))))), (y0, .inl (cI, 64, .inl f)), (hd, .inl (cD, 4, .inl fd)), (hh, .inr (7, [.ref tA, .int 0, sp, rx, pb, pg])), (tA, .inl (cB, 4, .inr (.inr (.inr (.inr T0))))), (tb, .inr (5, [.ref wo, .ref ti, .int (nI 54), .ref wk, .int (-1)])), (wo, .inl (cW, 64, .inl g)), (oo, .inr (8, [.long on2_7, os]))] := hD1
  have hK : va_K D vwCl [(cB, .object "Hashladder$Table"), (cW, .int), (cT, .int), (cR, .array .int), (cI, .int), (cD, .int), (cB, .object "Hashladder$Table"), (cW, .int)] s := hK1
  have hS := hS1
  have hT := hT1
  have hDB : va_D B [(ti, .inl (cT, 100, .inl tm)), (wk, .inr (6, [.int 0, .int 0, .int 0, .int 0, .int 0])), (h, .inr (9, [.int 0, .ref ho, .ref hd, .ref hs, .ref hu, .ref hv, .int 0])), (ho, .inl (cR, 4, .inr (.inr (.inr (.inr R0))))), (y0, .inl (cI, 64, .inl f)), (hd, .inl (cD, 4, .inl fd)), (hh, .inr (7, [.ref tA, .int 0, sp, rx, pb, pg])), (tA, .inl (cB, 4, .inr (.inr (.inr (.inr T0))))), (tb, .inr (5, [.ref wo, .ref ti, .int (nI 54), .ref wk, .int (-1)])), (wo, .inl (cW, 64, .inl g)), (oo, .inr (8, [.long on2_7, os]))] := hDB1
  clear hT1 hDB1
  clear hP1 hD1 hK1 hS1
  obtain ⟨H, rfl⟩ : ∃ z, z = H1 := ⟨_, rfl⟩
  refine W.eq (g2 := F0 mt0 1771 ls [.int 0]) rfl ?_
  refine lv_istore (lv' := [(5, .int 0), (4, .int (nI (5 * (54 + k)))), (3, .ref oo), (2, .ref h), (1, .ref hh), (0, .ref sb)]) hx hb dL_law_1771 hl (by decide) rfl (fun ls hl => ?_)
  refine lv_aload_n hx hb dL_law_1773 rfl (lv_at hl 3 rfl) ?_
  refine lv_aload_n hx hb dL_law_1774 rfl (lv_at hl 5 rfl) ?_
  refine lv_iload hx hb dL_law_1775 (lv_at hl 1 rfl) ?_
  refine lv_iconst (v := 1) hx hb dL_law_1777 (by decide) ?_
  refine lv_iadd hx hb dL_law_1778 ?_
  refine lv_topi (fun z_8 ez_8 => ?_)
  obtain rfl : z_8 = nI (5 * (54 + k) + 1) := ez_8.trans (nI_1 (5 * (54 + k)))
  refine va_sld hx hb hX8.1 hX8.2.1 hX8.2.2 hS (vp_in_nI (by omega) (by decide)) dL_law_1779 ?_
  refine lv_topi (fun z_9 ez_9 => ?_)
  obtain rfl : z_9 = 0 := ez_9.trans (by rw [nI_clamp (by omega)]; exact (hxs.2 k hk).2)
  have hPm := hP
  have hM1 := hT.1
  have hM2 := hS.1
  have hFc := zz_free (wc := [(h, .inr (9, [.int 0, .ref ho, .ref hd, .ref hs, .ref hu, .ref hv, .int 0])), (ho, .inl (cR, 4, .inr (.inr (.inr (.inr R0))))), (y0, .inl (cI, 64, .inl f))]) hD (fun q h => hA q (Nat.le_trans hS.1 h)) [2, 3, 4] rfl
  have hFB := zz_free (wc := [(h, .inr (9, [.int 0, .ref ho, .ref hd, .ref hs, .ref hu, .ref hv, .int 0])), (ho, .inl (cR, 4, .inr (.inr (.inr (.inr R0))))), (y0, .inl (cI, 64, .inl f))]) hDB (fun q h => hBge q (Nat.le_trans hT.1 h)) [2, 3, 4] rfl
  have hO0 := zz_out zz_St_G hX0 hS hFc
  have hO1 := zz_out (zz_St_S qe be 0 fe) hX1 hS hFc
  have hO2 := zz_out (X := fun A U => vk_R RX5 116 "" qe U) (zz_St_R RX5 "" 116 qe) hX2 hS hFc
  have hO3 := zz_out (zz_St_S qq bq 1 fq) hX3 hS hFc
  have hO4 := zz_out (X := fun A U => vk_R RX5 134 "=" qq U) (zz_St_R RX5 "=" 134 qq) hX4 hS hFc
  have hO5 := zz_out (zz_St_S qs bs 2 fs) hX5 hS hFc
  have hO6 := zz_out (X := fun A U => vk_R RX5 152 ", " qs U) (zz_St_R RX5 ", " 152 qs) hX6 hS hFc
  refine zz_after0 (wr := [(ti, .inl (cT, 100, .inl tm)), (wk, .inr (6, [.int 0, .int 0, .int 0, .int 0, .int 0])), (hd, .inl (cD, 4, .inl fd)), (hh, .inr (7, [.ref tA, .int 0, sp, rx, pb, pg])), (tA, .inl (cB, 4, .inr (.inr (.inr (.inr T0))))), (tb, .inr (5, [.ref wo, .ref ti, .int (nI 54), .ref wk, .int (-1)])), (wo, .inl (cW, 64, .inl g)), (oo, .inr (8, [.long on2_7, os]))]) (va_runV (As := [.int 0]) (rest := []) ⟨hx, hb, hml, hown, hts⟩ ((k_X5_width l D h 0 ho hd hs hu hv 0 cR R0 y0 cI f qe be fe qq bq fq qs bs fs (hR) (hf.lo) (hf.hi)) H.size) (cwV 1 hts gL_law_X5_width rfl rfl rfl (by decide +kernel) ⟨Nat.le_of_ble_eq_true rfl, Nat.le_of_ble_eq_true rfl⟩) (zz_pV (zz_pre (av := [.ref h, .int 0]) (tyc := [(cR, .array .int), (cI, .int)]) (wc := [(h, .inr (9, [.int 0, .ref ho, .ref hd, .ref hs, .ref hu, .ref hv, .int 0])), (ho, .inl (cR, 4, .inr (.inr (.inr (.inr R0))))), (y0, .inl (cI, 64, .inl f))]) (X := fun _ _ => True) (Xc := (fun A U => zz_G A U ∧ zz_S qe be 0 fe A U ∧ vk_R RX5 116 "" qe U ∧ zz_S qq bq 1 fq A U ∧ vk_R RX5 134 "=" qq U ∧ zz_S qs bs 2 fs A U ∧ vk_R RX5 152 ", " qs U)) hP hD hK hS [2, 3, 4] [3, 4] rfl (by decide) rfl (zz_St_and zz_St_G (zz_St_and (zz_St_S qe be 0 fe) (zz_St_and (zz_St_R RX5 "" 116 qe) (zz_St_and (zz_St_S qq bq 1 fq) (zz_St_and (zz_St_R RX5 "=" 134 qq) (zz_St_and (zz_St_S qs bs 2 fs) (zz_St_R RX5 ", " 152 qs))))))) (fun U h1 h2 => ⟨hO0 U h1 h2, hO1 U h1 h2, hO2 U h1 h2, hO3 U h1 h2, hO4 U h1 h2, hO5 U h1 h2, hO6 U h1 h2⟩)) (va_recv hK hP (ci := 9) (q0 := 2) rfl rfl)) rfl rfl hl.1 rfl (lv_room (Nat.le_of_ble_eq_true rfl)) dL_law_1780 ⟨by show 39 + 486 * k + 0 + 486 ≤ 700000; omega, by show 1321 + 487296 * k + 0 + 487296 ≤ 300000000; omega⟩) hP hD hK hFc [2, 3, 4] [0, 1, 5, 6, 7, 8, 9, 10] rfl rfl (by decide) (by decide) (fun v w1 ty1 H1 L9 hq9 hz9 hk9 hL9 hP1 hDf hK1 => ?_)
  have hS1 := zz_S1 hS hz9 hk9 hFc hL9
  have hT1 := hT.go hz9 hk9 hFB
  have hD1 := hDf A hD hFc
  have hDB1 := hDf B hDB hFB
  obtain ⟨locs, elocs⟩ : ∃ z, z = locs ++ L9 := ⟨_, rfl⟩
  rw [← elocs] at hS1 ⊢
  clear elocs hz9 hk9 hL9 hDf
  obtain ⟨L2_10, h_11, h_12, rfl, rfl, rfl⟩ := hq9
  clear hS hP hD hK hFc hO0 hO1 hO2 hO3 hO4 hO5 hO6 hT hDB hFB
  have hP : va_P D vwCl [(ti, .inl (cT, 100, .inl tm)), (wk, .inr (6, [.int 0, .int 0, .int 0, .int 0, .int 0])), (hd, .inl (cD, 4, .inl fd)), (hh, .inr (7, [.ref tA, .int 0, sp, rx, pb, pg])), (tA, .inl (cB, 4, .inr (.inr (.inr (.inr T0))))), (tb, .inr (5, [.ref wo, .ref ti, .int (nI 54), .ref wk, .int (-1)])), (wo, .inl (cW, 64, .inl g)), (oo, .inr (8, [.long on2_7, os])), (h, .inr (9, [.int 0, .ref ho, .ref hd, .ref hs, .ref hu, .ref hv, .int 0])), (ho, .inl (cR, 4, .inr (.inr (.inr (.inr R0))))), (y0, .inl (cI, 64, .inl f))] H1 := hP1
  have hD : va_D A [(ti, .inl (cT, 100, .inl tm)), (wk, .inr (6, [.int 0, .int 0, .int 0, .int 0, .int 0])), (hd, .inl (cD, 4, .inl fd)), (hh, .inr (7, [.ref tA, .int 0, sp, rx, pb, pg])), (tA, .inl (cB, 4, .inr (.inr (.inr (.inr T0))))), (tb, .inr (5, [.ref wo, .ref ti, .int (nI 54), .ref wk, .int (-1)])), (wo, .inl (cW, 64, .inl g)), (oo, .inr (8, [.long on2_7, os])), (h, .inr (9, [.int 0, .ref ho, .ref hd, .ref hs, .ref hu, .ref hv, .int 0])), (ho, .inl (cR, 4, .inr (.inr (.inr (.inr R0))))), (y0, .inl (cI, 64, .inl f))] := hD1
  have hK : va_K D vwCl [(cB, .object "Hashladder$Table"), (cW, .int), (cT, .int), (cR, .array .int), (cI, .int), (cD, .int), (cB, .object "Hashladder$Table"), (cW, .int), (cR, .array .int), (cI, .int)] s := hK1
  have hS := hS1
  have hT := hT1
  have hDB : va_D B [(ti, .inl (cT, 100, .inl tm)), (wk, .inr (6, [.int 0, .int 0, .int 0, .int 0, .int 0])), (hd, .inl (cD, 4, .inl fd)), (hh, .inr (7, [.ref tA, .int 0, sp, rx, pb, pg])), (tA, .inl (cB, 4, .inr (.inr (.inr (.inr T0))))), (tb, .inr (5, [.ref wo, .ref ti, .int (nI 54), .ref wk, .int (-1)])), (wo, .inl (cW, 64, .inl g)), (oo, .inr (8, [.long on2_7, os])), (h, .inr (9, [.int 0, .ref ho, .ref hd, .ref hs, .ref hu, .ref hv, .int 0])), (ho, .inl (cR, 4, .inr (.inr (.inr (.inr R0))))), (y0, .inl (cI, 64, .inl f))] := hDB1
  clear hT1 hDB1
  clear hP1 hD1 hK1 hS1
  obtain ⟨H, rfl⟩ : ∃ z, z = H1 := ⟨_, rfl⟩
  refine W.eq (g2 := F0 mt0 1783 ls [.int (nI 378)]) rfl ?_
  refine lv_istore (lv' := [(6, .int (nI 378)), (5, .int 0), (4, .int (nI (5 * (54 + k)))), (3, .ref oo), (2, .ref h), (1, .ref hh), (0, .ref sb)]) hx hb dL_law_1783 hl (by decide) rfl (fun ls hl => ?_)
  refine lv_goto (tgt := 2383) hx hb dL_law_1785 (by decide) ?_
  refine lv_iinc (v := (nI (5 * (54 + (k + 1))))) (lv' := [(4, .int (nI (5 * (54 + (k + 1))))), (6, .int (nI 378)), (5, .int 0), (3, .ref oo), (2, .ref h), (1, .ref hh), (0, .ref sb)]) hx hb dL_law_2383 hl (k := 2) rfl (by rw [show Int32.ofInt 5 = nI 5 from by decide, nI_add]; exact congrArg nI (by omega)) (by decide) rfl (fun ls hl => ?_)
  refine lv_goto (tgt := 27) hx hb dL_law_2386 (by decide) ?_
  rw [hB] at hT hDB
  obtain ⟨hLa, hda⟩ := zz_L.kept hL hd9 hT hDB
  have hLn := zz_L.app hLa (fun a ha => Nat.lt_of_lt_of_le (hL.2.1 a ha).2 hM1) h_11 hM2
  have hdn : zz_d (Lg ++ L2_10) [(hh, .inr (7, [.ref tA, .int 0, sp, rx, pb, pg])), (tA, .inl (cB, 4, .inr (.inr (.inr (.inr T0))))), (tb, .inr (5, [.ref wo, .ref ti, .int (nI 54), .ref wk, .int (-1)])), (wo, .inl (cW, 64, .inl g)), (ti, .inl (cT, 100, .inl tm)), (wk, .inr (6, [.int 0, .int 0, .int 0, .int 0, .int 0])), (oo, .inr (8, [.long on2_7, os])), (h, .inr (9, [.int 0, .ref ho, .ref hd, .ref hs, .ref hu, .ref hv, .int 0])), (ho, .inl (cR, 4, .inr (.inr (.inr (.inr R0))))), (y0, .inl (cI, 64, .inl f)), (hd, .inl (cD, 4, .inl fd))] := zz_d.app (hda.sub (ws' := [(hh, .inr (7, [.ref tA, .int 0, sp, rx, pb, pg])), (tA, .inl (cB, 4, .inr (.inr (.inr (.inr T0))))), (tb, .inr (5, [.ref wo, .ref ti, .int (nI 54), .ref wk, .int (-1)])), (wo, .inl (cW, 64, .inl g)), (ti, .inl (cT, 100, .inl tm)), (wk, .inr (6, [.int 0, .int 0, .int 0, .int 0, .int 0])), (oo, .inr (8, [.long on2_7, os])), (h, .inr (9, [.int 0, .ref ho, .ref hd, .ref hs, .ref hu, .ref hv, .int 0])), (ho, .inl (cR, 4, .inr (.inr (.inr (.inr R0))))), (y0, .inl (cI, 64, .inl f)), (hd, .inl (cD, 4, .inl fd))]) [3, 4, 5, 6, 0, 1, 7, 8, 9, 10, 2] rfl) (zz_d.later (ws' := [(hh, .inr (7, [.ref tA, .int 0, sp, rx, pb, pg])), (tA, .inl (cB, 4, .inr (.inr (.inr (.inr T0))))), (tb, .inr (5, [.ref wo, .ref ti, .int (nI 54), .ref wk, .int (-1)])), (wo, .inl (cW, 64, .inl g)), (ti, .inl (cT, 100, .inl tm)), (wk, .inr (6, [.int 0, .int 0, .int 0, .int 0, .int 0])), (oo, .inr (8, [.long on2_7, os])), (h, .inr (9, [.int 0, .ref ho, .ref hd, .ref hs, .ref hu, .ref hv, .int 0])), (ho, .inl (cR, 4, .inr (.inr (.inr (.inr R0))))), (y0, .inl (cI, 64, .inl f)), (hd, .inl (cD, 4, .inl fd))]) hPm h_11 [6, 7, 8, 9, 0, 1, 10, 2, 3, 4, 5] rfl)
  refine W.widen (k := 39 + 486 * (k + 1)) (n := 1321 + 487296 * (k + 1)) (by show 39 + 486 * k + 0 + 486 ≤ _; omega) (by show 1321 + 487296 * k + 0 + 487296 ≤ _; omega) ?_
  exact kk _ _ _ _ _ (hK.sub [0, 1, 2, 3, 4, 5] rfl) (hP.sub (ws' := [(hh, .inr (7, [.ref tA, .int 0, sp, rx, pb, pg])), (tA, .inl (cB, 4, .inr (.inr (.inr (.inr T0))))), (tb, .inr (5, [.ref wo, .ref ti, .int (nI 54), .ref wk, .int (-1)])), (wo, .inl (cW, 64, .inl g)), (ti, .inl (cT, 100, .inl tm)), (wk, .inr (6, [.int 0, .int 0, .int 0, .int 0, .int 0])), (oo, .inr (8, [.long on2_7, os])), (h, .inr (9, [.int 0, .ref ho, .ref hd, .ref hs, .ref hu, .ref hv, .int 0])), (ho, .inl (cR, 4, .inr (.inr (.inr (.inr R0))))), (y0, .inl (cI, 64, .inl f)), (hd, .inl (cD, 4, .inl fd))]) [3, 4, 5, 6, 0, 1, 7, 8, 9, 10, 2] rfl) (hD.sub (ws' := [(hh, .inr (7, [.ref tA, .int 0, sp, rx, pb, pg])), (tA, .inl (cB, 4, .inr (.inr (.inr (.inr T0))))), (tb, .inr (5, [.ref wo, .ref ti, .int (nI 54), .ref wk, .int (-1)])), (wo, .inl (cW, 64, .inl g)), (ti, .inl (cT, 100, .inl tm)), (wk, .inr (6, [.int 0, .int 0, .int 0, .int 0, .int 0])), (oo, .inr (8, [.long on2_7, os])), (h, .inr (9, [.int 0, .ref ho, .ref hd, .ref hs, .ref hu, .ref hv, .int 0])), (ho, .inl (cR, 4, .inr (.inr (.inr (.inr R0))))), (y0, .inl (cI, 64, .inl f)), (hd, .inl (cD, 4, .inl fd))]) [3, 4, 5, 6, 0, 1, 7, 8, 9, 10, 2] (by decide) rfl) hS (lv_sub hl [0, 3, 4, 5, 6] rfl) (zz_L.le hLn (by omega)) hdn
set_option maxHeartbeats 4000000 in
theorem lw_L {p0 : Program} {l : Launch} {e0 : Env} {s : State} {mt0 : MethodId} {args : Array Value} {bl0 : List Frame} {meth0 : Method} {cd0 : Code} {Q : State → Prop} {A : Nat → Prop} (D : va_G) (sb : Nat) (xs : Nat → Int32) (hh : Nat) (tA : Nat) (sp : Value) (rx : Value) (pb : Value) (pg : Value) (cB : ClassId) (T0 : Nat → Option Nat) (tb : Nat) (wo : Nat) (ti : Nat) (wk : Nat) (cW : ClassId) (cT : ClassId) (oo : Nat) (os : Value) (h : Nat) (ho : Nat) (hd : Nat) (hs : Nat) (hu : Nat) (hv : Nat) (cR : ClassId) (R0 : Nat → Option Nat) (y0 : Nat) (cI : ClassId) (cD : ClassId) (qe : Nat) (be : Nat) (fe : Nat → Int32) (qq : Nat) (bq : Nat) (fq : Nat → Int32) (qs : Nat) (bs : Nat) (fs : Nat → Int32) (g f tm fd : Nat → Int32) (hC : zz_C p0 s mt0 meth0 cd0 args RL cL_law 7 (some .boolean) zz_ws) (hX0 : zz_G A s) (hX1 : zz_S qe be 0 fe A s) (hX2 : vk_R RX5 116 "" qe s) (hX3 : zz_S qq bq 1 fq A s) (hX4 : vk_R RX5 134 "=" qq s) (hX5 : zz_S qs bs 2 fs A s) (hX6 : vk_R RX5 152 ", " qs s) (hX7 : va_Nw (.fieldLinkNest RL 13 "HashladderLaw$Out" "n" "J" "HashladderLaw") s) (hX8 : (va_X sb 2520 xs s s.heap ∧ sb < s.heap.size ∧ ¬ A sb)) (hA : ∀ q, s.heap.size ≤ q → A q) (hT0 : T0 0 = some tb) (hR : R0 0 = some y0) (hxs : zz_X xs) (hg : zz_I g 54) (hf : zz_I f 54) (kk : ∀ (on' : Int64) (L' : List Nat) (H' : Heap) (locs' : List Loc) (ls' : Array Slot), va_K D vwCl [(cB, .object "Hashladder$Table"), (cW, .int), (cT, .int), (cR, .array .int), (cI, .int), (cD, .int)] s → va_P D vwCl [(hh, .inr (7, [.ref tA, .int 0, sp, rx, pb, pg])), (tA, .inl (cB, 4, .inr (.inr (.inr (.inr T0))))), (tb, .inr (5, [.ref wo, .ref ti, .int (nI 54), .ref wk, .int (-1)])), (wo, .inl (cW, 64, .inl g)), (ti, .inl (cT, 100, .inl tm)), (wk, .inr (6, [.int 0, .int 0, .int 0, .int 0, .int 0])), (oo, .inr (8, [.long on', os])), (h, .inr (9, [.int 0, .ref ho, .ref hd, .ref hs, .ref hu, .ref hv, .int 0])), (ho, .inl (cR, 4, .inr (.inr (.inr (.inr R0))))), (y0, .inl (cI, 64, .inl f)), (hd, .inl (cD, 4, .inl fd))] H' → va_D A [(hh, .inr (7, [.ref tA, .int 0, sp, rx, pb, pg])), (tA, .inl (cB, 4, .inr (.inr (.inr (.inr T0))))), (tb, .inr (5, [.ref wo, .ref ti, .int (nI 54), .ref wk, .int (-1)])), (wo, .inl (cW, 64, .inl g)), (ti, .inl (cT, 100, .inl tm)), (wk, .inr (6, [.int 0, .int 0, .int 0, .int 0, .int 0])), (oo, .inr (8, [.long on', os])), (h, .inr (9, [.int 0, .ref ho, .ref hd, .ref hs, .ref hu, .ref hv, .int 0])), (ho, .inl (cR, 4, .inr (.inr (.inr (.inr R0))))), (y0, .inl (cI, 64, .inl f)), (hd, .inl (cD, 4, .inl fd))] → va_S A s.heap H' locs' → lv_has ls' 7 [(4, .int (nI (5 * (54 + 450)))), (3, .ref oo), (2, .ref h), (1, .ref hh), (0, .ref sb)] → zz_L L' s.heap.size H' (20252 * 450) → zz_d L' [(hh, .inr (7, [.ref tA, .int 0, sp, rx, pb, pg])), (tA, .inl (cB, 4, .inr (.inr (.inr (.inr T0))))), (tb, .inr (5, [.ref wo, .ref ti, .int (nI 54), .ref wk, .int (-1)])), (wo, .inl (cW, 64, .inl g)), (ti, .inl (cT, 100, .inl tm)), (wk, .inr (6, [.int 0, .int 0, .int 0, .int 0, .int 0])), (oo, .inr (8, [.long on', os])), (h, .inr (9, [.int 0, .ref ho, .ref hd, .ref hs, .ref hu, .ref hv, .int 0])), (ho, .inl (cR, 4, .inr (.inr (.inr (.inr R0))))), (y0, .inl (cI, 64, .inl f)), (hd, .inl (cD, 4, .inl fd))] → W p0 l e0 ({ frames := 2048, cells := 700000, slots := 300000000, locals := 84000 } : Room) s mt0 args bl0 meth0 cd0 H' locs' (39 + 486 * 450) (1321 + 487296 * 450) Q (F0 mt0 27 ls' [])) : ∀ (n k : Nat), k + n = 450 → ∀ (on' : Int64) (L' : List Nat) (H' : Heap) (locs' : List Loc) (ls' : Array Slot), va_K D vwCl [(cB, .object "Hashladder$Table"), (cW, .int), (cT, .int), (cR, .array .int), (cI, .int), (cD, .int)] s → va_P D vwCl [(hh, .inr (7, [.ref tA, .int 0, sp, rx, pb, pg])), (tA, .inl (cB, 4, .inr (.inr (.inr (.inr T0))))), (tb, .inr (5, [.ref wo, .ref ti, .int (nI 54), .ref wk, .int (-1)])), (wo, .inl (cW, 64, .inl g)), (ti, .inl (cT, 100, .inl tm)), (wk, .inr (6, [.int 0, .int 0, .int 0, .int 0, .int 0])), (oo, .inr (8, [.long on', os])), (h, .inr (9, [.int 0, .ref ho, .ref hd, .ref hs, .ref hu, .ref hv, .int 0])), (ho, .inl (cR, 4, .inr (.inr (.inr (.inr R0))))), (y0, .inl (cI, 64, .inl f)), (hd, .inl (cD, 4, .inl fd))] H' → va_D A [(hh, .inr (7, [.ref tA, .int 0, sp, rx, pb, pg])), (tA, .inl (cB, 4, .inr (.inr (.inr (.inr T0))))), (tb, .inr (5, [.ref wo, .ref ti, .int (nI 54), .ref wk, .int (-1)])), (wo, .inl (cW, 64, .inl g)), (ti, .inl (cT, 100, .inl tm)), (wk, .inr (6, [.int 0, .int 0, .int 0, .int 0, .int 0])), (oo, .inr (8, [.long on', os])), (h, .inr (9, [.int 0, .ref ho, .ref hd, .ref hs, .ref hu, .ref hv, .int 0])), (ho, .inl (cR, 4, .inr (.inr (.inr (.inr R0))))), (y0, .inl (cI, 64, .inl f)), (hd, .inl (cD, 4, .inl fd))] → va_S A s.heap H' locs' → lv_has ls' 7 [(4, .int (nI (5 * (54 + k)))), (3, .ref oo), (2, .ref h), (1, .ref hh), (0, .ref sb)] → zz_L L' s.heap.size H' (20252 * k) → zz_d L' [(hh, .inr (7, [.ref tA, .int 0, sp, rx, pb, pg])), (tA, .inl (cB, 4, .inr (.inr (.inr (.inr T0))))), (tb, .inr (5, [.ref wo, .ref ti, .int (nI 54), .ref wk, .int (-1)])), (wo, .inl (cW, 64, .inl g)), (ti, .inl (cT, 100, .inl tm)), (wk, .inr (6, [.int 0, .int 0, .int 0, .int 0, .int 0])), (oo, .inr (8, [.long on', os])), (h, .inr (9, [.int 0, .ref ho, .ref hd, .ref hs, .ref hu, .ref hv, .int 0])), (ho, .inl (cR, 4, .inr (.inr (.inr (.inr R0))))), (y0, .inl (cI, 64, .inl f)), (hd, .inl (cD, 4, .inl fd))] → W p0 l e0 ({ frames := 2048, cells := 700000, slots := 300000000, locals := 84000 } : Room) s mt0 args bl0 meth0 cd0 H' locs' (39 + 486 * k) (1321 + 487296 * k) Q (F0 mt0 27 ls' []) := by
  intro n
  induction n with
  | zero => intro k hk
            obtain rfl : k = 450 := by omega
            exact kk
  | succ n ih => intro k hk on Lg H locs ls hK hP hD hS hl hL hd9
                 exact lw_S D sb xs hh tA sp rx pb pg cB T0 tb wo ti wk cW cT oo os h ho hd hs hu hv cR R0 y0 cI cD qe be fe qq bq fq qs bs fs k g f tm fd on Lg hC hX0 hX1 hX2 hX3 hX4 hX5 hX6 hX7 hX8 hA hK hP hD hS hl hT0 hR hxs (by omega) hg hf hL hd9 (ih (k + 1) (by omega))
