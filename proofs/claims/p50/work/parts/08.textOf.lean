set_option maxHeartbeats 4000000 in
set_option maxRecDepth 100000 in
theorem tx_A {p0 : Program} {l : Launch} {e0 : Env} {s : State} {mt0 : MethodId} {args : Array Value} {bl0 : List Frame} {meth0 : Method} {cd0 : Code} {Q : State → Prop} {A : Nat → Prop} {H : Heap} {locs : List Loc} {ls : Array Slot} (D : va_G) (h : Nat) (th : Int32) (ho : Nat) (hd : Nat) (hs : Nat) (hu : Nat) (hv : Nat) (kn : Int32) (cR : ClassId) (R0 : Nat → Option Nat) (y0 : Nat) (cI : ClassId) (f0 : Nat → Int32) (qe : Nat) (be : Nat) (fe : Nat → Int32) (qq : Nat) (bq : Nat) (fq : Nat → Int32) (qs : Nat) (bs : Nat) (fs : Nat → Int32) (k : Nat) (hC : zz_C p0 s mt0 meth0 cd0 args RX5 cX5_textOf 5 (some (.object "java/lang/String")) wsX5_textOf) (hX0 : zz_G A s) (hX1 : zz_S qe be 0 fe A s) (hX2 : vk_R RX5 116 "" qe s) (hX3 : zz_S qq bq 1 fq A s) (hX4 : vk_R RX5 134 "=" qq s) (hX5 : zz_S qs bs 2 fs A s) (hA : ∀ q, s.heap.size ≤ q → A q) (hK : va_K D vwCl [(cR, .array .int), (cI, .int)] s) (hP : va_P D vwCl [(h, .inr (9, [.int th, .ref ho, .ref hd, .ref hs, .ref hu, .ref hv, .int kn])), (ho, .inl (cR, 4, .inr (.inr (.inr (.inr R0))))), (y0, .inl (cI, 64, .inl f0))] H) (hD : va_D A [(h, .inr (9, [.int th, .ref ho, .ref hd, .ref hs, .ref hu, .ref hv, .int kn])), (ho, .inl (cR, 4, .inr (.inr (.inr (.inr R0))))), (y0, .inl (cI, 64, .inl f0))]) (hS : va_S A s.heap H locs) (hl : lv_has ls 5 [(4, .int (nI k)), (3, .ref qe), (0, .ref h), (1, .int 0), (2, .ref qs)]) (hR : R0 0 = some y0) (hk : k < 10) (hf1 : ∀ n, n < 10 → f0 n = -1) (kk : ∀ ls : Array Slot, lv_has ls 5 [(4, .int (nI (k + 1))), (3, .ref qe), (0, .ref h), (1, .int 0), (2, .ref qs)] → W p0 l e0 ({ frames := 8, cells := 486, slots := 487296, locals := 3600 } : Room) s mt0 args bl0 meth0 cd0 H locs 0 0 Q (F0 mt0 6 ls [])) : W p0 l e0 ({ frames := 8, cells := 486, slots := 487296, locals := 3600 } : Room) s mt0 args bl0 meth0 cd0 H locs (0) (0) Q (F0 mt0 6 ls []) := by
  obtain ⟨hx, hb, hml, hr, hown, hts, hlocks⟩ := hC
  refine lv_iload hx hb dX5_textOf_6 (lv_at hl 0 rfl) ?_
  refine lv_bipush (v := 64) hx hb dX5_textOf_8 (by decide) ?_
  refine lv_icmp_ge (tgt := 85) hx hb dX5_textOf_10 (by decide) (fun c_1 => absurd c_1 (show ¬ nI 64 ≤ nI k from nI_ge (by omega) (by decide))) (fun c_1 => ?_)
  refine lv_aload_n hx hb dX5_textOf_13 rfl (lv_at hl 2 rfl) ?_
  refine va_get (D := D) (ci := 9) (v := .ref ho) (C := RX5) (T := TX5) (N := 7) hx hb hts (by decide +kernel) hown hK hP 0 rfl rfl 1 (by decide) (hts (.fieldLink RX5 11 "HashladderModel" "rows" "[[I") (by decide +kernel)) (fun _ h9 => h9) rfl dX5_textOf_14 ?_
  refine lv_iload_n hx hb dX5_textOf_17 rfl (lv_at hl 3 rfl) ?_
  refine zz_aldA hx hb hK hP 1 0 rfl rfl rfl ((show vp_in (0 : Int32) 4 from vp_in_nI (n := 0) (by decide) (by decide))) (v := .ref y0) (by rw [show ((0 : Int32)).toNatClampNeg = 0 from by decide, hR]; rfl) dX5_textOf_18 ?_
  refine lv_iload hx hb dX5_textOf_19 (lv_at hl 0 rfl) ?_
  refine va_iald hx hb hK hP 2 1 rfl rfl (vp_in_nI (by omega) (by decide)) dX5_textOf_21 ?_
  refine lv_topi (fun z_2 ez_2 => ?_)
  obtain rfl : z_2 = (-1) := ez_2.trans (by rw [nI_clamp (by omega)]; exact hf1 k hk)
  refine lv_iconst (v := (-1)) hx hb dX5_textOf_22 (by decide) ?_
  refine lv_icmp_eq (tgt := 79) hx hb dX5_textOf_23 (by decide) (fun c_3 => ?_) (fun c_3 => absurd (rfl) c_3)
  refine lv_iinc (v := (nI (k + 1))) (lv' := [(4, .int (nI (k + 1))), (3, .ref qe), (0, .ref h), (1, .int 0), (2, .ref qs)]) hx hb dX5_textOf_79 hl (k := 0) rfl (nI_1 k) (by decide) rfl (fun ls hl => ?_)
  refine lv_goto (tgt := 6) hx hb dX5_textOf_82 (by decide) ?_
  exact kk _ (lv_sub hl [0, 1, 2, 3, 4] rfl)
set_option maxHeartbeats 4000000 in
theorem tx_As {p0 : Program} {l : Launch} {e0 : Env} {s : State} {mt0 : MethodId} {args : Array Value} {bl0 : List Frame} {meth0 : Method} {cd0 : Code} {Q : State → Prop} {A : Nat → Prop} {H : Heap} {locs : List Loc} (D : va_G) (h : Nat) (th : Int32) (ho : Nat) (hd : Nat) (hs : Nat) (hu : Nat) (hv : Nat) (kn : Int32) (cR : ClassId) (R0 : Nat → Option Nat) (y0 : Nat) (cI : ClassId) (f0 : Nat → Int32) (qe : Nat) (be : Nat) (fe : Nat → Int32) (qq : Nat) (bq : Nat) (fq : Nat → Int32) (qs : Nat) (bs : Nat) (fs : Nat → Int32) (hC : zz_C p0 s mt0 meth0 cd0 args RX5 cX5_textOf 5 (some (.object "java/lang/String")) wsX5_textOf) (hX0 : zz_G A s) (hX1 : zz_S qe be 0 fe A s) (hX2 : vk_R RX5 116 "" qe s) (hX3 : zz_S qq bq 1 fq A s) (hX4 : vk_R RX5 134 "=" qq s) (hX5 : zz_S qs bs 2 fs A s) (hA : ∀ q, s.heap.size ≤ q → A q) (hK : va_K D vwCl [(cR, .array .int), (cI, .int)] s) (hP : va_P D vwCl [(h, .inr (9, [.int th, .ref ho, .ref hd, .ref hs, .ref hu, .ref hv, .int kn])), (ho, .inl (cR, 4, .inr (.inr (.inr (.inr R0))))), (y0, .inl (cI, 64, .inl f0))] H) (hD : va_D A [(h, .inr (9, [.int th, .ref ho, .ref hd, .ref hs, .ref hu, .ref hv, .int kn])), (ho, .inl (cR, 4, .inr (.inr (.inr (.inr R0))))), (y0, .inl (cI, 64, .inl f0))]) (hS : va_S A s.heap H locs)  (hR : R0 0 = some y0) (hf1 : ∀ n, n < 10 → f0 n = -1) (kk : ∀ ls : Array Slot, lv_has ls 5 [(4, .int (nI 10)), (3, .ref qe), (0, .ref h), (1, .int 0), (2, .ref qs)] → W p0 l e0 ({ frames := 8, cells := 486, slots := 487296, locals := 3600 } : Room) s mt0 args bl0 meth0 cd0 H locs 0 0 Q (F0 mt0 6 ls [])) : ∀ (n k : Nat), k + n = 10 → ∀ ls : Array Slot, lv_has ls 5 [(4, .int (nI k)), (3, .ref qe), (0, .ref h), (1, .int 0), (2, .ref qs)] → W p0 l e0 ({ frames := 8, cells := 486, slots := 487296, locals := 3600 } : Room) s mt0 args bl0 meth0 cd0 H locs 0 0 Q (F0 mt0 6 ls []) := by
  intro n
  induction n with
  | zero => intro k hk ls hl; obtain rfl : k = 10 := by omega
            exact kk ls hl
  | succ n ih => intro k hk ls hl
                 exact tx_A D h th ho hd hs hu hv kn cR R0 y0 cI f0 qe be fe qq bq fq qs bs fs k hC hX0 hX1 hX2 hX3 hX4 hX5 hA hK hP hD hS hl hR (by omega) hf1 (fun ls hl => ih (k + 1) (by omega) ls hl)
set_option maxHeartbeats 4000000 in
set_option maxRecDepth 100000 in
theorem tx_B {p0 : Program} {l : Launch} {e0 : Env} {s : State} {mt0 : MethodId} {args : Array Value} {bl0 : List Frame} {meth0 : Method} {cd0 : Code} {Q : State → Prop} {A : Nat → Prop} {H : Heap} {locs : List Loc} {ls : Array Slot} (D : va_G) (h : Nat) (th : Int32) (ho : Nat) (hd : Nat) (hs : Nat) (hu : Nat) (hv : Nat) (kn : Int32) (cR : ClassId) (R0 : Nat → Option Nat) (y0 : Nat) (cI : ClassId) (f0 : Nat → Int32) (qe : Nat) (be : Nat) (fe : Nat → Int32) (qq : Nat) (bq : Nat) (fq : Nat → Int32) (qs : Nat) (bs : Nat) (fs : Nat → Int32) (Lg : List Nat) (K0 : Nat) (hC : zz_C p0 s mt0 meth0 cd0 args RX5 cX5_textOf 5 (some (.object "java/lang/String")) wsX5_textOf) (hX0 : zz_G A s) (hX1 : zz_S qe be 0 fe A s) (hX2 : vk_R RX5 116 "" qe s) (hX3 : zz_S qq bq 1 fq A s) (hX4 : vk_R RX5 134 "=" qq s) (hX5 : zz_S qs bs 2 fs A s) (hA : ∀ q, s.heap.size ≤ q → A q) (hK : va_K D vwCl [(cR, .array .int), (cI, .int)] s) (hP : va_P D vwCl [(h, .inr (9, [.int th, .ref ho, .ref hd, .ref hs, .ref hu, .ref hv, .int kn])), (ho, .inl (cR, 4, .inr (.inr (.inr (.inr R0))))), (y0, .inl (cI, 64, .inl f0))] H) (hD : va_D A [(h, .inr (9, [.int th, .ref ho, .ref hd, .ref hs, .ref hu, .ref hv, .int kn])), (ho, .inl (cR, 4, .inr (.inr (.inr (.inr R0))))), (y0, .inl (cI, 64, .inl f0))]) (hS : va_S A s.heap H locs) (hl : lv_has ls 5 [(4, .int (nI 10)), (3, .ref qe), (0, .ref h), (1, .int 0), (2, .ref qs)]) (hR : R0 0 = some y0) (hf2 : ∀ n, 10 ≤ n → n < 64 → f0 n = 99) (hAe : va_A [(h, .inr (9, [.int th, .ref ho, .ref hd, .ref hs, .ref hu, .ref hv, .int kn])), (ho, .inl (cR, 4, .inr (.inr (.inr (.inr R0))))), (y0, .inl (cI, 64, .inl f0))] s.heap.size = A) (hL : zz_L Lg s.heap.size H K0) (hd9 : zz_d Lg [(h, .inr (9, [.int th, .ref ho, .ref hd, .ref hs, .ref hu, .ref hv, .int kn])), (ho, .inl (cR, 4, .inr (.inr (.inr (.inr R0))))), (y0, .inl (cI, 64, .inl f0))]) (kk : ∀ (q' b' : Nat) (cA' : ClassId) (f' : Nat → Int32) (L' : List Nat) (H' : Heap) (locs' : List Loc) (ls' : Array Slot), sb_Fit f' → va_K D vwCl [(cR, .array .int), (cI, .int), (cA', .byte)] s → va_P D vwCl [(h, .inr (9, [.int th, .ref ho, .ref hd, .ref hs, .ref hu, .ref hv, .int kn])), (ho, .inl (cR, 4, .inr (.inr (.inr (.inr R0))))), (y0, .inl (cI, 64, .inl f0)), (q', .inr (0, [.ref b', .int 0, .int 0, .int 0])), (b', .inl (cA', 5, .inl f'))] H' → va_D A [(h, .inr (9, [.int th, .ref ho, .ref hd, .ref hs, .ref hu, .ref hv, .int kn])), (ho, .inl (cR, 4, .inr (.inr (.inr (.inr R0))))), (y0, .inl (cI, 64, .inl f0)), (q', .inr (0, [.ref b', .int 0, .int 0, .int 0])), (b', .inl (cA', 5, .inl f'))] → va_S A s.heap H' locs' → lv_has ls' 5 [(4, .int (nI (10 + 1))), (3, .ref q'), (0, .ref h), (1, .int 0), (2, .ref qs)] → zz_L L' s.heap.size H' (K0 + 6) → zz_d L' [(h, .inr (9, [.int th, .ref ho, .ref hd, .ref hs, .ref hu, .ref hv, .int kn])), (ho, .inl (cR, 4, .inr (.inr (.inr (.inr R0))))), (y0, .inl (cI, 64, .inl f0)), (q', .inr (0, [.ref b', .int 0, .int 0, .int 0])), (b', .inl (cA', 5, .inl f'))] → W p0 l e0 ({ frames := 8, cells := 486, slots := 487296, locals := 3600 } : Room) s mt0 args bl0 meth0 cd0 H' locs' (9) (9024) Q (F0 mt0 6 ls' [])) : W p0 l e0 ({ frames := 8, cells := 486, slots := 487296, locals := 3600 } : Room) s mt0 args bl0 meth0 cd0 H locs (0) (0) Q (F0 mt0 6 ls []) := by
  obtain ⟨hx, hb, hml, hr, hown, hts, hlocks⟩ := hC
  have hDB := hD.self (sz := H.size)
  obtain ⟨B, hB⟩ : ∃ z, z = va_A [(h, .inr (9, [.int th, .ref ho, .ref hd, .ref hs, .ref hu, .ref hv, .int kn])), (ho, .inl (cR, 4, .inr (.inr (.inr (.inr R0))))), (y0, .inl (cI, 64, .inl f0))] H.size := ⟨_, rfl⟩
  rw [← hB] at hDB
  obtain ⟨Hk, hHk⟩ : ∃ z, z = H := ⟨_, rfl⟩
  have hBge : ∀ q, Hk.size ≤ q → B q := by intro q h; rw [hB, ← hHk]; exact Or.inr h
  have hT : zz_T B Hk H := by rw [hHk]; exact zz_T.rf
  rw [← hHk] at hB hL
  refine lv_iload hx hb dX5_textOf_6 (lv_at hl 0 rfl) ?_
  refine lv_bipush (v := 64) hx hb dX5_textOf_8 (by decide) ?_
  refine lv_icmp_ge (tgt := 85) hx hb dX5_textOf_10 (by decide) (fun c_1 => absurd c_1 (show ¬ nI 64 ≤ nI 10 from nI_ge (by omega) (by decide))) (fun c_1 => ?_)
  refine lv_aload_n hx hb dX5_textOf_13 rfl (lv_at hl 2 rfl) ?_
  refine va_get (D := D) (ci := 9) (v := .ref ho) (C := RX5) (T := TX5) (N := 7) hx hb hts (by decide +kernel) hown hK hP 0 rfl rfl 1 (by decide) (hts (.fieldLink RX5 11 "HashladderModel" "rows" "[[I") (by decide +kernel)) (fun _ h9 => h9) rfl dX5_textOf_14 ?_
  refine lv_iload_n hx hb dX5_textOf_17 rfl (lv_at hl 3 rfl) ?_
  refine zz_aldA hx hb hK hP 1 0 rfl rfl rfl ((show vp_in (0 : Int32) 4 from vp_in_nI (n := 0) (by decide) (by decide))) (v := .ref y0) (by rw [show ((0 : Int32)).toNatClampNeg = 0 from by decide, hR]; rfl) dX5_textOf_18 ?_
  refine lv_iload hx hb dX5_textOf_19 (lv_at hl 0 rfl) ?_
  refine va_iald hx hb hK hP 2 1 rfl rfl (vp_in_nI (by omega) (by decide)) dX5_textOf_21 ?_
  refine lv_topi (fun z_2 ez_2 => ?_)
  obtain rfl : z_2 = nI 99 := ez_2.trans (by rw [nI_clamp (by omega)]; exact hf2 10 (by omega) (by omega))
  refine lv_iconst (v := (-1)) hx hb dX5_textOf_22 (by decide) ?_
  refine lv_icmp_eq (tgt := 79) hx hb dX5_textOf_23 (by decide) (fun c_3 => absurd c_3 (by decide)) (fun c_3 => ?_)
  refine zz_new0 (ci := 1) (fs := [.null, .int 0, .int 0, .int 0]) (C := RJ4) (T := TJ4) (N := 4) hx hb hts (by decide +kernel) tyJ4 tyJ4_ok hown (hts (.classLink RX5 118 RJ4) (by decide +kernel)) (hts (.instantiable RJ4 4) (by decide +kernel)) (hts (.initialized RJ4) (by decide +kernel)) hK hP rfl (fun j hj => by rcases (show j = 0 ∨ j = 1 ∨ j = 2 ∨ j = 3 by omega) with rfl | rfl | rfl | rfl <;> rfl) (by show 0 + 1 ≤ 486; omega) (by show 0 + 4 ≤ 487296; omega) dX5_textOf_26 (fun q_4 H1 hq9 hz9 hk9 hP1 hDf => ?_)
  have hS1 := zz_S2 hS hz9 hk9
  have hT1 := hT.go (C := fun _ => False) (by omega) (fun x h1 _ => hk9 x h1) (fun _ h => h.elim)
  have hD1 := hDf A hD (hA _ (by rw [hq9]; exact hS.1))
  have hDB1 := hDf B hDB (hBge _ (by rw [hq9]; exact hT.1))
  clear hS hP hD hT hDB hz9 hk9 hDf hq9
  obtain ⟨H, rfl⟩ : ∃ z, z = H1 := ⟨_, rfl⟩
  have hS := hS1
  have hT := hT1
  have hDB : va_D B [(h, .inr (9, [.int th, .ref ho, .ref hd, .ref hs, .ref hu, .ref hv, .int kn])), (ho, .inl (cR, 4, .inr (.inr (.inr (.inr R0))))), (y0, .inl (cI, 64, .inl f0)), (q_4, .inr (1, [.null, .int 0, .int 0, .int 0]))] := hDB1
  have hP := hP1
  have hD := hD1
  clear hS1 hT1 hDB1 hP1 hD1
  have hP : va_P D vwCl [(h, .inr (9, [.int th, .ref ho, .ref hd, .ref hs, .ref hu, .ref hv, .int kn])), (ho, .inl (cR, 4, .inr (.inr (.inr (.inr R0))))), (y0, .inl (cI, 64, .inl f0)), (q_4, .inr (1, [.null, .int 0, .int 0, .int 0]))] H := hP
  have hD : va_D A [(h, .inr (9, [.int th, .ref ho, .ref hd, .ref hs, .ref hu, .ref hv, .int kn])), (ho, .inl (cR, 4, .inr (.inr (.inr (.inr R0))))), (y0, .inl (cI, 64, .inl f0)), (q_4, .inr (1, [.null, .int 0, .int 0, .int 0]))] := hD
  refine lv_dup hx hb dX5_textOf_29 rfl ?_
  have hFc := zz_free (wc := [(q_4, .inr (1, [.null, .int 0, .int 0, .int 0]))]) hD (fun q h => hA q (Nat.le_trans hS.1 h)) [3] rfl
  have hFB := zz_free (wc := [(q_4, .inr (1, [.null, .int 0, .int 0, .int 0]))]) hDB (fun q h => hBge q (Nat.le_trans hT.1 h)) [3] rfl
  have hO0 := zz_out zz_St_G hX0 hS hFc
  refine zz_after0 (wr := [(h, .inr (9, [.int th, .ref ho, .ref hd, .ref hs, .ref hu, .ref hv, .int kn])), (ho, .inl (cR, 4, .inr (.inr (.inr (.inr R0))))), (y0, .inl (cI, 64, .inl f0))]) (va_runI (As := []) (rest := [.ref q_4]) ⟨hx, hb, hml, hown, hts⟩ ((k_J4_init_da8c8 l D q_4) H.size) (cwI 0 hts gX5_textOf_J4_init_da8c8 rfl rfl rfl (hts (.initialized RJ4) (by decide +kernel)) (hts (.methodLink RX5 120 yJ4_init_da8c8) (by decide +kernel)) (hts (.instanceMethod yJ4_init_da8c8) (by decide +kernel)) rfl (by decide +kernel) ⟨Nat.le_of_ble_eq_true rfl, Nat.le_of_ble_eq_true rfl⟩) (zz_pre (av := [.ref q_4]) (tyc := []) (wc := [(q_4, .inr (1, [.null, .int 0, .int 0, .int 0]))]) (X := fun _ _ => True) (Xc := (fun A U => zz_G A U)) hP hD hK hS [3] [] rfl (by decide) rfl zz_St_G (fun U h1 h2 => hO0 U h1 h2)) rfl rfl hl.1 rfl (lv_room (Nat.le_of_ble_eq_true rfl)) dX5_textOf_30 ⟨by show 0 + 1 + 1 ≤ 486; omega, by show 0 + 4 + 16 ≤ 487296; omega⟩) hP hD hK hFc [3] [0, 1, 2] rfl rfl (by decide) (by decide) (fun v w1 ty1 H1 L9 hq9 hz9 hk9 hL9 hP1 hDf hK1 => ?_)
  have hS1 := zz_S1 hS hz9 hk9 hFc hL9
  have hT1 := hT.go hz9 hk9 hFB
  have hD1 := hDf A hD hFc
  have hDB1 := hDf B hDB hFB
  obtain ⟨locs, elocs⟩ : ∃ z, z = locs ++ L9 := ⟨_, rfl⟩
  rw [← elocs] at hS1 ⊢
  clear elocs hz9 hk9 hL9 hDf
  obtain ⟨d2_5, cA2_6, rfl, rfl, rfl⟩ := hq9
  clear hS hP hD hK hFc hO0 hT hDB hFB
  have hP : va_P D vwCl [(h, .inr (9, [.int th, .ref ho, .ref hd, .ref hs, .ref hu, .ref hv, .int kn])), (ho, .inl (cR, 4, .inr (.inr (.inr (.inr R0))))), (y0, .inl (cI, 64, .inl f0)), (q_4, .inr (1, [.ref d2_5, .int 0, .int 0, .int (nI 0)])), (d2_5, .inl (cA2_6, 16, .inl (fun _ => 0)))] H1 := hP1
  have hD : va_D A [(h, .inr (9, [.int th, .ref ho, .ref hd, .ref hs, .ref hu, .ref hv, .int kn])), (ho, .inl (cR, 4, .inr (.inr (.inr (.inr R0))))), (y0, .inl (cI, 64, .inl f0)), (q_4, .inr (1, [.ref d2_5, .int 0, .int 0, .int (nI 0)])), (d2_5, .inl (cA2_6, 16, .inl (fun _ => 0)))] := hD1
  have hK : va_K D vwCl [(cR, .array .int), (cI, .int), (cA2_6, .byte)] s := hK1
  have hS := hS1
  have hT := hT1
  have hDB : va_D B [(h, .inr (9, [.int th, .ref ho, .ref hd, .ref hs, .ref hu, .ref hv, .int kn])), (ho, .inl (cR, 4, .inr (.inr (.inr (.inr R0))))), (y0, .inl (cI, 64, .inl f0)), (q_4, .inr (1, [.ref d2_5, .int 0, .int 0, .int (nI 0)])), (d2_5, .inl (cA2_6, 16, .inl (fun _ => 0)))] := hDB1
  clear hT1 hDB1
  clear hP1 hD1 hK1 hS1
  obtain ⟨H, rfl⟩ : ∃ z, z = H1 := ⟨_, rfl⟩
  refine W.eq (g2 := F0 mt0 33 ls [.ref q_4]) rfl ?_
  refine lv_aload_n hx hb dX5_textOf_33 rfl (lv_at hl 1 rfl) ?_
  have hFc := zz_free (wc := [(q_4, .inr (1, [.ref d2_5, .int 0, .int 0, .int (nI 0)])), (d2_5, .inl (cA2_6, 16, .inl (fun _ => 0)))]) hD (fun q h => hA q (Nat.le_trans hS.1 h)) [3, 4] rfl
  have hFB := zz_free (wc := [(q_4, .inr (1, [.ref d2_5, .int 0, .int 0, .int (nI 0)])), (d2_5, .inl (cA2_6, 16, .inl (fun _ => 0)))]) hDB (fun q h => hBge q (Nat.le_trans hT.1 h)) [3, 4] rfl
  have hO0 := zz_out zz_St_G hX0 hS hFc
  have hO1 := zz_out (zz_St_S qe be 0 fe) hX1 hS hFc
  refine zz_after0 (wr := [(h, .inr (9, [.int th, .ref ho, .ref hd, .ref hs, .ref hu, .ref hv, .int kn])), (ho, .inl (cR, 4, .inr (.inr (.inr (.inr R0))))), (y0, .inl (cI, 64, .inl f0))]) (va_runV (As := [.ref qe]) (rest := []) ⟨hx, hb, hml, hown, hts⟩ ((k_J4_append_15ec4 l D q_4 d2_5 0 0 16 (fun _ => 0) cA2_6 qe be 0 fe (by omega) (by omega) (sb_fit0)) H.size) (cwV 1 hts gX5_textOf_J4_append_15ec4 rfl rfl rfl (by decide +kernel) ⟨Nat.le_of_ble_eq_true rfl, Nat.le_of_ble_eq_true rfl⟩) (zz_pV (zz_pre (av := [.ref q_4, .ref qe]) (tyc := [(cA2_6, .byte)]) (wc := [(q_4, .inr (1, [.ref d2_5, .int 0, .int 0, .int (nI 0)])), (d2_5, .inl (cA2_6, 16, .inl (fun _ => 0)))]) (X := fun _ _ => True) (Xc := (fun A U => zz_G A U ∧ zz_S qe be 0 fe A U)) hP hD hK hS [3, 4] [2] rfl (by decide) rfl (zz_St_and zz_St_G (zz_St_S qe be 0 fe)) (fun U h1 h2 => ⟨hO0 U h1 h2, hO1 U h1 h2⟩)) (va_recv hK hP (ci := 1) (q0 := 3) rfl rfl)) rfl rfl hl.1 rfl (lv_room (Nat.le_of_ble_eq_true rfl)) dX5_textOf_34 ⟨by show 0 + 1 + 1 + 1 ≤ 486; omega, by show 0 + 4 + 16 + 1500 ≤ 487296; omega⟩) hP hD hK hFc [3, 4] [0, 1, 2] rfl rfl (by decide) (by decide) (fun v w1 ty1 H1 L9 hq9 hz9 hk9 hL9 hP1 hDf hK1 => ?_)
  have hS1 := zz_S1 hS hz9 hk9 hFc hL9
  have hT1 := hT.go hz9 hk9 hFB
  have hD1 := hDf A hD hFc
  have hDB1 := hDf B hDB hFB
  obtain ⟨locs, elocs⟩ : ∃ z, z = locs ++ L9 := ⟨_, rfl⟩
  rw [← elocs] at hS1 ⊢
  clear elocs hz9 hk9 hL9 hDf
  obtain ⟨d2_7, cA2_8, f2_9, h_10, rfl, rfl, rfl⟩ := hq9
  clear hS hP hD hK hFc hO0 hO1 hT hDB hFB
  have hP : va_P D vwCl [(h, .inr (9, [.int th, .ref ho, .ref hd, .ref hs, .ref hu, .ref hv, .int kn])), (ho, .inl (cR, 4, .inr (.inr (.inr (.inr R0))))), (y0, .inl (cI, 64, .inl f0)), (q_4, .inr (1, [.ref d2_7, .int 0, .int 0, .int (nI (0 + 0))])), (d2_7, .inl (cA2_8, (zz_cap (0 + 0) 16), .inl f2_9))] H1 := hP1
  have hD : va_D A [(h, .inr (9, [.int th, .ref ho, .ref hd, .ref hs, .ref hu, .ref hv, .int kn])), (ho, .inl (cR, 4, .inr (.inr (.inr (.inr R0))))), (y0, .inl (cI, 64, .inl f0)), (q_4, .inr (1, [.ref d2_7, .int 0, .int 0, .int (nI (0 + 0))])), (d2_7, .inl (cA2_8, (zz_cap (0 + 0) 16), .inl f2_9))] := hD1
  have hK : va_K D vwCl [(cR, .array .int), (cI, .int), (cA2_6, .byte), (cA2_8, .byte)] s := hK1
  have hS := hS1
  have hT := hT1
  have hDB : va_D B [(h, .inr (9, [.int th, .ref ho, .ref hd, .ref hs, .ref hu, .ref hv, .int kn])), (ho, .inl (cR, 4, .inr (.inr (.inr (.inr R0))))), (y0, .inl (cI, 64, .inl f0)), (q_4, .inr (1, [.ref d2_7, .int 0, .int 0, .int (nI (0 + 0))])), (d2_7, .inl (cA2_8, (zz_cap (0 + 0) 16), .inl f2_9))] := hDB1
  clear hT1 hDB1
  clear hP1 hD1 hK1 hS1
  obtain ⟨H, rfl⟩ : ∃ z, z = H1 := ⟨_, rfl⟩
  refine W.eq (g2 := F0 mt0 37 ls [.ref q_4]) rfl ?_
  obtain ⟨k1, ek1⟩ : ∃ z, z = (zz_cap (0 + 0) 16) := ⟨_, rfl⟩
  rw [← ek1] at hP hD hDB
  have ok1 := zz_cap_or (0 + 0) 16; rw [← ek1] at ok1
  have hk1 : k1 ≤ 1500 := by omega
  refine lv_aload_n hx hb dX5_textOf_37 rfl (lv_at hl 1 rfl) ?_
  have hFc := zz_free (wc := []) hD (fun q h => hA q (Nat.le_trans hS.1 h)) [] rfl
  have hFB := zz_free (wc := []) hDB (fun q h => hBge q (Nat.le_trans hT.1 h)) [] rfl
  have hO0 := zz_out (zz_St_S qe be 0 fe) hX1 hS hFc
  refine zz_after0 (wr := [(h, .inr (9, [.int th, .ref ho, .ref hd, .ref hs, .ref hu, .ref hv, .int kn])), (ho, .inl (cR, 4, .inr (.inr (.inr (.inr R0))))), (y0, .inl (cI, 64, .inl f0)), (q_4, .inr (1, [.ref d2_7, .int 0, .int 0, .int (nI (0 + 0))])), (d2_7, .inl (cA2_8, k1, .inl f2_9))]) (va_runV (As := []) (rest := [.ref q_4]) ⟨hx, hb, hml, hown, hts⟩ ((k_isEmpty_0 l D qe be 0 fe (rfl)) H.size) (cwV 0 hts gX5_textOf_J0_isEmpty_aae02 rfl rfl rfl (by decide +kernel) ⟨Nat.le_of_ble_eq_true rfl, Nat.le_of_ble_eq_true rfl⟩) (zz_pV (zz_pre (av := [.ref qe]) (tyc := []) (wc := []) (X := fun _ _ => True) (Xc := (fun A U => zz_S qe be 0 fe A U)) hP hD hK hS [] [] rfl (by decide) rfl (zz_St_S qe be 0 fe) (fun U h1 h2 => hO0 U h1 h2)) (va_Orecv hX1.1 hS)) rfl rfl hl.1 rfl (lv_room (Nat.le_of_ble_eq_true rfl)) dX5_textOf_38 ⟨by show 0 + 1 + 1 + 1 + 0 ≤ 486; omega, by show 0 + 4 + 16 + 1500 + 0 ≤ 487296; omega⟩) hP hD hK hFc [] [0, 1, 2, 3, 4] rfl rfl (by decide) (by decide) (fun v w1 ty1 H1 L9 hq9 hz9 hk9 hL9 hP1 hDf hK1 => ?_)
  have hS1 := zz_S1 hS hz9 hk9 hFc hL9
  have hT1 := hT.go hz9 hk9 hFB
  have hD1 := hDf A hD hFc
  have hDB1 := hDf B hDB hFB
  obtain ⟨locs, elocs⟩ : ∃ z, z = locs ++ L9 := ⟨_, rfl⟩
  rw [← elocs] at hS1 ⊢
  clear elocs hz9 hk9 hL9 hDf
  obtain ⟨rfl, rfl, rfl⟩ := hq9
  clear hS hP hD hK hFc hO0 hT hDB hFB
  have hP : va_P D vwCl [(h, .inr (9, [.int th, .ref ho, .ref hd, .ref hs, .ref hu, .ref hv, .int kn])), (ho, .inl (cR, 4, .inr (.inr (.inr (.inr R0))))), (y0, .inl (cI, 64, .inl f0)), (q_4, .inr (1, [.ref d2_7, .int 0, .int 0, .int (nI (0 + 0))])), (d2_7, .inl (cA2_8, k1, .inl f2_9))] H1 := hP1
  have hD : va_D A [(h, .inr (9, [.int th, .ref ho, .ref hd, .ref hs, .ref hu, .ref hv, .int kn])), (ho, .inl (cR, 4, .inr (.inr (.inr (.inr R0))))), (y0, .inl (cI, 64, .inl f0)), (q_4, .inr (1, [.ref d2_7, .int 0, .int 0, .int (nI (0 + 0))])), (d2_7, .inl (cA2_8, k1, .inl f2_9))] := hD1
  have hK : va_K D vwCl [(cR, .array .int), (cI, .int), (cA2_6, .byte), (cA2_8, .byte)] s := hK1
  have hS := hS1
  have hT := hT1
  have hDB : va_D B [(h, .inr (9, [.int th, .ref ho, .ref hd, .ref hs, .ref hu, .ref hv, .int kn])), (ho, .inl (cR, 4, .inr (.inr (.inr (.inr R0))))), (y0, .inl (cI, 64, .inl f0)), (q_4, .inr (1, [.ref d2_7, .int 0, .int 0, .int (nI (0 + 0))])), (d2_7, .inl (cA2_8, k1, .inl f2_9))] := hDB1
  clear hT1 hDB1
  clear hP1 hD1 hK1 hS1
  obtain ⟨H, rfl⟩ : ∃ z, z = H1 := ⟨_, rfl⟩
  refine W.eq (g2 := F0 mt0 41 ls [.int 1, .ref q_4]) rfl ?_
  refine lv_if_eq (tgt := 49) hx hb dX5_textOf_41 (by decide) (fun c_11 => absurd c_11 (by decide)) (fun c_11 => ?_)
  refine va_ldcS hx hb hown hX2 dX5_textOf_44 ?_
  refine lv_goto (tgt := 50) hx hb dX5_textOf_46 (by decide) ?_
  have hFc := zz_free (wc := [(q_4, .inr (1, [.ref d2_7, .int 0, .int 0, .int (nI (0 + 0))])), (d2_7, .inl (cA2_8, k1, .inl f2_9))]) hD (fun q h => hA q (Nat.le_trans hS.1 h)) [3, 4] rfl
  have hFB := zz_free (wc := [(q_4, .inr (1, [.ref d2_7, .int 0, .int 0, .int (nI (0 + 0))])), (d2_7, .inl (cA2_8, k1, .inl f2_9))]) hDB (fun q h => hBge q (Nat.le_trans hT.1 h)) [3, 4] rfl
  have hO0 := zz_out zz_St_G hX0 hS hFc
  have hO1 := zz_out (zz_St_S qe be 0 fe) hX1 hS hFc
  refine zz_after0 (wr := [(h, .inr (9, [.int th, .ref ho, .ref hd, .ref hs, .ref hu, .ref hv, .int kn])), (ho, .inl (cR, 4, .inr (.inr (.inr (.inr R0))))), (y0, .inl (cI, 64, .inl f0))]) (va_runV (As := [.ref qe]) (rest := []) ⟨hx, hb, hml, hown, hts⟩ ((k_J4_append_15ec4 l D q_4 d2_7 0 (0 + 0) k1 f2_9 cA2_8 qe be 0 fe (by omega) (by omega) (h_10)) H.size) (cwV 1 hts gX5_textOf_J4_append_15ec4 rfl rfl rfl (by decide +kernel) ⟨Nat.le_of_ble_eq_true rfl, Nat.le_of_ble_eq_true rfl⟩) (zz_pV (zz_pre (av := [.ref q_4, .ref qe]) (tyc := [(cA2_8, .byte)]) (wc := [(q_4, .inr (1, [.ref d2_7, .int 0, .int 0, .int (nI (0 + 0))])), (d2_7, .inl (cA2_8, k1, .inl f2_9))]) (X := fun _ _ => True) (Xc := (fun A U => zz_G A U ∧ zz_S qe be 0 fe A U)) hP hD hK hS [3, 4] [3] rfl (by decide) rfl (zz_St_and zz_St_G (zz_St_S qe be 0 fe)) (fun U h1 h2 => ⟨hO0 U h1 h2, hO1 U h1 h2⟩)) (va_recv hK hP (ci := 1) (q0 := 3) rfl rfl)) rfl rfl hl.1 rfl (lv_room (Nat.le_of_ble_eq_true rfl)) dX5_textOf_50 ⟨by show 0 + 1 + 1 + 1 + 0 + 1 ≤ 486; omega, by show 0 + 4 + 16 + 1500 + 0 + 1500 ≤ 487296; omega⟩) hP hD hK hFc [3, 4] [0, 1, 2] rfl rfl (by decide) (by decide) (fun v w1 ty1 H1 L9 hq9 hz9 hk9 hL9 hP1 hDf hK1 => ?_)
  have hS1 := zz_S1 hS hz9 hk9 hFc hL9
  have hT1 := hT.go hz9 hk9 hFB
  have hD1 := hDf A hD hFc
  have hDB1 := hDf B hDB hFB
  obtain ⟨locs, elocs⟩ : ∃ z, z = locs ++ L9 := ⟨_, rfl⟩
  rw [← elocs] at hS1 ⊢
  clear elocs hz9 hk9 hL9 hDf
  obtain ⟨d2_12, cA2_13, f2_14, h_15, rfl, rfl, rfl⟩ := hq9
  clear hS hP hD hK hFc hO0 hO1 hT hDB hFB
  have hP : va_P D vwCl [(h, .inr (9, [.int th, .ref ho, .ref hd, .ref hs, .ref hu, .ref hv, .int kn])), (ho, .inl (cR, 4, .inr (.inr (.inr (.inr R0))))), (y0, .inl (cI, 64, .inl f0)), (q_4, .inr (1, [.ref d2_12, .int 0, .int 0, .int (nI ((0 + 0) + 0))])), (d2_12, .inl (cA2_13, (zz_cap ((0 + 0) + 0) k1), .inl f2_14))] H1 := hP1
  have hD : va_D A [(h, .inr (9, [.int th, .ref ho, .ref hd, .ref hs, .ref hu, .ref hv, .int kn])), (ho, .inl (cR, 4, .inr (.inr (.inr (.inr R0))))), (y0, .inl (cI, 64, .inl f0)), (q_4, .inr (1, [.ref d2_12, .int 0, .int 0, .int (nI ((0 + 0) + 0))])), (d2_12, .inl (cA2_13, (zz_cap ((0 + 0) + 0) k1), .inl f2_14))] := hD1
  have hK : va_K D vwCl [(cR, .array .int), (cI, .int), (cA2_6, .byte), (cA2_8, .byte), (cA2_13, .byte)] s := hK1
  have hS := hS1
  have hT := hT1
  have hDB : va_D B [(h, .inr (9, [.int th, .ref ho, .ref hd, .ref hs, .ref hu, .ref hv, .int kn])), (ho, .inl (cR, 4, .inr (.inr (.inr (.inr R0))))), (y0, .inl (cI, 64, .inl f0)), (q_4, .inr (1, [.ref d2_12, .int 0, .int 0, .int (nI ((0 + 0) + 0))])), (d2_12, .inl (cA2_13, (zz_cap ((0 + 0) + 0) k1), .inl f2_14))] := hDB1
  clear hT1 hDB1
  clear hP1 hD1 hK1 hS1
  obtain ⟨H, rfl⟩ : ∃ z, z = H1 := ⟨_, rfl⟩
  refine W.eq (g2 := F0 mt0 53 ls [.ref q_4]) rfl ?_
  obtain ⟨k2, ek2⟩ : ∃ z, z = (zz_cap ((0 + 0) + 0) k1) := ⟨_, rfl⟩
  rw [← ek2] at hP hD hDB
  have ok2 := zz_cap_or ((0 + 0) + 0) k1; rw [← ek2] at ok2
  have hk2 : k2 ≤ 1500 := by omega
  refine lv_iload hx hb dX5_textOf_53 (lv_at hl 0 rfl) ?_
  have hFc := zz_free (wc := [(q_4, .inr (1, [.ref d2_12, .int 0, .int 0, .int (nI ((0 + 0) + 0))])), (d2_12, .inl (cA2_13, k2, .inl f2_14))]) hD (fun q h => hA q (Nat.le_trans hS.1 h)) [3, 4] rfl
  have hFB := zz_free (wc := [(q_4, .inr (1, [.ref d2_12, .int 0, .int 0, .int (nI ((0 + 0) + 0))])), (d2_12, .inl (cA2_13, k2, .inl f2_14))]) hDB (fun q h => hBge q (Nat.le_trans hT.1 h)) [3, 4] rfl
  have hO0 := zz_out zz_St_G hX0 hS hFc
  refine zz_after0 (wr := [(h, .inr (9, [.int th, .ref ho, .ref hd, .ref hs, .ref hu, .ref hv, .int kn])), (ho, .inl (cR, 4, .inr (.inr (.inr (.inr R0))))), (y0, .inl (cI, 64, .inl f0))]) (va_runV (As := [.int (nI 10)]) (rest := []) ⟨hx, hb, hml, hown, hts⟩ ((k_J4_append_bf812 l D q_4 d2_12 0 ((0 + 0) + 0) k2 f2_14 cA2_13 10 (by omega) (by omega) (by omega) (by omega) (h_15)) H.size) (cwV 1 hts gX5_textOf_J4_append_bf812 rfl rfl rfl (by decide +kernel) ⟨Nat.le_of_ble_eq_true rfl, Nat.le_of_ble_eq_true rfl⟩) (zz_pV (zz_pre (av := [.ref q_4, .int (nI 10)]) (tyc := [(cA2_13, .byte)]) (wc := [(q_4, .inr (1, [.ref d2_12, .int 0, .int 0, .int (nI ((0 + 0) + 0))])), (d2_12, .inl (cA2_13, k2, .inl f2_14))]) (X := fun _ _ => True) (Xc := (fun A U => zz_G A U)) hP hD hK hS [3, 4] [4] rfl (by decide) rfl zz_St_G (fun U h1 h2 => hO0 U h1 h2)) (va_recv hK hP (ci := 1) (q0 := 3) rfl rfl)) rfl rfl hl.1 rfl (lv_room (Nat.le_of_ble_eq_true rfl)) dX5_textOf_55 ⟨by show 0 + 1 + 1 + 1 + 0 + 1 + 1 ≤ 486; omega, by show 0 + 4 + 16 + 1500 + 0 + 1500 + 1500 ≤ 487296; omega⟩) hP hD hK hFc [3, 4] [0, 1, 2] rfl rfl (by decide) (by decide) (fun v w1 ty1 H1 L9 hq9 hz9 hk9 hL9 hP1 hDf hK1 => ?_)
  have hS1 := zz_S1 hS hz9 hk9 hFc hL9
  have hT1 := hT.go hz9 hk9 hFB
  have hD1 := hDf A hD hFc
  have hDB1 := hDf B hDB hFB
  obtain ⟨locs, elocs⟩ : ∃ z, z = locs ++ L9 := ⟨_, rfl⟩
  rw [← elocs] at hS1 ⊢
  clear elocs hz9 hk9 hL9 hDf
  obtain ⟨d2_16, cA2_17, f2_18, h_19, rfl, rfl, rfl⟩ := hq9
  clear hS hP hD hK hFc hO0 hT hDB hFB
  have hP : va_P D vwCl [(h, .inr (9, [.int th, .ref ho, .ref hd, .ref hs, .ref hu, .ref hv, .int kn])), (ho, .inl (cR, 4, .inr (.inr (.inr (.inr R0))))), (y0, .inl (cI, 64, .inl f0)), (q_4, .inr (1, [.ref d2_16, .int 0, .int 0, .int (nI (((0 + 0) + 0) + 2))])), (d2_16, .inl (cA2_17, (zz_cap (((0 + 0) + 0) + 2) k2), .inl f2_18))] H1 := hP1
  have hD : va_D A [(h, .inr (9, [.int th, .ref ho, .ref hd, .ref hs, .ref hu, .ref hv, .int kn])), (ho, .inl (cR, 4, .inr (.inr (.inr (.inr R0))))), (y0, .inl (cI, 64, .inl f0)), (q_4, .inr (1, [.ref d2_16, .int 0, .int 0, .int (nI (((0 + 0) + 0) + 2))])), (d2_16, .inl (cA2_17, (zz_cap (((0 + 0) + 0) + 2) k2), .inl f2_18))] := hD1
  have hK : va_K D vwCl [(cR, .array .int), (cI, .int), (cA2_6, .byte), (cA2_8, .byte), (cA2_13, .byte), (cA2_17, .byte)] s := hK1
  have hS := hS1
  have hT := hT1
  have hDB : va_D B [(h, .inr (9, [.int th, .ref ho, .ref hd, .ref hs, .ref hu, .ref hv, .int kn])), (ho, .inl (cR, 4, .inr (.inr (.inr (.inr R0))))), (y0, .inl (cI, 64, .inl f0)), (q_4, .inr (1, [.ref d2_16, .int 0, .int 0, .int (nI (((0 + 0) + 0) + 2))])), (d2_16, .inl (cA2_17, (zz_cap (((0 + 0) + 0) + 2) k2), .inl f2_18))] := hDB1
  clear hT1 hDB1
  clear hP1 hD1 hK1 hS1
  obtain ⟨H, rfl⟩ : ∃ z, z = H1 := ⟨_, rfl⟩
  refine W.eq (g2 := F0 mt0 58 ls [.ref q_4]) rfl ?_
  obtain ⟨k3, ek3⟩ : ∃ z, z = (zz_cap (((0 + 0) + 0) + 2) k2) := ⟨_, rfl⟩
  rw [← ek3] at hP hD hDB
  have ok3 := zz_cap_or (((0 + 0) + 0) + 2) k2; rw [← ek3] at ok3
  have hk3 : k3 ≤ 1500 := by omega
  refine va_ldcS hx hb hown hX4 dX5_textOf_58 ?_
  have hFc := zz_free (wc := [(q_4, .inr (1, [.ref d2_16, .int 0, .int 0, .int (nI (((0 + 0) + 0) + 2))])), (d2_16, .inl (cA2_17, k3, .inl f2_18))]) hD (fun q h => hA q (Nat.le_trans hS.1 h)) [3, 4] rfl
  have hFB := zz_free (wc := [(q_4, .inr (1, [.ref d2_16, .int 0, .int 0, .int (nI (((0 + 0) + 0) + 2))])), (d2_16, .inl (cA2_17, k3, .inl f2_18))]) hDB (fun q h => hBge q (Nat.le_trans hT.1 h)) [3, 4] rfl
  have hO0 := zz_out zz_St_G hX0 hS hFc
  have hO1 := zz_out (zz_St_S qq bq 1 fq) hX3 hS hFc
  refine zz_after0 (wr := [(h, .inr (9, [.int th, .ref ho, .ref hd, .ref hs, .ref hu, .ref hv, .int kn])), (ho, .inl (cR, 4, .inr (.inr (.inr (.inr R0))))), (y0, .inl (cI, 64, .inl f0))]) (va_runV (As := [.ref qq]) (rest := []) ⟨hx, hb, hml, hown, hts⟩ ((k_J4_append_15ec4 l D q_4 d2_16 0 (((0 + 0) + 0) + 2) k3 f2_18 cA2_17 qq bq 1 fq (by omega) (by omega) (h_19)) H.size) (cwV 1 hts gX5_textOf_J4_append_15ec4 rfl rfl rfl (by decide +kernel) ⟨Nat.le_of_ble_eq_true rfl, Nat.le_of_ble_eq_true rfl⟩) (zz_pV (zz_pre (av := [.ref q_4, .ref qq]) (tyc := [(cA2_17, .byte)]) (wc := [(q_4, .inr (1, [.ref d2_16, .int 0, .int 0, .int (nI (((0 + 0) + 0) + 2))])), (d2_16, .inl (cA2_17, k3, .inl f2_18))]) (X := fun _ _ => True) (Xc := (fun A U => zz_G A U ∧ zz_S qq bq 1 fq A U)) hP hD hK hS [3, 4] [5] rfl (by decide) rfl (zz_St_and zz_St_G (zz_St_S qq bq 1 fq)) (fun U h1 h2 => ⟨hO0 U h1 h2, hO1 U h1 h2⟩)) (va_recv hK hP (ci := 1) (q0 := 3) rfl rfl)) rfl rfl hl.1 rfl (lv_room (Nat.le_of_ble_eq_true rfl)) dX5_textOf_60 ⟨by show 0 + 1 + 1 + 1 + 0 + 1 + 1 + 1 ≤ 486; omega, by show 0 + 4 + 16 + 1500 + 0 + 1500 + 1500 + 1500 ≤ 487296; omega⟩) hP hD hK hFc [3, 4] [0, 1, 2] rfl rfl (by decide) (by decide) (fun v w1 ty1 H1 L9 hq9 hz9 hk9 hL9 hP1 hDf hK1 => ?_)
  have hS1 := zz_S1 hS hz9 hk9 hFc hL9
  have hT1 := hT.go hz9 hk9 hFB
  have hD1 := hDf A hD hFc
  have hDB1 := hDf B hDB hFB
  obtain ⟨locs, elocs⟩ : ∃ z, z = locs ++ L9 := ⟨_, rfl⟩
  rw [← elocs] at hS1 ⊢
  clear elocs hz9 hk9 hL9 hDf
  obtain ⟨d2_20, cA2_21, f2_22, h_23, rfl, rfl, rfl⟩ := hq9
  clear hS hP hD hK hFc hO0 hO1 hT hDB hFB
  have hP : va_P D vwCl [(h, .inr (9, [.int th, .ref ho, .ref hd, .ref hs, .ref hu, .ref hv, .int kn])), (ho, .inl (cR, 4, .inr (.inr (.inr (.inr R0))))), (y0, .inl (cI, 64, .inl f0)), (q_4, .inr (1, [.ref d2_20, .int 0, .int 0, .int (nI ((((0 + 0) + 0) + 2) + 1))])), (d2_20, .inl (cA2_21, (zz_cap ((((0 + 0) + 0) + 2) + 1) k3), .inl f2_22))] H1 := hP1
  have hD : va_D A [(h, .inr (9, [.int th, .ref ho, .ref hd, .ref hs, .ref hu, .ref hv, .int kn])), (ho, .inl (cR, 4, .inr (.inr (.inr (.inr R0))))), (y0, .inl (cI, 64, .inl f0)), (q_4, .inr (1, [.ref d2_20, .int 0, .int 0, .int (nI ((((0 + 0) + 0) + 2) + 1))])), (d2_20, .inl (cA2_21, (zz_cap ((((0 + 0) + 0) + 2) + 1) k3), .inl f2_22))] := hD1
  have hK : va_K D vwCl [(cR, .array .int), (cI, .int), (cA2_6, .byte), (cA2_8, .byte), (cA2_13, .byte), (cA2_17, .byte), (cA2_21, .byte)] s := hK1
  have hS := hS1
  have hT := hT1
  have hDB : va_D B [(h, .inr (9, [.int th, .ref ho, .ref hd, .ref hs, .ref hu, .ref hv, .int kn])), (ho, .inl (cR, 4, .inr (.inr (.inr (.inr R0))))), (y0, .inl (cI, 64, .inl f0)), (q_4, .inr (1, [.ref d2_20, .int 0, .int 0, .int (nI ((((0 + 0) + 0) + 2) + 1))])), (d2_20, .inl (cA2_21, (zz_cap ((((0 + 0) + 0) + 2) + 1) k3), .inl f2_22))] := hDB1
  clear hT1 hDB1
  clear hP1 hD1 hK1 hS1
  obtain ⟨H, rfl⟩ : ∃ z, z = H1 := ⟨_, rfl⟩
  refine W.eq (g2 := F0 mt0 63 ls [.ref q_4]) rfl ?_
  obtain ⟨k4, ek4⟩ : ∃ z, z = (zz_cap ((((0 + 0) + 0) + 2) + 1) k3) := ⟨_, rfl⟩
  rw [← ek4] at hP hD hDB
  have ok4 := zz_cap_or ((((0 + 0) + 0) + 2) + 1) k3; rw [← ek4] at ok4
  have hk4 : k4 ≤ 1500 := by omega
  refine lv_aload_n hx hb dX5_textOf_63 rfl (lv_at hl 2 rfl) ?_
  refine va_get (D := D) (ci := 9) (v := .ref ho) (C := RX5) (T := TX5) (N := 7) hx hb hts (by decide +kernel) hown hK hP 0 rfl rfl 1 (by decide) (hts (.fieldLink RX5 11 "HashladderModel" "rows" "[[I") (by decide +kernel)) (fun _ h9 => h9) rfl dX5_textOf_64 ?_
  refine lv_iload_n hx hb dX5_textOf_67 rfl (lv_at hl 3 rfl) ?_
  refine zz_aldA hx hb hK hP 1 0 rfl rfl rfl ((show vp_in (0 : Int32) 4 from vp_in_nI (n := 0) (by decide) (by decide))) (v := .ref y0) (by rw [show ((0 : Int32)).toNatClampNeg = 0 from by decide, hR]; rfl) dX5_textOf_68 ?_
  refine lv_iload hx hb dX5_textOf_69 (lv_at hl 0 rfl) ?_
  refine va_iald hx hb hK hP 2 1 rfl rfl (vp_in_nI (by omega) (by decide)) dX5_textOf_71 ?_
  refine lv_topi (fun z_24 ez_24 => ?_)
  obtain rfl : z_24 = nI 99 := ez_24.trans (by rw [nI_clamp (by omega)]; exact hf2 10 (by omega) (by omega))
  have hFc := zz_free (wc := [(q_4, .inr (1, [.ref d2_20, .int 0, .int 0, .int (nI ((((0 + 0) + 0) + 2) + 1))])), (d2_20, .inl (cA2_21, k4, .inl f2_22))]) hD (fun q h => hA q (Nat.le_trans hS.1 h)) [3, 4] rfl
  have hFB := zz_free (wc := [(q_4, .inr (1, [.ref d2_20, .int 0, .int 0, .int (nI ((((0 + 0) + 0) + 2) + 1))])), (d2_20, .inl (cA2_21, k4, .inl f2_22))]) hDB (fun q h => hBge q (Nat.le_trans hT.1 h)) [3, 4] rfl
  have hO0 := zz_out zz_St_G hX0 hS hFc
  refine zz_after0 (wr := [(h, .inr (9, [.int th, .ref ho, .ref hd, .ref hs, .ref hu, .ref hv, .int kn])), (ho, .inl (cR, 4, .inr (.inr (.inr (.inr R0))))), (y0, .inl (cI, 64, .inl f0))]) (va_runV (As := [.int (nI 99)]) (rest := []) ⟨hx, hb, hml, hown, hts⟩ ((k_J4_append_bf812 l D q_4 d2_20 0 ((((0 + 0) + 0) + 2) + 1) k4 f2_22 cA2_21 99 (by decide) (by decide) (by omega) (by omega) (h_23)) H.size) (cwV 1 hts gX5_textOf_J4_append_bf812 rfl rfl rfl (by decide +kernel) ⟨Nat.le_of_ble_eq_true rfl, Nat.le_of_ble_eq_true rfl⟩) (zz_pV (zz_pre (av := [.ref q_4, .int (nI 99)]) (tyc := [(cA2_21, .byte)]) (wc := [(q_4, .inr (1, [.ref d2_20, .int 0, .int 0, .int (nI ((((0 + 0) + 0) + 2) + 1))])), (d2_20, .inl (cA2_21, k4, .inl f2_22))]) (X := fun _ _ => True) (Xc := (fun A U => zz_G A U)) hP hD hK hS [3, 4] [6] rfl (by decide) rfl zz_St_G (fun U h1 h2 => hO0 U h1 h2)) (va_recv hK hP (ci := 1) (q0 := 3) rfl rfl)) rfl rfl hl.1 rfl (lv_room (Nat.le_of_ble_eq_true rfl)) dX5_textOf_72 ⟨by show 0 + 1 + 1 + 1 + 0 + 1 + 1 + 1 + 1 ≤ 486; omega, by show 0 + 4 + 16 + 1500 + 0 + 1500 + 1500 + 1500 + 1500 ≤ 487296; omega⟩) hP hD hK hFc [3, 4] [0, 1, 2] rfl rfl (by decide) (by decide) (fun v w1 ty1 H1 L9 hq9 hz9 hk9 hL9 hP1 hDf hK1 => ?_)
  have hS1 := zz_S1 hS hz9 hk9 hFc hL9
  have hT1 := hT.go hz9 hk9 hFB
  have hD1 := hDf A hD hFc
  have hDB1 := hDf B hDB hFB
  obtain ⟨locs, elocs⟩ : ∃ z, z = locs ++ L9 := ⟨_, rfl⟩
  rw [← elocs] at hS1 ⊢
  clear elocs hz9 hk9 hL9 hDf
  obtain ⟨d2_25, cA2_26, f2_27, h_28, rfl, rfl, rfl⟩ := hq9
  clear hS hP hD hK hFc hO0 hT hDB hFB
  have hP : va_P D vwCl [(h, .inr (9, [.int th, .ref ho, .ref hd, .ref hs, .ref hu, .ref hv, .int kn])), (ho, .inl (cR, 4, .inr (.inr (.inr (.inr R0))))), (y0, .inl (cI, 64, .inl f0)), (q_4, .inr (1, [.ref d2_25, .int 0, .int 0, .int (nI (((((0 + 0) + 0) + 2) + 1) + 2))])), (d2_25, .inl (cA2_26, (zz_cap (((((0 + 0) + 0) + 2) + 1) + 2) k4), .inl f2_27))] H1 := hP1
  have hD : va_D A [(h, .inr (9, [.int th, .ref ho, .ref hd, .ref hs, .ref hu, .ref hv, .int kn])), (ho, .inl (cR, 4, .inr (.inr (.inr (.inr R0))))), (y0, .inl (cI, 64, .inl f0)), (q_4, .inr (1, [.ref d2_25, .int 0, .int 0, .int (nI (((((0 + 0) + 0) + 2) + 1) + 2))])), (d2_25, .inl (cA2_26, (zz_cap (((((0 + 0) + 0) + 2) + 1) + 2) k4), .inl f2_27))] := hD1
  have hK : va_K D vwCl [(cR, .array .int), (cI, .int), (cA2_6, .byte), (cA2_8, .byte), (cA2_13, .byte), (cA2_17, .byte), (cA2_21, .byte), (cA2_26, .byte)] s := hK1
  have hS := hS1
  have hT := hT1
  have hDB : va_D B [(h, .inr (9, [.int th, .ref ho, .ref hd, .ref hs, .ref hu, .ref hv, .int kn])), (ho, .inl (cR, 4, .inr (.inr (.inr (.inr R0))))), (y0, .inl (cI, 64, .inl f0)), (q_4, .inr (1, [.ref d2_25, .int 0, .int 0, .int (nI (((((0 + 0) + 0) + 2) + 1) + 2))])), (d2_25, .inl (cA2_26, (zz_cap (((((0 + 0) + 0) + 2) + 1) + 2) k4), .inl f2_27))] := hDB1
  clear hT1 hDB1
  clear hP1 hD1 hK1 hS1
  obtain ⟨H, rfl⟩ : ∃ z, z = H1 := ⟨_, rfl⟩
  refine W.eq (g2 := F0 mt0 75 ls [.ref q_4]) rfl ?_
  obtain ⟨k5, ek5⟩ : ∃ z, z = (zz_cap (((((0 + 0) + 0) + 2) + 1) + 2) k4) := ⟨_, rfl⟩
  rw [← ek5] at hP hD hDB
  have ok5 := zz_cap_or (((((0 + 0) + 0) + 2) + 1) + 2) k4; rw [← ek5] at ok5
  have hk5 : k5 ≤ 1500 := by omega
  have hlast : (((((0 + 0) + 0) + 2) + 1) + 2) < k5 := by omega
  have hFc := zz_free (wc := [(q_4, .inr (1, [.ref d2_25, .int 0, .int 0, .int (nI (((((0 + 0) + 0) + 2) + 1) + 2))])), (d2_25, .inl (cA2_26, k5, .inl f2_27))]) hD (fun q h => hA q (Nat.le_trans hS.1 h)) [3, 4] rfl
  have hFB := zz_free (wc := [(q_4, .inr (1, [.ref d2_25, .int 0, .int 0, .int (nI (((((0 + 0) + 0) + 2) + 1) + 2))])), (d2_25, .inl (cA2_26, k5, .inl f2_27))]) hDB (fun q h => hBge q (Nat.le_trans hT.1 h)) [3, 4] rfl
  have hO0 := zz_out zz_St_G hX0 hS hFc
  refine zz_after0 (wr := [(h, .inr (9, [.int th, .ref ho, .ref hd, .ref hs, .ref hu, .ref hv, .int kn])), (ho, .inl (cR, 4, .inr (.inr (.inr (.inr R0))))), (y0, .inl (cI, 64, .inl f0))]) (va_runV (As := []) (rest := []) ⟨hx, hb, hml, hown, hts⟩ ((k_J4_toString_0e30d l D q_4 d2_25 0 (((((0 + 0) + 0) + 2) + 1) + 2) k5 f2_27 cA2_26 (hlast) (by omega) (h_28)) H.size) (cwV 0 hts gX5_textOf_J4_toString_0e30d rfl rfl rfl (by decide +kernel) ⟨Nat.le_of_ble_eq_true rfl, Nat.le_of_ble_eq_true rfl⟩) (zz_pV (zz_pre (av := [.ref q_4]) (tyc := [(cA2_26, .byte)]) (wc := [(q_4, .inr (1, [.ref d2_25, .int 0, .int 0, .int (nI (((((0 + 0) + 0) + 2) + 1) + 2))])), (d2_25, .inl (cA2_26, k5, .inl f2_27))]) (X := fun _ _ => True) (Xc := (fun A U => zz_G A U)) hP hD hK hS [3, 4] [7] rfl (by decide) rfl zz_St_G (fun U h1 h2 => hO0 U h1 h2)) (va_recv hK hP (ci := 1) (q0 := 3) rfl rfl)) rfl rfl hl.1 rfl (lv_room (Nat.le_of_ble_eq_true rfl)) dX5_textOf_75 ⟨by show 0 + 1 + 1 + 1 + 0 + 1 + 1 + 1 + 1 + 2 ≤ 486; omega, by show 0 + 4 + 16 + 1500 + 0 + 1500 + 1500 + 1500 + 1500 + 1504 ≤ 487296; omega⟩) hP hD hK hFc [3, 4] [0, 1, 2] rfl rfl (by decide) (by decide) (fun v w1 ty1 H1 L9 hq9 hz9 hk9 hL9 hP1 hDf hK1 => ?_)
  have hS1 := zz_S1 hS hz9 hk9 hFc hL9
  have hT1 := hT.go hz9 hk9 hFB
  have hD1 := hDf A hD hFc
  have hDB1 := hDf B hDB hFB
  obtain ⟨locs, elocs⟩ : ∃ z, z = locs ++ L9 := ⟨_, rfl⟩
  rw [← elocs] at hS1 ⊢
  clear elocs hz9 hk9 hL9 hDf
  obtain ⟨t2_29, b2_30, cA2_31, f2_32, h_33, rfl, rfl, rfl⟩ := hq9
  clear hS hP hD hK hFc hO0 hT hDB hFB
  have hP : va_P D vwCl [(h, .inr (9, [.int th, .ref ho, .ref hd, .ref hs, .ref hu, .ref hv, .int kn])), (ho, .inl (cR, 4, .inr (.inr (.inr (.inr R0))))), (y0, .inl (cI, 64, .inl f0)), (t2_29, .inr (0, [.ref b2_30, .int 0, .int 0, .int 0])), (q_4, .inr (1, [.ref d2_25, .int 0, .int 0, .int (nI (((((0 + 0) + 0) + 2) + 1) + 2))])), (d2_25, .inl (cA2_26, k5, .inl f2_27)), (b2_30, .inl (cA2_31, (((((0 + 0) + 0) + 2) + 1) + 2), .inl f2_32))] H1 := hP1
  have hD : va_D A [(h, .inr (9, [.int th, .ref ho, .ref hd, .ref hs, .ref hu, .ref hv, .int kn])), (ho, .inl (cR, 4, .inr (.inr (.inr (.inr R0))))), (y0, .inl (cI, 64, .inl f0)), (t2_29, .inr (0, [.ref b2_30, .int 0, .int 0, .int 0])), (q_4, .inr (1, [.ref d2_25, .int 0, .int 0, .int (nI (((((0 + 0) + 0) + 2) + 1) + 2))])), (d2_25, .inl (cA2_26, k5, .inl f2_27)), (b2_30, .inl (cA2_31, (((((0 + 0) + 0) + 2) + 1) + 2), .inl f2_32))] := hD1
  have hK : va_K D vwCl [(cR, .array .int), (cI, .int), (cA2_6, .byte), (cA2_8, .byte), (cA2_13, .byte), (cA2_17, .byte), (cA2_21, .byte), (cA2_26, .byte), (cA2_26, .byte), (cA2_31, .byte)] s := hK1
  have hS := hS1
  have hT := hT1
  have hDB : va_D B [(h, .inr (9, [.int th, .ref ho, .ref hd, .ref hs, .ref hu, .ref hv, .int kn])), (ho, .inl (cR, 4, .inr (.inr (.inr (.inr R0))))), (y0, .inl (cI, 64, .inl f0)), (t2_29, .inr (0, [.ref b2_30, .int 0, .int 0, .int 0])), (q_4, .inr (1, [.ref d2_25, .int 0, .int 0, .int (nI (((((0 + 0) + 0) + 2) + 1) + 2))])), (d2_25, .inl (cA2_26, k5, .inl f2_27)), (b2_30, .inl (cA2_31, (((((0 + 0) + 0) + 2) + 1) + 2), .inl f2_32))] := hDB1
  clear hT1 hDB1
  clear hP1 hD1 hK1 hS1
  obtain ⟨H, rfl⟩ : ∃ z, z = H1 := ⟨_, rfl⟩
  refine W.eq (g2 := F0 mt0 78 ls [.ref t2_29]) rfl ?_
  refine lv_astore_n (lv' := [(3, .ref t2_29), (4, .int (nI 10)), (0, .ref h), (1, .int 0), (2, .ref qs)]) hx hb dX5_textOf_78 rfl hl (by decide) rfl (fun ls hl => ?_)
  refine lv_iinc (v := (nI (10 + 1))) (lv' := [(4, .int (nI (10 + 1))), (3, .ref t2_29), (0, .ref h), (1, .int 0), (2, .ref qs)]) hx hb dX5_textOf_79 hl (k := 1) rfl (nI_1 10) (by decide) rfl (fun ls hl => ?_)
  refine lv_goto (tgt := 6) hx hb dX5_textOf_82 (by decide) ?_
  rw [hB] at hT hDB
  obtain ⟨hLa, hda⟩ := zz_L.kept hL hd9 hT hDB
  obtain ⟨hLb, hdb⟩ := zz_L.add (ws' := [(h, .inr (9, [.int th, .ref ho, .ref hd, .ref hs, .ref hu, .ref hv, .int kn])), (ho, .inl (cR, 4, .inr (.inr (.inr (.inr R0))))), (y0, .inl (cI, 64, .inl f0)), (t2_29, .inr (0, [.ref b2_30, .int 0, .int 0, .int 0])), (q_4, .inr (1, [.ref d2_25, .int 0, .int 0, .int (nI (((((0 + 0) + 0) + 2) + 1) + 2))])), (b2_30, .inl (cA2_31, (((((0 + 0) + 0) + 2) + 1) + 2), .inl f2_32))]) hLa hda hD hP 5 rfl (zz_lo hAe hD [0, 1, 2] rfl 5 (by decide) rfl) [0, 1, 2, 3, 4, 6] rfl (by decide)
  have hLc := hLb
  have hdc := hdb.sub (ws' := [(h, .inr (9, [.int th, .ref ho, .ref hd, .ref hs, .ref hu, .ref hv, .int kn])), (ho, .inl (cR, 4, .inr (.inr (.inr (.inr R0))))), (y0, .inl (cI, 64, .inl f0)), (t2_29, .inr (0, [.ref b2_30, .int 0, .int 0, .int 0])), (b2_30, .inl (cA2_31, (((((0 + 0) + 0) + 2) + 1) + 2), .inl f2_32))]) [0, 1, 2, 3, 5] rfl
  have en : (((((0 + 0) + 0) + 2) + 1) + 2) = 5 := by omega
  have hP7 := hP.sub (ws' := [(h, .inr (9, [.int th, .ref ho, .ref hd, .ref hs, .ref hu, .ref hv, .int kn])), (ho, .inl (cR, 4, .inr (.inr (.inr (.inr R0))))), (y0, .inl (cI, 64, .inl f0)), (t2_29, .inr (0, [.ref b2_30, .int 0, .int 0, .int 0])), (b2_30, .inl (cA2_31, (((((0 + 0) + 0) + 2) + 1) + 2), .inl f2_32))]) [0, 1, 2, 3, 6] rfl
  have hD7 := hD.sub (ws' := [(h, .inr (9, [.int th, .ref ho, .ref hd, .ref hs, .ref hu, .ref hv, .int kn])), (ho, .inl (cR, 4, .inr (.inr (.inr (.inr R0))))), (y0, .inl (cI, 64, .inl f0)), (t2_29, .inr (0, [.ref b2_30, .int 0, .int 0, .int 0])), (b2_30, .inl (cA2_31, (((((0 + 0) + 0) + 2) + 1) + 2), .inl f2_32))]) [0, 1, 2, 3, 6] (by decide) rfl
  have hK7 := hK.sub (tys' := [(cR, .array .int), (cI, .int), (cA2_31, .byte)]) [0, 1, 9] rfl
  rw [en] at hP7 hD7 hdc
  refine W.widen (k := 9) (n := 9024) (by show 0 + 1 + 1 + 1 + 0 + 1 + 1 + 1 + 1 + 2 ≤ 9; omega) (by show 0 + 4 + 16 + 1500 + 0 + 1500 + 1500 + 1500 + 1500 + 1504 ≤ 9024; omega) ?_
  exact kk _ _ _ _ _ _ _ _ h_33 hK7 hP7 hD7 hS (lv_sub hl [0, 1, 2, 3, 4] rfl) (zz_L.le hLc (by omega)) hdc
set_option maxHeartbeats 4000000 in
set_option maxRecDepth 100000 in
theorem tx_C {p0 : Program} {l : Launch} {e0 : Env} {s : State} {mt0 : MethodId} {args : Array Value} {bl0 : List Frame} {meth0 : Method} {cd0 : Code} {Q : State → Prop} {A : Nat → Prop} {H : Heap} {locs : List Loc} {ls : Array Slot} (D : va_G) (h : Nat) (th : Int32) (ho : Nat) (hd : Nat) (hs : Nat) (hu : Nat) (hv : Nat) (kn : Int32) (cR : ClassId) (R0 : Nat → Option Nat) (y0 : Nat) (cI : ClassId) (f0 : Nat → Int32) (qe : Nat) (be : Nat) (fe : Nat → Int32) (qq : Nat) (bq : Nat) (fq : Nat → Int32) (qs : Nat) (bs : Nat) (fs : Nat → Int32) (j : Nat) (qm : Nat) (bm : Nat) (cM : ClassId) (fm : Nat → Int32) (Lg : List Nat) (K0 : Nat) (hC : zz_C p0 s mt0 meth0 cd0 args RX5 cX5_textOf 5 (some (.object "java/lang/String")) wsX5_textOf) (hX0 : zz_G A s) (hX1 : zz_S qe be 0 fe A s) (hX2 : vk_R RX5 116 "" qe s) (hX3 : zz_S qq bq 1 fq A s) (hX4 : vk_R RX5 134 "=" qq s) (hX5 : zz_S qs bs 2 fs A s) (hA : ∀ q, s.heap.size ≤ q → A q) (hK : va_K D vwCl [(cR, .array .int), (cI, .int), (cM, .byte)] s) (hP : va_P D vwCl [(h, .inr (9, [.int th, .ref ho, .ref hd, .ref hs, .ref hu, .ref hv, .int kn])), (ho, .inl (cR, 4, .inr (.inr (.inr (.inr R0))))), (y0, .inl (cI, 64, .inl f0)), (qm, .inr (0, [.ref bm, .int 0, .int 0, .int 0])), (bm, .inl (cM, (7 * j + 5), .inl fm))] H) (hD : va_D A [(h, .inr (9, [.int th, .ref ho, .ref hd, .ref hs, .ref hu, .ref hv, .int kn])), (ho, .inl (cR, 4, .inr (.inr (.inr (.inr R0))))), (y0, .inl (cI, 64, .inl f0)), (qm, .inr (0, [.ref bm, .int 0, .int 0, .int 0])), (bm, .inl (cM, (7 * j + 5), .inl fm))]) (hS : va_S A s.heap H locs) (hl : lv_has ls 5 [(4, .int (nI (11 + j))), (3, .ref qm), (0, .ref h), (1, .int 0), (2, .ref qs)]) (hR : R0 0 = some y0) (hf2 : ∀ n, 10 ≤ n → n < 64 → f0 n = 99) (hAe : va_A [(h, .inr (9, [.int th, .ref ho, .ref hd, .ref hs, .ref hu, .ref hv, .int kn])), (ho, .inl (cR, 4, .inr (.inr (.inr (.inr R0))))), (y0, .inl (cI, 64, .inl f0))] s.heap.size = A) (hj : j < 53) (hfm : sb_Fit fm) (hL : zz_L Lg s.heap.size H K0) (hd9 : zz_d Lg [(h, .inr (9, [.int th, .ref ho, .ref hd, .ref hs, .ref hu, .ref hv, .int kn])), (ho, .inl (cR, 4, .inr (.inr (.inr (.inr R0))))), (y0, .inl (cI, 64, .inl f0)), (qm, .inr (0, [.ref bm, .int 0, .int 0, .int 0])), (bm, .inl (cM, (7 * j + 5), .inl fm))]) (kk : ∀ (q' b' : Nat) (cA' : ClassId) (f' : Nat → Int32) (L' : List Nat) (H' : Heap) (locs' : List Loc) (ls' : Array Slot), sb_Fit f' → va_K D vwCl [(cR, .array .int), (cI, .int), (cA', .byte)] s → va_P D vwCl [(h, .inr (9, [.int th, .ref ho, .ref hd, .ref hs, .ref hu, .ref hv, .int kn])), (ho, .inl (cR, 4, .inr (.inr (.inr (.inr R0))))), (y0, .inl (cI, 64, .inl f0)), (q', .inr (0, [.ref b', .int 0, .int 0, .int 0])), (b', .inl (cA', (7 * (j + 1) + 5), .inl f'))] H' → va_D A [(h, .inr (9, [.int th, .ref ho, .ref hd, .ref hs, .ref hu, .ref hv, .int kn])), (ho, .inl (cR, 4, .inr (.inr (.inr (.inr R0))))), (y0, .inl (cI, 64, .inl f0)), (q', .inr (0, [.ref b', .int 0, .int 0, .int 0])), (b', .inl (cA', (7 * (j + 1) + 5), .inl f'))] → va_S A s.heap H' locs' → lv_has ls' 5 [(4, .int (nI ((11 + j) + 1))), (3, .ref q'), (0, .ref h), (1, .int 0), (2, .ref qs)] → zz_L L' s.heap.size H' (K0 + (14 * j + 18)) → zz_d L' [(h, .inr (9, [.int th, .ref ho, .ref hd, .ref hs, .ref hu, .ref hv, .int kn])), (ho, .inl (cR, 4, .inr (.inr (.inr (.inr R0))))), (y0, .inl (cI, 64, .inl f0)), (q', .inr (0, [.ref b', .int 0, .int 0, .int 0])), (b', .inl (cA', (7 * (j + 1) + 5), .inl f'))] → W p0 l e0 ({ frames := 8, cells := 486, slots := 487296, locals := 3600 } : Room) s mt0 args bl0 meth0 cd0 H' locs' (9 * (j + 1 + 1)) (9024 * (j + 1 + 1)) Q (F0 mt0 6 ls' [])) : W p0 l e0 ({ frames := 8, cells := 486, slots := 487296, locals := 3600 } : Room) s mt0 args bl0 meth0 cd0 H locs (9 * (j + 1)) (9024 * (j + 1)) Q (F0 mt0 6 ls []) := by
  obtain ⟨hx, hb, hml, hr, hown, hts, hlocks⟩ := hC
  have hDB := hD.self (sz := H.size)
  obtain ⟨B, hB⟩ : ∃ z, z = va_A [(h, .inr (9, [.int th, .ref ho, .ref hd, .ref hs, .ref hu, .ref hv, .int kn])), (ho, .inl (cR, 4, .inr (.inr (.inr (.inr R0))))), (y0, .inl (cI, 64, .inl f0)), (qm, .inr (0, [.ref bm, .int 0, .int 0, .int 0])), (bm, .inl (cM, (7 * j + 5), .inl fm))] H.size := ⟨_, rfl⟩
  rw [← hB] at hDB
  obtain ⟨Hk, hHk⟩ : ∃ z, z = H := ⟨_, rfl⟩
  have hBge : ∀ q, Hk.size ≤ q → B q := by intro q h; rw [hB, ← hHk]; exact Or.inr h
  have hT : zz_T B Hk H := by rw [hHk]; exact zz_T.rf
  rw [← hHk] at hB hL
  refine lv_iload hx hb dX5_textOf_6 (lv_at hl 0 rfl) ?_
  refine lv_bipush (v := 64) hx hb dX5_textOf_8 (by decide) ?_
  refine lv_icmp_ge (tgt := 85) hx hb dX5_textOf_10 (by decide) (fun c_1 => absurd c_1 (show ¬ nI 64 ≤ nI (11 + j) from nI_ge (by omega) (by decide))) (fun c_1 => ?_)
  refine lv_aload_n hx hb dX5_textOf_13 rfl (lv_at hl 2 rfl) ?_
  refine va_get (D := D) (ci := 9) (v := .ref ho) (C := RX5) (T := TX5) (N := 7) hx hb hts (by decide +kernel) hown hK hP 0 rfl rfl 1 (by decide) (hts (.fieldLink RX5 11 "HashladderModel" "rows" "[[I") (by decide +kernel)) (fun _ h9 => h9) rfl dX5_textOf_14 ?_
  refine lv_iload_n hx hb dX5_textOf_17 rfl (lv_at hl 3 rfl) ?_
  refine zz_aldA hx hb hK hP 1 0 rfl rfl rfl ((show vp_in (0 : Int32) 4 from vp_in_nI (n := 0) (by decide) (by decide))) (v := .ref y0) (by rw [show ((0 : Int32)).toNatClampNeg = 0 from by decide, hR]; rfl) dX5_textOf_18 ?_
  refine lv_iload hx hb dX5_textOf_19 (lv_at hl 0 rfl) ?_
  refine va_iald hx hb hK hP 2 1 rfl rfl (vp_in_nI (by omega) (by decide)) dX5_textOf_21 ?_
  refine lv_topi (fun z_2 ez_2 => ?_)
  obtain rfl : z_2 = nI 99 := ez_2.trans (by rw [nI_clamp (by omega)]; exact hf2 (11 + j) (by omega) (by omega))
  refine lv_iconst (v := (-1)) hx hb dX5_textOf_22 (by decide) ?_
  refine lv_icmp_eq (tgt := 79) hx hb dX5_textOf_23 (by decide) (fun c_3 => absurd c_3 (by decide)) (fun c_3 => ?_)
  refine zz_new0 (ci := 1) (fs := [.null, .int 0, .int 0, .int 0]) (C := RJ4) (T := TJ4) (N := 4) hx hb hts (by decide +kernel) tyJ4 tyJ4_ok hown (hts (.classLink RX5 118 RJ4) (by decide +kernel)) (hts (.instantiable RJ4 4) (by decide +kernel)) (hts (.initialized RJ4) (by decide +kernel)) hK hP rfl (fun j hj => by rcases (show j = 0 ∨ j = 1 ∨ j = 2 ∨ j = 3 by omega) with rfl | rfl | rfl | rfl <;> rfl) (by show 9 * (j + 1) + 1 ≤ 486; omega) (by show 9024 * (j + 1) + 4 ≤ 487296; omega) dX5_textOf_26 (fun q_4 H1 hq9 hz9 hk9 hP1 hDf => ?_)
  have hS1 := zz_S2 hS hz9 hk9
  have hT1 := hT.go (C := fun _ => False) (by omega) (fun x h1 _ => hk9 x h1) (fun _ h => h.elim)
  have hD1 := hDf A hD (hA _ (by rw [hq9]; exact hS.1))
  have hDB1 := hDf B hDB (hBge _ (by rw [hq9]; exact hT.1))
  clear hS hP hD hT hDB hz9 hk9 hDf hq9
  obtain ⟨H, rfl⟩ : ∃ z, z = H1 := ⟨_, rfl⟩
  have hS := hS1
  have hT := hT1
  have hDB : va_D B [(h, .inr (9, [.int th, .ref ho, .ref hd, .ref hs, .ref hu, .ref hv, .int kn])), (ho, .inl (cR, 4, .inr (.inr (.inr (.inr R0))))), (y0, .inl (cI, 64, .inl f0)), (qm, .inr (0, [.ref bm, .int 0, .int 0, .int 0])), (bm, .inl (cM, (7 * j + 5), .inl fm)), (q_4, .inr (1, [.null, .int 0, .int 0, .int 0]))] := hDB1
  have hP := hP1
  have hD := hD1
  clear hS1 hT1 hDB1 hP1 hD1
  have hP : va_P D vwCl [(h, .inr (9, [.int th, .ref ho, .ref hd, .ref hs, .ref hu, .ref hv, .int kn])), (ho, .inl (cR, 4, .inr (.inr (.inr (.inr R0))))), (y0, .inl (cI, 64, .inl f0)), (qm, .inr (0, [.ref bm, .int 0, .int 0, .int 0])), (bm, .inl (cM, (7 * j + 5), .inl fm)), (q_4, .inr (1, [.null, .int 0, .int 0, .int 0]))] H := hP
  have hD : va_D A [(h, .inr (9, [.int th, .ref ho, .ref hd, .ref hs, .ref hu, .ref hv, .int kn])), (ho, .inl (cR, 4, .inr (.inr (.inr (.inr R0))))), (y0, .inl (cI, 64, .inl f0)), (qm, .inr (0, [.ref bm, .int 0, .int 0, .int 0])), (bm, .inl (cM, (7 * j + 5), .inl fm)), (q_4, .inr (1, [.null, .int 0, .int 0, .int 0]))] := hD
  refine lv_dup hx hb dX5_textOf_29 rfl ?_
  have hFc := zz_free (wc := [(q_4, .inr (1, [.null, .int 0, .int 0, .int 0]))]) hD (fun q h => hA q (Nat.le_trans hS.1 h)) [5] rfl
  have hFB := zz_free (wc := [(q_4, .inr (1, [.null, .int 0, .int 0, .int 0]))]) hDB (fun q h => hBge q (Nat.le_trans hT.1 h)) [5] rfl
  have hO0 := zz_out zz_St_G hX0 hS hFc
  refine zz_after0 (wr := [(h, .inr (9, [.int th, .ref ho, .ref hd, .ref hs, .ref hu, .ref hv, .int kn])), (ho, .inl (cR, 4, .inr (.inr (.inr (.inr R0))))), (y0, .inl (cI, 64, .inl f0)), (qm, .inr (0, [.ref bm, .int 0, .int 0, .int 0])), (bm, .inl (cM, (7 * j + 5), .inl fm))]) (va_runI (As := []) (rest := [.ref q_4]) ⟨hx, hb, hml, hown, hts⟩ ((k_J4_init_da8c8 l D q_4) H.size) (cwI 0 hts gX5_textOf_J4_init_da8c8 rfl rfl rfl (hts (.initialized RJ4) (by decide +kernel)) (hts (.methodLink RX5 120 yJ4_init_da8c8) (by decide +kernel)) (hts (.instanceMethod yJ4_init_da8c8) (by decide +kernel)) rfl (by decide +kernel) ⟨Nat.le_of_ble_eq_true rfl, Nat.le_of_ble_eq_true rfl⟩) (zz_pre (av := [.ref q_4]) (tyc := []) (wc := [(q_4, .inr (1, [.null, .int 0, .int 0, .int 0]))]) (X := fun _ _ => True) (Xc := (fun A U => zz_G A U)) hP hD hK hS [5] [] rfl (by decide) rfl zz_St_G (fun U h1 h2 => hO0 U h1 h2)) rfl rfl hl.1 rfl (lv_room (Nat.le_of_ble_eq_true rfl)) dX5_textOf_30 ⟨by show 9 * (j + 1) + 1 + 1 ≤ 486; omega, by show 9024 * (j + 1) + 4 + 16 ≤ 487296; omega⟩) hP hD hK hFc [5] [0, 1, 2, 3, 4] rfl rfl (by decide) (by decide) (fun v w1 ty1 H1 L9 hq9 hz9 hk9 hL9 hP1 hDf hK1 => ?_)
  have hS1 := zz_S1 hS hz9 hk9 hFc hL9
  have hT1 := hT.go hz9 hk9 hFB
  have hD1 := hDf A hD hFc
  have hDB1 := hDf B hDB hFB
  obtain ⟨locs, elocs⟩ : ∃ z, z = locs ++ L9 := ⟨_, rfl⟩
  rw [← elocs] at hS1 ⊢
  clear elocs hz9 hk9 hL9 hDf
  obtain ⟨d2_5, cA2_6, rfl, rfl, rfl⟩ := hq9
  clear hS hP hD hK hFc hO0 hT hDB hFB
  have hP : va_P D vwCl [(h, .inr (9, [.int th, .ref ho, .ref hd, .ref hs, .ref hu, .ref hv, .int kn])), (ho, .inl (cR, 4, .inr (.inr (.inr (.inr R0))))), (y0, .inl (cI, 64, .inl f0)), (qm, .inr (0, [.ref bm, .int 0, .int 0, .int 0])), (bm, .inl (cM, (7 * j + 5), .inl fm)), (q_4, .inr (1, [.ref d2_5, .int 0, .int 0, .int (nI 0)])), (d2_5, .inl (cA2_6, 16, .inl (fun _ => 0)))] H1 := hP1
  have hD : va_D A [(h, .inr (9, [.int th, .ref ho, .ref hd, .ref hs, .ref hu, .ref hv, .int kn])), (ho, .inl (cR, 4, .inr (.inr (.inr (.inr R0))))), (y0, .inl (cI, 64, .inl f0)), (qm, .inr (0, [.ref bm, .int 0, .int 0, .int 0])), (bm, .inl (cM, (7 * j + 5), .inl fm)), (q_4, .inr (1, [.ref d2_5, .int 0, .int 0, .int (nI 0)])), (d2_5, .inl (cA2_6, 16, .inl (fun _ => 0)))] := hD1
  have hK : va_K D vwCl [(cR, .array .int), (cI, .int), (cM, .byte), (cA2_6, .byte)] s := hK1
  have hS := hS1
  have hT := hT1
  have hDB : va_D B [(h, .inr (9, [.int th, .ref ho, .ref hd, .ref hs, .ref hu, .ref hv, .int kn])), (ho, .inl (cR, 4, .inr (.inr (.inr (.inr R0))))), (y0, .inl (cI, 64, .inl f0)), (qm, .inr (0, [.ref bm, .int 0, .int 0, .int 0])), (bm, .inl (cM, (7 * j + 5), .inl fm)), (q_4, .inr (1, [.ref d2_5, .int 0, .int 0, .int (nI 0)])), (d2_5, .inl (cA2_6, 16, .inl (fun _ => 0)))] := hDB1
  clear hT1 hDB1
  clear hP1 hD1 hK1 hS1
  obtain ⟨H, rfl⟩ : ∃ z, z = H1 := ⟨_, rfl⟩
  refine W.eq (g2 := F0 mt0 33 ls [.ref q_4]) rfl ?_
  refine lv_aload_n hx hb dX5_textOf_33 rfl (lv_at hl 1 rfl) ?_
  have hFc := zz_free (wc := [(q_4, .inr (1, [.ref d2_5, .int 0, .int 0, .int (nI 0)])), (d2_5, .inl (cA2_6, 16, .inl (fun _ => 0)))]) hD (fun q h => hA q (Nat.le_trans hS.1 h)) [5, 6] rfl
  have hFB := zz_free (wc := [(q_4, .inr (1, [.ref d2_5, .int 0, .int 0, .int (nI 0)])), (d2_5, .inl (cA2_6, 16, .inl (fun _ => 0)))]) hDB (fun q h => hBge q (Nat.le_trans hT.1 h)) [5, 6] rfl
  have hO0 := zz_out zz_St_G hX0 hS hFc
  have hO1 := zz_ofW hts (by decide +kernel) hP hD hK (wc := [(q_4, .inr (1, [.ref d2_5, .int 0, .int 0, .int (nI 0)])), (d2_5, .inl (cA2_6, 16, .inl (fun _ => 0)))]) [5, 6] rfl 3 4 2 (by decide) (by decide) rfl rfl rfl (by omega) (hfm)
  refine zz_after0 (wr := [(h, .inr (9, [.int th, .ref ho, .ref hd, .ref hs, .ref hu, .ref hv, .int kn])), (ho, .inl (cR, 4, .inr (.inr (.inr (.inr R0))))), (y0, .inl (cI, 64, .inl f0)), (qm, .inr (0, [.ref bm, .int 0, .int 0, .int 0])), (bm, .inl (cM, (7 * j + 5), .inl fm))]) (va_runV (As := [.ref qm]) (rest := []) ⟨hx, hb, hml, hown, hts⟩ ((k_J4_append_15ec4 l D q_4 d2_5 0 0 16 (fun _ => 0) cA2_6 qm bm (7 * j + 5) fm (by omega) (by omega) (sb_fit0)) H.size) (cwV 1 hts gX5_textOf_J4_append_15ec4 rfl rfl rfl (by decide +kernel) ⟨Nat.le_of_ble_eq_true rfl, Nat.le_of_ble_eq_true rfl⟩) (zz_pV (zz_pre (av := [.ref q_4, .ref qm]) (tyc := [(cA2_6, .byte)]) (wc := [(q_4, .inr (1, [.ref d2_5, .int 0, .int 0, .int (nI 0)])), (d2_5, .inl (cA2_6, 16, .inl (fun _ => 0)))]) (X := fun _ _ => True) (Xc := (fun A U => zz_G A U ∧ zz_S qm bm (7 * j + 5) fm A U)) hP hD hK hS [5, 6] [3] rfl (by decide) rfl (zz_St_and zz_St_G (zz_St_S qm bm (7 * j + 5) fm)) (fun U h1 h2 => ⟨hO0 U h1 h2, hO1 U h1 h2⟩)) (va_recv hK hP (ci := 1) (q0 := 5) rfl rfl)) rfl rfl hl.1 rfl (lv_room (Nat.le_of_ble_eq_true rfl)) dX5_textOf_34 ⟨by show 9 * (j + 1) + 1 + 1 + 1 ≤ 486; omega, by show 9024 * (j + 1) + 4 + 16 + 1500 ≤ 487296; omega⟩) hP hD hK hFc [5, 6] [0, 1, 2, 3, 4] rfl rfl (by decide) (by decide) (fun v w1 ty1 H1 L9 hq9 hz9 hk9 hL9 hP1 hDf hK1 => ?_)
  have hS1 := zz_S1 hS hz9 hk9 hFc hL9
  have hT1 := hT.go hz9 hk9 hFB
  have hD1 := hDf A hD hFc
  have hDB1 := hDf B hDB hFB
  obtain ⟨locs, elocs⟩ : ∃ z, z = locs ++ L9 := ⟨_, rfl⟩
  rw [← elocs] at hS1 ⊢
  clear elocs hz9 hk9 hL9 hDf
  obtain ⟨d2_7, cA2_8, f2_9, h_10, rfl, rfl, rfl⟩ := hq9
  clear hS hP hD hK hFc hO0 hO1 hT hDB hFB
  have hP : va_P D vwCl [(h, .inr (9, [.int th, .ref ho, .ref hd, .ref hs, .ref hu, .ref hv, .int kn])), (ho, .inl (cR, 4, .inr (.inr (.inr (.inr R0))))), (y0, .inl (cI, 64, .inl f0)), (qm, .inr (0, [.ref bm, .int 0, .int 0, .int 0])), (bm, .inl (cM, (7 * j + 5), .inl fm)), (q_4, .inr (1, [.ref d2_7, .int 0, .int 0, .int (nI (0 + (7 * j + 5)))])), (d2_7, .inl (cA2_8, (zz_cap (0 + (7 * j + 5)) 16), .inl f2_9))] H1 := hP1
  have hD : va_D A [(h, .inr (9, [.int th, .ref ho, .ref hd, .ref hs, .ref hu, .ref hv, .int kn])), (ho, .inl (cR, 4, .inr (.inr (.inr (.inr R0))))), (y0, .inl (cI, 64, .inl f0)), (qm, .inr (0, [.ref bm, .int 0, .int 0, .int 0])), (bm, .inl (cM, (7 * j + 5), .inl fm)), (q_4, .inr (1, [.ref d2_7, .int 0, .int 0, .int (nI (0 + (7 * j + 5)))])), (d2_7, .inl (cA2_8, (zz_cap (0 + (7 * j + 5)) 16), .inl f2_9))] := hD1
  have hK : va_K D vwCl [(cR, .array .int), (cI, .int), (cM, .byte), (cA2_6, .byte), (cA2_8, .byte)] s := hK1
  have hS := hS1
  have hT := hT1
  have hDB : va_D B [(h, .inr (9, [.int th, .ref ho, .ref hd, .ref hs, .ref hu, .ref hv, .int kn])), (ho, .inl (cR, 4, .inr (.inr (.inr (.inr R0))))), (y0, .inl (cI, 64, .inl f0)), (qm, .inr (0, [.ref bm, .int 0, .int 0, .int 0])), (bm, .inl (cM, (7 * j + 5), .inl fm)), (q_4, .inr (1, [.ref d2_7, .int 0, .int 0, .int (nI (0 + (7 * j + 5)))])), (d2_7, .inl (cA2_8, (zz_cap (0 + (7 * j + 5)) 16), .inl f2_9))] := hDB1
  clear hT1 hDB1
  clear hP1 hD1 hK1 hS1
  obtain ⟨H, rfl⟩ : ∃ z, z = H1 := ⟨_, rfl⟩
  refine W.eq (g2 := F0 mt0 37 ls [.ref q_4]) rfl ?_
  obtain ⟨k1, ek1⟩ : ∃ z, z = (zz_cap (0 + (7 * j + 5)) 16) := ⟨_, rfl⟩
  rw [← ek1] at hP hD hDB
  have ok1 := zz_cap_or (0 + (7 * j + 5)) 16; rw [← ek1] at ok1
  have hk1 : k1 ≤ 1500 := by omega
  refine lv_aload_n hx hb dX5_textOf_37 rfl (lv_at hl 1 rfl) ?_
  have hFc := zz_free (wc := []) hD (fun q h => hA q (Nat.le_trans hS.1 h)) [] rfl
  have hFB := zz_free (wc := []) hDB (fun q h => hBge q (Nat.le_trans hT.1 h)) [] rfl
  have hO0 := zz_ofW hts (by decide +kernel) hP hD hK (wc := []) [] rfl 3 4 2 (by decide) (by decide) rfl rfl rfl (by omega) (hfm)
  refine zz_after0 (wr := [(h, .inr (9, [.int th, .ref ho, .ref hd, .ref hs, .ref hu, .ref hv, .int kn])), (ho, .inl (cR, 4, .inr (.inr (.inr (.inr R0))))), (y0, .inl (cI, 64, .inl f0)), (qm, .inr (0, [.ref bm, .int 0, .int 0, .int 0])), (bm, .inl (cM, (7 * j + 5), .inl fm)), (q_4, .inr (1, [.ref d2_7, .int 0, .int 0, .int (nI (0 + (7 * j + 5)))])), (d2_7, .inl (cA2_8, k1, .inl f2_9))]) (va_runV (As := []) (rest := [.ref q_4]) ⟨hx, hb, hml, hown, hts⟩ ((k_isEmpty_1 l D qm bm (7 * j + 5) fm (by omega) (by omega)) H.size) (cwV 0 hts gX5_textOf_J0_isEmpty_aae02 rfl rfl rfl (by decide +kernel) ⟨Nat.le_of_ble_eq_true rfl, Nat.le_of_ble_eq_true rfl⟩) (zz_pV (zz_pre (av := [.ref qm]) (tyc := []) (wc := []) (X := fun _ _ => True) (Xc := (fun A U => zz_S qm bm (7 * j + 5) fm A U)) hP hD hK hS [] [] rfl (by decide) rfl (zz_St_S qm bm (7 * j + 5) fm) (fun U h1 h2 => hO0 U h1 h2)) (va_recv hK hP (ci := 0) (q0 := 3) rfl rfl)) rfl rfl hl.1 rfl (lv_room (Nat.le_of_ble_eq_true rfl)) dX5_textOf_38 ⟨by show 9 * (j + 1) + 1 + 1 + 1 + 0 ≤ 486; omega, by show 9024 * (j + 1) + 4 + 16 + 1500 + 0 ≤ 487296; omega⟩) hP hD hK hFc [] [0, 1, 2, 3, 4, 5, 6] rfl rfl (by decide) (by decide) (fun v w1 ty1 H1 L9 hq9 hz9 hk9 hL9 hP1 hDf hK1 => ?_)
  have hS1 := zz_S1 hS hz9 hk9 hFc hL9
  have hT1 := hT.go hz9 hk9 hFB
  have hD1 := hDf A hD hFc
  have hDB1 := hDf B hDB hFB
  obtain ⟨locs, elocs⟩ : ∃ z, z = locs ++ L9 := ⟨_, rfl⟩
  rw [← elocs] at hS1 ⊢
  clear elocs hz9 hk9 hL9 hDf
  obtain ⟨rfl, rfl, rfl⟩ := hq9
  clear hS hP hD hK hFc hO0 hT hDB hFB
  have hP : va_P D vwCl [(h, .inr (9, [.int th, .ref ho, .ref hd, .ref hs, .ref hu, .ref hv, .int kn])), (ho, .inl (cR, 4, .inr (.inr (.inr (.inr R0))))), (y0, .inl (cI, 64, .inl f0)), (qm, .inr (0, [.ref bm, .int 0, .int 0, .int 0])), (bm, .inl (cM, (7 * j + 5), .inl fm)), (q_4, .inr (1, [.ref d2_7, .int 0, .int 0, .int (nI (0 + (7 * j + 5)))])), (d2_7, .inl (cA2_8, k1, .inl f2_9))] H1 := hP1
  have hD : va_D A [(h, .inr (9, [.int th, .ref ho, .ref hd, .ref hs, .ref hu, .ref hv, .int kn])), (ho, .inl (cR, 4, .inr (.inr (.inr (.inr R0))))), (y0, .inl (cI, 64, .inl f0)), (qm, .inr (0, [.ref bm, .int 0, .int 0, .int 0])), (bm, .inl (cM, (7 * j + 5), .inl fm)), (q_4, .inr (1, [.ref d2_7, .int 0, .int 0, .int (nI (0 + (7 * j + 5)))])), (d2_7, .inl (cA2_8, k1, .inl f2_9))] := hD1
  have hK : va_K D vwCl [(cR, .array .int), (cI, .int), (cM, .byte), (cA2_6, .byte), (cA2_8, .byte)] s := hK1
  have hS := hS1
  have hT := hT1
  have hDB : va_D B [(h, .inr (9, [.int th, .ref ho, .ref hd, .ref hs, .ref hu, .ref hv, .int kn])), (ho, .inl (cR, 4, .inr (.inr (.inr (.inr R0))))), (y0, .inl (cI, 64, .inl f0)), (qm, .inr (0, [.ref bm, .int 0, .int 0, .int 0])), (bm, .inl (cM, (7 * j + 5), .inl fm)), (q_4, .inr (1, [.ref d2_7, .int 0, .int 0, .int (nI (0 + (7 * j + 5)))])), (d2_7, .inl (cA2_8, k1, .inl f2_9))] := hDB1
  clear hT1 hDB1
  clear hP1 hD1 hK1 hS1
  obtain ⟨H, rfl⟩ : ∃ z, z = H1 := ⟨_, rfl⟩
  refine W.eq (g2 := F0 mt0 41 ls [.int 0, .ref q_4]) rfl ?_
  refine lv_if_eq (tgt := 49) hx hb dX5_textOf_41 (by decide) (fun c_11 => ?_) (fun c_11 => absurd (rfl) c_11)
  refine lv_aload_n hx hb dX5_textOf_49 rfl (lv_at hl 4 rfl) ?_
  have hFc := zz_free (wc := [(q_4, .inr (1, [.ref d2_7, .int 0, .int 0, .int (nI (0 + (7 * j + 5)))])), (d2_7, .inl (cA2_8, k1, .inl f2_9))]) hD (fun q h => hA q (Nat.le_trans hS.1 h)) [5, 6] rfl
  have hFB := zz_free (wc := [(q_4, .inr (1, [.ref d2_7, .int 0, .int 0, .int (nI (0 + (7 * j + 5)))])), (d2_7, .inl (cA2_8, k1, .inl f2_9))]) hDB (fun q h => hBge q (Nat.le_trans hT.1 h)) [5, 6] rfl
  have hO0 := zz_out zz_St_G hX0 hS hFc
  have hO1 := zz_out (zz_St_S qs bs 2 fs) hX5 hS hFc
  refine zz_after0 (wr := [(h, .inr (9, [.int th, .ref ho, .ref hd, .ref hs, .ref hu, .ref hv, .int kn])), (ho, .inl (cR, 4, .inr (.inr (.inr (.inr R0))))), (y0, .inl (cI, 64, .inl f0)), (qm, .inr (0, [.ref bm, .int 0, .int 0, .int 0])), (bm, .inl (cM, (7 * j + 5), .inl fm))]) (va_runV (As := [.ref qs]) (rest := []) ⟨hx, hb, hml, hown, hts⟩ ((k_J4_append_15ec4 l D q_4 d2_7 0 (0 + (7 * j + 5)) k1 f2_9 cA2_8 qs bs 2 fs (by omega) (by omega) (h_10)) H.size) (cwV 1 hts gX5_textOf_J4_append_15ec4 rfl rfl rfl (by decide +kernel) ⟨Nat.le_of_ble_eq_true rfl, Nat.le_of_ble_eq_true rfl⟩) (zz_pV (zz_pre (av := [.ref q_4, .ref qs]) (tyc := [(cA2_8, .byte)]) (wc := [(q_4, .inr (1, [.ref d2_7, .int 0, .int 0, .int (nI (0 + (7 * j + 5)))])), (d2_7, .inl (cA2_8, k1, .inl f2_9))]) (X := fun _ _ => True) (Xc := (fun A U => zz_G A U ∧ zz_S qs bs 2 fs A U)) hP hD hK hS [5, 6] [4] rfl (by decide) rfl (zz_St_and zz_St_G (zz_St_S qs bs 2 fs)) (fun U h1 h2 => ⟨hO0 U h1 h2, hO1 U h1 h2⟩)) (va_recv hK hP (ci := 1) (q0 := 5) rfl rfl)) rfl rfl hl.1 rfl (lv_room (Nat.le_of_ble_eq_true rfl)) dX5_textOf_50 ⟨by show 9 * (j + 1) + 1 + 1 + 1 + 0 + 1 ≤ 486; omega, by show 9024 * (j + 1) + 4 + 16 + 1500 + 0 + 1500 ≤ 487296; omega⟩) hP hD hK hFc [5, 6] [0, 1, 2, 3, 4] rfl rfl (by decide) (by decide) (fun v w1 ty1 H1 L9 hq9 hz9 hk9 hL9 hP1 hDf hK1 => ?_)
  have hS1 := zz_S1 hS hz9 hk9 hFc hL9
  have hT1 := hT.go hz9 hk9 hFB
  have hD1 := hDf A hD hFc
  have hDB1 := hDf B hDB hFB
  obtain ⟨locs, elocs⟩ : ∃ z, z = locs ++ L9 := ⟨_, rfl⟩
  rw [← elocs] at hS1 ⊢
  clear elocs hz9 hk9 hL9 hDf
  obtain ⟨d2_12, cA2_13, f2_14, h_15, rfl, rfl, rfl⟩ := hq9
  clear hS hP hD hK hFc hO0 hO1 hT hDB hFB
  have hP : va_P D vwCl [(h, .inr (9, [.int th, .ref ho, .ref hd, .ref hs, .ref hu, .ref hv, .int kn])), (ho, .inl (cR, 4, .inr (.inr (.inr (.inr R0))))), (y0, .inl (cI, 64, .inl f0)), (qm, .inr (0, [.ref bm, .int 0, .int 0, .int 0])), (bm, .inl (cM, (7 * j + 5), .inl fm)), (q_4, .inr (1, [.ref d2_12, .int 0, .int 0, .int (nI ((0 + (7 * j + 5)) + 2))])), (d2_12, .inl (cA2_13, (zz_cap ((0 + (7 * j + 5)) + 2) k1), .inl f2_14))] H1 := hP1
  have hD : va_D A [(h, .inr (9, [.int th, .ref ho, .ref hd, .ref hs, .ref hu, .ref hv, .int kn])), (ho, .inl (cR, 4, .inr (.inr (.inr (.inr R0))))), (y0, .inl (cI, 64, .inl f0)), (qm, .inr (0, [.ref bm, .int 0, .int 0, .int 0])), (bm, .inl (cM, (7 * j + 5), .inl fm)), (q_4, .inr (1, [.ref d2_12, .int 0, .int 0, .int (nI ((0 + (7 * j + 5)) + 2))])), (d2_12, .inl (cA2_13, (zz_cap ((0 + (7 * j + 5)) + 2) k1), .inl f2_14))] := hD1
  have hK : va_K D vwCl [(cR, .array .int), (cI, .int), (cM, .byte), (cA2_6, .byte), (cA2_8, .byte), (cA2_13, .byte)] s := hK1
  have hS := hS1
  have hT := hT1
  have hDB : va_D B [(h, .inr (9, [.int th, .ref ho, .ref hd, .ref hs, .ref hu, .ref hv, .int kn])), (ho, .inl (cR, 4, .inr (.inr (.inr (.inr R0))))), (y0, .inl (cI, 64, .inl f0)), (qm, .inr (0, [.ref bm, .int 0, .int 0, .int 0])), (bm, .inl (cM, (7 * j + 5), .inl fm)), (q_4, .inr (1, [.ref d2_12, .int 0, .int 0, .int (nI ((0 + (7 * j + 5)) + 2))])), (d2_12, .inl (cA2_13, (zz_cap ((0 + (7 * j + 5)) + 2) k1), .inl f2_14))] := hDB1
  clear hT1 hDB1
  clear hP1 hD1 hK1 hS1
  obtain ⟨H, rfl⟩ : ∃ z, z = H1 := ⟨_, rfl⟩
  refine W.eq (g2 := F0 mt0 53 ls [.ref q_4]) rfl ?_
  obtain ⟨k2, ek2⟩ : ∃ z, z = (zz_cap ((0 + (7 * j + 5)) + 2) k1) := ⟨_, rfl⟩
  rw [← ek2] at hP hD hDB
  have ok2 := zz_cap_or ((0 + (7 * j + 5)) + 2) k1; rw [← ek2] at ok2
  have hk2 : k2 ≤ 1500 := by omega
  refine lv_iload hx hb dX5_textOf_53 (lv_at hl 0 rfl) ?_
  have hFc := zz_free (wc := [(q_4, .inr (1, [.ref d2_12, .int 0, .int 0, .int (nI ((0 + (7 * j + 5)) + 2))])), (d2_12, .inl (cA2_13, k2, .inl f2_14))]) hD (fun q h => hA q (Nat.le_trans hS.1 h)) [5, 6] rfl
  have hFB := zz_free (wc := [(q_4, .inr (1, [.ref d2_12, .int 0, .int 0, .int (nI ((0 + (7 * j + 5)) + 2))])), (d2_12, .inl (cA2_13, k2, .inl f2_14))]) hDB (fun q h => hBge q (Nat.le_trans hT.1 h)) [5, 6] rfl
  have hO0 := zz_out zz_St_G hX0 hS hFc
  refine zz_after0 (wr := [(h, .inr (9, [.int th, .ref ho, .ref hd, .ref hs, .ref hu, .ref hv, .int kn])), (ho, .inl (cR, 4, .inr (.inr (.inr (.inr R0))))), (y0, .inl (cI, 64, .inl f0)), (qm, .inr (0, [.ref bm, .int 0, .int 0, .int 0])), (bm, .inl (cM, (7 * j + 5), .inl fm))]) (va_runV (As := [.int (nI (11 + j))]) (rest := []) ⟨hx, hb, hml, hown, hts⟩ ((k_J4_append_bf812 l D q_4 d2_12 0 ((0 + (7 * j + 5)) + 2) k2 f2_14 cA2_13 (11 + j) (by omega) (by omega) (by omega) (by omega) (h_15)) H.size) (cwV 1 hts gX5_textOf_J4_append_bf812 rfl rfl rfl (by decide +kernel) ⟨Nat.le_of_ble_eq_true rfl, Nat.le_of_ble_eq_true rfl⟩) (zz_pV (zz_pre (av := [.ref q_4, .int (nI (11 + j))]) (tyc := [(cA2_13, .byte)]) (wc := [(q_4, .inr (1, [.ref d2_12, .int 0, .int 0, .int (nI ((0 + (7 * j + 5)) + 2))])), (d2_12, .inl (cA2_13, k2, .inl f2_14))]) (X := fun _ _ => True) (Xc := (fun A U => zz_G A U)) hP hD hK hS [5, 6] [5] rfl (by decide) rfl zz_St_G (fun U h1 h2 => hO0 U h1 h2)) (va_recv hK hP (ci := 1) (q0 := 5) rfl rfl)) rfl rfl hl.1 rfl (lv_room (Nat.le_of_ble_eq_true rfl)) dX5_textOf_55 ⟨by show 9 * (j + 1) + 1 + 1 + 1 + 0 + 1 + 1 ≤ 486; omega, by show 9024 * (j + 1) + 4 + 16 + 1500 + 0 + 1500 + 1500 ≤ 487296; omega⟩) hP hD hK hFc [5, 6] [0, 1, 2, 3, 4] rfl rfl (by decide) (by decide) (fun v w1 ty1 H1 L9 hq9 hz9 hk9 hL9 hP1 hDf hK1 => ?_)
  have hS1 := zz_S1 hS hz9 hk9 hFc hL9
  have hT1 := hT.go hz9 hk9 hFB
  have hD1 := hDf A hD hFc
  have hDB1 := hDf B hDB hFB
  obtain ⟨locs, elocs⟩ : ∃ z, z = locs ++ L9 := ⟨_, rfl⟩
  rw [← elocs] at hS1 ⊢
  clear elocs hz9 hk9 hL9 hDf
  obtain ⟨d2_16, cA2_17, f2_18, h_19, rfl, rfl, rfl⟩ := hq9
  clear hS hP hD hK hFc hO0 hT hDB hFB
  have hP : va_P D vwCl [(h, .inr (9, [.int th, .ref ho, .ref hd, .ref hs, .ref hu, .ref hv, .int kn])), (ho, .inl (cR, 4, .inr (.inr (.inr (.inr R0))))), (y0, .inl (cI, 64, .inl f0)), (qm, .inr (0, [.ref bm, .int 0, .int 0, .int 0])), (bm, .inl (cM, (7 * j + 5), .inl fm)), (q_4, .inr (1, [.ref d2_16, .int 0, .int 0, .int (nI (((0 + (7 * j + 5)) + 2) + 2))])), (d2_16, .inl (cA2_17, (zz_cap (((0 + (7 * j + 5)) + 2) + 2) k2), .inl f2_18))] H1 := hP1
  have hD : va_D A [(h, .inr (9, [.int th, .ref ho, .ref hd, .ref hs, .ref hu, .ref hv, .int kn])), (ho, .inl (cR, 4, .inr (.inr (.inr (.inr R0))))), (y0, .inl (cI, 64, .inl f0)), (qm, .inr (0, [.ref bm, .int 0, .int 0, .int 0])), (bm, .inl (cM, (7 * j + 5), .inl fm)), (q_4, .inr (1, [.ref d2_16, .int 0, .int 0, .int (nI (((0 + (7 * j + 5)) + 2) + 2))])), (d2_16, .inl (cA2_17, (zz_cap (((0 + (7 * j + 5)) + 2) + 2) k2), .inl f2_18))] := hD1
  have hK : va_K D vwCl [(cR, .array .int), (cI, .int), (cM, .byte), (cA2_6, .byte), (cA2_8, .byte), (cA2_13, .byte), (cA2_17, .byte)] s := hK1
  have hS := hS1
  have hT := hT1
  have hDB : va_D B [(h, .inr (9, [.int th, .ref ho, .ref hd, .ref hs, .ref hu, .ref hv, .int kn])), (ho, .inl (cR, 4, .inr (.inr (.inr (.inr R0))))), (y0, .inl (cI, 64, .inl f0)), (qm, .inr (0, [.ref bm, .int 0, .int 0, .int 0])), (bm, .inl (cM, (7 * j + 5), .inl fm)), (q_4, .inr (1, [.ref d2_16, .int 0, .int 0, .int (nI (((0 + (7 * j + 5)) + 2) + 2))])), (d2_16, .inl (cA2_17, (zz_cap (((0 + (7 * j + 5)) + 2) + 2) k2), .inl f2_18))] := hDB1
  clear hT1 hDB1
  clear hP1 hD1 hK1 hS1
  obtain ⟨H, rfl⟩ : ∃ z, z = H1 := ⟨_, rfl⟩
  refine W.eq (g2 := F0 mt0 58 ls [.ref q_4]) rfl ?_
  obtain ⟨k3, ek3⟩ : ∃ z, z = (zz_cap (((0 + (7 * j + 5)) + 2) + 2) k2) := ⟨_, rfl⟩
  rw [← ek3] at hP hD hDB
  have ok3 := zz_cap_or (((0 + (7 * j + 5)) + 2) + 2) k2; rw [← ek3] at ok3
  have hk3 : k3 ≤ 1500 := by omega
  refine va_ldcS hx hb hown hX4 dX5_textOf_58 ?_
  have hFc := zz_free (wc := [(q_4, .inr (1, [.ref d2_16, .int 0, .int 0, .int (nI (((0 + (7 * j + 5)) + 2) + 2))])), (d2_16, .inl (cA2_17, k3, .inl f2_18))]) hD (fun q h => hA q (Nat.le_trans hS.1 h)) [5, 6] rfl
  have hFB := zz_free (wc := [(q_4, .inr (1, [.ref d2_16, .int 0, .int 0, .int (nI (((0 + (7 * j + 5)) + 2) + 2))])), (d2_16, .inl (cA2_17, k3, .inl f2_18))]) hDB (fun q h => hBge q (Nat.le_trans hT.1 h)) [5, 6] rfl
  have hO0 := zz_out zz_St_G hX0 hS hFc
  have hO1 := zz_out (zz_St_S qq bq 1 fq) hX3 hS hFc
  refine zz_after0 (wr := [(h, .inr (9, [.int th, .ref ho, .ref hd, .ref hs, .ref hu, .ref hv, .int kn])), (ho, .inl (cR, 4, .inr (.inr (.inr (.inr R0))))), (y0, .inl (cI, 64, .inl f0)), (qm, .inr (0, [.ref bm, .int 0, .int 0, .int 0])), (bm, .inl (cM, (7 * j + 5), .inl fm))]) (va_runV (As := [.ref qq]) (rest := []) ⟨hx, hb, hml, hown, hts⟩ ((k_J4_append_15ec4 l D q_4 d2_16 0 (((0 + (7 * j + 5)) + 2) + 2) k3 f2_18 cA2_17 qq bq 1 fq (by omega) (by omega) (h_19)) H.size) (cwV 1 hts gX5_textOf_J4_append_15ec4 rfl rfl rfl (by decide +kernel) ⟨Nat.le_of_ble_eq_true rfl, Nat.le_of_ble_eq_true rfl⟩) (zz_pV (zz_pre (av := [.ref q_4, .ref qq]) (tyc := [(cA2_17, .byte)]) (wc := [(q_4, .inr (1, [.ref d2_16, .int 0, .int 0, .int (nI (((0 + (7 * j + 5)) + 2) + 2))])), (d2_16, .inl (cA2_17, k3, .inl f2_18))]) (X := fun _ _ => True) (Xc := (fun A U => zz_G A U ∧ zz_S qq bq 1 fq A U)) hP hD hK hS [5, 6] [6] rfl (by decide) rfl (zz_St_and zz_St_G (zz_St_S qq bq 1 fq)) (fun U h1 h2 => ⟨hO0 U h1 h2, hO1 U h1 h2⟩)) (va_recv hK hP (ci := 1) (q0 := 5) rfl rfl)) rfl rfl hl.1 rfl (lv_room (Nat.le_of_ble_eq_true rfl)) dX5_textOf_60 ⟨by show 9 * (j + 1) + 1 + 1 + 1 + 0 + 1 + 1 + 1 ≤ 486; omega, by show 9024 * (j + 1) + 4 + 16 + 1500 + 0 + 1500 + 1500 + 1500 ≤ 487296; omega⟩) hP hD hK hFc [5, 6] [0, 1, 2, 3, 4] rfl rfl (by decide) (by decide) (fun v w1 ty1 H1 L9 hq9 hz9 hk9 hL9 hP1 hDf hK1 => ?_)
  have hS1 := zz_S1 hS hz9 hk9 hFc hL9
  have hT1 := hT.go hz9 hk9 hFB
  have hD1 := hDf A hD hFc
  have hDB1 := hDf B hDB hFB
  obtain ⟨locs, elocs⟩ : ∃ z, z = locs ++ L9 := ⟨_, rfl⟩
  rw [← elocs] at hS1 ⊢
  clear elocs hz9 hk9 hL9 hDf
  obtain ⟨d2_20, cA2_21, f2_22, h_23, rfl, rfl, rfl⟩ := hq9
  clear hS hP hD hK hFc hO0 hO1 hT hDB hFB
  have hP : va_P D vwCl [(h, .inr (9, [.int th, .ref ho, .ref hd, .ref hs, .ref hu, .ref hv, .int kn])), (ho, .inl (cR, 4, .inr (.inr (.inr (.inr R0))))), (y0, .inl (cI, 64, .inl f0)), (qm, .inr (0, [.ref bm, .int 0, .int 0, .int 0])), (bm, .inl (cM, (7 * j + 5), .inl fm)), (q_4, .inr (1, [.ref d2_20, .int 0, .int 0, .int (nI ((((0 + (7 * j + 5)) + 2) + 2) + 1))])), (d2_20, .inl (cA2_21, (zz_cap ((((0 + (7 * j + 5)) + 2) + 2) + 1) k3), .inl f2_22))] H1 := hP1
  have hD : va_D A [(h, .inr (9, [.int th, .ref ho, .ref hd, .ref hs, .ref hu, .ref hv, .int kn])), (ho, .inl (cR, 4, .inr (.inr (.inr (.inr R0))))), (y0, .inl (cI, 64, .inl f0)), (qm, .inr (0, [.ref bm, .int 0, .int 0, .int 0])), (bm, .inl (cM, (7 * j + 5), .inl fm)), (q_4, .inr (1, [.ref d2_20, .int 0, .int 0, .int (nI ((((0 + (7 * j + 5)) + 2) + 2) + 1))])), (d2_20, .inl (cA2_21, (zz_cap ((((0 + (7 * j + 5)) + 2) + 2) + 1) k3), .inl f2_22))] := hD1
  have hK : va_K D vwCl [(cR, .array .int), (cI, .int), (cM, .byte), (cA2_6, .byte), (cA2_8, .byte), (cA2_13, .byte), (cA2_17, .byte), (cA2_21, .byte)] s := hK1
  have hS := hS1
  have hT := hT1
  have hDB : va_D B [(h, .inr (9, [.int th, .ref ho, .ref hd, .ref hs, .ref hu, .ref hv, .int kn])), (ho, .inl (cR, 4, .inr (.inr (.inr (.inr R0))))), (y0, .inl (cI, 64, .inl f0)), (qm, .inr (0, [.ref bm, .int 0, .int 0, .int 0])), (bm, .inl (cM, (7 * j + 5), .inl fm)), (q_4, .inr (1, [.ref d2_20, .int 0, .int 0, .int (nI ((((0 + (7 * j + 5)) + 2) + 2) + 1))])), (d2_20, .inl (cA2_21, (zz_cap ((((0 + (7 * j + 5)) + 2) + 2) + 1) k3), .inl f2_22))] := hDB1
  clear hT1 hDB1
  clear hP1 hD1 hK1 hS1
  obtain ⟨H, rfl⟩ : ∃ z, z = H1 := ⟨_, rfl⟩
  refine W.eq (g2 := F0 mt0 63 ls [.ref q_4]) rfl ?_
  obtain ⟨k4, ek4⟩ : ∃ z, z = (zz_cap ((((0 + (7 * j + 5)) + 2) + 2) + 1) k3) := ⟨_, rfl⟩
  rw [← ek4] at hP hD hDB
  have ok4 := zz_cap_or ((((0 + (7 * j + 5)) + 2) + 2) + 1) k3; rw [← ek4] at ok4
  have hk4 : k4 ≤ 1500 := by omega
  refine lv_aload_n hx hb dX5_textOf_63 rfl (lv_at hl 2 rfl) ?_
  refine va_get (D := D) (ci := 9) (v := .ref ho) (C := RX5) (T := TX5) (N := 7) hx hb hts (by decide +kernel) hown hK hP 0 rfl rfl 1 (by decide) (hts (.fieldLink RX5 11 "HashladderModel" "rows" "[[I") (by decide +kernel)) (fun _ h9 => h9) rfl dX5_textOf_64 ?_
  refine lv_iload_n hx hb dX5_textOf_67 rfl (lv_at hl 3 rfl) ?_
  refine zz_aldA hx hb hK hP 1 0 rfl rfl rfl ((show vp_in (0 : Int32) 4 from vp_in_nI (n := 0) (by decide) (by decide))) (v := .ref y0) (by rw [show ((0 : Int32)).toNatClampNeg = 0 from by decide, hR]; rfl) dX5_textOf_68 ?_
  refine lv_iload hx hb dX5_textOf_69 (lv_at hl 0 rfl) ?_
  refine va_iald hx hb hK hP 2 1 rfl rfl (vp_in_nI (by omega) (by decide)) dX5_textOf_71 ?_
  refine lv_topi (fun z_24 ez_24 => ?_)
  obtain rfl : z_24 = nI 99 := ez_24.trans (by rw [nI_clamp (by omega)]; exact hf2 (11 + j) (by omega) (by omega))
  have hFc := zz_free (wc := [(q_4, .inr (1, [.ref d2_20, .int 0, .int 0, .int (nI ((((0 + (7 * j + 5)) + 2) + 2) + 1))])), (d2_20, .inl (cA2_21, k4, .inl f2_22))]) hD (fun q h => hA q (Nat.le_trans hS.1 h)) [5, 6] rfl
  have hFB := zz_free (wc := [(q_4, .inr (1, [.ref d2_20, .int 0, .int 0, .int (nI ((((0 + (7 * j + 5)) + 2) + 2) + 1))])), (d2_20, .inl (cA2_21, k4, .inl f2_22))]) hDB (fun q h => hBge q (Nat.le_trans hT.1 h)) [5, 6] rfl
  have hO0 := zz_out zz_St_G hX0 hS hFc
  refine zz_after0 (wr := [(h, .inr (9, [.int th, .ref ho, .ref hd, .ref hs, .ref hu, .ref hv, .int kn])), (ho, .inl (cR, 4, .inr (.inr (.inr (.inr R0))))), (y0, .inl (cI, 64, .inl f0)), (qm, .inr (0, [.ref bm, .int 0, .int 0, .int 0])), (bm, .inl (cM, (7 * j + 5), .inl fm))]) (va_runV (As := [.int (nI 99)]) (rest := []) ⟨hx, hb, hml, hown, hts⟩ ((k_J4_append_bf812 l D q_4 d2_20 0 ((((0 + (7 * j + 5)) + 2) + 2) + 1) k4 f2_22 cA2_21 99 (by decide) (by decide) (by omega) (by omega) (h_23)) H.size) (cwV 1 hts gX5_textOf_J4_append_bf812 rfl rfl rfl (by decide +kernel) ⟨Nat.le_of_ble_eq_true rfl, Nat.le_of_ble_eq_true rfl⟩) (zz_pV (zz_pre (av := [.ref q_4, .int (nI 99)]) (tyc := [(cA2_21, .byte)]) (wc := [(q_4, .inr (1, [.ref d2_20, .int 0, .int 0, .int (nI ((((0 + (7 * j + 5)) + 2) + 2) + 1))])), (d2_20, .inl (cA2_21, k4, .inl f2_22))]) (X := fun _ _ => True) (Xc := (fun A U => zz_G A U)) hP hD hK hS [5, 6] [7] rfl (by decide) rfl zz_St_G (fun U h1 h2 => hO0 U h1 h2)) (va_recv hK hP (ci := 1) (q0 := 5) rfl rfl)) rfl rfl hl.1 rfl (lv_room (Nat.le_of_ble_eq_true rfl)) dX5_textOf_72 ⟨by show 9 * (j + 1) + 1 + 1 + 1 + 0 + 1 + 1 + 1 + 1 ≤ 486; omega, by show 9024 * (j + 1) + 4 + 16 + 1500 + 0 + 1500 + 1500 + 1500 + 1500 ≤ 487296; omega⟩) hP hD hK hFc [5, 6] [0, 1, 2, 3, 4] rfl rfl (by decide) (by decide) (fun v w1 ty1 H1 L9 hq9 hz9 hk9 hL9 hP1 hDf hK1 => ?_)
  have hS1 := zz_S1 hS hz9 hk9 hFc hL9
  have hT1 := hT.go hz9 hk9 hFB
  have hD1 := hDf A hD hFc
  have hDB1 := hDf B hDB hFB
  obtain ⟨locs, elocs⟩ : ∃ z, z = locs ++ L9 := ⟨_, rfl⟩
  rw [← elocs] at hS1 ⊢
  clear elocs hz9 hk9 hL9 hDf
  obtain ⟨d2_25, cA2_26, f2_27, h_28, rfl, rfl, rfl⟩ := hq9
  clear hS hP hD hK hFc hO0 hT hDB hFB
  have hP : va_P D vwCl [(h, .inr (9, [.int th, .ref ho, .ref hd, .ref hs, .ref hu, .ref hv, .int kn])), (ho, .inl (cR, 4, .inr (.inr (.inr (.inr R0))))), (y0, .inl (cI, 64, .inl f0)), (qm, .inr (0, [.ref bm, .int 0, .int 0, .int 0])), (bm, .inl (cM, (7 * j + 5), .inl fm)), (q_4, .inr (1, [.ref d2_25, .int 0, .int 0, .int (nI (((((0 + (7 * j + 5)) + 2) + 2) + 1) + 2))])), (d2_25, .inl (cA2_26, (zz_cap (((((0 + (7 * j + 5)) + 2) + 2) + 1) + 2) k4), .inl f2_27))] H1 := hP1
  have hD : va_D A [(h, .inr (9, [.int th, .ref ho, .ref hd, .ref hs, .ref hu, .ref hv, .int kn])), (ho, .inl (cR, 4, .inr (.inr (.inr (.inr R0))))), (y0, .inl (cI, 64, .inl f0)), (qm, .inr (0, [.ref bm, .int 0, .int 0, .int 0])), (bm, .inl (cM, (7 * j + 5), .inl fm)), (q_4, .inr (1, [.ref d2_25, .int 0, .int 0, .int (nI (((((0 + (7 * j + 5)) + 2) + 2) + 1) + 2))])), (d2_25, .inl (cA2_26, (zz_cap (((((0 + (7 * j + 5)) + 2) + 2) + 1) + 2) k4), .inl f2_27))] := hD1
  have hK : va_K D vwCl [(cR, .array .int), (cI, .int), (cM, .byte), (cA2_6, .byte), (cA2_8, .byte), (cA2_13, .byte), (cA2_17, .byte), (cA2_21, .byte), (cA2_26, .byte)] s := hK1
  have hS := hS1
  have hT := hT1
  have hDB : va_D B [(h, .inr (9, [.int th, .ref ho, .ref hd, .ref hs, .ref hu, .ref hv, .int kn])), (ho, .inl (cR, 4, .inr (.inr (.inr (.inr R0))))), (y0, .inl (cI, 64, .inl f0)), (qm, .inr (0, [.ref bm, .int 0, .int 0, .int 0])), (bm, .inl (cM, (7 * j + 5), .inl fm)), (q_4, .inr (1, [.ref d2_25, .int 0, .int 0, .int (nI (((((0 + (7 * j + 5)) + 2) + 2) + 1) + 2))])), (d2_25, .inl (cA2_26, (zz_cap (((((0 + (7 * j + 5)) + 2) + 2) + 1) + 2) k4), .inl f2_27))] := hDB1
  clear hT1 hDB1
  clear hP1 hD1 hK1 hS1
  obtain ⟨H, rfl⟩ : ∃ z, z = H1 := ⟨_, rfl⟩
  refine W.eq (g2 := F0 mt0 75 ls [.ref q_4]) rfl ?_
  obtain ⟨k5, ek5⟩ : ∃ z, z = (zz_cap (((((0 + (7 * j + 5)) + 2) + 2) + 1) + 2) k4) := ⟨_, rfl⟩
  rw [← ek5] at hP hD hDB
  have ok5 := zz_cap_or (((((0 + (7 * j + 5)) + 2) + 2) + 1) + 2) k4; rw [← ek5] at ok5
  have hk5 : k5 ≤ 1500 := by omega
  have hlast : (((((0 + (7 * j + 5)) + 2) + 2) + 1) + 2) < k5 := by omega
  have hFc := zz_free (wc := [(q_4, .inr (1, [.ref d2_25, .int 0, .int 0, .int (nI (((((0 + (7 * j + 5)) + 2) + 2) + 1) + 2))])), (d2_25, .inl (cA2_26, k5, .inl f2_27))]) hD (fun q h => hA q (Nat.le_trans hS.1 h)) [5, 6] rfl
  have hFB := zz_free (wc := [(q_4, .inr (1, [.ref d2_25, .int 0, .int 0, .int (nI (((((0 + (7 * j + 5)) + 2) + 2) + 1) + 2))])), (d2_25, .inl (cA2_26, k5, .inl f2_27))]) hDB (fun q h => hBge q (Nat.le_trans hT.1 h)) [5, 6] rfl
  have hO0 := zz_out zz_St_G hX0 hS hFc
  refine zz_after0 (wr := [(h, .inr (9, [.int th, .ref ho, .ref hd, .ref hs, .ref hu, .ref hv, .int kn])), (ho, .inl (cR, 4, .inr (.inr (.inr (.inr R0))))), (y0, .inl (cI, 64, .inl f0)), (qm, .inr (0, [.ref bm, .int 0, .int 0, .int 0])), (bm, .inl (cM, (7 * j + 5), .inl fm))]) (va_runV (As := []) (rest := []) ⟨hx, hb, hml, hown, hts⟩ ((k_J4_toString_0e30d l D q_4 d2_25 0 (((((0 + (7 * j + 5)) + 2) + 2) + 1) + 2) k5 f2_27 cA2_26 (hlast) (by omega) (h_28)) H.size) (cwV 0 hts gX5_textOf_J4_toString_0e30d rfl rfl rfl (by decide +kernel) ⟨Nat.le_of_ble_eq_true rfl, Nat.le_of_ble_eq_true rfl⟩) (zz_pV (zz_pre (av := [.ref q_4]) (tyc := [(cA2_26, .byte)]) (wc := [(q_4, .inr (1, [.ref d2_25, .int 0, .int 0, .int (nI (((((0 + (7 * j + 5)) + 2) + 2) + 1) + 2))])), (d2_25, .inl (cA2_26, k5, .inl f2_27))]) (X := fun _ _ => True) (Xc := (fun A U => zz_G A U)) hP hD hK hS [5, 6] [8] rfl (by decide) rfl zz_St_G (fun U h1 h2 => hO0 U h1 h2)) (va_recv hK hP (ci := 1) (q0 := 5) rfl rfl)) rfl rfl hl.1 rfl (lv_room (Nat.le_of_ble_eq_true rfl)) dX5_textOf_75 ⟨by show 9 * (j + 1) + 1 + 1 + 1 + 0 + 1 + 1 + 1 + 1 + 2 ≤ 486; omega, by show 9024 * (j + 1) + 4 + 16 + 1500 + 0 + 1500 + 1500 + 1500 + 1500 + 1504 ≤ 487296; omega⟩) hP hD hK hFc [5, 6] [0, 1, 2, 3, 4] rfl rfl (by decide) (by decide) (fun v w1 ty1 H1 L9 hq9 hz9 hk9 hL9 hP1 hDf hK1 => ?_)
  have hS1 := zz_S1 hS hz9 hk9 hFc hL9
  have hT1 := hT.go hz9 hk9 hFB
  have hD1 := hDf A hD hFc
  have hDB1 := hDf B hDB hFB
  obtain ⟨locs, elocs⟩ : ∃ z, z = locs ++ L9 := ⟨_, rfl⟩
  rw [← elocs] at hS1 ⊢
  clear elocs hz9 hk9 hL9 hDf
  obtain ⟨t2_29, b2_30, cA2_31, f2_32, h_33, rfl, rfl, rfl⟩ := hq9
  clear hS hP hD hK hFc hO0 hT hDB hFB
  have hP : va_P D vwCl [(h, .inr (9, [.int th, .ref ho, .ref hd, .ref hs, .ref hu, .ref hv, .int kn])), (ho, .inl (cR, 4, .inr (.inr (.inr (.inr R0))))), (y0, .inl (cI, 64, .inl f0)), (qm, .inr (0, [.ref bm, .int 0, .int 0, .int 0])), (bm, .inl (cM, (7 * j + 5), .inl fm)), (t2_29, .inr (0, [.ref b2_30, .int 0, .int 0, .int 0])), (q_4, .inr (1, [.ref d2_25, .int 0, .int 0, .int (nI (((((0 + (7 * j + 5)) + 2) + 2) + 1) + 2))])), (d2_25, .inl (cA2_26, k5, .inl f2_27)), (b2_30, .inl (cA2_31, (((((0 + (7 * j + 5)) + 2) + 2) + 1) + 2), .inl f2_32))] H1 := hP1
  have hD : va_D A [(h, .inr (9, [.int th, .ref ho, .ref hd, .ref hs, .ref hu, .ref hv, .int kn])), (ho, .inl (cR, 4, .inr (.inr (.inr (.inr R0))))), (y0, .inl (cI, 64, .inl f0)), (qm, .inr (0, [.ref bm, .int 0, .int 0, .int 0])), (bm, .inl (cM, (7 * j + 5), .inl fm)), (t2_29, .inr (0, [.ref b2_30, .int 0, .int 0, .int 0])), (q_4, .inr (1, [.ref d2_25, .int 0, .int 0, .int (nI (((((0 + (7 * j + 5)) + 2) + 2) + 1) + 2))])), (d2_25, .inl (cA2_26, k5, .inl f2_27)), (b2_30, .inl (cA2_31, (((((0 + (7 * j + 5)) + 2) + 2) + 1) + 2), .inl f2_32))] := hD1
  have hK : va_K D vwCl [(cR, .array .int), (cI, .int), (cM, .byte), (cA2_6, .byte), (cA2_8, .byte), (cA2_13, .byte), (cA2_17, .byte), (cA2_21, .byte), (cA2_26, .byte), (cA2_26, .byte), (cA2_31, .byte)] s := hK1
  have hS := hS1
  have hT := hT1
  have hDB : va_D B [(h, .inr (9, [.int th, .ref ho, .ref hd, .ref hs, .ref hu, .ref hv, .int kn])), (ho, .inl (cR, 4, .inr (.inr (.inr (.inr R0))))), (y0, .inl (cI, 64, .inl f0)), (qm, .inr (0, [.ref bm, .int 0, .int 0, .int 0])), (bm, .inl (cM, (7 * j + 5), .inl fm)), (t2_29, .inr (0, [.ref b2_30, .int 0, .int 0, .int 0])), (q_4, .inr (1, [.ref d2_25, .int 0, .int 0, .int (nI (((((0 + (7 * j + 5)) + 2) + 2) + 1) + 2))])), (d2_25, .inl (cA2_26, k5, .inl f2_27)), (b2_30, .inl (cA2_31, (((((0 + (7 * j + 5)) + 2) + 2) + 1) + 2), .inl f2_32))] := hDB1
  clear hT1 hDB1
  clear hP1 hD1 hK1 hS1
  obtain ⟨H, rfl⟩ : ∃ z, z = H1 := ⟨_, rfl⟩
  refine W.eq (g2 := F0 mt0 78 ls [.ref t2_29]) rfl ?_
  refine lv_astore_n (lv' := [(3, .ref t2_29), (4, .int (nI (11 + j))), (0, .ref h), (1, .int 0), (2, .ref qs)]) hx hb dX5_textOf_78 rfl hl (by decide) rfl (fun ls hl => ?_)
  refine lv_iinc (v := (nI ((11 + j) + 1))) (lv' := [(4, .int (nI ((11 + j) + 1))), (3, .ref t2_29), (0, .ref h), (1, .int 0), (2, .ref qs)]) hx hb dX5_textOf_79 hl (k := 1) rfl (nI_1 (11 + j)) (by decide) rfl (fun ls hl => ?_)
  refine lv_goto (tgt := 6) hx hb dX5_textOf_82 (by decide) ?_
  rw [hB] at hT hDB
  obtain ⟨hLa, hda⟩ := zz_L.kept hL hd9 hT hDB
  obtain ⟨hLb, hdb⟩ := zz_L.add (ws' := [(h, .inr (9, [.int th, .ref ho, .ref hd, .ref hs, .ref hu, .ref hv, .int kn])), (ho, .inl (cR, 4, .inr (.inr (.inr (.inr R0))))), (y0, .inl (cI, 64, .inl f0)), (qm, .inr (0, [.ref bm, .int 0, .int 0, .int 0])), (bm, .inl (cM, (7 * j + 5), .inl fm)), (t2_29, .inr (0, [.ref b2_30, .int 0, .int 0, .int 0])), (q_4, .inr (1, [.ref d2_25, .int 0, .int 0, .int (nI (((((0 + (7 * j + 5)) + 2) + 2) + 1) + 2))])), (b2_30, .inl (cA2_31, (((((0 + (7 * j + 5)) + 2) + 2) + 1) + 2), .inl f2_32))]) hLa hda hD hP 7 rfl (zz_lo hAe hD [0, 1, 2] rfl 7 (by decide) rfl) [0, 1, 2, 3, 4, 5, 6, 8] rfl (by decide)
  have hD8 := hD.sub (ws' := [(h, .inr (9, [.int th, .ref ho, .ref hd, .ref hs, .ref hu, .ref hv, .int kn])), (ho, .inl (cR, 4, .inr (.inr (.inr (.inr R0))))), (y0, .inl (cI, 64, .inl f0)), (qm, .inr (0, [.ref bm, .int 0, .int 0, .int 0])), (bm, .inl (cM, (7 * j + 5), .inl fm)), (t2_29, .inr (0, [.ref b2_30, .int 0, .int 0, .int 0])), (q_4, .inr (1, [.ref d2_25, .int 0, .int 0, .int (nI (((((0 + (7 * j + 5)) + 2) + 2) + 1) + 2))])), (b2_30, .inl (cA2_31, (((((0 + (7 * j + 5)) + 2) + 2) + 1) + 2), .inl f2_32))]) [0, 1, 2, 3, 4, 5, 6, 8] (by decide) rfl
  have hP8 := hP.sub (ws' := [(h, .inr (9, [.int th, .ref ho, .ref hd, .ref hs, .ref hu, .ref hv, .int kn])), (ho, .inl (cR, 4, .inr (.inr (.inr (.inr R0))))), (y0, .inl (cI, 64, .inl f0)), (qm, .inr (0, [.ref bm, .int 0, .int 0, .int 0])), (bm, .inl (cM, (7 * j + 5), .inl fm)), (t2_29, .inr (0, [.ref b2_30, .int 0, .int 0, .int 0])), (q_4, .inr (1, [.ref d2_25, .int 0, .int 0, .int (nI (((((0 + (7 * j + 5)) + 2) + 2) + 1) + 2))])), (b2_30, .inl (cA2_31, (((((0 + (7 * j + 5)) + 2) + 2) + 1) + 2), .inl f2_32))]) [0, 1, 2, 3, 4, 5, 6, 8] rfl
  obtain ⟨hLc, hdc⟩ := zz_L.add (ws' := [(h, .inr (9, [.int th, .ref ho, .ref hd, .ref hs, .ref hu, .ref hv, .int kn])), (ho, .inl (cR, 4, .inr (.inr (.inr (.inr R0))))), (y0, .inl (cI, 64, .inl f0)), (t2_29, .inr (0, [.ref b2_30, .int 0, .int 0, .int 0])), (b2_30, .inl (cA2_31, (((((0 + (7 * j + 5)) + 2) + 2) + 1) + 2), .inl f2_32))]) hLb hdb hD8 hP8 4 rfl (zz_lo hAe hD8 [0, 1, 2] rfl 4 (by decide) rfl) [0, 1, 2, 5, 7] rfl (by decide)
  have en : (((((0 + (7 * j + 5)) + 2) + 2) + 1) + 2) = (7 * (j + 1) + 5) := by omega
  have hP7 := hP.sub (ws' := [(h, .inr (9, [.int th, .ref ho, .ref hd, .ref hs, .ref hu, .ref hv, .int kn])), (ho, .inl (cR, 4, .inr (.inr (.inr (.inr R0))))), (y0, .inl (cI, 64, .inl f0)), (t2_29, .inr (0, [.ref b2_30, .int 0, .int 0, .int 0])), (b2_30, .inl (cA2_31, (((((0 + (7 * j + 5)) + 2) + 2) + 1) + 2), .inl f2_32))]) [0, 1, 2, 5, 8] rfl
  have hD7 := hD.sub (ws' := [(h, .inr (9, [.int th, .ref ho, .ref hd, .ref hs, .ref hu, .ref hv, .int kn])), (ho, .inl (cR, 4, .inr (.inr (.inr (.inr R0))))), (y0, .inl (cI, 64, .inl f0)), (t2_29, .inr (0, [.ref b2_30, .int 0, .int 0, .int 0])), (b2_30, .inl (cA2_31, (((((0 + (7 * j + 5)) + 2) + 2) + 1) + 2), .inl f2_32))]) [0, 1, 2, 5, 8] (by decide) rfl
  have hK7 := hK.sub (tys' := [(cR, .array .int), (cI, .int), (cA2_31, .byte)]) [0, 1, 10] rfl
  rw [en] at hP7 hD7 hdc
  refine W.widen (k := 9 * (j + 1 + 1)) (n := 9024 * (j + 1 + 1)) (by show 9 * (j + 1) + 1 + 1 + 1 + 0 + 1 + 1 + 1 + 1 + 2 ≤ 9 * (j + 1 + 1); omega) (by show 9024 * (j + 1) + 4 + 16 + 1500 + 0 + 1500 + 1500 + 1500 + 1500 + 1504 ≤ 9024 * (j + 1 + 1); omega) ?_
  exact kk _ _ _ _ _ _ _ _ h_33 hK7 hP7 hD7 hS (lv_sub hl [0, 1, 2, 3, 4] rfl) (zz_L.le hLc (by omega)) hdc
def zz_K : Nat → Nat
  | 0 => 6
  | j + 1 => zz_K j + (14 * j + 18)
theorem zz_K53 : zz_K 53 = 20252 := by decide
set_option maxHeartbeats 4000000 in
theorem tx_Cs {p0 : Program} {l : Launch} {e0 : Env} {s : State} {mt0 : MethodId} {args : Array Value} {bl0 : List Frame} {meth0 : Method} {cd0 : Code} {Q : State → Prop} {A : Nat → Prop} (D : va_G) (h : Nat) (th : Int32) (ho : Nat) (hd : Nat) (hs : Nat) (hu : Nat) (hv : Nat) (kn : Int32) (cR : ClassId) (R0 : Nat → Option Nat) (y0 : Nat) (cI : ClassId) (f0 : Nat → Int32) (qe : Nat) (be : Nat) (fe : Nat → Int32) (qq : Nat) (bq : Nat) (fq : Nat → Int32) (qs : Nat) (bs : Nat) (fs : Nat → Int32) (hC : zz_C p0 s mt0 meth0 cd0 args RX5 cX5_textOf 5 (some (.object "java/lang/String")) wsX5_textOf) (hX0 : zz_G A s) (hX1 : zz_S qe be 0 fe A s) (hX2 : vk_R RX5 116 "" qe s) (hX3 : zz_S qq bq 1 fq A s) (hX4 : vk_R RX5 134 "=" qq s) (hX5 : zz_S qs bs 2 fs A s) (hA : ∀ q, s.heap.size ≤ q → A q) (hR : R0 0 = some y0) (hf2 : ∀ n, 10 ≤ n → n < 64 → f0 n = 99) (hAe : va_A [(h, .inr (9, [.int th, .ref ho, .ref hd, .ref hs, .ref hu, .ref hv, .int kn])), (ho, .inl (cR, 4, .inr (.inr (.inr (.inr R0))))), (y0, .inl (cI, 64, .inl f0))] s.heap.size = A) (kk : ∀ (q' b' : Nat) (cA' : ClassId) (f' : Nat → Int32) (L' : List Nat) (H' : Heap) (locs' : List Loc) (ls' : Array Slot), sb_Fit f' → va_K D vwCl [(cR, .array .int), (cI, .int), (cA', .byte)] s → va_P D vwCl [(h, .inr (9, [.int th, .ref ho, .ref hd, .ref hs, .ref hu, .ref hv, .int kn])), (ho, .inl (cR, 4, .inr (.inr (.inr (.inr R0))))), (y0, .inl (cI, 64, .inl f0)), (q', .inr (0, [.ref b', .int 0, .int 0, .int 0])), (b', .inl (cA', (7 * 53 + 5), .inl f'))] H' → va_D A [(h, .inr (9, [.int th, .ref ho, .ref hd, .ref hs, .ref hu, .ref hv, .int kn])), (ho, .inl (cR, 4, .inr (.inr (.inr (.inr R0))))), (y0, .inl (cI, 64, .inl f0)), (q', .inr (0, [.ref b', .int 0, .int 0, .int 0])), (b', .inl (cA', (7 * 53 + 5), .inl f'))] → va_S A s.heap H' locs' → lv_has ls' 5 [(4, .int (nI (11 + 53))), (3, .ref q'), (0, .ref h), (1, .int 0), (2, .ref qs)] → zz_L L' s.heap.size H' (zz_K 53) → zz_d L' [(h, .inr (9, [.int th, .ref ho, .ref hd, .ref hs, .ref hu, .ref hv, .int kn])), (ho, .inl (cR, 4, .inr (.inr (.inr (.inr R0))))), (y0, .inl (cI, 64, .inl f0)), (q', .inr (0, [.ref b', .int 0, .int 0, .int 0])), (b', .inl (cA', (7 * 53 + 5), .inl f'))] → W p0 l e0 ({ frames := 8, cells := 486, slots := 487296, locals := 3600 } : Room) s mt0 args bl0 meth0 cd0 H' locs' (9 * (53 + 1)) (9024 * (53 + 1)) Q (F0 mt0 6 ls' [])) : ∀ (n j : Nat), j + n = 53 → ∀ (q' b' : Nat) (cA' : ClassId) (f' : Nat → Int32) (L' : List Nat) (H' : Heap) (locs' : List Loc) (ls' : Array Slot), sb_Fit f' → va_K D vwCl [(cR, .array .int), (cI, .int), (cA', .byte)] s → va_P D vwCl [(h, .inr (9, [.int th, .ref ho, .ref hd, .ref hs, .ref hu, .ref hv, .int kn])), (ho, .inl (cR, 4, .inr (.inr (.inr (.inr R0))))), (y0, .inl (cI, 64, .inl f0)), (q', .inr (0, [.ref b', .int 0, .int 0, .int 0])), (b', .inl (cA', (7 * j + 5), .inl f'))] H' → va_D A [(h, .inr (9, [.int th, .ref ho, .ref hd, .ref hs, .ref hu, .ref hv, .int kn])), (ho, .inl (cR, 4, .inr (.inr (.inr (.inr R0))))), (y0, .inl (cI, 64, .inl f0)), (q', .inr (0, [.ref b', .int 0, .int 0, .int 0])), (b', .inl (cA', (7 * j + 5), .inl f'))] → va_S A s.heap H' locs' → lv_has ls' 5 [(4, .int (nI (11 + j))), (3, .ref q'), (0, .ref h), (1, .int 0), (2, .ref qs)] → zz_L L' s.heap.size H' (zz_K j) → zz_d L' [(h, .inr (9, [.int th, .ref ho, .ref hd, .ref hs, .ref hu, .ref hv, .int kn])), (ho, .inl (cR, 4, .inr (.inr (.inr (.inr R0))))), (y0, .inl (cI, 64, .inl f0)), (q', .inr (0, [.ref b', .int 0, .int 0, .int 0])), (b', .inl (cA', (7 * j + 5), .inl f'))] → W p0 l e0 ({ frames := 8, cells := 486, slots := 487296, locals := 3600 } : Room) s mt0 args bl0 meth0 cd0 H' locs' (9 * (j + 1)) (9024 * (j + 1)) Q (F0 mt0 6 ls' []) := by
  intro n
  induction n with
  | zero => intro j hj
            obtain rfl : j = 53 := by omega
            exact kk
  | succ n ih => intro j hj q' b' cA' f' L' H' locs' ls' h1 hK hP hD hS hl hL hdd
                 exact tx_C D h th ho hd hs hu hv kn cR R0 y0 cI f0 qe be fe qq bq fq qs bs fs j q' b' cA' f' L' (zz_K j) hC hX0 hX1 hX2 hX3 hX4 hX5 hA hK hP hD hS hl hR hf2 hAe (by omega) h1 hL hdd (ih (j + 1) (by omega))
set_option maxHeartbeats 4000000 in
set_option maxRecDepth 100000 in
theorem k_X5_textOf (l : Launch) (D : va_G) (h : Nat) (th : Int32) (ho : Nat) (hd : Nat) (hs : Nat) (hu : Nat) (hv : Nat) (kn : Int32) (cR : ClassId) (R0 : Nat → Option Nat) (y0 : Nat) (cI : ClassId) (f0 : Nat → Int32) (qe : Nat) (be : Nat) (fe : Nat → Int32) (qq : Nat) (bq : Nat) (fq : Nat → Int32) (qs : Nat) (bs : Nat) (fs : Nat → Int32) (hR : R0 0 = some y0) (hf1 : ∀ n, n < 10 → f0 n = -1) (hf2 : ∀ n, 10 ≤ n → n < 64 → f0 n = 99) : zz_M l yX5_textOf wsX5_textOf ({ frames := 8, cells := 486, slots := 487296, locals := 3600 }) D [.ref h, .int 0, .ref qs] [(cR, .array .int), (cI, .int)] [(h, .inr (9, [.int th, .ref ho, .ref hd, .ref hs, .ref hu, .ref hv, .int kn])), (ho, .inl (cR, 4, .inr (.inr (.inr (.inr R0))))), (y0, .inl (cI, 64, .inl f0))] (fun A U => zz_G A U ∧ zz_S qe be 0 fe A U ∧ vk_R RX5 116 "" qe U ∧ zz_S qq bq 1 fq A U ∧ vk_R RX5 134 "=" qq U ∧ zz_S qs bs 2 fs A U) (fun H0 H1 v w t => ∃ t2 : Nat, ∃ b2 : Nat, ∃ cA2 : ClassId, ∃ f2 : Nat → Int32, ∃ L2 : List Nat, sb_Fit f2 ∧ zz_L L2 H0.size H1 20252 ∧ zz_d L2 [(h, .inr (9, [.int th, .ref ho, .ref hd, .ref hs, .ref hu, .ref hv, .int kn])), (ho, .inl (cR, 4, .inr (.inr (.inr (.inr R0))))), (y0, .inl (cI, 64, .inl f0)), (t2, .inr (0, [.ref b2, .int 0, .int 0, .int 0])), (b2, .inl (cA2, 376, .inl f2))] ∧ v = some (.ref t2) ∧ w = [(h, .inr (9, [.int th, .ref ho, .ref hd, .ref hs, .ref hu, .ref hv, .int kn])), (ho, .inl (cR, 4, .inr (.inr (.inr (.inr R0))))), (y0, .inl (cI, 64, .inl f0)), (t2, .inr (0, [.ref b2, .int 0, .int 0, .int 0])), (b2, .inl (cA2, 376, .inl f2))] ∧ t = [(cR, .array .int), (cI, .int), (cA2, .byte)]) := by
  refine zz_M.mk (cc := cX5_textOf) (maxL := 5) (ret := (some (.object "java/lang/String"))) (by decide) rfl (Nat.le_of_ble_eq_true rfl) ?_
  intro p0 e0 s mt0 bl0 meth0 cd0 ls hC hname hP hK hD hX hl
  obtain ⟨hx, hb, hml, hr, hown, hts, hlocks⟩ := hC
  obtain ⟨hX0, hX1, hX2, hX3, hX4, hX5⟩ := hX
  generalize hAe : va_A [(h, .inr (9, [.int th, .ref ho, .ref hd, .ref hs, .ref hu, .ref hv, .int kn])), (ho, .inl (cR, 4, .inr (.inr (.inr (.inr R0))))), (y0, .inl (cI, 64, .inl f0))] s.heap.size = A at *
  have hA : ∀ q : Nat, s.heap.size ≤ q → A q := fun q h => by rw [← hAe]; exact Or.inr h
  obtain ⟨H, hHs⟩ : ∃ z : Heap, z = s.heap := ⟨_, rfl⟩
  rw [← hHs] at hP ⊢
  have hS : va_S A s.heap H [] := by rw [hHs]; exact va_S.rf
  have hl : lv_has ls 5 [(0, .ref h), (1, .int 0), (2, .ref qs)] := hl
  refine va_ldcS hx hb hown hX2 dX5_textOf_0 ?_
  refine lv_astore_n (lv' := [(3, .ref qe), (0, .ref h), (1, .int 0), (2, .ref qs)]) hx hb dX5_textOf_2 rfl hl (by decide) rfl (fun ls hl => ?_)
  refine lv_iconst (v := 0) hx hb dX5_textOf_3 (by decide) ?_
  refine lv_istore (lv' := [(4, .int 0), (3, .ref qe), (0, .ref h), (1, .int 0), (2, .ref qs)]) hx hb dX5_textOf_4 hl (by decide) rfl (fun ls hl => ?_)
  refine tx_As D h th ho hd hs hu hv kn cR R0 y0 cI f0 qe be fe qq bq fq qs bs fs ⟨hx, hb, hml, hr, hown, hts, hlocks⟩ hX0 hX1 hX2 hX3 hX4 hX5 hA hK hP hD hS hR hf1 (fun ls hl => ?_) 10 0 rfl ls (lv_sub hl [0, 1, 2, 3, 4] rfl)
  refine tx_B D h th ho hd hs hu hv kn cR R0 y0 cI f0 qe be fe qq bq fq qs bs fs [] 0 ⟨hx, hb, hml, hr, hown, hts, hlocks⟩ hX0 hX1 hX2 hX3 hX4 hX5 hA hK hP hD hS hl hR hf2 hAe (zz_L0 _ _) (zz_d0 _) ?_
  refine tx_Cs D h th ho hd hs hu hv kn cR R0 y0 cI f0 qe be fe qq bq fq qs bs fs ⟨hx, hb, hml, hr, hown, hts, hlocks⟩ hX0 hX1 hX2 hX3 hX4 hX5 hA hR hf2 hAe ?_ 53 0 rfl
  intro q' b' cA' f' L' H' locs' ls' h1 hK hP hD hS hl hL hdd
  rw [zz_K53] at hL
  obtain ⟨H, rfl⟩ : ∃ z, z = H' := ⟨_, rfl⟩
  obtain ⟨locs, rfl⟩ : ∃ z, z = locs' := ⟨_, rfl⟩
  obtain ⟨ls, rfl⟩ : ∃ z, z = ls' := ⟨_, rfl⟩
  refine lv_iload hx hb dX5_textOf_6 (lv_at hl 0 rfl) ?_
  refine lv_bipush (v := 64) hx hb dX5_textOf_8 (by decide) ?_
  refine lv_icmp_ge (tgt := 85) hx hb dX5_textOf_10 (by decide) (fun c_1 => ?_) (fun c_1 => absurd ((show nI 64 ≤ nI (11 + 53) from Int32.le_refl _)) c_1)
  refine lv_aload_n hx hb dX5_textOf_85 rfl (lv_at hl 1 rfl) ?_
  have hP9 := hP.sub (ws' := [(h, .inr (9, [.int th, .ref ho, .ref hd, .ref hs, .ref hu, .ref hv, .int kn])), (ho, .inl (cR, 4, .inr (.inr (.inr (.inr R0))))), (y0, .inl (cI, 64, .inl f0)), (q', .inr (0, [.ref b', .int 0, .int 0, .int 0])), (b', .inl (cA', (7 * 53 + 5), .inl f'))]) [0, 1, 2, 3, 4] rfl
  have hD9 := hD.sub (ws' := [(h, .inr (9, [.int th, .ref ho, .ref hd, .ref hs, .ref hu, .ref hv, .int kn])), (ho, .inl (cR, 4, .inr (.inr (.inr (.inr R0))))), (y0, .inl (cI, 64, .inl f0)), (q', .inr (0, [.ref b', .int 0, .int 0, .int 0])), (b', .inl (cA', (7 * 53 + 5), .inl f'))]) [0, 1, 2, 3, 4] (by decide) rfl
  have hK9 := hK.sub (tys' := [(cR, .array .int), (cI, .int), (cA', .byte)]) [0, 1, 2] rfl
  refine W.widen (k := 486) (n := 487296) (by show 9 * (53 + 1) ≤ 486; omega) (by show 9024 * (53 + 1) ≤ 487296; omega) ?_
  exact W.aret (v := .ref q') hx hb hr (Or.inl ⟨_, rfl⟩) (Or.inr ⟨_, rfl⟩) (zz_end hP9 hD9 hK9 hS (⟨_, _, _, _, _, h1, hL, hdd, rfl, rfl, rfl⟩)) hS.2.2 dX5_textOf_86
