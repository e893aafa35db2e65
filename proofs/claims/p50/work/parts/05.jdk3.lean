set_option maxHeartbeats 4000000 in
set_option maxRecDepth 100000 in
theorem k_J5_inflateIfNeededFor_a7421 (l : Launch) (D : va_G) (h : Nat) (d : Nat) (ml : Int32) (n : Nat) (k : Nat) (f : Nat → Int32) (cB : ClassId) (q : Nat) (b : Nat) (w0 : Nat) (g : Nat → Int32) : zz_M l yJ5_inflateIfNeededFor_a7421 wsJ5_inflateIfNeededFor_a7421 ({ frames := 2, cells := 0, slots := 0, locals := 100 }) D [.ref h, .ref q] [(cB, .byte)] [(h, .inr (1, [.ref d, .int 0, .int ml, .int (nI n)])), (d, .inl (cB, k, .inl f))] (fun A U => zz_G A U ∧ zz_S q b w0 g A U) (fun H0 H1 v w t => v = none ∧ w = [(h, .inr (1, [.ref d, .int 0, .int ml, .int (nI n)])), (d, .inl (cB, k, .inl f))] ∧ t = [(cB, .byte)]) := by
  refine zz_M.mk (cc := cJ5_inflateIfNeededFor_a7421) (maxL := 2) (ret := none) (by decide) rfl (Nat.le_of_ble_eq_true rfl) ?_
  intro p0 e0 s mt0 bl0 meth0 cd0 ls hC hname hP hK hD hX hl
  obtain ⟨hx, hb, hml, hr, hown, hts, hlocks⟩ := hC
  obtain ⟨hX0, hX1⟩ := hX
  generalize hAe : va_A [(h, .inr (1, [.ref d, .int 0, .int ml, .int (nI n)])), (d, .inl (cB, k, .inl f))] s.heap.size = A at *
  have hA : ∀ q : Nat, s.heap.size ≤ q → A q := fun q h => by rw [← hAe]; exact Or.inr h
  obtain ⟨H, hHs⟩ : ∃ z : Heap, z = s.heap := ⟨_, rfl⟩
  rw [← hHs] at hP ⊢
  have hS : va_S A s.heap H [] := by rw [hHs]; exact va_S.rf
  have hl : lv_has ls 2 [(0, .ref h), (1, .ref q)] := hl
  refine va_gets hx hb (hX0.1) hS hown (hts (.fieldLink RJ5 18 "java/lang/String" "COMPACT_STRINGS" "Z") (by decide +kernel)) (fun _ h9 => h9) dJ5_inflateIfNeededFor_a7421_0 ?_
  refine lv_if_eq (tgt := 21) hx hb dJ5_inflateIfNeededFor_a7421_3 (by decide) (fun c_1 => absurd c_1 (by decide)) (fun c_1 => ?_)
  refine lv_aload_n hx hb dJ5_inflateIfNeededFor_a7421_6 rfl (lv_at hl 0 rfl) ?_
  refine va_get (D := D) (ci := 1) (v := .int 0) (C := RJ4) (T := TJ4) (N := 4) hx hb hts (by decide +kernel) hown hK hP 0 rfl rfl 1 (by decide) (hts (.fieldLink RJ5 22 "java/lang/AbstractStringBuilder" "coder" "B") (by decide +kernel)) (fun _ h9 => h9) rfl dJ5_inflateIfNeededFor_a7421_7 ?_
  refine lv_aload_n hx hb dJ5_inflateIfNeededFor_a7421_10 rfl (lv_at hl 1 rfl) ?_
  have hFc := va_free (wc := []) hD hS hA [] rfl
  have hO0 := zz_out zz_St_G hX0 hS hFc
  have hO1 := zz_out (zz_St_S q b w0 g) hX1 hS hFc
  refine zz_after (wr := [(h, .inr (1, [.ref d, .int 0, .int ml, .int (nI n)])), (d, .inl (cB, k, .inl f))]) (va_runV (As := []) (rest := [.int 0]) ⟨hx, hb, hml, hown, hts⟩ ((k_J0_coder_7d493 l D q b w0 g) H.size) (cwV 0 hts gJ5_inflateIfNeededFor_a7421_J0_coder_7d493 rfl rfl rfl (by decide +kernel) ⟨Nat.le_of_ble_eq_true rfl, Nat.le_of_ble_eq_true rfl⟩) (zz_pV (zz_pre (av := [.ref q]) (tyc := []) (wc := []) (X := fun _ _ => True) (Xc := (fun A U => zz_G A U ∧ zz_S q b w0 g A U)) hP hD hK hS [] [] rfl (by decide) rfl (zz_St_and zz_St_G (zz_St_S q b w0 g)) (fun U h1 h2 => ⟨hO0 U h1 h2, hO1 U h1 h2⟩)) (va_Orecv hX1.1 hS)) rfl rfl hl.1 rfl (lv_room (Nat.le_of_ble_eq_true rfl)) dJ5_inflateIfNeededFor_a7421_11 ⟨by show 0 + 0 ≤ 0; omega, by show 0 + 0 ≤ 0; omega⟩) hP hD hK hS hFc [] [0, 1] rfl rfl (by decide) (by decide) (fun v w1 ty1 H1 locs hq9 hz9 hk9 hP1 hD1 hK1 hS1 => ?_)
  obtain ⟨rfl, rfl, rfl⟩ := hq9
  clear hS hP hD hK hFc hO0 hO1
  have hP : va_P D vwCl [(h, .inr (1, [.ref d, .int 0, .int ml, .int (nI n)])), (d, .inl (cB, k, .inl f))] H1 := hP1
  have hD : va_D A [(h, .inr (1, [.ref d, .int 0, .int ml, .int (nI n)])), (d, .inl (cB, k, .inl f))] := hD1
  have hK : va_K D vwCl [(cB, .byte)] s := hK1
  have hS := hS1
  clear hP1 hD1 hK1 hS1
  obtain ⟨H, rfl⟩ : ∃ z, z = H1 := ⟨_, rfl⟩
  refine W.eq (g2 := F0 mt0 14 ls [.int 0, .int 0]) rfl ?_
  refine lv_icmp_eq (tgt := 21) hx hb dJ5_inflateIfNeededFor_a7421_14 (by decide) (fun c_2 => ?_) (fun c_2 => absurd (rfl) c_2)
  have hP9 := hP.sub (ws' := [(h, .inr (1, [.ref d, .int 0, .int ml, .int (nI n)])), (d, .inl (cB, k, .inl f))]) [0, 1] rfl
  have hD9 := hD.sub (ws' := [(h, .inr (1, [.ref d, .int 0, .int ml, .int (nI n)])), (d, .inl (cB, k, .inl f))]) [0, 1] (by decide) rfl
  have hK9 := hK.sub (tys' := [(cB, .byte)]) [0] rfl
  refine W.widen (k := 0) (n := 0) (by show 0 + 0 ≤ 0; omega) (by show 0 + 0 ≤ 0; omega) ?_
  exact W.vret hx hb hr (zz_end hP9 hD9 hK9 hS (⟨rfl, rfl, rfl⟩)) hS.2.2 dJ5_inflateIfNeededFor_a7421_21
set_option maxHeartbeats 4000000 in
set_option maxRecDepth 100000 in
theorem k_J0_getBytes_840e7 (l : Launch) (D : va_G) (q : Nat) (b : Nat) (w0 : Nat) (g : Nat → Int32) (d : Nat) (k : Nat) (f : Nat → Int32) (cB : ClassId) (j : Nat) (hj : j + w0 ≤ k) (hk : k ≤ 1500) (hf : sb_Fit f) : zz_M l yJ0_getBytes_840e7 wsJ0_getBytes_840e7 ({ frames := 2, cells := 0, slots := 0, locals := 3000 }) D [.ref q, .ref d, .int (nI j), .int 0] [(cB, .byte)] [(d, .inl (cB, k, .inl f))] (fun A U => zz_G A U ∧ zz_S q b w0 g A U) (fun H0 H1 v w t => ∃ f2 : Nat → Int32, sb_Fit f2 ∧ v = none ∧ w = [(d, .inl (cB, k, .inl f2))] ∧ t = [(cB, .byte)]) := by
  refine zz_M.mk (cc := cJ0_getBytes_840e7) (maxL := 4) (ret := none) (by decide) rfl (Nat.le_of_ble_eq_true rfl) ?_
  intro p0 e0 s mt0 bl0 meth0 cd0 ls hC hname hP hK hD hX hl
  obtain ⟨hx, hb, hml, hr, hown, hts, hlocks⟩ := hC
  obtain ⟨hX0, hX1⟩ := hX
  generalize hAe : va_A [(d, .inl (cB, k, .inl f))] s.heap.size = A at *
  have hA : ∀ q : Nat, s.heap.size ≤ q → A q := fun q h => by rw [← hAe]; exact Or.inr h
  obtain ⟨H, hHs⟩ : ∃ z : Heap, z = s.heap := ⟨_, rfl⟩
  rw [← hHs] at hP ⊢
  have hS : va_S A s.heap H [] := by rw [hHs]; exact va_S.rf
  have hl : lv_has ls 4 [(0, .ref q), (1, .ref d), (2, .int (nI j)), (3, .int 0)] := hl
  have hg := hX1.2.2.2.2.2
  refine lv_aload_n hx hb dJ0_getBytes_840e7_0 rfl (lv_at hl 0 rfl) ?_
  have hFc := va_free (wc := []) hD hS hA [] rfl
  have hO0 := zz_out zz_St_G hX0 hS hFc
  have hO1 := zz_out (zz_St_S q b w0 g) hX1 hS hFc
  refine zz_after (wr := [(d, .inl (cB, k, .inl f))]) (va_runV (As := []) (rest := []) ⟨hx, hb, hml, hown, hts⟩ ((k_J0_coder_7d493 l D q b w0 g) H.size) (cwV 0 hts gJ0_getBytes_840e7_J0_coder_7d493 rfl rfl rfl (by decide +kernel) ⟨Nat.le_of_ble_eq_true rfl, Nat.le_of_ble_eq_true rfl⟩) (zz_pV (zz_pre (av := [.ref q]) (tyc := []) (wc := []) (X := fun _ _ => True) (Xc := (fun A U => zz_G A U ∧ zz_S q b w0 g A U)) hP hD hK hS [] [] rfl (by decide) rfl (zz_St_and zz_St_G (zz_St_S q b w0 g)) (fun U h1 h2 => ⟨hO0 U h1 h2, hO1 U h1 h2⟩)) (va_Orecv hX1.1 hS)) rfl rfl hl.1 rfl (lv_room (Nat.le_of_ble_eq_true rfl)) dJ0_getBytes_840e7_1 ⟨by show 0 + 0 ≤ 0; omega, by show 0 + 0 ≤ 0; omega⟩) hP hD hK hS hFc [] [0] rfl rfl (by decide) (by decide) (fun v w1 ty1 H1 locs hq9 hz9 hk9 hP1 hD1 hK1 hS1 => ?_)
  obtain ⟨rfl, rfl, rfl⟩ := hq9
  clear hS hP hD hK hFc hO0 hO1
  have hP : va_P D vwCl [(d, .inl (cB, k, .inl f))] H1 := hP1
  have hD : va_D A [(d, .inl (cB, k, .inl f))] := hD1
  have hK : va_K D vwCl [(cB, .byte)] s := hK1
  have hS := hS1
  clear hP1 hD1 hK1 hS1
  obtain ⟨H, rfl⟩ : ∃ z, z = H1 := ⟨_, rfl⟩
  refine W.eq (g2 := F0 mt0 4 ls [.int 0]) rfl ?_
  refine lv_iload_n hx hb dJ0_getBytes_840e7_4 rfl (lv_at hl 3 rfl) ?_
  refine lv_icmp_ne (tgt := 28) hx hb dJ0_getBytes_840e7_5 (by decide) (fun c_1 => absurd (rfl) c_1) (fun c_1 => ?_)
  refine lv_aload_n hx hb dJ0_getBytes_840e7_8 rfl (lv_at hl 0 rfl) ?_
  refine vk_getf hx hb hX1.2.2.1 hS hown (hts (.fieldLink RJ0 9 "java/lang/String" "value" "[B") (by decide +kernel)) (fun _ h9 => h9) dJ0_getBytes_840e7_9 ?_
  refine lv_iconst (v := 0) hx hb dJ0_getBytes_840e7_12 (by decide) ?_
  refine lv_aload_n hx hb dJ0_getBytes_840e7_13 rfl (lv_at hl 1 rfl) ?_
  refine lv_iload_n hx hb dJ0_getBytes_840e7_14 rfl (lv_at hl 2 rfl) ?_
  refine lv_iload_n hx hb dJ0_getBytes_840e7_15 rfl (lv_at hl 3 rfl) ?_
  refine lv_ishl hx hb dJ0_getBytes_840e7_16 ?_
  refine lv_topi (fun z_2 ez_2 => ?_)
  obtain rfl : z_2 = nI j := ez_2.trans (sb_shl0 _)
  refine lv_aload_n hx hb dJ0_getBytes_840e7_17 rfl (lv_at hl 0 rfl) ?_
  refine vk_getf hx hb hX1.2.2.1 hS hown (hts (.fieldLink RJ0 9 "java/lang/String" "value" "[B") (by decide +kernel)) (fun _ h9 => h9) dJ0_getBytes_840e7_18 ?_
  refine va_tlen hx hb hX1.2.2.2.1 hS (v := nI w0) rfl dJ0_getBytes_840e7_21 ?_
  refine vk_copyt hx hb (by rw [hml]; exact hl.1.symm) hown (hts (.methodLink RJ0 212 arraycopyName) (by decide +kernel)) (hts (.native arraycopyName) (by decide +kernel)) (hts (.static arraycopyName) (by decide +kernel)) (hts (.initialized "java/lang/System") (by decide +kernel)) hK hP hD hS hX1.2.2.2.1 0 0 rfl rfl (by decide) (nI_pos (by omega)) (nI_pos (by omega)) (by rw [nI_clamp (by omega), sb_cl0]; omega) (by rw [nI_clamp (by omega), nI_clamp (by omega)]; omega) (fun i _ => hg _) (Nat.le_of_ble_eq_true rfl) (Nat.le_of_ble_eq_true rfl) dJ0_getBytes_840e7_22 (fun H locs hP hD hS => ?_)
  have hP : va_P D vwCl [(d, .inl (cB, k, .inl (va_cpy g f (0 : Int32).toNatClampNeg (nI j : Int32).toNatClampNeg (nI w0 : Int32).toNatClampNeg)))] H := hP
  have hD : va_D A [(d, .inl (cB, k, .inl (va_cpy g f (0 : Int32).toNatClampNeg (nI j : Int32).toNatClampNeg (nI w0 : Int32).toNatClampNeg)))] := hD
  refine lv_goto (tgt := 43) hx hb dJ0_getBytes_840e7_25 (by decide) ?_
  have hP9 := hP.sub (ws' := [(d, .inl (cB, k, .inl (va_cpy g f (0 : Int32).toNatClampNeg (nI j : Int32).toNatClampNeg (nI w0 : Int32).toNatClampNeg)))]) [0] rfl
  have hD9 := hD.sub (ws' := [(d, .inl (cB, k, .inl (va_cpy g f (0 : Int32).toNatClampNeg (nI j : Int32).toNatClampNeg (nI w0 : Int32).toNatClampNeg)))]) [0] (by decide) rfl
  have hK9 := hK.sub (tys' := [(cB, .byte)]) [0] rfl
  refine W.widen (k := 0) (n := 0) (by show 0 + 0 ≤ 0; omega) (by show 0 + 0 ≤ 0; omega) ?_
  exact W.vret hx hb hr (zz_end hP9 hD9 hK9 hS (⟨_, sb_fitC hg hf, rfl, rfl, rfl⟩)) hS.2.2 dJ0_getBytes_840e7_43
set_option maxHeartbeats 4000000 in
set_option maxRecDepth 100000 in
theorem k_J5_putStringAt_47b60 (l : Launch) (D : va_G) (h : Nat) (d : Nat) (ml : Int32) (n : Nat) (k : Nat) (f : Nat → Int32) (cB : ClassId) (q : Nat) (b : Nat) (w0 : Nat) (g : Nat → Int32) (j : Nat) (hj : j + w0 ≤ k) (hk : k ≤ 1500) (hf : sb_Fit f) : zz_M l yJ5_putStringAt_47b60 wsJ5_putStringAt_47b60 ({ frames := 3, cells := 0, slots := 0, locals := 3100 }) D [.ref h, .int (nI j), .ref q] [(cB, .byte)] [(h, .inr (1, [.ref d, .int 0, .int ml, .int (nI n)])), (d, .inl (cB, k, .inl f))] (fun A U => zz_G A U ∧ zz_S q b w0 g A U) (fun H0 H1 v w t => ∃ f2 : Nat → Int32, sb_Fit f2 ∧ v = none ∧ w = [(h, .inr (1, [.ref d, .int 0, .int ml, .int (nI n)])), (d, .inl (cB, k, .inl f2))] ∧ t = [(cB, .byte)]) := by
  refine zz_M.mk (cc := cJ5_putStringAt_47b60) (maxL := 3) (ret := none) (by decide) rfl (Nat.le_of_ble_eq_true rfl) ?_
  intro p0 e0 s mt0 bl0 meth0 cd0 ls hC hname hP hK hD hX hl
  obtain ⟨hx, hb, hml, hr, hown, hts, hlocks⟩ := hC
  obtain ⟨hX0, hX1⟩ := hX
  generalize hAe : va_A [(h, .inr (1, [.ref d, .int 0, .int ml, .int (nI n)])), (d, .inl (cB, k, .inl f))] s.heap.size = A at *
  have hA : ∀ q : Nat, s.heap.size ≤ q → A q := fun q h => by rw [← hAe]; exact Or.inr h
  obtain ⟨H, hHs⟩ : ∃ z : Heap, z = s.heap := ⟨_, rfl⟩
  rw [← hHs] at hP ⊢
  have hS : va_S A s.heap H [] := by rw [hHs]; exact va_S.rf
  have hl : lv_has ls 3 [(0, .ref h), (1, .int (nI j)), (2, .ref q)] := hl
  refine lv_aload_n hx hb dJ5_putStringAt_47b60_0 rfl (lv_at hl 0 rfl) ?_
  refine lv_aload_n hx hb dJ5_putStringAt_47b60_1 rfl (lv_at hl 2 rfl) ?_
  have hFc := va_free (wc := [(h, .inr (1, [.ref d, .int 0, .int ml, .int (nI n)])), (d, .inl (cB, k, .inl f))]) hD hS hA [0, 1] rfl
  have hO0 := zz_out zz_St_G hX0 hS hFc
  have hO1 := zz_out (zz_St_S q b w0 g) hX1 hS hFc
  refine zz_after (wr := []) (va_runU (As := [.ref q]) (rest := []) ⟨hx, hb, hml, hown, hts⟩ ((k_J5_inflateIfNeededFor_a7421 l D h d ml n k f cB q b w0 g) H.size) (va_cwU 1 hts gJ5_putStringAt_47b60_J5_inflateIfNeededFor_a7421_u397J4 rfl rfl rfl rfl (by decide +kernel) ⟨Nat.le_of_ble_eq_true rfl, Nat.le_of_ble_eq_true rfl⟩) (zz_pV (zz_pre (av := [.ref h, .ref q]) (tyc := [(cB, .byte)]) (wc := [(h, .inr (1, [.ref d, .int 0, .int ml, .int (nI n)])), (d, .inl (cB, k, .inl f))]) (X := fun _ _ => True) (Xc := (fun A U => zz_G A U ∧ zz_S q b w0 g A U)) hP hD hK hS [0, 1] [0] rfl (by decide) rfl (zz_St_and zz_St_G (zz_St_S q b w0 g)) (fun U h1 h2 => ⟨hO0 U h1 h2, hO1 U h1 h2⟩)) (va_recv hK hP (ci := 1) (q0 := 0) rfl rfl)) rfl rfl hl.1 rfl (lv_room (Nat.le_of_ble_eq_true rfl)) dJ5_putStringAt_47b60_2 ⟨by show 0 + 0 ≤ 0; omega, by show 0 + 0 ≤ 0; omega⟩) hP hD hK hS hFc [0, 1] [] rfl rfl (by decide) (by decide) (fun v w1 ty1 H1 locs hq9 hz9 hk9 hP1 hD1 hK1 hS1 => ?_)
  obtain ⟨rfl, rfl, rfl⟩ := hq9
  clear hS hP hD hK hFc hO0 hO1
  have hP : va_P D vwCl [(h, .inr (1, [.ref d, .int 0, .int ml, .int (nI n)])), (d, .inl (cB, k, .inl f))] H1 := hP1
  have hD : va_D A [(h, .inr (1, [.ref d, .int 0, .int ml, .int (nI n)])), (d, .inl (cB, k, .inl f))] := hD1
  have hK : va_K D vwCl [(cB, .byte), (cB, .byte)] s := hK1
  have hS := hS1
  clear hP1 hD1 hK1 hS1
  obtain ⟨H, rfl⟩ : ∃ z, z = H1 := ⟨_, rfl⟩
  refine W.eq (g2 := F0 mt0 5 ls []) rfl ?_
  refine lv_aload_n hx hb dJ5_putStringAt_47b60_5 rfl (lv_at hl 2 rfl) ?_
  refine lv_aload_n hx hb dJ5_putStringAt_47b60_6 rfl (lv_at hl 0 rfl) ?_
  refine va_get (D := D) (ci := 1) (v := .ref d) (C := RJ4) (T := TJ4) (N := 4) hx hb hts (by decide +kernel) hown hK hP 0 rfl rfl 0 (by decide) (hts (.fieldLink RJ5 15 "java/lang/AbstractStringBuilder" "value" "[B") (by decide +kernel)) (fun _ h9 => h9) rfl dJ5_putStringAt_47b60_7 ?_
  refine lv_iload_n hx hb dJ5_putStringAt_47b60_10 rfl (lv_at hl 1 rfl) ?_
  refine lv_aload_n hx hb dJ5_putStringAt_47b60_11 rfl (lv_at hl 0 rfl) ?_
  refine va_get (D := D) (ci := 1) (v := .int 0) (C := RJ4) (T := TJ4) (N := 4) hx hb hts (by decide +kernel) hown hK hP 0 rfl rfl 1 (by decide) (hts (.fieldLink RJ5 22 "java/lang/AbstractStringBuilder" "coder" "B") (by decide +kernel)) (fun _ h9 => h9) rfl dJ5_putStringAt_47b60_12 ?_
  have hFc := va_free (wc := [(d, .inl (cB, k, .inl f))]) hD hS hA [1] rfl
  have hO0 := zz_out zz_St_G hX0 hS hFc
  have hO1 := zz_out (zz_St_S q b w0 g) hX1 hS hFc
  refine zz_after (wr := [(h, .inr (1, [.ref d, .int 0, .int ml, .int (nI n)]))]) (va_runV (As := [.ref d, .int (nI j), .int 0]) (rest := []) ⟨hx, hb, hml, hown, hts⟩ ((k_J0_getBytes_840e7 l D q b w0 g d k f cB j (hj) (hk) (hf)) H.size) (cwV 3 hts gJ5_putStringAt_47b60_J0_getBytes_840e7 rfl rfl rfl (by decide +kernel) ⟨Nat.le_of_ble_eq_true rfl, Nat.le_of_ble_eq_true rfl⟩) (zz_pV (zz_pre (av := [.ref q, .ref d, .int (nI j), .int 0]) (tyc := [(cB, .byte)]) (wc := [(d, .inl (cB, k, .inl f))]) (X := fun _ _ => True) (Xc := (fun A U => zz_G A U ∧ zz_S q b w0 g A U)) hP hD hK hS [1] [0] rfl (by decide) rfl (zz_St_and zz_St_G (zz_St_S q b w0 g)) (fun U h1 h2 => ⟨hO0 U h1 h2, hO1 U h1 h2⟩)) (va_Orecv hX1.1 hS)) rfl rfl hl.1 rfl (lv_room (Nat.le_of_ble_eq_true rfl)) dJ5_putStringAt_47b60_15 ⟨by show 0 + 0 + 0 ≤ 0; omega, by show 0 + 0 + 0 ≤ 0; omega⟩) hP hD hK hS hFc [1] [0] rfl rfl (by decide) (by decide) (fun v w1 ty1 H1 locs hq9 hz9 hk9 hP1 hD1 hK1 hS1 => ?_)
  obtain ⟨f2_1, h_2, rfl, rfl, rfl⟩ := hq9
  clear hS hP hD hK hFc hO0 hO1
  have hP : va_P D vwCl [(h, .inr (1, [.ref d, .int 0, .int ml, .int (nI n)])), (d, .inl (cB, k, .inl f2_1))] H1 := hP1
  have hD : va_D A [(h, .inr (1, [.ref d, .int 0, .int ml, .int (nI n)])), (d, .inl (cB, k, .inl f2_1))] := hD1
  have hK : va_K D vwCl [(cB, .byte), (cB, .byte), (cB, .byte)] s := hK1
  have hS := hS1
  clear hP1 hD1 hK1 hS1
  obtain ⟨H, rfl⟩ : ∃ z, z = H1 := ⟨_, rfl⟩
  refine W.eq (g2 := F0 mt0 18 ls []) rfl ?_
  have hP9 := hP.sub (ws' := [(h, .inr (1, [.ref d, .int 0, .int ml, .int (nI n)])), (d, .inl (cB, k, .inl f2_1))]) [0, 1] rfl
  have hD9 := hD.sub (ws' := [(h, .inr (1, [.ref d, .int 0, .int ml, .int (nI n)])), (d, .inl (cB, k, .inl f2_1))]) [0, 1] (by decide) rfl
  have hK9 := hK.sub (tys' := [(cB, .byte)]) [0] rfl
  refine W.widen (k := 0) (n := 0) (by show 0 + 0 + 0 ≤ 0; omega) (by show 0 + 0 + 0 ≤ 0; omega) ?_
  exact W.vret hx hb hr (zz_end hP9 hD9 hK9 hS (⟨_, h_2, rfl, rfl, rfl⟩)) hS.2.2 dJ5_putStringAt_47b60_18
set_option maxHeartbeats 4000000 in
set_option maxRecDepth 100000 in
theorem k_J5_append_cf1ce (l : Launch) (D : va_G) (h : Nat) (d : Nat) (ml : Int32) (n : Nat) (k : Nat) (f : Nat → Int32) (cB : ClassId) (q : Nat) (b : Nat) (w0 : Nat) (g : Nat → Int32) (hn : n + w0 ≤ 400) (hk : k ≤ 1500) (hf : sb_Fit f) : zz_M l yJ5_append_cf1ce wsJ5_append_cf1ce ({ frames := 5, cells := 1, slots := 1500, locals := 3300 }) D [.ref h, .ref q] [(cB, .byte)] [(h, .inr (1, [.ref d, .int 0, .int ml, .int (nI n)])), (d, .inl (cB, k, .inl f))] (fun A U => zz_G A U ∧ zz_S q b w0 g A U) (fun H0 H1 v w t => ∃ d2 : Nat, ∃ cA2 : ClassId, ∃ f2 : Nat → Int32, sb_Fit f2 ∧ v = some (.ref h) ∧ w = [(h, .inr (1, [.ref d2, .int 0, .int ml, .int (nI (n + w0))])), (d2, .inl (cA2, (zz_cap (n + w0) k), .inl f2))] ∧ t = [(cA2, .byte)]) := by
  refine zz_M.mk (cc := cJ5_append_cf1ce) (maxL := 3) (ret := (some (.object "java/lang/AbstractStringBuilder"))) (by decide) rfl (Nat.le_of_ble_eq_true rfl) ?_
  intro p0 e0 s mt0 bl0 meth0 cd0 ls hC hname hP hK hD hX hl
  obtain ⟨hx, hb, hml, hr, hown, hts, hlocks⟩ := hC
  obtain ⟨hX0, hX1⟩ := hX
  generalize hAe : va_A [(h, .inr (1, [.ref d, .int 0, .int ml, .int (nI n)])), (d, .inl (cB, k, .inl f))] s.heap.size = A at *
  have hA : ∀ q : Nat, s.heap.size ≤ q → A q := fun q h => by rw [← hAe]; exact Or.inr h
  obtain ⟨H, hHs⟩ : ∃ z : Heap, z = s.heap := ⟨_, rfl⟩
  rw [← hHs] at hP ⊢
  have hS : va_S A s.heap H [] := by rw [hHs]; exact va_S.rf
  have hl : lv_has ls 3 [(0, .ref h), (1, .ref q)] := hl
  refine lv_aload_n hx hb dJ5_append_cf1ce_0 rfl (lv_at hl 1 rfl) ?_
  refine lv_ifnonnull (tgt := 9) hx hb dJ5_append_cf1ce_1 (by decide) ?_
  refine lv_aload_n hx hb dJ5_append_cf1ce_9 rfl (lv_at hl 1 rfl) ?_
  have hFc := va_free (wc := []) hD hS hA [] rfl
  have hO0 := zz_out zz_St_G hX0 hS hFc
  have hO1 := zz_out (zz_St_S q b w0 g) hX1 hS hFc
  refine zz_after (wr := [(h, .inr (1, [.ref d, .int 0, .int ml, .int (nI n)])), (d, .inl (cB, k, .inl f))]) (va_runV (As := []) (rest := []) ⟨hx, hb, hml, hown, hts⟩ ((k_J0_length_8abf5 l D q b w0 g) H.size) (cwV 0 hts gJ5_append_cf1ce_J0_length_8abf5 rfl rfl rfl (by decide +kernel) ⟨Nat.le_of_ble_eq_true rfl, Nat.le_of_ble_eq_true rfl⟩) (zz_pV (zz_pre (av := [.ref q]) (tyc := []) (wc := []) (X := fun _ _ => True) (Xc := (fun A U => zz_G A U ∧ zz_S q b w0 g A U)) hP hD hK hS [] [] rfl (by decide) rfl (zz_St_and zz_St_G (zz_St_S q b w0 g)) (fun U h1 h2 => ⟨hO0 U h1 h2, hO1 U h1 h2⟩)) (va_Orecv hX1.1 hS)) rfl rfl hl.1 rfl (lv_room (Nat.le_of_ble_eq_true rfl)) dJ5_append_cf1ce_10 ⟨by show 0 + 0 ≤ 1; omega, by show 0 + 0 ≤ 1500; omega⟩) hP hD hK hS hFc [] [0, 1] rfl rfl (by decide) (by decide) (fun v w1 ty1 H1 locs hq9 hz9 hk9 hP1 hD1 hK1 hS1 => ?_)
  obtain ⟨rfl, rfl, rfl⟩ := hq9
  clear hS hP hD hK hFc hO0 hO1
  have hP : va_P D vwCl [(h, .inr (1, [.ref d, .int 0, .int ml, .int (nI n)])), (d, .inl (cB, k, .inl f))] H1 := hP1
  have hD : va_D A [(h, .inr (1, [.ref d, .int 0, .int ml, .int (nI n)])), (d, .inl (cB, k, .inl f))] := hD1
  have hK : va_K D vwCl [(cB, .byte)] s := hK1
  have hS := hS1
  clear hP1 hD1 hK1 hS1
  obtain ⟨H, rfl⟩ : ∃ z, z = H1 := ⟨_, rfl⟩
  refine W.eq (g2 := F0 mt0 13 ls [.int (nI w0)]) rfl ?_
  refine lv_istore_n (lv' := [(2, .int (nI w0)), (0, .ref h), (1, .ref q)]) hx hb dJ5_append_cf1ce_13 rfl hl (by decide) rfl (fun ls hl => ?_)
  refine lv_aload_n hx hb dJ5_append_cf1ce_14 rfl (lv_at hl 1 rfl) ?_
  refine lv_aload_n hx hb dJ5_append_cf1ce_15 rfl (lv_at hl 1 rfl) ?_
  refine va_get (D := D) (ci := 1) (v := .int (nI n)) (C := RJ4) (T := TJ4) (N := 4) hx hb hts (by decide +kernel) hown hK hP 0 rfl rfl 3 (by decide) (hts (.fieldLink RJ5 79 "java/lang/AbstractStringBuilder" "count" "I") (by decide +kernel)) (fun _ h9 => h9) rfl dJ5_append_cf1ce_16 ?_
  refine lv_iload_n hx hb dJ5_append_cf1ce_19 rfl (lv_at hl 0 rfl) ?_
  refine lv_iadd hx hb dJ5_append_cf1ce_20 ?_
  refine lv_topi (fun z_1 ez_1 => ?_)
  obtain rfl : z_1 = nI (n + w0) := ez_1.trans (nI_add _ _)
  have hFc := va_free (wc := [(h, .inr (1, [.ref d, .int 0, .int ml, .int (nI n)])), (d, .inl (cB, k, .inl f))]) hD hS hA [0, 1] rfl
  refine zz_after (wr := []) (va_runU (As := [.int (nI (n + w0))]) (rest := []) ⟨hx, hb, hml, hown, hts⟩ ((k_J5_ensureCapacityInternal_d00df l D h d ml n k f cB (n + w0) (hn) (hk) (hf)) H.size) (va_cwU 1 hts gJ5_append_cf1ce_J5_ensureCapacityInternal_d00df_u100J4 rfl rfl rfl rfl (by decide +kernel) ⟨Nat.le_of_ble_eq_true rfl, Nat.le_of_ble_eq_true rfl⟩) (zz_pV (zz_pre (av := [.ref h, .int (nI (n + w0))]) (tyc := [(cB, .byte)]) (wc := [(h, .inr (1, [.ref d, .int 0, .int ml, .int (nI n)])), (d, .inl (cB, k, .inl f))]) (X := fun _ _ => True) (Xc := (fun _ _ => True)) hP hD hK hS [0, 1] [0] rfl (by decide) rfl zz_St_tt (fun _ _ _ => trivial)) (va_recv hK hP (ci := 1) (q0 := 0) rfl rfl)) rfl rfl hl.1 rfl (lv_room (Nat.le_of_ble_eq_true rfl)) dJ5_append_cf1ce_21 ⟨by show 0 + 0 + 1 ≤ 1; omega, by show 0 + 0 + 1500 ≤ 1500; omega⟩) hP hD hK hS hFc [0, 1] [] rfl rfl (by decide) (by decide) (fun v w1 ty1 H1 locs hq9 hz9 hk9 hP1 hD1 hK1 hS1 => ?_)
  obtain ⟨d2_2, cA2_3, f2_4, h_5, rfl, rfl, rfl⟩ := hq9
  clear hS hP hD hK hFc
  have hP : va_P D vwCl [(h, .inr (1, [.ref d2_2, .int 0, .int ml, .int (nI n)])), (d2_2, .inl (cA2_3, (zz_cap (n + w0) k), .inl f2_4))] H1 := hP1
  have hD : va_D A [(h, .inr (1, [.ref d2_2, .int 0, .int ml, .int (nI n)])), (d2_2, .inl (cA2_3, (zz_cap (n + w0) k), .inl f2_4))] := hD1
  have hK : va_K D vwCl [(cB, .byte), (cA2_3, .byte)] s := hK1
  have hS := hS1
  clear hP1 hD1 hK1 hS1
  obtain ⟨H, rfl⟩ : ∃ z, z = H1 := ⟨_, rfl⟩
  refine W.eq (g2 := F0 mt0 24 ls []) rfl ?_
  refine lv_aload_n hx hb dJ5_append_cf1ce_24 rfl (lv_at hl 1 rfl) ?_
  refine lv_aload_n hx hb dJ5_append_cf1ce_25 rfl (lv_at hl 1 rfl) ?_
  refine va_get (D := D) (ci := 1) (v := .int (nI n)) (C := RJ4) (T := TJ4) (N := 4) hx hb hts (by decide +kernel) hown hK hP 0 rfl rfl 3 (by decide) (hts (.fieldLink RJ5 79 "java/lang/AbstractStringBuilder" "count" "I") (by decide +kernel)) (fun _ h9 => h9) rfl dJ5_append_cf1ce_26 ?_
  refine lv_aload_n hx hb dJ5_append_cf1ce_29 rfl (lv_at hl 2 rfl) ?_
  have hFc := va_free (wc := [(h, .inr (1, [.ref d2_2, .int 0, .int ml, .int (nI n)])), (d2_2, .inl (cA2_3, (zz_cap (n + w0) k), .inl f2_4))]) hD hS hA [0, 1] rfl
  have hO0 := zz_out zz_St_G hX0 hS hFc
  have hO1 := zz_out (zz_St_S q b w0 g) hX1 hS hFc
  refine zz_after (wr := []) (va_runU (As := [.int (nI n), .ref q]) (rest := []) ⟨hx, hb, hml, hown, hts⟩ ((k_J5_putStringAt_47b60 l D h d2_2 ml n (zz_cap (n + w0) k) f2_4 cA2_3 q b w0 g n (zz_cap_ge _ _) (zz_cap_le hn hk) (h_5)) H.size) (va_cwU 2 hts gJ5_append_cf1ce_J5_putStringAt_47b60_u208J4 rfl rfl rfl rfl (by decide +kernel) ⟨Nat.le_of_ble_eq_true rfl, Nat.le_of_ble_eq_true rfl⟩) (zz_pV (zz_pre (av := [.ref h, .int (nI n), .ref q]) (tyc := [(cA2_3, .byte)]) (wc := [(h, .inr (1, [.ref d2_2, .int 0, .int ml, .int (nI n)])), (d2_2, .inl (cA2_3, (zz_cap (n + w0) k), .inl f2_4))]) (X := fun _ _ => True) (Xc := (fun A U => zz_G A U ∧ zz_S q b w0 g A U)) hP hD hK hS [0, 1] [1] rfl (by decide) rfl (zz_St_and zz_St_G (zz_St_S q b w0 g)) (fun U h1 h2 => ⟨hO0 U h1 h2, hO1 U h1 h2⟩)) (va_recv hK hP (ci := 1) (q0 := 0) rfl rfl)) rfl rfl hl.1 rfl (lv_room (Nat.le_of_ble_eq_true rfl)) dJ5_append_cf1ce_30 ⟨by show 0 + 0 + 1 + 0 ≤ 1; omega, by show 0 + 0 + 1500 + 0 ≤ 1500; omega⟩) hP hD hK hS hFc [0, 1] [] rfl rfl (by decide) (by decide) (fun v w1 ty1 H1 locs hq9 hz9 hk9 hP1 hD1 hK1 hS1 => ?_)
  obtain ⟨f2_6, h_7, rfl, rfl, rfl⟩ := hq9
  clear hS hP hD hK hFc hO0 hO1
  have hP : va_P D vwCl [(h, .inr (1, [.ref d2_2, .int 0, .int ml, .int (nI n)])), (d2_2, .inl (cA2_3, (zz_cap (n + w0) k), .inl f2_6))] H1 := hP1
  have hD : va_D A [(h, .inr (1, [.ref d2_2, .int 0, .int ml, .int (nI n)])), (d2_2, .inl (cA2_3, (zz_cap (n + w0) k), .inl f2_6))] := hD1
  have hK : va_K D vwCl [(cB, .byte), (cA2_3, .byte), (cA2_3, .byte)] s := hK1
  have hS := hS1
  clear hP1 hD1 hK1 hS1
  obtain ⟨H, rfl⟩ : ∃ z, z = H1 := ⟨_, rfl⟩
  refine W.eq (g2 := F0 mt0 33 ls []) rfl ?_
  refine lv_aload_n hx hb dJ5_append_cf1ce_33 rfl (lv_at hl 1 rfl) ?_
  refine lv_dup hx hb dJ5_append_cf1ce_34 rfl ?_
  refine va_get (D := D) (ci := 1) (v := .int (nI n)) (C := RJ4) (T := TJ4) (N := 4) hx hb hts (by decide +kernel) hown hK hP 0 rfl rfl 3 (by decide) (hts (.fieldLink RJ5 79 "java/lang/AbstractStringBuilder" "count" "I") (by decide +kernel)) (fun _ h9 => h9) rfl dJ5_append_cf1ce_35 ?_
  refine lv_iload_n hx hb dJ5_append_cf1ce_38 rfl (lv_at hl 0 rfl) ?_
  refine lv_iadd hx hb dJ5_append_cf1ce_39 ?_
  refine lv_topi (fun z_8 ez_8 => ?_)
  obtain rfl : z_8 = nI (n + w0) := ez_8.trans (nI_add _ _)
  refine va_put (D := D) (ci := 1) (v := .int (nI (n + w0))) (ty := .int) (C := RJ4) (T := TJ4) (N := 4) hx hb hts (by decide +kernel) tyJ4 tyJ4_ok nmJ4 hown hK hP hD hS 0 rfl rfl 3 (by decide) (hts (.fieldLink RJ5 79 "java/lang/AbstractStringBuilder" "count" "I") (by decide +kernel)) (fun _ h9 => h9) rfl (by decide +kernel) rfl rfl (Nat.le_of_ble_eq_true rfl) dJ5_append_cf1ce_40 (fun H locs hP hD hS => ?_)
  have hP : va_P D vwCl [(h, .inr (1, [.ref d2_2, .int 0, .int ml, .int (nI (n + w0))])), (d2_2, .inl (cA2_3, (zz_cap (n + w0) k), .inl f2_6))] H := hP
  have hD : va_D A [(h, .inr (1, [.ref d2_2, .int 0, .int ml, .int (nI (n + w0))])), (d2_2, .inl (cA2_3, (zz_cap (n + w0) k), .inl f2_6))] := hD
  refine lv_aload_n hx hb dJ5_append_cf1ce_43 rfl (lv_at hl 1 rfl) ?_
  have hP9 := hP.sub (ws' := [(h, .inr (1, [.ref d2_2, .int 0, .int ml, .int (nI (n + w0))])), (d2_2, .inl (cA2_3, (zz_cap (n + w0) k), .inl f2_6))]) [0, 1] rfl
  have hD9 := hD.sub (ws' := [(h, .inr (1, [.ref d2_2, .int 0, .int ml, .int (nI (n + w0))])), (d2_2, .inl (cA2_3, (zz_cap (n + w0) k), .inl f2_6))]) [0, 1] (by decide) rfl
  have hK9 := hK.sub (tys' := [(cA2_3, .byte)]) [1] rfl
  refine W.widen (k := 1) (n := 1500) (by show 0 + 0 + 1 + 0 ≤ 1; omega) (by show 0 + 0 + 1500 + 0 ≤ 1500; omega) ?_
  exact W.aret (v := .ref h) hx hb hr (Or.inl ⟨_, rfl⟩) (Or.inr ⟨_, rfl⟩) (zz_end hP9 hD9 hK9 hS (⟨_, _, _, h_7, rfl, rfl, rfl⟩)) hS.2.2 dJ5_append_cf1ce_44
set_option maxHeartbeats 4000000 in
set_option maxRecDepth 100000 in
theorem k_J4_append_15ec4 (l : Launch) (D : va_G) (h : Nat) (d : Nat) (ml : Int32) (n : Nat) (k : Nat) (f : Nat → Int32) (cB : ClassId) (q : Nat) (b : Nat) (w0 : Nat) (g : Nat → Int32) (hn : n + w0 ≤ 400) (hk : k ≤ 1500) (hf : sb_Fit f) : zz_M l yJ4_append_15ec4 wsJ4_append_15ec4 ({ frames := 6, cells := 1, slots := 1500, locals := 3400 }) D [.ref h, .ref q] [(cB, .byte)] [(h, .inr (1, [.ref d, .int 0, .int ml, .int (nI n)])), (d, .inl (cB, k, .inl f))] (fun A U => zz_G A U ∧ zz_S q b w0 g A U) (fun H0 H1 v w t => ∃ d2 : Nat, ∃ cA2 : ClassId, ∃ f2 : Nat → Int32, sb_Fit f2 ∧ v = some (.ref h) ∧ w = [(h, .inr (1, [.ref d2, .int 0, .int ml, .int (nI (n + w0))])), (d2, .inl (cA2, (zz_cap (n + w0) k), .inl f2))] ∧ t = [(cA2, .byte)]) := by
  refine zz_M.mk (cc := cJ4_append_15ec4) (maxL := 2) (ret := (some (.object "java/lang/StringBuilder"))) (by decide) rfl (Nat.le_of_ble_eq_true rfl) ?_
  intro p0 e0 s mt0 bl0 meth0 cd0 ls hC hname hP hK hD hX hl
  obtain ⟨hx, hb, hml, hr, hown, hts, hlocks⟩ := hC
  obtain ⟨hX0, hX1⟩ := hX
  generalize hAe : va_A [(h, .inr (1, [.ref d, .int 0, .int ml, .int (nI n)])), (d, .inl (cB, k, .inl f))] s.heap.size = A at *
  have hA : ∀ q : Nat, s.heap.size ≤ q → A q := fun q h => by rw [← hAe]; exact Or.inr h
  obtain ⟨H, hHs⟩ : ∃ z : Heap, z = s.heap := ⟨_, rfl⟩
  rw [← hHs] at hP ⊢
  have hS : va_S A s.heap H [] := by rw [hHs]; exact va_S.rf
  have hl : lv_has ls 2 [(0, .ref h), (1, .ref q)] := hl
  refine lv_aload_n hx hb dJ4_append_15ec4_0 rfl (lv_at hl 0 rfl) ?_
  refine lv_aload_n hx hb dJ4_append_15ec4_1 rfl (lv_at hl 1 rfl) ?_
  have hFc := va_free (wc := [(h, .inr (1, [.ref d, .int 0, .int ml, .int (nI n)])), (d, .inl (cB, k, .inl f))]) hD hS hA [0, 1] rfl
  have hO0 := zz_out zz_St_G hX0 hS hFc
  have hO1 := zz_out (zz_St_S q b w0 g) hX1 hS hFc
  refine zz_after (wr := []) (va_runSU (As := [.ref q]) (rest := []) (hK.1 1 _ rfl).2 ⟨hx, hb, hml, hown, hts⟩ ((k_J5_append_cf1ce l D h d ml n k f cB q b w0 g (hn) (hk) (hf)) H.size) (va_cwSU 1 hts gJ4_append_15ec4_J5_append_cf1ce_s29 rfl rfl rfl (by decide +kernel) ⟨Nat.le_of_ble_eq_true rfl, Nat.le_of_ble_eq_true rfl⟩) (zz_pV (zz_pre (av := [.ref h, .ref q]) (tyc := [(cB, .byte)]) (wc := [(h, .inr (1, [.ref d, .int 0, .int ml, .int (nI n)])), (d, .inl (cB, k, .inl f))]) (X := fun _ _ => True) (Xc := (fun A U => zz_G A U ∧ zz_S q b w0 g A U)) hP hD hK hS [0, 1] [0] rfl (by decide) rfl (zz_St_and zz_St_G (zz_St_S q b w0 g)) (fun U h1 h2 => ⟨hO0 U h1 h2, hO1 U h1 h2⟩)) (va_recv hK hP (ci := 1) (q0 := 0) rfl rfl)) rfl rfl hl.1 rfl (lv_room (Nat.le_of_ble_eq_true rfl)) dJ4_append_15ec4_2 ⟨by show 0 + 1 ≤ 1; omega, by show 0 + 1500 ≤ 1500; omega⟩) hP hD hK hS hFc [0, 1] [] rfl rfl (by decide) (by decide) (fun v w1 ty1 H1 locs hq9 hz9 hk9 hP1 hD1 hK1 hS1 => ?_)
  obtain ⟨d2_1, cA2_2, f2_3, h_4, rfl, rfl, rfl⟩ := hq9
  clear hS hP hD hK hFc hO0 hO1
  have hP : va_P D vwCl [(h, .inr (1, [.ref d2_1, .int 0, .int ml, .int (nI (n + w0))])), (d2_1, .inl (cA2_2, (zz_cap (n + w0) k), .inl f2_3))] H1 := hP1
  have hD : va_D A [(h, .inr (1, [.ref d2_1, .int 0, .int ml, .int (nI (n + w0))])), (d2_1, .inl (cA2_2, (zz_cap (n + w0) k), .inl f2_3))] := hD1
  have hK : va_K D vwCl [(cB, .byte), (cA2_2, .byte)] s := hK1
  have hS := hS1
  clear hP1 hD1 hK1 hS1
  obtain ⟨H, rfl⟩ : ∃ z, z = H1 := ⟨_, rfl⟩
  refine W.eq (g2 := F0 mt0 5 ls [.ref h]) rfl ?_
  refine lv_pop hx hb dJ4_append_15ec4_5 rfl ?_
  refine lv_aload_n hx hb dJ4_append_15ec4_6 rfl (lv_at hl 0 rfl) ?_
  have hP9 := hP.sub (ws' := [(h, .inr (1, [.ref d2_1, .int 0, .int ml, .int (nI (n + w0))])), (d2_1, .inl (cA2_2, (zz_cap (n + w0) k), .inl f2_3))]) [0, 1] rfl
  have hD9 := hD.sub (ws' := [(h, .inr (1, [.ref d2_1, .int 0, .int ml, .int (nI (n + w0))])), (d2_1, .inl (cA2_2, (zz_cap (n + w0) k), .inl f2_3))]) [0, 1] (by decide) rfl
  have hK9 := hK.sub (tys' := [(cA2_2, .byte)]) [1] rfl
  refine W.widen (k := 1) (n := 1500) (by show 0 + 1 ≤ 1; omega) (by show 0 + 1500 ≤ 1500; omega) ?_
  exact W.aret (v := .ref h) hx hb hr (Or.inl ⟨_, rfl⟩) (Or.inr ⟨_, rfl⟩) (zz_end hP9 hD9 hK9 hS (⟨_, _, _, h_4, rfl, rfl, rfl⟩)) hS.2.2 dJ4_append_15ec4_7
set_option maxHeartbeats 4000000 in
set_option maxRecDepth 100000 in
theorem k_J6_stringSize_0f7a4 (l : Launch) (D : va_G) (x : Nat) (hx1 : 10 ≤ x) (hx2 : x < 100) : zz_M l yJ6_stringSize_0f7a4 wsJ6_stringSize_0f7a4 ({ frames := 1, cells := 0, slots := 0, locals := 40 }) D [.int (nI x)] [] [] (fun _ _ => True) (fun H0 H1 v w t => v = some (.int 2) ∧ w = [] ∧ t = []) := by
  refine zz_M.mk (cc := cJ6_stringSize_0f7a4) (maxL := 4) (ret := (some .int)) (by decide) rfl (Nat.le_of_ble_eq_true rfl) ?_
  intro p0 e0 s mt0 bl0 meth0 cd0 ls hC hname hP hK hD hX hl
  obtain ⟨hx, hb, hml, hr, hown, hts, hlocks⟩ := hC
  generalize hAe : va_A [] s.heap.size = A at *
  have hA : ∀ q : Nat, s.heap.size ≤ q → A q := fun q h => by rw [← hAe]; exact Or.inr h
  obtain ⟨H, hHs⟩ : ∃ z : Heap, z = s.heap := ⟨_, rfl⟩
  rw [← hHs] at hP ⊢
  have hS : va_S A s.heap H [] := by rw [hHs]; exact va_S.rf
  have hl : lv_has ls 4 [(0, .int (nI x))] := hl
  refine lv_iconst (v := 1) hx hb dJ6_stringSize_0f7a4_0 (by decide) ?_
  refine lv_istore_n (lv' := [(1, .int 1), (0, .int (nI x))]) hx hb dJ6_stringSize_0f7a4_1 rfl hl (by decide) rfl (fun ls hl => ?_)
  refine lv_iload_n hx hb dJ6_stringSize_0f7a4_2 rfl (lv_at hl 1 rfl) ?_
  refine lv_if_lt (tgt := 11) hx hb dJ6_stringSize_0f7a4_3 (by decide) (fun c_1 => absurd c_1 (nI_pos (by omega))) (fun c_1 => ?_)
  refine lv_iconst (v := 0) hx hb dJ6_stringSize_0f7a4_6 (by decide) ?_
  refine lv_istore_n (lv' := [(1, .int 0), (0, .int (nI x))]) hx hb dJ6_stringSize_0f7a4_7 rfl hl (by decide) rfl (fun ls hl => ?_)
  refine lv_iload_n hx hb dJ6_stringSize_0f7a4_8 rfl (lv_at hl 1 rfl) ?_
  refine lv_ineg hx hb dJ6_stringSize_0f7a4_9 ?_
  refine lv_topi (fun z_2 ez_2 => ?_)
  obtain rfl : z_2 = -nI x := ez_2.trans (rfl)
  refine lv_istore_n (lv' := [(0, .int (-nI x)), (1, .int 0)]) hx hb dJ6_stringSize_0f7a4_10 rfl hl (by decide) rfl (fun ls hl => ?_)
  refine lv_bipush (v := (-10)) hx hb dJ6_stringSize_0f7a4_11 (by decide) ?_
  refine lv_istore_n (lv' := [(2, .int (-10)), (0, .int (-nI x)), (1, .int 0)]) hx hb dJ6_stringSize_0f7a4_13 rfl hl (by decide) rfl (fun ls hl => ?_)
  refine lv_iconst (v := 1) hx hb dJ6_stringSize_0f7a4_14 (by decide) ?_
  refine lv_istore_n (lv' := [(3, .int 1), (2, .int (-10)), (0, .int (-nI x)), (1, .int 0)]) hx hb dJ6_stringSize_0f7a4_15 rfl hl (by decide) rfl (fun ls hl => ?_)
  refine lv_iload_n hx hb dJ6_stringSize_0f7a4_16 rfl (lv_at hl 0 rfl) ?_
  refine lv_bipush (v := 10) hx hb dJ6_stringSize_0f7a4_17 (by decide) ?_
  refine lv_icmp_ge (tgt := 42) hx hb dJ6_stringSize_0f7a4_19 (by decide) (fun c_3 => absurd c_3 (by decide)) (fun c_3 => ?_)
  refine lv_iload_n hx hb dJ6_stringSize_0f7a4_22 rfl (lv_at hl 2 rfl) ?_
  refine lv_iload_n hx hb dJ6_stringSize_0f7a4_23 rfl (lv_at hl 1 rfl) ?_
  refine lv_icmp_le (tgt := 31) hx hb dJ6_stringSize_0f7a4_24 (by decide) (fun c_4 => ?_) (fun c_4 => absurd ((show -nI x ≤ -nI 10 from (zz_neg (by omega) (by decide)).mpr hx1)) c_4)
  refine lv_bipush (v := 10) hx hb dJ6_stringSize_0f7a4_31 (by decide) ?_
  refine lv_iload_n hx hb dJ6_stringSize_0f7a4_33 rfl (lv_at hl 1 rfl) ?_
  refine lv_imul hx hb dJ6_stringSize_0f7a4_34 ?_
  refine lv_topi (fun z_5 ez_5 => ?_)
  obtain rfl : z_5 = (-100) := ez_5.trans (by decide)
  refine lv_istore_n (lv' := [(2, .int (-100)), (3, .int 1), (0, .int (-nI x)), (1, .int 0)]) hx hb dJ6_stringSize_0f7a4_35 rfl hl (by decide) rfl (fun ls hl => ?_)
  refine lv_iinc (v := 2) (lv' := [(3, .int 2), (2, .int (-100)), (0, .int (-nI x)), (1, .int 0)]) hx hb dJ6_stringSize_0f7a4_36 hl (k := 1) rfl (by decide) (by decide) rfl (fun ls hl => ?_)
  refine lv_goto (tgt := 16) hx hb dJ6_stringSize_0f7a4_39 (by decide) ?_
  refine lv_iload_n hx hb dJ6_stringSize_0f7a4_16 rfl (lv_at hl 0 rfl) ?_
  refine lv_bipush (v := 10) hx hb dJ6_stringSize_0f7a4_17 (by decide) ?_
  refine lv_icmp_ge (tgt := 42) hx hb dJ6_stringSize_0f7a4_19 (by decide) (fun c_6 => absurd c_6 (by decide)) (fun c_6 => ?_)
  refine lv_iload_n hx hb dJ6_stringSize_0f7a4_22 rfl (lv_at hl 2 rfl) ?_
  refine lv_iload_n hx hb dJ6_stringSize_0f7a4_23 rfl (lv_at hl 1 rfl) ?_
  refine lv_icmp_le (tgt := 31) hx hb dJ6_stringSize_0f7a4_24 (by decide) (fun c_7 => absurd c_7 (fun z9 => by have := (zz_neg (x := x) (c := 100) (by omega) (by decide)).mp z9; omega)) (fun c_7 => ?_)
  refine lv_iload_n hx hb dJ6_stringSize_0f7a4_27 rfl (lv_at hl 0 rfl) ?_
  refine lv_iload_n hx hb dJ6_stringSize_0f7a4_28 rfl (lv_at hl 3 rfl) ?_
  refine lv_iadd hx hb dJ6_stringSize_0f7a4_29 ?_
  refine lv_topi (fun z_8 ez_8 => ?_)
  obtain rfl : z_8 = 2 := ez_8.trans (by decide)
  have hP9 := hP.sub (ws' := []) [] rfl
  have hD9 := hD.sub (ws' := []) [] (by decide) rfl
  have hK9 := hK.sub (tys' := []) [] rfl
  refine W.widen (k := 0) (n := 0) (by show 0 ≤ 0; omega) (by show 0 ≤ 0; omega) ?_
  exact W.iret (v := 2) hx hb hr (zz_end hP9 hD9 hK9 hS (⟨rfl, rfl, rfl⟩)) hS.2.2 dJ6_stringSize_0f7a4_30
set_option maxHeartbeats 4000000 in
set_option maxRecDepth 100000 in
theorem k_J6_getChars_ba4f3 (l : Launch) (D : va_G) (x : Nat) (d : Nat) (k : Nat) (f : Nat → Int32) (cB : ClassId) (j : Nat) (hx1 : 10 ≤ x) (hx2 : x < 100) (hj : 2 ≤ j ∧ j ≤ k) (hk : k ≤ 1500) (hf : sb_Fit f) : zz_M l yJ6_getChars_ba4f3 wsJ6_getChars_ba4f3 ({ frames := 1, cells := 0, slots := 0, locals := 100 }) D [.int (nI x), .int (nI j), .ref d] [(cB, .byte)] [(d, .inl (cB, k, .inl f))] (fun A U => zz_G A U) (fun H0 H1 v w t => ∃ rr : Int32, ∃ f2 : Nat → Int32, sb_Fit f2 ∧ v = some (.int rr) ∧ w = [(d, .inl (cB, k, .inl f2))] ∧ t = [(cB, .byte)]) := by
  refine zz_M.mk (cc := cJ6_getChars_ba4f3) (maxL := 7) (ret := (some .int)) (by decide) rfl (Nat.le_of_ble_eq_true rfl) ?_
  intro p0 e0 s mt0 bl0 meth0 cd0 ls hC hname hP hK hD hX hl
  obtain ⟨hx, hb, hml, hr, hown, hts, hlocks⟩ := hC
  have hX0 := hX
  generalize hAe : va_A [(d, .inl (cB, k, .inl f))] s.heap.size = A at *
  have hA : ∀ q : Nat, s.heap.size ≤ q → A q := fun q h => by rw [← hAe]; exact Or.inr h
  obtain ⟨H, hHs⟩ : ∃ z : Heap, z = s.heap := ⟨_, rfl⟩
  rw [← hHs] at hP ⊢
  have hS : va_S A s.heap H [] := by rw [hHs]; exact va_S.rf
  have hl : lv_has ls 7 [(0, .int (nI x)), (1, .int (nI j)), (2, .ref d)] := hl
  have hX0' := hX0
  obtain ⟨-, t1, t2, g1, g2, hZ1, hT1, hg1, hZ2, hT2, hg2⟩ := hX0'
  refine lv_iload_n hx hb dJ6_getChars_ba4f3_0 rfl (lv_at hl 1 rfl) ?_
  refine lv_istore (lv' := [(5, .int (nI j)), (0, .int (nI x)), (1, .int (nI j)), (2, .ref d)]) hx hb dJ6_getChars_ba4f3_1 hl (by decide) rfl (fun ls hl => ?_)
  refine lv_iload_n hx hb dJ6_getChars_ba4f3_3 rfl (lv_at hl 1 rfl) ?_
  refine lv_if_ge (tgt := 11) hx hb dJ6_getChars_ba4f3_4 (by decide) (fun c_1 => ?_) (fun c_1 => absurd (nI_pos' (by omega)) c_1)
  refine lv_iconst (v := 0) hx hb dJ6_getChars_ba4f3_11 (by decide) ?_
  refine lv_istore (lv' := [(6, .int 0), (5, .int (nI j)), (0, .int (nI x)), (1, .int (nI j)), (2, .ref d)]) hx hb dJ6_getChars_ba4f3_12 hl (by decide) rfl (fun ls hl => ?_)
  refine lv_iload hx hb dJ6_getChars_ba4f3_14 (lv_at hl 0 rfl) ?_
  refine lv_if_ne (tgt := 22) hx hb dJ6_getChars_ba4f3_16 (by decide) (fun c_2 => absurd (rfl) c_2) (fun c_2 => ?_)
  refine lv_iload_n hx hb dJ6_getChars_ba4f3_19 rfl (lv_at hl 2 rfl) ?_
  refine lv_ineg hx hb dJ6_getChars_ba4f3_20 ?_
  refine lv_topi (fun z_3 ez_3 => ?_)
  obtain rfl : z_3 = -nI x := ez_3.trans (rfl)
  refine lv_istore_n (lv' := [(0, .int (-nI x)), (6, .int 0), (5, .int (nI j)), (1, .int (nI j)), (2, .ref d)]) hx hb dJ6_getChars_ba4f3_21 rfl hl (by decide) rfl (fun ls hl => ?_)
  refine lv_iload_n hx hb dJ6_getChars_ba4f3_22 rfl (lv_at hl 0 rfl) ?_
  refine lv_bipush (v := (-100)) hx hb dJ6_getChars_ba4f3_23 (by decide) ?_
  refine lv_icmp_gt (tgt := 72) hx hb dJ6_getChars_ba4f3_25 (by decide) (fun c_4 => ?_) (fun c_4 => absurd (by have h9 : ((-100 : Int32)).toInt = -100 := (by decide); rw [Int32.lt_iff_toInt_lt, sb_negT (by omega)]; omega) c_4)
  refine lv_aload_n hx hb dJ6_getChars_ba4f3_72 rfl (lv_at hl 4 rfl) ?_
  refine lv_iinc (v := (nI (j - 1))) (lv' := [(5, .int (nI (j - 1))), (0, .int (-nI x)), (6, .int 0), (1, .int (nI j)), (2, .ref d)]) hx hb dJ6_getChars_ba4f3_73 hl (k := 2) rfl (sb_m1 (by omega)) (by decide) rfl (fun ls hl => ?_)
  refine lv_iload hx hb dJ6_getChars_ba4f3_76 (lv_at hl 0 rfl) ?_
  refine va_gets hx hb (hZ1) hS hown (hts (.fieldLink RJ6 83 "java/lang/Integer" "DigitOnes" "[B") (by decide +kernel)) (fun _ h9 => h9) dJ6_getChars_ba4f3_78 ?_
  refine lv_iload_n hx hb dJ6_getChars_ba4f3_81 rfl (lv_at hl 1 rfl) ?_
  refine lv_ineg hx hb dJ6_getChars_ba4f3_82 ?_
  refine lv_topi (fun z_5 ez_5 => ?_)
  obtain rfl : z_5 = nI x := ez_5.trans (zz_nn x)
  refine va_tb hx hb (hT1) hS (vp_in_nI (by omega) (by omega)) (v := .int (g1 (nI x).toNatClampNeg)) rfl dJ6_getChars_ba4f3_83 ?_
  refine va_bast hx hb hK hP hD hS 0 0 rfl rfl (vp_in_nI (by omega) (by omega)) dJ6_getChars_ba4f3_84 (fun H locs hP hD hS => ?_)
  have hP : va_P D vwCl [(d, .inl (cB, k, .inl (upd f (nI (j - 1) : Int32).toNatClampNeg (vp_nar .byte (g1 (nI x).toNatClampNeg)))))] H := hP
  have hD : va_D A [(d, .inl (cB, k, .inl (upd f (nI (j - 1) : Int32).toNatClampNeg (vp_nar .byte (g1 (nI x).toNatClampNeg)))))] := hD
  refine lv_iload_n hx hb dJ6_getChars_ba4f3_85 rfl (lv_at hl 1 rfl) ?_
  refine lv_bipush (v := (-9)) hx hb dJ6_getChars_ba4f3_86 (by decide) ?_
  refine lv_icmp_ge (tgt := 104) hx hb dJ6_getChars_ba4f3_88 (by decide) (fun c_6 => absurd c_6 (by have h9 : ((-9 : Int32)).toInt = -9 := (by decide); rw [Int32.le_iff_toInt_le, sb_negT (by omega)]; omega)) (fun c_6 => ?_)
  refine lv_aload_n hx hb dJ6_getChars_ba4f3_91 rfl (lv_at hl 4 rfl) ?_
  refine lv_iinc (v := (nI (j - 1 - 1))) (lv' := [(5, .int (nI (j - 1 - 1))), (0, .int (-nI x)), (6, .int 0), (1, .int (nI j)), (2, .ref d)]) hx hb dJ6_getChars_ba4f3_92 hl (k := 0) rfl (sb_m1 (by omega)) (by decide) rfl (fun ls hl => ?_)
  refine lv_iload hx hb dJ6_getChars_ba4f3_95 (lv_at hl 0 rfl) ?_
  refine va_gets hx hb (hZ2) hS hown (hts (.fieldLink RJ6 87 "java/lang/Integer" "DigitTens" "[B") (by decide +kernel)) (fun _ h9 => h9) dJ6_getChars_ba4f3_97 ?_
  refine lv_iload_n hx hb dJ6_getChars_ba4f3_100 rfl (lv_at hl 1 rfl) ?_
  refine lv_ineg hx hb dJ6_getChars_ba4f3_101 ?_
  refine lv_topi (fun z_7 ez_7 => ?_)
  obtain rfl : z_7 = nI x := ez_7.trans (zz_nn x)
  refine va_tb hx hb (hT2) hS (vp_in_nI (by omega) (by omega)) (v := .int (g2 (nI x).toNatClampNeg)) rfl dJ6_getChars_ba4f3_102 ?_
  refine va_bast hx hb hK hP hD hS 0 0 rfl rfl (vp_in_nI (by omega) (by omega)) dJ6_getChars_ba4f3_103 (fun H locs hP hD hS => ?_)
  have hP : va_P D vwCl [(d, .inl (cB, k, .inl (upd (upd f (nI (j - 1) : Int32).toNatClampNeg (vp_nar .byte (g1 (nI x).toNatClampNeg))) (nI (j - 1 - 1) : Int32).toNatClampNeg (vp_nar .byte (g2 (nI x).toNatClampNeg)))))] H := hP
  have hD : va_D A [(d, .inl (cB, k, .inl (upd (upd f (nI (j - 1) : Int32).toNatClampNeg (vp_nar .byte (g1 (nI x).toNatClampNeg))) (nI (j - 1 - 1) : Int32).toNatClampNeg (vp_nar .byte (g2 (nI x).toNatClampNeg)))))] := hD
  refine lv_iload hx hb dJ6_getChars_ba4f3_104 (lv_at hl 2 rfl) ?_
  refine lv_if_eq (tgt := 118) hx hb dJ6_getChars_ba4f3_106 (by decide) (fun c_8 => ?_) (fun c_8 => absurd (rfl) c_8)
  refine lv_iload hx hb dJ6_getChars_ba4f3_118 (lv_at hl 0 rfl) ?_
  have hP9 := hP.sub (ws' := [(d, .inl (cB, k, .inl (upd (upd f (nI (j - 1) : Int32).toNatClampNeg (vp_nar .byte (g1 (nI x).toNatClampNeg))) (nI (j - 1 - 1) : Int32).toNatClampNeg (vp_nar .byte (g2 (nI x).toNatClampNeg)))))]) [0] rfl
  have hD9 := hD.sub (ws' := [(d, .inl (cB, k, .inl (upd (upd f (nI (j - 1) : Int32).toNatClampNeg (vp_nar .byte (g1 (nI x).toNatClampNeg))) (nI (j - 1 - 1) : Int32).toNatClampNeg (vp_nar .byte (g2 (nI x).toNatClampNeg)))))]) [0] (by decide) rfl
  have hK9 := hK.sub (tys' := [(cB, .byte)]) [0] rfl
  refine W.widen (k := 0) (n := 0) (by show 0 ≤ 0; omega) (by show 0 ≤ 0; omega) ?_
  exact W.iret (v := nI (j - 1 - 1)) hx hb hr (zz_end hP9 hD9 hK9 hS (⟨_, _, sb_fitU (sb_fitU hf (zz_fitN _)) (zz_fitN _), rfl, rfl, rfl⟩)) hS.2.2 dJ6_getChars_ba4f3_120
set_option maxHeartbeats 4000000 in
set_option maxRecDepth 100000 in
theorem k_J5_append_c97b9 (l : Launch) (D : va_G) (h : Nat) (d : Nat) (ml : Int32) (n : Nat) (k : Nat) (f : Nat → Int32) (cB : ClassId) (x : Nat) (hx1 : 10 ≤ x) (hx2 : x < 100) (hn : n + 2 ≤ 400) (hk : k ≤ 1500) (hf : sb_Fit f) : zz_M l yJ5_append_c97b9 wsJ5_append_c97b9 ({ frames := 5, cells := 1, slots := 1500, locals := 3300 }) D [.ref h, .int (nI x)] [(cB, .byte)] [(h, .inr (1, [.ref d, .int 0, .int ml, .int (nI n)])), (d, .inl (cB, k, .inl f))] (fun A U => zz_G A U) (fun H0 H1 v w t => ∃ d2 : Nat, ∃ cA2 : ClassId, ∃ f2 : Nat → Int32, sb_Fit f2 ∧ v = some (.ref h) ∧ w = [(h, .inr (1, [.ref d2, .int 0, .int ml, .int (nI (n + 2))])), (d2, .inl (cA2, (zz_cap (n + 2) k), .inl f2))] ∧ t = [(cA2, .byte)]) := by
  refine zz_M.mk (cc := cJ5_append_c97b9) (maxL := 4) (ret := (some (.object "java/lang/AbstractStringBuilder"))) (by decide) rfl (Nat.le_of_ble_eq_true rfl) ?_
  intro p0 e0 s mt0 bl0 meth0 cd0 ls hC hname hP hK hD hX hl
  obtain ⟨hx, hb, hml, hr, hown, hts, hlocks⟩ := hC
  have hX0 := hX
  generalize hAe : va_A [(h, .inr (1, [.ref d, .int 0, .int ml, .int (nI n)])), (d, .inl (cB, k, .inl f))] s.heap.size = A at *
  have hA : ∀ q : Nat, s.heap.size ≤ q → A q := fun q h => by rw [← hAe]; exact Or.inr h
  obtain ⟨H, hHs⟩ : ∃ z : Heap, z = s.heap := ⟨_, rfl⟩
  rw [← hHs] at hP ⊢
  have hS : va_S A s.heap H [] := by rw [hHs]; exact va_S.rf
  have hl : lv_has ls 4 [(0, .ref h), (1, .int (nI x))] := hl
  refine lv_aload_n hx hb dJ5_append_c97b9_0 rfl (lv_at hl 0 rfl) ?_
  refine va_get (D := D) (ci := 1) (v := .int (nI n)) (C := RJ4) (T := TJ4) (N := 4) hx hb hts (by decide +kernel) hown hK hP 0 rfl rfl 3 (by decide) (hts (.fieldLink RJ5 79 "java/lang/AbstractStringBuilder" "count" "I") (by decide +kernel)) (fun _ h9 => h9) rfl dJ5_append_c97b9_1 ?_
  refine lv_istore_n (lv' := [(2, .int (nI n)), (0, .ref h), (1, .int (nI x))]) hx hb dJ5_append_c97b9_4 rfl hl (by decide) rfl (fun ls hl => ?_)
  refine lv_iload_n hx hb dJ5_append_c97b9_5 rfl (lv_at hl 0 rfl) ?_
  refine lv_iload_n hx hb dJ5_append_c97b9_6 rfl (lv_at hl 2 rfl) ?_
  have hFc := va_free (wc := []) hD hS hA [] rfl
  refine zz_after (wr := [(h, .inr (1, [.ref d, .int 0, .int ml, .int (nI n)])), (d, .inl (cB, k, .inl f))]) (va_runS (As := [.int (nI x)]) (rest := [.int (nI n)]) ⟨hx, hb, hml, hown, hts⟩ ((k_J6_stringSize_0f7a4 l D x (hx1) (hx2)) H.size) (va_cwS 1 hts gJ5_append_c97b9_J6_stringSize_0f7a4 rfl rfl rfl (by decide +kernel) ⟨Nat.le_of_ble_eq_true rfl, Nat.le_of_ble_eq_true rfl⟩) (zz_pre (av := [.int (nI x)]) (tyc := []) (wc := []) (X := fun _ _ => True) (Xc := (fun _ _ => True)) hP hD hK hS [] [] rfl (by decide) rfl zz_St_tt (fun _ _ _ => trivial)) rfl rfl hl.1 rfl (lv_room (Nat.le_of_ble_eq_true rfl)) dJ5_append_c97b9_7 ⟨by show 0 + 0 ≤ 1; omega, by show 0 + 0 ≤ 1500; omega⟩) hP hD hK hS hFc [] [0, 1] rfl rfl (by decide) (by decide) (fun v w1 ty1 H1 locs hq9 hz9 hk9 hP1 hD1 hK1 hS1 => ?_)
  obtain ⟨rfl, rfl, rfl⟩ := hq9
  clear hS hP hD hK hFc
  have hP : va_P D vwCl [(h, .inr (1, [.ref d, .int 0, .int ml, .int (nI n)])), (d, .inl (cB, k, .inl f))] H1 := hP1
  have hD : va_D A [(h, .inr (1, [.ref d, .int 0, .int ml, .int (nI n)])), (d, .inl (cB, k, .inl f))] := hD1
  have hK : va_K D vwCl [(cB, .byte)] s := hK1
  have hS := hS1
  clear hP1 hD1 hK1 hS1
  obtain ⟨H, rfl⟩ : ∃ z, z = H1 := ⟨_, rfl⟩
  refine W.eq (g2 := F0 mt0 10 ls [.int 2, .int (nI n)]) rfl ?_
  refine lv_iadd hx hb dJ5_append_c97b9_10 ?_
  refine lv_topi (fun z_1 ez_1 => ?_)
  obtain rfl : z_1 = nI (n + 2) := ez_1.trans (nI_add n 2)
  refine lv_istore_n (lv' := [(3, .int (nI (n + 2))), (2, .int (nI n)), (0, .ref h), (1, .int (nI x))]) hx hb dJ5_append_c97b9_11 rfl hl (by decide) rfl (fun ls hl => ?_)
  refine lv_aload_n hx hb dJ5_append_c97b9_12 rfl (lv_at hl 2 rfl) ?_
  refine lv_iload_n hx hb dJ5_append_c97b9_13 rfl (lv_at hl 0 rfl) ?_
  have hFc := va_free (wc := [(h, .inr (1, [.ref d, .int 0, .int ml, .int (nI n)])), (d, .inl (cB, k, .inl f))]) hD hS hA [0, 1] rfl
  refine zz_after (wr := []) (va_runU (As := [.int (nI (n + 2))]) (rest := []) ⟨hx, hb, hml, hown, hts⟩ ((k_J5_ensureCapacityInternal_d00df l D h d ml n k f cB (n + 2) (hn) (hk) (hf)) H.size) (va_cwU 1 hts gJ5_append_c97b9_J5_ensureCapacityInternal_d00df_u100J4 rfl rfl rfl rfl (by decide +kernel) ⟨Nat.le_of_ble_eq_true rfl, Nat.le_of_ble_eq_true rfl⟩) (zz_pV (zz_pre (av := [.ref h, .int (nI (n + 2))]) (tyc := [(cB, .byte)]) (wc := [(h, .inr (1, [.ref d, .int 0, .int ml, .int (nI n)])), (d, .inl (cB, k, .inl f))]) (X := fun _ _ => True) (Xc := (fun _ _ => True)) hP hD hK hS [0, 1] [0] rfl (by decide) rfl zz_St_tt (fun _ _ _ => trivial)) (va_recv hK hP (ci := 1) (q0 := 0) rfl rfl)) rfl rfl hl.1 rfl (lv_room (Nat.le_of_ble_eq_true rfl)) dJ5_append_c97b9_14 ⟨by show 0 + 0 + 1 ≤ 1; omega, by show 0 + 0 + 1500 ≤ 1500; omega⟩) hP hD hK hS hFc [0, 1] [] rfl rfl (by decide) (by decide) (fun v w1 ty1 H1 locs hq9 hz9 hk9 hP1 hD1 hK1 hS1 => ?_)
  obtain ⟨d2_2, cA2_3, f2_4, h_5, rfl, rfl, rfl⟩ := hq9
  clear hS hP hD hK hFc
  have hP : va_P D vwCl [(h, .inr (1, [.ref d2_2, .int 0, .int ml, .int (nI n)])), (d2_2, .inl (cA2_3, (zz_cap (n + 2) k), .inl f2_4))] H1 := hP1
  have hD : va_D A [(h, .inr (1, [.ref d2_2, .int 0, .int ml, .int (nI n)])), (d2_2, .inl (cA2_3, (zz_cap (n + 2) k), .inl f2_4))] := hD1
  have hK : va_K D vwCl [(cB, .byte), (cA2_3, .byte)] s := hK1
  have hS := hS1
  clear hP1 hD1 hK1 hS1
  obtain ⟨H, rfl⟩ : ∃ z, z = H1 := ⟨_, rfl⟩
  refine W.eq (g2 := F0 mt0 17 ls []) rfl ?_
  refine lv_aload_n hx hb dJ5_append_c97b9_17 rfl (lv_at hl 2 rfl) ?_
  have hFc := va_free (wc := [(h, .inr (1, [.ref d2_2, .int 0, .int ml, .int (nI n)])), (d2_2, .inl (cA2_3, (zz_cap (n + 2) k), .inl f2_4))]) hD hS hA [0, 1] rfl
  have hO0 := zz_out zz_St_G hX0 hS hFc
  refine zz_after (wr := []) (va_runU (As := []) (rest := []) ⟨hx, hb, hml, hown, hts⟩ ((k_J5_isLatin1_aae02 l D h d2_2 ml n (zz_cap (n + 2) k) f2_4 cA2_3) H.size) (va_cwU 0 hts gJ5_append_c97b9_J5_isLatin1_aae02_u83J4 rfl rfl rfl rfl (by decide +kernel) ⟨Nat.le_of_ble_eq_true rfl, Nat.le_of_ble_eq_true rfl⟩) (zz_pV (zz_pre (av := [.ref h]) (tyc := [(cA2_3, .byte)]) (wc := [(h, .inr (1, [.ref d2_2, .int 0, .int ml, .int (nI n)])), (d2_2, .inl (cA2_3, (zz_cap (n + 2) k), .inl f2_4))]) (X := fun _ _ => True) (Xc := (fun A U => zz_G A U)) hP hD hK hS [0, 1] [1] rfl (by decide) rfl zz_St_G (fun U h1 h2 => hO0 U h1 h2)) (va_recv hK hP (ci := 1) (q0 := 0) rfl rfl)) rfl rfl hl.1 rfl (lv_room (Nat.le_of_ble_eq_true rfl)) dJ5_append_c97b9_18 ⟨by show 0 + 0 + 1 + 0 ≤ 1; omega, by show 0 + 0 + 1500 + 0 ≤ 1500; omega⟩) hP hD hK hS hFc [0, 1] [] rfl rfl (by decide) (by decide) (fun v w1 ty1 H1 locs hq9 hz9 hk9 hP1 hD1 hK1 hS1 => ?_)
  obtain ⟨rfl, rfl, rfl⟩ := hq9
  clear hS hP hD hK hFc hO0
  have hP : va_P D vwCl [(h, .inr (1, [.ref d2_2, .int 0, .int ml, .int (nI n)])), (d2_2, .inl (cA2_3, (zz_cap (n + 2) k), .inl f2_4))] H1 := hP1
  have hD : va_D A [(h, .inr (1, [.ref d2_2, .int 0, .int ml, .int (nI n)])), (d2_2, .inl (cA2_3, (zz_cap (n + 2) k), .inl f2_4))] := hD1
  have hK : va_K D vwCl [(cB, .byte), (cA2_3, .byte), (cA2_3, .byte)] s := hK1
  have hS := hS1
  clear hP1 hD1 hK1 hS1
  obtain ⟨H, rfl⟩ : ∃ z, z = H1 := ⟨_, rfl⟩
  refine W.eq (g2 := F0 mt0 21 ls [.int 1]) rfl ?_
  refine lv_if_eq (tgt := 37) hx hb dJ5_append_c97b9_21 (by decide) (fun c_6 => absurd c_6 (by decide)) (fun c_6 => ?_)
  refine lv_iload_n hx hb dJ5_append_c97b9_24 rfl (lv_at hl 3 rfl) ?_
  refine lv_iload_n hx hb dJ5_append_c97b9_25 rfl (lv_at hl 0 rfl) ?_
  refine lv_aload_n hx hb dJ5_append_c97b9_26 rfl (lv_at hl 2 rfl) ?_
  refine va_get (D := D) (ci := 1) (v := .ref d2_2) (C := RJ4) (T := TJ4) (N := 4) hx hb hts (by decide +kernel) hown hK hP 0 rfl rfl 0 (by decide) (hts (.fieldLink RJ5 15 "java/lang/AbstractStringBuilder" "value" "[B") (by decide +kernel)) (fun _ h9 => h9) rfl dJ5_append_c97b9_27 ?_
  have hFc := va_free (wc := [(d2_2, .inl (cA2_3, (zz_cap (n + 2) k), .inl f2_4))]) hD hS hA [1] rfl
  have hO0 := zz_out zz_St_G hX0 hS hFc
  refine zz_after (wr := [(h, .inr (1, [.ref d2_2, .int 0, .int ml, .int (nI n)]))]) (va_runS (As := [.int (nI x), .int (nI (n + 2)), .ref d2_2]) (rest := []) ⟨hx, hb, hml, hown, hts⟩ ((k_J6_getChars_ba4f3 l D x d2_2 (zz_cap (n + 2) k) f2_4 cA2_3 (n + 2) (hx1) (hx2) (⟨by omega, zz_cap_ge _ _⟩) (zz_cap_le hn hk) (h_5)) H.size) (va_cwS 3 hts gJ5_append_c97b9_J6_getChars_ba4f3 rfl rfl rfl (by decide +kernel) ⟨Nat.le_of_ble_eq_true rfl, Nat.le_of_ble_eq_true rfl⟩) (zz_pre (av := [.int (nI x), .int (nI (n + 2)), .ref d2_2]) (tyc := [(cA2_3, .byte)]) (wc := [(d2_2, .inl (cA2_3, (zz_cap (n + 2) k), .inl f2_4))]) (X := fun _ _ => True) (Xc := (fun A U => zz_G A U)) hP hD hK hS [1] [1] rfl (by decide) rfl zz_St_G (fun U h1 h2 => hO0 U h1 h2)) rfl rfl hl.1 rfl (lv_room (Nat.le_of_ble_eq_true rfl)) dJ5_append_c97b9_30 ⟨by show 0 + 0 + 1 + 0 + 0 ≤ 1; omega, by show 0 + 0 + 1500 + 0 + 0 ≤ 1500; omega⟩) hP hD hK hS hFc [1] [0] rfl rfl (by decide) (by decide) (fun v w1 ty1 H1 locs hq9 hz9 hk9 hP1 hD1 hK1 hS1 => ?_)
  obtain ⟨rr_7, f2_8, h_9, rfl, rfl, rfl⟩ := hq9
  clear hS hP hD hK hFc hO0
  have hP : va_P D vwCl [(h, .inr (1, [.ref d2_2, .int 0, .int ml, .int (nI n)])), (d2_2, .inl (cA2_3, (zz_cap (n + 2) k), .inl f2_8))] H1 := hP1
  have hD : va_D A [(h, .inr (1, [.ref d2_2, .int 0, .int ml, .int (nI n)])), (d2_2, .inl (cA2_3, (zz_cap (n + 2) k), .inl f2_8))] := hD1
  have hK : va_K D vwCl [(cB, .byte), (cA2_3, .byte), (cA2_3, .byte), (cA2_3, .byte)] s := hK1
  have hS := hS1
  clear hP1 hD1 hK1 hS1
  obtain ⟨H, rfl⟩ : ∃ z, z = H1 := ⟨_, rfl⟩
  refine W.eq (g2 := F0 mt0 33 ls [.int rr_7]) rfl ?_
  refine lv_pop hx hb dJ5_append_c97b9_33 rfl ?_
  refine lv_goto (tgt := 48) hx hb dJ5_append_c97b9_34 (by decide) ?_
  refine lv_aload_n hx hb dJ5_append_c97b9_48 rfl (lv_at hl 2 rfl) ?_
  refine lv_iload_n hx hb dJ5_append_c97b9_49 rfl (lv_at hl 0 rfl) ?_
  refine va_put (D := D) (ci := 1) (v := .int (nI (n + 2))) (ty := .int) (C := RJ4) (T := TJ4) (N := 4) hx hb hts (by decide +kernel) tyJ4 tyJ4_ok nmJ4 hown hK hP hD hS 0 rfl rfl 3 (by decide) (hts (.fieldLink RJ5 79 "java/lang/AbstractStringBuilder" "count" "I") (by decide +kernel)) (fun _ h9 => h9) rfl (by decide +kernel) rfl rfl (Nat.le_of_ble_eq_true rfl) dJ5_append_c97b9_50 (fun H locs hP hD hS => ?_)
  have hP : va_P D vwCl [(h, .inr (1, [.ref d2_2, .int 0, .int ml, .int (nI (n + 2))])), (d2_2, .inl (cA2_3, (zz_cap (n + 2) k), .inl f2_8))] H := hP
  have hD : va_D A [(h, .inr (1, [.ref d2_2, .int 0, .int ml, .int (nI (n + 2))])), (d2_2, .inl (cA2_3, (zz_cap (n + 2) k), .inl f2_8))] := hD
  refine lv_aload_n hx hb dJ5_append_c97b9_53 rfl (lv_at hl 2 rfl) ?_
  have hP9 := hP.sub (ws' := [(h, .inr (1, [.ref d2_2, .int 0, .int ml, .int (nI (n + 2))])), (d2_2, .inl (cA2_3, (zz_cap (n + 2) k), .inl f2_8))]) [0, 1] rfl
  have hD9 := hD.sub (ws' := [(h, .inr (1, [.ref d2_2, .int 0, .int ml, .int (nI (n + 2))])), (d2_2, .inl (cA2_3, (zz_cap (n + 2) k), .inl f2_8))]) [0, 1] (by decide) rfl
  have hK9 := hK.sub (tys' := [(cA2_3, .byte)]) [1] rfl
  refine W.widen (k := 1) (n := 1500) (by show 0 + 0 + 1 + 0 + 0 ≤ 1; omega) (by show 0 + 0 + 1500 + 0 + 0 ≤ 1500; omega) ?_
  exact W.aret (v := .ref h) hx hb hr (Or.inl ⟨_, rfl⟩) (Or.inr ⟨_, rfl⟩) (zz_end hP9 hD9 hK9 hS (⟨_, _, _, h_9, rfl, rfl, rfl⟩)) hS.2.2 dJ5_append_c97b9_54
set_option maxHeartbeats 4000000 in
set_option maxRecDepth 100000 in
theorem k_J4_append_bf812 (l : Launch) (D : va_G) (h : Nat) (d : Nat) (ml : Int32) (n : Nat) (k : Nat) (f : Nat → Int32) (cB : ClassId) (x : Nat) (hx1 : 10 ≤ x) (hx2 : x < 100) (hn : n + 2 ≤ 400) (hk : k ≤ 1500) (hf : sb_Fit f) : zz_M l yJ4_append_bf812 wsJ4_append_bf812 ({ frames := 6, cells := 1, slots := 1500, locals := 3400 }) D [.ref h, .int (nI x)] [(cB, .byte)] [(h, .inr (1, [.ref d, .int 0, .int ml, .int (nI n)])), (d, .inl (cB, k, .inl f))] (fun A U => zz_G A U) (fun H0 H1 v w t => ∃ d2 : Nat, ∃ cA2 : ClassId, ∃ f2 : Nat → Int32, sb_Fit f2 ∧ v = some (.ref h) ∧ w = [(h, .inr (1, [.ref d2, .int 0, .int ml, .int (nI (n + 2))])), (d2, .inl (cA2, (zz_cap (n + 2) k), .inl f2))] ∧ t = [(cA2, .byte)]) := by
  refine zz_M.mk (cc := cJ4_append_bf812) (maxL := 2) (ret := (some (.object "java/lang/StringBuilder"))) (by decide) rfl (Nat.le_of_ble_eq_true rfl) ?_
  intro p0 e0 s mt0 bl0 meth0 cd0 ls hC hname hP hK hD hX hl
  obtain ⟨hx, hb, hml, hr, hown, hts, hlocks⟩ := hC
  have hX0 := hX
  generalize hAe : va_A [(h, .inr (1, [.ref d, .int 0, .int ml, .int (nI n)])), (d, .inl (cB, k, .inl f))] s.heap.size = A at *
  have hA : ∀ q : Nat, s.heap.size ≤ q → A q := fun q h => by rw [← hAe]; exact Or.inr h
  obtain ⟨H, hHs⟩ : ∃ z : Heap, z = s.heap := ⟨_, rfl⟩
  rw [← hHs] at hP ⊢
  have hS : va_S A s.heap H [] := by rw [hHs]; exact va_S.rf
  have hl : lv_has ls 2 [(0, .ref h), (1, .int (nI x))] := hl
  refine lv_aload_n hx hb dJ4_append_bf812_0 rfl (lv_at hl 0 rfl) ?_
  refine lv_iload_n hx hb dJ4_append_bf812_1 rfl (lv_at hl 1 rfl) ?_
  have hFc := va_free (wc := [(h, .inr (1, [.ref d, .int 0, .int ml, .int (nI n)])), (d, .inl (cB, k, .inl f))]) hD hS hA [0, 1] rfl
  have hO0 := zz_out zz_St_G hX0 hS hFc
  refine zz_after (wr := []) (va_runSU (As := [.int (nI x)]) (rest := []) (hK.1 1 _ rfl).2 ⟨hx, hb, hml, hown, hts⟩ ((k_J5_append_c97b9 l D h d ml n k f cB x (hx1) (hx2) (hn) (hk) (hf)) H.size) (va_cwSU 1 hts gJ4_append_bf812_J5_append_c97b9_s53 rfl rfl rfl (by decide +kernel) ⟨Nat.le_of_ble_eq_true rfl, Nat.le_of_ble_eq_true rfl⟩) (zz_pV (zz_pre (av := [.ref h, .int (nI x)]) (tyc := [(cB, .byte)]) (wc := [(h, .inr (1, [.ref d, .int 0, .int ml, .int (nI n)])), (d, .inl (cB, k, .inl f))]) (X := fun _ _ => True) (Xc := (fun A U => zz_G A U)) hP hD hK hS [0, 1] [0] rfl (by decide) rfl zz_St_G (fun U h1 h2 => hO0 U h1 h2)) (va_recv hK hP (ci := 1) (q0 := 0) rfl rfl)) rfl rfl hl.1 rfl (lv_room (Nat.le_of_ble_eq_true rfl)) dJ4_append_bf812_2 ⟨by show 0 + 1 ≤ 1; omega, by show 0 + 1500 ≤ 1500; omega⟩) hP hD hK hS hFc [0, 1] [] rfl rfl (by decide) (by decide) (fun v w1 ty1 H1 locs hq9 hz9 hk9 hP1 hD1 hK1 hS1 => ?_)
  obtain ⟨d2_1, cA2_2, f2_3, h_4, rfl, rfl, rfl⟩ := hq9
  clear hS hP hD hK hFc hO0
  have hP : va_P D vwCl [(h, .inr (1, [.ref d2_1, .int 0, .int ml, .int (nI (n + 2))])), (d2_1, .inl (cA2_2, (zz_cap (n + 2) k), .inl f2_3))] H1 := hP1
  have hD : va_D A [(h, .inr (1, [.ref d2_1, .int 0, .int ml, .int (nI (n + 2))])), (d2_1, .inl (cA2_2, (zz_cap (n + 2) k), .inl f2_3))] := hD1
  have hK : va_K D vwCl [(cB, .byte), (cA2_2, .byte)] s := hK1
  have hS := hS1
  clear hP1 hD1 hK1 hS1
  obtain ⟨H, rfl⟩ : ∃ z, z = H1 := ⟨_, rfl⟩
  refine W.eq (g2 := F0 mt0 5 ls [.ref h]) rfl ?_
  refine lv_pop hx hb dJ4_append_bf812_5 rfl ?_
  refine lv_aload_n hx hb dJ4_append_bf812_6 rfl (lv_at hl 0 rfl) ?_
  have hP9 := hP.sub (ws' := [(h, .inr (1, [.ref d2_1, .int 0, .int ml, .int (nI (n + 2))])), (d2_1, .inl (cA2_2, (zz_cap (n + 2) k), .inl f2_3))]) [0, 1] rfl
  have hD9 := hD.sub (ws' := [(h, .inr (1, [.ref d2_1, .int 0, .int ml, .int (nI (n + 2))])), (d2_1, .inl (cA2_2, (zz_cap (n + 2) k), .inl f2_3))]) [0, 1] (by decide) rfl
  have hK9 := hK.sub (tys' := [(cA2_2, .byte)]) [1] rfl
  refine W.widen (k := 1) (n := 1500) (by show 0 + 1 ≤ 1; omega) (by show 0 + 1500 ≤ 1500; omega) ?_
  exact W.aret (v := .ref h) hx hb hr (Or.inl ⟨_, rfl⟩) (Or.inr ⟨_, rfl⟩) (zz_end hP9 hD9 hK9 hS (⟨_, _, _, h_4, rfl, rfl, rfl⟩)) hS.2.2 dJ4_append_bf812_7
