set_option maxHeartbeats 4000000 in
set_option maxRecDepth 100000 in
theorem k_J0_coder_7d493 (l : Launch) (D : va_G) (q : Nat) (b : Nat) (n : Nat) (f : Nat → Int32) : zz_M l yJ0_coder_7d493 wsJ0_coder_7d493 ({ frames := 1, cells := 0, slots := 0, locals := 40 }) D [.ref q] [] [] (fun A U => zz_G A U ∧ zz_S q b n f A U) (fun H0 H1 v w t => v = some (.int 0) ∧ w = [] ∧ t = []) := by
  refine zz_M.mk (cc := cJ0_coder_7d493) (maxL := 1) (ret := (some .byte)) (by decide) rfl (Nat.le_of_ble_eq_true rfl) ?_
  intro p0 e0 s mt0 bl0 meth0 cd0 ls hC hname hP hK hD hX hl
  obtain ⟨hx, hb, hml, hr, hown, hts, hlocks⟩ := hC
  obtain ⟨hX0, hX1⟩ := hX
  generalize hAe : va_A [] s.heap.size = A at *
  have hA : ∀ q : Nat, s.heap.size ≤ q → A q := fun q h => by rw [← hAe]; exact Or.inr h
  obtain ⟨H, hHs⟩ : ∃ z : Heap, z = s.heap := ⟨_, rfl⟩
  rw [← hHs] at hP ⊢
  have hS : va_S A s.heap H [] := by rw [hHs]; exact va_S.rf
  have hl : lv_has ls 1 [(0, .ref q)] := hl
  refine va_gets hx hb (hX0.1) hS hown (hts (.fieldLink RJ0 38 "java/lang/String" "COMPACT_STRINGS" "Z") (by decide +kernel)) (fun _ h9 => h9) dJ0_coder_7d493_0 ?_
  refine lv_if_eq (tgt := 13) hx hb dJ0_coder_7d493_3 (by decide) (fun c_1 => absurd c_1 (by decide)) (fun c_1 => ?_)
  refine lv_aload_n hx hb dJ0_coder_7d493_6 rfl (lv_at hl 0 rfl) ?_
  refine vk_getf hx hb hX1.2.1 hS hown (hts (.fieldLink RJ0 15 "java/lang/String" "coder" "B") (by decide +kernel)) (fun _ h9 => h9) dJ0_coder_7d493_7 ?_
  refine lv_goto (tgt := 14) hx hb dJ0_coder_7d493_10 (by decide) ?_
  have hP9 := hP.sub (ws' := []) [] rfl
  have hD9 := hD.sub (ws' := []) [] (by decide) rfl
  have hK9 := hK.sub (tys' := []) [] rfl
  refine W.widen (k := 0) (n := 0) (by show 0 ≤ 0; omega) (by show 0 ≤ 0; omega) ?_
  exact W.zret (v := 0) hx hb hr (rfl) (zz_end hP9 hD9 hK9 hS (⟨rfl, rfl, rfl⟩)) hS.2.2 dJ0_coder_7d493_14
set_option maxHeartbeats 4000000 in
set_option maxRecDepth 100000 in
theorem k_J0_length_8abf5 (l : Launch) (D : va_G) (q : Nat) (b : Nat) (n : Nat) (f : Nat → Int32) : zz_M l yJ0_length_8abf5 wsJ0_length_8abf5 ({ frames := 2, cells := 0, slots := 0, locals := 100 }) D [.ref q] [] [] (fun A U => zz_G A U ∧ zz_S q b n f A U) (fun H0 H1 v w t => v = some (.int (nI n)) ∧ w = [] ∧ t = []) := by
  refine zz_M.mk (cc := cJ0_length_8abf5) (maxL := 1) (ret := (some .int)) (by decide) rfl (Nat.le_of_ble_eq_true rfl) ?_
  intro p0 e0 s mt0 bl0 meth0 cd0 ls hC hname hP hK hD hX hl
  obtain ⟨hx, hb, hml, hr, hown, hts, hlocks⟩ := hC
  obtain ⟨hX0, hX1⟩ := hX
  generalize hAe : va_A [] s.heap.size = A at *
  have hA : ∀ q : Nat, s.heap.size ≤ q → A q := fun q h => by rw [← hAe]; exact Or.inr h
  obtain ⟨H, hHs⟩ : ∃ z : Heap, z = s.heap := ⟨_, rfl⟩
  rw [← hHs] at hP ⊢
  have hS : va_S A s.heap H [] := by rw [hHs]; exact va_S.rf
  have hl : lv_has ls 1 [(0, .ref q)] := hl
  refine lv_aload_n hx hb dJ0_length_8abf5_0 rfl (lv_at hl 0 rfl) ?_
  refine vk_getf hx hb hX1.2.2.1 hS hown (hts (.fieldLink RJ0 9 "java/lang/String" "value" "[B") (by decide +kernel)) (fun _ h9 => h9) dJ0_length_8abf5_1 ?_
  refine va_tlen hx hb hX1.2.2.2.1 hS (v := nI n) rfl dJ0_length_8abf5_4 ?_
  refine lv_aload_n hx hb dJ0_length_8abf5_5 rfl (lv_at hl 0 rfl) ?_
  have hFc := va_free (wc := []) hD hS hA [] rfl
  have hO0 := zz_out zz_St_G hX0 hS hFc
  have hO1 := zz_out (zz_St_S q b n f) hX1 hS hFc
  refine zz_after (wr := []) (va_runV (As := []) (rest := [.int (nI n)]) ⟨hx, hb, hml, hown, hts⟩ ((k_J0_coder_7d493 l D q b n f) H.size) (cwV 0 hts gJ0_length_8abf5_J0_coder_7d493 rfl rfl rfl (by decide +kernel) ⟨Nat.le_of_ble_eq_true rfl, Nat.le_of_ble_eq_true rfl⟩) (zz_pV (zz_pre (av := [.ref q]) (tyc := []) (wc := []) (X := fun _ _ => True) (Xc := (fun A U => zz_G A U ∧ zz_S q b n f A U)) hP hD hK hS [] [] rfl (by decide) rfl (zz_St_and zz_St_G (zz_St_S q b n f)) (fun U h1 h2 => ⟨hO0 U h1 h2, hO1 U h1 h2⟩)) (va_Orecv hX1.1 hS)) rfl rfl hl.1 rfl (lv_room (Nat.le_of_ble_eq_true rfl)) dJ0_length_8abf5_6 ⟨by show 0 + 0 ≤ 0; omega, by show 0 + 0 ≤ 0; omega⟩) hP hD hK hS hFc [] [] rfl rfl (by decide) (by decide) (fun v w1 ty1 H1 locs hq9 hz9 hk9 hP1 hD1 hK1 hS1 => ?_)
  obtain ⟨rfl, rfl, rfl⟩ := hq9
  clear hS hP hD hK hFc hO0 hO1
  have hP : va_P D vwCl [] H1 := hP1
  have hD : va_D A [] := hD1
  have hK : va_K D vwCl [] s := hK1
  have hS := hS1
  clear hP1 hD1 hK1 hS1
  obtain ⟨H, rfl⟩ : ∃ z, z = H1 := ⟨_, rfl⟩
  refine W.eq (g2 := F0 mt0 9 ls [.int 0, .int (nI n)]) rfl ?_
  refine lv_ishr hx hb dJ0_length_8abf5_9 ?_
  refine lv_topi (fun z_1 ez_1 => ?_)
  obtain rfl : z_1 = nI n := ez_1.trans (sb_shr0 _)
  have hP9 := hP.sub (ws' := []) [] rfl
  have hD9 := hD.sub (ws' := []) [] (by decide) rfl
  have hK9 := hK.sub (tys' := []) [] rfl
  refine W.widen (k := 0) (n := 0) (by show 0 + 0 ≤ 0; omega) (by show 0 + 0 ≤ 0; omega) ?_
  exact W.iret (v := nI n) hx hb hr (zz_end hP9 hD9 hK9 hS (⟨rfl, rfl, rfl⟩)) hS.2.2 dJ0_length_8abf5_10
set_option maxHeartbeats 4000000 in
set_option maxRecDepth 100000 in
theorem k_isEmpty_0 (l : Launch) (D : va_G) (q : Nat) (b : Nat) (n : Nat) (f : Nat → Int32) (hn : n = 0) : zz_M l yJ0_isEmpty_aae02 wsJ0_isEmpty_aae02 ({ frames := 1, cells := 0, slots := 0, locals := 40 }) D [.ref q] [] [] (fun A U => zz_S q b n f A U) (fun H0 H1 v w t => v = some (.int 1) ∧ w = [] ∧ t = []) := by
  refine zz_M.mk (cc := cJ0_isEmpty_aae02) (maxL := 1) (ret := (some .boolean)) (by decide) rfl (Nat.le_of_ble_eq_true rfl) ?_
  intro p0 e0 s mt0 bl0 meth0 cd0 ls hC hname hP hK hD hX hl
  obtain ⟨hx, hb, hml, hr, hown, hts, hlocks⟩ := hC
  have hX0 := hX
  generalize hAe : va_A [] s.heap.size = A at *
  have hA : ∀ q : Nat, s.heap.size ≤ q → A q := fun q h => by rw [← hAe]; exact Or.inr h
  obtain ⟨H, hHs⟩ : ∃ z : Heap, z = s.heap := ⟨_, rfl⟩
  rw [← hHs] at hP ⊢
  have hS : va_S A s.heap H [] := by rw [hHs]; exact va_S.rf
  have hl : lv_has ls 1 [(0, .ref q)] := hl
  refine lv_aload_n hx hb dJ0_isEmpty_aae02_0 rfl (lv_at hl 0 rfl) ?_
  refine vk_getf hx hb hX0.2.2.1 hS hown (hts (.fieldLink RJ0 9 "java/lang/String" "value" "[B") (by decide +kernel)) (fun _ h9 => h9) dJ0_isEmpty_aae02_1 ?_
  refine va_tlen hx hb hX0.2.2.2.1 hS (v := nI n) rfl dJ0_isEmpty_aae02_4 ?_
  refine lv_if_ne (tgt := 12) hx hb dJ0_isEmpty_aae02_5 (by decide) (fun c_1 => absurd (by rw [hn]; rfl) c_1) (fun c_1 => ?_)
  refine lv_iconst (v := 1) hx hb dJ0_isEmpty_aae02_8 (by decide) ?_
  refine lv_goto (tgt := 13) hx hb dJ0_isEmpty_aae02_9 (by decide) ?_
  have hP9 := hP.sub (ws' := []) [] rfl
  have hD9 := hD.sub (ws' := []) [] (by decide) rfl
  have hK9 := hK.sub (tys' := []) [] rfl
  refine W.widen (k := 0) (n := 0) (by show 0 ≤ 0; omega) (by show 0 ≤ 0; omega) ?_
  exact W.zret (v := 1) hx hb hr (rfl) (zz_end hP9 hD9 hK9 hS (⟨rfl, rfl, rfl⟩)) hS.2.2 dJ0_isEmpty_aae02_13
set_option maxHeartbeats 4000000 in
set_option maxRecDepth 100000 in
theorem k_isEmpty_1 (l : Launch) (D : va_G) (q : Nat) (b : Nat) (n : Nat) (f : Nat → Int32) (hn : 0 < n) (hn2 : n < 2 ^ 31) : zz_M l yJ0_isEmpty_aae02 wsJ0_isEmpty_aae02 ({ frames := 1, cells := 0, slots := 0, locals := 40 }) D [.ref q] [] [] (fun A U => zz_S q b n f A U) (fun H0 H1 v w t => v = some (.int 0) ∧ w = [] ∧ t = []) := by
  refine zz_M.mk (cc := cJ0_isEmpty_aae02) (maxL := 1) (ret := (some .boolean)) (by decide) rfl (Nat.le_of_ble_eq_true rfl) ?_
  intro p0 e0 s mt0 bl0 meth0 cd0 ls hC hname hP hK hD hX hl
  obtain ⟨hx, hb, hml, hr, hown, hts, hlocks⟩ := hC
  have hX0 := hX
  generalize hAe : va_A [] s.heap.size = A at *
  have hA : ∀ q : Nat, s.heap.size ≤ q → A q := fun q h => by rw [← hAe]; exact Or.inr h
  obtain ⟨H, hHs⟩ : ∃ z : Heap, z = s.heap := ⟨_, rfl⟩
  rw [← hHs] at hP ⊢
  have hS : va_S A s.heap H [] := by rw [hHs]; exact va_S.rf
  have hl : lv_has ls 1 [(0, .ref q)] := hl
  refine lv_aload_n hx hb dJ0_isEmpty_aae02_0 rfl (lv_at hl 0 rfl) ?_
  refine vk_getf hx hb hX0.2.2.1 hS hown (hts (.fieldLink RJ0 9 "java/lang/String" "value" "[B") (by decide +kernel)) (fun _ h9 => h9) dJ0_isEmpty_aae02_1 ?_
  refine va_tlen hx hb hX0.2.2.2.1 hS (v := nI n) rfl dJ0_isEmpty_aae02_4 ?_
  refine lv_if_ne (tgt := 12) hx hb dJ0_isEmpty_aae02_5 (by decide) (fun c_1 => ?_) (fun c_1 => absurd c_1 (nI_ne0 hn hn2))
  refine lv_iconst (v := 0) hx hb dJ0_isEmpty_aae02_12 (by decide) ?_
  have hP9 := hP.sub (ws' := []) [] rfl
  have hD9 := hD.sub (ws' := []) [] (by decide) rfl
  have hK9 := hK.sub (tys' := []) [] rfl
  refine W.widen (k := 0) (n := 0) (by show 0 ≤ 0; omega) (by show 0 ≤ 0; omega) ?_
  exact W.zret (v := 0) hx hb hr (rfl) (zz_end hP9 hD9 hK9 hS (⟨rfl, rfl, rfl⟩)) hS.2.2 dJ0_isEmpty_aae02_13
set_option maxHeartbeats 4000000 in
set_option maxRecDepth 100000 in
theorem k_J5_isLatin1_aae02 (l : Launch) (D : va_G) (h : Nat) (d : Nat) (ml : Int32) (n : Nat) (k : Nat) (f : Nat → Int32) (cB : ClassId) : zz_M l yJ5_isLatin1_aae02 wsJ5_isLatin1_aae02 ({ frames := 1, cells := 0, slots := 0, locals := 40 }) D [.ref h] [(cB, .byte)] [(h, .inr (1, [.ref d, .int 0, .int ml, .int (nI n)])), (d, .inl (cB, k, .inl f))] (fun A U => zz_G A U) (fun H0 H1 v w t => v = some (.int 1) ∧ w = [(h, .inr (1, [.ref d, .int 0, .int ml, .int (nI n)])), (d, .inl (cB, k, .inl f))] ∧ t = [(cB, .byte)]) := by
  refine zz_M.mk (cc := cJ5_isLatin1_aae02) (maxL := 1) (ret := (some .boolean)) (by decide) rfl (Nat.le_of_ble_eq_true rfl) ?_
  intro p0 e0 s mt0 bl0 meth0 cd0 ls hC hname hP hK hD hX hl
  obtain ⟨hx, hb, hml, hr, hown, hts, hlocks⟩ := hC
  have hX0 := hX
  generalize hAe : va_A [(h, .inr (1, [.ref d, .int 0, .int ml, .int (nI n)])), (d, .inl (cB, k, .inl f))] s.heap.size = A at *
  have hA : ∀ q : Nat, s.heap.size ≤ q → A q := fun q h => by rw [← hAe]; exact Or.inr h
  obtain ⟨H, hHs⟩ : ∃ z : Heap, z = s.heap := ⟨_, rfl⟩
  rw [← hHs] at hP ⊢
  have hS : va_S A s.heap H [] := by rw [hHs]; exact va_S.rf
  have hl : lv_has ls 1 [(0, .ref h)] := hl
  refine va_gets hx hb (hX0.1) hS hown (hts (.fieldLink RJ5 18 "java/lang/String" "COMPACT_STRINGS" "Z") (by decide +kernel)) (fun _ h9 => h9) dJ5_isLatin1_aae02_0 ?_
  refine lv_if_eq (tgt := 17) hx hb dJ5_isLatin1_aae02_3 (by decide) (fun c_1 => absurd c_1 (by decide)) (fun c_1 => ?_)
  refine lv_aload_n hx hb dJ5_isLatin1_aae02_6 rfl (lv_at hl 0 rfl) ?_
  refine va_get (D := D) (ci := 1) (v := .int 0) (C := RJ4) (T := TJ4) (N := 4) hx hb hts (by decide +kernel) hown hK hP 0 rfl rfl 1 (by decide) (hts (.fieldLink RJ5 22 "java/lang/AbstractStringBuilder" "coder" "B") (by decide +kernel)) (fun _ h9 => h9) rfl dJ5_isLatin1_aae02_7 ?_
  refine lv_if_ne (tgt := 17) hx hb dJ5_isLatin1_aae02_10 (by decide) (fun c_2 => absurd (rfl) c_2) (fun c_2 => ?_)
  refine lv_iconst (v := 1) hx hb dJ5_isLatin1_aae02_13 (by decide) ?_
  refine lv_goto (tgt := 18) hx hb dJ5_isLatin1_aae02_14 (by decide) ?_
  have hP9 := hP.sub (ws' := [(h, .inr (1, [.ref d, .int 0, .int ml, .int (nI n)])), (d, .inl (cB, k, .inl f))]) [0, 1] rfl
  have hD9 := hD.sub (ws' := [(h, .inr (1, [.ref d, .int 0, .int ml, .int (nI n)])), (d, .inl (cB, k, .inl f))]) [0, 1] (by decide) rfl
  have hK9 := hK.sub (tys' := [(cB, .byte)]) [0] rfl
  refine W.widen (k := 0) (n := 0) (by show 0 ≤ 0; omega) (by show 0 ≤ 0; omega) ?_
  exact W.zret (v := 1) hx hb hr (rfl) (zz_end hP9 hD9 hK9 hS (⟨rfl, rfl, rfl⟩)) hS.2.2 dJ5_isLatin1_aae02_18
set_option maxHeartbeats 4000000 in
set_option maxRecDepth 100000 in
theorem k_J5_getValue_6d5f1 (l : Launch) (D : va_G) (h : Nat) (d : Nat) (ml : Int32) (n : Nat) (k : Nat) (f : Nat → Int32) (cB : ClassId) : zz_M l yJ5_getValue_6d5f1 wsJ5_getValue_6d5f1 ({ frames := 1, cells := 0, slots := 0, locals := 40 }) D [.ref h] [(cB, .byte)] [(h, .inr (1, [.ref d, .int 0, .int ml, .int (nI n)])), (d, .inl (cB, k, .inl f))] (fun _ _ => True) (fun H0 H1 v w t => v = some (.ref d) ∧ w = [(h, .inr (1, [.ref d, .int 0, .int ml, .int (nI n)])), (d, .inl (cB, k, .inl f))] ∧ t = [(cB, .byte)]) := by
  refine zz_M.mk (cc := cJ5_getValue_6d5f1) (maxL := 1) (ret := (some (.array .byte))) (by decide) rfl (Nat.le_of_ble_eq_true rfl) ?_
  intro p0 e0 s mt0 bl0 meth0 cd0 ls hC hname hP hK hD hX hl
  obtain ⟨hx, hb, hml, hr, hown, hts, hlocks⟩ := hC
  generalize hAe : va_A [(h, .inr (1, [.ref d, .int 0, .int ml, .int (nI n)])), (d, .inl (cB, k, .inl f))] s.heap.size = A at *
  have hA : ∀ q : Nat, s.heap.size ≤ q → A q := fun q h => by rw [← hAe]; exact Or.inr h
  obtain ⟨H, hHs⟩ : ∃ z : Heap, z = s.heap := ⟨_, rfl⟩
  rw [← hHs] at hP ⊢
  have hS : va_S A s.heap H [] := by rw [hHs]; exact va_S.rf
  have hl : lv_has ls 1 [(0, .ref h)] := hl
  refine lv_aload_n hx hb dJ5_getValue_6d5f1_0 rfl (lv_at hl 0 rfl) ?_
  refine va_get (D := D) (ci := 1) (v := .ref d) (C := RJ4) (T := TJ4) (N := 4) hx hb hts (by decide +kernel) hown hK hP 0 rfl rfl 0 (by decide) (hts (.fieldLink RJ5 15 "java/lang/AbstractStringBuilder" "value" "[B") (by decide +kernel)) (fun _ h9 => h9) rfl dJ5_getValue_6d5f1_1 ?_
  have hP9 := hP.sub (ws' := [(h, .inr (1, [.ref d, .int 0, .int ml, .int (nI n)])), (d, .inl (cB, k, .inl f))]) [0, 1] rfl
  have hD9 := hD.sub (ws' := [(h, .inr (1, [.ref d, .int 0, .int ml, .int (nI n)])), (d, .inl (cB, k, .inl f))]) [0, 1] (by decide) rfl
  have hK9 := hK.sub (tys' := [(cB, .byte)]) [0] rfl
  refine W.widen (k := 0) (n := 0) (by show 0 ≤ 0; omega) (by show 0 ≤ 0; omega) ?_
  exact W.aret (v := .ref d) hx hb hr (Or.inr ⟨_, rfl⟩) (Or.inr ⟨_, rfl⟩) (zz_end hP9 hD9 hK9 hS (⟨rfl, rfl, rfl⟩)) hS.2.2 dJ5_getValue_6d5f1_4
set_option maxHeartbeats 4000000 in
set_option maxRecDepth 100000 in
theorem k_J5_length_8abf5 (l : Launch) (D : va_G) (h : Nat) (d : Nat) (ml : Int32) (n : Nat) (k : Nat) (f : Nat → Int32) (cB : ClassId) : zz_M l yJ5_length_8abf5 wsJ5_length_8abf5 ({ frames := 1, cells := 0, slots := 0, locals := 40 }) D [.ref h] [(cB, .byte)] [(h, .inr (1, [.ref d, .int 0, .int ml, .int (nI n)])), (d, .inl (cB, k, .inl f))] (fun _ _ => True) (fun H0 H1 v w t => v = some (.int (nI n)) ∧ w = [(h, .inr (1, [.ref d, .int 0, .int ml, .int (nI n)])), (d, .inl (cB, k, .inl f))] ∧ t = [(cB, .byte)]) := by
  refine zz_M.mk (cc := cJ5_length_8abf5) (maxL := 1) (ret := (some .int)) (by decide) rfl (Nat.le_of_ble_eq_true rfl) ?_
  intro p0 e0 s mt0 bl0 meth0 cd0 ls hC hname hP hK hD hX hl
  obtain ⟨hx, hb, hml, hr, hown, hts, hlocks⟩ := hC
  generalize hAe : va_A [(h, .inr (1, [.ref d, .int 0, .int ml, .int (nI n)])), (d, .inl (cB, k, .inl f))] s.heap.size = A at *
  have hA : ∀ q : Nat, s.heap.size ≤ q → A q := fun q h => by rw [← hAe]; exact Or.inr h
  obtain ⟨H, hHs⟩ : ∃ z : Heap, z = s.heap := ⟨_, rfl⟩
  rw [← hHs] at hP ⊢
  have hS : va_S A s.heap H [] := by rw [hHs]; exact va_S.rf
  have hl : lv_has ls 1 [(0, .ref h)] := hl
  refine lv_aload_n hx hb dJ5_length_8abf5_0 rfl (lv_at hl 0 rfl) ?_
  refine va_get (D := D) (ci := 1) (v := .int (nI n)) (C := RJ4) (T := TJ4) (N := 4) hx hb hts (by decide +kernel) hown hK hP 0 rfl rfl 3 (by decide) (hts (.fieldLink RJ5 79 "java/lang/AbstractStringBuilder" "count" "I") (by decide +kernel)) (fun _ h9 => h9) rfl dJ5_length_8abf5_1 ?_
  have hP9 := hP.sub (ws' := [(h, .inr (1, [.ref d, .int 0, .int ml, .int (nI n)])), (d, .inl (cB, k, .inl f))]) [0, 1] rfl
  have hD9 := hD.sub (ws' := [(h, .inr (1, [.ref d, .int 0, .int ml, .int (nI n)])), (d, .inl (cB, k, .inl f))]) [0, 1] (by decide) rfl
  have hK9 := hK.sub (tys' := [(cB, .byte)]) [0] rfl
  refine W.widen (k := 0) (n := 0) (by show 0 ≤ 0; omega) (by show 0 ≤ 0; omega) ?_
  exact W.iret (v := nI n) hx hb hr (zz_end hP9 hD9 hK9 hS (⟨rfl, rfl, rfl⟩)) hS.2.2 dJ5_length_8abf5_4
set_option maxHeartbeats 4000000 in
set_option maxRecDepth 100000 in
theorem k_J4_length_8abf5 (l : Launch) (D : va_G) (h : Nat) (d : Nat) (ml : Int32) (n : Nat) (k : Nat) (f : Nat → Int32) (cB : ClassId) : zz_M l yJ4_length_8abf5 wsJ4_length_8abf5 ({ frames := 2, cells := 0, slots := 0, locals := 100 }) D [.ref h] [(cB, .byte)] [(h, .inr (1, [.ref d, .int 0, .int ml, .int (nI n)])), (d, .inl (cB, k, .inl f))] (fun _ _ => True) (fun H0 H1 v w t => v = some (.int (nI n)) ∧ w = [(h, .inr (1, [.ref d, .int 0, .int ml, .int (nI n)])), (d, .inl (cB, k, .inl f))] ∧ t = [(cB, .byte)]) := by
  refine zz_M.mk (cc := cJ4_length_8abf5) (maxL := 1) (ret := (some .int)) (by decide) rfl (Nat.le_of_ble_eq_true rfl) ?_
  intro p0 e0 s mt0 bl0 meth0 cd0 ls hC hname hP hK hD hX hl
  obtain ⟨hx, hb, hml, hr, hown, hts, hlocks⟩ := hC
  generalize hAe : va_A [(h, .inr (1, [.ref d, .int 0, .int ml, .int (nI n)])), (d, .inl (cB, k, .inl f))] s.heap.size = A at *
  have hA : ∀ q : Nat, s.heap.size ≤ q → A q := fun q h => by rw [← hAe]; exact Or.inr h
  obtain ⟨H, hHs⟩ : ∃ z : Heap, z = s.heap := ⟨_, rfl⟩
  rw [← hHs] at hP ⊢
  have hS : va_S A s.heap H [] := by rw [hHs]; exact va_S.rf
  have hl : lv_has ls 1 [(0, .ref h)] := hl
  refine lv_aload_n hx hb dJ4_length_8abf5_0 rfl (lv_at hl 0 rfl) ?_
  have hFc := va_free (wc := [(h, .inr (1, [.ref d, .int 0, .int ml, .int (nI n)])), (d, .inl (cB, k, .inl f))]) hD hS hA [0, 1] rfl
  refine zz_after (wr := []) (va_runSU (As := []) (rest := []) (hK.1 1 _ rfl).2 ⟨hx, hb, hml, hown, hts⟩ ((k_J5_length_8abf5 l D h d ml n k f cB) H.size) (va_cwSU 0 hts gJ4_length_8abf5_J5_length_8abf5_s343 rfl rfl rfl (by decide +kernel) ⟨Nat.le_of_ble_eq_true rfl, Nat.le_of_ble_eq_true rfl⟩) (zz_pV (zz_pre (av := [.ref h]) (tyc := [(cB, .byte)]) (wc := [(h, .inr (1, [.ref d, .int 0, .int ml, .int (nI n)])), (d, .inl (cB, k, .inl f))]) (X := fun _ _ => True) (Xc := (fun _ _ => True)) hP hD hK hS [0, 1] [0] rfl (by decide) rfl zz_St_tt (fun _ _ _ => trivial)) (va_recv hK hP (ci := 1) (q0 := 0) rfl rfl)) rfl rfl hl.1 rfl (lv_room (Nat.le_of_ble_eq_true rfl)) dJ4_length_8abf5_1 ⟨by show 0 + 0 ≤ 0; omega, by show 0 + 0 ≤ 0; omega⟩) hP hD hK hS hFc [0, 1] [] rfl rfl (by decide) (by decide) (fun v w1 ty1 H1 locs hq9 hz9 hk9 hP1 hD1 hK1 hS1 => ?_)
  obtain ⟨rfl, rfl, rfl⟩ := hq9
  clear hS hP hD hK hFc
  have hP : va_P D vwCl [(h, .inr (1, [.ref d, .int 0, .int ml, .int (nI n)])), (d, .inl (cB, k, .inl f))] H1 := hP1
  have hD : va_D A [(h, .inr (1, [.ref d, .int 0, .int ml, .int (nI n)])), (d, .inl (cB, k, .inl f))] := hD1
  have hK : va_K D vwCl [(cB, .byte), (cB, .byte)] s := hK1
  have hS := hS1
  clear hP1 hD1 hK1 hS1
  obtain ⟨H, rfl⟩ : ∃ z, z = H1 := ⟨_, rfl⟩
  refine W.eq (g2 := F0 mt0 4 ls [.int (nI n)]) rfl ?_
  have hP9 := hP.sub (ws' := [(h, .inr (1, [.ref d, .int 0, .int ml, .int (nI n)])), (d, .inl (cB, k, .inl f))]) [0, 1] rfl
  have hD9 := hD.sub (ws' := [(h, .inr (1, [.ref d, .int 0, .int ml, .int (nI n)])), (d, .inl (cB, k, .inl f))]) [0, 1] (by decide) rfl
  have hK9 := hK.sub (tys' := [(cB, .byte)]) [0] rfl
  refine W.widen (k := 0) (n := 0) (by show 0 + 0 ≤ 0; omega) (by show 0 + 0 ≤ 0; omega) ?_
  exact W.iret (v := nI n) hx hb hr (zz_end hP9 hD9 hK9 hS (⟨rfl, rfl, rfl⟩)) hS.2.2 dJ4_length_8abf5_4
