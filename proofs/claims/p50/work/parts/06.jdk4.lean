set_option maxHeartbeats 4000000 in
set_option maxRecDepth 100000 in
theorem k_J5_init_d00df (l : Launch) (D : va_G) (h : Nat) : zz_M l yJ5_init_d00df wsJ5_init_d00df ({ frames := 2, cells := 1, slots := 16, locals := 100 }) D [.ref h, .int 16] [] [(h, .inr (1, [.null, .int 0, .int 0, .int 0]))] (fun A U => zz_G A U) (fun H0 H1 v w t => ∃ d2 : Nat, ∃ cA2 : ClassId, v = none ∧ w = [(h, .inr (1, [.ref d2, .int 0, .int 0, .int (nI 0)])), (d2, .inl (cA2, 16, .inl (fun _ => 0)))] ∧ t = [(cA2, .byte)]) := by
  refine zz_M.mk (cc := cJ5_init_d00df) (maxL := 2) (ret := none) (by decide) rfl (Nat.le_of_ble_eq_true rfl) ?_
  intro p0 e0 s mt0 bl0 meth0 cd0 ls hC hname hP hK hD hX hl
  obtain ⟨hx, hb, hml, hr, hown, hts, hlocks⟩ := hC
  have hX0 := hX
  generalize hAe : va_A [(h, .inr (1, [.null, .int 0, .int 0, .int 0]))] s.heap.size = A at *
  have hA : ∀ q : Nat, s.heap.size ≤ q → A q := fun q h => by rw [← hAe]; exact Or.inr h
  obtain ⟨H, hHs⟩ : ∃ z : Heap, z = s.heap := ⟨_, rfl⟩
  rw [← hHs] at hP ⊢
  have hS : va_S A s.heap H [] := by rw [hHs]; exact va_S.rf
  have hl : lv_has ls 2 [(0, .ref h), (1, .int 16)] := hl
  refine lv_aload_n hx hb dJ5_init_d00df_0 rfl (lv_at hl 0 rfl) ?_
  refine W.objInit hx hb hown (hts (.methodLink RJ5 3 objectInit) (by decide +kernel)) (hts (.instanceMethod objectInit) (by decide +kernel)) (hts (.code objectInit ⟨#[0xb1]⟩ 1 none) (by decide +kernel)) rfl (by rw [hml]; exact hl.1) rfl dJ5_init_d00df_1 (Nat.le_of_ble_eq_true rfl) (Nat.le_of_ble_eq_true rfl) ?_
  refine W.eq (g2 := F0 mt0 4 ls []) rfl ?_
  refine va_gets hx hb (hX0.1) hS hown (hts (.fieldLink RJ5 18 "java/lang/String" "COMPACT_STRINGS" "Z") (by decide +kernel)) (fun _ h9 => h9) dJ5_init_d00df_4 ?_
  refine lv_if_eq (tgt := 25) hx hb dJ5_init_d00df_7 (by decide) (fun c_1 => absurd c_1 (by decide)) (fun c_1 => ?_)
  refine lv_aload_n hx hb dJ5_init_d00df_10 rfl (lv_at hl 0 rfl) ?_
  refine lv_iload_n hx hb dJ5_init_d00df_11 rfl (lv_at hl 1 rfl) ?_
  refine va_newa (atype := .byte) hx hb (hts (.arrayClass .byte) (by decide +kernel)) rfl hK hP hD hS hA (N' := 16) (a0 := (16, .inl (fun _ => 0))) (fun _ => rfl) (by decide) (by decide) (by decide) (by show 0 + 1 ≤ 1; omega) (by show 0 + 16 ≤ 16; omega) dJ5_init_d00df_12 (fun q_2 cA_3 H hK hP hD hS => ?_)
  have hK : va_K D vwCl [(cA_3, .byte)] s := hK
  have hP : va_P D vwCl [(h, .inr (1, [.null, .int 0, .int 0, .int 0])), (q_2, .inl (cA_3, 16, .inl (fun _ => 0)))] H := hP
  have hD : va_D A [(h, .inr (1, [.null, .int 0, .int 0, .int 0])), (q_2, .inl (cA_3, 16, .inl (fun _ => 0)))] := hD
  refine va_put (D := D) (ci := 1) (v := .ref q_2) (ty := .array .byte) (C := RJ4) (T := TJ4) (N := 4) hx hb hts (by decide +kernel) tyJ4 tyJ4_ok nmJ4 hown hK hP hD hS 0 rfl rfl 0 (by decide) (hts (.fieldLink RJ5 15 "java/lang/AbstractStringBuilder" "value" "[B") (by decide +kernel)) (fun _ h9 => h9) rfl (by decide +kernel) rfl rfl (Nat.le_of_ble_eq_true rfl) dJ5_init_d00df_14 (fun H locs hP hD hS => ?_)
  have hP : va_P D vwCl [(h, .inr (1, [.ref q_2, .int 0, .int 0, .int 0])), (q_2, .inl (cA_3, 16, .inl (fun _ => 0)))] H := hP
  have hD : va_D A [(h, .inr (1, [.ref q_2, .int 0, .int 0, .int 0])), (q_2, .inl (cA_3, 16, .inl (fun _ => 0)))] := hD
  refine lv_aload_n hx hb dJ5_init_d00df_17 rfl (lv_at hl 0 rfl) ?_
  refine lv_iconst (v := 0) hx hb dJ5_init_d00df_18 (by decide) ?_
  refine va_put (D := D) (ci := 1) (v := .int 0) (ty := .byte) (C := RJ4) (T := TJ4) (N := 4) hx hb hts (by decide +kernel) tyJ4 tyJ4_ok nmJ4 hown hK hP hD hS 0 rfl rfl 1 (by decide) (hts (.fieldLink RJ5 22 "java/lang/AbstractStringBuilder" "coder" "B") (by decide +kernel)) (fun _ h9 => h9) rfl (by decide +kernel) rfl rfl (Nat.le_of_ble_eq_true rfl) dJ5_init_d00df_19 (fun H locs hP hD hS => ?_)
  have hP : va_P D vwCl [(h, .inr (1, [.ref q_2, .int 0, .int 0, .int 0])), (q_2, .inl (cA_3, 16, .inl (fun _ => 0)))] H := hP
  have hD : va_D A [(h, .inr (1, [.ref q_2, .int 0, .int 0, .int 0])), (q_2, .inl (cA_3, 16, .inl (fun _ => 0)))] := hD
  refine lv_goto (tgt := 38) hx hb dJ5_init_d00df_22 (by decide) ?_
  have hP9 := hP.sub (ws' := [(h, .inr (1, [.ref q_2, .int 0, .int 0, .int 0])), (q_2, .inl (cA_3, 16, .inl (fun _ => 0)))]) [0, 1] rfl
  have hD9 := hD.sub (ws' := [(h, .inr (1, [.ref q_2, .int 0, .int 0, .int 0])), (q_2, .inl (cA_3, 16, .inl (fun _ => 0)))]) [0, 1] (by decide) rfl
  have hK9 := hK.sub (tys' := [(cA_3, .byte)]) [0] rfl
  refine W.widen (k := 1) (n := 16) (by show 0 + 1 ≤ 1; omega) (by show 0 + 16 ≤ 16; omega) ?_
  exact W.vret hx hb hr (zz_end hP9 hD9 hK9 hS (⟨_, _, rfl, rfl, rfl⟩)) hS.2.2 dJ5_init_d00df_38
set_option maxHeartbeats 4000000 in
set_option maxRecDepth 100000 in
theorem k_J4_init_da8c8 (l : Launch) (D : va_G) (h : Nat) : zz_M l yJ4_init_da8c8 wsJ4_init_da8c8 ({ frames := 3, cells := 1, slots := 16, locals := 200 }) D [.ref h] [] [(h, .inr (1, [.null, .int 0, .int 0, .int 0]))] (fun A U => zz_G A U) (fun H0 H1 v w t => ∃ d2 : Nat, ∃ cA2 : ClassId, v = none ∧ w = [(h, .inr (1, [.ref d2, .int 0, .int 0, .int (nI 0)])), (d2, .inl (cA2, 16, .inl (fun _ => 0)))] ∧ t = [(cA2, .byte)]) := by
  refine zz_M.mk (cc := cJ4_init_da8c8) (maxL := 1) (ret := none) (by decide) rfl (Nat.le_of_ble_eq_true rfl) ?_
  intro p0 e0 s mt0 bl0 meth0 cd0 ls hC hname hP hK hD hX hl
  obtain ⟨hx, hb, hml, hr, hown, hts, hlocks⟩ := hC
  have hX0 := hX
  generalize hAe : va_A [(h, .inr (1, [.null, .int 0, .int 0, .int 0]))] s.heap.size = A at *
  have hA : ∀ q : Nat, s.heap.size ≤ q → A q := fun q h => by rw [← hAe]; exact Or.inr h
  obtain ⟨H, hHs⟩ : ∃ z : Heap, z = s.heap := ⟨_, rfl⟩
  rw [← hHs] at hP ⊢
  have hS : va_S A s.heap H [] := by rw [hHs]; exact va_S.rf
  have hl : lv_has ls 1 [(0, .ref h)] := hl
  refine lv_aload_n hx hb dJ4_init_da8c8_0 rfl (lv_at hl 0 rfl) ?_
  refine lv_bipush (v := 16) hx hb dJ4_init_da8c8_1 (by decide) ?_
  have hFc := va_free (wc := [(h, .inr (1, [.null, .int 0, .int 0, .int 0]))]) hD hS hA [0] rfl
  have hO0 := zz_out zz_St_G hX0 hS hFc
  refine zz_after (wr := []) (va_runI (As := [.int 16]) (rest := []) ⟨hx, hb, hml, hown, hts⟩ ((k_J5_init_d00df l D h) H.size) (cwI 1 hts gJ4_init_da8c8_J5_init_d00df rfl rfl rfl (hts (.initialized RJ5) (by decide +kernel)) (hts (.methodLink RJ4 1 yJ5_init_d00df) (by decide +kernel)) (hts (.instanceMethod yJ5_init_d00df) (by decide +kernel)) rfl (by decide +kernel) ⟨Nat.le_of_ble_eq_true rfl, Nat.le_of_ble_eq_true rfl⟩) (zz_pre (av := [.ref h, .int 16]) (tyc := []) (wc := [(h, .inr (1, [.null, .int 0, .int 0, .int 0]))]) (X := fun _ _ => True) (Xc := (fun A U => zz_G A U)) hP hD hK hS [0] [] rfl (by decide) rfl zz_St_G (fun U h1 h2 => hO0 U h1 h2)) rfl rfl hl.1 rfl (lv_room (Nat.le_of_ble_eq_true rfl)) dJ4_init_da8c8_3 ⟨by show 0 + 1 ≤ 1; omega, by show 0 + 16 ≤ 16; omega⟩) hP hD hK hS hFc [0] [] rfl rfl (by decide) (by decide) (fun v w1 ty1 H1 locs hq9 hz9 hk9 hP1 hD1 hK1 hS1 => ?_)
  obtain ⟨d2_1, cA2_2, rfl, rfl, rfl⟩ := hq9
  clear hS hP hD hK hFc hO0
  have hP : va_P D vwCl [(h, .inr (1, [.ref d2_1, .int 0, .int 0, .int (nI 0)])), (d2_1, .inl (cA2_2, 16, .inl (fun _ => 0)))] H1 := hP1
  have hD : va_D A [(h, .inr (1, [.ref d2_1, .int 0, .int 0, .int (nI 0)])), (d2_1, .inl (cA2_2, 16, .inl (fun _ => 0)))] := hD1
  have hK : va_K D vwCl [(cA2_2, .byte)] s := hK1
  have hS := hS1
  clear hP1 hD1 hK1 hS1
  obtain ⟨H, rfl⟩ : ∃ z, z = H1 := ⟨_, rfl⟩
  refine W.eq (g2 := F0 mt0 6 ls []) rfl ?_
  have hP9 := hP.sub (ws' := [(h, .inr (1, [.ref d2_1, .int 0, .int 0, .int (nI 0)])), (d2_1, .inl (cA2_2, 16, .inl (fun _ => 0)))]) [0, 1] rfl
  have hD9 := hD.sub (ws' := [(h, .inr (1, [.ref d2_1, .int 0, .int 0, .int (nI 0)])), (d2_1, .inl (cA2_2, 16, .inl (fun _ => 0)))]) [0, 1] (by decide) rfl
  have hK9 := hK.sub (tys' := [(cA2_2, .byte)]) [0] rfl
  refine W.widen (k := 1) (n := 16) (by show 0 + 1 ≤ 1; omega) (by show 0 + 16 ≤ 16; omega) ?_
  exact W.vret hx hb hr (zz_end hP9 hD9 hK9 hS (⟨_, _, rfl, rfl, rfl⟩)) hS.2.2 dJ4_init_da8c8_6
set_option maxHeartbeats 4000000 in
set_option maxRecDepth 100000 in
theorem k_J7_checkLength_df160 (l : Launch) (D : va_G) (n : Nat) (hn : n < 2 ^ 31) : zz_M l yJ7_checkLength_df160 wsJ7_checkLength_df160 ({ frames := 1, cells := 0, slots := 0, locals := 60 }) D [.int 0, .int (nI n)] [] [] (fun _ _ => True) (fun H0 H1 v w t => v = none ∧ w = [] ∧ t = []) := by
  refine zz_M.mk (cc := cJ7_checkLength_df160) (maxL := 2) (ret := none) (by decide) rfl (Nat.le_of_ble_eq_true rfl) ?_
  intro p0 e0 s mt0 bl0 meth0 cd0 ls hC hname hP hK hD hX hl
  obtain ⟨hx, hb, hml, hr, hown, hts, hlocks⟩ := hC
  generalize hAe : va_A [] s.heap.size = A at *
  have hA : ∀ q : Nat, s.heap.size ≤ q → A q := fun q h => by rw [← hAe]; exact Or.inr h
  obtain ⟨H, hHs⟩ : ∃ z : Heap, z = s.heap := ⟨_, rfl⟩
  rw [← hHs] at hP ⊢
  have hS : va_S A s.heap H [] := by rw [hHs]; exact va_S.rf
  have hl : lv_has ls 2 [(0, .int 0), (1, .int (nI n))] := hl
  refine lv_iload_n hx hb dJ7_checkLength_df160_0 rfl (lv_at hl 1 rfl) ?_
  refine lv_iload_n hx hb dJ7_checkLength_df160_1 rfl (lv_at hl 0 rfl) ?_
  refine lv_icmp_ge (tgt := 37) hx hb dJ7_checkLength_df160_2 (by decide) (fun c_1 => ?_) (fun c_1 => absurd (nI_pos' hn) c_1)
  have hP9 := hP.sub (ws' := []) [] rfl
  have hD9 := hD.sub (ws' := []) [] (by decide) rfl
  have hK9 := hK.sub (tys' := []) [] rfl
  refine W.widen (k := 0) (n := 0) (by show 0 ≤ 0; omega) (by show 0 ≤ 0; omega) ?_
  exact W.vret hx hb hr (zz_end hP9 hD9 hK9 hS (⟨rfl, rfl, rfl⟩)) hS.2.2 dJ7_checkLength_df160_37
set_option maxHeartbeats 4000000 in
set_option maxRecDepth 100000 in
theorem k_J7_copyOfRangeByte_39247 (l : Launch) (D : va_G) (d : Nat) (k : Nat) (f : Nat → Int32) (cB : ClassId) (n : Nat) (hn : n < k) (hk : k ≤ 1500) (hf : sb_Fit f) : zz_M l yJ7_copyOfRangeByte_39247 wsJ7_copyOfRangeByte_39247 ({ frames := 2, cells := 1, slots := 1500, locals := 3000 }) D [.ref d, .int 0, .int (nI n)] [(cB, .byte)] [(d, .inl (cB, k, .inl f))] (fun _ _ => True) (fun H0 H1 v w t => ∃ q2 : Nat, ∃ cA2 : ClassId, ∃ f2 : Nat → Int32, sb_Fit f2 ∧ v = some (.ref q2) ∧ w = [(d, .inl (cB, k, .inl f)), (q2, .inl (cA2, n, .inl f2))] ∧ t = [(cB, .byte), (cA2, .byte)]) := by
  refine zz_M.mk (cc := cJ7_copyOfRangeByte_39247) (maxL := 5) (ret := (some (.array .byte))) (by decide) rfl (Nat.le_of_ble_eq_true rfl) ?_
  intro p0 e0 s mt0 bl0 meth0 cd0 ls hC hname hP hK hD hX hl
  obtain ⟨hx, hb, hml, hr, hown, hts, hlocks⟩ := hC
  generalize hAe : va_A [(d, .inl (cB, k, .inl f))] s.heap.size = A at *
  have hA : ∀ q : Nat, s.heap.size ≤ q → A q := fun q h => by rw [← hAe]; exact Or.inr h
  obtain ⟨H, hHs⟩ : ∃ z : Heap, z = s.heap := ⟨_, rfl⟩
  rw [← hHs] at hP ⊢
  have hS : va_S A s.heap H [] := by rw [hHs]; exact va_S.rf
  have hl : lv_has ls 5 [(0, .ref d), (1, .int 0), (2, .int (nI n))] := hl
  refine lv_iload_n hx hb dJ7_copyOfRangeByte_39247_0 rfl (lv_at hl 1 rfl) ?_
  refine lv_iload_n hx hb dJ7_copyOfRangeByte_39247_1 rfl (lv_at hl 2 rfl) ?_
  have hFc := va_free (wc := []) hD hS hA [] rfl
  refine zz_after (wr := [(d, .inl (cB, k, .inl f))]) (va_runS (As := [.int 0, .int (nI n)]) (rest := []) ⟨hx, hb, hml, hown, hts⟩ ((k_J7_checkLength_df160 l D n (by omega)) H.size) (va_cwS 2 hts gJ7_copyOfRangeByte_39247_J7_checkLength_df160 rfl rfl rfl (by decide +kernel) ⟨Nat.le_of_ble_eq_true rfl, Nat.le_of_ble_eq_true rfl⟩) (zz_pre (av := [.int 0, .int (nI n)]) (tyc := []) (wc := []) (X := fun _ _ => True) (Xc := (fun _ _ => True)) hP hD hK hS [] [] rfl (by decide) rfl zz_St_tt (fun _ _ _ => trivial)) rfl rfl hl.1 rfl (lv_room (Nat.le_of_ble_eq_true rfl)) dJ7_copyOfRangeByte_39247_2 ⟨by show 0 + 0 ≤ 1; omega, by show 0 + 0 ≤ 1500; omega⟩) hP hD hK hS hFc [] [0] rfl rfl (by decide) (by decide) (fun v w1 ty1 H1 locs hq9 hz9 hk9 hP1 hD1 hK1 hS1 => ?_)
  obtain ⟨rfl, rfl, rfl⟩ := hq9
  clear hS hP hD hK hFc
  have hP : va_P D vwCl [(d, .inl (cB, k, .inl f))] H1 := hP1
  have hD : va_D A [(d, .inl (cB, k, .inl f))] := hD1
  have hK : va_K D vwCl [(cB, .byte)] s := hK1
  have hS := hS1
  clear hP1 hD1 hK1 hS1
  obtain ⟨H, rfl⟩ : ∃ z, z = H1 := ⟨_, rfl⟩
  refine W.eq (g2 := F0 mt0 5 ls []) rfl ?_
  refine lv_iload_n hx hb dJ7_copyOfRangeByte_39247_5 rfl (lv_at hl 2 rfl) ?_
  refine lv_iload_n hx hb dJ7_copyOfRangeByte_39247_6 rfl (lv_at hl 1 rfl) ?_
  refine lv_isub hx hb dJ7_copyOfRangeByte_39247_7 ?_
  refine lv_topi (fun z_1 ez_1 => ?_)
  obtain rfl : z_1 = nI n := ez_1.trans (pk_sub (a := n) (b := 0) (by omega))
  refine lv_istore_n (lv' := [(3, .int (nI n)), (0, .ref d), (1, .int 0), (2, .int (nI n))]) hx hb dJ7_copyOfRangeByte_39247_8 rfl hl (by decide) rfl (fun ls hl => ?_)
  refine lv_iload_n hx hb dJ7_copyOfRangeByte_39247_9 rfl (lv_at hl 0 rfl) ?_
  refine va_newa (atype := .byte) hx hb (hts (.arrayClass .byte) (by decide +kernel)) rfl hK hP hD hS hA (N' := n) (a0 := (n, .inl (fun _ => 0))) (fun _ => rfl) (nI_pos (by omega)) (nI_clamp (by omega)) (by show _ * 1 ≤ _; omega) (by show 0 + 0 + 1 ≤ 1; omega) (by show 0 + 0 + n ≤ 1500; omega) dJ7_copyOfRangeByte_39247_10 (fun q_2 cA_3 H hK hP hD hS => ?_)
  have hK : va_K D vwCl [(cB, .byte), (cA_3, .byte)] s := hK
  have hP : va_P D vwCl [(d, .inl (cB, k, .inl f)), (q_2, .inl (cA_3, n, .inl (fun _ => 0)))] H := hP
  have hD : va_D A [(d, .inl (cB, k, .inl f)), (q_2, .inl (cA_3, n, .inl (fun _ => 0)))] := hD
  refine lv_astore (lv' := [(4, .ref q_2), (3, .int (nI n)), (0, .ref d), (1, .int 0), (2, .int (nI n))]) hx hb dJ7_copyOfRangeByte_39247_12 hl (by decide) rfl (fun ls hl => ?_)
  refine lv_aload_n hx hb dJ7_copyOfRangeByte_39247_14 rfl (lv_at hl 2 rfl) ?_
  refine lv_iload_n hx hb dJ7_copyOfRangeByte_39247_15 rfl (lv_at hl 3 rfl) ?_
  refine lv_aload hx hb dJ7_copyOfRangeByte_39247_16 (lv_at hl 0 rfl) ?_
  refine lv_iconst (v := 0) hx hb dJ7_copyOfRangeByte_39247_18 (by decide) ?_
  refine lv_aload_n hx hb dJ7_copyOfRangeByte_39247_19 rfl (lv_at hl 2 rfl) ?_
  refine va_alen hx hb hK hP 0 0 rfl rfl (v := nI k) rfl dJ7_copyOfRangeByte_39247_20 ?_
  refine lv_iload_n hx hb dJ7_copyOfRangeByte_39247_21 rfl (lv_at hl 3 rfl) ?_
  refine lv_isub hx hb dJ7_copyOfRangeByte_39247_22 ?_
  refine lv_topi (fun z_4 ez_4 => ?_)
  obtain rfl : z_4 = nI k := ez_4.trans (pk_sub (a := k) (b := 0) (by omega))
  refine lv_iload_n hx hb dJ7_copyOfRangeByte_39247_23 rfl (lv_at hl 1 rfl) ?_
  refine va_mmin hx hb (by rw [hml]; exact hl.1.symm) hown (hts (.methodLink RJ7 304 Lib.Math.min.name) (by decide +kernel)) (hts (.static Lib.Math.min.name) (by decide +kernel)) (hts (.initialized "java/lang/Math") (by decide +kernel)) (hts (.code Lib.Math.min.name Lib.Math.min.code 2 (some .int)) (by decide +kernel)) (Nat.le_of_ble_eq_true rfl) (Nat.le_of_ble_eq_true rfl) (by show 0 + 0 + 1 ≤ 1; omega) (by show 0 + 0 + n ≤ 1500; omega) dJ7_copyOfRangeByte_39247_24 ?_
  refine lv_topi (fun z_5 ez_5 => ?_)
  obtain rfl : z_5 = nI n := ez_5.trans ((zz_min (by omega) (by omega)).trans (by rw [Nat.min_eq_right (by omega)]))
  refine va_copyi hx hb (by rw [hml]; exact hl.1.symm) hown (hts (.methodLink RJ7 150 arraycopyName) (by decide +kernel)) (hts (.native arraycopyName) (by decide +kernel)) (hts (.static arraycopyName) (by decide +kernel)) (hts (.initialized "java/lang/System") (by decide +kernel)) hK hP hD hS 0 1 0 1 (ty := .byte) rfl rfl rfl rfl rfl (by decide) (by decide) (nI_pos (by omega)) (by rw [nI_clamp (by omega), sb_cl0]; omega) (by rw [nI_clamp (by omega), sb_cl0]; omega) (fun i _ => hf _) (Nat.le_of_ble_eq_true rfl) (Nat.le_of_ble_eq_true rfl) dJ7_copyOfRangeByte_39247_27 (fun H locs hP hD hS => ?_)
  have hP : va_P D vwCl [(d, .inl (cB, k, .inl f)), (q_2, .inl (cA_3, n, .inl (va_cpy f (fun _ => 0) (0 : Int32).toNatClampNeg (0 : Int32).toNatClampNeg (nI n : Int32).toNatClampNeg)))] H := hP
  have hD : va_D A [(d, .inl (cB, k, .inl f)), (q_2, .inl (cA_3, n, .inl (va_cpy f (fun _ => 0) (0 : Int32).toNatClampNeg (0 : Int32).toNatClampNeg (nI n : Int32).toNatClampNeg)))] := hD
  refine lv_aload hx hb dJ7_copyOfRangeByte_39247_30 (lv_at hl 0 rfl) ?_
  have hP9 := hP.sub (ws' := [(d, .inl (cB, k, .inl f)), (q_2, .inl (cA_3, n, .inl (va_cpy f (fun _ => 0) (0 : Int32).toNatClampNeg (0 : Int32).toNatClampNeg (nI n : Int32).toNatClampNeg)))]) [0, 1] rfl
  have hD9 := hD.sub (ws' := [(d, .inl (cB, k, .inl f)), (q_2, .inl (cA_3, n, .inl (va_cpy f (fun _ => 0) (0 : Int32).toNatClampNeg (0 : Int32).toNatClampNeg (nI n : Int32).toNatClampNeg)))]) [0, 1] (by decide) rfl
  have hK9 := hK.sub (tys' := [(cB, .byte), (cA_3, .byte)]) [0, 1] rfl
  refine W.widen (k := 1) (n := 1500) (by show 0 + 0 + 1 ≤ 1; omega) (by show 0 + 0 + n ≤ 1500; omega) ?_
  exact W.aret (v := .ref q_2) hx hb hr (Or.inr ⟨_, rfl⟩) (Or.inr ⟨_, rfl⟩) (zz_end hP9 hD9 hK9 hS (⟨_, _, _, sb_fitC hf sb_fit0, rfl, rfl, rfl⟩)) hS.2.2 dJ7_copyOfRangeByte_39247_32
set_option maxHeartbeats 4000000 in
set_option maxRecDepth 100000 in
theorem k_J7_copyOfRange_39247 (l : Launch) (D : va_G) (d : Nat) (k : Nat) (f : Nat → Int32) (cB : ClassId) (n : Nat) (hn : n < k) (hk : k ≤ 1500) (hf : sb_Fit f) : zz_M l yJ7_copyOfRange_39247 wsJ7_copyOfRange_39247 ({ frames := 3, cells := 1, slots := 1500, locals := 3100 }) D [.ref d, .int 0, .int (nI n)] [(cB, .byte)] [(d, .inl (cB, k, .inl f))] (fun _ _ => True) (fun H0 H1 v w t => ∃ q2 : Nat, ∃ cA2 : ClassId, ∃ f2 : Nat → Int32, sb_Fit f2 ∧ v = some (.ref q2) ∧ w = [(d, .inl (cB, k, .inl f)), (q2, .inl (cA2, n, .inl f2))] ∧ t = [(cB, .byte), (cA2, .byte)]) := by
  refine zz_M.mk (cc := cJ7_copyOfRange_39247) (maxL := 3) (ret := (some (.array .byte))) (by decide) rfl (Nat.le_of_ble_eq_true rfl) ?_
  intro p0 e0 s mt0 bl0 meth0 cd0 ls hC hname hP hK hD hX hl
  obtain ⟨hx, hb, hml, hr, hown, hts, hlocks⟩ := hC
  generalize hAe : va_A [(d, .inl (cB, k, .inl f))] s.heap.size = A at *
  have hA : ∀ q : Nat, s.heap.size ≤ q → A q := fun q h => by rw [← hAe]; exact Or.inr h
  obtain ⟨H, hHs⟩ : ∃ z : Heap, z = s.heap := ⟨_, rfl⟩
  rw [← hHs] at hP ⊢
  have hS : va_S A s.heap H [] := by rw [hHs]; exact va_S.rf
  have hl : lv_has ls 3 [(0, .ref d), (1, .int 0), (2, .int (nI n))] := hl
  refine lv_iload_n hx hb dJ7_copyOfRange_39247_0 rfl (lv_at hl 1 rfl) ?_
  refine lv_if_ne (tgt := 10) hx hb dJ7_copyOfRange_39247_1 (by decide) (fun c_1 => absurd (rfl) c_1) (fun c_1 => ?_)
  refine lv_iload_n hx hb dJ7_copyOfRange_39247_4 rfl (lv_at hl 2 rfl) ?_
  refine lv_aload_n hx hb dJ7_copyOfRange_39247_5 rfl (lv_at hl 0 rfl) ?_
  refine va_alen hx hb hK hP 0 0 rfl rfl (v := nI k) rfl dJ7_copyOfRange_39247_6 ?_
  refine lv_icmp_eq (tgt := 17) hx hb dJ7_copyOfRange_39247_7 (by decide) (fun c_2 => absurd c_2 (fun z9 => by have := (nI_eq (by omega) (by omega)).mp z9; omega)) (fun c_2 => ?_)
  refine lv_aload_n hx hb dJ7_copyOfRange_39247_10 rfl (lv_at hl 0 rfl) ?_
  refine lv_iload_n hx hb dJ7_copyOfRange_39247_11 rfl (lv_at hl 1 rfl) ?_
  refine lv_iload_n hx hb dJ7_copyOfRange_39247_12 rfl (lv_at hl 2 rfl) ?_
  have hFc := va_free (wc := [(d, .inl (cB, k, .inl f))]) hD hS hA [0] rfl
  refine zz_after (wr := []) (va_runS (As := [.ref d, .int 0, .int (nI n)]) (rest := []) ⟨hx, hb, hml, hown, hts⟩ ((k_J7_copyOfRangeByte_39247 l D d k f cB n (hn) (hk) (hf)) H.size) (va_cwS 3 hts gJ7_copyOfRange_39247_J7_copyOfRangeByte_39247 rfl rfl rfl (by decide +kernel) ⟨Nat.le_of_ble_eq_true rfl, Nat.le_of_ble_eq_true rfl⟩) (zz_pre (av := [.ref d, .int 0, .int (nI n)]) (tyc := [(cB, .byte)]) (wc := [(d, .inl (cB, k, .inl f))]) (X := fun _ _ => True) (Xc := (fun _ _ => True)) hP hD hK hS [0] [0] rfl (by decide) rfl zz_St_tt (fun _ _ _ => trivial)) rfl rfl hl.1 rfl (lv_room (Nat.le_of_ble_eq_true rfl)) dJ7_copyOfRange_39247_13 ⟨by show 0 + 1 ≤ 1; omega, by show 0 + 1500 ≤ 1500; omega⟩) hP hD hK hS hFc [0] [] rfl rfl (by decide) (by decide) (fun v w1 ty1 H1 locs hq9 hz9 hk9 hP1 hD1 hK1 hS1 => ?_)
  obtain ⟨q2_3, cA2_4, f2_5, h_6, rfl, rfl, rfl⟩ := hq9
  clear hS hP hD hK hFc
  have hP : va_P D vwCl [(d, .inl (cB, k, .inl f)), (q2_3, .inl (cA2_4, n, .inl f2_5))] H1 := hP1
  have hD : va_D A [(d, .inl (cB, k, .inl f)), (q2_3, .inl (cA2_4, n, .inl f2_5))] := hD1
  have hK : va_K D vwCl [(cB, .byte), (cB, .byte), (cA2_4, .byte)] s := hK1
  have hS := hS1
  clear hP1 hD1 hK1 hS1
  obtain ⟨H, rfl⟩ : ∃ z, z = H1 := ⟨_, rfl⟩
  refine W.eq (g2 := F0 mt0 16 ls [.ref q2_3]) rfl ?_
  have hP9 := hP.sub (ws' := [(d, .inl (cB, k, .inl f)), (q2_3, .inl (cA2_4, n, .inl f2_5))]) [0, 1] rfl
  have hD9 := hD.sub (ws' := [(d, .inl (cB, k, .inl f)), (q2_3, .inl (cA2_4, n, .inl f2_5))]) [0, 1] (by decide) rfl
  have hK9 := hK.sub (tys' := [(cB, .byte), (cA2_4, .byte)]) [0, 2] rfl
  refine W.widen (k := 1) (n := 1500) (by show 0 + 1 ≤ 1; omega) (by show 0 + 1500 ≤ 1500; omega) ?_
  exact W.aret (v := .ref q2_3) hx hb hr (Or.inr ⟨_, rfl⟩) (Or.inr ⟨_, rfl⟩) (zz_end hP9 hD9 hK9 hS (⟨_, _, _, h_6, rfl, rfl, rfl⟩)) hS.2.2 dJ7_copyOfRange_39247_16
set_option maxHeartbeats 4000000 in
set_option maxRecDepth 100000 in
theorem k_J0_init_db425 (l : Launch) (D : va_G) (u0 : Nat) (h : Nat) (d : Nat) (ml : Int32) (n : Nat) (k : Nat) (f : Nat → Int32) (cB : ClassId) (hn : n < k) (hk : k ≤ 1500) (hf : sb_Fit f) : zz_M l yJ0_init_db425 wsJ0_init_db425 ({ frames := 4, cells := 1, slots := 1500, locals := 3200 }) D [.ref u0, .ref h, .null] [(cB, .byte)] [(u0, .inr (0, [.null, .int 0, .int 0, .int 0])), (h, .inr (1, [.ref d, .int 0, .int ml, .int (nI n)])), (d, .inl (cB, k, .inl f))] (fun A U => zz_G A U) (fun H0 H1 v w t => ∃ b2 : Nat, ∃ cA2 : ClassId, ∃ f2 : Nat → Int32, sb_Fit f2 ∧ v = none ∧ w = [(u0, .inr (0, [.ref b2, .int 0, .int 0, .int 0])), (h, .inr (1, [.ref d, .int 0, .int ml, .int (nI n)])), (d, .inl (cB, k, .inl f)), (b2, .inl (cA2, n, .inl f2))] ∧ t = [(cB, .byte), (cA2, .byte)]) := by
  refine zz_M.mk (cc := cJ0_init_db425) (maxL := 5) (ret := none) (by decide) rfl (Nat.le_of_ble_eq_true rfl) ?_
  intro p0 e0 s mt0 bl0 meth0 cd0 ls hC hname hP hK hD hX hl
  obtain ⟨hx, hb, hml, hr, hown, hts, hlocks⟩ := hC
  have hX0 := hX
  generalize hAe : va_A [(u0, .inr (0, [.null, .int 0, .int 0, .int 0])), (h, .inr (1, [.ref d, .int 0, .int ml, .int (nI n)])), (d, .inl (cB, k, .inl f))] s.heap.size = A at *
  have hA : ∀ q : Nat, s.heap.size ≤ q → A q := fun q h => by rw [← hAe]; exact Or.inr h
  obtain ⟨H, hHs⟩ : ∃ z : Heap, z = s.heap := ⟨_, rfl⟩
  rw [← hHs] at hP ⊢
  have hS : va_S A s.heap H [] := by rw [hHs]; exact va_S.rf
  have hl : lv_has ls 5 [(0, .ref u0), (1, .ref h), (2, .null)] := hl
  refine lv_aload_n hx hb dJ0_init_db425_0 rfl (lv_at hl 0 rfl) ?_
  refine W.objInit hx hb hown (hts (.methodLink RJ0 1 objectInit) (by decide +kernel)) (hts (.instanceMethod objectInit) (by decide +kernel)) (hts (.code objectInit ⟨#[0xb1]⟩ 1 none) (by decide +kernel)) rfl (by rw [hml]; exact hl.1) rfl dJ0_init_db425_1 (Nat.le_of_ble_eq_true rfl) (Nat.le_of_ble_eq_true rfl) ?_
  refine W.eq (g2 := F0 mt0 4 ls []) rfl ?_
  refine lv_aload_n hx hb dJ0_init_db425_4 rfl (lv_at hl 1 rfl) ?_
  have hFc := va_free (wc := [(h, .inr (1, [.ref d, .int 0, .int ml, .int (nI n)])), (d, .inl (cB, k, .inl f))]) hD hS hA [1, 2] rfl
  refine zz_after (wr := [(u0, .inr (0, [.null, .int 0, .int 0, .int 0]))]) (va_runU (As := []) (rest := []) ⟨hx, hb, hml, hown, hts⟩ ((k_J5_getValue_6d5f1 l D h d ml n k f cB) H.size) (va_cwU 0 hts gJ0_init_db425_J5_getValue_6d5f1_u552J4 rfl rfl rfl rfl (by decide +kernel) ⟨Nat.le_of_ble_eq_true rfl, Nat.le_of_ble_eq_true rfl⟩) (zz_pV (zz_pre (av := [.ref h]) (tyc := [(cB, .byte)]) (wc := [(h, .inr (1, [.ref d, .int 0, .int ml, .int (nI n)])), (d, .inl (cB, k, .inl f))]) (X := fun _ _ => True) (Xc := (fun _ _ => True)) hP hD hK hS [1, 2] [0] rfl (by decide) rfl zz_St_tt (fun _ _ _ => trivial)) (va_recv hK hP (ci := 1) (q0 := 1) rfl rfl)) rfl rfl hl.1 rfl (lv_room (Nat.le_of_ble_eq_true rfl)) dJ0_init_db425_5 ⟨by show 0 + 0 ≤ 1; omega, by show 0 + 0 ≤ 1500; omega⟩) hP hD hK hS hFc [1, 2] [0] rfl rfl (by decide) (by decide) (fun v w1 ty1 H1 locs hq9 hz9 hk9 hP1 hD1 hK1 hS1 => ?_)
  obtain ⟨rfl, rfl, rfl⟩ := hq9
  clear hS hP hD hK hFc
  have hP : va_P D vwCl [(u0, .inr (0, [.null, .int 0, .int 0, .int 0])), (h, .inr (1, [.ref d, .int 0, .int ml, .int (nI n)])), (d, .inl (cB, k, .inl f))] H1 := hP1
  have hD : va_D A [(u0, .inr (0, [.null, .int 0, .int 0, .int 0])), (h, .inr (1, [.ref d, .int 0, .int ml, .int (nI n)])), (d, .inl (cB, k, .inl f))] := hD1
  have hK : va_K D vwCl [(cB, .byte), (cB, .byte)] s := hK1
  have hS := hS1
  clear hP1 hD1 hK1 hS1
  obtain ⟨H, rfl⟩ : ∃ z, z = H1 := ⟨_, rfl⟩
  refine W.eq (g2 := F0 mt0 8 ls [.ref d]) rfl ?_
  refine lv_astore_n (lv' := [(3, .ref d), (0, .ref u0), (1, .ref h), (2, .null)]) hx hb dJ0_init_db425_8 rfl hl (by decide) rfl (fun ls hl => ?_)
  refine lv_aload_n hx hb dJ0_init_db425_9 rfl (lv_at hl 2 rfl) ?_
  have hFc := va_free (wc := [(h, .inr (1, [.ref d, .int 0, .int ml, .int (nI n)])), (d, .inl (cB, k, .inl f))]) hD hS hA [1, 2] rfl
  refine zz_after (wr := [(u0, .inr (0, [.null, .int 0, .int 0, .int 0]))]) (va_runU (As := []) (rest := []) ⟨hx, hb, hml, hown, hts⟩ ((k_J4_length_8abf5 l D h d ml n k f cB) H.size) (va_cwO (b0 := cJ5_length_8abf5) (m0 := 1) (r0 := (some .int)) 0 hts gJ0_init_db425_J4_length_8abf5_u549J4 rfl rfl rfl (by decide +kernel) (by decide +kernel) ⟨Nat.le_of_ble_eq_true rfl, Nat.le_of_ble_eq_true rfl⟩) (zz_pV (zz_pre (av := [.ref h]) (tyc := [(cB, .byte)]) (wc := [(h, .inr (1, [.ref d, .int 0, .int ml, .int (nI n)])), (d, .inl (cB, k, .inl f))]) (X := fun _ _ => True) (Xc := (fun _ _ => True)) hP hD hK hS [1, 2] [0] rfl (by decide) rfl zz_St_tt (fun _ _ _ => trivial)) (va_recv hK hP (ci := 1) (q0 := 1) rfl rfl)) rfl rfl hl.1 rfl (lv_room (Nat.le_of_ble_eq_true rfl)) dJ0_init_db425_10 ⟨by show 0 + 0 + 0 ≤ 1; omega, by show 0 + 0 + 0 ≤ 1500; omega⟩) hP hD hK hS hFc [1, 2] [0] rfl rfl (by decide) (by decide) (fun v w1 ty1 H1 locs hq9 hz9 hk9 hP1 hD1 hK1 hS1 => ?_)
  obtain ⟨rfl, rfl, rfl⟩ := hq9
  clear hS hP hD hK hFc
  have hP : va_P D vwCl [(u0, .inr (0, [.null, .int 0, .int 0, .int 0])), (h, .inr (1, [.ref d, .int 0, .int ml, .int (nI n)])), (d, .inl (cB, k, .inl f))] H1 := hP1
  have hD : va_D A [(u0, .inr (0, [.null, .int 0, .int 0, .int 0])), (h, .inr (1, [.ref d, .int 0, .int ml, .int (nI n)])), (d, .inl (cB, k, .inl f))] := hD1
  have hK : va_K D vwCl [(cB, .byte), (cB, .byte), (cB, .byte)] s := hK1
  have hS := hS1
  clear hP1 hD1 hK1 hS1
  obtain ⟨H, rfl⟩ : ∃ z, z = H1 := ⟨_, rfl⟩
  refine W.eq (g2 := F0 mt0 13 ls [.int (nI n)]) rfl ?_
  refine lv_istore (lv' := [(4, .int (nI n)), (3, .ref d), (0, .ref u0), (1, .ref h), (2, .null)]) hx hb dJ0_init_db425_13 hl (by decide) rfl (fun ls hl => ?_)
  refine lv_aload_n hx hb dJ0_init_db425_15 rfl (lv_at hl 3 rfl) ?_
  have hFc := va_free (wc := [(h, .inr (1, [.ref d, .int 0, .int ml, .int (nI n)])), (d, .inl (cB, k, .inl f))]) hD hS hA [1, 2] rfl
  have hO0 := zz_out zz_St_G hX0 hS hFc
  refine zz_after (wr := [(u0, .inr (0, [.null, .int 0, .int 0, .int 0]))]) (va_runU (As := []) (rest := []) ⟨hx, hb, hml, hown, hts⟩ ((k_J5_isLatin1_aae02 l D h d ml n k f cB) H.size) (va_cwU 0 hts gJ0_init_db425_J5_isLatin1_aae02_u1047J4 rfl rfl rfl rfl (by decide +kernel) ⟨Nat.le_of_ble_eq_true rfl, Nat.le_of_ble_eq_true rfl⟩) (zz_pV (zz_pre (av := [.ref h]) (tyc := [(cB, .byte)]) (wc := [(h, .inr (1, [.ref d, .int 0, .int ml, .int (nI n)])), (d, .inl (cB, k, .inl f))]) (X := fun _ _ => True) (Xc := (fun A U => zz_G A U)) hP hD hK hS [1, 2] [0] rfl (by decide) rfl zz_St_G (fun U h1 h2 => hO0 U h1 h2)) (va_recv hK hP (ci := 1) (q0 := 1) rfl rfl)) rfl rfl hl.1 rfl (lv_room (Nat.le_of_ble_eq_true rfl)) dJ0_init_db425_16 ⟨by show 0 + 0 + 0 + 0 ≤ 1; omega, by show 0 + 0 + 0 + 0 ≤ 1500; omega⟩) hP hD hK hS hFc [1, 2] [0] rfl rfl (by decide) (by decide) (fun v w1 ty1 H1 locs hq9 hz9 hk9 hP1 hD1 hK1 hS1 => ?_)
  obtain ⟨rfl, rfl, rfl⟩ := hq9
  clear hS hP hD hK hFc hO0
  have hP : va_P D vwCl [(u0, .inr (0, [.null, .int 0, .int 0, .int 0])), (h, .inr (1, [.ref d, .int 0, .int ml, .int (nI n)])), (d, .inl (cB, k, .inl f))] H1 := hP1
  have hD : va_D A [(u0, .inr (0, [.null, .int 0, .int 0, .int 0])), (h, .inr (1, [.ref d, .int 0, .int ml, .int (nI n)])), (d, .inl (cB, k, .inl f))] := hD1
  have hK : va_K D vwCl [(cB, .byte), (cB, .byte), (cB, .byte), (cB, .byte)] s := hK1
  have hS := hS1
  clear hP1 hD1 hK1 hS1
  obtain ⟨H, rfl⟩ : ∃ z, z = H1 := ⟨_, rfl⟩
  refine W.eq (g2 := F0 mt0 19 ls [.int 1]) rfl ?_
  refine lv_if_eq (tgt := 41) hx hb dJ0_init_db425_19 (by decide) (fun c_1 => absurd c_1 (by decide)) (fun c_1 => ?_)
  refine lv_aload_n hx hb dJ0_init_db425_22 rfl (lv_at hl 2 rfl) ?_
  refine lv_iconst (v := 0) hx hb dJ0_init_db425_23 (by decide) ?_
  refine va_putF (D := D) (ci := 0) (v := .int 0) (ty := .byte) (C := RJ0) (T := TJ0) (N := 4) hx hb hts (by decide +kernel) tyJ0 tyJ0_ok nmJ0 hown hK hP hD hS 0 rfl rfl 1 (by decide) (hts (.fieldLink RJ0 15 "java/lang/String" "coder" "B") (by decide +kernel)) (fun _ h9 => h9) rfl hname rfl (by decide +kernel) rfl rfl (Nat.le_of_ble_eq_true rfl) dJ0_init_db425_24 (fun H locs hP hD hS => ?_)
  have hP : va_P D vwCl [(u0, .inr (0, [.null, .int 0, .int 0, .int 0])), (h, .inr (1, [.ref d, .int 0, .int ml, .int (nI n)])), (d, .inl (cB, k, .inl f))] H := hP
  have hD : va_D A [(u0, .inr (0, [.null, .int 0, .int 0, .int 0])), (h, .inr (1, [.ref d, .int 0, .int ml, .int (nI n)])), (d, .inl (cB, k, .inl f))] := hD
  refine lv_aload_n hx hb dJ0_init_db425_27 rfl (lv_at hl 2 rfl) ?_
  refine lv_aload_n hx hb dJ0_init_db425_28 rfl (lv_at hl 1 rfl) ?_
  refine lv_iconst (v := 0) hx hb dJ0_init_db425_29 (by decide) ?_
  refine lv_iload hx hb dJ0_init_db425_30 (lv_at hl 0 rfl) ?_
  have hFc := va_free (wc := [(d, .inl (cB, k, .inl f))]) hD hS hA [2] rfl
  refine zz_after (wr := [(u0, .inr (0, [.null, .int 0, .int 0, .int 0])), (h, .inr (1, [.ref d, .int 0, .int ml, .int (nI n)]))]) (va_runS (As := [.ref d, .int 0, .int (nI n)]) (rest := [.ref u0]) ⟨hx, hb, hml, hown, hts⟩ ((k_J7_copyOfRange_39247 l D d k f cB n (hn) (hk) (hf)) H.size) (va_cwS 3 hts gJ0_init_db425_J7_copyOfRange_39247 rfl rfl rfl (by decide +kernel) ⟨Nat.le_of_ble_eq_true rfl, Nat.le_of_ble_eq_true rfl⟩) (zz_pre (av := [.ref d, .int 0, .int (nI n)]) (tyc := [(cB, .byte)]) (wc := [(d, .inl (cB, k, .inl f))]) (X := fun _ _ => True) (Xc := (fun _ _ => True)) hP hD hK hS [2] [0] rfl (by decide) rfl zz_St_tt (fun _ _ _ => trivial)) rfl rfl hl.1 rfl (lv_room (Nat.le_of_ble_eq_true rfl)) dJ0_init_db425_32 ⟨by show 0 + 0 + 0 + 0 + 1 ≤ 1; omega, by show 0 + 0 + 0 + 0 + 1500 ≤ 1500; omega⟩) hP hD hK hS hFc [2] [0, 1] rfl rfl (by decide) (by decide) (fun v w1 ty1 H1 locs hq9 hz9 hk9 hP1 hD1 hK1 hS1 => ?_)
  obtain ⟨q2_2, cA2_3, f2_4, h_5, rfl, rfl, rfl⟩ := hq9
  clear hS hP hD hK hFc
  have hP : va_P D vwCl [(u0, .inr (0, [.null, .int 0, .int 0, .int 0])), (h, .inr (1, [.ref d, .int 0, .int ml, .int (nI n)])), (d, .inl (cB, k, .inl f)), (q2_2, .inl (cA2_3, n, .inl f2_4))] H1 := hP1
  have hD : va_D A [(u0, .inr (0, [.null, .int 0, .int 0, .int 0])), (h, .inr (1, [.ref d, .int 0, .int ml, .int (nI n)])), (d, .inl (cB, k, .inl f)), (q2_2, .inl (cA2_3, n, .inl f2_4))] := hD1
  have hK : va_K D vwCl [(cB, .byte), (cB, .byte), (cB, .byte), (cB, .byte), (cB, .byte), (cA2_3, .byte)] s := hK1
  have hS := hS1
  clear hP1 hD1 hK1 hS1
  obtain ⟨H, rfl⟩ : ∃ z, z = H1 := ⟨_, rfl⟩
  refine W.eq (g2 := F0 mt0 35 ls [.ref q2_2, .ref u0]) rfl ?_
  refine va_putF (D := D) (ci := 0) (v := .ref q2_2) (ty := .array .byte) (C := RJ0) (T := TJ0) (N := 4) hx hb hts (by decide +kernel) tyJ0 tyJ0_ok nmJ0 hown hK hP hD hS 0 rfl rfl 0 (by decide) (hts (.fieldLink RJ0 9 "java/lang/String" "value" "[B") (by decide +kernel)) (fun _ h9 => h9) rfl hname rfl (by decide +kernel) rfl rfl (Nat.le_of_ble_eq_true rfl) dJ0_init_db425_35 (fun H locs hP hD hS => ?_)
  have hP : va_P D vwCl [(u0, .inr (0, [.ref q2_2, .int 0, .int 0, .int 0])), (h, .inr (1, [.ref d, .int 0, .int ml, .int (nI n)])), (d, .inl (cB, k, .inl f)), (q2_2, .inl (cA2_3, n, .inl f2_4))] H := hP
  have hD : va_D A [(u0, .inr (0, [.ref q2_2, .int 0, .int 0, .int 0])), (h, .inr (1, [.ref d, .int 0, .int ml, .int (nI n)])), (d, .inl (cB, k, .inl f)), (q2_2, .inl (cA2_3, n, .inl f2_4))] := hD
  refine lv_goto (tgt := 97) hx hb dJ0_init_db425_38 (by decide) ?_
  have hP9 := hP.sub (ws' := [(u0, .inr (0, [.ref q2_2, .int 0, .int 0, .int 0])), (h, .inr (1, [.ref d, .int 0, .int ml, .int (nI n)])), (d, .inl (cB, k, .inl f)), (q2_2, .inl (cA2_3, n, .inl f2_4))]) [0, 1, 2, 3] rfl
  have hD9 := hD.sub (ws' := [(u0, .inr (0, [.ref q2_2, .int 0, .int 0, .int 0])), (h, .inr (1, [.ref d, .int 0, .int ml, .int (nI n)])), (d, .inl (cB, k, .inl f)), (q2_2, .inl (cA2_3, n, .inl f2_4))]) [0, 1, 2, 3] (by decide) rfl
  have hK9 := hK.sub (tys' := [(cB, .byte), (cA2_3, .byte)]) [0, 5] rfl
  refine W.widen (k := 1) (n := 1500) (by show 0 + 0 + 0 + 0 + 1 ≤ 1; omega) (by show 0 + 0 + 0 + 0 + 1500 ≤ 1500; omega) ?_
  exact W.vret hx hb hr (zz_end hP9 hD9 hK9 hS (⟨_, _, _, h_5, rfl, rfl, rfl⟩)) hS.2.2 dJ0_init_db425_97
set_option maxHeartbeats 4000000 in
set_option maxRecDepth 100000 in
theorem k_J0_init_81219 (l : Launch) (D : va_G) (u0 : Nat) (h : Nat) (d : Nat) (ml : Int32) (n : Nat) (k : Nat) (f : Nat → Int32) (cB : ClassId) (hn : n < k) (hk : k ≤ 1500) (hf : sb_Fit f) : zz_M l yJ0_init_81219 wsJ0_init_81219 ({ frames := 5, cells := 1, slots := 1500, locals := 3300 }) D [.ref u0, .ref h] [(cB, .byte)] [(u0, .inr (0, [.null, .int 0, .int 0, .int 0])), (h, .inr (1, [.ref d, .int 0, .int ml, .int (nI n)])), (d, .inl (cB, k, .inl f))] (fun A U => zz_G A U) (fun H0 H1 v w t => ∃ b2 : Nat, ∃ cA2 : ClassId, ∃ f2 : Nat → Int32, sb_Fit f2 ∧ v = none ∧ w = [(u0, .inr (0, [.ref b2, .int 0, .int 0, .int 0])), (h, .inr (1, [.ref d, .int 0, .int ml, .int (nI n)])), (d, .inl (cB, k, .inl f)), (b2, .inl (cA2, n, .inl f2))] ∧ t = [(cB, .byte), (cA2, .byte)]) := by
  refine zz_M.mk (cc := cJ0_init_81219) (maxL := 2) (ret := none) (by decide) rfl (Nat.le_of_ble_eq_true rfl) ?_
  intro p0 e0 s mt0 bl0 meth0 cd0 ls hC hname hP hK hD hX hl
  obtain ⟨hx, hb, hml, hr, hown, hts, hlocks⟩ := hC
  have hX0 := hX
  generalize hAe : va_A [(u0, .inr (0, [.null, .int 0, .int 0, .int 0])), (h, .inr (1, [.ref d, .int 0, .int ml, .int (nI n)])), (d, .inl (cB, k, .inl f))] s.heap.size = A at *
  have hA : ∀ q : Nat, s.heap.size ≤ q → A q := fun q h => by rw [← hAe]; exact Or.inr h
  obtain ⟨H, hHs⟩ : ∃ z : Heap, z = s.heap := ⟨_, rfl⟩
  rw [← hHs] at hP ⊢
  have hS : va_S A s.heap H [] := by rw [hHs]; exact va_S.rf
  have hl : lv_has ls 2 [(0, .ref u0), (1, .ref h)] := hl
  refine lv_aload_n hx hb dJ0_init_81219_0 rfl (lv_at hl 0 rfl) ?_
  refine lv_aload_n hx hb dJ0_init_81219_1 rfl (lv_at hl 1 rfl) ?_
  refine lv_null hx hb dJ0_init_81219_2 ?_
  have hFc := va_free (wc := [(u0, .inr (0, [.null, .int 0, .int 0, .int 0])), (h, .inr (1, [.ref d, .int 0, .int ml, .int (nI n)])), (d, .inl (cB, k, .inl f))]) hD hS hA [0, 1, 2] rfl
  have hO0 := zz_out zz_St_G hX0 hS hFc
  refine zz_after (wr := []) (va_runI (As := [.ref h, .null]) (rest := []) ⟨hx, hb, hml, hown, hts⟩ ((k_J0_init_db425 l D u0 h d ml n k f cB (hn) (hk) (hf)) H.size) (cwI 2 hts gJ0_init_81219_J0_init_db425 rfl rfl rfl (hts (.initialized RJ0) (by decide +kernel)) (hts (.methodLink RJ0 489 yJ0_init_db425) (by decide +kernel)) (hts (.instanceMethod yJ0_init_db425) (by decide +kernel)) rfl (by decide +kernel) ⟨Nat.le_of_ble_eq_true rfl, Nat.le_of_ble_eq_true rfl⟩) (zz_pre (av := [.ref u0, .ref h, .null]) (tyc := [(cB, .byte)]) (wc := [(u0, .inr (0, [.null, .int 0, .int 0, .int 0])), (h, .inr (1, [.ref d, .int 0, .int ml, .int (nI n)])), (d, .inl (cB, k, .inl f))]) (X := fun _ _ => True) (Xc := (fun A U => zz_G A U)) hP hD hK hS [0, 1, 2] [0] rfl (by decide) rfl zz_St_G (fun U h1 h2 => hO0 U h1 h2)) rfl rfl hl.1 rfl (lv_room (Nat.le_of_ble_eq_true rfl)) dJ0_init_81219_3 ⟨by show 0 + 1 ≤ 1; omega, by show 0 + 1500 ≤ 1500; omega⟩) hP hD hK hS hFc [0, 1, 2] [] rfl rfl (by decide) (by decide) (fun v w1 ty1 H1 locs hq9 hz9 hk9 hP1 hD1 hK1 hS1 => ?_)
  obtain ⟨b2_1, cA2_2, f2_3, h_4, rfl, rfl, rfl⟩ := hq9
  clear hS hP hD hK hFc hO0
  have hP : va_P D vwCl [(u0, .inr (0, [.ref b2_1, .int 0, .int 0, .int 0])), (h, .inr (1, [.ref d, .int 0, .int ml, .int (nI n)])), (d, .inl (cB, k, .inl f)), (b2_1, .inl (cA2_2, n, .inl f2_3))] H1 := hP1
  have hD : va_D A [(u0, .inr (0, [.ref b2_1, .int 0, .int 0, .int 0])), (h, .inr (1, [.ref d, .int 0, .int ml, .int (nI n)])), (d, .inl (cB, k, .inl f)), (b2_1, .inl (cA2_2, n, .inl f2_3))] := hD1
  have hK : va_K D vwCl [(cB, .byte), (cB, .byte), (cA2_2, .byte)] s := hK1
  have hS := hS1
  clear hP1 hD1 hK1 hS1
  obtain ⟨H, rfl⟩ : ∃ z, z = H1 := ⟨_, rfl⟩
  refine W.eq (g2 := F0 mt0 6 ls []) rfl ?_
  have hP9 := hP.sub (ws' := [(u0, .inr (0, [.ref b2_1, .int 0, .int 0, .int 0])), (h, .inr (1, [.ref d, .int 0, .int ml, .int (nI n)])), (d, .inl (cB, k, .inl f)), (b2_1, .inl (cA2_2, n, .inl f2_3))]) [0, 1, 2, 3] rfl
  have hD9 := hD.sub (ws' := [(u0, .inr (0, [.ref b2_1, .int 0, .int 0, .int 0])), (h, .inr (1, [.ref d, .int 0, .int ml, .int (nI n)])), (d, .inl (cB, k, .inl f)), (b2_1, .inl (cA2_2, n, .inl f2_3))]) [0, 1, 2, 3] (by decide) rfl
  have hK9 := hK.sub (tys' := [(cB, .byte), (cA2_2, .byte)]) [0, 2] rfl
  refine W.widen (k := 1) (n := 1500) (by show 0 + 1 ≤ 1; omega) (by show 0 + 1500 ≤ 1500; omega) ?_
  exact W.vret hx hb hr (zz_end hP9 hD9 hK9 hS (⟨_, _, _, h_4, rfl, rfl, rfl⟩)) hS.2.2 dJ0_init_81219_6
set_option maxHeartbeats 4000000 in
set_option maxRecDepth 100000 in
theorem k_J4_toString_0e30d (l : Launch) (D : va_G) (h : Nat) (d : Nat) (ml : Int32) (n : Nat) (k : Nat) (f : Nat → Int32) (cB : ClassId) (hn : n < k) (hk : k ≤ 1500) (hf : sb_Fit f) : zz_M l yJ4_toString_0e30d wsJ4_toString_0e30d ({ frames := 6, cells := 2, slots := 1504, locals := 3400 }) D [.ref h] [(cB, .byte)] [(h, .inr (1, [.ref d, .int 0, .int ml, .int (nI n)])), (d, .inl (cB, k, .inl f))] (fun A U => zz_G A U) (fun H0 H1 v w t => ∃ t2 : Nat, ∃ b2 : Nat, ∃ cA2 : ClassId, ∃ f2 : Nat → Int32, sb_Fit f2 ∧ v = some (.ref t2) ∧ w = [(t2, .inr (0, [.ref b2, .int 0, .int 0, .int 0])), (h, .inr (1, [.ref d, .int 0, .int ml, .int (nI n)])), (d, .inl (cB, k, .inl f)), (b2, .inl (cA2, n, .inl f2))] ∧ t = [(cB, .byte), (cA2, .byte)]) := by
  refine zz_M.mk (cc := cJ4_toString_0e30d) (maxL := 1) (ret := (some (.object "java/lang/String"))) (by decide) rfl (Nat.le_of_ble_eq_true rfl) ?_
  intro p0 e0 s mt0 bl0 meth0 cd0 ls hC hname hP hK hD hX hl
  obtain ⟨hx, hb, hml, hr, hown, hts, hlocks⟩ := hC
  have hX0 := hX
  generalize hAe : va_A [(h, .inr (1, [.ref d, .int 0, .int ml, .int (nI n)])), (d, .inl (cB, k, .inl f))] s.heap.size = A at *
  have hA : ∀ q : Nat, s.heap.size ≤ q → A q := fun q h => by rw [← hAe]; exact Or.inr h
  obtain ⟨H, hHs⟩ : ∃ z : Heap, z = s.heap := ⟨_, rfl⟩
  rw [← hHs] at hP ⊢
  have hS : va_S A s.heap H [] := by rw [hHs]; exact va_S.rf
  have hl : lv_has ls 1 [(0, .ref h)] := hl
  refine va_new (ci := 0) (fs := [.null, .int 0, .int 0, .int 0]) (C := RJ0) (T := TJ0) (N := 4) hx hb hts (by decide +kernel) tyJ0 tyJ0_ok hown (hts (.classLink RJ4 18 RJ0) (by decide +kernel)) (hts (.instantiable RJ0 4) (by decide +kernel)) (hts (.initialized RJ0) (by decide +kernel)) hK hP hD hS hA rfl (fun j hj => by rcases (show j = 0 ∨ j = 1 ∨ j = 2 ∨ j = 3 by omega) with rfl | rfl | rfl | rfl <;> rfl) (by show 0 + 1 ≤ 2; omega) (by show 0 + 4 ≤ 1504; omega) dJ4_toString_0e30d_0 (fun q_1 H hP hD hS => ?_)
  have hP : va_P D vwCl [(h, .inr (1, [.ref d, .int 0, .int ml, .int (nI n)])), (d, .inl (cB, k, .inl f)), (q_1, .inr (0, [.null, .int 0, .int 0, .int 0]))] H := hP
  have hD : va_D A [(h, .inr (1, [.ref d, .int 0, .int ml, .int (nI n)])), (d, .inl (cB, k, .inl f)), (q_1, .inr (0, [.null, .int 0, .int 0, .int 0]))] := hD
  refine lv_dup hx hb dJ4_toString_0e30d_3 rfl ?_
  refine lv_aload_n hx hb dJ4_toString_0e30d_4 rfl (lv_at hl 0 rfl) ?_
  have hFc := va_free (wc := [(q_1, .inr (0, [.null, .int 0, .int 0, .int 0])), (h, .inr (1, [.ref d, .int 0, .int ml, .int (nI n)])), (d, .inl (cB, k, .inl f))]) hD hS hA [2, 0, 1] rfl
  have hO0 := zz_out zz_St_G hX0 hS hFc
  refine zz_after (wr := []) (va_runI (As := [.ref h]) (rest := [.ref q_1]) ⟨hx, hb, hml, hown, hts⟩ ((k_J0_init_81219 l D q_1 h d ml n k f cB (hn) (hk) (hf)) H.size) (cwI 1 hts gJ4_toString_0e30d_J0_init_81219 rfl rfl rfl (hts (.initialized RJ0) (by decide +kernel)) (hts (.methodLink RJ4 137 yJ0_init_81219) (by decide +kernel)) (hts (.instanceMethod yJ0_init_81219) (by decide +kernel)) rfl (by decide +kernel) ⟨Nat.le_of_ble_eq_true rfl, Nat.le_of_ble_eq_true rfl⟩) (zz_pre (av := [.ref q_1, .ref h]) (tyc := [(cB, .byte)]) (wc := [(q_1, .inr (0, [.null, .int 0, .int 0, .int 0])), (h, .inr (1, [.ref d, .int 0, .int ml, .int (nI n)])), (d, .inl (cB, k, .inl f))]) (X := fun _ _ => True) (Xc := (fun A U => zz_G A U)) hP hD hK hS [2, 0, 1] [0] rfl (by decide) rfl zz_St_G (fun U h1 h2 => hO0 U h1 h2)) rfl rfl hl.1 rfl (lv_room (Nat.le_of_ble_eq_true rfl)) dJ4_toString_0e30d_5 ⟨by show 0 + 1 + 1 ≤ 2; omega, by show 0 + 4 + 1500 ≤ 1504; omega⟩) hP hD hK hS hFc [2, 0, 1] [] rfl rfl (by decide) (by decide) (fun v w1 ty1 H1 locs hq9 hz9 hk9 hP1 hD1 hK1 hS1 => ?_)
  obtain ⟨b2_2, cA2_3, f2_4, h_5, rfl, rfl, rfl⟩ := hq9
  clear hS hP hD hK hFc hO0
  have hP : va_P D vwCl [(q_1, .inr (0, [.ref b2_2, .int 0, .int 0, .int 0])), (h, .inr (1, [.ref d, .int 0, .int ml, .int (nI n)])), (d, .inl (cB, k, .inl f)), (b2_2, .inl (cA2_3, n, .inl f2_4))] H1 := hP1
  have hD : va_D A [(q_1, .inr (0, [.ref b2_2, .int 0, .int 0, .int 0])), (h, .inr (1, [.ref d, .int 0, .int ml, .int (nI n)])), (d, .inl (cB, k, .inl f)), (b2_2, .inl (cA2_3, n, .inl f2_4))] := hD1
  have hK : va_K D vwCl [(cB, .byte), (cB, .byte), (cA2_3, .byte)] s := hK1
  have hS := hS1
  clear hP1 hD1 hK1 hS1
  obtain ⟨H, rfl⟩ : ∃ z, z = H1 := ⟨_, rfl⟩
  refine W.eq (g2 := F0 mt0 8 ls [.ref q_1]) rfl ?_
  have hP9 := hP.sub (ws' := [(q_1, .inr (0, [.ref b2_2, .int 0, .int 0, .int 0])), (h, .inr (1, [.ref d, .int 0, .int ml, .int (nI n)])), (d, .inl (cB, k, .inl f)), (b2_2, .inl (cA2_3, n, .inl f2_4))]) [0, 1, 2, 3] rfl
  have hD9 := hD.sub (ws' := [(q_1, .inr (0, [.ref b2_2, .int 0, .int 0, .int 0])), (h, .inr (1, [.ref d, .int 0, .int ml, .int (nI n)])), (d, .inl (cB, k, .inl f)), (b2_2, .inl (cA2_3, n, .inl f2_4))]) [0, 1, 2, 3] (by decide) rfl
  have hK9 := hK.sub (tys' := [(cB, .byte), (cA2_3, .byte)]) [0, 2] rfl
  refine W.widen (k := 2) (n := 1504) (by show 0 + 1 + 1 ≤ 2; omega) (by show 0 + 4 + 1500 ≤ 1504; omega) ?_
  exact W.aret (v := .ref q_1) hx hb hr (Or.inl ⟨_, rfl⟩) (Or.inr ⟨_, rfl⟩) (zz_end hP9 hD9 hK9 hS (⟨_, _, _, _, h_5, rfl, rfl, rfl⟩)) hS.2.2 dJ4_toString_0e30d_8
