set_option maxHeartbeats 4000000 in
set_option maxRecDepth 100000 in
theorem k_J8_newLength_cabcc (l : Launch) (D : va_G) (o : Nat) (g : Nat) (r : Nat) (h1 : 0 < o + max g r) (h2 : o + max g r ≤ 2147483639) (ho : g < 2 ^ 31 ∧ r < 2 ^ 31) : zz_M l yJ8_newLength_cabcc wsJ8_newLength_cabcc ({ frames := 2, cells := 0, slots := 0, locals := 100 }) D [.int (nI o), .int (nI g), .int (nI r)] [] [] (fun _ _ => True) (fun H0 H1 v w t => v = some (.int (nI (o + max g r))) ∧ w = [] ∧ t = []) := by
  refine zz_M.mk (cc := cJ8_newLength_cabcc) (maxL := 4) (ret := (some .int)) (by decide) rfl (Nat.le_of_ble_eq_true rfl) ?_
  intro p0 e0 s mt0 bl0 meth0 cd0 ls hC hname hP hK hD hX hl
  obtain ⟨hx, hb, hml, hr, hown, hts, hlocks⟩ := hC
  generalize hAe : va_A [] s.heap.size = A at *
  have hA : ∀ q : Nat, s.heap.size ≤ q → A q := fun q h => by rw [← hAe]; exact Or.inr h
  obtain ⟨H, hHs⟩ : ∃ z : Heap, z = s.heap := ⟨_, rfl⟩
  rw [← hHs] at hP ⊢
  have hS : va_S A s.heap H [] := by rw [hHs]; exact va_S.rf
  have hl : lv_has ls 4 [(0, .int (nI o)), (1, .int (nI g)), (2, .int (nI r))] := hl
  refine lv_iload_n hx hb dJ8_newLength_cabcc_0 rfl (lv_at hl 0 rfl) ?_
  refine lv_iload_n hx hb dJ8_newLength_cabcc_1 rfl (lv_at hl 1 rfl) ?_
  refine lv_iload_n hx hb dJ8_newLength_cabcc_2 rfl (lv_at hl 2 rfl) ?_
  refine va_mmax hx hb (by rw [hml]; exact hl.1.symm) hown (hts (.methodLink RJ8 194 Lib.Math.max.name) (by decide +kernel)) (hts (.static Lib.Math.max.name) (by decide +kernel)) (hts (.initialized "java/lang/Math") (by decide +kernel)) (hts (.code Lib.Math.max.name Lib.Math.max.code 2 (some .int)) (by decide +kernel)) (Nat.le_of_ble_eq_true rfl) (Nat.le_of_ble_eq_true rfl) (by show 0 ≤ 0; omega) (by show 0 ≤ 0; omega) dJ8_newLength_cabcc_3 ?_
  refine lv_topi (fun z_1 ez_1 => ?_)
  obtain rfl : z_1 = nI (max g r) := ez_1.trans (zz_max ho.1 ho.2)
  refine lv_iadd hx hb dJ8_newLength_cabcc_6 ?_
  refine lv_topi (fun z_2 ez_2 => ?_)
  obtain rfl : z_2 = nI (o + max g r) := ez_2.trans (nI_add _ _)
  refine lv_istore_n (lv' := [(3, .int (nI (o + max g r))), (0, .int (nI o)), (1, .int (nI g)), (2, .int (nI r))]) hx hb dJ8_newLength_cabcc_7 rfl hl (by decide) rfl (fun ls hl => ?_)
  refine lv_iconst (v := 0) hx hb dJ8_newLength_cabcc_8 (by decide) ?_
  refine lv_iload_n hx hb dJ8_newLength_cabcc_9 rfl (lv_at hl 0 rfl) ?_
  refine lv_icmp_ge (tgt := 21) hx hb dJ8_newLength_cabcc_10 (by decide) (fun c_3 => absurd c_3 (nI_nle h1 (by omega))) (fun c_3 => ?_)
  refine lv_iload_n hx hb dJ8_newLength_cabcc_13 rfl (lv_at hl 0 rfl) ?_
  refine lv_ldc (v := 2147483639) hx hb hown (hts (.constant RJ8 200 (2147483639)) (by decide +kernel)) dJ8_newLength_cabcc_14 ?_
  refine lv_icmp_gt (tgt := 21) hx hb dJ8_newLength_cabcc_16 (by decide) (fun c_4 => absurd c_4 (show ¬ nI 2147483639 < nI (o + max g r) from nI_nlt h2 (by decide))) (fun c_4 => ?_)
  refine lv_iload_n hx hb dJ8_newLength_cabcc_19 rfl (lv_at hl 0 rfl) ?_
  have hP9 := hP.sub (ws' := []) [] rfl
  have hD9 := hD.sub (ws' := []) [] (by decide) rfl
  have hK9 := hK.sub (tys' := []) [] rfl
  refine W.widen (k := 0) (n := 0) (by show 0 ≤ 0; omega) (by show 0 ≤ 0; omega) ?_
  exact W.iret (v := nI (o + max g r)) hx hb hr (zz_end hP9 hD9 hK9 hS (⟨rfl, rfl, rfl⟩)) hS.2.2 dJ8_newLength_cabcc_20
set_option maxHeartbeats 4000000 in
set_option maxRecDepth 100000 in
theorem k_J5_newCapacity_0f7a4 (l : Launch) (D : va_G) (h : Nat) (d : Nat) (ml : Int32) (n : Nat) (k : Nat) (f : Nat → Int32) (cB : ClassId) (q : Nat) (hq : k < q) (hq2 : q ≤ 400) : zz_M l yJ5_newCapacity_0f7a4 wsJ5_newCapacity_0f7a4 ({ frames := 3, cells := 0, slots := 0, locals := 200 }) D [.ref h, .int (nI q)] [(cB, .byte)] [(h, .inr (1, [.ref d, .int 0, .int ml, .int (nI n)])), (d, .inl (cB, k, .inl f))] (fun _ _ => True) (fun H0 H1 v w t => v = some (.int (nI (k + max (q - k) (k + 2)))) ∧ w = [(h, .inr (1, [.ref d, .int 0, .int ml, .int (nI n)])), (d, .inl (cB, k, .inl f))] ∧ t = [(cB, .byte)]) := by
  refine zz_M.mk (cc := cJ5_newCapacity_0f7a4) (maxL := 6) (ret := (some .int)) (by decide) rfl (Nat.le_of_ble_eq_true rfl) ?_
  intro p0 e0 s mt0 bl0 meth0 cd0 ls hC hname hP hK hD hX hl
  obtain ⟨hx, hb, hml, hr, hown, hts, hlocks⟩ := hC
  generalize hAe : va_A [(h, .inr (1, [.ref d, .int 0, .int ml, .int (nI n)])), (d, .inl (cB, k, .inl f))] s.heap.size = A at *
  have hA : ∀ q : Nat, s.heap.size ≤ q → A q := fun q h => by rw [← hAe]; exact Or.inr h
  obtain ⟨H, hHs⟩ : ∃ z : Heap, z = s.heap := ⟨_, rfl⟩
  rw [← hHs] at hP ⊢
  have hS : va_S A s.heap H [] := by rw [hHs]; exact va_S.rf
  have hl : lv_has ls 6 [(0, .ref h), (1, .int (nI q))] := hl
  refine lv_aload_n hx hb dJ5_newCapacity_0f7a4_0 rfl (lv_at hl 0 rfl) ?_
  refine va_get (D := D) (ci := 1) (v := .ref d) (C := RJ4) (T := TJ4) (N := 4) hx hb hts (by decide +kernel) hown hK hP 0 rfl rfl 0 (by decide) (hts (.fieldLink RJ5 15 "java/lang/AbstractStringBuilder" "value" "[B") (by decide +kernel)) (fun _ h9 => h9) rfl dJ5_newCapacity_0f7a4_1 ?_
  refine va_alen hx hb hK hP 1 0 rfl rfl (v := nI k) rfl dJ5_newCapacity_0f7a4_4 ?_
  refine lv_istore_n (lv' := [(2, .int (nI k)), (0, .ref h), (1, .int (nI q))]) hx hb dJ5_newCapacity_0f7a4_5 rfl hl (by decide) rfl (fun ls hl => ?_)
  refine lv_iload_n hx hb dJ5_newCapacity_0f7a4_6 rfl (lv_at hl 2 rfl) ?_
  refine lv_aload_n hx hb dJ5_newCapacity_0f7a4_7 rfl (lv_at hl 1 rfl) ?_
  refine va_get (D := D) (ci := 1) (v := .int 0) (C := RJ4) (T := TJ4) (N := 4) hx hb hts (by decide +kernel) hown hK hP 0 rfl rfl 1 (by decide) (hts (.fieldLink RJ5 22 "java/lang/AbstractStringBuilder" "coder" "B") (by decide +kernel)) (fun _ h9 => h9) rfl dJ5_newCapacity_0f7a4_8 ?_
  refine lv_ishl hx hb dJ5_newCapacity_0f7a4_11 ?_
  refine lv_topi (fun z_1 ez_1 => ?_)
  obtain rfl : z_1 = nI q := ez_1.trans (sb_shl0 _)
  refine lv_istore_n (lv' := [(3, .int (nI q)), (2, .int (nI k)), (0, .ref h), (1, .int (nI q))]) hx hb dJ5_newCapacity_0f7a4_12 rfl hl (by decide) rfl (fun ls hl => ?_)
  refine lv_iload_n hx hb dJ5_newCapacity_0f7a4_13 rfl (lv_at hl 0 rfl) ?_
  refine lv_iload_n hx hb dJ5_newCapacity_0f7a4_14 rfl (lv_at hl 1 rfl) ?_
  refine lv_isub hx hb dJ5_newCapacity_0f7a4_15 ?_
  refine lv_topi (fun z_2 ez_2 => ?_)
  obtain rfl : z_2 = nI (q - k) := ez_2.trans (pk_sub (by omega))
  refine lv_istore (lv' := [(4, .int (nI (q - k))), (3, .int (nI q)), (2, .int (nI k)), (0, .ref h), (1, .int (nI q))]) hx hb dJ5_newCapacity_0f7a4_16 hl (by decide) rfl (fun ls hl => ?_)
  refine lv_iload_n hx hb dJ5_newCapacity_0f7a4_18 rfl (lv_at hl 2 rfl) ?_
  refine lv_iload hx hb dJ5_newCapacity_0f7a4_19 (lv_at hl 0 rfl) ?_
  refine lv_iload_n hx hb dJ5_newCapacity_0f7a4_21 rfl (lv_at hl 2 rfl) ?_
  refine lv_iconst (v := 2) hx hb dJ5_newCapacity_0f7a4_22 (by decide) ?_
  refine lv_aload_n hx hb dJ5_newCapacity_0f7a4_23 rfl (lv_at hl 3 rfl) ?_
  refine va_get (D := D) (ci := 1) (v := .int 0) (C := RJ4) (T := TJ4) (N := 4) hx hb hts (by decide +kernel) hown hK hP 0 rfl rfl 1 (by decide) (hts (.fieldLink RJ5 22 "java/lang/AbstractStringBuilder" "coder" "B") (by decide +kernel)) (fun _ h9 => h9) rfl dJ5_newCapacity_0f7a4_24 ?_
  refine lv_ishl hx hb dJ5_newCapacity_0f7a4_27 ?_
  refine lv_topi (fun z_3 ez_3 => ?_)
  obtain rfl : z_3 = 2 := ez_3.trans (sb_shl0 _)
  refine lv_iadd hx hb dJ5_newCapacity_0f7a4_28 ?_
  refine lv_topi (fun z_4 ez_4 => ?_)
  obtain rfl : z_4 = nI (k + 2) := ez_4.trans (nI_add k 2)
  have hFc := va_free (wc := []) hD hS hA [] rfl
  refine zz_after (wr := [(h, .inr (1, [.ref d, .int 0, .int ml, .int (nI n)])), (d, .inl (cB, k, .inl f))]) (va_runS (As := [.int (nI k), .int (nI (q - k)), .int (nI (k + 2))]) (rest := []) ⟨hx, hb, hml, hown, hts⟩ ((k_J8_newLength_cabcc l D k (q - k) (k + 2) (by omega) (by omega) (⟨by omega, by omega⟩)) H.size) (va_cwS 3 hts gJ5_newCapacity_0f7a4_J8_newLength_cabcc rfl rfl rfl (by decide +kernel) ⟨Nat.le_of_ble_eq_true rfl, Nat.le_of_ble_eq_true rfl⟩) (zz_pre (av := [.int (nI k), .int (nI (q - k)), .int (nI (k + 2))]) (tyc := []) (wc := []) (X := fun _ _ => True) (Xc := (fun _ _ => True)) hP hD hK hS [] [] rfl (by decide) rfl zz_St_tt (fun _ _ _ => trivial)) rfl rfl hl.1 rfl (lv_room (Nat.le_of_ble_eq_true rfl)) dJ5_newCapacity_0f7a4_29 ⟨by show 0 + 0 ≤ 0; omega, by show 0 + 0 ≤ 0; omega⟩) hP hD hK hS hFc [] [0, 1] rfl rfl (by decide) (by decide) (fun v w1 ty1 H1 locs hq9 hz9 hk9 hP1 hD1 hK1 hS1 => ?_)
  obtain ⟨rfl, rfl, rfl⟩ := hq9
  clear hS hP hD hK hFc
  have hP : va_P D vwCl [(h, .inr (1, [.ref d, .int 0, .int ml, .int (nI n)])), (d, .inl (cB, k, .inl f))] H1 := hP1
  have hD : va_D A [(h, .inr (1, [.ref d, .int 0, .int ml, .int (nI n)])), (d, .inl (cB, k, .inl f))] := hD1
  have hK : va_K D vwCl [(cB, .byte)] s := hK1
  have hS := hS1
  clear hP1 hD1 hK1 hS1
  obtain ⟨H, rfl⟩ : ∃ z, z = H1 := ⟨_, rfl⟩
  refine W.eq (g2 := F0 mt0 32 ls [.int (nI (k + max (q - k) (k + 2)))]) rfl ?_
  refine lv_istore (lv' := [(5, .int (nI (k + max (q - k) (k + 2)))), (4, .int (nI (q - k))), (3, .int (nI q)), (2, .int (nI k)), (0, .ref h), (1, .int (nI q))]) hx hb dJ5_newCapacity_0f7a4_32 hl (by decide) rfl (fun ls hl => ?_)
  refine lv_iload hx hb dJ5_newCapacity_0f7a4_34 (lv_at hl 0 rfl) ?_
  refine lv_ldc (v := 2147483647) hx hb hown (hts (.constant RJ5 39 (2147483647)) (by decide +kernel)) dJ5_newCapacity_0f7a4_36 ?_
  refine lv_icmp_ne (tgt := 51) hx hb dJ5_newCapacity_0f7a4_38 (by decide) (fun c_5 => ?_) (fun c_5 => absurd c_5 (fun z9 => by have := (nI_eq (b := 2147483647) (by omega) (by decide)).mp z9; omega))
  refine lv_iload hx hb dJ5_newCapacity_0f7a4_51 (lv_at hl 0 rfl) ?_
  refine lv_aload_n hx hb dJ5_newCapacity_0f7a4_53 rfl (lv_at hl 4 rfl) ?_
  refine va_get (D := D) (ci := 1) (v := .int 0) (C := RJ4) (T := TJ4) (N := 4) hx hb hts (by decide +kernel) hown hK hP 0 rfl rfl 1 (by decide) (hts (.fieldLink RJ5 22 "java/lang/AbstractStringBuilder" "coder" "B") (by decide +kernel)) (fun _ h9 => h9) rfl dJ5_newCapacity_0f7a4_54 ?_
  refine lv_ishr hx hb dJ5_newCapacity_0f7a4_57 ?_
  refine lv_topi (fun z_6 ez_6 => ?_)
  obtain rfl : z_6 = nI (k + max (q - k) (k + 2)) := ez_6.trans (sb_shr0 _)
  have hP9 := hP.sub (ws' := [(h, .inr (1, [.ref d, .int 0, .int ml, .int (nI n)])), (d, .inl (cB, k, .inl f))]) [0, 1] rfl
  have hD9 := hD.sub (ws' := [(h, .inr (1, [.ref d, .int 0, .int ml, .int (nI n)])), (d, .inl (cB, k, .inl f))]) [0, 1] (by decide) rfl
  have hK9 := hK.sub (tys' := [(cB, .byte)]) [0] rfl
  refine W.widen (k := 0) (n := 0) (by show 0 + 0 ≤ 0; omega) (by show 0 + 0 ≤ 0; omega) ?_
  exact W.iret (v := nI (k + max (q - k) (k + 2))) hx hb hr (zz_end hP9 hD9 hK9 hS (⟨rfl, rfl, rfl⟩)) hS.2.2 dJ5_newCapacity_0f7a4_58
set_option maxHeartbeats 4000000 in
set_option maxRecDepth 100000 in
theorem k_J7_copyOf_9075b (l : Launch) (D : va_G) (d : Nat) (k : Nat) (f : Nat → Int32) (cB : ClassId) (N : Nat) (hN : k < N) (hN2 : N ≤ 1500) (hf : sb_Fit f) : zz_M l yJ7_copyOf_9075b wsJ7_copyOf_9075b ({ frames := 2, cells := 1, slots := 1500, locals := 3000 }) D [.ref d, .int (nI N)] [(cB, .byte)] [(d, .inl (cB, k, .inl f))] (fun _ _ => True) (fun H0 H1 v w t => ∃ q2 : Nat, ∃ cA2 : ClassId, ∃ f2 : Nat → Int32, sb_Fit f2 ∧ v = some (.ref q2) ∧ w = [(d, .inl (cB, k, .inl f)), (q2, .inl (cA2, N, .inl f2))] ∧ t = [(cB, .byte), (cA2, .byte)]) := by
  refine zz_M.mk (cc := cJ7_copyOf_9075b) (maxL := 3) (ret := (some (.array .byte))) (by decide) rfl (Nat.le_of_ble_eq_true rfl) ?_
  intro p0 e0 s mt0 bl0 meth0 cd0 ls hC hname hP hK hD hX hl
  obtain ⟨hx, hb, hml, hr, hown, hts, hlocks⟩ := hC
  generalize hAe : va_A [(d, .inl (cB, k, .inl f))] s.heap.size = A at *
  have hA : ∀ q : Nat, s.heap.size ≤ q → A q := fun q h => by rw [← hAe]; exact Or.inr h
  obtain ⟨H, hHs⟩ : ∃ z : Heap, z = s.heap := ⟨_, rfl⟩
  rw [← hHs] at hP ⊢
  have hS : va_S A s.heap H [] := by rw [hHs]; exact va_S.rf
  have hl : lv_has ls 3 [(0, .ref d), (1, .int (nI N))] := hl
  refine lv_iload_n hx hb dJ7_copyOf_9075b_0 rfl (lv_at hl 1 rfl) ?_
  refine lv_aload_n hx hb dJ7_copyOf_9075b_1 rfl (lv_at hl 0 rfl) ?_
  refine va_alen hx hb hK hP 0 0 rfl rfl (v := nI k) rfl dJ7_copyOf_9075b_2 ?_
  refine lv_icmp_ne (tgt := 14) hx hb dJ7_copyOf_9075b_3 (by decide) (fun c_1 => ?_) (fun c_1 => absurd c_1 (fun z9 => by have := (nI_eq (by omega) (by omega)).mp z9; omega))
  refine lv_iload_n hx hb dJ7_copyOf_9075b_14 rfl (lv_at hl 1 rfl) ?_
  refine va_newa (atype := .byte) hx hb (hts (.arrayClass .byte) (by decide +kernel)) rfl hK hP hD hS hA (N' := N) (a0 := (N, .inl (fun _ => 0))) (fun _ => rfl) (nI_pos (by omega)) (nI_clamp (by omega)) (by show _ * 1 ≤ _; omega) (by show 0 + 1 ≤ 1; omega) (by show 0 + N ≤ 1500; omega) dJ7_copyOf_9075b_15 (fun q_2 cA_3 H hK hP hD hS => ?_)
  have hK : va_K D vwCl [(cB, .byte), (cA_3, .byte)] s := hK
  have hP : va_P D vwCl [(d, .inl (cB, k, .inl f)), (q_2, .inl (cA_3, N, .inl (fun _ => 0)))] H := hP
  have hD : va_D A [(d, .inl (cB, k, .inl f)), (q_2, .inl (cA_3, N, .inl (fun _ => 0)))] := hD
  refine lv_astore_n (lv' := [(2, .ref q_2), (0, .ref d), (1, .int (nI N))]) hx hb dJ7_copyOf_9075b_17 rfl hl (by decide) rfl (fun ls hl => ?_)
  refine lv_aload_n hx hb dJ7_copyOf_9075b_18 rfl (lv_at hl 1 rfl) ?_
  refine lv_iconst (v := 0) hx hb dJ7_copyOf_9075b_19 (by decide) ?_
  refine lv_aload_n hx hb dJ7_copyOf_9075b_20 rfl (lv_at hl 0 rfl) ?_
  refine lv_iconst (v := 0) hx hb dJ7_copyOf_9075b_21 (by decide) ?_
  refine lv_aload_n hx hb dJ7_copyOf_9075b_22 rfl (lv_at hl 1 rfl) ?_
  refine va_alen hx hb hK hP 0 0 rfl rfl (v := nI k) rfl dJ7_copyOf_9075b_23 ?_
  refine lv_iload_n hx hb dJ7_copyOf_9075b_24 rfl (lv_at hl 2 rfl) ?_
  refine va_mmin hx hb (by rw [hml]; exact hl.1.symm) hown (hts (.methodLink RJ7 304 Lib.Math.min.name) (by decide +kernel)) (hts (.static Lib.Math.min.name) (by decide +kernel)) (hts (.initialized "java/lang/Math") (by decide +kernel)) (hts (.code Lib.Math.min.name Lib.Math.min.code 2 (some .int)) (by decide +kernel)) (Nat.le_of_ble_eq_true rfl) (Nat.le_of_ble_eq_true rfl) (by show 0 + 1 ≤ 1; omega) (by show 0 + N ≤ 1500; omega) dJ7_copyOf_9075b_25 ?_
  refine lv_topi (fun z_4 ez_4 => ?_)
  obtain rfl : z_4 = nI k := ez_4.trans ((zz_min (by omega) (by omega)).trans (by rw [Nat.min_eq_left (by omega)]))
  refine va_copyi hx hb (by rw [hml]; exact hl.1.symm) hown (hts (.methodLink RJ7 150 arraycopyName) (by decide +kernel)) (hts (.native arraycopyName) (by decide +kernel)) (hts (.static arraycopyName) (by decide +kernel)) (hts (.initialized "java/lang/System") (by decide +kernel)) hK hP hD hS 0 1 0 1 (ty := .byte) rfl rfl rfl rfl rfl (by decide) (by decide) (nI_pos (by omega)) (by rw [nI_clamp (by omega), sb_cl0]; omega) (by rw [nI_clamp (by omega), sb_cl0]; omega) (fun i _ => hf _) (Nat.le_of_ble_eq_true rfl) (Nat.le_of_ble_eq_true rfl) dJ7_copyOf_9075b_28 (fun H locs hP hD hS => ?_)
  have hP : va_P D vwCl [(d, .inl (cB, k, .inl f)), (q_2, .inl (cA_3, N, .inl (va_cpy f (fun _ => 0) (0 : Int32).toNatClampNeg (0 : Int32).toNatClampNeg (nI k : Int32).toNatClampNeg)))] H := hP
  have hD : va_D A [(d, .inl (cB, k, .inl f)), (q_2, .inl (cA_3, N, .inl (va_cpy f (fun _ => 0) (0 : Int32).toNatClampNeg (0 : Int32).toNatClampNeg (nI k : Int32).toNatClampNeg)))] := hD
  refine lv_aload_n hx hb dJ7_copyOf_9075b_31 rfl (lv_at hl 0 rfl) ?_
  have hP9 := hP.sub (ws' := [(d, .inl (cB, k, .inl f)), (q_2, .inl (cA_3, N, .inl (va_cpy f (fun _ => 0) (0 : Int32).toNatClampNeg (0 : Int32).toNatClampNeg (nI k : Int32).toNatClampNeg)))]) [0, 1] rfl
  have hD9 := hD.sub (ws' := [(d, .inl (cB, k, .inl f)), (q_2, .inl (cA_3, N, .inl (va_cpy f (fun _ => 0) (0 : Int32).toNatClampNeg (0 : Int32).toNatClampNeg (nI k : Int32).toNatClampNeg)))]) [0, 1] (by decide) rfl
  have hK9 := hK.sub (tys' := [(cB, .byte), (cA_3, .byte)]) [0, 1] rfl
  refine W.widen (k := 1) (n := 1500) (by show 0 + 1 ≤ 1; omega) (by show 0 + N ≤ 1500; omega) ?_
  exact W.aret (v := .ref q_2) hx hb hr (Or.inr ⟨_, rfl⟩) (Or.inr ⟨_, rfl⟩) (zz_end hP9 hD9 hK9 hS (⟨_, _, _, sb_fitC hf sb_fit0, rfl, rfl, rfl⟩)) hS.2.2 dJ7_copyOf_9075b_32
set_option maxHeartbeats 4000000 in
set_option maxRecDepth 100000 in
theorem k_J5_ensureCapacityInternal_d00df (l : Launch) (D : va_G) (h : Nat) (d : Nat) (ml : Int32) (n : Nat) (k : Nat) (f : Nat → Int32) (cB : ClassId) (q : Nat) (hq : q ≤ 400) (hk : k ≤ 1500) (hf : sb_Fit f) : zz_M l yJ5_ensureCapacityInternal_d00df wsJ5_ensureCapacityInternal_d00df ({ frames := 4, cells := 1, slots := 1500, locals := 3100 }) D [.ref h, .int (nI q)] [(cB, .byte)] [(h, .inr (1, [.ref d, .int 0, .int ml, .int (nI n)])), (d, .inl (cB, k, .inl f))] (fun _ _ => True) (fun H0 H1 v w t => ∃ d2 : Nat, ∃ cA2 : ClassId, ∃ f2 : Nat → Int32, sb_Fit f2 ∧ v = none ∧ w = [(h, .inr (1, [.ref d2, .int 0, .int ml, .int (nI n)])), (d2, .inl (cA2, (zz_cap q k), .inl f2))] ∧ t = [(cA2, .byte)]) := by
  refine zz_M.mk (cc := cJ5_ensureCapacityInternal_d00df) (maxL := 3) (ret := none) (by decide) rfl (Nat.le_of_ble_eq_true rfl) ?_
  intro p0 e0 s mt0 bl0 meth0 cd0 ls hC hname hP hK hD hX hl
  obtain ⟨hx, hb, hml, hr, hown, hts, hlocks⟩ := hC
  generalize hAe : va_A [(h, .inr (1, [.ref d, .int 0, .int ml, .int (nI n)])), (d, .inl (cB, k, .inl f))] s.heap.size = A at *
  have hA : ∀ q : Nat, s.heap.size ≤ q → A q := fun q h => by rw [← hAe]; exact Or.inr h
  obtain ⟨H, hHs⟩ : ∃ z : Heap, z = s.heap := ⟨_, rfl⟩
  rw [← hHs] at hP ⊢
  have hS : va_S A s.heap H [] := by rw [hHs]; exact va_S.rf
  have hl : lv_has ls 3 [(0, .ref h), (1, .int (nI q))] := hl
  refine lv_aload_n hx hb dJ5_ensureCapacityInternal_d00df_0 rfl (lv_at hl 0 rfl) ?_
  refine va_get (D := D) (ci := 1) (v := .ref d) (C := RJ4) (T := TJ4) (N := 4) hx hb hts (by decide +kernel) hown hK hP 0 rfl rfl 0 (by decide) (hts (.fieldLink RJ5 15 "java/lang/AbstractStringBuilder" "value" "[B") (by decide +kernel)) (fun _ h9 => h9) rfl dJ5_ensureCapacityInternal_d00df_1 ?_
  refine va_alen hx hb hK hP 1 0 rfl rfl (v := nI k) rfl dJ5_ensureCapacityInternal_d00df_4 ?_
  refine lv_aload_n hx hb dJ5_ensureCapacityInternal_d00df_5 rfl (lv_at hl 0 rfl) ?_
  refine va_get (D := D) (ci := 1) (v := .int 0) (C := RJ4) (T := TJ4) (N := 4) hx hb hts (by decide +kernel) hown hK hP 0 rfl rfl 1 (by decide) (hts (.fieldLink RJ5 22 "java/lang/AbstractStringBuilder" "coder" "B") (by decide +kernel)) (fun _ h9 => h9) rfl dJ5_ensureCapacityInternal_d00df_6 ?_
  refine lv_ishr hx hb dJ5_ensureCapacityInternal_d00df_9 ?_
  refine lv_topi (fun z_1 ez_1 => ?_)
  obtain rfl : z_1 = nI k := ez_1.trans (sb_shr0 _)
  refine lv_istore_n (lv' := [(2, .int (nI k)), (0, .ref h), (1, .int (nI q))]) hx hb dJ5_ensureCapacityInternal_d00df_10 rfl hl (by decide) rfl (fun ls hl => ?_)
  refine lv_iload_n hx hb dJ5_ensureCapacityInternal_d00df_11 rfl (lv_at hl 2 rfl) ?_
  refine lv_iload_n hx hb dJ5_ensureCapacityInternal_d00df_12 rfl (lv_at hl 0 rfl) ?_
  refine lv_isub hx hb dJ5_ensureCapacityInternal_d00df_13 ?_
  refine lv_topi (fun z_2 ez_2 => ?_)
  have ez : z_2.toInt = (q : Int) - k := by rw [ez_2]; exact pk_sub_toInt (by omega) (by omega)
  by_cases hqk : q ≤ k
  · refine lv_if_le (tgt := 38) hx hb dJ5_ensureCapacityInternal_d00df_14 (by decide) (fun c_3 => ?_) (fun c_3 => absurd (by rw [Int32.le_iff_toInt_le, ez, Int32.toInt_zero]; omega) c_3)
    have hP9 := hP.sub (ws' := [(h, .inr (1, [.ref d, .int 0, .int ml, .int (nI n)])), (d, .inl (cB, k, .inl f))]) [0, 1] rfl
    have hD9 := hD.sub (ws' := [(h, .inr (1, [.ref d, .int 0, .int ml, .int (nI n)])), (d, .inl (cB, k, .inl f))]) [0, 1] (by decide) rfl
    have hK9 := hK.sub (tys' := [(cB, .byte)]) [0] rfl
    refine W.widen (k := 1) (n := 1500) (by show 0 ≤ 1; omega) (by show 0 ≤ 1500; omega) ?_
    exact W.vret hx hb hr (zz_end hP9 hD9 hK9 hS (by rw [show zz_cap q k = k from if_pos hqk]; exact ⟨_, _, _, hf, rfl, rfl, rfl⟩)) hS.2.2 dJ5_ensureCapacityInternal_d00df_38
  · have hN2 : k + max (q - k) (k + 2) ≤ 1500 := by omega
    refine lv_if_le (tgt := 38) hx hb dJ5_ensureCapacityInternal_d00df_14 (by decide) (fun c_4 => absurd c_4 (by rw [Int32.le_iff_toInt_le, ez, Int32.toInt_zero]; omega)) (fun c_4 => ?_)
    refine lv_aload_n hx hb dJ5_ensureCapacityInternal_d00df_17 rfl (lv_at hl 1 rfl) ?_
    refine lv_aload_n hx hb dJ5_ensureCapacityInternal_d00df_18 rfl (lv_at hl 1 rfl) ?_
    refine va_get (D := D) (ci := 1) (v := .ref d) (C := RJ4) (T := TJ4) (N := 4) hx hb hts (by decide +kernel) hown hK hP 0 rfl rfl 0 (by decide) (hts (.fieldLink RJ5 15 "java/lang/AbstractStringBuilder" "value" "[B") (by decide +kernel)) (fun _ h9 => h9) rfl dJ5_ensureCapacityInternal_d00df_19 ?_
    refine lv_aload_n hx hb dJ5_ensureCapacityInternal_d00df_22 rfl (lv_at hl 1 rfl) ?_
    refine lv_iload_n hx hb dJ5_ensureCapacityInternal_d00df_23 rfl (lv_at hl 2 rfl) ?_
    have hFc := va_free (wc := [(h, .inr (1, [.ref d, .int 0, .int ml, .int (nI n)])), (d, .inl (cB, k, .inl f))]) hD hS hA [0, 1] rfl
    refine zz_after (wr := []) (va_runU (As := [.int (nI q)]) (rest := [.ref d, .ref h]) ⟨hx, hb, hml, hown, hts⟩ ((k_J5_newCapacity_0f7a4 l D h d ml n k f cB q (by omega) (by omega)) H.size) (va_cwU 1 hts gJ5_ensureCapacityInternal_d00df_J5_newCapacity_0f7a4_u104J4 rfl rfl rfl rfl (by decide +kernel) ⟨Nat.le_of_ble_eq_true rfl, Nat.le_of_ble_eq_true rfl⟩) (zz_pV (zz_pre (av := [.ref h, .int (nI q)]) (tyc := [(cB, .byte)]) (wc := [(h, .inr (1, [.ref d, .int 0, .int ml, .int (nI n)])), (d, .inl (cB, k, .inl f))]) (X := fun _ _ => True) (Xc := (fun _ _ => True)) hP hD hK hS [0, 1] [0] rfl (by decide) rfl zz_St_tt (fun _ _ _ => trivial)) (va_recv hK hP (ci := 1) (q0 := 0) rfl rfl)) rfl rfl hl.1 rfl (lv_room (Nat.le_of_ble_eq_true rfl)) dJ5_ensureCapacityInternal_d00df_24 ⟨by show 0 + 0 ≤ 1; omega, by show 0 + 0 ≤ 1500; omega⟩) hP hD hK hS hFc [0, 1] [] rfl rfl (by decide) (by decide) (fun v w1 ty1 H1 locs hq9 hz9 hk9 hP1 hD1 hK1 hS1 => ?_)
    obtain ⟨rfl, rfl, rfl⟩ := hq9
    clear hS hP hD hK hFc
    have hP : va_P D vwCl [(h, .inr (1, [.ref d, .int 0, .int ml, .int (nI n)])), (d, .inl (cB, k, .inl f))] H1 := hP1
    have hD : va_D A [(h, .inr (1, [.ref d, .int 0, .int ml, .int (nI n)])), (d, .inl (cB, k, .inl f))] := hD1
    have hK : va_K D vwCl [(cB, .byte), (cB, .byte)] s := hK1
    have hS := hS1
    clear hP1 hD1 hK1 hS1
    obtain ⟨H, rfl⟩ : ∃ z, z = H1 := ⟨_, rfl⟩
    refine W.eq (g2 := F0 mt0 27 ls [.int (nI (k + max (q - k) (k + 2))), .ref d, .ref h]) rfl ?_
    refine lv_aload_n hx hb dJ5_ensureCapacityInternal_d00df_27 rfl (lv_at hl 1 rfl) ?_
    refine va_get (D := D) (ci := 1) (v := .int 0) (C := RJ4) (T := TJ4) (N := 4) hx hb hts (by decide +kernel) hown hK hP 0 rfl rfl 1 (by decide) (hts (.fieldLink RJ5 22 "java/lang/AbstractStringBuilder" "coder" "B") (by decide +kernel)) (fun _ h9 => h9) rfl dJ5_ensureCapacityInternal_d00df_28 ?_
    refine lv_ishl hx hb dJ5_ensureCapacityInternal_d00df_31 ?_
    refine lv_topi (fun z_5 ez_5 => ?_)
    obtain rfl : z_5 = nI (k + max (q - k) (k + 2)) := ez_5.trans (sb_shl0 _)
    have hFc := va_free (wc := [(d, .inl (cB, k, .inl f))]) hD hS hA [1] rfl
    refine zz_after (wr := [(h, .inr (1, [.ref d, .int 0, .int ml, .int (nI n)]))]) (va_runS (As := [.ref d, .int (nI (k + max (q - k) (k + 2)))]) (rest := [.ref h]) ⟨hx, hb, hml, hown, hts⟩ ((k_J7_copyOf_9075b l D d k f cB (k + max (q - k) (k + 2)) (by omega) (hN2) (hf)) H.size) (va_cwS 2 hts gJ5_ensureCapacityInternal_d00df_J7_copyOf_9075b rfl rfl rfl (by decide +kernel) ⟨Nat.le_of_ble_eq_true rfl, Nat.le_of_ble_eq_true rfl⟩) (zz_pre (av := [.ref d, .int (nI (k + max (q - k) (k + 2)))]) (tyc := [(cB, .byte)]) (wc := [(d, .inl (cB, k, .inl f))]) (X := fun _ _ => True) (Xc := (fun _ _ => True)) hP hD hK hS [1] [0] rfl (by decide) rfl zz_St_tt (fun _ _ _ => trivial)) rfl rfl hl.1 rfl (lv_room (Nat.le_of_ble_eq_true rfl)) dJ5_ensureCapacityInternal_d00df_32 ⟨by show 0 + 0 + 1 ≤ 1; omega, by show 0 + 0 + 1500 ≤ 1500; omega⟩) hP hD hK hS hFc [1] [0] rfl rfl (by decide) (by decide) (fun v w1 ty1 H1 locs hq9 hz9 hk9 hP1 hD1 hK1 hS1 => ?_)
    obtain ⟨q2_6, cA2_7, f2_8, h_9, rfl, rfl, rfl⟩ := hq9
    clear hS hP hD hK hFc
    have hP : va_P D vwCl [(h, .inr (1, [.ref d, .int 0, .int ml, .int (nI n)])), (d, .inl (cB, k, .inl f)), (q2_6, .inl (cA2_7, (k + max (q - k) (k + 2)), .inl f2_8))] H1 := hP1
    have hD : va_D A [(h, .inr (1, [.ref d, .int 0, .int ml, .int (nI n)])), (d, .inl (cB, k, .inl f)), (q2_6, .inl (cA2_7, (k + max (q - k) (k + 2)), .inl f2_8))] := hD1
    have hK : va_K D vwCl [(cB, .byte), (cB, .byte), (cB, .byte), (cA2_7, .byte)] s := hK1
    have hS := hS1
    clear hP1 hD1 hK1 hS1
    obtain ⟨H, rfl⟩ : ∃ z, z = H1 := ⟨_, rfl⟩
    refine W.eq (g2 := F0 mt0 35 ls [.ref q2_6, .ref h]) rfl ?_
    refine va_put (D := D) (ci := 1) (v := .ref q2_6) (ty := .array .byte) (C := RJ4) (T := TJ4) (N := 4) hx hb hts (by decide +kernel) tyJ4 tyJ4_ok nmJ4 hown hK hP hD hS 0 rfl rfl 0 (by decide) (hts (.fieldLink RJ5 15 "java/lang/AbstractStringBuilder" "value" "[B") (by decide +kernel)) (fun _ h9 => h9) rfl (by decide +kernel) rfl rfl (Nat.le_of_ble_eq_true rfl) dJ5_ensureCapacityInternal_d00df_35 (fun H locs hP hD hS => ?_)
    have hP : va_P D vwCl [(h, .inr (1, [.ref q2_6, .int 0, .int ml, .int (nI n)])), (d, .inl (cB, k, .inl f)), (q2_6, .inl (cA2_7, (k + max (q - k) (k + 2)), .inl f2_8))] H := hP
    have hD : va_D A [(h, .inr (1, [.ref q2_6, .int 0, .int ml, .int (nI n)])), (d, .inl (cB, k, .inl f)), (q2_6, .inl (cA2_7, (k + max (q - k) (k + 2)), .inl f2_8))] := hD
    have hP9 := hP.sub (ws' := [(h, .inr (1, [.ref q2_6, .int 0, .int ml, .int (nI n)])), (q2_6, .inl (cA2_7, (k + max (q - k) (k + 2)), .inl f2_8))]) [0, 2] rfl
    have hD9 := hD.sub (ws' := [(h, .inr (1, [.ref q2_6, .int 0, .int ml, .int (nI n)])), (q2_6, .inl (cA2_7, (k + max (q - k) (k + 2)), .inl f2_8))]) [0, 2] (by decide) rfl
    have hK9 := hK.sub (tys' := [(cA2_7, .byte)]) [3] rfl
    refine W.widen (k := 1) (n := 1500) (by show 0 + 0 + 1 ≤ 1; omega) (by show 0 + 0 + 1500 ≤ 1500; omega) ?_
    exact W.vret hx hb hr (zz_end hP9 hD9 hK9 hS (by rw [show zz_cap q k = k + max (q - k) (k + 2) from if_neg hqk]; exact ⟨_, _, _, h_9, rfl, rfl, rfl⟩)) hS.2.2 dJ5_ensureCapacityInternal_d00df_38
