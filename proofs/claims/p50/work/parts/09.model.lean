set_option maxHeartbeats 4000000 in
set_option maxRecDepth 100000 in
theorem k_X5_isIn (l : Launch) (D : va_G) (x : Int32) (y : Int32) (z : Int32) (h1 : ¬ x < y) (h2 : ¬ z < x) : zz_M l yX5_isIn wsX5_isIn ({ frames := 1, cells := 0, slots := 0, locals := 40 }) D [.int x, .int y, .int z] [] [] (fun _ _ => True) (fun H0 H1 v w t => v = some (.int 1) ∧ w = [] ∧ t = []) := by
  refine zz_M.mk (cc := cX5_isIn) (maxL := 3) (ret := (some .boolean)) (by decide) rfl (Nat.le_of_ble_eq_true rfl) ?_
  intro p0 e0 s mt0 bl0 meth0 cd0 ls hC hname hP hK hD hX hl
  obtain ⟨hx, hb, hml, hr, hown, hts, hlocks⟩ := hC
  generalize hAe : va_A [] s.heap.size = A at *
  have hA : ∀ q : Nat, s.heap.size ≤ q → A q := fun q h => by rw [← hAe]; exact Or.inr h
  obtain ⟨H, hHs⟩ : ∃ z : Heap, z = s.heap := ⟨_, rfl⟩
  rw [← hHs] at hP ⊢
  have hS : va_S A s.heap H [] := by rw [hHs]; exact va_S.rf
  have hl : lv_has ls 3 [(0, .int x), (1, .int y), (2, .int z)] := hl
  refine lv_iload_n hx hb dX5_isIn_0 rfl (lv_at hl 0 rfl) ?_
  refine lv_iload_n hx hb dX5_isIn_1 rfl (lv_at hl 1 rfl) ?_
  refine lv_icmp_lt (tgt := 14) hx hb dX5_isIn_2 (by decide) (fun c_1 => absurd c_1 (h1)) (fun c_1 => ?_)
  refine lv_iload_n hx hb dX5_isIn_5 rfl (lv_at hl 0 rfl) ?_
  refine lv_iload_n hx hb dX5_isIn_6 rfl (lv_at hl 2 rfl) ?_
  refine lv_icmp_gt (tgt := 14) hx hb dX5_isIn_7 (by decide) (fun c_2 => absurd c_2 (h2)) (fun c_2 => ?_)
  refine lv_iconst (v := 1) hx hb dX5_isIn_10 (by decide) ?_
  refine lv_goto (tgt := 15) hx hb dX5_isIn_11 (by decide) ?_
  have hP9 := hP.sub (ws' := []) [] rfl
  have hD9 := hD.sub (ws' := []) [] (by decide) rfl
  have hK9 := hK.sub (tys' := []) [] rfl
  refine W.widen (k := 0) (n := 0) (by show 0 ≤ 0; omega) (by show 0 ≤ 0; omega) ?_
  exact W.zret (v := 1) hx hb hr (rfl) (zz_end hP9 hD9 hK9 hS (⟨rfl, rfl, rfl⟩)) hS.2.2 dX5_isIn_15
set_option maxHeartbeats 4000000 in
set_option maxRecDepth 100000 in
theorem k_X5_isNo (l : Launch) (D : va_G)  : zz_M l yX5_isNo wsX5_isNo ({ frames := 2, cells := 0, slots := 0, locals := 100 }) D [.int 0] [] [] (fun _ _ => True) (fun H0 H1 v w t => v = some (.int 0) ∧ w = [] ∧ t = []) := by
  refine zz_M.mk (cc := cX5_isNo) (maxL := 1) (ret := (some .boolean)) (by decide) rfl (Nat.le_of_ble_eq_true rfl) ?_
  intro p0 e0 s mt0 bl0 meth0 cd0 ls hC hname hP hK hD hX hl
  obtain ⟨hx, hb, hml, hr, hown, hts, hlocks⟩ := hC
  generalize hAe : va_A [] s.heap.size = A at *
  have hA : ∀ q : Nat, s.heap.size ≤ q → A q := fun q h => by rw [← hAe]; exact Or.inr h
  obtain ⟨H, hHs⟩ : ∃ z : Heap, z = s.heap := ⟨_, rfl⟩
  rw [← hHs] at hP ⊢
  have hS : va_S A s.heap H [] := by rw [hHs]; exact va_S.rf
  have hl : lv_has ls 1 [(0, .int 0)] := hl
  refine lv_iload_n hx hb dX5_isNo_0 rfl (lv_at hl 0 rfl) ?_
  refine lv_iconst (v := 0) hx hb dX5_isNo_1 (by decide) ?_
  refine lv_iconst (v := 3) hx hb dX5_isNo_2 (by decide) ?_
  have hFc := va_free (wc := []) hD hS hA [] rfl
  refine zz_after (wr := []) (va_runS (As := [.int 0, .int 0, .int 3]) (rest := []) ⟨hx, hb, hml, hown, hts⟩ ((k_X5_isIn l D 0 0 3 (by decide) (by decide)) H.size) (va_cwS 3 hts gX5_isNo_X5_isIn rfl rfl rfl (by decide +kernel) ⟨Nat.le_of_ble_eq_true rfl, Nat.le_of_ble_eq_true rfl⟩) (zz_pre (av := [.int 0, .int 0, .int 3]) (tyc := []) (wc := []) (X := fun _ _ => True) (Xc := (fun _ _ => True)) hP hD hK hS [] [] rfl (by decide) rfl zz_St_tt (fun _ _ _ => trivial)) rfl rfl hl.1 rfl (lv_room (Nat.le_of_ble_eq_true rfl)) dX5_isNo_3 ⟨by show 0 + 0 ≤ 0; omega, by show 0 + 0 ≤ 0; omega⟩) hP hD hK hS hFc [] [] rfl rfl (by decide) (by decide) (fun v w1 ty1 H1 locs hq9 hz9 hk9 hP1 hD1 hK1 hS1 => ?_)
  obtain ⟨rfl, rfl, rfl⟩ := hq9
  clear hS hP hD hK hFc
  have hP : va_P D vwCl [] H1 := hP1
  have hD : va_D A [] := hD1
  have hK : va_K D vwCl [] s := hK1
  have hS := hS1
  clear hP1 hD1 hK1 hS1
  obtain ⟨H, rfl⟩ : ∃ z, z = H1 := ⟨_, rfl⟩
  refine W.eq (g2 := F0 mt0 6 ls [.int 1]) rfl ?_
  refine lv_if_ne (tgt := 13) hx hb dX5_isNo_6 (by decide) (fun c_1 => ?_) (fun c_1 => absurd c_1 (by decide))
  refine lv_iconst (v := 0) hx hb dX5_isNo_13 (by decide) ?_
  have hP9 := hP.sub (ws' := []) [] rfl
  have hD9 := hD.sub (ws' := []) [] (by decide) rfl
  have hK9 := hK.sub (tys' := []) [] rfl
  refine W.widen (k := 0) (n := 0) (by show 0 + 0 ≤ 0; omega) (by show 0 + 0 ≤ 0; omega) ?_
  exact W.zret (v := 0) hx hb hr (rfl) (zz_end hP9 hD9 hK9 hS (⟨rfl, rfl, rfl⟩)) hS.2.2 dX5_isNo_14
set_option maxHeartbeats 4000000 in
set_option maxRecDepth 100000 in
theorem k_X5_isNoName (l : Launch) (D : va_G) (n : Nat) (hn : n < 64) : zz_M l yX5_isNoName wsX5_isNoName ({ frames := 2, cells := 0, slots := 0, locals := 100 }) D [.int (nI n)] [] [] (fun _ _ => True) (fun H0 H1 v w t => v = some (.int 0) ∧ w = [] ∧ t = []) := by
  refine zz_M.mk (cc := cX5_isNoName) (maxL := 1) (ret := (some .boolean)) (by decide) rfl (Nat.le_of_ble_eq_true rfl) ?_
  intro p0 e0 s mt0 bl0 meth0 cd0 ls hC hname hP hK hD hX hl
  obtain ⟨hx, hb, hml, hr, hown, hts, hlocks⟩ := hC
  generalize hAe : va_A [] s.heap.size = A at *
  have hA : ∀ q : Nat, s.heap.size ≤ q → A q := fun q h => by rw [← hAe]; exact Or.inr h
  obtain ⟨H, hHs⟩ : ∃ z : Heap, z = s.heap := ⟨_, rfl⟩
  rw [← hHs] at hP ⊢
  have hS : va_S A s.heap H [] := by rw [hHs]; exact va_S.rf
  have hl : lv_has ls 1 [(0, .int (nI n))] := hl
  refine lv_iload_n hx hb dX5_isNoName_0 rfl (lv_at hl 0 rfl) ?_
  refine lv_iconst (v := 0) hx hb dX5_isNoName_1 (by decide) ?_
  refine lv_bipush (v := 63) hx hb dX5_isNoName_2 (by decide) ?_
  have hFc := va_free (wc := []) hD hS hA [] rfl
  refine zz_after (wr := []) (va_runS (As := [.int (nI n), .int 0, .int 63]) (rest := []) ⟨hx, hb, hml, hown, hts⟩ ((k_X5_isIn l D (nI n) 0 63 (nI_pos (by omega)) (show ¬ nI 63 < nI n from nI_nlt (by omega) (by decide))) H.size) (va_cwS 3 hts gX5_isNoName_X5_isIn rfl rfl rfl (by decide +kernel) ⟨Nat.le_of_ble_eq_true rfl, Nat.le_of_ble_eq_true rfl⟩) (zz_pre (av := [.int (nI n), .int 0, .int 63]) (tyc := []) (wc := []) (X := fun _ _ => True) (Xc := (fun _ _ => True)) hP hD hK hS [] [] rfl (by decide) rfl zz_St_tt (fun _ _ _ => trivial)) rfl rfl hl.1 rfl (lv_room (Nat.le_of_ble_eq_true rfl)) dX5_isNoName_4 ⟨by show 0 + 0 ≤ 0; omega, by show 0 + 0 ≤ 0; omega⟩) hP hD hK hS hFc [] [] rfl rfl (by decide) (by decide) (fun v w1 ty1 H1 locs hq9 hz9 hk9 hP1 hD1 hK1 hS1 => ?_)
  obtain ⟨rfl, rfl, rfl⟩ := hq9
  clear hS hP hD hK hFc
  have hP : va_P D vwCl [] H1 := hP1
  have hD : va_D A [] := hD1
  have hK : va_K D vwCl [] s := hK1
  have hS := hS1
  clear hP1 hD1 hK1 hS1
  obtain ⟨H, rfl⟩ : ∃ z, z = H1 := ⟨_, rfl⟩
  refine W.eq (g2 := F0 mt0 7 ls [.int 1]) rfl ?_
  refine lv_if_ne (tgt := 14) hx hb dX5_isNoName_7 (by decide) (fun c_1 => ?_) (fun c_1 => absurd c_1 (by decide))
  refine lv_iconst (v := 0) hx hb dX5_isNoName_14 (by decide) ?_
  have hP9 := hP.sub (ws' := []) [] rfl
  have hD9 := hD.sub (ws' := []) [] (by decide) rfl
  have hK9 := hK.sub (tys' := []) [] rfl
  refine W.widen (k := 0) (n := 0) (by show 0 + 0 ≤ 0; omega) (by show 0 + 0 ≤ 0; omega) ?_
  exact W.zret (v := 0) hx hb hr (rfl) (zz_end hP9 hD9 hK9 hS (⟨rfl, rfl, rfl⟩)) hS.2.2 dX5_isNoName_15
set_option maxHeartbeats 4000000 in
set_option maxRecDepth 100000 in
theorem k_X5_isNoWorth (l : Launch) (D : va_G)  : zz_M l yX5_isNoWorth wsX5_isNoWorth ({ frames := 2, cells := 0, slots := 0, locals := 100 }) D [.int 99] [] [] (fun _ _ => True) (fun H0 H1 v w t => v = some (.int 0) ∧ w = [] ∧ t = []) := by
  refine zz_M.mk (cc := cX5_isNoWorth) (maxL := 1) (ret := (some .boolean)) (by decide) rfl (Nat.le_of_ble_eq_true rfl) ?_
  intro p0 e0 s mt0 bl0 meth0 cd0 ls hC hname hP hK hD hX hl
  obtain ⟨hx, hb, hml, hr, hown, hts, hlocks⟩ := hC
  generalize hAe : va_A [] s.heap.size = A at *
  have hA : ∀ q : Nat, s.heap.size ≤ q → A q := fun q h => by rw [← hAe]; exact Or.inr h
  obtain ⟨H, hHs⟩ : ∃ z : Heap, z = s.heap := ⟨_, rfl⟩
  rw [← hHs] at hP ⊢
  have hS : va_S A s.heap H [] := by rw [hHs]; exact va_S.rf
  have hl : lv_has ls 1 [(0, .int 99)] := hl
  refine lv_iload_n hx hb dX5_isNoWorth_0 rfl (lv_at hl 0 rfl) ?_
  refine lv_iconst (v := 0) hx hb dX5_isNoWorth_1 (by decide) ?_
  refine lv_bipush (v := 99) hx hb dX5_isNoWorth_2 (by decide) ?_
  have hFc := va_free (wc := []) hD hS hA [] rfl
  refine zz_after (wr := []) (va_runS (As := [.int 99, .int 0, .int 99]) (rest := []) ⟨hx, hb, hml, hown, hts⟩ ((k_X5_isIn l D 99 0 99 (by decide) (by decide)) H.size) (va_cwS 3 hts gX5_isNoWorth_X5_isIn rfl rfl rfl (by decide +kernel) ⟨Nat.le_of_ble_eq_true rfl, Nat.le_of_ble_eq_true rfl⟩) (zz_pre (av := [.int 99, .int 0, .int 99]) (tyc := []) (wc := []) (X := fun _ _ => True) (Xc := (fun _ _ => True)) hP hD hK hS [] [] rfl (by decide) rfl zz_St_tt (fun _ _ _ => trivial)) rfl rfl hl.1 rfl (lv_room (Nat.le_of_ble_eq_true rfl)) dX5_isNoWorth_4 ⟨by show 0 + 0 ≤ 0; omega, by show 0 + 0 ≤ 0; omega⟩) hP hD hK hS hFc [] [] rfl rfl (by decide) (by decide) (fun v w1 ty1 H1 locs hq9 hz9 hk9 hP1 hD1 hK1 hS1 => ?_)
  obtain ⟨rfl, rfl, rfl⟩ := hq9
  clear hS hP hD hK hFc
  have hP : va_P D vwCl [] H1 := hP1
  have hD : va_D A [] := hD1
  have hK : va_K D vwCl [] s := hK1
  have hS := hS1
  clear hP1 hD1 hK1 hS1
  obtain ⟨H, rfl⟩ : ∃ z, z = H1 := ⟨_, rfl⟩
  refine W.eq (g2 := F0 mt0 7 ls [.int 1]) rfl ?_
  refine lv_if_ne (tgt := 14) hx hb dX5_isNoWorth_7 (by decide) (fun c_1 => ?_) (fun c_1 => absurd c_1 (by decide))
  refine lv_iconst (v := 0) hx hb dX5_isNoWorth_14 (by decide) ?_
  have hP9 := hP.sub (ws' := []) [] rfl
  have hD9 := hD.sub (ws' := []) [] (by decide) rfl
  have hK9 := hK.sub (tys' := []) [] rfl
  refine W.widen (k := 0) (n := 0) (by show 0 + 0 ≤ 0; omega) (by show 0 + 0 ≤ 0; omega) ?_
  exact W.zret (v := 0) hx hb hr (rfl) (zz_end hP9 hD9 hK9 hS (⟨rfl, rfl, rfl⟩)) hS.2.2 dX5_isNoWorth_15
set_option maxHeartbeats 4000000 in
set_option maxRecDepth 100000 in
theorem k_X5_fails (l : Launch) (D : va_G) (h : Nat) (th : Int32) (ho : Nat) (hd : Nat) (hs : Nat) (hu : Nat) (hv : Nat) (kn : Int32) : zz_M l yX5_fails wsX5_fails ({ frames := 1, cells := 0, slots := 0, locals := 40 }) D [.ref h, .int 0, .int 0, .int 0] [] [(h, .inr (9, [.int th, .ref ho, .ref hd, .ref hs, .ref hu, .ref hv, .int kn]))] (fun _ _ => True) (fun H0 H1 v w t => v = some (.int 0) ∧ w = [(h, .inr (9, [.int 0, .ref ho, .ref hd, .ref hs, .ref hu, .ref hv, .int kn]))] ∧ t = []) := by
  refine zz_M.mk (cc := cX5_fails) (maxL := 4) (ret := (some .boolean)) (by decide) rfl (Nat.le_of_ble_eq_true rfl) ?_
  intro p0 e0 s mt0 bl0 meth0 cd0 ls hC hname hP hK hD hX hl
  obtain ⟨hx, hb, hml, hr, hown, hts, hlocks⟩ := hC
  generalize hAe : va_A [(h, .inr (9, [.int th, .ref ho, .ref hd, .ref hs, .ref hu, .ref hv, .int kn]))] s.heap.size = A at *
  have hA : ∀ q : Nat, s.heap.size ≤ q → A q := fun q h => by rw [← hAe]; exact Or.inr h
  obtain ⟨H, hHs⟩ : ∃ z : Heap, z = s.heap := ⟨_, rfl⟩
  rw [← hHs] at hP ⊢
  have hS : va_S A s.heap H [] := by rw [hHs]; exact va_S.rf
  have hl : lv_has ls 4 [(0, .ref h), (1, .int 0), (2, .int 0), (3, .int 0)] := hl
  refine lv_aload_n hx hb dX5_fails_0 rfl (lv_at hl 0 rfl) ?_
  refine lv_iload_n hx hb dX5_fails_1 rfl (lv_at hl 1 rfl) ?_
  refine lv_if_eq (tgt := 9) hx hb dX5_fails_2 (by decide) (fun c_1 => ?_) (fun c_1 => absurd (rfl) c_1)
  refine lv_iload_n hx hb dX5_fails_9 rfl (lv_at hl 2 rfl) ?_
  refine lv_if_eq (tgt := 17) hx hb dX5_fails_10 (by decide) (fun c_2 => ?_) (fun c_2 => absurd (rfl) c_2)
  refine lv_iload_n hx hb dX5_fails_17 rfl (lv_at hl 3 rfl) ?_
  refine lv_if_eq (tgt := 25) hx hb dX5_fails_18 (by decide) (fun c_3 => ?_) (fun c_3 => absurd (rfl) c_3)
  refine lv_iconst (v := 0) hx hb dX5_fails_25 (by decide) ?_
  refine va_put (D := D) (ci := 9) (v := .int 0) (ty := .int) (C := RX5) (T := TX5) (N := 7) hx hb hts (by decide +kernel) tyX5 tyX5_ok nmX5 hown hK hP hD hS 0 rfl rfl 0 (by decide) (hts (.fieldLink RX5 31 "HashladderModel" "thrown" "I") (by decide +kernel)) (fun _ h9 => h9) rfl (by decide +kernel) rfl rfl (Nat.le_of_ble_eq_true rfl) dX5_fails_26 (fun H locs hP hD hS => ?_)
  have hP : va_P D vwCl [(h, .inr (9, [.int 0, .ref ho, .ref hd, .ref hs, .ref hu, .ref hv, .int kn]))] H := hP
  have hD : va_D A [(h, .inr (9, [.int 0, .ref ho, .ref hd, .ref hs, .ref hu, .ref hv, .int kn]))] := hD
  refine lv_aload_n hx hb dX5_fails_29 rfl (lv_at hl 0 rfl) ?_
  refine va_get (D := D) (ci := 9) (v := .int 0) (C := RX5) (T := TX5) (N := 7) hx hb hts (by decide +kernel) hown hK hP 0 rfl rfl 0 (by decide) (hts (.fieldLink RX5 31 "HashladderModel" "thrown" "I") (by decide +kernel)) (fun _ h9 => h9) rfl dX5_fails_30 ?_
  refine lv_if_le (tgt := 40) hx hb dX5_fails_33 (by decide) (fun c_4 => ?_) (fun c_4 => absurd (by decide) c_4)
  refine lv_iconst (v := 0) hx hb dX5_fails_40 (by decide) ?_
  have hP9 := hP.sub (ws' := [(h, .inr (9, [.int 0, .ref ho, .ref hd, .ref hs, .ref hu, .ref hv, .int kn]))]) [0] rfl
  have hD9 := hD.sub (ws' := [(h, .inr (9, [.int 0, .ref ho, .ref hd, .ref hs, .ref hu, .ref hv, .int kn]))]) [0] (by decide) rfl
  have hK9 := hK.sub (tys' := []) [] rfl
  refine W.widen (k := 0) (n := 0) (by show 0 ≤ 0; omega) (by show 0 ≤ 0; omega) ?_
  exact W.zret (v := 0) hx hb hr (rfl) (zz_end hP9 hD9 hK9 hS (⟨rfl, rfl, rfl⟩)) hS.2.2 dX5_fails_41
set_option maxHeartbeats 4000000 in
set_option maxRecDepth 100000 in
theorem k_X5_fails_ (l : Launch) (D : va_G) (h : Nat) (th : Int32) (ho : Nat) (hd : Nat) (hs : Nat) (hu : Nat) (hv : Nat) (kn : Int32) : zz_M l yX5_fails_ wsX5_fails_ ({ frames := 2, cells := 0, slots := 0, locals := 100 }) D [.ref h, .int 0, .int 0] [] [(h, .inr (9, [.int th, .ref ho, .ref hd, .ref hs, .ref hu, .ref hv, .int kn]))] (fun _ _ => True) (fun H0 H1 v w t => v = some (.int 0) ∧ w = [(h, .inr (9, [.int 0, .ref ho, .ref hd, .ref hs, .ref hu, .ref hv, .int kn]))] ∧ t = []) := by
  refine zz_M.mk (cc := cX5_fails_) (maxL := 3) (ret := (some .boolean)) (by decide) rfl (Nat.le_of_ble_eq_true rfl) ?_
  intro p0 e0 s mt0 bl0 meth0 cd0 ls hC hname hP hK hD hX hl
  obtain ⟨hx, hb, hml, hr, hown, hts, hlocks⟩ := hC
  generalize hAe : va_A [(h, .inr (9, [.int th, .ref ho, .ref hd, .ref hs, .ref hu, .ref hv, .int kn]))] s.heap.size = A at *
  have hA : ∀ q : Nat, s.heap.size ≤ q → A q := fun q h => by rw [← hAe]; exact Or.inr h
  obtain ⟨H, hHs⟩ : ∃ z : Heap, z = s.heap := ⟨_, rfl⟩
  rw [← hHs] at hP ⊢
  have hS : va_S A s.heap H [] := by rw [hHs]; exact va_S.rf
  have hl : lv_has ls 3 [(0, .ref h), (1, .int 0), (2, .int 0)] := hl
  refine lv_aload_n hx hb dX5_fails__0 rfl (lv_at hl 0 rfl) ?_
  refine lv_iload_n hx hb dX5_fails__1 rfl (lv_at hl 1 rfl) ?_
  refine lv_iload_n hx hb dX5_fails__2 rfl (lv_at hl 2 rfl) ?_
  refine lv_iconst (v := 0) hx hb dX5_fails__3 (by decide) ?_
  have hFc := va_free (wc := [(h, .inr (9, [.int th, .ref ho, .ref hd, .ref hs, .ref hu, .ref hv, .int kn]))]) hD hS hA [0] rfl
  refine zz_after (wr := []) (va_runV (As := [.int 0, .int 0, .int 0]) (rest := []) ⟨hx, hb, hml, hown, hts⟩ ((k_X5_fails l D h th ho hd hs hu hv kn) H.size) (cwV 3 hts gX5_fails__X5_fails rfl rfl rfl (by decide +kernel) ⟨Nat.le_of_ble_eq_true rfl, Nat.le_of_ble_eq_true rfl⟩) (zz_pV (zz_pre (av := [.ref h, .int 0, .int 0, .int 0]) (tyc := []) (wc := [(h, .inr (9, [.int th, .ref ho, .ref hd, .ref hs, .ref hu, .ref hv, .int kn]))]) (X := fun _ _ => True) (Xc := (fun _ _ => True)) hP hD hK hS [0] [] rfl (by decide) rfl zz_St_tt (fun _ _ _ => trivial)) (va_recv hK hP (ci := 9) (q0 := 0) rfl rfl)) rfl rfl hl.1 rfl (lv_room (Nat.le_of_ble_eq_true rfl)) dX5_fails__4 ⟨by show 0 + 0 ≤ 0; omega, by show 0 + 0 ≤ 0; omega⟩) hP hD hK hS hFc [0] [] rfl rfl (by decide) (by decide) (fun v w1 ty1 H1 locs hq9 hz9 hk9 hP1 hD1 hK1 hS1 => ?_)
  obtain ⟨rfl, rfl, rfl⟩ := hq9
  clear hS hP hD hK hFc
  have hP : va_P D vwCl [(h, .inr (9, [.int 0, .ref ho, .ref hd, .ref hs, .ref hu, .ref hv, .int kn]))] H1 := hP1
  have hD : va_D A [(h, .inr (9, [.int 0, .ref ho, .ref hd, .ref hs, .ref hu, .ref hv, .int kn]))] := hD1
  have hK : va_K D vwCl [] s := hK1
  have hS := hS1
  clear hP1 hD1 hK1 hS1
  obtain ⟨H, rfl⟩ : ∃ z, z = H1 := ⟨_, rfl⟩
  refine W.eq (g2 := F0 mt0 7 ls [.int 0]) rfl ?_
  have hP9 := hP.sub (ws' := [(h, .inr (9, [.int 0, .ref ho, .ref hd, .ref hs, .ref hu, .ref hv, .int kn]))]) [0] rfl
  have hD9 := hD.sub (ws' := [(h, .inr (9, [.int 0, .ref ho, .ref hd, .ref hs, .ref hu, .ref hv, .int kn]))]) [0] (by decide) rfl
  have hK9 := hK.sub (tys' := []) [] rfl
  refine W.widen (k := 0) (n := 0) (by show 0 + 0 ≤ 0; omega) (by show 0 + 0 ≤ 0; omega) ?_
  exact W.zret (v := 0) hx hb hr (rfl) (zz_end hP9 hD9 hK9 hS (⟨rfl, rfl, rfl⟩)) hS.2.2 dX5_fails__7
set_option maxHeartbeats 4000000 in
set_option maxRecDepth 100000 in
theorem k_X5_tell (l : Launch) (D : va_G) (h : Nat) (th : Int32) (ho : Nat) (hd : Nat) (hs : Nat) (hu : Nat) (hv : Nat) (kn : Int32) (cD : ClassId) (fd : Nat → Int32) : zz_M l yX5_tell wsX5_tell ({ frames := 1, cells := 0, slots := 0, locals := 40 }) D [.ref h, .int 0] [(cD, .int)] [(h, .inr (9, [.int th, .ref ho, .ref hd, .ref hs, .ref hu, .ref hv, .int kn])), (hd, .inl (cD, 4, .inl fd))] (fun _ _ => True) (fun H0 H1 v w t => ∃ f2 : Nat → Int32, v = none ∧ w = [(h, .inr (9, [.int th, .ref ho, .ref hd, .ref hs, .ref hu, .ref hv, .int kn])), (hd, .inl (cD, 4, .inl f2))] ∧ t = [(cD, .int)]) := by
  refine zz_M.mk (cc := cX5_tell) (maxL := 2) (ret := none) (by decide) rfl (Nat.le_of_ble_eq_true rfl) ?_
  intro p0 e0 s mt0 bl0 meth0 cd0 ls hC hname hP hK hD hX hl
  obtain ⟨hx, hb, hml, hr, hown, hts, hlocks⟩ := hC
  generalize hAe : va_A [(h, .inr (9, [.int th, .ref ho, .ref hd, .ref hs, .ref hu, .ref hv, .int kn])), (hd, .inl (cD, 4, .inl fd))] s.heap.size = A at *
  have hA : ∀ q : Nat, s.heap.size ≤ q → A q := fun q h => by rw [← hAe]; exact Or.inr h
  obtain ⟨H, hHs⟩ : ∃ z : Heap, z = s.heap := ⟨_, rfl⟩
  rw [← hHs] at hP ⊢
  have hS : va_S A s.heap H [] := by rw [hHs]; exact va_S.rf
  have hl : lv_has ls 2 [(0, .ref h), (1, .int 0)] := hl
  refine lv_aload_n hx hb dX5_tell_0 rfl (lv_at hl 0 rfl) ?_
  refine va_get (D := D) (ci := 9) (v := .ref hd) (C := RX5) (T := TX5) (N := 7) hx hb hts (by decide +kernel) hown hK hP 0 rfl rfl 2 (by decide) (hts (.fieldLink RX5 14 "HashladderModel" "done" "[I") (by decide +kernel)) (fun _ h9 => h9) rfl dX5_tell_1 ?_
  refine lv_iload_n hx hb dX5_tell_4 rfl (lv_at hl 1 rfl) ?_
  refine lv_iconst (v := (-1)) hx hb dX5_tell_5 (by decide) ?_
  refine va_iast hx hb hK hP hD hS 1 0 rfl rfl ((show vp_in (0 : Int32) 4 from vp_in_nI (n := 0) (by decide) (by decide))) dX5_tell_6 (fun H locs hP hD hS => ?_)
  have hP : va_P D vwCl [(h, .inr (9, [.int th, .ref ho, .ref hd, .ref hs, .ref hu, .ref hv, .int kn])), (hd, .inl (cD, 4, .inl (upd fd (0 : Int32).toNatClampNeg (-1))))] H := hP
  have hD : va_D A [(h, .inr (9, [.int th, .ref ho, .ref hd, .ref hs, .ref hu, .ref hv, .int kn])), (hd, .inl (cD, 4, .inl (upd fd (0 : Int32).toNatClampNeg (-1))))] := hD
  have hP9 := hP.sub (ws' := [(h, .inr (9, [.int th, .ref ho, .ref hd, .ref hs, .ref hu, .ref hv, .int kn])), (hd, .inl (cD, 4, .inl (upd fd (0 : Int32).toNatClampNeg (-1))))]) [0, 1] rfl
  have hD9 := hD.sub (ws' := [(h, .inr (9, [.int th, .ref ho, .ref hd, .ref hs, .ref hu, .ref hv, .int kn])), (hd, .inl (cD, 4, .inl (upd fd (0 : Int32).toNatClampNeg (-1))))]) [0, 1] (by decide) rfl
  have hK9 := hK.sub (tys' := [(cD, .int)]) [0] rfl
  refine W.widen (k := 0) (n := 0) (by show 0 ≤ 0; omega) (by show 0 ≤ 0; omega) ?_
  exact W.vret hx hb hr (zz_end hP9 hD9 hK9 hS (⟨_, rfl, rfl, rfl⟩)) hS.2.2 dX5_tell_7
set_option maxHeartbeats 4000000 in
set_option maxRecDepth 100000 in
theorem k_X5_set (l : Launch) (D : va_G) (h : Nat) (th : Int32) (ho : Nat) (hd : Nat) (hs : Nat) (hu : Nat) (hv : Nat) (kn : Int32) (cR : ClassId) (R0 : Nat → Option Nat) (y0 : Nat) (cI : ClassId) (f0 : Nat → Int32) (n : Nat) (hR : R0 0 = some y0) (hn : n < 64) : zz_M l yX5_set wsX5_set ({ frames := 1, cells := 0, slots := 0, locals := 40 }) D [.ref h, .int 0, .int (nI n), .int 99] [(cR, .array .int), (cI, .int)] [(h, .inr (9, [.int th, .ref ho, .ref hd, .ref hs, .ref hu, .ref hv, .int kn])), (ho, .inl (cR, 4, .inr (.inr (.inr (.inr R0))))), (y0, .inl (cI, 64, .inl f0))] (fun _ _ => True) (fun H0 H1 v w t => v = some (.int (f0 n)) ∧ w = [(h, .inr (9, [.int th, .ref ho, .ref hd, .ref hs, .ref hu, .ref hv, .int kn])), (ho, .inl (cR, 4, .inr (.inr (.inr (.inr R0))))), (y0, .inl (cI, 64, .inl (upd f0 n 99)))] ∧ t = [(cR, .array .int), (cI, .int)]) := by
  refine zz_M.mk (cc := cX5_set) (maxL := 5) (ret := (some .int)) (by decide) rfl (Nat.le_of_ble_eq_true rfl) ?_
  intro p0 e0 s mt0 bl0 meth0 cd0 ls hC hname hP hK hD hX hl
  obtain ⟨hx, hb, hml, hr, hown, hts, hlocks⟩ := hC
  generalize hAe : va_A [(h, .inr (9, [.int th, .ref ho, .ref hd, .ref hs, .ref hu, .ref hv, .int kn])), (ho, .inl (cR, 4, .inr (.inr (.inr (.inr R0))))), (y0, .inl (cI, 64, .inl f0))] s.heap.size = A at *
  have hA : ∀ q : Nat, s.heap.size ≤ q → A q := fun q h => by rw [← hAe]; exact Or.inr h
  obtain ⟨H, hHs⟩ : ∃ z : Heap, z = s.heap := ⟨_, rfl⟩
  rw [← hHs] at hP ⊢
  have hS : va_S A s.heap H [] := by rw [hHs]; exact va_S.rf
  have hl : lv_has ls 5 [(0, .ref h), (1, .int 0), (2, .int (nI n)), (3, .int 99)] := hl
  refine lv_aload_n hx hb dX5_set_0 rfl (lv_at hl 0 rfl) ?_
  refine va_get (D := D) (ci := 9) (v := .ref ho) (C := RX5) (T := TX5) (N := 7) hx hb hts (by decide +kernel) hown hK hP 0 rfl rfl 1 (by decide) (hts (.fieldLink RX5 11 "HashladderModel" "rows" "[[I") (by decide +kernel)) (fun _ h9 => h9) rfl dX5_set_1 ?_
  refine lv_iload_n hx hb dX5_set_4 rfl (lv_at hl 1 rfl) ?_
  refine zz_aldA hx hb hK hP 1 0 rfl rfl rfl ((show vp_in (0 : Int32) 4 from vp_in_nI (n := 0) (by decide) (by decide))) (v := .ref y0) (by rw [show ((0 : Int32)).toNatClampNeg = 0 from by decide, hR]; rfl) dX5_set_5 ?_
  refine lv_iload_n hx hb dX5_set_6 rfl (lv_at hl 2 rfl) ?_
  refine va_iald hx hb hK hP 2 1 rfl rfl (vp_in_nI hn (by decide)) dX5_set_7 ?_
  refine lv_topi (fun z_1 ez_1 => ?_)
  obtain rfl : z_1 = f0 n := ez_1.trans (by rw [nI_clamp (by omega)])
  refine lv_istore (lv' := [(4, .int (f0 n)), (0, .ref h), (1, .int 0), (2, .int (nI n)), (3, .int 99)]) hx hb dX5_set_8 hl (by decide) rfl (fun ls hl => ?_)
  refine lv_aload_n hx hb dX5_set_10 rfl (lv_at hl 1 rfl) ?_
  refine va_get (D := D) (ci := 9) (v := .ref ho) (C := RX5) (T := TX5) (N := 7) hx hb hts (by decide +kernel) hown hK hP 0 rfl rfl 1 (by decide) (hts (.fieldLink RX5 11 "HashladderModel" "rows" "[[I") (by decide +kernel)) (fun _ h9 => h9) rfl dX5_set_11 ?_
  refine lv_iload_n hx hb dX5_set_14 rfl (lv_at hl 2 rfl) ?_
  refine zz_aldA hx hb hK hP 1 0 rfl rfl rfl ((show vp_in (0 : Int32) 4 from vp_in_nI (n := 0) (by decide) (by decide))) (v := .ref y0) (by rw [show ((0 : Int32)).toNatClampNeg = 0 from by decide, hR]; rfl) dX5_set_15 ?_
  refine lv_iload_n hx hb dX5_set_16 rfl (lv_at hl 3 rfl) ?_
  refine lv_iload_n hx hb dX5_set_17 rfl (lv_at hl 4 rfl) ?_
  refine va_iast hx hb hK hP hD hS 2 1 rfl rfl (vp_in_nI hn (by decide)) dX5_set_18 (fun H locs hP hD hS => ?_)
  have hP : va_P D vwCl [(h, .inr (9, [.int th, .ref ho, .ref hd, .ref hs, .ref hu, .ref hv, .int kn])), (ho, .inl (cR, 4, .inr (.inr (.inr (.inr R0))))), (y0, .inl (cI, 64, .inl (upd f0 (nI n : Int32).toNatClampNeg 99)))] H := hP
  have hD : va_D A [(h, .inr (9, [.int th, .ref ho, .ref hd, .ref hs, .ref hu, .ref hv, .int kn])), (ho, .inl (cR, 4, .inr (.inr (.inr (.inr R0))))), (y0, .inl (cI, 64, .inl (upd f0 (nI n : Int32).toNatClampNeg 99)))] := hD
  have ef : upd f0 (nI n : Int32).toNatClampNeg 99 = upd f0 n 99 := by rw [nI_clamp (by omega)]
  rw [ef] at hP hD
  refine lv_iload hx hb dX5_set_19 (lv_at hl 0 rfl) ?_
  have hP9 := hP.sub (ws' := [(h, .inr (9, [.int th, .ref ho, .ref hd, .ref hs, .ref hu, .ref hv, .int kn])), (ho, .inl (cR, 4, .inr (.inr (.inr (.inr R0))))), (y0, .inl (cI, 64, .inl (upd f0 n 99)))]) [0, 1, 2] rfl
  have hD9 := hD.sub (ws' := [(h, .inr (9, [.int th, .ref ho, .ref hd, .ref hs, .ref hu, .ref hv, .int kn])), (ho, .inl (cR, 4, .inr (.inr (.inr (.inr R0))))), (y0, .inl (cI, 64, .inl (upd f0 n 99)))]) [0, 1, 2] (by decide) rfl
  have hK9 := hK.sub (tys' := [(cR, .array .int), (cI, .int)]) [0, 1] rfl
  refine W.widen (k := 0) (n := 0) (by show 0 ≤ 0; omega) (by show 0 ≤ 0; omega) ?_
  exact W.iret (v := f0 n) hx hb hr (zz_end hP9 hD9 hK9 hS (⟨rfl, rfl, rfl⟩)) hS.2.2 dX5_set_21
set_option maxHeartbeats 4000000 in
set_option maxRecDepth 100000 in
theorem k_X5_put (l : Launch) (D : va_G) (h : Nat) (th : Int32) (ho : Nat) (hd : Nat) (hs : Nat) (hu : Nat) (hv : Nat) (kn : Int32) (cR : ClassId) (R0 : Nat → Option Nat) (y0 : Nat) (cI : ClassId) (f0 : Nat → Int32) (cD : ClassId) (fd : Nat → Int32) (n : Nat) (hR : R0 0 = some y0) (hn : n < 64) : zz_M l yX5_put wsX5_put ({ frames := 4, cells := 0, slots := 0, locals := 200 }) D [.ref h, .int 0, .int (nI n), .int 99] [(cR, .array .int), (cI, .int), (cD, .int)] [(h, .inr (9, [.int th, .ref ho, .ref hd, .ref hs, .ref hu, .ref hv, .int kn])), (ho, .inl (cR, 4, .inr (.inr (.inr (.inr R0))))), (y0, .inl (cI, 64, .inl f0)), (hd, .inl (cD, 4, .inl fd))] (fun _ _ => True) (fun H0 H1 v w t => ∃ f2 : Nat → Int32, v = some (.int (f0 n)) ∧ w = [(h, .inr (9, [.int 0, .ref ho, .ref hd, .ref hs, .ref hu, .ref hv, .int kn])), (ho, .inl (cR, 4, .inr (.inr (.inr (.inr R0))))), (y0, .inl (cI, 64, .inl (upd f0 n 99))), (hd, .inl (cD, 4, .inl f2))] ∧ t = [(cR, .array .int), (cI, .int), (cD, .int)]) := by
  refine zz_M.mk (cc := cX5_put) (maxL := 4) (ret := (some .int)) (by decide) rfl (Nat.le_of_ble_eq_true rfl) ?_
  intro p0 e0 s mt0 bl0 meth0 cd0 ls hC hname hP hK hD hX hl
  obtain ⟨hx, hb, hml, hr, hown, hts, hlocks⟩ := hC
  generalize hAe : va_A [(h, .inr (9, [.int th, .ref ho, .ref hd, .ref hs, .ref hu, .ref hv, .int kn])), (ho, .inl (cR, 4, .inr (.inr (.inr (.inr R0))))), (y0, .inl (cI, 64, .inl f0)), (hd, .inl (cD, 4, .inl fd))] s.heap.size = A at *
  have hA : ∀ q : Nat, s.heap.size ≤ q → A q := fun q h => by rw [← hAe]; exact Or.inr h
  obtain ⟨H, hHs⟩ : ∃ z : Heap, z = s.heap := ⟨_, rfl⟩
  rw [← hHs] at hP ⊢
  have hS : va_S A s.heap H [] := by rw [hHs]; exact va_S.rf
  have hl : lv_has ls 4 [(0, .ref h), (1, .int 0), (2, .int (nI n)), (3, .int 99)] := hl
  refine lv_aload_n hx hb dX5_put_0 rfl (lv_at hl 0 rfl) ?_
  refine lv_iload_n hx hb dX5_put_1 rfl (lv_at hl 1 rfl) ?_
  have hFc := va_free (wc := []) hD hS hA [] rfl
  refine zz_after (wr := [(h, .inr (9, [.int th, .ref ho, .ref hd, .ref hs, .ref hu, .ref hv, .int kn])), (ho, .inl (cR, 4, .inr (.inr (.inr (.inr R0))))), (y0, .inl (cI, 64, .inl f0)), (hd, .inl (cD, 4, .inl fd))]) (va_runS (As := [.int 0]) (rest := [.ref h]) ⟨hx, hb, hml, hown, hts⟩ ((k_X5_isNo l D ) H.size) (va_cwS 1 hts gX5_put_X5_isNo rfl rfl rfl (by decide +kernel) ⟨Nat.le_of_ble_eq_true rfl, Nat.le_of_ble_eq_true rfl⟩) (zz_pre (av := [.int 0]) (tyc := []) (wc := []) (X := fun _ _ => True) (Xc := (fun _ _ => True)) hP hD hK hS [] [] rfl (by decide) rfl zz_St_tt (fun _ _ _ => trivial)) rfl rfl hl.1 rfl (lv_room (Nat.le_of_ble_eq_true rfl)) dX5_put_2 ⟨by show 0 + 0 ≤ 0; omega, by show 0 + 0 ≤ 0; omega⟩) hP hD hK hS hFc [] [0, 1, 2, 3] rfl rfl (by decide) (by decide) (fun v w1 ty1 H1 locs hq9 hz9 hk9 hP1 hD1 hK1 hS1 => ?_)
  obtain ⟨rfl, rfl, rfl⟩ := hq9
  clear hS hP hD hK hFc
  have hP : va_P D vwCl [(h, .inr (9, [.int th, .ref ho, .ref hd, .ref hs, .ref hu, .ref hv, .int kn])), (ho, .inl (cR, 4, .inr (.inr (.inr (.inr R0))))), (y0, .inl (cI, 64, .inl f0)), (hd, .inl (cD, 4, .inl fd))] H1 := hP1
  have hD : va_D A [(h, .inr (9, [.int th, .ref ho, .ref hd, .ref hs, .ref hu, .ref hv, .int kn])), (ho, .inl (cR, 4, .inr (.inr (.inr (.inr R0))))), (y0, .inl (cI, 64, .inl f0)), (hd, .inl (cD, 4, .inl fd))] := hD1
  have hK : va_K D vwCl [(cR, .array .int), (cI, .int), (cD, .int)] s := hK1
  have hS := hS1
  clear hP1 hD1 hK1 hS1
  obtain ⟨H, rfl⟩ : ∃ z, z = H1 := ⟨_, rfl⟩
  refine W.eq (g2 := F0 mt0 5 ls [.int 0, .ref h]) rfl ?_
  refine lv_iload_n hx hb dX5_put_5 rfl (lv_at hl 2 rfl) ?_
  have hFc := va_free (wc := []) hD hS hA [] rfl
  refine zz_after (wr := [(h, .inr (9, [.int th, .ref ho, .ref hd, .ref hs, .ref hu, .ref hv, .int kn])), (ho, .inl (cR, 4, .inr (.inr (.inr (.inr R0))))), (y0, .inl (cI, 64, .inl f0)), (hd, .inl (cD, 4, .inl fd))]) (va_runS (As := [.int (nI n)]) (rest := [.int 0, .ref h]) ⟨hx, hb, hml, hown, hts⟩ ((k_X5_isNoName l D n (hn)) H.size) (va_cwS 1 hts gX5_put_X5_isNoName rfl rfl rfl (by decide +kernel) ⟨Nat.le_of_ble_eq_true rfl, Nat.le_of_ble_eq_true rfl⟩) (zz_pre (av := [.int (nI n)]) (tyc := []) (wc := []) (X := fun _ _ => True) (Xc := (fun _ _ => True)) hP hD hK hS [] [] rfl (by decide) rfl zz_St_tt (fun _ _ _ => trivial)) rfl rfl hl.1 rfl (lv_room (Nat.le_of_ble_eq_true rfl)) dX5_put_6 ⟨by show 0 + 0 + 0 ≤ 0; omega, by show 0 + 0 + 0 ≤ 0; omega⟩) hP hD hK hS hFc [] [0, 1, 2, 3] rfl rfl (by decide) (by decide) (fun v w1 ty1 H1 locs hq9 hz9 hk9 hP1 hD1 hK1 hS1 => ?_)
  obtain ⟨rfl, rfl, rfl⟩ := hq9
  clear hS hP hD hK hFc
  have hP : va_P D vwCl [(h, .inr (9, [.int th, .ref ho, .ref hd, .ref hs, .ref hu, .ref hv, .int kn])), (ho, .inl (cR, 4, .inr (.inr (.inr (.inr R0))))), (y0, .inl (cI, 64, .inl f0)), (hd, .inl (cD, 4, .inl fd))] H1 := hP1
  have hD : va_D A [(h, .inr (9, [.int th, .ref ho, .ref hd, .ref hs, .ref hu, .ref hv, .int kn])), (ho, .inl (cR, 4, .inr (.inr (.inr (.inr R0))))), (y0, .inl (cI, 64, .inl f0)), (hd, .inl (cD, 4, .inl fd))] := hD1
  have hK : va_K D vwCl [(cR, .array .int), (cI, .int), (cD, .int)] s := hK1
  have hS := hS1
  clear hP1 hD1 hK1 hS1
  obtain ⟨H, rfl⟩ : ∃ z, z = H1 := ⟨_, rfl⟩
  refine W.eq (g2 := F0 mt0 9 ls [.int 0, .int 0, .ref h]) rfl ?_
  refine lv_if_ne (tgt := 19) hx hb dX5_put_9 (by decide) (fun c_1 => absurd (rfl) c_1) (fun c_1 => ?_)
  refine lv_iload_n hx hb dX5_put_12 rfl (lv_at hl 3 rfl) ?_
  have hFc := va_free (wc := []) hD hS hA [] rfl
  refine zz_after (wr := [(h, .inr (9, [.int th, .ref ho, .ref hd, .ref hs, .ref hu, .ref hv, .int kn])), (ho, .inl (cR, 4, .inr (.inr (.inr (.inr R0))))), (y0, .inl (cI, 64, .inl f0)), (hd, .inl (cD, 4, .inl fd))]) (va_runS (As := [.int 99]) (rest := [.int 0, .ref h]) ⟨hx, hb, hml, hown, hts⟩ ((k_X5_isNoWorth l D ) H.size) (va_cwS 1 hts gX5_put_X5_isNoWorth rfl rfl rfl (by decide +kernel) ⟨Nat.le_of_ble_eq_true rfl, Nat.le_of_ble_eq_true rfl⟩) (zz_pre (av := [.int 99]) (tyc := []) (wc := []) (X := fun _ _ => True) (Xc := (fun _ _ => True)) hP hD hK hS [] [] rfl (by decide) rfl zz_St_tt (fun _ _ _ => trivial)) rfl rfl hl.1 rfl (lv_room (Nat.le_of_ble_eq_true rfl)) dX5_put_13 ⟨by show 0 + 0 + 0 + 0 ≤ 0; omega, by show 0 + 0 + 0 + 0 ≤ 0; omega⟩) hP hD hK hS hFc [] [0, 1, 2, 3] rfl rfl (by decide) (by decide) (fun v w1 ty1 H1 locs hq9 hz9 hk9 hP1 hD1 hK1 hS1 => ?_)
  obtain ⟨rfl, rfl, rfl⟩ := hq9
  clear hS hP hD hK hFc
  have hP : va_P D vwCl [(h, .inr (9, [.int th, .ref ho, .ref hd, .ref hs, .ref hu, .ref hv, .int kn])), (ho, .inl (cR, 4, .inr (.inr (.inr (.inr R0))))), (y0, .inl (cI, 64, .inl f0)), (hd, .inl (cD, 4, .inl fd))] H1 := hP1
  have hD : va_D A [(h, .inr (9, [.int th, .ref ho, .ref hd, .ref hs, .ref hu, .ref hv, .int kn])), (ho, .inl (cR, 4, .inr (.inr (.inr (.inr R0))))), (y0, .inl (cI, 64, .inl f0)), (hd, .inl (cD, 4, .inl fd))] := hD1
  have hK : va_K D vwCl [(cR, .array .int), (cI, .int), (cD, .int)] s := hK1
  have hS := hS1
  clear hP1 hD1 hK1 hS1
  obtain ⟨H, rfl⟩ : ∃ z, z = H1 := ⟨_, rfl⟩
  refine W.eq (g2 := F0 mt0 16 ls [.int 0, .int 0, .ref h]) rfl ?_
  refine lv_if_eq (tgt := 23) hx hb dX5_put_16 (by decide) (fun c_2 => ?_) (fun c_2 => absurd (rfl) c_2)
  refine lv_iconst (v := 0) hx hb dX5_put_23 (by decide) ?_
  have hFc := va_free (wc := [(h, .inr (9, [.int th, .ref ho, .ref hd, .ref hs, .ref hu, .ref hv, .int kn]))]) hD hS hA [0] rfl
  refine zz_after (wr := [(ho, .inl (cR, 4, .inr (.inr (.inr (.inr R0))))), (y0, .inl (cI, 64, .inl f0)), (hd, .inl (cD, 4, .inl fd))]) (va_runV (As := [.int 0, .int 0]) (rest := []) ⟨hx, hb, hml, hown, hts⟩ ((k_X5_fails_ l D h th ho hd hs hu hv kn) H.size) (cwV 2 hts gX5_put_X5_fails_ rfl rfl rfl (by decide +kernel) ⟨Nat.le_of_ble_eq_true rfl, Nat.le_of_ble_eq_true rfl⟩) (zz_pV (zz_pre (av := [.ref h, .int 0, .int 0]) (tyc := []) (wc := [(h, .inr (9, [.int th, .ref ho, .ref hd, .ref hs, .ref hu, .ref hv, .int kn]))]) (X := fun _ _ => True) (Xc := (fun _ _ => True)) hP hD hK hS [0] [] rfl (by decide) rfl zz_St_tt (fun _ _ _ => trivial)) (va_recv hK hP (ci := 9) (q0 := 0) rfl rfl)) rfl rfl hl.1 rfl (lv_room (Nat.le_of_ble_eq_true rfl)) dX5_put_24 ⟨by show 0 + 0 + 0 + 0 + 0 ≤ 0; omega, by show 0 + 0 + 0 + 0 + 0 ≤ 0; omega⟩) hP hD hK hS hFc [0] [1, 2, 3] rfl rfl (by decide) (by decide) (fun v w1 ty1 H1 locs hq9 hz9 hk9 hP1 hD1 hK1 hS1 => ?_)
  obtain ⟨rfl, rfl, rfl⟩ := hq9
  clear hS hP hD hK hFc
  have hP : va_P D vwCl [(ho, .inl (cR, 4, .inr (.inr (.inr (.inr R0))))), (y0, .inl (cI, 64, .inl f0)), (hd, .inl (cD, 4, .inl fd)), (h, .inr (9, [.int 0, .ref ho, .ref hd, .ref hs, .ref hu, .ref hv, .int kn]))] H1 := hP1
  have hD : va_D A [(ho, .inl (cR, 4, .inr (.inr (.inr (.inr R0))))), (y0, .inl (cI, 64, .inl f0)), (hd, .inl (cD, 4, .inl fd)), (h, .inr (9, [.int 0, .ref ho, .ref hd, .ref hs, .ref hu, .ref hv, .int kn]))] := hD1
  have hK : va_K D vwCl [(cR, .array .int), (cI, .int), (cD, .int)] s := hK1
  have hS := hS1
  clear hP1 hD1 hK1 hS1
  obtain ⟨H, rfl⟩ : ∃ z, z = H1 := ⟨_, rfl⟩
  refine W.eq (g2 := F0 mt0 27 ls [.int 0]) rfl ?_
  refine lv_if_eq (tgt := 32) hx hb dX5_put_27 (by decide) (fun c_3 => ?_) (fun c_3 => absurd (rfl) c_3)
  refine lv_aload_n hx hb dX5_put_32 rfl (lv_at hl 0 rfl) ?_
  refine lv_iload_n hx hb dX5_put_33 rfl (lv_at hl 1 rfl) ?_
  have hFc := va_free (wc := [(h, .inr (9, [.int 0, .ref ho, .ref hd, .ref hs, .ref hu, .ref hv, .int kn])), (hd, .inl (cD, 4, .inl fd))]) hD hS hA [3, 2] rfl
  refine zz_after (wr := [(ho, .inl (cR, 4, .inr (.inr (.inr (.inr R0))))), (y0, .inl (cI, 64, .inl f0))]) (va_runV (As := [.int 0]) (rest := []) ⟨hx, hb, hml, hown, hts⟩ ((k_X5_tell l D h 0 ho hd hs hu hv kn cD fd) H.size) (cwV 1 hts gX5_put_X5_tell rfl rfl rfl (by decide +kernel) ⟨Nat.le_of_ble_eq_true rfl, Nat.le_of_ble_eq_true rfl⟩) (zz_pV (zz_pre (av := [.ref h, .int 0]) (tyc := [(cD, .int)]) (wc := [(h, .inr (9, [.int 0, .ref ho, .ref hd, .ref hs, .ref hu, .ref hv, .int kn])), (hd, .inl (cD, 4, .inl fd))]) (X := fun _ _ => True) (Xc := (fun _ _ => True)) hP hD hK hS [3, 2] [2] rfl (by decide) rfl zz_St_tt (fun _ _ _ => trivial)) (va_recv hK hP (ci := 9) (q0 := 3) rfl rfl)) rfl rfl hl.1 rfl (lv_room (Nat.le_of_ble_eq_true rfl)) dX5_put_34 ⟨by show 0 + 0 + 0 + 0 + 0 + 0 ≤ 0; omega, by show 0 + 0 + 0 + 0 + 0 + 0 ≤ 0; omega⟩) hP hD hK hS hFc [3, 2] [0, 1] rfl rfl (by decide) (by decide) (fun v w1 ty1 H1 locs hq9 hz9 hk9 hP1 hD1 hK1 hS1 => ?_)
  obtain ⟨f2_4, rfl, rfl, rfl⟩ := hq9
  clear hS hP hD hK hFc
  have hP : va_P D vwCl [(ho, .inl (cR, 4, .inr (.inr (.inr (.inr R0))))), (y0, .inl (cI, 64, .inl f0)), (h, .inr (9, [.int 0, .ref ho, .ref hd, .ref hs, .ref hu, .ref hv, .int kn])), (hd, .inl (cD, 4, .inl f2_4))] H1 := hP1
  have hD : va_D A [(ho, .inl (cR, 4, .inr (.inr (.inr (.inr R0))))), (y0, .inl (cI, 64, .inl f0)), (h, .inr (9, [.int 0, .ref ho, .ref hd, .ref hs, .ref hu, .ref hv, .int kn])), (hd, .inl (cD, 4, .inl f2_4))] := hD1
  have hK : va_K D vwCl [(cR, .array .int), (cI, .int), (cD, .int), (cD, .int)] s := hK1
  have hS := hS1
  clear hP1 hD1 hK1 hS1
  obtain ⟨H, rfl⟩ : ∃ z, z = H1 := ⟨_, rfl⟩
  refine W.eq (g2 := F0 mt0 37 ls []) rfl ?_
  refine lv_aload_n hx hb dX5_put_37 rfl (lv_at hl 0 rfl) ?_
  refine lv_iload_n hx hb dX5_put_38 rfl (lv_at hl 1 rfl) ?_
  refine lv_iload_n hx hb dX5_put_39 rfl (lv_at hl 2 rfl) ?_
  refine lv_iload_n hx hb dX5_put_40 rfl (lv_at hl 3 rfl) ?_
  have hFc := va_free (wc := [(h, .inr (9, [.int 0, .ref ho, .ref hd, .ref hs, .ref hu, .ref hv, .int kn])), (ho, .inl (cR, 4, .inr (.inr (.inr (.inr R0))))), (y0, .inl (cI, 64, .inl f0))]) hD hS hA [2, 0, 1] rfl
  refine zz_after (wr := [(hd, .inl (cD, 4, .inl f2_4))]) (va_runV (As := [.int 0, .int (nI n), .int 99]) (rest := []) ⟨hx, hb, hml, hown, hts⟩ ((k_X5_set l D h 0 ho hd hs hu hv kn cR R0 y0 cI f0 n (hR) (hn)) H.size) (cwV 3 hts gX5_put_X5_set rfl rfl rfl (by decide +kernel) ⟨Nat.le_of_ble_eq_true rfl, Nat.le_of_ble_eq_true rfl⟩) (zz_pV (zz_pre (av := [.ref h, .int 0, .int (nI n), .int 99]) (tyc := [(cR, .array .int), (cI, .int)]) (wc := [(h, .inr (9, [.int 0, .ref ho, .ref hd, .ref hs, .ref hu, .ref hv, .int kn])), (ho, .inl (cR, 4, .inr (.inr (.inr (.inr R0))))), (y0, .inl (cI, 64, .inl f0))]) (X := fun _ _ => True) (Xc := (fun _ _ => True)) hP hD hK hS [2, 0, 1] [0, 1] rfl (by decide) rfl zz_St_tt (fun _ _ _ => trivial)) (va_recv hK hP (ci := 9) (q0 := 2) rfl rfl)) rfl rfl hl.1 rfl (lv_room (Nat.le_of_ble_eq_true rfl)) dX5_put_41 ⟨by show 0 + 0 + 0 + 0 + 0 + 0 + 0 ≤ 0; omega, by show 0 + 0 + 0 + 0 + 0 + 0 + 0 ≤ 0; omega⟩) hP hD hK hS hFc [2, 0, 1] [3] rfl rfl (by decide) (by decide) (fun v w1 ty1 H1 locs hq9 hz9 hk9 hP1 hD1 hK1 hS1 => ?_)
  obtain ⟨rfl, rfl, rfl⟩ := hq9
  clear hS hP hD hK hFc
  have hP : va_P D vwCl [(hd, .inl (cD, 4, .inl f2_4)), (h, .inr (9, [.int 0, .ref ho, .ref hd, .ref hs, .ref hu, .ref hv, .int kn])), (ho, .inl (cR, 4, .inr (.inr (.inr (.inr R0))))), (y0, .inl (cI, 64, .inl (upd f0 n 99)))] H1 := hP1
  have hD : va_D A [(hd, .inl (cD, 4, .inl f2_4)), (h, .inr (9, [.int 0, .ref ho, .ref hd, .ref hs, .ref hu, .ref hv, .int kn])), (ho, .inl (cR, 4, .inr (.inr (.inr (.inr R0))))), (y0, .inl (cI, 64, .inl (upd f0 n 99)))] := hD1
  have hK : va_K D vwCl [(cR, .array .int), (cI, .int), (cD, .int), (cD, .int), (cR, .array .int), (cI, .int)] s := hK1
  have hS := hS1
  clear hP1 hD1 hK1 hS1
  obtain ⟨H, rfl⟩ : ∃ z, z = H1 := ⟨_, rfl⟩
  refine W.eq (g2 := F0 mt0 44 ls [.int (f0 n)]) rfl ?_
  have hP9 := hP.sub (ws' := [(h, .inr (9, [.int 0, .ref ho, .ref hd, .ref hs, .ref hu, .ref hv, .int kn])), (ho, .inl (cR, 4, .inr (.inr (.inr (.inr R0))))), (y0, .inl (cI, 64, .inl (upd f0 n 99))), (hd, .inl (cD, 4, .inl f2_4))]) [1, 2, 3, 0] rfl
  have hD9 := hD.sub (ws' := [(h, .inr (9, [.int 0, .ref ho, .ref hd, .ref hs, .ref hu, .ref hv, .int kn])), (ho, .inl (cR, 4, .inr (.inr (.inr (.inr R0))))), (y0, .inl (cI, 64, .inl (upd f0 n 99))), (hd, .inl (cD, 4, .inl f2_4))]) [1, 2, 3, 0] (by decide) rfl
  have hK9 := hK.sub (tys' := [(cR, .array .int), (cI, .int), (cD, .int)]) [0, 1, 2] rfl
  refine W.widen (k := 0) (n := 0) (by show 0 + 0 + 0 + 0 + 0 + 0 + 0 ≤ 0; omega) (by show 0 + 0 + 0 + 0 + 0 + 0 + 0 ≤ 0; omega) ?_
  exact W.iret (v := f0 n) hx hb hr (zz_end hP9 hD9 hK9 hS (⟨_, rfl, rfl, rfl⟩)) hS.2.2 dX5_put_44
set_option maxHeartbeats 4000000 in
set_option maxRecDepth 100000 in
theorem k_X5_width (l : Launch) (D : va_G) (h : Nat) (th : Int32) (ho : Nat) (hd : Nat) (hs : Nat) (hu : Nat) (hv : Nat) (kn : Int32) (cR : ClassId) (R0 : Nat → Option Nat) (y0 : Nat) (cI : ClassId) (f0 : Nat → Int32) (qe : Nat) (be : Nat) (fe : Nat → Int32) (qq : Nat) (bq : Nat) (fq : Nat → Int32) (qs : Nat) (bs : Nat) (fs : Nat → Int32) (hR : R0 0 = some y0) (hf1 : ∀ n, n < 10 → f0 n = -1) (hf2 : ∀ n, 10 ≤ n → n < 64 → f0 n = 99) : zz_M l yX5_width wsX5_width ({ frames := 9, cells := 486, slots := 487296, locals := 3700 }) D [.ref h, .int 0] [(cR, .array .int), (cI, .int)] [(h, .inr (9, [.int th, .ref ho, .ref hd, .ref hs, .ref hu, .ref hv, .int kn])), (ho, .inl (cR, 4, .inr (.inr (.inr (.inr R0))))), (y0, .inl (cI, 64, .inl f0))] (fun A U => zz_G A U ∧ zz_S qe be 0 fe A U ∧ vk_R RX5 116 "" qe U ∧ zz_S qq bq 1 fq A U ∧ vk_R RX5 134 "=" qq U ∧ zz_S qs bs 2 fs A U ∧ vk_R RX5 152 ", " qs U) (fun H0 H1 v w t => ∃ L2 : List Nat, zz_L L2 H0.size H1 20252 ∧ zz_d L2 [(h, .inr (9, [.int 0, .ref ho, .ref hd, .ref hs, .ref hu, .ref hv, .int kn])), (ho, .inl (cR, 4, .inr (.inr (.inr (.inr R0))))), (y0, .inl (cI, 64, .inl f0))] ∧ v = some (.int (nI 378)) ∧ w = [(h, .inr (9, [.int 0, .ref ho, .ref hd, .ref hs, .ref hu, .ref hv, .int kn])), (ho, .inl (cR, 4, .inr (.inr (.inr (.inr R0))))), (y0, .inl (cI, 64, .inl f0))] ∧ t = [(cR, .array .int), (cI, .int)]) := by
  refine zz_M.mk (cc := cX5_width) (maxL := 2) (ret := (some .int)) (by decide) rfl (Nat.le_of_ble_eq_true rfl) ?_
  intro p0 e0 s mt0 bl0 meth0 cd0 ls hC hname hP hK hD hX hl
  obtain ⟨hx, hb, hml, hr, hown, hts, hlocks⟩ := hC
  obtain ⟨hX0, hX1, hX2, hX3, hX4, hX5, hX6⟩ := hX
  generalize hAe : va_A [(h, .inr (9, [.int th, .ref ho, .ref hd, .ref hs, .ref hu, .ref hv, .int kn])), (ho, .inl (cR, 4, .inr (.inr (.inr (.inr R0))))), (y0, .inl (cI, 64, .inl f0))] s.heap.size = A at *
  have hA : ∀ q : Nat, s.heap.size ≤ q → A q := fun q h => by rw [← hAe]; exact Or.inr h
  obtain ⟨H, hHs⟩ : ∃ z : Heap, z = s.heap := ⟨_, rfl⟩
  rw [← hHs] at hP ⊢
  have hS : va_S A s.heap H [] := by rw [hHs]; exact va_S.rf
  have hl : lv_has ls 2 [(0, .ref h), (1, .int 0)] := hl
  refine lv_aload_n hx hb dX5_width_0 rfl (lv_at hl 0 rfl) ?_
  refine lv_iload_n hx hb dX5_width_1 rfl (lv_at hl 1 rfl) ?_
  have hFc := va_free (wc := []) hD hS hA [] rfl
  refine zz_after (wr := [(h, .inr (9, [.int th, .ref ho, .ref hd, .ref hs, .ref hu, .ref hv, .int kn])), (ho, .inl (cR, 4, .inr (.inr (.inr (.inr R0))))), (y0, .inl (cI, 64, .inl f0))]) (va_runS (As := [.int 0]) (rest := [.ref h]) ⟨hx, hb, hml, hown, hts⟩ ((k_X5_isNo l D ) H.size) (va_cwS 1 hts gX5_width_X5_isNo rfl rfl rfl (by decide +kernel) ⟨Nat.le_of_ble_eq_true rfl, Nat.le_of_ble_eq_true rfl⟩) (zz_pre (av := [.int 0]) (tyc := []) (wc := []) (X := fun _ _ => True) (Xc := (fun _ _ => True)) hP hD hK hS [] [] rfl (by decide) rfl zz_St_tt (fun _ _ _ => trivial)) rfl rfl hl.1 rfl (lv_room (Nat.le_of_ble_eq_true rfl)) dX5_width_2 ⟨by show 0 + 0 ≤ 486; omega, by show 0 + 0 ≤ 487296; omega⟩) hP hD hK hS hFc [] [0, 1, 2] rfl rfl (by decide) (by decide) (fun v w1 ty1 H1 locs hq9 hz9 hk9 hP1 hD1 hK1 hS1 => ?_)
  obtain ⟨rfl, rfl, rfl⟩ := hq9
  clear hS hP hD hK hFc
  have hP : va_P D vwCl [(h, .inr (9, [.int th, .ref ho, .ref hd, .ref hs, .ref hu, .ref hv, .int kn])), (ho, .inl (cR, 4, .inr (.inr (.inr (.inr R0))))), (y0, .inl (cI, 64, .inl f0))] H1 := hP1
  have hD : va_D A [(h, .inr (9, [.int th, .ref ho, .ref hd, .ref hs, .ref hu, .ref hv, .int kn])), (ho, .inl (cR, 4, .inr (.inr (.inr (.inr R0))))), (y0, .inl (cI, 64, .inl f0))] := hD1
  have hK : va_K D vwCl [(cR, .array .int), (cI, .int)] s := hK1
  have hS := hS1
  clear hP1 hD1 hK1 hS1
  obtain ⟨H, rfl⟩ : ∃ z, z = H1 := ⟨_, rfl⟩
  refine W.eq (g2 := F0 mt0 5 ls [.int 0, .ref h]) rfl ?_
  refine lv_iconst (v := 0) hx hb dX5_width_5 (by decide) ?_
  have hFc := va_free (wc := [(h, .inr (9, [.int th, .ref ho, .ref hd, .ref hs, .ref hu, .ref hv, .int kn]))]) hD hS hA [0] rfl
  refine zz_after (wr := [(ho, .inl (cR, 4, .inr (.inr (.inr (.inr R0))))), (y0, .inl (cI, 64, .inl f0))]) (va_runV (As := [.int 0, .int 0]) (rest := []) ⟨hx, hb, hml, hown, hts⟩ ((k_X5_fails_ l D h th ho hd hs hu hv kn) H.size) (cwV 2 hts gX5_width_X5_fails_ rfl rfl rfl (by decide +kernel) ⟨Nat.le_of_ble_eq_true rfl, Nat.le_of_ble_eq_true rfl⟩) (zz_pV (zz_pre (av := [.ref h, .int 0, .int 0]) (tyc := []) (wc := [(h, .inr (9, [.int th, .ref ho, .ref hd, .ref hs, .ref hu, .ref hv, .int kn]))]) (X := fun _ _ => True) (Xc := (fun _ _ => True)) hP hD hK hS [0] [] rfl (by decide) rfl zz_St_tt (fun _ _ _ => trivial)) (va_recv hK hP (ci := 9) (q0 := 0) rfl rfl)) rfl rfl hl.1 rfl (lv_room (Nat.le_of_ble_eq_true rfl)) dX5_width_6 ⟨by show 0 + 0 + 0 ≤ 486; omega, by show 0 + 0 + 0 ≤ 487296; omega⟩) hP hD hK hS hFc [0] [1, 2] rfl rfl (by decide) (by decide) (fun v w1 ty1 H1 locs hq9 hz9 hk9 hP1 hD1 hK1 hS1 => ?_)
  obtain ⟨rfl, rfl, rfl⟩ := hq9
  clear hS hP hD hK hFc
  have hP : va_P D vwCl [(ho, .inl (cR, 4, .inr (.inr (.inr (.inr R0))))), (y0, .inl (cI, 64, .inl f0)), (h, .inr (9, [.int 0, .ref ho, .ref hd, .ref hs, .ref hu, .ref hv, .int kn]))] H1 := hP1
  have hD : va_D A [(ho, .inl (cR, 4, .inr (.inr (.inr (.inr R0))))), (y0, .inl (cI, 64, .inl f0)), (h, .inr (9, [.int 0, .ref ho, .ref hd, .ref hs, .ref hu, .ref hv, .int kn]))] := hD1
  have hK : va_K D vwCl [(cR, .array .int), (cI, .int)] s := hK1
  have hS := hS1
  clear hP1 hD1 hK1 hS1
  obtain ⟨H, rfl⟩ : ∃ z, z = H1 := ⟨_, rfl⟩
  refine W.eq (g2 := F0 mt0 9 ls [.int 0]) rfl ?_
  refine lv_if_eq (tgt := 16) hx hb dX5_width_9 (by decide) (fun c_1 => ?_) (fun c_1 => absurd (rfl) c_1)
  refine lv_iconst (v := 2) hx hb dX5_width_16 (by decide) ?_
  refine lv_aload_n hx hb dX5_width_17 rfl (lv_at hl 0 rfl) ?_
  refine lv_iload_n hx hb dX5_width_18 rfl (lv_at hl 1 rfl) ?_
  refine va_ldcS hx hb hown hX6 dX5_width_19 ?_
  have hz0 := hS.1
  have hFc := va_free (wc := [(h, .inr (9, [.int 0, .ref ho, .ref hd, .ref hs, .ref hu, .ref hv, .int kn])), (ho, .inl (cR, 4, .inr (.inr (.inr (.inr R0))))), (y0, .inl (cI, 64, .inl f0))]) hD hS hA [2, 0, 1] rfl
  have hO0 := zz_out zz_St_G hX0 hS hFc
  have hO1 := zz_out (zz_St_S qe be 0 fe) hX1 hS hFc
  have hO2 := zz_out (X := fun A U => vk_R RX5 116 "" qe U) (zz_St_R RX5 "" 116 qe) hX2 hS hFc
  have hO3 := zz_out (zz_St_S qq bq 1 fq) hX3 hS hFc
  have hO4 := zz_out (X := fun A U => vk_R RX5 134 "=" qq U) (zz_St_R RX5 "=" 134 qq) hX4 hS hFc
  have hO5 := zz_out (zz_St_S qs bs 2 fs) hX5 hS hFc
  refine zz_after (wr := []) (va_runV (As := [.int 0, .ref qs]) (rest := [.int 2]) ⟨hx, hb, hml, hown, hts⟩ ((k_X5_textOf l D h 0 ho hd hs hu hv kn cR R0 y0 cI f0 qe be fe qq bq fq qs bs fs (hR) (hf1) (hf2)) H.size) (cwV 2 hts gX5_width_X5_textOf rfl rfl rfl (by decide +kernel) ⟨Nat.le_of_ble_eq_true rfl, Nat.le_of_ble_eq_true rfl⟩) (zz_pV (zz_pre (av := [.ref h, .int 0, .ref qs]) (tyc := [(cR, .array .int), (cI, .int)]) (wc := [(h, .inr (9, [.int 0, .ref ho, .ref hd, .ref hs, .ref hu, .ref hv, .int kn])), (ho, .inl (cR, 4, .inr (.inr (.inr (.inr R0))))), (y0, .inl (cI, 64, .inl f0))]) (X := fun _ _ => True) (Xc := (fun A U => zz_G A U ∧ zz_S qe be 0 fe A U ∧ vk_R RX5 116 "" qe U ∧ zz_S qq bq 1 fq A U ∧ vk_R RX5 134 "=" qq U ∧ zz_S qs bs 2 fs A U)) hP hD hK hS [2, 0, 1] [0, 1] rfl (by decide) rfl (zz_St_and zz_St_G (zz_St_and (zz_St_S qe be 0 fe) (zz_St_and (zz_St_R RX5 "" 116 qe) (zz_St_and (zz_St_S qq bq 1 fq) (zz_St_and (zz_St_R RX5 "=" 134 qq) (zz_St_S qs bs 2 fs)))))) (fun U h1 h2 => ⟨hO0 U h1 h2, hO1 U h1 h2, hO2 U h1 h2, hO3 U h1 h2, hO4 U h1 h2, hO5 U h1 h2⟩)) (va_recv hK hP (ci := 9) (q0 := 2) rfl rfl)) rfl rfl hl.1 rfl (lv_room (Nat.le_of_ble_eq_true rfl)) dX5_width_21 ⟨by show 0 + 0 + 0 + 486 ≤ 486; omega, by show 0 + 0 + 0 + 487296 ≤ 487296; omega⟩) hP hD hK hS hFc [2, 0, 1] [] rfl rfl (by decide) (by decide) (fun v w1 ty1 H1 locs hq9 hz9 hk9 hP1 hD1 hK1 hS1 => ?_)
  obtain ⟨t2_2, b2_3, cA2_4, f2_5, L2_6, h_7, h_8, h_9, rfl, rfl, rfl⟩ := hq9
  clear hS hP hD hK hFc hO0 hO1 hO2 hO3 hO4 hO5
  have hP : va_P D vwCl [(h, .inr (9, [.int 0, .ref ho, .ref hd, .ref hs, .ref hu, .ref hv, .int kn])), (ho, .inl (cR, 4, .inr (.inr (.inr (.inr R0))))), (y0, .inl (cI, 64, .inl f0)), (t2_2, .inr (0, [.ref b2_3, .int 0, .int 0, .int 0])), (b2_3, .inl (cA2_4, 376, .inl f2_5))] H1 := hP1
  have hD : va_D A [(h, .inr (9, [.int 0, .ref ho, .ref hd, .ref hs, .ref hu, .ref hv, .int kn])), (ho, .inl (cR, 4, .inr (.inr (.inr (.inr R0))))), (y0, .inl (cI, 64, .inl f0)), (t2_2, .inr (0, [.ref b2_3, .int 0, .int 0, .int 0])), (b2_3, .inl (cA2_4, 376, .inl f2_5))] := hD1
  have hK : va_K D vwCl [(cR, .array .int), (cI, .int), (cR, .array .int), (cI, .int), (cA2_4, .byte)] s := hK1
  have hS := hS1
  clear hP1 hD1 hK1 hS1
  obtain ⟨H, rfl⟩ : ∃ z, z = H1 := ⟨_, rfl⟩
  refine W.eq (g2 := F0 mt0 24 ls [.ref t2_2, .int 2]) rfl ?_
  have hLw := zz_L.low h_8 hz0
  have hDB := hD.self (sz := H.size)
  obtain ⟨B, hB⟩ : ∃ z, z = va_A [(h, .inr (9, [.int 0, .ref ho, .ref hd, .ref hs, .ref hu, .ref hv, .int kn])), (ho, .inl (cR, 4, .inr (.inr (.inr (.inr R0))))), (y0, .inl (cI, 64, .inl f0)), (t2_2, .inr (0, [.ref b2_3, .int 0, .int 0, .int 0])), (b2_3, .inl (cA2_4, 376, .inl f2_5))] H.size := ⟨_, rfl⟩
  rw [← hB] at hDB
  obtain ⟨Hk, hHk⟩ : ∃ z, z = H := ⟨_, rfl⟩
  have hBge : ∀ q, Hk.size ≤ q → B q := by intro q h; rw [hB, ← hHk]; exact Or.inr h
  have hT : zz_T B Hk H := by rw [hHk]; exact zz_T.rf
  rw [← hHk] at hB hLw
  have hFc := zz_free (wc := []) hD (fun q h => hA q (Nat.le_trans hS.1 h)) [] rfl
  have hFB := zz_free (wc := []) hDB (fun q h => hBge q (Nat.le_trans hT.1 h)) [] rfl
  have hO0 := zz_out zz_St_G hX0 hS hFc
  have hO1 := zz_ofW hts (by decide +kernel) hP hD hK (wc := []) [] rfl 3 4 4 (by decide) (by decide) rfl rfl rfl (by omega) (h_7)
  refine zz_after0 (wr := [(h, .inr (9, [.int 0, .ref ho, .ref hd, .ref hs, .ref hu, .ref hv, .int kn])), (ho, .inl (cR, 4, .inr (.inr (.inr (.inr R0))))), (y0, .inl (cI, 64, .inl f0)), (t2_2, .inr (0, [.ref b2_3, .int 0, .int 0, .int 0])), (b2_3, .inl (cA2_4, 376, .inl f2_5))]) (va_runV (As := []) (rest := [.int 2]) ⟨hx, hb, hml, hown, hts⟩ ((k_J0_length_8abf5 l D t2_2 b2_3 376 f2_5) H.size) (cwV 0 hts gX5_width_J0_length_8abf5 rfl rfl rfl (by decide +kernel) ⟨Nat.le_of_ble_eq_true rfl, Nat.le_of_ble_eq_true rfl⟩) (zz_pV (zz_pre (av := [.ref t2_2]) (tyc := []) (wc := []) (X := fun _ _ => True) (Xc := (fun A U => zz_G A U ∧ zz_S t2_2 b2_3 376 f2_5 A U)) hP hD hK hS [] [] rfl (by decide) rfl (zz_St_and zz_St_G (zz_St_S t2_2 b2_3 376 f2_5)) (fun U h1 h2 => ⟨hO0 U h1 h2, hO1 U h1 h2⟩)) (va_recv hK hP (ci := 0) (q0 := 3) rfl rfl)) rfl rfl hl.1 rfl (lv_room (Nat.le_of_ble_eq_true rfl)) dX5_width_24 ⟨by show 0 + 0 + 0 + 486 + 0 ≤ 486; omega, by show 0 + 0 + 0 + 487296 + 0 ≤ 487296; omega⟩) hP hD hK hFc [] [0, 1, 2, 3, 4] rfl rfl (by decide) (by decide) (fun v w1 ty1 H1 L9 hq9 hz9 hk9 hL9 hP1 hDf hK1 => ?_)
  have hS1 := zz_S1 hS hz9 hk9 hFc hL9
  have hT1 := hT.go hz9 hk9 hFB
  have hD1 := hDf A hD hFc
  have hDB1 := hDf B hDB hFB
  obtain ⟨locs, elocs⟩ : ∃ z, z = locs ++ L9 := ⟨_, rfl⟩
  rw [← elocs] at hS1 ⊢
  clear elocs hz9 hk9 hL9 hDf
  obtain ⟨rfl, rfl, rfl⟩ := hq9
  clear hS hP hD hK hFc hO0 hO1 hT hDB hFB
  have hP : va_P D vwCl [(h, .inr (9, [.int 0, .ref ho, .ref hd, .ref hs, .ref hu, .ref hv, .int kn])), (ho, .inl (cR, 4, .inr (.inr (.inr (.inr R0))))), (y0, .inl (cI, 64, .inl f0)), (t2_2, .inr (0, [.ref b2_3, .int 0, .int 0, .int 0])), (b2_3, .inl (cA2_4, 376, .inl f2_5))] H1 := hP1
  have hD : va_D A [(h, .inr (9, [.int 0, .ref ho, .ref hd, .ref hs, .ref hu, .ref hv, .int kn])), (ho, .inl (cR, 4, .inr (.inr (.inr (.inr R0))))), (y0, .inl (cI, 64, .inl f0)), (t2_2, .inr (0, [.ref b2_3, .int 0, .int 0, .int 0])), (b2_3, .inl (cA2_4, 376, .inl f2_5))] := hD1
  have hK : va_K D vwCl [(cR, .array .int), (cI, .int), (cR, .array .int), (cI, .int), (cA2_4, .byte)] s := hK1
  have hS := hS1
  have hT := hT1
  have hDB : va_D B [(h, .inr (9, [.int 0, .ref ho, .ref hd, .ref hs, .ref hu, .ref hv, .int kn])), (ho, .inl (cR, 4, .inr (.inr (.inr (.inr R0))))), (y0, .inl (cI, 64, .inl f0)), (t2_2, .inr (0, [.ref b2_3, .int 0, .int 0, .int 0])), (b2_3, .inl (cA2_4, 376, .inl f2_5))] := hDB1
  clear hT1 hDB1
  clear hP1 hD1 hK1 hS1
  obtain ⟨H, rfl⟩ : ∃ z, z = H1 := ⟨_, rfl⟩
  refine W.eq (g2 := F0 mt0 27 ls [.int (nI 376), .int 2]) rfl ?_
  refine lv_iadd hx hb dX5_width_27 ?_
  refine lv_topi (fun z_10 ez_10 => ?_)
  obtain rfl : z_10 = nI 378 := ez_10.trans (by decide)
  rw [hB] at hT hDB
  obtain ⟨hLa, hda⟩ := zz_L.kept hLw h_9 hT hDB
  have hdb := hda.sub (ws' := [(h, .inr (9, [.int 0, .ref ho, .ref hd, .ref hs, .ref hu, .ref hv, .int kn])), (ho, .inl (cR, 4, .inr (.inr (.inr (.inr R0))))), (y0, .inl (cI, 64, .inl f0))]) [0, 1, 2] rfl
  have hP9 := hP.sub (ws' := [(h, .inr (9, [.int 0, .ref ho, .ref hd, .ref hs, .ref hu, .ref hv, .int kn])), (ho, .inl (cR, 4, .inr (.inr (.inr (.inr R0))))), (y0, .inl (cI, 64, .inl f0))]) [0, 1, 2] rfl
  have hD9 := hD.sub (ws' := [(h, .inr (9, [.int 0, .ref ho, .ref hd, .ref hs, .ref hu, .ref hv, .int kn])), (ho, .inl (cR, 4, .inr (.inr (.inr (.inr R0))))), (y0, .inl (cI, 64, .inl f0))]) [0, 1, 2] (by decide) rfl
  have hK9 := hK.sub (tys' := [(cR, .array .int), (cI, .int)]) [0, 1] rfl
  refine W.widen (k := 486) (n := 487296) (by show 0 + 0 + 0 + 486 + 0 ≤ 486; omega) (by show 0 + 0 + 0 + 487296 + 0 ≤ 487296; omega) ?_
  exact W.iret (v := nI 378) hx hb hr (zz_end hP9 hD9 hK9 hS (⟨_, hLa, hdb, rfl, rfl, rfl⟩)) hS.2.2 dX5_width_28
set_option maxHeartbeats 4000000 in
set_option maxRecDepth 100000 in
theorem em_S {p0 : Program} {l : Launch} {e0 : Env} {s : State} {mt0 : MethodId} {args : Array Value} {bl0 : List Frame} {meth0 : Method} {cd0 : Code} {Q : State → Prop} {A : Nat → Prop} {H : Heap} {locs : List Loc} {ls : Array Slot} (D : va_G) (h : Nat) (th : Int32) (ho : Nat) (hd : Value) (hs : Value) (hu : Value) (hv : Value) (kn : Int32) (cR : ClassId) (R0 : Nat → Option Nat) (y : Nat) (cI : ClassId) (ti : Int32) (k : Nat) (f : Nat → Int32) (hC : zz_C p0 s mt0 meth0 cd0 args RX5 cX5_empty 3 none wsX5_empty)  (hA : ∀ q, s.heap.size ≤ q → A q) (hK : va_K D vwCl [(cR, .array .int), (cI, .int)] s) (hP : va_P D vwCl [(h, .inr (9, [.int th, .ref ho, hd, hs, hu, hv, .int kn])), (ho, .inl (cR, 4, .inr (.inr (.inr (.inr R0))))), (y, .inl (cI, 64, .inl f))] H) (hD : va_D A [(h, .inr (9, [.int th, .ref ho, hd, hs, hu, hv, .int kn])), (ho, .inl (cR, 4, .inr (.inr (.inr (.inr R0))))), (y, .inl (cI, 64, .inl f))]) (hS : va_S A s.heap H locs) (hl : lv_has ls 3 [(2, .int (nI k)), (0, .ref h), (1, .int ti)]) (hti : vp_in ti 4) (hR : R0 ti.toNatClampNeg = some y) (hk : k < 64) (kk : ∀ (H' : Heap) (locs' : List Loc) (ls' : Array Slot), va_K D vwCl [(cR, .array .int), (cI, .int)] s → va_P D vwCl [(h, .inr (9, [.int th, .ref ho, hd, hs, hu, hv, .int kn])), (ho, .inl (cR, 4, .inr (.inr (.inr (.inr R0))))), (y, .inl (cI, 64, .inl (upd f k (-1))))] H' → va_D A [(h, .inr (9, [.int th, .ref ho, hd, hs, hu, hv, .int kn])), (ho, .inl (cR, 4, .inr (.inr (.inr (.inr R0))))), (y, .inl (cI, 64, .inl (upd f k (-1))))] → va_S A s.heap H' locs' → lv_has ls' 3 [(2, .int (nI (k + 1))), (0, .ref h), (1, .int ti)] → W p0 l e0 ({ frames := 1, cells := 0, slots := 0, locals := 60 } : Room) s mt0 args bl0 meth0 cd0 H' locs' (0) (0) Q (F0 mt0 2 ls' [])) : W p0 l e0 ({ frames := 1, cells := 0, slots := 0, locals := 60 } : Room) s mt0 args bl0 meth0 cd0 H locs (0) (0) Q (F0 mt0 2 ls []) := by
  obtain ⟨hx, hb, hml, hr, hown, hts, hlocks⟩ := hC
  refine lv_iload_n hx hb dX5_empty_2 rfl (lv_at hl 0 rfl) ?_
  refine lv_bipush (v := 64) hx hb dX5_empty_3 (by decide) ?_
  refine lv_icmp_ge (tgt := 23) hx hb dX5_empty_5 (by decide) (fun c_1 => absurd c_1 (show ¬ nI 64 ≤ nI k from nI_ge (by omega) (by decide))) (fun c_1 => ?_)
  refine lv_aload_n hx hb dX5_empty_8 rfl (lv_at hl 1 rfl) ?_
  refine va_get (D := D) (ci := 9) (v := .ref ho) (C := RX5) (T := TX5) (N := 7) hx hb hts (by decide +kernel) hown hK hP 0 rfl rfl 1 (by decide) (hts (.fieldLink RX5 11 "HashladderModel" "rows" "[[I") (by decide +kernel)) (fun _ h9 => h9) rfl dX5_empty_9 ?_
  refine lv_iload_n hx hb dX5_empty_12 rfl (lv_at hl 2 rfl) ?_
  refine zz_aldA hx hb hK hP 1 0 rfl rfl rfl (hti) (v := .ref y) (by rw [hR]; rfl) dX5_empty_13 ?_
  refine lv_iload_n hx hb dX5_empty_14 rfl (lv_at hl 0 rfl) ?_
  refine lv_iconst (v := (-1)) hx hb dX5_empty_15 (by decide) ?_
  refine va_iast hx hb hK hP hD hS 2 1 rfl rfl (vp_in_nI hk (by decide)) dX5_empty_16 (fun H locs hP hD hS => ?_)
  have hP : va_P D vwCl [(h, .inr (9, [.int th, .ref ho, hd, hs, hu, hv, .int kn])), (ho, .inl (cR, 4, .inr (.inr (.inr (.inr R0))))), (y, .inl (cI, 64, .inl (upd f (nI k : Int32).toNatClampNeg (-1))))] H := hP
  have hD : va_D A [(h, .inr (9, [.int th, .ref ho, hd, hs, hu, hv, .int kn])), (ho, .inl (cR, 4, .inr (.inr (.inr (.inr R0))))), (y, .inl (cI, 64, .inl (upd f (nI k : Int32).toNatClampNeg (-1))))] := hD
  have ef : upd f (nI k : Int32).toNatClampNeg (-1) = upd f k (-1) := by rw [nI_clamp (by omega)]
  rw [ef] at hP hD
  refine lv_iinc (v := (nI (k + 1))) (lv' := [(2, .int (nI (k + 1))), (0, .ref h), (1, .int ti)]) hx hb dX5_empty_17 hl (k := 0) rfl (nI_1 k) (by decide) rfl (fun ls hl => ?_)
  refine lv_goto (tgt := 2) hx hb dX5_empty_20 (by decide) ?_
  exact kk _ _ _ (hK.sub [0, 1] rfl) (hP.sub [0, 1, 2] rfl) (hD.sub [0, 1, 2] (by decide) rfl) hS (lv_sub hl [0, 1, 2] rfl)
set_option maxHeartbeats 4000000 in
theorem em_L {p0 : Program} {l : Launch} {e0 : Env} {s : State} {mt0 : MethodId} {args : Array Value} {bl0 : List Frame} {meth0 : Method} {cd0 : Code} {Q : State → Prop} {A : Nat → Prop} (D : va_G) (h : Nat) (th : Int32) (ho : Nat) (hd : Value) (hs : Value) (hu : Value) (hv : Value) (kn : Int32) (cR : ClassId) (R0 : Nat → Option Nat) (y : Nat) (cI : ClassId) (ti : Int32) (hC : zz_C p0 s mt0 meth0 cd0 args RX5 cX5_empty 3 none wsX5_empty)  (hA : ∀ q, s.heap.size ≤ q → A q) (hK : va_K D vwCl [(cR, .array .int), (cI, .int)] s) (hti : vp_in ti 4) (hR : R0 ti.toNatClampNeg = some y) (kk : ∀ (f : Nat → Int32) (H : Heap) (locs : List Loc) (ls : Array Slot), (∀ i, i < 64 → f i = -1) → va_P D vwCl [(h, .inr (9, [.int th, .ref ho, hd, hs, hu, hv, .int kn])), (ho, .inl (cR, 4, .inr (.inr (.inr (.inr R0))))), (y, .inl (cI, 64, .inl f))] H → va_D A [(h, .inr (9, [.int th, .ref ho, hd, hs, hu, hv, .int kn])), (ho, .inl (cR, 4, .inr (.inr (.inr (.inr R0))))), (y, .inl (cI, 64, .inl f))] → va_S A s.heap H locs → lv_has ls 3 [(2, .int (nI 64)), (0, .ref h), (1, .int ti)] → W p0 l e0 ({ frames := 1, cells := 0, slots := 0, locals := 60 } : Room) s mt0 args bl0 meth0 cd0 H locs 0 0 Q (F0 mt0 2 ls [])) : ∀ (n k : Nat), k + n = 64 → ∀ (f : Nat → Int32) (H : Heap) (locs : List Loc) (ls : Array Slot), (∀ i, i < k → f i = -1) → va_P D vwCl [(h, .inr (9, [.int th, .ref ho, hd, hs, hu, hv, .int kn])), (ho, .inl (cR, 4, .inr (.inr (.inr (.inr R0))))), (y, .inl (cI, 64, .inl f))] H → va_D A [(h, .inr (9, [.int th, .ref ho, hd, hs, hu, hv, .int kn])), (ho, .inl (cR, 4, .inr (.inr (.inr (.inr R0))))), (y, .inl (cI, 64, .inl f))] → va_S A s.heap H locs → lv_has ls 3 [(2, .int (nI k)), (0, .ref h), (1, .int ti)] → W p0 l e0 ({ frames := 1, cells := 0, slots := 0, locals := 60 } : Room) s mt0 args bl0 meth0 cd0 H locs 0 0 Q (F0 mt0 2 ls []) := by
  intro n
  induction n with
  | zero => intro k hk f H locs ls hf hP hD hS hl
            obtain rfl : k = 64 := by omega
            exact kk f H locs ls hf hP hD hS hl
  | succ n ih => intro k hk f H locs ls hf hP hD hS hl
                 exact em_S D h th ho hd hs hu hv kn cR R0 y cI ti k f hC hA hK hP hD hS hl hti hR (by omega) (fun H' locs' ls' _ hP' hD' hS' hl' => ih (k + 1) (by omega) (upd f k (-1)) H' locs' ls' (fun i hi => by
                   by_cases e : i = k
                   · subst e; exact pk_us
                   · rw [pk_un e]; exact hf i (by omega)) hP' hD' hS' hl')
set_option maxHeartbeats 4000000 in
set_option maxRecDepth 100000 in
theorem k_X5_empty (l : Launch) (D : va_G) (h : Nat) (th : Int32) (ho : Nat) (hd : Value) (hs : Value) (hu : Value) (hv : Value) (kn : Int32) (cR : ClassId) (R0 : Nat → Option Nat) (y : Nat) (cI : ClassId) (ti : Int32) (f : Nat → Int32) (hti : vp_in ti 4) (hR : R0 ti.toNatClampNeg = some y) : zz_M l yX5_empty wsX5_empty ({ frames := 1, cells := 0, slots := 0, locals := 60 }) D [.ref h, .int ti] [(cR, .array .int), (cI, .int)] [(h, .inr (9, [.int th, .ref ho, hd, hs, hu, hv, .int kn])), (ho, .inl (cR, 4, .inr (.inr (.inr (.inr R0))))), (y, .inl (cI, 64, .inl f))] (fun _ _ => True) (fun H0 H1 v w t => ∃ f2 : Nat → Int32, (∀ i, i < 64 → f2 i = -1) ∧ v = none ∧ w = [(h, .inr (9, [.int th, .ref ho, hd, hs, hu, hv, .int kn])), (ho, .inl (cR, 4, .inr (.inr (.inr (.inr R0))))), (y, .inl (cI, 64, .inl f2))] ∧ t = [(cR, .array .int), (cI, .int)]) := by
  refine zz_M.mk (cc := cX5_empty) (maxL := 3) (ret := none) (by decide) rfl (Nat.le_of_ble_eq_true rfl) ?_
  intro p0 e0 s mt0 bl0 meth0 cd0 ls hC hname hP hK hD hX hl
  obtain ⟨hx, hb, hml, hr, hown, hts, hlocks⟩ := hC
  generalize hAe : va_A [(h, .inr (9, [.int th, .ref ho, hd, hs, hu, hv, .int kn])), (ho, .inl (cR, 4, .inr (.inr (.inr (.inr R0))))), (y, .inl (cI, 64, .inl f))] s.heap.size = A at *
  have hA : ∀ q : Nat, s.heap.size ≤ q → A q := fun q h => by rw [← hAe]; exact Or.inr h
  obtain ⟨H, hHs⟩ : ∃ z : Heap, z = s.heap := ⟨_, rfl⟩
  rw [← hHs] at hP ⊢
  have hS : va_S A s.heap H [] := by rw [hHs]; exact va_S.rf
  have hl : lv_has ls 3 [(0, .ref h), (1, .int ti)] := hl
  refine lv_iconst (v := 0) hx hb dX5_empty_0 (by decide) ?_
  refine lv_istore_n (lv' := [(2, .int 0), (0, .ref h), (1, .int ti)]) hx hb dX5_empty_1 rfl hl (by decide) rfl (fun ls hl => ?_)
  refine em_L D h th ho hd hs hu hv kn cR R0 y cI ti ⟨hx, hb, hml, hr, hown, hts, hlocks⟩ hA hK hti hR ?_ 64 0 rfl f H _ ls (fun i h => absurd h (Nat.not_lt_zero i)) hP hD hS (lv_sub hl [0, 1, 2] rfl)
  intro f1 H locs ls hf1 hP hD hS hl
  refine lv_iload_n hx hb dX5_empty_2 rfl (lv_at hl 0 rfl) ?_
  refine lv_bipush (v := 64) hx hb dX5_empty_3 (by decide) ?_
  refine lv_icmp_ge (tgt := 23) hx hb dX5_empty_5 (by decide) (fun c_1 => ?_) (fun c_1 => absurd (Int32.le_refl _) c_1)
  have hP9 := hP.sub (ws' := [(h, .inr (9, [.int th, .ref ho, hd, hs, hu, hv, .int kn])), (ho, .inl (cR, 4, .inr (.inr (.inr (.inr R0))))), (y, .inl (cI, 64, .inl f1))]) [0, 1, 2] rfl
  have hD9 := hD.sub (ws' := [(h, .inr (9, [.int th, .ref ho, hd, hs, hu, hv, .int kn])), (ho, .inl (cR, 4, .inr (.inr (.inr (.inr R0))))), (y, .inl (cI, 64, .inl f1))]) [0, 1, 2] (by decide) rfl
  have hK9 := hK.sub (tys' := [(cR, .array .int), (cI, .int)]) [0, 1] rfl
  refine W.widen (k := 0) (n := 0) (by show 0 ≤ 0; omega) (by show 0 ≤ 0; omega) ?_
  exact W.vret hx hb hr (zz_end hP9 hD9 hK9 hS (⟨_, hf1, rfl, rfl, rfl⟩)) hS.2.2 dX5_empty_23
set_option maxHeartbeats 4000000 in
set_option maxRecDepth 100000 in
theorem k_X5_init (l : Launch) (D : va_G) (h : Nat) : zz_M l yX5_init wsX5_init ({ frames := 2, cells := 9, slots := 276, locals := 100 }) D [.ref h] [] [(h, .inr (9, [.int 0, .null, .null, .null, .null, .null, .int 0]))] (fun A U => va_AOA .int U) (fun H0 H1 v w t => ∃ ho : Nat, ∃ hd : Nat, ∃ hs : Nat, ∃ hu : Nat, ∃ hv : Nat, ∃ y0 : Nat, ∃ cR : ClassId, ∃ cI : ClassId, ∃ cD : ClassId, ∃ R0 : Nat → Option Nat, ∃ g0 : Nat → Int32, ∃ fd : Nat → Int32, R0 0 = some y0 ∧ (∀ i, i < 64 → g0 i = -1) ∧ v = none ∧ w = [(h, .inr (9, [.int 0, .ref ho, .ref hd, .ref hs, .ref hu, .ref hv, .int 0])), (ho, .inl (cR, 4, .inr (.inr (.inr (.inr R0))))), (y0, .inl (cI, 64, .inl g0)), (hd, .inl (cD, 4, .inl fd))] ∧ t = [(cR, .array .int), (cI, .int), (cD, .int)]) := by
  refine zz_M.mk (cc := cX5_init) (maxL := 2) (ret := none) (by decide) rfl (Nat.le_of_ble_eq_true rfl) ?_
  intro p0 e0 s mt0 bl0 meth0 cd0 ls hC hname hP hK hD hX hl
  obtain ⟨hx, hb, hml, hr, hown, hts, hlocks⟩ := hC
  have hX0 := hX
  generalize hAe : va_A [(h, .inr (9, [.int 0, .null, .null, .null, .null, .null, .int 0]))] s.heap.size = A at *
  have hA : ∀ q : Nat, s.heap.size ≤ q → A q := fun q h => by rw [← hAe]; exact Or.inr h
  obtain ⟨H, hHs⟩ : ∃ z : Heap, z = s.heap := ⟨_, rfl⟩
  rw [← hHs] at hP ⊢
  have hS : va_S A s.heap H [] := by rw [hHs]; exact va_S.rf
  have hl : lv_has ls 2 [(0, .ref h)] := hl
  refine lv_aload_n hx hb dX5_init_0 rfl (lv_at hl 0 rfl) ?_
  refine W.objInit hx hb hown (hts (.methodLink RX5 1 objectInit) (by decide +kernel)) (hts (.instanceMethod objectInit) (by decide +kernel)) (hts (.code objectInit ⟨#[0xb1]⟩ 1 none) (by decide +kernel)) rfl (by rw [hml]; exact hl.1) rfl dX5_init_1 (Nat.le_of_ble_eq_true rfl) (Nat.le_of_ble_eq_true rfl) ?_
  refine W.eq (g2 := F0 mt0 4 ls []) rfl ?_
  refine lv_aload_n hx hb dX5_init_4 rfl (lv_at hl 0 rfl) ?_
  refine lv_iconst (v := 4) hx hb dX5_init_5 (by decide) ?_
  refine lv_bipush (v := 64) hx hb dX5_init_6 (by decide) ?_
  refine zz_mna4 hx hb hown (hts (.classLink RX5 9 "[[I") (by decide +kernel)) hX0 (hts (.arrayClass .int) (by decide +kernel)) hK hP hD hS hA (by show 0 + 5 ≤ 9; omega) (by show 0 + 260 ≤ 276; omega) dX5_init_8 (fun q_1 r_2 r_3 r_4 r_5 cA_6 cy_7 H hK hP hD hS => ?_)
  have hK : va_K D vwCl [(cA_6, .array .int), (cy_7, .int)] s := hK
  have hP : va_P D vwCl [(h, .inr (9, [.int 0, .null, .null, .null, .null, .null, .int 0])), (q_1, .inl (cA_6, 4, .inr (.inr (.inr (.inr (zz_r4 r_2 r_3 r_4 r_5)))))), (r_2, .inl (cy_7, 64, .inl (fun _ => 0))), (r_3, .inl (cy_7, 64, .inl (fun _ => 0))), (r_4, .inl (cy_7, 64, .inl (fun _ => 0))), (r_5, .inl (cy_7, 64, .inl (fun _ => 0)))] H := hP
  have hD : va_D A [(h, .inr (9, [.int 0, .null, .null, .null, .null, .null, .int 0])), (q_1, .inl (cA_6, 4, .inr (.inr (.inr (.inr (zz_r4 r_2 r_3 r_4 r_5)))))), (r_2, .inl (cy_7, 64, .inl (fun _ => 0))), (r_3, .inl (cy_7, 64, .inl (fun _ => 0))), (r_4, .inl (cy_7, 64, .inl (fun _ => 0))), (r_5, .inl (cy_7, 64, .inl (fun _ => 0)))] := hD
  refine va_put (D := D) (ci := 9) (v := .ref q_1) (ty := .array (.array .int)) (C := RX5) (T := TX5) (N := 7) hx hb hts (by decide +kernel) tyX5 tyX5_ok nmX5 hown hK hP hD hS 0 rfl rfl 1 (by decide) (hts (.fieldLink RX5 11 "HashladderModel" "rows" "[[I") (by decide +kernel)) (fun _ h9 => h9) rfl (by decide +kernel) rfl rfl (Nat.le_of_ble_eq_true rfl) dX5_init_12 (fun H locs hP hD hS => ?_)
  have hP : va_P D vwCl [(h, .inr (9, [.int 0, .ref q_1, .null, .null, .null, .null, .int 0])), (q_1, .inl (cA_6, 4, .inr (.inr (.inr (.inr (zz_r4 r_2 r_3 r_4 r_5)))))), (r_2, .inl (cy_7, 64, .inl (fun _ => 0))), (r_3, .inl (cy_7, 64, .inl (fun _ => 0))), (r_4, .inl (cy_7, 64, .inl (fun _ => 0))), (r_5, .inl (cy_7, 64, .inl (fun _ => 0)))] H := hP
  have hD : va_D A [(h, .inr (9, [.int 0, .ref q_1, .null, .null, .null, .null, .int 0])), (q_1, .inl (cA_6, 4, .inr (.inr (.inr (.inr (zz_r4 r_2 r_3 r_4 r_5)))))), (r_2, .inl (cy_7, 64, .inl (fun _ => 0))), (r_3, .inl (cy_7, 64, .inl (fun _ => 0))), (r_4, .inl (cy_7, 64, .inl (fun _ => 0))), (r_5, .inl (cy_7, 64, .inl (fun _ => 0)))] := hD
  refine lv_aload_n hx hb dX5_init_15 rfl (lv_at hl 0 rfl) ?_
  refine lv_iconst (v := 4) hx hb dX5_init_16 (by decide) ?_
  refine va_newa (atype := .int) hx hb (hts (.arrayClass .int) (by decide +kernel)) rfl hK hP hD hS hA (N' := 4) (a0 := (4, .inl (fun _ => 0))) (fun _ => rfl) (by decide) (by decide) (by decide) (by show 0 + 5 + 1 ≤ 9; omega) (by show 0 + 260 + 4 ≤ 276; omega) dX5_init_17 (fun q_8 cA_9 H hK hP hD hS => ?_)
  have hK : va_K D vwCl [(cA_6, .array .int), (cy_7, .int), (cA_9, .int)] s := hK
  have hP : va_P D vwCl [(h, .inr (9, [.int 0, .ref q_1, .null, .null, .null, .null, .int 0])), (q_1, .inl (cA_6, 4, .inr (.inr (.inr (.inr (zz_r4 r_2 r_3 r_4 r_5)))))), (r_2, .inl (cy_7, 64, .inl (fun _ => 0))), (r_3, .inl (cy_7, 64, .inl (fun _ => 0))), (r_4, .inl (cy_7, 64, .inl (fun _ => 0))), (r_5, .inl (cy_7, 64, .inl (fun _ => 0))), (q_8, .inl (cA_9, 4, .inl (fun _ => 0)))] H := hP
  have hD : va_D A [(h, .inr (9, [.int 0, .ref q_1, .null, .null, .null, .null, .int 0])), (q_1, .inl (cA_6, 4, .inr (.inr (.inr (.inr (zz_r4 r_2 r_3 r_4 r_5)))))), (r_2, .inl (cy_7, 64, .inl (fun _ => 0))), (r_3, .inl (cy_7, 64, .inl (fun _ => 0))), (r_4, .inl (cy_7, 64, .inl (fun _ => 0))), (r_5, .inl (cy_7, 64, .inl (fun _ => 0))), (q_8, .inl (cA_9, 4, .inl (fun _ => 0)))] := hD
  refine lv_dup hx hb dX5_init_19 rfl ?_
  refine lv_iconst (v := 0) hx hb dX5_init_20 (by decide) ?_
  refine lv_iconst (v := (-1)) hx hb dX5_init_21 (by decide) ?_
  refine va_iast hx hb hK hP hD hS 6 2 rfl rfl ((show vp_in (0 : Int32) 4 from vp_in_nI (n := 0) (by decide) (by decide))) dX5_init_22 (fun H locs hP hD hS => ?_)
  have hP : va_P D vwCl [(h, .inr (9, [.int 0, .ref q_1, .null, .null, .null, .null, .int 0])), (q_1, .inl (cA_6, 4, .inr (.inr (.inr (.inr (zz_r4 r_2 r_3 r_4 r_5)))))), (r_2, .inl (cy_7, 64, .inl (fun _ => 0))), (r_3, .inl (cy_7, 64, .inl (fun _ => 0))), (r_4, .inl (cy_7, 64, .inl (fun _ => 0))), (r_5, .inl (cy_7, 64, .inl (fun _ => 0))), (q_8, .inl (cA_9, 4, .inl (upd (fun _ => 0) (0 : Int32).toNatClampNeg (-1))))] H := hP
  have hD : va_D A [(h, .inr (9, [.int 0, .ref q_1, .null, .null, .null, .null, .int 0])), (q_1, .inl (cA_6, 4, .inr (.inr (.inr (.inr (zz_r4 r_2 r_3 r_4 r_5)))))), (r_2, .inl (cy_7, 64, .inl (fun _ => 0))), (r_3, .inl (cy_7, 64, .inl (fun _ => 0))), (r_4, .inl (cy_7, 64, .inl (fun _ => 0))), (r_5, .inl (cy_7, 64, .inl (fun _ => 0))), (q_8, .inl (cA_9, 4, .inl (upd (fun _ => 0) (0 : Int32).toNatClampNeg (-1))))] := hD
  refine lv_dup hx hb dX5_init_23 rfl ?_
  refine lv_iconst (v := 1) hx hb dX5_init_24 (by decide) ?_
  refine lv_iconst (v := (-1)) hx hb dX5_init_25 (by decide) ?_
  refine va_iast hx hb hK hP hD hS 6 2 rfl rfl ((show vp_in (1 : Int32) 4 from vp_in_nI (n := 1) (by decide) (by decide))) dX5_init_26 (fun H locs hP hD hS => ?_)
  have hP : va_P D vwCl [(h, .inr (9, [.int 0, .ref q_1, .null, .null, .null, .null, .int 0])), (q_1, .inl (cA_6, 4, .inr (.inr (.inr (.inr (zz_r4 r_2 r_3 r_4 r_5)))))), (r_2, .inl (cy_7, 64, .inl (fun _ => 0))), (r_3, .inl (cy_7, 64, .inl (fun _ => 0))), (r_4, .inl (cy_7, 64, .inl (fun _ => 0))), (r_5, .inl (cy_7, 64, .inl (fun _ => 0))), (q_8, .inl (cA_9, 4, .inl (upd (upd (fun _ => 0) (0 : Int32).toNatClampNeg (-1)) (1 : Int32).toNatClampNeg (-1))))] H := hP
  have hD : va_D A [(h, .inr (9, [.int 0, .ref q_1, .null, .null, .null, .null, .int 0])), (q_1, .inl (cA_6, 4, .inr (.inr (.inr (.inr (zz_r4 r_2 r_3 r_4 r_5)))))), (r_2, .inl (cy_7, 64, .inl (fun _ => 0))), (r_3, .inl (cy_7, 64, .inl (fun _ => 0))), (r_4, .inl (cy_7, 64, .inl (fun _ => 0))), (r_5, .inl (cy_7, 64, .inl (fun _ => 0))), (q_8, .inl (cA_9, 4, .inl (upd (upd (fun _ => 0) (0 : Int32).toNatClampNeg (-1)) (1 : Int32).toNatClampNeg (-1))))] := hD
  refine lv_dup hx hb dX5_init_27 rfl ?_
  refine lv_iconst (v := 2) hx hb dX5_init_28 (by decide) ?_
  refine lv_iconst (v := (-1)) hx hb dX5_init_29 (by decide) ?_
  refine va_iast hx hb hK hP hD hS 6 2 rfl rfl ((show vp_in (2 : Int32) 4 from vp_in_nI (n := 2) (by decide) (by decide))) dX5_init_30 (fun H locs hP hD hS => ?_)
  have hP : va_P D vwCl [(h, .inr (9, [.int 0, .ref q_1, .null, .null, .null, .null, .int 0])), (q_1, .inl (cA_6, 4, .inr (.inr (.inr (.inr (zz_r4 r_2 r_3 r_4 r_5)))))), (r_2, .inl (cy_7, 64, .inl (fun _ => 0))), (r_3, .inl (cy_7, 64, .inl (fun _ => 0))), (r_4, .inl (cy_7, 64, .inl (fun _ => 0))), (r_5, .inl (cy_7, 64, .inl (fun _ => 0))), (q_8, .inl (cA_9, 4, .inl (upd (upd (upd (fun _ => 0) (0 : Int32).toNatClampNeg (-1)) (1 : Int32).toNatClampNeg (-1)) (2 : Int32).toNatClampNeg (-1))))] H := hP
  have hD : va_D A [(h, .inr (9, [.int 0, .ref q_1, .null, .null, .null, .null, .int 0])), (q_1, .inl (cA_6, 4, .inr (.inr (.inr (.inr (zz_r4 r_2 r_3 r_4 r_5)))))), (r_2, .inl (cy_7, 64, .inl (fun _ => 0))), (r_3, .inl (cy_7, 64, .inl (fun _ => 0))), (r_4, .inl (cy_7, 64, .inl (fun _ => 0))), (r_5, .inl (cy_7, 64, .inl (fun _ => 0))), (q_8, .inl (cA_9, 4, .inl (upd (upd (upd (fun _ => 0) (0 : Int32).toNatClampNeg (-1)) (1 : Int32).toNatClampNeg (-1)) (2 : Int32).toNatClampNeg (-1))))] := hD
  refine lv_dup hx hb dX5_init_31 rfl ?_
  refine lv_iconst (v := 3) hx hb dX5_init_32 (by decide) ?_
  refine lv_iconst (v := (-1)) hx hb dX5_init_33 (by decide) ?_
  refine va_iast hx hb hK hP hD hS 6 2 rfl rfl ((show vp_in (3 : Int32) 4 from vp_in_nI (n := 3) (by decide) (by decide))) dX5_init_34 (fun H locs hP hD hS => ?_)
  have hP : va_P D vwCl [(h, .inr (9, [.int 0, .ref q_1, .null, .null, .null, .null, .int 0])), (q_1, .inl (cA_6, 4, .inr (.inr (.inr (.inr (zz_r4 r_2 r_3 r_4 r_5)))))), (r_2, .inl (cy_7, 64, .inl (fun _ => 0))), (r_3, .inl (cy_7, 64, .inl (fun _ => 0))), (r_4, .inl (cy_7, 64, .inl (fun _ => 0))), (r_5, .inl (cy_7, 64, .inl (fun _ => 0))), (q_8, .inl (cA_9, 4, .inl (upd (upd (upd (upd (fun _ => 0) (0 : Int32).toNatClampNeg (-1)) (1 : Int32).toNatClampNeg (-1)) (2 : Int32).toNatClampNeg (-1)) (3 : Int32).toNatClampNeg (-1))))] H := hP
  have hD : va_D A [(h, .inr (9, [.int 0, .ref q_1, .null, .null, .null, .null, .int 0])), (q_1, .inl (cA_6, 4, .inr (.inr (.inr (.inr (zz_r4 r_2 r_3 r_4 r_5)))))), (r_2, .inl (cy_7, 64, .inl (fun _ => 0))), (r_3, .inl (cy_7, 64, .inl (fun _ => 0))), (r_4, .inl (cy_7, 64, .inl (fun _ => 0))), (r_5, .inl (cy_7, 64, .inl (fun _ => 0))), (q_8, .inl (cA_9, 4, .inl (upd (upd (upd (upd (fun _ => 0) (0 : Int32).toNatClampNeg (-1)) (1 : Int32).toNatClampNeg (-1)) (2 : Int32).toNatClampNeg (-1)) (3 : Int32).toNatClampNeg (-1))))] := hD
  refine va_putF (D := D) (ci := 9) (v := .ref q_8) (ty := .array .int) (C := RX5) (T := TX5) (N := 7) hx hb hts (by decide +kernel) tyX5 tyX5_ok nmX5 hown hK hP hD hS 0 rfl rfl 2 (by decide) (hts (.fieldLink RX5 14 "HashladderModel" "done" "[I") (by decide +kernel)) (fun _ h9 => h9) rfl hname rfl (by decide +kernel) rfl rfl (Nat.le_of_ble_eq_true rfl) dX5_init_35 (fun H locs hP hD hS => ?_)
  have hP : va_P D vwCl [(h, .inr (9, [.int 0, .ref q_1, .ref q_8, .null, .null, .null, .int 0])), (q_1, .inl (cA_6, 4, .inr (.inr (.inr (.inr (zz_r4 r_2 r_3 r_4 r_5)))))), (r_2, .inl (cy_7, 64, .inl (fun _ => 0))), (r_3, .inl (cy_7, 64, .inl (fun _ => 0))), (r_4, .inl (cy_7, 64, .inl (fun _ => 0))), (r_5, .inl (cy_7, 64, .inl (fun _ => 0))), (q_8, .inl (cA_9, 4, .inl (upd (upd (upd (upd (fun _ => 0) (0 : Int32).toNatClampNeg (-1)) (1 : Int32).toNatClampNeg (-1)) (2 : Int32).toNatClampNeg (-1)) (3 : Int32).toNatClampNeg (-1))))] H := hP
  have hD : va_D A [(h, .inr (9, [.int 0, .ref q_1, .ref q_8, .null, .null, .null, .int 0])), (q_1, .inl (cA_6, 4, .inr (.inr (.inr (.inr (zz_r4 r_2 r_3 r_4 r_5)))))), (r_2, .inl (cy_7, 64, .inl (fun _ => 0))), (r_3, .inl (cy_7, 64, .inl (fun _ => 0))), (r_4, .inl (cy_7, 64, .inl (fun _ => 0))), (r_5, .inl (cy_7, 64, .inl (fun _ => 0))), (q_8, .inl (cA_9, 4, .inl (upd (upd (upd (upd (fun _ => 0) (0 : Int32).toNatClampNeg (-1)) (1 : Int32).toNatClampNeg (-1)) (2 : Int32).toNatClampNeg (-1)) (3 : Int32).toNatClampNeg (-1))))] := hD
  refine lv_aload_n hx hb dX5_init_38 rfl (lv_at hl 0 rfl) ?_
  refine lv_iconst (v := 4) hx hb dX5_init_39 (by decide) ?_
  refine va_newa (atype := .int) hx hb (hts (.arrayClass .int) (by decide +kernel)) rfl hK hP hD hS hA (N' := 4) (a0 := (4, .inl (fun _ => 0))) (fun _ => rfl) (by decide) (by decide) (by decide) (by show 0 + 5 + 1 + 1 ≤ 9; omega) (by show 0 + 260 + 4 + 4 ≤ 276; omega) dX5_init_40 (fun q_10 cA_11 H hK hP hD hS => ?_)
  have hK : va_K D vwCl [(cA_6, .array .int), (cy_7, .int), (cA_9, .int), (cA_11, .int)] s := hK
  have hP : va_P D vwCl [(h, .inr (9, [.int 0, .ref q_1, .ref q_8, .null, .null, .null, .int 0])), (q_1, .inl (cA_6, 4, .inr (.inr (.inr (.inr (zz_r4 r_2 r_3 r_4 r_5)))))), (r_2, .inl (cy_7, 64, .inl (fun _ => 0))), (r_3, .inl (cy_7, 64, .inl (fun _ => 0))), (r_4, .inl (cy_7, 64, .inl (fun _ => 0))), (r_5, .inl (cy_7, 64, .inl (fun _ => 0))), (q_8, .inl (cA_9, 4, .inl (upd (upd (upd (upd (fun _ => 0) (0 : Int32).toNatClampNeg (-1)) (1 : Int32).toNatClampNeg (-1)) (2 : Int32).toNatClampNeg (-1)) (3 : Int32).toNatClampNeg (-1)))), (q_10, .inl (cA_11, 4, .inl (fun _ => 0)))] H := hP
  have hD : va_D A [(h, .inr (9, [.int 0, .ref q_1, .ref q_8, .null, .null, .null, .int 0])), (q_1, .inl (cA_6, 4, .inr (.inr (.inr (.inr (zz_r4 r_2 r_3 r_4 r_5)))))), (r_2, .inl (cy_7, 64, .inl (fun _ => 0))), (r_3, .inl (cy_7, 64, .inl (fun _ => 0))), (r_4, .inl (cy_7, 64, .inl (fun _ => 0))), (r_5, .inl (cy_7, 64, .inl (fun _ => 0))), (q_8, .inl (cA_9, 4, .inl (upd (upd (upd (upd (fun _ => 0) (0 : Int32).toNatClampNeg (-1)) (1 : Int32).toNatClampNeg (-1)) (2 : Int32).toNatClampNeg (-1)) (3 : Int32).toNatClampNeg (-1)))), (q_10, .inl (cA_11, 4, .inl (fun _ => 0)))] := hD
  refine va_putF (D := D) (ci := 9) (v := .ref q_10) (ty := .array .int) (C := RX5) (T := TX5) (N := 7) hx hb hts (by decide +kernel) tyX5 tyX5_ok nmX5 hown hK hP hD hS 0 rfl rfl 3 (by decide) (hts (.fieldLink RX5 18 "HashladderModel" "steps" "[I") (by decide +kernel)) (fun _ h9 => h9) rfl hname rfl (by decide +kernel) rfl rfl (Nat.le_of_ble_eq_true rfl) dX5_init_42 (fun H locs hP hD hS => ?_)
  have hP : va_P D vwCl [(h, .inr (9, [.int 0, .ref q_1, .ref q_8, .ref q_10, .null, .null, .int 0])), (q_1, .inl (cA_6, 4, .inr (.inr (.inr (.inr (zz_r4 r_2 r_3 r_4 r_5)))))), (r_2, .inl (cy_7, 64, .inl (fun _ => 0))), (r_3, .inl (cy_7, 64, .inl (fun _ => 0))), (r_4, .inl (cy_7, 64, .inl (fun _ => 0))), (r_5, .inl (cy_7, 64, .inl (fun _ => 0))), (q_8, .inl (cA_9, 4, .inl (upd (upd (upd (upd (fun _ => 0) (0 : Int32).toNatClampNeg (-1)) (1 : Int32).toNatClampNeg (-1)) (2 : Int32).toNatClampNeg (-1)) (3 : Int32).toNatClampNeg (-1)))), (q_10, .inl (cA_11, 4, .inl (fun _ => 0)))] H := hP
  have hD : va_D A [(h, .inr (9, [.int 0, .ref q_1, .ref q_8, .ref q_10, .null, .null, .int 0])), (q_1, .inl (cA_6, 4, .inr (.inr (.inr (.inr (zz_r4 r_2 r_3 r_4 r_5)))))), (r_2, .inl (cy_7, 64, .inl (fun _ => 0))), (r_3, .inl (cy_7, 64, .inl (fun _ => 0))), (r_4, .inl (cy_7, 64, .inl (fun _ => 0))), (r_5, .inl (cy_7, 64, .inl (fun _ => 0))), (q_8, .inl (cA_9, 4, .inl (upd (upd (upd (upd (fun _ => 0) (0 : Int32).toNatClampNeg (-1)) (1 : Int32).toNatClampNeg (-1)) (2 : Int32).toNatClampNeg (-1)) (3 : Int32).toNatClampNeg (-1)))), (q_10, .inl (cA_11, 4, .inl (fun _ => 0)))] := hD
  refine lv_aload_n hx hb dX5_init_45 rfl (lv_at hl 0 rfl) ?_
  refine lv_iconst (v := 4) hx hb dX5_init_46 (by decide) ?_
  refine va_newa (atype := .int) hx hb (hts (.arrayClass .int) (by decide +kernel)) rfl hK hP hD hS hA (N' := 4) (a0 := (4, .inl (fun _ => 0))) (fun _ => rfl) (by decide) (by decide) (by decide) (by show 0 + 5 + 1 + 1 + 1 ≤ 9; omega) (by show 0 + 260 + 4 + 4 + 4 ≤ 276; omega) dX5_init_47 (fun q_12 cA_13 H hK hP hD hS => ?_)
  have hK : va_K D vwCl [(cA_6, .array .int), (cy_7, .int), (cA_9, .int), (cA_11, .int), (cA_13, .int)] s := hK
  have hP : va_P D vwCl [(h, .inr (9, [.int 0, .ref q_1, .ref q_8, .ref q_10, .null, .null, .int 0])), (q_1, .inl (cA_6, 4, .inr (.inr (.inr (.inr (zz_r4 r_2 r_3 r_4 r_5)))))), (r_2, .inl (cy_7, 64, .inl (fun _ => 0))), (r_3, .inl (cy_7, 64, .inl (fun _ => 0))), (r_4, .inl (cy_7, 64, .inl (fun _ => 0))), (r_5, .inl (cy_7, 64, .inl (fun _ => 0))), (q_8, .inl (cA_9, 4, .inl (upd (upd (upd (upd (fun _ => 0) (0 : Int32).toNatClampNeg (-1)) (1 : Int32).toNatClampNeg (-1)) (2 : Int32).toNatClampNeg (-1)) (3 : Int32).toNatClampNeg (-1)))), (q_10, .inl (cA_11, 4, .inl (fun _ => 0))), (q_12, .inl (cA_13, 4, .inl (fun _ => 0)))] H := hP
  have hD : va_D A [(h, .inr (9, [.int 0, .ref q_1, .ref q_8, .ref q_10, .null, .null, .int 0])), (q_1, .inl (cA_6, 4, .inr (.inr (.inr (.inr (zz_r4 r_2 r_3 r_4 r_5)))))), (r_2, .inl (cy_7, 64, .inl (fun _ => 0))), (r_3, .inl (cy_7, 64, .inl (fun _ => 0))), (r_4, .inl (cy_7, 64, .inl (fun _ => 0))), (r_5, .inl (cy_7, 64, .inl (fun _ => 0))), (q_8, .inl (cA_9, 4, .inl (upd (upd (upd (upd (fun _ => 0) (0 : Int32).toNatClampNeg (-1)) (1 : Int32).toNatClampNeg (-1)) (2 : Int32).toNatClampNeg (-1)) (3 : Int32).toNatClampNeg (-1)))), (q_10, .inl (cA_11, 4, .inl (fun _ => 0))), (q_12, .inl (cA_13, 4, .inl (fun _ => 0)))] := hD
  refine va_putF (D := D) (ci := 9) (v := .ref q_12) (ty := .array .int) (C := RX5) (T := TX5) (N := 7) hx hb hts (by decide +kernel) tyX5 tyX5_ok nmX5 hown hK hP hD hS 0 rfl rfl 4 (by decide) (hts (.fieldLink RX5 21 "HashladderModel" "sums" "[I") (by decide +kernel)) (fun _ h9 => h9) rfl hname rfl (by decide +kernel) rfl rfl (Nat.le_of_ble_eq_true rfl) dX5_init_49 (fun H locs hP hD hS => ?_)
  have hP : va_P D vwCl [(h, .inr (9, [.int 0, .ref q_1, .ref q_8, .ref q_10, .ref q_12, .null, .int 0])), (q_1, .inl (cA_6, 4, .inr (.inr (.inr (.inr (zz_r4 r_2 r_3 r_4 r_5)))))), (r_2, .inl (cy_7, 64, .inl (fun _ => 0))), (r_3, .inl (cy_7, 64, .inl (fun _ => 0))), (r_4, .inl (cy_7, 64, .inl (fun _ => 0))), (r_5, .inl (cy_7, 64, .inl (fun _ => 0))), (q_8, .inl (cA_9, 4, .inl (upd (upd (upd (upd (fun _ => 0) (0 : Int32).toNatClampNeg (-1)) (1 : Int32).toNatClampNeg (-1)) (2 : Int32).toNatClampNeg (-1)) (3 : Int32).toNatClampNeg (-1)))), (q_10, .inl (cA_11, 4, .inl (fun _ => 0))), (q_12, .inl (cA_13, 4, .inl (fun _ => 0)))] H := hP
  have hD : va_D A [(h, .inr (9, [.int 0, .ref q_1, .ref q_8, .ref q_10, .ref q_12, .null, .int 0])), (q_1, .inl (cA_6, 4, .inr (.inr (.inr (.inr (zz_r4 r_2 r_3 r_4 r_5)))))), (r_2, .inl (cy_7, 64, .inl (fun _ => 0))), (r_3, .inl (cy_7, 64, .inl (fun _ => 0))), (r_4, .inl (cy_7, 64, .inl (fun _ => 0))), (r_5, .inl (cy_7, 64, .inl (fun _ => 0))), (q_8, .inl (cA_9, 4, .inl (upd (upd (upd (upd (fun _ => 0) (0 : Int32).toNatClampNeg (-1)) (1 : Int32).toNatClampNeg (-1)) (2 : Int32).toNatClampNeg (-1)) (3 : Int32).toNatClampNeg (-1)))), (q_10, .inl (cA_11, 4, .inl (fun _ => 0))), (q_12, .inl (cA_13, 4, .inl (fun _ => 0)))] := hD
  refine lv_aload_n hx hb dX5_init_52 rfl (lv_at hl 0 rfl) ?_
  refine lv_iconst (v := 4) hx hb dX5_init_53 (by decide) ?_
  refine va_newa (atype := .int) hx hb (hts (.arrayClass .int) (by decide +kernel)) rfl hK hP hD hS hA (N' := 4) (a0 := (4, .inl (fun _ => 0))) (fun _ => rfl) (by decide) (by decide) (by decide) (by show 0 + 5 + 1 + 1 + 1 + 1 ≤ 9; omega) (by show 0 + 260 + 4 + 4 + 4 + 4 ≤ 276; omega) dX5_init_54 (fun q_14 cA_15 H hK hP hD hS => ?_)
  have hK : va_K D vwCl [(cA_6, .array .int), (cy_7, .int), (cA_9, .int), (cA_11, .int), (cA_13, .int), (cA_15, .int)] s := hK
  have hP : va_P D vwCl [(h, .inr (9, [.int 0, .ref q_1, .ref q_8, .ref q_10, .ref q_12, .null, .int 0])), (q_1, .inl (cA_6, 4, .inr (.inr (.inr (.inr (zz_r4 r_2 r_3 r_4 r_5)))))), (r_2, .inl (cy_7, 64, .inl (fun _ => 0))), (r_3, .inl (cy_7, 64, .inl (fun _ => 0))), (r_4, .inl (cy_7, 64, .inl (fun _ => 0))), (r_5, .inl (cy_7, 64, .inl (fun _ => 0))), (q_8, .inl (cA_9, 4, .inl (upd (upd (upd (upd (fun _ => 0) (0 : Int32).toNatClampNeg (-1)) (1 : Int32).toNatClampNeg (-1)) (2 : Int32).toNatClampNeg (-1)) (3 : Int32).toNatClampNeg (-1)))), (q_10, .inl (cA_11, 4, .inl (fun _ => 0))), (q_12, .inl (cA_13, 4, .inl (fun _ => 0))), (q_14, .inl (cA_15, 4, .inl (fun _ => 0)))] H := hP
  have hD : va_D A [(h, .inr (9, [.int 0, .ref q_1, .ref q_8, .ref q_10, .ref q_12, .null, .int 0])), (q_1, .inl (cA_6, 4, .inr (.inr (.inr (.inr (zz_r4 r_2 r_3 r_4 r_5)))))), (r_2, .inl (cy_7, 64, .inl (fun _ => 0))), (r_3, .inl (cy_7, 64, .inl (fun _ => 0))), (r_4, .inl (cy_7, 64, .inl (fun _ => 0))), (r_5, .inl (cy_7, 64, .inl (fun _ => 0))), (q_8, .inl (cA_9, 4, .inl (upd (upd (upd (upd (fun _ => 0) (0 : Int32).toNatClampNeg (-1)) (1 : Int32).toNatClampNeg (-1)) (2 : Int32).toNatClampNeg (-1)) (3 : Int32).toNatClampNeg (-1)))), (q_10, .inl (cA_11, 4, .inl (fun _ => 0))), (q_12, .inl (cA_13, 4, .inl (fun _ => 0))), (q_14, .inl (cA_15, 4, .inl (fun _ => 0)))] := hD
  refine lv_dup hx hb dX5_init_56 rfl ?_
  refine lv_iconst (v := 0) hx hb dX5_init_57 (by decide) ?_
  refine lv_iconst (v := (-1)) hx hb dX5_init_58 (by decide) ?_
  refine va_iast hx hb hK hP hD hS 9 5 rfl rfl ((show vp_in (0 : Int32) 4 from vp_in_nI (n := 0) (by decide) (by decide))) dX5_init_59 (fun H locs hP hD hS => ?_)
  have hP : va_P D vwCl [(h, .inr (9, [.int 0, .ref q_1, .ref q_8, .ref q_10, .ref q_12, .null, .int 0])), (q_1, .inl (cA_6, 4, .inr (.inr (.inr (.inr (zz_r4 r_2 r_3 r_4 r_5)))))), (r_2, .inl (cy_7, 64, .inl (fun _ => 0))), (r_3, .inl (cy_7, 64, .inl (fun _ => 0))), (r_4, .inl (cy_7, 64, .inl (fun _ => 0))), (r_5, .inl (cy_7, 64, .inl (fun _ => 0))), (q_8, .inl (cA_9, 4, .inl (upd (upd (upd (upd (fun _ => 0) (0 : Int32).toNatClampNeg (-1)) (1 : Int32).toNatClampNeg (-1)) (2 : Int32).toNatClampNeg (-1)) (3 : Int32).toNatClampNeg (-1)))), (q_10, .inl (cA_11, 4, .inl (fun _ => 0))), (q_12, .inl (cA_13, 4, .inl (fun _ => 0))), (q_14, .inl (cA_15, 4, .inl (upd (fun _ => 0) (0 : Int32).toNatClampNeg (-1))))] H := hP
  have hD : va_D A [(h, .inr (9, [.int 0, .ref q_1, .ref q_8, .ref q_10, .ref q_12, .null, .int 0])), (q_1, .inl (cA_6, 4, .inr (.inr (.inr (.inr (zz_r4 r_2 r_3 r_4 r_5)))))), (r_2, .inl (cy_7, 64, .inl (fun _ => 0))), (r_3, .inl (cy_7, 64, .inl (fun _ => 0))), (r_4, .inl (cy_7, 64, .inl (fun _ => 0))), (r_5, .inl (cy_7, 64, .inl (fun _ => 0))), (q_8, .inl (cA_9, 4, .inl (upd (upd (upd (upd (fun _ => 0) (0 : Int32).toNatClampNeg (-1)) (1 : Int32).toNatClampNeg (-1)) (2 : Int32).toNatClampNeg (-1)) (3 : Int32).toNatClampNeg (-1)))), (q_10, .inl (cA_11, 4, .inl (fun _ => 0))), (q_12, .inl (cA_13, 4, .inl (fun _ => 0))), (q_14, .inl (cA_15, 4, .inl (upd (fun _ => 0) (0 : Int32).toNatClampNeg (-1))))] := hD
  refine lv_dup hx hb dX5_init_60 rfl ?_
  refine lv_iconst (v := 1) hx hb dX5_init_61 (by decide) ?_
  refine lv_iconst (v := (-1)) hx hb dX5_init_62 (by decide) ?_
  refine va_iast hx hb hK hP hD hS 9 5 rfl rfl ((show vp_in (1 : Int32) 4 from vp_in_nI (n := 1) (by decide) (by decide))) dX5_init_63 (fun H locs hP hD hS => ?_)
  have hP : va_P D vwCl [(h, .inr (9, [.int 0, .ref q_1, .ref q_8, .ref q_10, .ref q_12, .null, .int 0])), (q_1, .inl (cA_6, 4, .inr (.inr (.inr (.inr (zz_r4 r_2 r_3 r_4 r_5)))))), (r_2, .inl (cy_7, 64, .inl (fun _ => 0))), (r_3, .inl (cy_7, 64, .inl (fun _ => 0))), (r_4, .inl (cy_7, 64, .inl (fun _ => 0))), (r_5, .inl (cy_7, 64, .inl (fun _ => 0))), (q_8, .inl (cA_9, 4, .inl (upd (upd (upd (upd (fun _ => 0) (0 : Int32).toNatClampNeg (-1)) (1 : Int32).toNatClampNeg (-1)) (2 : Int32).toNatClampNeg (-1)) (3 : Int32).toNatClampNeg (-1)))), (q_10, .inl (cA_11, 4, .inl (fun _ => 0))), (q_12, .inl (cA_13, 4, .inl (fun _ => 0))), (q_14, .inl (cA_15, 4, .inl (upd (upd (fun _ => 0) (0 : Int32).toNatClampNeg (-1)) (1 : Int32).toNatClampNeg (-1))))] H := hP
  have hD : va_D A [(h, .inr (9, [.int 0, .ref q_1, .ref q_8, .ref q_10, .ref q_12, .null, .int 0])), (q_1, .inl (cA_6, 4, .inr (.inr (.inr (.inr (zz_r4 r_2 r_3 r_4 r_5)))))), (r_2, .inl (cy_7, 64, .inl (fun _ => 0))), (r_3, .inl (cy_7, 64, .inl (fun _ => 0))), (r_4, .inl (cy_7, 64, .inl (fun _ => 0))), (r_5, .inl (cy_7, 64, .inl (fun _ => 0))), (q_8, .inl (cA_9, 4, .inl (upd (upd (upd (upd (fun _ => 0) (0 : Int32).toNatClampNeg (-1)) (1 : Int32).toNatClampNeg (-1)) (2 : Int32).toNatClampNeg (-1)) (3 : Int32).toNatClampNeg (-1)))), (q_10, .inl (cA_11, 4, .inl (fun _ => 0))), (q_12, .inl (cA_13, 4, .inl (fun _ => 0))), (q_14, .inl (cA_15, 4, .inl (upd (upd (fun _ => 0) (0 : Int32).toNatClampNeg (-1)) (1 : Int32).toNatClampNeg (-1))))] := hD
  refine lv_dup hx hb dX5_init_64 rfl ?_
  refine lv_iconst (v := 2) hx hb dX5_init_65 (by decide) ?_
  refine lv_iconst (v := (-1)) hx hb dX5_init_66 (by decide) ?_
  refine va_iast hx hb hK hP hD hS 9 5 rfl rfl ((show vp_in (2 : Int32) 4 from vp_in_nI (n := 2) (by decide) (by decide))) dX5_init_67 (fun H locs hP hD hS => ?_)
  have hP : va_P D vwCl [(h, .inr (9, [.int 0, .ref q_1, .ref q_8, .ref q_10, .ref q_12, .null, .int 0])), (q_1, .inl (cA_6, 4, .inr (.inr (.inr (.inr (zz_r4 r_2 r_3 r_4 r_5)))))), (r_2, .inl (cy_7, 64, .inl (fun _ => 0))), (r_3, .inl (cy_7, 64, .inl (fun _ => 0))), (r_4, .inl (cy_7, 64, .inl (fun _ => 0))), (r_5, .inl (cy_7, 64, .inl (fun _ => 0))), (q_8, .inl (cA_9, 4, .inl (upd (upd (upd (upd (fun _ => 0) (0 : Int32).toNatClampNeg (-1)) (1 : Int32).toNatClampNeg (-1)) (2 : Int32).toNatClampNeg (-1)) (3 : Int32).toNatClampNeg (-1)))), (q_10, .inl (cA_11, 4, .inl (fun _ => 0))), (q_12, .inl (cA_13, 4, .inl (fun _ => 0))), (q_14, .inl (cA_15, 4, .inl (upd (upd (upd (fun _ => 0) (0 : Int32).toNatClampNeg (-1)) (1 : Int32).toNatClampNeg (-1)) (2 : Int32).toNatClampNeg (-1))))] H := hP
  have hD : va_D A [(h, .inr (9, [.int 0, .ref q_1, .ref q_8, .ref q_10, .ref q_12, .null, .int 0])), (q_1, .inl (cA_6, 4, .inr (.inr (.inr (.inr (zz_r4 r_2 r_3 r_4 r_5)))))), (r_2, .inl (cy_7, 64, .inl (fun _ => 0))), (r_3, .inl (cy_7, 64, .inl (fun _ => 0))), (r_4, .inl (cy_7, 64, .inl (fun _ => 0))), (r_5, .inl (cy_7, 64, .inl (fun _ => 0))), (q_8, .inl (cA_9, 4, .inl (upd (upd (upd (upd (fun _ => 0) (0 : Int32).toNatClampNeg (-1)) (1 : Int32).toNatClampNeg (-1)) (2 : Int32).toNatClampNeg (-1)) (3 : Int32).toNatClampNeg (-1)))), (q_10, .inl (cA_11, 4, .inl (fun _ => 0))), (q_12, .inl (cA_13, 4, .inl (fun _ => 0))), (q_14, .inl (cA_15, 4, .inl (upd (upd (upd (fun _ => 0) (0 : Int32).toNatClampNeg (-1)) (1 : Int32).toNatClampNeg (-1)) (2 : Int32).toNatClampNeg (-1))))] := hD
  refine lv_dup hx hb dX5_init_68 rfl ?_
  refine lv_iconst (v := 3) hx hb dX5_init_69 (by decide) ?_
  refine lv_iconst (v := (-1)) hx hb dX5_init_70 (by decide) ?_
  refine va_iast hx hb hK hP hD hS 9 5 rfl rfl ((show vp_in (3 : Int32) 4 from vp_in_nI (n := 3) (by decide) (by decide))) dX5_init_71 (fun H locs hP hD hS => ?_)
  have hP : va_P D vwCl [(h, .inr (9, [.int 0, .ref q_1, .ref q_8, .ref q_10, .ref q_12, .null, .int 0])), (q_1, .inl (cA_6, 4, .inr (.inr (.inr (.inr (zz_r4 r_2 r_3 r_4 r_5)))))), (r_2, .inl (cy_7, 64, .inl (fun _ => 0))), (r_3, .inl (cy_7, 64, .inl (fun _ => 0))), (r_4, .inl (cy_7, 64, .inl (fun _ => 0))), (r_5, .inl (cy_7, 64, .inl (fun _ => 0))), (q_8, .inl (cA_9, 4, .inl (upd (upd (upd (upd (fun _ => 0) (0 : Int32).toNatClampNeg (-1)) (1 : Int32).toNatClampNeg (-1)) (2 : Int32).toNatClampNeg (-1)) (3 : Int32).toNatClampNeg (-1)))), (q_10, .inl (cA_11, 4, .inl (fun _ => 0))), (q_12, .inl (cA_13, 4, .inl (fun _ => 0))), (q_14, .inl (cA_15, 4, .inl (upd (upd (upd (upd (fun _ => 0) (0 : Int32).toNatClampNeg (-1)) (1 : Int32).toNatClampNeg (-1)) (2 : Int32).toNatClampNeg (-1)) (3 : Int32).toNatClampNeg (-1))))] H := hP
  have hD : va_D A [(h, .inr (9, [.int 0, .ref q_1, .ref q_8, .ref q_10, .ref q_12, .null, .int 0])), (q_1, .inl (cA_6, 4, .inr (.inr (.inr (.inr (zz_r4 r_2 r_3 r_4 r_5)))))), (r_2, .inl (cy_7, 64, .inl (fun _ => 0))), (r_3, .inl (cy_7, 64, .inl (fun _ => 0))), (r_4, .inl (cy_7, 64, .inl (fun _ => 0))), (r_5, .inl (cy_7, 64, .inl (fun _ => 0))), (q_8, .inl (cA_9, 4, .inl (upd (upd (upd (upd (fun _ => 0) (0 : Int32).toNatClampNeg (-1)) (1 : Int32).toNatClampNeg (-1)) (2 : Int32).toNatClampNeg (-1)) (3 : Int32).toNatClampNeg (-1)))), (q_10, .inl (cA_11, 4, .inl (fun _ => 0))), (q_12, .inl (cA_13, 4, .inl (fun _ => 0))), (q_14, .inl (cA_15, 4, .inl (upd (upd (upd (upd (fun _ => 0) (0 : Int32).toNatClampNeg (-1)) (1 : Int32).toNatClampNeg (-1)) (2 : Int32).toNatClampNeg (-1)) (3 : Int32).toNatClampNeg (-1))))] := hD
  refine va_putF (D := D) (ci := 9) (v := .ref q_14) (ty := .array .int) (C := RX5) (T := TX5) (N := 7) hx hb hts (by decide +kernel) tyX5 tyX5_ok nmX5 hown hK hP hD hS 0 rfl rfl 5 (by decide) (hts (.fieldLink RX5 24 "HashladderModel" "views" "[I") (by decide +kernel)) (fun _ h9 => h9) rfl hname rfl (by decide +kernel) rfl rfl (Nat.le_of_ble_eq_true rfl) dX5_init_72 (fun H locs hP hD hS => ?_)
  have hP : va_P D vwCl [(h, .inr (9, [.int 0, .ref q_1, .ref q_8, .ref q_10, .ref q_12, .ref q_14, .int 0])), (q_1, .inl (cA_6, 4, .inr (.inr (.inr (.inr (zz_r4 r_2 r_3 r_4 r_5)))))), (r_2, .inl (cy_7, 64, .inl (fun _ => 0))), (r_3, .inl (cy_7, 64, .inl (fun _ => 0))), (r_4, .inl (cy_7, 64, .inl (fun _ => 0))), (r_5, .inl (cy_7, 64, .inl (fun _ => 0))), (q_8, .inl (cA_9, 4, .inl (upd (upd (upd (upd (fun _ => 0) (0 : Int32).toNatClampNeg (-1)) (1 : Int32).toNatClampNeg (-1)) (2 : Int32).toNatClampNeg (-1)) (3 : Int32).toNatClampNeg (-1)))), (q_10, .inl (cA_11, 4, .inl (fun _ => 0))), (q_12, .inl (cA_13, 4, .inl (fun _ => 0))), (q_14, .inl (cA_15, 4, .inl (upd (upd (upd (upd (fun _ => 0) (0 : Int32).toNatClampNeg (-1)) (1 : Int32).toNatClampNeg (-1)) (2 : Int32).toNatClampNeg (-1)) (3 : Int32).toNatClampNeg (-1))))] H := hP
  have hD : va_D A [(h, .inr (9, [.int 0, .ref q_1, .ref q_8, .ref q_10, .ref q_12, .ref q_14, .int 0])), (q_1, .inl (cA_6, 4, .inr (.inr (.inr (.inr (zz_r4 r_2 r_3 r_4 r_5)))))), (r_2, .inl (cy_7, 64, .inl (fun _ => 0))), (r_3, .inl (cy_7, 64, .inl (fun _ => 0))), (r_4, .inl (cy_7, 64, .inl (fun _ => 0))), (r_5, .inl (cy_7, 64, .inl (fun _ => 0))), (q_8, .inl (cA_9, 4, .inl (upd (upd (upd (upd (fun _ => 0) (0 : Int32).toNatClampNeg (-1)) (1 : Int32).toNatClampNeg (-1)) (2 : Int32).toNatClampNeg (-1)) (3 : Int32).toNatClampNeg (-1)))), (q_10, .inl (cA_11, 4, .inl (fun _ => 0))), (q_12, .inl (cA_13, 4, .inl (fun _ => 0))), (q_14, .inl (cA_15, 4, .inl (upd (upd (upd (upd (fun _ => 0) (0 : Int32).toNatClampNeg (-1)) (1 : Int32).toNatClampNeg (-1)) (2 : Int32).toNatClampNeg (-1)) (3 : Int32).toNatClampNeg (-1))))] := hD
  refine lv_iconst (v := 0) hx hb dX5_init_75 (by decide) ?_
  refine lv_istore_n (lv' := [(1, .int 0), (0, .ref h)]) hx hb dX5_init_76 rfl hl (by decide) rfl (fun ls hl => ?_)
  refine lv_iload_n hx hb dX5_init_77 rfl (lv_at hl 0 rfl) ?_
  refine lv_iconst (v := 4) hx hb dX5_init_78 (by decide) ?_
  refine lv_icmp_ge (tgt := 93) hx hb dX5_init_79 (by decide) (fun c_16 => absurd c_16 (by decide)) (fun c_16 => ?_)
  refine lv_aload_n hx hb dX5_init_82 rfl (lv_at hl 1 rfl) ?_
  refine lv_iload_n hx hb dX5_init_83 rfl (lv_at hl 0 rfl) ?_
  have hFc := va_free (wc := [(h, .inr (9, [.int 0, .ref q_1, .ref q_8, .ref q_10, .ref q_12, .ref q_14, .int 0])), (q_1, .inl (cA_6, 4, .inr (.inr (.inr (.inr (zz_r4 r_2 r_3 r_4 r_5)))))), (r_2, .inl (cy_7, 64, .inl (fun _ => 0)))]) hD hS hA [0, 1, 2] rfl
  refine zz_after (wr := [(r_3, .inl (cy_7, 64, .inl (fun _ => 0))), (r_4, .inl (cy_7, 64, .inl (fun _ => 0))), (r_5, .inl (cy_7, 64, .inl (fun _ => 0))), (q_8, .inl (cA_9, 4, .inl (upd (upd (upd (upd (fun _ => 0) (0 : Int32).toNatClampNeg (-1)) (1 : Int32).toNatClampNeg (-1)) (2 : Int32).toNatClampNeg (-1)) (3 : Int32).toNatClampNeg (-1)))), (q_10, .inl (cA_11, 4, .inl (fun _ => 0))), (q_12, .inl (cA_13, 4, .inl (fun _ => 0))), (q_14, .inl (cA_15, 4, .inl (upd (upd (upd (upd (fun _ => 0) (0 : Int32).toNatClampNeg (-1)) (1 : Int32).toNatClampNeg (-1)) (2 : Int32).toNatClampNeg (-1)) (3 : Int32).toNatClampNeg (-1))))]) (va_runV (As := [.int 0]) (rest := []) ⟨hx, hb, hml, hown, hts⟩ ((k_X5_empty l D h 0 q_1 (.ref q_8) (.ref q_10) (.ref q_12) (.ref q_14) 0 cA_6 (zz_r4 r_2 r_3 r_4 r_5) r_2 cy_7 0 (fun _ => 0) ((show vp_in (0 : Int32) 4 from vp_in_nI (n := 0) (by decide) (by decide))) (by rw [show ((0 : Int32)).toNatClampNeg = 0 from by decide]; rfl)) H.size) (cwV 1 hts gX5_init_X5_empty rfl rfl rfl (by decide +kernel) ⟨Nat.le_of_ble_eq_true rfl, Nat.le_of_ble_eq_true rfl⟩) (zz_pV (zz_pre (av := [.ref h, .int 0]) (tyc := [(cA_6, .array .int), (cy_7, .int)]) (wc := [(h, .inr (9, [.int 0, .ref q_1, .ref q_8, .ref q_10, .ref q_12, .ref q_14, .int 0])), (q_1, .inl (cA_6, 4, .inr (.inr (.inr (.inr (zz_r4 r_2 r_3 r_4 r_5)))))), (r_2, .inl (cy_7, 64, .inl (fun _ => 0)))]) (X := fun _ _ => True) (Xc := (fun _ _ => True)) hP hD hK hS [0, 1, 2] [0, 1] rfl (by decide) rfl zz_St_tt (fun _ _ _ => trivial)) (va_recv hK hP (ci := 9) (q0 := 0) rfl rfl)) rfl rfl hl.1 rfl (lv_room (Nat.le_of_ble_eq_true rfl)) dX5_init_84 ⟨by show 0 + 5 + 1 + 1 + 1 + 1 + 0 ≤ 9; omega, by show 0 + 260 + 4 + 4 + 4 + 4 + 0 ≤ 276; omega⟩) hP hD hK hS hFc [0, 1, 2] [3, 4, 5, 6, 7, 8, 9] rfl rfl (by decide) (by decide) (fun v w1 ty1 H1 locs hq9 hz9 hk9 hP1 hD1 hK1 hS1 => ?_)
  obtain ⟨f2_17, h_18, rfl, rfl, rfl⟩ := hq9
  clear hS hP hD hK hFc
  have hP : va_P D vwCl [(r_3, .inl (cy_7, 64, .inl (fun _ => 0))), (r_4, .inl (cy_7, 64, .inl (fun _ => 0))), (r_5, .inl (cy_7, 64, .inl (fun _ => 0))), (q_8, .inl (cA_9, 4, .inl (upd (upd (upd (upd (fun _ => 0) (0 : Int32).toNatClampNeg (-1)) (1 : Int32).toNatClampNeg (-1)) (2 : Int32).toNatClampNeg (-1)) (3 : Int32).toNatClampNeg (-1)))), (q_10, .inl (cA_11, 4, .inl (fun _ => 0))), (q_12, .inl (cA_13, 4, .inl (fun _ => 0))), (q_14, .inl (cA_15, 4, .inl (upd (upd (upd (upd (fun _ => 0) (0 : Int32).toNatClampNeg (-1)) (1 : Int32).toNatClampNeg (-1)) (2 : Int32).toNatClampNeg (-1)) (3 : Int32).toNatClampNeg (-1)))), (h, .inr (9, [.int 0, .ref q_1, .ref q_8, .ref q_10, .ref q_12, .ref q_14, .int 0])), (q_1, .inl (cA_6, 4, .inr (.inr (.inr (.inr (zz_r4 r_2 r_3 r_4 r_5)))))), (r_2, .inl (cy_7, 64, .inl f2_17))] H1 := hP1
  have hD : va_D A [(r_3, .inl (cy_7, 64, .inl (fun _ => 0))), (r_4, .inl (cy_7, 64, .inl (fun _ => 0))), (r_5, .inl (cy_7, 64, .inl (fun _ => 0))), (q_8, .inl (cA_9, 4, .inl (upd (upd (upd (upd (fun _ => 0) (0 : Int32).toNatClampNeg (-1)) (1 : Int32).toNatClampNeg (-1)) (2 : Int32).toNatClampNeg (-1)) (3 : Int32).toNatClampNeg (-1)))), (q_10, .inl (cA_11, 4, .inl (fun _ => 0))), (q_12, .inl (cA_13, 4, .inl (fun _ => 0))), (q_14, .inl (cA_15, 4, .inl (upd (upd (upd (upd (fun _ => 0) (0 : Int32).toNatClampNeg (-1)) (1 : Int32).toNatClampNeg (-1)) (2 : Int32).toNatClampNeg (-1)) (3 : Int32).toNatClampNeg (-1)))), (h, .inr (9, [.int 0, .ref q_1, .ref q_8, .ref q_10, .ref q_12, .ref q_14, .int 0])), (q_1, .inl (cA_6, 4, .inr (.inr (.inr (.inr (zz_r4 r_2 r_3 r_4 r_5)))))), (r_2, .inl (cy_7, 64, .inl f2_17))] := hD1
  have hK : va_K D vwCl [(cA_6, .array .int), (cy_7, .int), (cA_9, .int), (cA_11, .int), (cA_13, .int), (cA_15, .int), (cA_6, .array .int), (cy_7, .int)] s := hK1
  have hS := hS1
  clear hP1 hD1 hK1 hS1
  obtain ⟨H, rfl⟩ : ∃ z, z = H1 := ⟨_, rfl⟩
  refine W.eq (g2 := F0 mt0 87 ls []) rfl ?_
  refine lv_iinc (v := 1) (lv' := [(1, .int 1), (0, .ref h)]) hx hb dX5_init_87 hl (k := 0) rfl (by decide) (by decide) rfl (fun ls hl => ?_)
  refine lv_goto (tgt := 77) hx hb dX5_init_90 (by decide) ?_
  refine lv_iload_n hx hb dX5_init_77 rfl (lv_at hl 0 rfl) ?_
  refine lv_iconst (v := 4) hx hb dX5_init_78 (by decide) ?_
  refine lv_icmp_ge (tgt := 93) hx hb dX5_init_79 (by decide) (fun c_19 => absurd c_19 (by decide)) (fun c_19 => ?_)
  refine lv_aload_n hx hb dX5_init_82 rfl (lv_at hl 1 rfl) ?_
  refine lv_iload_n hx hb dX5_init_83 rfl (lv_at hl 0 rfl) ?_
  have hFc := va_free (wc := [(h, .inr (9, [.int 0, .ref q_1, .ref q_8, .ref q_10, .ref q_12, .ref q_14, .int 0])), (q_1, .inl (cA_6, 4, .inr (.inr (.inr (.inr (zz_r4 r_2 r_3 r_4 r_5)))))), (r_3, .inl (cy_7, 64, .inl (fun _ => 0)))]) hD hS hA [7, 8, 0] rfl
  refine zz_after (wr := [(r_4, .inl (cy_7, 64, .inl (fun _ => 0))), (r_5, .inl (cy_7, 64, .inl (fun _ => 0))), (q_8, .inl (cA_9, 4, .inl (upd (upd (upd (upd (fun _ => 0) (0 : Int32).toNatClampNeg (-1)) (1 : Int32).toNatClampNeg (-1)) (2 : Int32).toNatClampNeg (-1)) (3 : Int32).toNatClampNeg (-1)))), (q_10, .inl (cA_11, 4, .inl (fun _ => 0))), (q_12, .inl (cA_13, 4, .inl (fun _ => 0))), (q_14, .inl (cA_15, 4, .inl (upd (upd (upd (upd (fun _ => 0) (0 : Int32).toNatClampNeg (-1)) (1 : Int32).toNatClampNeg (-1)) (2 : Int32).toNatClampNeg (-1)) (3 : Int32).toNatClampNeg (-1)))), (r_2, .inl (cy_7, 64, .inl f2_17))]) (va_runV (As := [.int 1]) (rest := []) ⟨hx, hb, hml, hown, hts⟩ ((k_X5_empty l D h 0 q_1 (.ref q_8) (.ref q_10) (.ref q_12) (.ref q_14) 0 cA_6 (zz_r4 r_2 r_3 r_4 r_5) r_3 cy_7 1 (fun _ => 0) ((show vp_in (1 : Int32) 4 from vp_in_nI (n := 1) (by decide) (by decide))) (by rw [show ((1 : Int32)).toNatClampNeg = 1 from by decide]; rfl)) H.size) (cwV 1 hts gX5_init_X5_empty rfl rfl rfl (by decide +kernel) ⟨Nat.le_of_ble_eq_true rfl, Nat.le_of_ble_eq_true rfl⟩) (zz_pV (zz_pre (av := [.ref h, .int 1]) (tyc := [(cA_6, .array .int), (cy_7, .int)]) (wc := [(h, .inr (9, [.int 0, .ref q_1, .ref q_8, .ref q_10, .ref q_12, .ref q_14, .int 0])), (q_1, .inl (cA_6, 4, .inr (.inr (.inr (.inr (zz_r4 r_2 r_3 r_4 r_5)))))), (r_3, .inl (cy_7, 64, .inl (fun _ => 0)))]) (X := fun _ _ => True) (Xc := (fun _ _ => True)) hP hD hK hS [7, 8, 0] [0, 1] rfl (by decide) rfl zz_St_tt (fun _ _ _ => trivial)) (va_recv hK hP (ci := 9) (q0 := 7) rfl rfl)) rfl rfl hl.1 rfl (lv_room (Nat.le_of_ble_eq_true rfl)) dX5_init_84 ⟨by show 0 + 5 + 1 + 1 + 1 + 1 + 0 + 0 ≤ 9; omega, by show 0 + 260 + 4 + 4 + 4 + 4 + 0 + 0 ≤ 276; omega⟩) hP hD hK hS hFc [7, 8, 0] [1, 2, 3, 4, 5, 6, 9] rfl rfl (by decide) (by decide) (fun v w1 ty1 H1 locs hq9 hz9 hk9 hP1 hD1 hK1 hS1 => ?_)
  obtain ⟨f2_20, h_21, rfl, rfl, rfl⟩ := hq9
  clear hS hP hD hK hFc
  have hP : va_P D vwCl [(r_4, .inl (cy_7, 64, .inl (fun _ => 0))), (r_5, .inl (cy_7, 64, .inl (fun _ => 0))), (q_8, .inl (cA_9, 4, .inl (upd (upd (upd (upd (fun _ => 0) (0 : Int32).toNatClampNeg (-1)) (1 : Int32).toNatClampNeg (-1)) (2 : Int32).toNatClampNeg (-1)) (3 : Int32).toNatClampNeg (-1)))), (q_10, .inl (cA_11, 4, .inl (fun _ => 0))), (q_12, .inl (cA_13, 4, .inl (fun _ => 0))), (q_14, .inl (cA_15, 4, .inl (upd (upd (upd (upd (fun _ => 0) (0 : Int32).toNatClampNeg (-1)) (1 : Int32).toNatClampNeg (-1)) (2 : Int32).toNatClampNeg (-1)) (3 : Int32).toNatClampNeg (-1)))), (r_2, .inl (cy_7, 64, .inl f2_17)), (h, .inr (9, [.int 0, .ref q_1, .ref q_8, .ref q_10, .ref q_12, .ref q_14, .int 0])), (q_1, .inl (cA_6, 4, .inr (.inr (.inr (.inr (zz_r4 r_2 r_3 r_4 r_5)))))), (r_3, .inl (cy_7, 64, .inl f2_20))] H1 := hP1
  have hD : va_D A [(r_4, .inl (cy_7, 64, .inl (fun _ => 0))), (r_5, .inl (cy_7, 64, .inl (fun _ => 0))), (q_8, .inl (cA_9, 4, .inl (upd (upd (upd (upd (fun _ => 0) (0 : Int32).toNatClampNeg (-1)) (1 : Int32).toNatClampNeg (-1)) (2 : Int32).toNatClampNeg (-1)) (3 : Int32).toNatClampNeg (-1)))), (q_10, .inl (cA_11, 4, .inl (fun _ => 0))), (q_12, .inl (cA_13, 4, .inl (fun _ => 0))), (q_14, .inl (cA_15, 4, .inl (upd (upd (upd (upd (fun _ => 0) (0 : Int32).toNatClampNeg (-1)) (1 : Int32).toNatClampNeg (-1)) (2 : Int32).toNatClampNeg (-1)) (3 : Int32).toNatClampNeg (-1)))), (r_2, .inl (cy_7, 64, .inl f2_17)), (h, .inr (9, [.int 0, .ref q_1, .ref q_8, .ref q_10, .ref q_12, .ref q_14, .int 0])), (q_1, .inl (cA_6, 4, .inr (.inr (.inr (.inr (zz_r4 r_2 r_3 r_4 r_5)))))), (r_3, .inl (cy_7, 64, .inl f2_20))] := hD1
  have hK : va_K D vwCl [(cA_6, .array .int), (cy_7, .int), (cA_9, .int), (cA_11, .int), (cA_13, .int), (cA_15, .int), (cA_6, .array .int), (cy_7, .int), (cA_6, .array .int), (cy_7, .int)] s := hK1
  have hS := hS1
  clear hP1 hD1 hK1 hS1
  obtain ⟨H, rfl⟩ : ∃ z, z = H1 := ⟨_, rfl⟩
  refine W.eq (g2 := F0 mt0 87 ls []) rfl ?_
  refine lv_iinc (v := 2) (lv' := [(1, .int 2), (0, .ref h)]) hx hb dX5_init_87 hl (k := 0) rfl (by decide) (by decide) rfl (fun ls hl => ?_)
  refine lv_goto (tgt := 77) hx hb dX5_init_90 (by decide) ?_
  refine lv_iload_n hx hb dX5_init_77 rfl (lv_at hl 0 rfl) ?_
  refine lv_iconst (v := 4) hx hb dX5_init_78 (by decide) ?_
  refine lv_icmp_ge (tgt := 93) hx hb dX5_init_79 (by decide) (fun c_22 => absurd c_22 (by decide)) (fun c_22 => ?_)
  refine lv_aload_n hx hb dX5_init_82 rfl (lv_at hl 1 rfl) ?_
  refine lv_iload_n hx hb dX5_init_83 rfl (lv_at hl 0 rfl) ?_
  have hFc := va_free (wc := [(h, .inr (9, [.int 0, .ref q_1, .ref q_8, .ref q_10, .ref q_12, .ref q_14, .int 0])), (q_1, .inl (cA_6, 4, .inr (.inr (.inr (.inr (zz_r4 r_2 r_3 r_4 r_5)))))), (r_4, .inl (cy_7, 64, .inl (fun _ => 0)))]) hD hS hA [7, 8, 0] rfl
  refine zz_after (wr := [(r_5, .inl (cy_7, 64, .inl (fun _ => 0))), (q_8, .inl (cA_9, 4, .inl (upd (upd (upd (upd (fun _ => 0) (0 : Int32).toNatClampNeg (-1)) (1 : Int32).toNatClampNeg (-1)) (2 : Int32).toNatClampNeg (-1)) (3 : Int32).toNatClampNeg (-1)))), (q_10, .inl (cA_11, 4, .inl (fun _ => 0))), (q_12, .inl (cA_13, 4, .inl (fun _ => 0))), (q_14, .inl (cA_15, 4, .inl (upd (upd (upd (upd (fun _ => 0) (0 : Int32).toNatClampNeg (-1)) (1 : Int32).toNatClampNeg (-1)) (2 : Int32).toNatClampNeg (-1)) (3 : Int32).toNatClampNeg (-1)))), (r_2, .inl (cy_7, 64, .inl f2_17)), (r_3, .inl (cy_7, 64, .inl f2_20))]) (va_runV (As := [.int 2]) (rest := []) ⟨hx, hb, hml, hown, hts⟩ ((k_X5_empty l D h 0 q_1 (.ref q_8) (.ref q_10) (.ref q_12) (.ref q_14) 0 cA_6 (zz_r4 r_2 r_3 r_4 r_5) r_4 cy_7 2 (fun _ => 0) ((show vp_in (2 : Int32) 4 from vp_in_nI (n := 2) (by decide) (by decide))) (by rw [show ((2 : Int32)).toNatClampNeg = 2 from by decide]; rfl)) H.size) (cwV 1 hts gX5_init_X5_empty rfl rfl rfl (by decide +kernel) ⟨Nat.le_of_ble_eq_true rfl, Nat.le_of_ble_eq_true rfl⟩) (zz_pV (zz_pre (av := [.ref h, .int 2]) (tyc := [(cA_6, .array .int), (cy_7, .int)]) (wc := [(h, .inr (9, [.int 0, .ref q_1, .ref q_8, .ref q_10, .ref q_12, .ref q_14, .int 0])), (q_1, .inl (cA_6, 4, .inr (.inr (.inr (.inr (zz_r4 r_2 r_3 r_4 r_5)))))), (r_4, .inl (cy_7, 64, .inl (fun _ => 0)))]) (X := fun _ _ => True) (Xc := (fun _ _ => True)) hP hD hK hS [7, 8, 0] [0, 1] rfl (by decide) rfl zz_St_tt (fun _ _ _ => trivial)) (va_recv hK hP (ci := 9) (q0 := 7) rfl rfl)) rfl rfl hl.1 rfl (lv_room (Nat.le_of_ble_eq_true rfl)) dX5_init_84 ⟨by show 0 + 5 + 1 + 1 + 1 + 1 + 0 + 0 + 0 ≤ 9; omega, by show 0 + 260 + 4 + 4 + 4 + 4 + 0 + 0 + 0 ≤ 276; omega⟩) hP hD hK hS hFc [7, 8, 0] [1, 2, 3, 4, 5, 6, 9] rfl rfl (by decide) (by decide) (fun v w1 ty1 H1 locs hq9 hz9 hk9 hP1 hD1 hK1 hS1 => ?_)
  obtain ⟨f2_23, h_24, rfl, rfl, rfl⟩ := hq9
  clear hS hP hD hK hFc
  have hP : va_P D vwCl [(r_5, .inl (cy_7, 64, .inl (fun _ => 0))), (q_8, .inl (cA_9, 4, .inl (upd (upd (upd (upd (fun _ => 0) (0 : Int32).toNatClampNeg (-1)) (1 : Int32).toNatClampNeg (-1)) (2 : Int32).toNatClampNeg (-1)) (3 : Int32).toNatClampNeg (-1)))), (q_10, .inl (cA_11, 4, .inl (fun _ => 0))), (q_12, .inl (cA_13, 4, .inl (fun _ => 0))), (q_14, .inl (cA_15, 4, .inl (upd (upd (upd (upd (fun _ => 0) (0 : Int32).toNatClampNeg (-1)) (1 : Int32).toNatClampNeg (-1)) (2 : Int32).toNatClampNeg (-1)) (3 : Int32).toNatClampNeg (-1)))), (r_2, .inl (cy_7, 64, .inl f2_17)), (r_3, .inl (cy_7, 64, .inl f2_20)), (h, .inr (9, [.int 0, .ref q_1, .ref q_8, .ref q_10, .ref q_12, .ref q_14, .int 0])), (q_1, .inl (cA_6, 4, .inr (.inr (.inr (.inr (zz_r4 r_2 r_3 r_4 r_5)))))), (r_4, .inl (cy_7, 64, .inl f2_23))] H1 := hP1
  have hD : va_D A [(r_5, .inl (cy_7, 64, .inl (fun _ => 0))), (q_8, .inl (cA_9, 4, .inl (upd (upd (upd (upd (fun _ => 0) (0 : Int32).toNatClampNeg (-1)) (1 : Int32).toNatClampNeg (-1)) (2 : Int32).toNatClampNeg (-1)) (3 : Int32).toNatClampNeg (-1)))), (q_10, .inl (cA_11, 4, .inl (fun _ => 0))), (q_12, .inl (cA_13, 4, .inl (fun _ => 0))), (q_14, .inl (cA_15, 4, .inl (upd (upd (upd (upd (fun _ => 0) (0 : Int32).toNatClampNeg (-1)) (1 : Int32).toNatClampNeg (-1)) (2 : Int32).toNatClampNeg (-1)) (3 : Int32).toNatClampNeg (-1)))), (r_2, .inl (cy_7, 64, .inl f2_17)), (r_3, .inl (cy_7, 64, .inl f2_20)), (h, .inr (9, [.int 0, .ref q_1, .ref q_8, .ref q_10, .ref q_12, .ref q_14, .int 0])), (q_1, .inl (cA_6, 4, .inr (.inr (.inr (.inr (zz_r4 r_2 r_3 r_4 r_5)))))), (r_4, .inl (cy_7, 64, .inl f2_23))] := hD1
  have hK : va_K D vwCl [(cA_6, .array .int), (cy_7, .int), (cA_9, .int), (cA_11, .int), (cA_13, .int), (cA_15, .int), (cA_6, .array .int), (cy_7, .int), (cA_6, .array .int), (cy_7, .int), (cA_6, .array .int), (cy_7, .int)] s := hK1
  have hS := hS1
  clear hP1 hD1 hK1 hS1
  obtain ⟨H, rfl⟩ : ∃ z, z = H1 := ⟨_, rfl⟩
  refine W.eq (g2 := F0 mt0 87 ls []) rfl ?_
  refine lv_iinc (v := 3) (lv' := [(1, .int 3), (0, .ref h)]) hx hb dX5_init_87 hl (k := 0) rfl (by decide) (by decide) rfl (fun ls hl => ?_)
  refine lv_goto (tgt := 77) hx hb dX5_init_90 (by decide) ?_
  refine lv_iload_n hx hb dX5_init_77 rfl (lv_at hl 0 rfl) ?_
  refine lv_iconst (v := 4) hx hb dX5_init_78 (by decide) ?_
  refine lv_icmp_ge (tgt := 93) hx hb dX5_init_79 (by decide) (fun c_25 => absurd c_25 (by decide)) (fun c_25 => ?_)
  refine lv_aload_n hx hb dX5_init_82 rfl (lv_at hl 1 rfl) ?_
  refine lv_iload_n hx hb dX5_init_83 rfl (lv_at hl 0 rfl) ?_
  have hFc := va_free (wc := [(h, .inr (9, [.int 0, .ref q_1, .ref q_8, .ref q_10, .ref q_12, .ref q_14, .int 0])), (q_1, .inl (cA_6, 4, .inr (.inr (.inr (.inr (zz_r4 r_2 r_3 r_4 r_5)))))), (r_5, .inl (cy_7, 64, .inl (fun _ => 0)))]) hD hS hA [7, 8, 0] rfl
  refine zz_after (wr := [(q_8, .inl (cA_9, 4, .inl (upd (upd (upd (upd (fun _ => 0) (0 : Int32).toNatClampNeg (-1)) (1 : Int32).toNatClampNeg (-1)) (2 : Int32).toNatClampNeg (-1)) (3 : Int32).toNatClampNeg (-1)))), (q_10, .inl (cA_11, 4, .inl (fun _ => 0))), (q_12, .inl (cA_13, 4, .inl (fun _ => 0))), (q_14, .inl (cA_15, 4, .inl (upd (upd (upd (upd (fun _ => 0) (0 : Int32).toNatClampNeg (-1)) (1 : Int32).toNatClampNeg (-1)) (2 : Int32).toNatClampNeg (-1)) (3 : Int32).toNatClampNeg (-1)))), (r_2, .inl (cy_7, 64, .inl f2_17)), (r_3, .inl (cy_7, 64, .inl f2_20)), (r_4, .inl (cy_7, 64, .inl f2_23))]) (va_runV (As := [.int 3]) (rest := []) ⟨hx, hb, hml, hown, hts⟩ ((k_X5_empty l D h 0 q_1 (.ref q_8) (.ref q_10) (.ref q_12) (.ref q_14) 0 cA_6 (zz_r4 r_2 r_3 r_4 r_5) r_5 cy_7 3 (fun _ => 0) ((show vp_in (3 : Int32) 4 from vp_in_nI (n := 3) (by decide) (by decide))) (by rw [show ((3 : Int32)).toNatClampNeg = 3 from by decide]; rfl)) H.size) (cwV 1 hts gX5_init_X5_empty rfl rfl rfl (by decide +kernel) ⟨Nat.le_of_ble_eq_true rfl, Nat.le_of_ble_eq_true rfl⟩) (zz_pV (zz_pre (av := [.ref h, .int 3]) (tyc := [(cA_6, .array .int), (cy_7, .int)]) (wc := [(h, .inr (9, [.int 0, .ref q_1, .ref q_8, .ref q_10, .ref q_12, .ref q_14, .int 0])), (q_1, .inl (cA_6, 4, .inr (.inr (.inr (.inr (zz_r4 r_2 r_3 r_4 r_5)))))), (r_5, .inl (cy_7, 64, .inl (fun _ => 0)))]) (X := fun _ _ => True) (Xc := (fun _ _ => True)) hP hD hK hS [7, 8, 0] [0, 1] rfl (by decide) rfl zz_St_tt (fun _ _ _ => trivial)) (va_recv hK hP (ci := 9) (q0 := 7) rfl rfl)) rfl rfl hl.1 rfl (lv_room (Nat.le_of_ble_eq_true rfl)) dX5_init_84 ⟨by show 0 + 5 + 1 + 1 + 1 + 1 + 0 + 0 + 0 + 0 ≤ 9; omega, by show 0 + 260 + 4 + 4 + 4 + 4 + 0 + 0 + 0 + 0 ≤ 276; omega⟩) hP hD hK hS hFc [7, 8, 0] [1, 2, 3, 4, 5, 6, 9] rfl rfl (by decide) (by decide) (fun v w1 ty1 H1 locs hq9 hz9 hk9 hP1 hD1 hK1 hS1 => ?_)
  obtain ⟨f2_26, h_27, rfl, rfl, rfl⟩ := hq9
  clear hS hP hD hK hFc
  have hP : va_P D vwCl [(q_8, .inl (cA_9, 4, .inl (upd (upd (upd (upd (fun _ => 0) (0 : Int32).toNatClampNeg (-1)) (1 : Int32).toNatClampNeg (-1)) (2 : Int32).toNatClampNeg (-1)) (3 : Int32).toNatClampNeg (-1)))), (q_10, .inl (cA_11, 4, .inl (fun _ => 0))), (q_12, .inl (cA_13, 4, .inl (fun _ => 0))), (q_14, .inl (cA_15, 4, .inl (upd (upd (upd (upd (fun _ => 0) (0 : Int32).toNatClampNeg (-1)) (1 : Int32).toNatClampNeg (-1)) (2 : Int32).toNatClampNeg (-1)) (3 : Int32).toNatClampNeg (-1)))), (r_2, .inl (cy_7, 64, .inl f2_17)), (r_3, .inl (cy_7, 64, .inl f2_20)), (r_4, .inl (cy_7, 64, .inl f2_23)), (h, .inr (9, [.int 0, .ref q_1, .ref q_8, .ref q_10, .ref q_12, .ref q_14, .int 0])), (q_1, .inl (cA_6, 4, .inr (.inr (.inr (.inr (zz_r4 r_2 r_3 r_4 r_5)))))), (r_5, .inl (cy_7, 64, .inl f2_26))] H1 := hP1
  have hD : va_D A [(q_8, .inl (cA_9, 4, .inl (upd (upd (upd (upd (fun _ => 0) (0 : Int32).toNatClampNeg (-1)) (1 : Int32).toNatClampNeg (-1)) (2 : Int32).toNatClampNeg (-1)) (3 : Int32).toNatClampNeg (-1)))), (q_10, .inl (cA_11, 4, .inl (fun _ => 0))), (q_12, .inl (cA_13, 4, .inl (fun _ => 0))), (q_14, .inl (cA_15, 4, .inl (upd (upd (upd (upd (fun _ => 0) (0 : Int32).toNatClampNeg (-1)) (1 : Int32).toNatClampNeg (-1)) (2 : Int32).toNatClampNeg (-1)) (3 : Int32).toNatClampNeg (-1)))), (r_2, .inl (cy_7, 64, .inl f2_17)), (r_3, .inl (cy_7, 64, .inl f2_20)), (r_4, .inl (cy_7, 64, .inl f2_23)), (h, .inr (9, [.int 0, .ref q_1, .ref q_8, .ref q_10, .ref q_12, .ref q_14, .int 0])), (q_1, .inl (cA_6, 4, .inr (.inr (.inr (.inr (zz_r4 r_2 r_3 r_4 r_5)))))), (r_5, .inl (cy_7, 64, .inl f2_26))] := hD1
  have hK : va_K D vwCl [(cA_6, .array .int), (cy_7, .int), (cA_9, .int), (cA_11, .int), (cA_13, .int), (cA_15, .int), (cA_6, .array .int), (cy_7, .int), (cA_6, .array .int), (cy_7, .int), (cA_6, .array .int), (cy_7, .int), (cA_6, .array .int), (cy_7, .int)] s := hK1
  have hS := hS1
  clear hP1 hD1 hK1 hS1
  obtain ⟨H, rfl⟩ : ∃ z, z = H1 := ⟨_, rfl⟩
  refine W.eq (g2 := F0 mt0 87 ls []) rfl ?_
  refine lv_iinc (v := 4) (lv' := [(1, .int 4), (0, .ref h)]) hx hb dX5_init_87 hl (k := 0) rfl (by decide) (by decide) rfl (fun ls hl => ?_)
  refine lv_goto (tgt := 77) hx hb dX5_init_90 (by decide) ?_
  refine lv_iload_n hx hb dX5_init_77 rfl (lv_at hl 0 rfl) ?_
  refine lv_iconst (v := 4) hx hb dX5_init_78 (by decide) ?_
  refine lv_icmp_ge (tgt := 93) hx hb dX5_init_79 (by decide) (fun c_28 => ?_) (fun c_28 => absurd (by decide) c_28)
  have hP9 := hP.sub (ws' := [(h, .inr (9, [.int 0, .ref q_1, .ref q_8, .ref q_10, .ref q_12, .ref q_14, .int 0])), (q_1, .inl (cA_6, 4, .inr (.inr (.inr (.inr (zz_r4 r_2 r_3 r_4 r_5)))))), (r_2, .inl (cy_7, 64, .inl f2_17)), (q_8, .inl (cA_9, 4, .inl (upd (upd (upd (upd (fun _ => 0) (0 : Int32).toNatClampNeg (-1)) (1 : Int32).toNatClampNeg (-1)) (2 : Int32).toNatClampNeg (-1)) (3 : Int32).toNatClampNeg (-1))))]) [7, 8, 4, 0] rfl
  have hD9 := hD.sub (ws' := [(h, .inr (9, [.int 0, .ref q_1, .ref q_8, .ref q_10, .ref q_12, .ref q_14, .int 0])), (q_1, .inl (cA_6, 4, .inr (.inr (.inr (.inr (zz_r4 r_2 r_3 r_4 r_5)))))), (r_2, .inl (cy_7, 64, .inl f2_17)), (q_8, .inl (cA_9, 4, .inl (upd (upd (upd (upd (fun _ => 0) (0 : Int32).toNatClampNeg (-1)) (1 : Int32).toNatClampNeg (-1)) (2 : Int32).toNatClampNeg (-1)) (3 : Int32).toNatClampNeg (-1))))]) [7, 8, 4, 0] (by decide) rfl
  have hK9 := hK.sub (tys' := [(cA_6, .array .int), (cy_7, .int), (cA_9, .int)]) [0, 1, 2] rfl
  refine W.widen (k := 9) (n := 276) (by show 0 + 5 + 1 + 1 + 1 + 1 + 0 + 0 + 0 + 0 ≤ 9; omega) (by show 0 + 260 + 4 + 4 + 4 + 4 + 0 + 0 + 0 + 0 ≤ 276; omega) ?_
  exact W.vret hx hb hr (zz_end hP9 hD9 hK9 hS (⟨q_1, q_8, q_10, q_12, q_14, r_2, cA_6, cy_7, cA_9, zz_r4 r_2 r_3 r_4 r_5, f2_17, upd (upd (upd (upd (fun _ => 0) (0 : Int32).toNatClampNeg (-1)) (1 : Int32).toNatClampNeg (-1)) (2 : Int32).toNatClampNeg (-1)) (3 : Int32).toNatClampNeg (-1), rfl, h_18, rfl, rfl, rfl⟩)) hS.2.2 dX5_init_93
