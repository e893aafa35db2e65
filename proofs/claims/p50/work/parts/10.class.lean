set_option maxHeartbeats 4000000 in
set_option maxRecDepth 100000 in
theorem k_X1_worthAt (l : Launch) (D : va_G) (tb : Nat) (wo : Nat) (ti : Nat) (pn : Nat) (wk : Nat) (vw : Int32) (cW : ClassId) (g : Nat → Int32) (n : Nat) (hn : n < 64) : zz_M l yX1_worthAt wsX1_worthAt ({ frames := 1, cells := 0, slots := 0, locals := 40 }) D [.ref tb, .int (nI n)] [(cW, .int)] [(tb, .inr (5, [.ref wo, .ref ti, .int (nI pn), .ref wk, .int vw])), (wo, .inl (cW, 64, .inl g))] (fun _ _ => True) (fun H0 H1 v w t => v = some (.int (g n)) ∧ w = [(tb, .inr (5, [.ref wo, .ref ti, .int (nI pn), .ref wk, .int vw])), (wo, .inl (cW, 64, .inl g))] ∧ t = [(cW, .int)]) := by
  refine zz_M.mk (cc := cX1_worthAt) (maxL := 2) (ret := (some .int)) (by decide) rfl (Nat.le_of_ble_eq_true rfl) ?_
  intro p0 e0 s mt0 bl0 meth0 cd0 ls hC hname hP hK hD hX hl
  obtain ⟨hx, hb, hml, hr, hown, hts, hlocks⟩ := hC
  generalize hAe : va_A [(tb, .inr (5, [.ref wo, .ref ti, .int (nI pn), .ref wk, .int vw])), (wo, .inl (cW, 64, .inl g))] s.heap.size = A at *
  have hA : ∀ q : Nat, s.heap.size ≤ q → A q := fun q h => by rw [← hAe]; exact Or.inr h
  obtain ⟨H, hHs⟩ : ∃ z : Heap, z = s.heap := ⟨_, rfl⟩
  rw [← hHs] at hP ⊢
  have hS : va_S A s.heap H [] := by rw [hHs]; exact va_S.rf
  have hl : lv_has ls 2 [(0, .ref tb), (1, .int (nI n))] := hl
  refine lv_iload_n hx hb dX1_worthAt_0 rfl (lv_at hl 1 rfl) ?_
  refine lv_if_lt (tgt := 22) hx hb dX1_worthAt_1 (by decide) (fun c_1 => absurd c_1 (nI_pos (by omega))) (fun c_1 => ?_)
  refine lv_iload_n hx hb dX1_worthAt_4 rfl (lv_at hl 1 rfl) ?_
  refine lv_aload_n hx hb dX1_worthAt_5 rfl (lv_at hl 0 rfl) ?_
  refine va_get (D := D) (ci := 5) (v := .ref wo) (C := RX1) (T := TX1) (N := 5) hx hb hts (by decide +kernel) hown hK hP 0 rfl rfl 0 (by decide) (hts (.fieldLink RX1 9 "Hashladder$Table" "worthOf" "[I") (by decide +kernel)) (fun _ h9 => h9) rfl dX1_worthAt_6 ?_
  refine va_alen hx hb hK hP 1 0 rfl rfl (v := nI 64) rfl dX1_worthAt_9 ?_
  refine lv_icmp_ge (tgt := 22) hx hb dX1_worthAt_10 (by decide) (fun c_2 => absurd c_2 (show ¬ nI 64 ≤ nI n from nI_ge (by omega) (by decide))) (fun c_2 => ?_)
  refine lv_aload_n hx hb dX1_worthAt_13 rfl (lv_at hl 0 rfl) ?_
  refine va_get (D := D) (ci := 5) (v := .ref wo) (C := RX1) (T := TX1) (N := 5) hx hb hts (by decide +kernel) hown hK hP 0 rfl rfl 0 (by decide) (hts (.fieldLink RX1 9 "Hashladder$Table" "worthOf" "[I") (by decide +kernel)) (fun _ h9 => h9) rfl dX1_worthAt_14 ?_
  refine lv_iload_n hx hb dX1_worthAt_17 rfl (lv_at hl 1 rfl) ?_
  refine va_iald hx hb hK hP 1 0 rfl rfl (vp_in_nI hn (by decide)) dX1_worthAt_18 ?_
  refine lv_topi (fun z_3 ez_3 => ?_)
  obtain rfl : z_3 = g n := ez_3.trans (by rw [nI_clamp (by omega)])
  refine lv_goto (tgt := 23) hx hb dX1_worthAt_19 (by decide) ?_
  have hP9 := hP.sub (ws' := [(tb, .inr (5, [.ref wo, .ref ti, .int (nI pn), .ref wk, .int vw])), (wo, .inl (cW, 64, .inl g))]) [0, 1] rfl
  have hD9 := hD.sub (ws' := [(tb, .inr (5, [.ref wo, .ref ti, .int (nI pn), .ref wk, .int vw])), (wo, .inl (cW, 64, .inl g))]) [0, 1] (by decide) rfl
  have hK9 := hK.sub (tys' := [(cW, .int)]) [0] rfl
  refine W.widen (k := 0) (n := 0) (by show 0 ≤ 0; omega) (by show 0 ≤ 0; omega) ?_
  exact W.iret (v := g n) hx hb hr (zz_end hP9 hD9 hK9 hS (⟨rfl, rfl, rfl⟩)) hS.2.2 dX1_worthAt_23
set_option maxHeartbeats 4000000 in
set_option maxRecDepth 100000 in
theorem k_X1_signsOf (l : Launch) (D : va_G) (n : Nat) (hn : 10 ≤ n) (hm9 : n < 100) : zz_M l yX1_signsOf wsX1_signsOf ({ frames := 1, cells := 0, slots := 0, locals := 40 }) D [.int (nI n)] [] [] (fun _ _ => True) (fun H0 H1 v w t => v = some (.int 2) ∧ w = [] ∧ t = []) := by
  refine zz_M.mk (cc := cX1_signsOf) (maxL := 1) (ret := (some .int)) (by decide) rfl (Nat.le_of_ble_eq_true rfl) ?_
  intro p0 e0 s mt0 bl0 meth0 cd0 ls hC hname hP hK hD hX hl
  obtain ⟨hx, hb, hml, hr, hown, hts, hlocks⟩ := hC
  generalize hAe : va_A [] s.heap.size = A at *
  have hA : ∀ q : Nat, s.heap.size ≤ q → A q := fun q h => by rw [← hAe]; exact Or.inr h
  obtain ⟨H, hHs⟩ : ∃ z : Heap, z = s.heap := ⟨_, rfl⟩
  rw [← hHs] at hP ⊢
  have hS : va_S A s.heap H [] := by rw [hHs]; exact va_S.rf
  have hl : lv_has ls 1 [(0, .int (nI n))] := hl
  refine lv_iload_n hx hb dX1_signsOf_0 rfl (lv_at hl 0 rfl) ?_
  refine lv_bipush (v := 10) hx hb dX1_signsOf_1 (by decide) ?_
  refine lv_icmp_ge (tgt := 10) hx hb dX1_signsOf_3 (by decide) (fun c_1 => ?_) (fun c_1 => absurd (show nI 10 ≤ nI n from nI_le hn (by omega)) c_1)
  refine lv_iconst (v := 2) hx hb dX1_signsOf_10 (by decide) ?_
  have hP9 := hP.sub (ws' := []) [] rfl
  have hD9 := hD.sub (ws' := []) [] (by decide) rfl
  have hK9 := hK.sub (tys' := []) [] rfl
  refine W.widen (k := 0) (n := 0) (by show 0 ≤ 0; omega) (by show 0 ≤ 0; omega) ?_
  exact W.iret (v := 2) hx hb hr (zz_end hP9 hD9 hK9 hS (⟨rfl, rfl, rfl⟩)) hS.2.2 dX1_signsOf_11
set_option maxHeartbeats 4000000 in
set_option maxRecDepth 100000 in
theorem k_X1_lift (l : Launch) (D : va_G) (tb : Nat) (wo : Nat) (ti : Nat) (pn : Nat) (wk : Nat) (vw : Int32) (cW : ClassId) (g : Nat → Int32) (cT : ClassId) (tm : Nat → Int32) (n : Nat) (hn : n < 64) (hg : g n = -1) : zz_M l yX1_lift wsX1_lift ({ frames := 2, cells := 0, slots := 0, locals := 100 }) D [.ref tb, .int (nI n)] [(cW, .int)] [(tb, .inr (5, [.ref wo, .ref ti, .int (nI pn), .ref wk, .int vw])), (wo, .inl (cW, 64, .inl g))] (fun _ _ => True) (fun H0 H1 v w t => v = some (.int (-1)) ∧ w = [(tb, .inr (5, [.ref wo, .ref ti, .int (nI pn), .ref wk, .int vw])), (wo, .inl (cW, 64, .inl g))] ∧ t = [(cW, .int)]) := by
  refine zz_M.mk (cc := cX1_lift) (maxL := 3) (ret := (some .int)) (by decide) rfl (Nat.le_of_ble_eq_true rfl) ?_
  intro p0 e0 s mt0 bl0 meth0 cd0 ls hC hname hP hK hD hX hl
  obtain ⟨hx, hb, hml, hr, hown, hts, hlocks⟩ := hC
  generalize hAe : va_A [(tb, .inr (5, [.ref wo, .ref ti, .int (nI pn), .ref wk, .int vw])), (wo, .inl (cW, 64, .inl g))] s.heap.size = A at *
  have hA : ∀ q : Nat, s.heap.size ≤ q → A q := fun q h => by rw [← hAe]; exact Or.inr h
  obtain ⟨H, hHs⟩ : ∃ z : Heap, z = s.heap := ⟨_, rfl⟩
  rw [← hHs] at hP ⊢
  have hS : va_S A s.heap H [] := by rw [hHs]; exact va_S.rf
  have hl : lv_has ls 3 [(0, .ref tb), (1, .int (nI n))] := hl
  refine lv_aload_n hx hb dX1_lift_0 rfl (lv_at hl 0 rfl) ?_
  refine lv_iload_n hx hb dX1_lift_1 rfl (lv_at hl 1 rfl) ?_
  have hFc := va_free (wc := [(tb, .inr (5, [.ref wo, .ref ti, .int (nI pn), .ref wk, .int vw])), (wo, .inl (cW, 64, .inl g))]) hD hS hA [0, 1] rfl
  refine zz_after (wr := []) (va_runV (As := [.int (nI n)]) (rest := []) ⟨hx, hb, hml, hown, hts⟩ ((k_X1_worthAt l D tb wo ti pn wk vw cW g n (hn)) H.size) (cwV 1 hts gX1_lift_X1_worthAt rfl rfl rfl (by decide +kernel) ⟨Nat.le_of_ble_eq_true rfl, Nat.le_of_ble_eq_true rfl⟩) (zz_pV (zz_pre (av := [.ref tb, .int (nI n)]) (tyc := [(cW, .int)]) (wc := [(tb, .inr (5, [.ref wo, .ref ti, .int (nI pn), .ref wk, .int vw])), (wo, .inl (cW, 64, .inl g))]) (X := fun _ _ => True) (Xc := (fun _ _ => True)) hP hD hK hS [0, 1] [0] rfl (by decide) rfl zz_St_tt (fun _ _ _ => trivial)) (va_recv hK hP (ci := 5) (q0 := 0) rfl rfl)) rfl rfl hl.1 rfl (lv_room (Nat.le_of_ble_eq_true rfl)) dX1_lift_2 ⟨by show 0 + 0 ≤ 0; omega, by show 0 + 0 ≤ 0; omega⟩) hP hD hK hS hFc [0, 1] [] rfl rfl (by decide) (by decide) (fun v w1 ty1 H1 locs hq9 hz9 hk9 hP1 hD1 hK1 hS1 => ?_)
  obtain ⟨rfl, rfl, rfl⟩ := hq9
  clear hS hP hD hK hFc
  have hP : va_P D vwCl [(tb, .inr (5, [.ref wo, .ref ti, .int (nI pn), .ref wk, .int vw])), (wo, .inl (cW, 64, .inl g))] H1 := hP1
  have hD : va_D A [(tb, .inr (5, [.ref wo, .ref ti, .int (nI pn), .ref wk, .int vw])), (wo, .inl (cW, 64, .inl g))] := hD1
  have hK : va_K D vwCl [(cW, .int), (cW, .int)] s := hK1
  have hS := hS1
  clear hP1 hD1 hK1 hS1
  obtain ⟨H, rfl⟩ : ∃ z, z = H1 := ⟨_, rfl⟩
  refine W.eq (g2 := F0 mt0 5 ls [.int (g n)]) rfl ?_
  rw [hg]
  refine lv_istore_n (lv' := [(2, .int (-1)), (0, .ref tb), (1, .int (nI n))]) hx hb dX1_lift_5 rfl hl (by decide) rfl (fun ls hl => ?_)
  refine lv_iload_n hx hb dX1_lift_6 rfl (lv_at hl 2 rfl) ?_
  refine lv_if_lt (tgt := 59) hx hb dX1_lift_7 (by decide) (fun c_1 => absurd c_1 (nI_pos (by omega))) (fun c_1 => ?_)
  refine lv_iload_n hx hb dX1_lift_10 rfl (lv_at hl 2 rfl) ?_
  refine lv_aload_n hx hb dX1_lift_11 rfl (lv_at hl 1 rfl) ?_
  refine va_get (D := D) (ci := 5) (v := .ref wo) (C := RX1) (T := TX1) (N := 5) hx hb hts (by decide +kernel) hown hK hP 0 rfl rfl 0 (by decide) (hts (.fieldLink RX1 9 "Hashladder$Table" "worthOf" "[I") (by decide +kernel)) (fun _ h9 => h9) rfl dX1_lift_12 ?_
  refine va_alen hx hb hK hP 1 0 rfl rfl (v := nI 64) rfl dX1_lift_15 ?_
  refine lv_icmp_ge (tgt := 59) hx hb dX1_lift_16 (by decide) (fun c_2 => absurd c_2 (show ¬ nI 64 ≤ nI n from nI_ge (by omega) (by decide))) (fun c_2 => ?_)
  refine lv_iload_n hx hb dX1_lift_19 rfl (lv_at hl 0 rfl) ?_
  refine lv_if_lt (tgt := 59) hx hb dX1_lift_20 (by decide) (fun c_3 => ?_) (fun c_3 => absurd (by decide) c_3)
  refine lv_iload_n hx hb dX1_lift_59 rfl (lv_at hl 0 rfl) ?_
  have hP9 := hP.sub (ws' := [(tb, .inr (5, [.ref wo, .ref ti, .int (nI pn), .ref wk, .int vw])), (wo, .inl (cW, 64, .inl g))]) [0, 1] rfl
  have hD9 := hD.sub (ws' := [(tb, .inr (5, [.ref wo, .ref ti, .int (nI pn), .ref wk, .int vw])), (wo, .inl (cW, 64, .inl g))]) [0, 1] (by decide) rfl
  have hK9 := hK.sub (tys' := [(cW, .int)]) [0] rfl
  refine W.widen (k := 0) (n := 0) (by show 0 + 0 ≤ 0; omega) (by show 0 + 0 ≤ 0; omega) ?_
  exact W.iret (v := -1) hx hb hr (zz_end hP9 hD9 hK9 hS (⟨rfl, rfl, rfl⟩)) hS.2.2 dX1_lift_60
set_option maxHeartbeats 4000000 in
set_option maxRecDepth 100000 in
theorem k_X1_lay (l : Launch) (D : va_G) (tb : Nat) (wo : Nat) (ti : Nat) (pn : Nat) (wk : Nat) (vw : Int32) (cW : ClassId) (g : Nat → Int32) (cT : ClassId) (tm : Nat → Int32) (n : Nat) (hn : n < 64) (hg : g n = -1) (hp : pn < 1000) : zz_M l yX1_lay wsX1_lay ({ frames := 3, cells := 0, slots := 0, locals := 160 }) D [.ref tb, .int (nI n), .int 99] [(cW, .int), (cT, .int)] [(tb, .inr (5, [.ref wo, .ref ti, .int (nI pn), .ref wk, .int vw])), (wo, .inl (cW, 64, .inl g)), (ti, .inl (cT, 100, .inl tm))] (fun _ _ => True) (fun H0 H1 v w t => ∃ tm2 : Nat → Int32, v = some (.int (-1)) ∧ w = [(tb, .inr (5, [.ref wo, .ref ti, .int (nI (pn + 1)), .ref wk, .int vw])), (wo, .inl (cW, 64, .inl (upd g n 99))), (ti, .inl (cT, 100, .inl tm2))] ∧ t = [(cW, .int), (cT, .int)]) := by
  refine zz_M.mk (cc := cX1_lay) (maxL := 4) (ret := (some .int)) (by decide) rfl (Nat.le_of_ble_eq_true rfl) ?_
  intro p0 e0 s mt0 bl0 meth0 cd0 ls hC hname hP hK hD hX hl
  obtain ⟨hx, hb, hml, hr, hown, hts, hlocks⟩ := hC
  generalize hAe : va_A [(tb, .inr (5, [.ref wo, .ref ti, .int (nI pn), .ref wk, .int vw])), (wo, .inl (cW, 64, .inl g)), (ti, .inl (cT, 100, .inl tm))] s.heap.size = A at *
  have hA : ∀ q : Nat, s.heap.size ≤ q → A q := fun q h => by rw [← hAe]; exact Or.inr h
  obtain ⟨H, hHs⟩ : ∃ z : Heap, z = s.heap := ⟨_, rfl⟩
  rw [← hHs] at hP ⊢
  have hS : va_S A s.heap H [] := by rw [hHs]; exact va_S.rf
  have hl : lv_has ls 4 [(0, .ref tb), (1, .int (nI n)), (2, .int 99)] := hl
  refine lv_aload_n hx hb dX1_lay_0 rfl (lv_at hl 0 rfl) ?_
  refine lv_iload_n hx hb dX1_lay_1 rfl (lv_at hl 1 rfl) ?_
  have hFc := va_free (wc := [(tb, .inr (5, [.ref wo, .ref ti, .int (nI pn), .ref wk, .int vw])), (wo, .inl (cW, 64, .inl g))]) hD hS hA [0, 1] rfl
  refine zz_after (wr := [(ti, .inl (cT, 100, .inl tm))]) (va_runV (As := [.int (nI n)]) (rest := []) ⟨hx, hb, hml, hown, hts⟩ ((k_X1_lift l D tb wo ti pn wk vw cW g cT tm n (hn) (hg)) H.size) (cwV 1 hts gX1_lay_X1_lift rfl rfl rfl (by decide +kernel) ⟨Nat.le_of_ble_eq_true rfl, Nat.le_of_ble_eq_true rfl⟩) (zz_pV (zz_pre (av := [.ref tb, .int (nI n)]) (tyc := [(cW, .int)]) (wc := [(tb, .inr (5, [.ref wo, .ref ti, .int (nI pn), .ref wk, .int vw])), (wo, .inl (cW, 64, .inl g))]) (X := fun _ _ => True) (Xc := (fun _ _ => True)) hP hD hK hS [0, 1] [0] rfl (by decide) rfl zz_St_tt (fun _ _ _ => trivial)) (va_recv hK hP (ci := 5) (q0 := 0) rfl rfl)) rfl rfl hl.1 rfl (lv_room (Nat.le_of_ble_eq_true rfl)) dX1_lay_2 ⟨by show 0 + 0 ≤ 0; omega, by show 0 + 0 ≤ 0; omega⟩) hP hD hK hS hFc [0, 1] [2] rfl rfl (by decide) (by decide) (fun v w1 ty1 H1 locs hq9 hz9 hk9 hP1 hD1 hK1 hS1 => ?_)
  obtain ⟨rfl, rfl, rfl⟩ := hq9
  clear hS hP hD hK hFc
  have hP : va_P D vwCl [(ti, .inl (cT, 100, .inl tm)), (tb, .inr (5, [.ref wo, .ref ti, .int (nI pn), .ref wk, .int vw])), (wo, .inl (cW, 64, .inl g))] H1 := hP1
  have hD : va_D A [(ti, .inl (cT, 100, .inl tm)), (tb, .inr (5, [.ref wo, .ref ti, .int (nI pn), .ref wk, .int vw])), (wo, .inl (cW, 64, .inl g))] := hD1
  have hK : va_K D vwCl [(cW, .int), (cT, .int), (cW, .int)] s := hK1
  have hS := hS1
  clear hP1 hD1 hK1 hS1
  obtain ⟨H, rfl⟩ : ∃ z, z = H1 := ⟨_, rfl⟩
  refine W.eq (g2 := F0 mt0 5 ls [.int (-1)]) rfl ?_
  refine lv_istore_n (lv' := [(3, .int (-1)), (0, .ref tb), (1, .int (nI n)), (2, .int 99)]) hx hb dX1_lay_5 rfl hl (by decide) rfl (fun ls hl => ?_)
  refine lv_iload_n hx hb dX1_lay_6 rfl (lv_at hl 2 rfl) ?_
  refine lv_if_lt (tgt := 59) hx hb dX1_lay_7 (by decide) (fun c_1 => absurd c_1 (nI_pos (by omega))) (fun c_1 => ?_)
  refine lv_iload_n hx hb dX1_lay_10 rfl (lv_at hl 2 rfl) ?_
  refine lv_aload_n hx hb dX1_lay_11 rfl (lv_at hl 1 rfl) ?_
  refine va_get (D := D) (ci := 5) (v := .ref wo) (C := RX1) (T := TX1) (N := 5) hx hb hts (by decide +kernel) hown hK hP 1 rfl rfl 0 (by decide) (hts (.fieldLink RX1 9 "Hashladder$Table" "worthOf" "[I") (by decide +kernel)) (fun _ h9 => h9) rfl dX1_lay_12 ?_
  refine va_alen hx hb hK hP 2 0 rfl rfl (v := nI 64) rfl dX1_lay_15 ?_
  refine lv_icmp_ge (tgt := 59) hx hb dX1_lay_16 (by decide) (fun c_2 => absurd c_2 (show ¬ nI 64 ≤ nI n from nI_ge (by omega) (by decide))) (fun c_2 => ?_)
  refine lv_iload_n hx hb dX1_lay_19 rfl (lv_at hl 3 rfl) ?_
  refine lv_if_lt (tgt := 59) hx hb dX1_lay_20 (by decide) (fun c_3 => absurd c_3 (by decide)) (fun c_3 => ?_)
  refine lv_iload_n hx hb dX1_lay_23 rfl (lv_at hl 3 rfl) ?_
  refine lv_aload_n hx hb dX1_lay_24 rfl (lv_at hl 1 rfl) ?_
  refine va_get (D := D) (ci := 5) (v := .ref ti) (C := RX1) (T := TX1) (N := 5) hx hb hts (by decide +kernel) hown hK hP 1 rfl rfl 1 (by decide) (hts (.fieldLink RX1 15 "Hashladder$Table" "times" "[I") (by decide +kernel)) (fun _ h9 => h9) rfl dX1_lay_25 ?_
  refine va_alen hx hb hK hP 0 1 rfl rfl (v := nI 100) rfl dX1_lay_28 ?_
  refine lv_icmp_ge (tgt := 59) hx hb dX1_lay_29 (by decide) (fun c_4 => absurd c_4 (show ¬ nI 100 ≤ nI 99 from by decide)) (fun c_4 => ?_)
  refine lv_aload_n hx hb dX1_lay_32 rfl (lv_at hl 1 rfl) ?_
  refine va_get (D := D) (ci := 5) (v := .ref wo) (C := RX1) (T := TX1) (N := 5) hx hb hts (by decide +kernel) hown hK hP 1 rfl rfl 0 (by decide) (hts (.fieldLink RX1 9 "Hashladder$Table" "worthOf" "[I") (by decide +kernel)) (fun _ h9 => h9) rfl dX1_lay_33 ?_
  refine lv_iload_n hx hb dX1_lay_36 rfl (lv_at hl 2 rfl) ?_
  refine lv_iload_n hx hb dX1_lay_37 rfl (lv_at hl 3 rfl) ?_
  refine va_iast hx hb hK hP hD hS 2 0 rfl rfl (vp_in_nI hn (by decide)) dX1_lay_38 (fun H locs hP hD hS => ?_)
  have hP : va_P D vwCl [(ti, .inl (cT, 100, .inl tm)), (tb, .inr (5, [.ref wo, .ref ti, .int (nI pn), .ref wk, .int vw])), (wo, .inl (cW, 64, .inl (upd g (nI n : Int32).toNatClampNeg 99)))] H := hP
  have hD : va_D A [(ti, .inl (cT, 100, .inl tm)), (tb, .inr (5, [.ref wo, .ref ti, .int (nI pn), .ref wk, .int vw])), (wo, .inl (cW, 64, .inl (upd g (nI n : Int32).toNatClampNeg 99)))] := hD
  have ef : upd g (nI n : Int32).toNatClampNeg 99 = upd g n 99 := by rw [nI_clamp (by omega)]
  rw [ef] at hP hD
  refine lv_aload_n hx hb dX1_lay_39 rfl (lv_at hl 1 rfl) ?_
  refine va_get (D := D) (ci := 5) (v := .ref ti) (C := RX1) (T := TX1) (N := 5) hx hb hts (by decide +kernel) hown hK hP 1 rfl rfl 1 (by decide) (hts (.fieldLink RX1 15 "Hashladder$Table" "times" "[I") (by decide +kernel)) (fun _ h9 => h9) rfl dX1_lay_40 ?_
  refine lv_iload_n hx hb dX1_lay_43 rfl (lv_at hl 3 rfl) ?_
  refine lv_dup2_11 hx hb dX1_lay_44 rfl rfl ?_
  refine va_iald hx hb hK hP 0 1 rfl rfl ((show vp_in (99 : Int32) 100 from vp_in_nI (n := 99) (by decide) (by decide))) dX1_lay_45 ?_
  refine lv_iconst (v := 1) hx hb dX1_lay_46 (by decide) ?_
  refine lv_iadd hx hb dX1_lay_47 ?_
  refine lv_topi (fun z_5 ez_5 => ?_)
  refine va_iast hx hb hK hP hD hS 0 1 rfl rfl ((show vp_in (99 : Int32) 100 from vp_in_nI (n := 99) (by decide) (by decide))) dX1_lay_48 (fun H locs hP hD hS => ?_)
  have hP : va_P D vwCl [(ti, .inl (cT, 100, .inl (upd tm (99 : Int32).toNatClampNeg z_5))), (tb, .inr (5, [.ref wo, .ref ti, .int (nI pn), .ref wk, .int vw])), (wo, .inl (cW, 64, .inl (upd g n 99)))] H := hP
  have hD : va_D A [(ti, .inl (cT, 100, .inl (upd tm (99 : Int32).toNatClampNeg z_5))), (tb, .inr (5, [.ref wo, .ref ti, .int (nI pn), .ref wk, .int vw])), (wo, .inl (cW, 64, .inl (upd g n 99)))] := hD
  refine lv_aload_n hx hb dX1_lay_49 rfl (lv_at hl 1 rfl) ?_
  refine lv_dup hx hb dX1_lay_50 rfl ?_
  refine va_get (D := D) (ci := 5) (v := .int (nI pn)) (C := RX1) (T := TX1) (N := 5) hx hb hts (by decide +kernel) hown hK hP 1 rfl rfl 2 (by decide) (hts (.fieldLink RX1 29 "Hashladder$Table" "pairs" "I") (by decide +kernel)) (fun _ h9 => h9) rfl dX1_lay_51 ?_
  refine lv_iconst (v := 1) hx hb dX1_lay_54 (by decide) ?_
  refine lv_iadd hx hb dX1_lay_55 ?_
  refine lv_topi (fun z_6 ez_6 => ?_)
  obtain rfl : z_6 = nI (pn + 1) := ez_6.trans (nI_1 pn)
  refine va_put (D := D) (ci := 5) (v := .int (nI (pn + 1))) (ty := .int) (C := RX1) (T := TX1) (N := 5) hx hb hts (by decide +kernel) tyX1 tyX1_ok nmX1 hown hK hP hD hS 1 rfl rfl 2 (by decide) (hts (.fieldLink RX1 29 "Hashladder$Table" "pairs" "I") (by decide +kernel)) (fun _ h9 => h9) rfl (by decide +kernel) rfl rfl (Nat.le_of_ble_eq_true rfl) dX1_lay_56 (fun H locs hP hD hS => ?_)
  have hP : va_P D vwCl [(ti, .inl (cT, 100, .inl (upd tm (99 : Int32).toNatClampNeg z_5))), (tb, .inr (5, [.ref wo, .ref ti, .int (nI (pn + 1)), .ref wk, .int vw])), (wo, .inl (cW, 64, .inl (upd g n 99)))] H := hP
  have hD : va_D A [(ti, .inl (cT, 100, .inl (upd tm (99 : Int32).toNatClampNeg z_5))), (tb, .inr (5, [.ref wo, .ref ti, .int (nI (pn + 1)), .ref wk, .int vw])), (wo, .inl (cW, 64, .inl (upd g n 99)))] := hD
  refine lv_iload_n hx hb dX1_lay_59 rfl (lv_at hl 0 rfl) ?_
  have hP9 := hP.sub (ws' := [(tb, .inr (5, [.ref wo, .ref ti, .int (nI (pn + 1)), .ref wk, .int vw])), (wo, .inl (cW, 64, .inl (upd g n 99))), (ti, .inl (cT, 100, .inl (upd tm (99 : Int32).toNatClampNeg z_5)))]) [1, 2, 0] rfl
  have hD9 := hD.sub (ws' := [(tb, .inr (5, [.ref wo, .ref ti, .int (nI (pn + 1)), .ref wk, .int vw])), (wo, .inl (cW, 64, .inl (upd g n 99))), (ti, .inl (cT, 100, .inl (upd tm (99 : Int32).toNatClampNeg z_5)))]) [1, 2, 0] (by decide) rfl
  have hK9 := hK.sub (tys' := [(cW, .int), (cT, .int)]) [0, 1] rfl
  refine W.widen (k := 0) (n := 0) (by show 0 + 0 ≤ 0; omega) (by show 0 + 0 ≤ 0; omega) ?_
  exact W.iret (v := -1) hx hb hr (zz_end hP9 hD9 hK9 hS (⟨_, rfl, rfl, rfl⟩)) hS.2.2 dX1_lay_60
set_option maxHeartbeats 4000000 in
set_option maxRecDepth 100000 in
theorem k_X2_end (l : Launch) (D : va_G) (wk : Nat) (wi : Int32) (w1 : Int32) (w2 : Int32) (w3 : Int32) (w4 : Int32) : zz_M l yX2_end wsX2_end ({ frames := 1, cells := 0, slots := 0, locals := 40 }) D [.ref wk] [] [(wk, .inr (6, [.int wi, .int w1, .int w2, .int w3, .int w4]))] (fun _ _ => True) (fun H0 H1 v w t => v = none ∧ w = [(wk, .inr (6, [.int 0, .int w1, .int w2, .int w3, .int w4]))] ∧ t = []) := by
  refine zz_M.mk (cc := cX2_end) (maxL := 1) (ret := none) (by decide) rfl (Nat.le_of_ble_eq_true rfl) ?_
  intro p0 e0 s mt0 bl0 meth0 cd0 ls hC hname hP hK hD hX hl
  obtain ⟨hx, hb, hml, hr, hown, hts, hlocks⟩ := hC
  generalize hAe : va_A [(wk, .inr (6, [.int wi, .int w1, .int w2, .int w3, .int w4]))] s.heap.size = A at *
  have hA : ∀ q : Nat, s.heap.size ≤ q → A q := fun q h => by rw [← hAe]; exact Or.inr h
  obtain ⟨H, hHs⟩ : ∃ z : Heap, z = s.heap := ⟨_, rfl⟩
  rw [← hHs] at hP ⊢
  have hS : va_S A s.heap H [] := by rw [hHs]; exact va_S.rf
  have hl : lv_has ls 1 [(0, .ref wk)] := hl
  refine lv_aload_n hx hb dX2_end_0 rfl (lv_at hl 0 rfl) ?_
  refine lv_iconst (v := 0) hx hb dX2_end_1 (by decide) ?_
  refine va_put (D := D) (ci := 6) (v := .int 0) (ty := .boolean) (C := RX2) (T := TX2) (N := 5) hx hb hts (by decide +kernel) tyX2 tyX2_ok nmX2 hown hK hP hD hS 0 rfl rfl 0 (by decide) (hts (.fieldLink RX2 9 "Hashladder$Walk" "isThere" "Z") (by decide +kernel)) (fun _ h9 => h9) rfl (by decide +kernel) rfl rfl (Nat.le_of_ble_eq_true rfl) dX2_end_2 (fun H locs hP hD hS => ?_)
  have hP : va_P D vwCl [(wk, .inr (6, [.int 0, .int w1, .int w2, .int w3, .int w4]))] H := hP
  have hD : va_D A [(wk, .inr (6, [.int 0, .int w1, .int w2, .int w3, .int w4]))] := hD
  have hP9 := hP.sub (ws' := [(wk, .inr (6, [.int 0, .int w1, .int w2, .int w3, .int w4]))]) [0] rfl
  have hD9 := hD.sub (ws' := [(wk, .inr (6, [.int 0, .int w1, .int w2, .int w3, .int w4]))]) [0] (by decide) rfl
  have hK9 := hK.sub (tys' := []) [] rfl
  refine W.widen (k := 0) (n := 0) (by show 0 ≤ 0; omega) (by show 0 ≤ 0; omega) ?_
  exact W.vret hx hb hr (zz_end hP9 hD9 hK9 hS (⟨rfl, rfl, rfl⟩)) hS.2.2 dX2_end_5
set_option maxHeartbeats 4000000 in
set_option maxRecDepth 100000 in
theorem k_X1_tell (l : Launch) (D : va_G) (tb : Nat) (wo : Nat) (ti : Nat) (pn : Nat) (wk : Nat) (vw : Int32) (cW : ClassId) (g : Nat → Int32) (wi : Int32) (w1 : Int32) (w2 : Int32) (w3 : Int32) (w4 : Int32) : zz_M l yX1_tell wsX1_tell ({ frames := 2, cells := 0, slots := 0, locals := 100 }) D [.ref tb] [] [(tb, .inr (5, [.ref wo, .ref ti, .int (nI pn), .ref wk, .int vw])), (wk, .inr (6, [.int wi, .int w1, .int w2, .int w3, .int w4]))] (fun _ _ => True) (fun H0 H1 v w t => v = none ∧ w = [(tb, .inr (5, [.ref wo, .ref ti, .int (nI pn), .ref wk, .int vw])), (wk, .inr (6, [.int 0, .int w1, .int w2, .int w3, .int w4]))] ∧ t = []) := by
  refine zz_M.mk (cc := cX1_tell) (maxL := 1) (ret := none) (by decide) rfl (Nat.le_of_ble_eq_true rfl) ?_
  intro p0 e0 s mt0 bl0 meth0 cd0 ls hC hname hP hK hD hX hl
  obtain ⟨hx, hb, hml, hr, hown, hts, hlocks⟩ := hC
  generalize hAe : va_A [(tb, .inr (5, [.ref wo, .ref ti, .int (nI pn), .ref wk, .int vw])), (wk, .inr (6, [.int wi, .int w1, .int w2, .int w3, .int w4]))] s.heap.size = A at *
  have hA : ∀ q : Nat, s.heap.size ≤ q → A q := fun q h => by rw [← hAe]; exact Or.inr h
  obtain ⟨H, hHs⟩ : ∃ z : Heap, z = s.heap := ⟨_, rfl⟩
  rw [← hHs] at hP ⊢
  have hS : va_S A s.heap H [] := by rw [hHs]; exact va_S.rf
  have hl : lv_has ls 1 [(0, .ref tb)] := hl
  refine lv_aload_n hx hb dX1_tell_0 rfl (lv_at hl 0 rfl) ?_
  refine va_get (D := D) (ci := 5) (v := .ref wk) (C := RX1) (T := TX1) (N := 5) hx hb hts (by decide +kernel) hown hK hP 0 rfl rfl 3 (by decide) (hts (.fieldLink RX1 21 "Hashladder$Table" "walk" "LHashladder$Walk;") (by decide +kernel)) (fun _ h9 => h9) rfl dX1_tell_1 ?_
  have hFc := va_free (wc := [(wk, .inr (6, [.int wi, .int w1, .int w2, .int w3, .int w4]))]) hD hS hA [1] rfl
  refine zz_after (wr := [(tb, .inr (5, [.ref wo, .ref ti, .int (nI pn), .ref wk, .int vw]))]) (va_runV (As := []) (rest := []) ⟨hx, hb, hml, hown, hts⟩ ((k_X2_end l D wk wi w1 w2 w3 w4) H.size) (cwV 0 hts gX1_tell_X2_end rfl rfl rfl (by decide +kernel) ⟨Nat.le_of_ble_eq_true rfl, Nat.le_of_ble_eq_true rfl⟩) (zz_pV (zz_pre (av := [.ref wk]) (tyc := []) (wc := [(wk, .inr (6, [.int wi, .int w1, .int w2, .int w3, .int w4]))]) (X := fun _ _ => True) (Xc := (fun _ _ => True)) hP hD hK hS [1] [] rfl (by decide) rfl zz_St_tt (fun _ _ _ => trivial)) (va_recv hK hP (ci := 6) (q0 := 1) rfl rfl)) rfl rfl hl.1 rfl (lv_room (Nat.le_of_ble_eq_true rfl)) dX1_tell_4 ⟨by show 0 + 0 ≤ 0; omega, by show 0 + 0 ≤ 0; omega⟩) hP hD hK hS hFc [1] [0] rfl rfl (by decide) (by decide) (fun v w1 ty1 H1 locs hq9 hz9 hk9 hP1 hD1 hK1 hS1 => ?_)
  obtain ⟨rfl, rfl, rfl⟩ := hq9
  clear hS hP hD hK hFc
  have hP : va_P D vwCl [(tb, .inr (5, [.ref wo, .ref ti, .int (nI pn), .ref wk, .int vw])), (wk, .inr (6, [.int 0, .int w1, .int w2, .int w3, .int w4]))] H1 := hP1
  have hD : va_D A [(tb, .inr (5, [.ref wo, .ref ti, .int (nI pn), .ref wk, .int vw])), (wk, .inr (6, [.int 0, .int w1, .int w2, .int w3, .int w4]))] := hD1
  have hK : va_K D vwCl [] s := hK1
  have hS := hS1
  clear hP1 hD1 hK1 hS1
  obtain ⟨H, rfl⟩ : ∃ z, z = H1 := ⟨_, rfl⟩
  refine W.eq (g2 := F0 mt0 7 ls []) rfl ?_
  have hP9 := hP.sub (ws' := [(tb, .inr (5, [.ref wo, .ref ti, .int (nI pn), .ref wk, .int vw])), (wk, .inr (6, [.int 0, .int w1, .int w2, .int w3, .int w4]))]) [0, 1] rfl
  have hD9 := hD.sub (ws' := [(tb, .inr (5, [.ref wo, .ref ti, .int (nI pn), .ref wk, .int vw])), (wk, .inr (6, [.int 0, .int w1, .int w2, .int w3, .int w4]))]) [0, 1] (by decide) rfl
  have hK9 := hK.sub (tys' := []) [] rfl
  refine W.widen (k := 0) (n := 0) (by show 0 + 0 ≤ 0; omega) (by show 0 + 0 ≤ 0; omega) ?_
  exact W.vret hx hb hr (zz_end hP9 hD9 hK9 hS (⟨rfl, rfl, rfl⟩)) hS.2.2 dX1_tell_7
set_option maxHeartbeats 4000000 in
set_option maxRecDepth 100000 in
theorem k_X3_tableAt (l : Launch) (D : va_G) (hh : Nat) (tA : Nat) (kn : Int32) (sp : Value) (rx : Value) (pb : Value) (pg : Value) (cB : ClassId) (T0 : Nat → Option Nat) (tb : Nat) (hT : T0 0 = some tb) : zz_M l yX3_tableAt wsX3_tableAt ({ frames := 1, cells := 0, slots := 0, locals := 40 }) D [.ref hh, .int 0] [(cB, .object "Hashladder$Table")] [(hh, .inr (7, [.ref tA, .int kn, sp, rx, pb, pg])), (tA, .inl (cB, 4, .inr (.inr (.inr (.inr T0)))))] (fun _ _ => True) (fun H0 H1 v w t => v = some (.ref tb) ∧ w = [(hh, .inr (7, [.ref tA, .int kn, sp, rx, pb, pg])), (tA, .inl (cB, 4, .inr (.inr (.inr (.inr T0)))))] ∧ t = [(cB, .object "Hashladder$Table")]) := by
  refine zz_M.mk (cc := cX3_tableAt) (maxL := 2) (ret := (some (.object "Hashladder$Table"))) (by decide) rfl (Nat.le_of_ble_eq_true rfl) ?_
  intro p0 e0 s mt0 bl0 meth0 cd0 ls hC hname hP hK hD hX hl
  obtain ⟨hx, hb, hml, hr, hown, hts, hlocks⟩ := hC
  generalize hAe : va_A [(hh, .inr (7, [.ref tA, .int kn, sp, rx, pb, pg])), (tA, .inl (cB, 4, .inr (.inr (.inr (.inr T0)))))] s.heap.size = A at *
  have hA : ∀ q : Nat, s.heap.size ≤ q → A q := fun q h => by rw [← hAe]; exact Or.inr h
  obtain ⟨H, hHs⟩ : ∃ z : Heap, z = s.heap := ⟨_, rfl⟩
  rw [← hHs] at hP ⊢
  have hS : va_S A s.heap H [] := by rw [hHs]; exact va_S.rf
  have hl : lv_has ls 2 [(0, .ref hh), (1, .int 0)] := hl
  refine lv_iload_n hx hb dX3_tableAt_0 rfl (lv_at hl 1 rfl) ?_
  refine lv_if_lt (tgt := 13) hx hb dX3_tableAt_1 (by decide) (fun c_1 => absurd c_1 (by decide)) (fun c_1 => ?_)
  refine lv_iload_n hx hb dX3_tableAt_4 rfl (lv_at hl 1 rfl) ?_
  refine lv_aload_n hx hb dX3_tableAt_5 rfl (lv_at hl 0 rfl) ?_
  refine va_get (D := D) (ci := 7) (v := .ref tA) (C := RX3) (T := TX3) (N := 6) hx hb hts (by decide +kernel) hown hK hP 0 rfl rfl 0 (by decide) (hts (.fieldLink RX3 11 "Hashladder" "tables" "[LHashladder$Table;") (by decide +kernel)) (fun _ h9 => h9) rfl dX3_tableAt_6 ?_
  refine va_alen hx hb hK hP 1 0 rfl rfl (v := nI 4) rfl dX3_tableAt_9 ?_
  refine lv_icmp_lt (tgt := 23) hx hb dX3_tableAt_10 (by decide) (fun c_2 => ?_) (fun c_2 => absurd (show (0 : Int32) < nI 4 from by decide) c_2)
  refine lv_aload_n hx hb dX3_tableAt_23 rfl (lv_at hl 0 rfl) ?_
  refine va_get (D := D) (ci := 7) (v := .ref tA) (C := RX3) (T := TX3) (N := 6) hx hb hts (by decide +kernel) hown hK hP 0 rfl rfl 0 (by decide) (hts (.fieldLink RX3 11 "Hashladder" "tables" "[LHashladder$Table;") (by decide +kernel)) (fun _ h9 => h9) rfl dX3_tableAt_24 ?_
  refine lv_iload_n hx hb dX3_tableAt_27 rfl (lv_at hl 1 rfl) ?_
  refine zz_aldA hx hb hK hP 1 0 rfl rfl rfl ((show vp_in (0 : Int32) 4 from vp_in_nI (n := 0) (by decide) (by decide))) (v := .ref tb) (by rw [show ((0 : Int32)).toNatClampNeg = 0 from by decide, hT]; rfl) dX3_tableAt_28 ?_
  have hP9 := hP.sub (ws' := [(hh, .inr (7, [.ref tA, .int kn, sp, rx, pb, pg])), (tA, .inl (cB, 4, .inr (.inr (.inr (.inr T0)))))]) [0, 1] rfl
  have hD9 := hD.sub (ws' := [(hh, .inr (7, [.ref tA, .int kn, sp, rx, pb, pg])), (tA, .inl (cB, 4, .inr (.inr (.inr (.inr T0)))))]) [0, 1] (by decide) rfl
  have hK9 := hK.sub (tys' := [(cB, .object "Hashladder$Table")]) [0] rfl
  refine W.widen (k := 0) (n := 0) (by show 0 ≤ 0; omega) (by show 0 ≤ 0; omega) ?_
  exact W.aret (v := .ref tb) hx hb hr (Or.inl ⟨_, rfl⟩) (Or.inr ⟨_, rfl⟩) (zz_end hP9 hD9 hK9 hS (⟨rfl, rfl, rfl⟩)) hS.2.2 dX3_tableAt_29
set_option maxHeartbeats 4000000 in
set_option maxRecDepth 100000 in
theorem k_X3_needIn (l : Launch) (D : va_G) (x : Int32) (y : Int32) (z : Int32) (h1 : ¬ x < y) (h2 : x ≤ z) : zz_M l yX3_needIn wsX3_needIn ({ frames := 1, cells := 0, slots := 0, locals := 40 }) D [.int x, .int y, .int z] [] [] (fun _ _ => True) (fun H0 H1 v w t => v = none ∧ w = [] ∧ t = []) := by
  refine zz_M.mk (cc := cX3_needIn) (maxL := 3) (ret := none) (by decide) rfl (Nat.le_of_ble_eq_true rfl) ?_
  intro p0 e0 s mt0 bl0 meth0 cd0 ls hC hname hP hK hD hX hl
  obtain ⟨hx, hb, hml, hr, hown, hts, hlocks⟩ := hC
  generalize hAe : va_A [] s.heap.size = A at *
  have hA : ∀ q : Nat, s.heap.size ≤ q → A q := fun q h => by rw [← hAe]; exact Or.inr h
  obtain ⟨H, hHs⟩ : ∃ z : Heap, z = s.heap := ⟨_, rfl⟩
  rw [← hHs] at hP ⊢
  have hS : va_S A s.heap H [] := by rw [hHs]; exact va_S.rf
  have hl : lv_has ls 3 [(0, .int x), (1, .int y), (2, .int z)] := hl
  refine lv_iload_n hx hb dX3_needIn_0 rfl (lv_at hl 0 rfl) ?_
  refine lv_iload_n hx hb dX3_needIn_1 rfl (lv_at hl 1 rfl) ?_
  refine lv_icmp_lt (tgt := 10) hx hb dX3_needIn_2 (by decide) (fun c_1 => absurd c_1 (h1)) (fun c_1 => ?_)
  refine lv_iload_n hx hb dX3_needIn_5 rfl (lv_at hl 0 rfl) ?_
  refine lv_iload_n hx hb dX3_needIn_6 rfl (lv_at hl 2 rfl) ?_
  refine lv_icmp_le (tgt := 20) hx hb dX3_needIn_7 (by decide) (fun c_2 => ?_) (fun c_2 => absurd (h2) c_2)
  have hP9 := hP.sub (ws' := []) [] rfl
  have hD9 := hD.sub (ws' := []) [] (by decide) rfl
  have hK9 := hK.sub (tys' := []) [] rfl
  refine W.widen (k := 0) (n := 0) (by show 0 ≤ 0; omega) (by show 0 ≤ 0; omega) ?_
  exact W.vret hx hb hr (zz_end hP9 hD9 hK9 hS (⟨rfl, rfl, rfl⟩)) hS.2.2 dX3_needIn_20
set_option maxHeartbeats 4000000 in
set_option maxRecDepth 100000 in
theorem k_X3_needName (l : Launch) (D : va_G) (n : Nat) (hn : n < 64) : zz_M l yX3_needName wsX3_needName ({ frames := 2, cells := 0, slots := 0, locals := 100 }) D [.int (nI n)] [] [] (fun _ _ => True) (fun H0 H1 v w t => v = none ∧ w = [] ∧ t = []) := by
  refine zz_M.mk (cc := cX3_needName) (maxL := 1) (ret := none) (by decide) rfl (Nat.le_of_ble_eq_true rfl) ?_
  intro p0 e0 s mt0 bl0 meth0 cd0 ls hC hname hP hK hD hX hl
  obtain ⟨hx, hb, hml, hr, hown, hts, hlocks⟩ := hC
  generalize hAe : va_A [] s.heap.size = A at *
  have hA : ∀ q : Nat, s.heap.size ≤ q → A q := fun q h => by rw [← hAe]; exact Or.inr h
  obtain ⟨H, hHs⟩ : ∃ z : Heap, z = s.heap := ⟨_, rfl⟩
  rw [← hHs] at hP ⊢
  have hS : va_S A s.heap H [] := by rw [hHs]; exact va_S.rf
  have hl : lv_has ls 1 [(0, .int (nI n))] := hl
  refine lv_iload_n hx hb dX3_needName_0 rfl (lv_at hl 0 rfl) ?_
  refine lv_iconst (v := 0) hx hb dX3_needName_1 (by decide) ?_
  refine lv_bipush (v := 63) hx hb dX3_needName_2 (by decide) ?_
  have hFc := va_free (wc := []) hD hS hA [] rfl
  refine zz_after (wr := []) (va_runS (As := [.int (nI n), .int 0, .int 63]) (rest := []) ⟨hx, hb, hml, hown, hts⟩ ((k_X3_needIn l D (nI n) 0 63 (nI_pos (by omega)) (show nI n ≤ nI 63 from nI_le (by omega) (by decide))) H.size) (va_cwS 3 hts gX3_needName_X3_needIn rfl rfl rfl (by decide +kernel) ⟨Nat.le_of_ble_eq_true rfl, Nat.le_of_ble_eq_true rfl⟩) (zz_pre (av := [.int (nI n), .int 0, .int 63]) (tyc := []) (wc := []) (X := fun _ _ => True) (Xc := (fun _ _ => True)) hP hD hK hS [] [] rfl (by decide) rfl zz_St_tt (fun _ _ _ => trivial)) rfl rfl hl.1 rfl (lv_room (Nat.le_of_ble_eq_true rfl)) dX3_needName_4 ⟨by show 0 + 0 ≤ 0; omega, by show 0 + 0 ≤ 0; omega⟩) hP hD hK hS hFc [] [] rfl rfl (by decide) (by decide) (fun v w1 ty1 H1 locs hq9 hz9 hk9 hP1 hD1 hK1 hS1 => ?_)
  obtain ⟨rfl, rfl, rfl⟩ := hq9
  clear hS hP hD hK hFc
  have hP : va_P D vwCl [] H1 := hP1
  have hD : va_D A [] := hD1
  have hK : va_K D vwCl [] s := hK1
  have hS := hS1
  clear hP1 hD1 hK1 hS1
  obtain ⟨H, rfl⟩ : ∃ z, z = H1 := ⟨_, rfl⟩
  refine W.eq (g2 := F0 mt0 7 ls []) rfl ?_
  have hP9 := hP.sub (ws' := []) [] rfl
  have hD9 := hD.sub (ws' := []) [] (by decide) rfl
  have hK9 := hK.sub (tys' := []) [] rfl
  refine W.widen (k := 0) (n := 0) (by show 0 + 0 ≤ 0; omega) (by show 0 + 0 ≤ 0; omega) ?_
  exact W.vret hx hb hr (zz_end hP9 hD9 hK9 hS (⟨rfl, rfl, rfl⟩)) hS.2.2 dX3_needName_7
set_option maxHeartbeats 4000000 in
set_option maxRecDepth 100000 in
theorem k_X3_needWorth (l : Launch) (D : va_G)  : zz_M l yX3_needWorth wsX3_needWorth ({ frames := 2, cells := 0, slots := 0, locals := 100 }) D [.int 99] [] [] (fun _ _ => True) (fun H0 H1 v w t => v = none ∧ w = [] ∧ t = []) := by
  refine zz_M.mk (cc := cX3_needWorth) (maxL := 1) (ret := none) (by decide) rfl (Nat.le_of_ble_eq_true rfl) ?_
  intro p0 e0 s mt0 bl0 meth0 cd0 ls hC hname hP hK hD hX hl
  obtain ⟨hx, hb, hml, hr, hown, hts, hlocks⟩ := hC
  generalize hAe : va_A [] s.heap.size = A at *
  have hA : ∀ q : Nat, s.heap.size ≤ q → A q := fun q h => by rw [← hAe]; exact Or.inr h
  obtain ⟨H, hHs⟩ : ∃ z : Heap, z = s.heap := ⟨_, rfl⟩
  rw [← hHs] at hP ⊢
  have hS : va_S A s.heap H [] := by rw [hHs]; exact va_S.rf
  have hl : lv_has ls 1 [(0, .int 99)] := hl
  refine lv_iload_n hx hb dX3_needWorth_0 rfl (lv_at hl 0 rfl) ?_
  refine lv_iconst (v := 0) hx hb dX3_needWorth_1 (by decide) ?_
  refine lv_bipush (v := 99) hx hb dX3_needWorth_2 (by decide) ?_
  have hFc := va_free (wc := []) hD hS hA [] rfl
  refine zz_after (wr := []) (va_runS (As := [.int 99, .int 0, .int 99]) (rest := []) ⟨hx, hb, hml, hown, hts⟩ ((k_X3_needIn l D 99 0 99 (by decide) (by decide)) H.size) (va_cwS 3 hts gX3_needWorth_X3_needIn rfl rfl rfl (by decide +kernel) ⟨Nat.le_of_ble_eq_true rfl, Nat.le_of_ble_eq_true rfl⟩) (zz_pre (av := [.int 99, .int 0, .int 99]) (tyc := []) (wc := []) (X := fun _ _ => True) (Xc := (fun _ _ => True)) hP hD hK hS [] [] rfl (by decide) rfl zz_St_tt (fun _ _ _ => trivial)) rfl rfl hl.1 rfl (lv_room (Nat.le_of_ble_eq_true rfl)) dX3_needWorth_4 ⟨by show 0 + 0 ≤ 0; omega, by show 0 + 0 ≤ 0; omega⟩) hP hD hK hS hFc [] [] rfl rfl (by decide) (by decide) (fun v w1 ty1 H1 locs hq9 hz9 hk9 hP1 hD1 hK1 hS1 => ?_)
  obtain ⟨rfl, rfl, rfl⟩ := hq9
  clear hS hP hD hK hFc
  have hP : va_P D vwCl [] H1 := hP1
  have hD : va_D A [] := hD1
  have hK : va_K D vwCl [] s := hK1
  have hS := hS1
  clear hP1 hD1 hK1 hS1
  obtain ⟨H, rfl⟩ : ∃ z, z = H1 := ⟨_, rfl⟩
  refine W.eq (g2 := F0 mt0 7 ls []) rfl ?_
  have hP9 := hP.sub (ws' := []) [] rfl
  have hD9 := hD.sub (ws' := []) [] (by decide) rfl
  have hK9 := hK.sub (tys' := []) [] rfl
  refine W.widen (k := 0) (n := 0) (by show 0 + 0 ≤ 0; omega) (by show 0 + 0 ≤ 0; omega) ?_
  exact W.vret hx hb hr (zz_end hP9 hD9 hK9 hS (⟨rfl, rfl, rfl⟩)) hS.2.2 dX3_needWorth_7
set_option maxHeartbeats 4000000 in
set_option maxRecDepth 100000 in
theorem k_X3_put (l : Launch) (D : va_G) (hh : Nat) (tA : Nat) (kn : Int32) (sp : Value) (rx : Value) (pb : Value) (pg : Value) (cB : ClassId) (T0 : Nat → Option Nat) (tb : Nat) (wo : Nat) (ti : Nat) (pn : Nat) (wk : Nat) (vw : Int32) (cW : ClassId) (g : Nat → Int32) (cT : ClassId) (tm : Nat → Int32) (wi : Int32) (w1 : Int32) (w2 : Int32) (w3 : Int32) (w4 : Int32) (n : Nat) (hT : T0 0 = some tb) (hn : n < 64) (hg : g n = -1) (hp : pn < 1000) : zz_M l yX3_put wsX3_put ({ frames := 4, cells := 0, slots := 0, locals := 240 }) D [.ref hh, .int 0, .int (nI n), .int 99] [(cB, .object "Hashladder$Table"), (cW, .int), (cT, .int)] [(hh, .inr (7, [.ref tA, .int kn, sp, rx, pb, pg])), (tA, .inl (cB, 4, .inr (.inr (.inr (.inr T0))))), (tb, .inr (5, [.ref wo, .ref ti, .int (nI pn), .ref wk, .int vw])), (wo, .inl (cW, 64, .inl g)), (ti, .inl (cT, 100, .inl tm)), (wk, .inr (6, [.int wi, .int w1, .int w2, .int w3, .int w4]))] (fun _ _ => True) (fun H0 H1 v w t => ∃ tm2 : Nat → Int32, v = some (.int (-1)) ∧ w = [(hh, .inr (7, [.ref tA, .int kn, sp, rx, pb, pg])), (tA, .inl (cB, 4, .inr (.inr (.inr (.inr T0))))), (tb, .inr (5, [.ref wo, .ref ti, .int (nI (pn + 1)), .ref wk, .int vw])), (wo, .inl (cW, 64, .inl (upd g n 99))), (ti, .inl (cT, 100, .inl tm2)), (wk, .inr (6, [.int 0, .int w1, .int w2, .int w3, .int w4]))] ∧ t = [(cB, .object "Hashladder$Table"), (cW, .int), (cT, .int)]) := by
  refine zz_M.mk (cc := cX3_put) (maxL := 5) (ret := (some .int)) (by decide) rfl (Nat.le_of_ble_eq_true rfl) ?_
  intro p0 e0 s mt0 bl0 meth0 cd0 ls hC hname hP hK hD hX hl
  obtain ⟨hx, hb, hml, hr, hown, hts, hlocks⟩ := hC
  generalize hAe : va_A [(hh, .inr (7, [.ref tA, .int kn, sp, rx, pb, pg])), (tA, .inl (cB, 4, .inr (.inr (.inr (.inr T0))))), (tb, .inr (5, [.ref wo, .ref ti, .int (nI pn), .ref wk, .int vw])), (wo, .inl (cW, 64, .inl g)), (ti, .inl (cT, 100, .inl tm)), (wk, .inr (6, [.int wi, .int w1, .int w2, .int w3, .int w4]))] s.heap.size = A at *
  have hA : ∀ q : Nat, s.heap.size ≤ q → A q := fun q h => by rw [← hAe]; exact Or.inr h
  obtain ⟨H, hHs⟩ : ∃ z : Heap, z = s.heap := ⟨_, rfl⟩
  rw [← hHs] at hP ⊢
  have hS : va_S A s.heap H [] := by rw [hHs]; exact va_S.rf
  have hl : lv_has ls 5 [(0, .ref hh), (1, .int 0), (2, .int (nI n)), (3, .int 99)] := hl
  refine lv_aload_n hx hb dX3_put_0 rfl (lv_at hl 0 rfl) ?_
  refine lv_iload_n hx hb dX3_put_1 rfl (lv_at hl 1 rfl) ?_
  have hFc := va_free (wc := [(hh, .inr (7, [.ref tA, .int kn, sp, rx, pb, pg])), (tA, .inl (cB, 4, .inr (.inr (.inr (.inr T0)))))]) hD hS hA [0, 1] rfl
  refine zz_after (wr := [(tb, .inr (5, [.ref wo, .ref ti, .int (nI pn), .ref wk, .int vw])), (wo, .inl (cW, 64, .inl g)), (ti, .inl (cT, 100, .inl tm)), (wk, .inr (6, [.int wi, .int w1, .int w2, .int w3, .int w4]))]) (va_runV (As := [.int 0]) (rest := []) ⟨hx, hb, hml, hown, hts⟩ ((k_X3_tableAt l D hh tA kn sp rx pb pg cB T0 tb (hT)) H.size) (cwV 1 hts gX3_put_X3_tableAt rfl rfl rfl (by decide +kernel) ⟨Nat.le_of_ble_eq_true rfl, Nat.le_of_ble_eq_true rfl⟩) (zz_pV (zz_pre (av := [.ref hh, .int 0]) (tyc := [(cB, .object "Hashladder$Table")]) (wc := [(hh, .inr (7, [.ref tA, .int kn, sp, rx, pb, pg])), (tA, .inl (cB, 4, .inr (.inr (.inr (.inr T0)))))]) (X := fun _ _ => True) (Xc := (fun _ _ => True)) hP hD hK hS [0, 1] [0] rfl (by decide) rfl zz_St_tt (fun _ _ _ => trivial)) (va_recv hK hP (ci := 7) (q0 := 0) rfl rfl)) rfl rfl hl.1 rfl (lv_room (Nat.le_of_ble_eq_true rfl)) dX3_put_2 ⟨by show 0 + 0 ≤ 0; omega, by show 0 + 0 ≤ 0; omega⟩) hP hD hK hS hFc [0, 1] [2, 3, 4, 5] rfl rfl (by decide) (by decide) (fun v w1 ty1 H1 locs hq9 hz9 hk9 hP1 hD1 hK1 hS1 => ?_)
  obtain ⟨rfl, rfl, rfl⟩ := hq9
  clear hS hP hD hK hFc
  have hP : va_P D vwCl [(tb, .inr (5, [.ref wo, .ref ti, .int (nI pn), .ref wk, .int vw])), (wo, .inl (cW, 64, .inl g)), (ti, .inl (cT, 100, .inl tm)), (wk, .inr (6, [.int wi, .int w1, .int w2, .int w3, .int w4])), (hh, .inr (7, [.ref tA, .int kn, sp, rx, pb, pg])), (tA, .inl (cB, 4, .inr (.inr (.inr (.inr T0)))))] H1 := hP1
  have hD : va_D A [(tb, .inr (5, [.ref wo, .ref ti, .int (nI pn), .ref wk, .int vw])), (wo, .inl (cW, 64, .inl g)), (ti, .inl (cT, 100, .inl tm)), (wk, .inr (6, [.int wi, .int w1, .int w2, .int w3, .int w4])), (hh, .inr (7, [.ref tA, .int kn, sp, rx, pb, pg])), (tA, .inl (cB, 4, .inr (.inr (.inr (.inr T0)))))] := hD1
  have hK : va_K D vwCl [(cB, .object "Hashladder$Table"), (cW, .int), (cT, .int), (cB, .object "Hashladder$Table")] s := hK1
  have hS := hS1
  clear hP1 hD1 hK1 hS1
  obtain ⟨H, rfl⟩ : ∃ z, z = H1 := ⟨_, rfl⟩
  refine W.eq (g2 := F0 mt0 5 ls [.ref tb]) rfl ?_
  refine lv_astore (lv' := [(4, .ref tb), (0, .ref hh), (1, .int 0), (2, .int (nI n)), (3, .int 99)]) hx hb dX3_put_5 hl (by decide) rfl (fun ls hl => ?_)
  refine lv_iload_n hx hb dX3_put_7 rfl (lv_at hl 3 rfl) ?_
  have hFc := va_free (wc := []) hD hS hA [] rfl
  refine zz_after (wr := [(tb, .inr (5, [.ref wo, .ref ti, .int (nI pn), .ref wk, .int vw])), (wo, .inl (cW, 64, .inl g)), (ti, .inl (cT, 100, .inl tm)), (wk, .inr (6, [.int wi, .int w1, .int w2, .int w3, .int w4])), (hh, .inr (7, [.ref tA, .int kn, sp, rx, pb, pg])), (tA, .inl (cB, 4, .inr (.inr (.inr (.inr T0)))))]) (va_runS (As := [.int (nI n)]) (rest := []) ⟨hx, hb, hml, hown, hts⟩ ((k_X3_needName l D n (hn)) H.size) (va_cwS 1 hts gX3_put_X3_needName rfl rfl rfl (by decide +kernel) ⟨Nat.le_of_ble_eq_true rfl, Nat.le_of_ble_eq_true rfl⟩) (zz_pre (av := [.int (nI n)]) (tyc := []) (wc := []) (X := fun _ _ => True) (Xc := (fun _ _ => True)) hP hD hK hS [] [] rfl (by decide) rfl zz_St_tt (fun _ _ _ => trivial)) rfl rfl hl.1 rfl (lv_room (Nat.le_of_ble_eq_true rfl)) dX3_put_8 ⟨by show 0 + 0 + 0 ≤ 0; omega, by show 0 + 0 + 0 ≤ 0; omega⟩) hP hD hK hS hFc [] [0, 1, 2, 3, 4, 5] rfl rfl (by decide) (by decide) (fun v w1 ty1 H1 locs hq9 hz9 hk9 hP1 hD1 hK1 hS1 => ?_)
  obtain ⟨rfl, rfl, rfl⟩ := hq9
  clear hS hP hD hK hFc
  have hP : va_P D vwCl [(tb, .inr (5, [.ref wo, .ref ti, .int (nI pn), .ref wk, .int vw])), (wo, .inl (cW, 64, .inl g)), (ti, .inl (cT, 100, .inl tm)), (wk, .inr (6, [.int wi, .int w1, .int w2, .int w3, .int w4])), (hh, .inr (7, [.ref tA, .int kn, sp, rx, pb, pg])), (tA, .inl (cB, 4, .inr (.inr (.inr (.inr T0)))))] H1 := hP1
  have hD : va_D A [(tb, .inr (5, [.ref wo, .ref ti, .int (nI pn), .ref wk, .int vw])), (wo, .inl (cW, 64, .inl g)), (ti, .inl (cT, 100, .inl tm)), (wk, .inr (6, [.int wi, .int w1, .int w2, .int w3, .int w4])), (hh, .inr (7, [.ref tA, .int kn, sp, rx, pb, pg])), (tA, .inl (cB, 4, .inr (.inr (.inr (.inr T0)))))] := hD1
  have hK : va_K D vwCl [(cB, .object "Hashladder$Table"), (cW, .int), (cT, .int), (cB, .object "Hashladder$Table")] s := hK1
  have hS := hS1
  clear hP1 hD1 hK1 hS1
  obtain ⟨H, rfl⟩ : ∃ z, z = H1 := ⟨_, rfl⟩
  refine W.eq (g2 := F0 mt0 11 ls []) rfl ?_
  refine lv_iload_n hx hb dX3_put_11 rfl (lv_at hl 4 rfl) ?_
  have hFc := va_free (wc := []) hD hS hA [] rfl
  refine zz_after (wr := [(tb, .inr (5, [.ref wo, .ref ti, .int (nI pn), .ref wk, .int vw])), (wo, .inl (cW, 64, .inl g)), (ti, .inl (cT, 100, .inl tm)), (wk, .inr (6, [.int wi, .int w1, .int w2, .int w3, .int w4])), (hh, .inr (7, [.ref tA, .int kn, sp, rx, pb, pg])), (tA, .inl (cB, 4, .inr (.inr (.inr (.inr T0)))))]) (va_runS (As := [.int 99]) (rest := []) ⟨hx, hb, hml, hown, hts⟩ ((k_X3_needWorth l D ) H.size) (va_cwS 1 hts gX3_put_X3_needWorth rfl rfl rfl (by decide +kernel) ⟨Nat.le_of_ble_eq_true rfl, Nat.le_of_ble_eq_true rfl⟩) (zz_pre (av := [.int 99]) (tyc := []) (wc := []) (X := fun _ _ => True) (Xc := (fun _ _ => True)) hP hD hK hS [] [] rfl (by decide) rfl zz_St_tt (fun _ _ _ => trivial)) rfl rfl hl.1 rfl (lv_room (Nat.le_of_ble_eq_true rfl)) dX3_put_12 ⟨by show 0 + 0 + 0 + 0 ≤ 0; omega, by show 0 + 0 + 0 + 0 ≤ 0; omega⟩) hP hD hK hS hFc [] [0, 1, 2, 3, 4, 5] rfl rfl (by decide) (by decide) (fun v w1 ty1 H1 locs hq9 hz9 hk9 hP1 hD1 hK1 hS1 => ?_)
  obtain ⟨rfl, rfl, rfl⟩ := hq9
  clear hS hP hD hK hFc
  have hP : va_P D vwCl [(tb, .inr (5, [.ref wo, .ref ti, .int (nI pn), .ref wk, .int vw])), (wo, .inl (cW, 64, .inl g)), (ti, .inl (cT, 100, .inl tm)), (wk, .inr (6, [.int wi, .int w1, .int w2, .int w3, .int w4])), (hh, .inr (7, [.ref tA, .int kn, sp, rx, pb, pg])), (tA, .inl (cB, 4, .inr (.inr (.inr (.inr T0)))))] H1 := hP1
  have hD : va_D A [(tb, .inr (5, [.ref wo, .ref ti, .int (nI pn), .ref wk, .int vw])), (wo, .inl (cW, 64, .inl g)), (ti, .inl (cT, 100, .inl tm)), (wk, .inr (6, [.int wi, .int w1, .int w2, .int w3, .int w4])), (hh, .inr (7, [.ref tA, .int kn, sp, rx, pb, pg])), (tA, .inl (cB, 4, .inr (.inr (.inr (.inr T0)))))] := hD1
  have hK : va_K D vwCl [(cB, .object "Hashladder$Table"), (cW, .int), (cT, .int), (cB, .object "Hashladder$Table")] s := hK1
  have hS := hS1
  clear hP1 hD1 hK1 hS1
  obtain ⟨H, rfl⟩ : ∃ z, z = H1 := ⟨_, rfl⟩
  refine W.eq (g2 := F0 mt0 15 ls []) rfl ?_
  refine lv_aload hx hb dX3_put_15 (lv_at hl 0 rfl) ?_
  have hFc := va_free (wc := [(tb, .inr (5, [.ref wo, .ref ti, .int (nI pn), .ref wk, .int vw])), (wk, .inr (6, [.int wi, .int w1, .int w2, .int w3, .int w4]))]) hD hS hA [0, 3] rfl
  refine zz_after (wr := [(wo, .inl (cW, 64, .inl g)), (ti, .inl (cT, 100, .inl tm)), (hh, .inr (7, [.ref tA, .int kn, sp, rx, pb, pg])), (tA, .inl (cB, 4, .inr (.inr (.inr (.inr T0)))))]) (va_runV (As := []) (rest := []) ⟨hx, hb, hml, hown, hts⟩ ((k_X1_tell l D tb wo ti pn wk vw cW g wi w1 w2 w3 w4) H.size) (cwV 0 hts gX3_put_X1_tell rfl rfl rfl (by decide +kernel) ⟨Nat.le_of_ble_eq_true rfl, Nat.le_of_ble_eq_true rfl⟩) (zz_pV (zz_pre (av := [.ref tb]) (tyc := []) (wc := [(tb, .inr (5, [.ref wo, .ref ti, .int (nI pn), .ref wk, .int vw])), (wk, .inr (6, [.int wi, .int w1, .int w2, .int w3, .int w4]))]) (X := fun _ _ => True) (Xc := (fun _ _ => True)) hP hD hK hS [0, 3] [] rfl (by decide) rfl zz_St_tt (fun _ _ _ => trivial)) (va_recv hK hP (ci := 5) (q0 := 0) rfl rfl)) rfl rfl hl.1 rfl (lv_room (Nat.le_of_ble_eq_true rfl)) dX3_put_17 ⟨by show 0 + 0 + 0 + 0 + 0 ≤ 0; omega, by show 0 + 0 + 0 + 0 + 0 ≤ 0; omega⟩) hP hD hK hS hFc [0, 3] [1, 2, 4, 5] rfl rfl (by decide) (by decide) (fun v w1 ty1 H1 locs hq9 hz9 hk9 hP1 hD1 hK1 hS1 => ?_)
  obtain ⟨rfl, rfl, rfl⟩ := hq9
  clear hS hP hD hK hFc
  have hP : va_P D vwCl [(wo, .inl (cW, 64, .inl g)), (ti, .inl (cT, 100, .inl tm)), (hh, .inr (7, [.ref tA, .int kn, sp, rx, pb, pg])), (tA, .inl (cB, 4, .inr (.inr (.inr (.inr T0))))), (tb, .inr (5, [.ref wo, .ref ti, .int (nI pn), .ref wk, .int vw])), (wk, .inr (6, [.int 0, .int w1, .int w2, .int w3, .int w4]))] H1 := hP1
  have hD : va_D A [(wo, .inl (cW, 64, .inl g)), (ti, .inl (cT, 100, .inl tm)), (hh, .inr (7, [.ref tA, .int kn, sp, rx, pb, pg])), (tA, .inl (cB, 4, .inr (.inr (.inr (.inr T0))))), (tb, .inr (5, [.ref wo, .ref ti, .int (nI pn), .ref wk, .int vw])), (wk, .inr (6, [.int 0, .int w1, .int w2, .int w3, .int w4]))] := hD1
  have hK : va_K D vwCl [(cB, .object "Hashladder$Table"), (cW, .int), (cT, .int), (cB, .object "Hashladder$Table")] s := hK1
  have hS := hS1
  clear hP1 hD1 hK1 hS1
  obtain ⟨H, rfl⟩ : ∃ z, z = H1 := ⟨_, rfl⟩
  refine W.eq (g2 := F0 mt0 20 ls []) rfl ?_
  refine lv_aload hx hb dX3_put_20 (lv_at hl 0 rfl) ?_
  refine lv_iload_n hx hb dX3_put_22 rfl (lv_at hl 3 rfl) ?_
  refine lv_iload_n hx hb dX3_put_23 rfl (lv_at hl 4 rfl) ?_
  have hFc := va_free (wc := [(tb, .inr (5, [.ref wo, .ref ti, .int (nI pn), .ref wk, .int vw])), (wo, .inl (cW, 64, .inl g)), (ti, .inl (cT, 100, .inl tm))]) hD hS hA [4, 0, 1] rfl
  refine zz_after (wr := [(hh, .inr (7, [.ref tA, .int kn, sp, rx, pb, pg])), (tA, .inl (cB, 4, .inr (.inr (.inr (.inr T0))))), (wk, .inr (6, [.int 0, .int w1, .int w2, .int w3, .int w4]))]) (va_runV (As := [.int (nI n), .int 99]) (rest := []) ⟨hx, hb, hml, hown, hts⟩ ((k_X1_lay l D tb wo ti pn wk vw cW g cT tm n (hn) (hg) (hp)) H.size) (cwV 2 hts gX3_put_X1_lay rfl rfl rfl (by decide +kernel) ⟨Nat.le_of_ble_eq_true rfl, Nat.le_of_ble_eq_true rfl⟩) (zz_pV (zz_pre (av := [.ref tb, .int (nI n), .int 99]) (tyc := [(cW, .int), (cT, .int)]) (wc := [(tb, .inr (5, [.ref wo, .ref ti, .int (nI pn), .ref wk, .int vw])), (wo, .inl (cW, 64, .inl g)), (ti, .inl (cT, 100, .inl tm))]) (X := fun _ _ => True) (Xc := (fun _ _ => True)) hP hD hK hS [4, 0, 1] [1, 2] rfl (by decide) rfl zz_St_tt (fun _ _ _ => trivial)) (va_recv hK hP (ci := 5) (q0 := 4) rfl rfl)) rfl rfl hl.1 rfl (lv_room (Nat.le_of_ble_eq_true rfl)) dX3_put_24 ⟨by show 0 + 0 + 0 + 0 + 0 + 0 ≤ 0; omega, by show 0 + 0 + 0 + 0 + 0 + 0 ≤ 0; omega⟩) hP hD hK hS hFc [4, 0, 1] [2, 3, 5] rfl rfl (by decide) (by decide) (fun v w1 ty1 H1 locs hq9 hz9 hk9 hP1 hD1 hK1 hS1 => ?_)
  obtain ⟨tm2_1, rfl, rfl, rfl⟩ := hq9
  clear hS hP hD hK hFc
  have hP : va_P D vwCl [(hh, .inr (7, [.ref tA, .int kn, sp, rx, pb, pg])), (tA, .inl (cB, 4, .inr (.inr (.inr (.inr T0))))), (wk, .inr (6, [.int 0, .int w1, .int w2, .int w3, .int w4])), (tb, .inr (5, [.ref wo, .ref ti, .int (nI (pn + 1)), .ref wk, .int vw])), (wo, .inl (cW, 64, .inl (upd g n 99))), (ti, .inl (cT, 100, .inl tm2_1))] H1 := hP1
  have hD : va_D A [(hh, .inr (7, [.ref tA, .int kn, sp, rx, pb, pg])), (tA, .inl (cB, 4, .inr (.inr (.inr (.inr T0))))), (wk, .inr (6, [.int 0, .int w1, .int w2, .int w3, .int w4])), (tb, .inr (5, [.ref wo, .ref ti, .int (nI (pn + 1)), .ref wk, .int vw])), (wo, .inl (cW, 64, .inl (upd g n 99))), (ti, .inl (cT, 100, .inl tm2_1))] := hD1
  have hK : va_K D vwCl [(cB, .object "Hashladder$Table"), (cW, .int), (cT, .int), (cB, .object "Hashladder$Table"), (cW, .int), (cT, .int)] s := hK1
  have hS := hS1
  clear hP1 hD1 hK1 hS1
  obtain ⟨H, rfl⟩ : ∃ z, z = H1 := ⟨_, rfl⟩
  refine W.eq (g2 := F0 mt0 27 ls [.int (-1)]) rfl ?_
  have hP9 := hP.sub (ws' := [(hh, .inr (7, [.ref tA, .int kn, sp, rx, pb, pg])), (tA, .inl (cB, 4, .inr (.inr (.inr (.inr T0))))), (tb, .inr (5, [.ref wo, .ref ti, .int (nI (pn + 1)), .ref wk, .int vw])), (wo, .inl (cW, 64, .inl (upd g n 99))), (ti, .inl (cT, 100, .inl tm2_1)), (wk, .inr (6, [.int 0, .int w1, .int w2, .int w3, .int w4]))]) [0, 1, 3, 4, 5, 2] rfl
  have hD9 := hD.sub (ws' := [(hh, .inr (7, [.ref tA, .int kn, sp, rx, pb, pg])), (tA, .inl (cB, 4, .inr (.inr (.inr (.inr T0))))), (tb, .inr (5, [.ref wo, .ref ti, .int (nI (pn + 1)), .ref wk, .int vw])), (wo, .inl (cW, 64, .inl (upd g n 99))), (ti, .inl (cT, 100, .inl tm2_1)), (wk, .inr (6, [.int 0, .int w1, .int w2, .int w3, .int w4]))]) [0, 1, 3, 4, 5, 2] (by decide) rfl
  have hK9 := hK.sub (tys' := [(cB, .object "Hashladder$Table"), (cW, .int), (cT, .int)]) [0, 1, 2] rfl
  refine W.widen (k := 0) (n := 0) (by show 0 + 0 + 0 + 0 + 0 + 0 ≤ 0; omega) (by show 0 + 0 + 0 + 0 + 0 + 0 ≤ 0; omega) ?_
  exact W.iret (v := -1) hx hb hr (zz_end hP9 hD9 hK9 hS (⟨_, rfl, rfl, rfl⟩)) hS.2.2 dX3_put_27
set_option maxHeartbeats 4000000 in
set_option maxRecDepth 100000 in
theorem rw_A {p0 : Program} {l : Launch} {e0 : Env} {s : State} {mt0 : MethodId} {args : Array Value} {bl0 : List Frame} {meth0 : Method} {cd0 : Code} {Q : State → Prop} {A : Nat → Prop} {H : Heap} {locs : List Loc} {ls : Array Slot} (D : va_G) (tb : Nat) (wo : Nat) (ti : Nat) (pn : Nat) (wk : Nat) (vw : Int32) (cW : ClassId) (g : Nat → Int32) (k : Nat) (hC : zz_C p0 s mt0 meth0 cd0 args RX1 cX1_reckonWidth 4 (some .int) wsX1_reckonWidth)  (hA : ∀ q, s.heap.size ≤ q → A q) (hK : va_K D vwCl [(cW, .int)] s) (hP : va_P D vwCl [(tb, .inr (5, [.ref wo, .ref ti, .int (nI pn), .ref wk, .int vw])), (wo, .inl (cW, 64, .inl g))] H) (hD : va_D A [(tb, .inr (5, [.ref wo, .ref ti, .int (nI pn), .ref wk, .int vw])), (wo, .inl (cW, 64, .inl g))]) (hS : va_S A s.heap H locs) (hl : lv_has ls 4 [(2, .int (nI k)), (1, .int (nI 2)), (0, .ref tb)]) (hg1 : ∀ n, n < 10 → g n = -1) (hg2 : ∀ n, 10 ≤ n → n < 64 → g n = 99) (hk : k < 10) (kk : ∀ (H' : Heap) (locs' : List Loc) (ls' : Array Slot), va_K D vwCl [(cW, .int)] s → va_P D vwCl [(tb, .inr (5, [.ref wo, .ref ti, .int (nI pn), .ref wk, .int vw])), (wo, .inl (cW, 64, .inl g))] H' → va_D A [(tb, .inr (5, [.ref wo, .ref ti, .int (nI pn), .ref wk, .int vw])), (wo, .inl (cW, 64, .inl g))] → va_S A s.heap H' locs' → lv_has ls' 4 [(2, .int (nI (k + 1))), (1, .int (nI 2)), (0, .ref tb)] → W p0 l e0 ({ frames := 2, cells := 0, slots := 0, locals := 140 } : Room) s mt0 args bl0 meth0 cd0 H' locs' (0) (0) Q (F0 mt0 4 ls' [])) : W p0 l e0 ({ frames := 2, cells := 0, slots := 0, locals := 140 } : Room) s mt0 args bl0 meth0 cd0 H locs (0) (0) Q (F0 mt0 4 ls []) := by
  obtain ⟨hx, hb, hml, hr, hown, hts, hlocks⟩ := hC
  refine lv_iload_n hx hb dX1_reckonWidth_4 rfl (lv_at hl 0 rfl) ?_
  refine lv_bipush (v := 64) hx hb dX1_reckonWidth_5 (by decide) ?_
  refine lv_icmp_ge (tgt := 41) hx hb dX1_reckonWidth_7 (by decide) (fun c_1 => absurd c_1 (show ¬ nI 64 ≤ nI k from nI_ge (by omega) (by decide))) (fun c_1 => ?_)
  refine lv_aload_n hx hb dX1_reckonWidth_10 rfl (lv_at hl 2 rfl) ?_
  refine lv_iload_n hx hb dX1_reckonWidth_11 rfl (lv_at hl 0 rfl) ?_
  have hFc := va_free (wc := [(tb, .inr (5, [.ref wo, .ref ti, .int (nI pn), .ref wk, .int vw])), (wo, .inl (cW, 64, .inl g))]) hD hS hA [0, 1] rfl
  refine zz_after (wr := []) (va_runV (As := [.int (nI k)]) (rest := []) ⟨hx, hb, hml, hown, hts⟩ ((k_X1_worthAt l D tb wo ti pn wk vw cW g k (by omega)) H.size) (cwV 1 hts gX1_reckonWidth_X1_worthAt rfl rfl rfl (by decide +kernel) ⟨Nat.le_of_ble_eq_true rfl, Nat.le_of_ble_eq_true rfl⟩) (zz_pV (zz_pre (av := [.ref tb, .int (nI k)]) (tyc := [(cW, .int)]) (wc := [(tb, .inr (5, [.ref wo, .ref ti, .int (nI pn), .ref wk, .int vw])), (wo, .inl (cW, 64, .inl g))]) (X := fun _ _ => True) (Xc := (fun _ _ => True)) hP hD hK hS [0, 1] [0] rfl (by decide) rfl zz_St_tt (fun _ _ _ => trivial)) (va_recv hK hP (ci := 5) (q0 := 0) rfl rfl)) rfl rfl hl.1 rfl (lv_room (Nat.le_of_ble_eq_true rfl)) dX1_reckonWidth_12 ⟨by show 0 + 0 ≤ 0; omega, by show 0 + 0 ≤ 0; omega⟩) hP hD hK hS hFc [0, 1] [] rfl rfl (by decide) (by decide) (fun v w1 ty1 H1 locs hq9 hz9 hk9 hP1 hD1 hK1 hS1 => ?_)
  obtain ⟨rfl, rfl, rfl⟩ := hq9
  clear hS hP hD hK hFc
  have hP : va_P D vwCl [(tb, .inr (5, [.ref wo, .ref ti, .int (nI pn), .ref wk, .int vw])), (wo, .inl (cW, 64, .inl g))] H1 := hP1
  have hD : va_D A [(tb, .inr (5, [.ref wo, .ref ti, .int (nI pn), .ref wk, .int vw])), (wo, .inl (cW, 64, .inl g))] := hD1
  have hK : va_K D vwCl [(cW, .int), (cW, .int)] s := hK1
  have hS := hS1
  clear hP1 hD1 hK1 hS1
  obtain ⟨H, rfl⟩ : ∃ z, z = H1 := ⟨_, rfl⟩
  refine W.eq (g2 := F0 mt0 15 ls [.int (g k)]) rfl ?_
  rw [hg1 k hk]
  refine lv_istore_n (lv' := [(3, .int (-1)), (2, .int (nI k)), (1, .int (nI 2)), (0, .ref tb)]) hx hb dX1_reckonWidth_15 rfl hl (by decide) rfl (fun ls hl => ?_)
  refine lv_iload_n hx hb dX1_reckonWidth_16 rfl (lv_at hl 0 rfl) ?_
  refine lv_iconst (v := (-1)) hx hb dX1_reckonWidth_17 (by decide) ?_
  refine lv_icmp_eq (tgt := 35) hx hb dX1_reckonWidth_18 (by decide) (fun c_2 => ?_) (fun c_2 => absurd (rfl) c_2)
  refine lv_iinc (v := (nI (k + 1))) (lv' := [(2, .int (nI (k + 1))), (3, .int (-1)), (1, .int (nI 2)), (0, .ref tb)]) hx hb dX1_reckonWidth_35 hl (k := 1) rfl (nI_1 k) (by decide) rfl (fun ls hl => ?_)
  refine lv_goto (tgt := 4) hx hb dX1_reckonWidth_38 (by decide) ?_
  exact kk _ _ _ (hK.sub [0] rfl) (hP.sub [0, 1] rfl) (hD.sub [0, 1] (by decide) rfl) hS (lv_sub hl [0, 2, 3] rfl)
set_option maxHeartbeats 4000000 in
theorem rw_As {p0 : Program} {l : Launch} {e0 : Env} {s : State} {mt0 : MethodId} {args : Array Value} {bl0 : List Frame} {meth0 : Method} {cd0 : Code} {Q : State → Prop} {A : Nat → Prop} (D : va_G) (tb : Nat) (wo : Nat) (ti : Nat) (pn : Nat) (wk : Nat) (vw : Int32) (cW : ClassId) (g : Nat → Int32) (hC : zz_C p0 s mt0 meth0 cd0 args RX1 cX1_reckonWidth 4 (some .int) wsX1_reckonWidth)  (hA : ∀ q, s.heap.size ≤ q → A q) (hK : va_K D vwCl [(cW, .int)] s) (hg1 : ∀ n, n < 10 → g n = -1) (hg2 : ∀ n, 10 ≤ n → n < 64 → g n = 99) (kk : ∀ (H : Heap) (locs : List Loc) (ls : Array Slot), va_P D vwCl [(tb, .inr (5, [.ref wo, .ref ti, .int (nI pn), .ref wk, .int vw])), (wo, .inl (cW, 64, .inl g))] H → va_D A [(tb, .inr (5, [.ref wo, .ref ti, .int (nI pn), .ref wk, .int vw])), (wo, .inl (cW, 64, .inl g))] → va_S A s.heap H locs → lv_has ls 4 [(2, .int (nI 10)), (1, .int (nI 2)), (0, .ref tb)] → W p0 l e0 ({ frames := 2, cells := 0, slots := 0, locals := 140 } : Room) s mt0 args bl0 meth0 cd0 H locs 0 0 Q (F0 mt0 4 ls [])) : ∀ (n k : Nat), k + n = 10 → ∀ (H : Heap) (locs : List Loc) (ls : Array Slot), va_P D vwCl [(tb, .inr (5, [.ref wo, .ref ti, .int (nI pn), .ref wk, .int vw])), (wo, .inl (cW, 64, .inl g))] H → va_D A [(tb, .inr (5, [.ref wo, .ref ti, .int (nI pn), .ref wk, .int vw])), (wo, .inl (cW, 64, .inl g))] → va_S A s.heap H locs → lv_has ls 4 [(2, .int (nI k)), (1, .int (nI 2)), (0, .ref tb)] → W p0 l e0 ({ frames := 2, cells := 0, slots := 0, locals := 140 } : Room) s mt0 args bl0 meth0 cd0 H locs 0 0 Q (F0 mt0 4 ls []) := by
  intro n
  induction n with
  | zero => intro k hk H locs ls hP hD hS hl
            obtain rfl : k = 10 := by omega
            exact kk H locs ls hP hD hS hl
  | succ n ih => intro k hk H locs ls hP hD hS hl
                 exact rw_A D tb wo ti pn wk vw cW g k hC hA hK hP hD hS hl hg1 hg2 (by omega) (fun H' locs' ls' _ hP' hD' hS' hl' => ih (k + 1) (by omega) H' locs' ls' hP' hD' hS' hl')
set_option maxHeartbeats 4000000 in
set_option maxRecDepth 100000 in
theorem rw_B {p0 : Program} {l : Launch} {e0 : Env} {s : State} {mt0 : MethodId} {args : Array Value} {bl0 : List Frame} {meth0 : Method} {cd0 : Code} {Q : State → Prop} {A : Nat → Prop} {H : Heap} {locs : List Loc} {ls : Array Slot} (D : va_G) (tb : Nat) (wo : Nat) (ti : Nat) (pn : Nat) (wk : Nat) (vw : Int32) (cW : ClassId) (g : Nat → Int32) (k : Nat) (hC : zz_C p0 s mt0 meth0 cd0 args RX1 cX1_reckonWidth 4 (some .int) wsX1_reckonWidth)  (hA : ∀ q, s.heap.size ≤ q → A q) (hK : va_K D vwCl [(cW, .int)] s) (hP : va_P D vwCl [(tb, .inr (5, [.ref wo, .ref ti, .int (nI pn), .ref wk, .int vw])), (wo, .inl (cW, 64, .inl g))] H) (hD : va_D A [(tb, .inr (5, [.ref wo, .ref ti, .int (nI pn), .ref wk, .int vw])), (wo, .inl (cW, 64, .inl g))]) (hS : va_S A s.heap H locs) (hl : lv_has ls 4 [(2, .int (nI (10 + k))), (1, .int (nI (2 + 5 * k))), (0, .ref tb)]) (hg1 : ∀ n, n < 10 → g n = -1) (hg2 : ∀ n, 10 ≤ n → n < 64 → g n = 99) (hk : k < 54) (kk : ∀ (H' : Heap) (locs' : List Loc) (ls' : Array Slot), va_K D vwCl [(cW, .int)] s → va_P D vwCl [(tb, .inr (5, [.ref wo, .ref ti, .int (nI pn), .ref wk, .int vw])), (wo, .inl (cW, 64, .inl g))] H' → va_D A [(tb, .inr (5, [.ref wo, .ref ti, .int (nI pn), .ref wk, .int vw])), (wo, .inl (cW, 64, .inl g))] → va_S A s.heap H' locs' → lv_has ls' 4 [(2, .int (nI (10 + (k + 1)))), (1, .int (nI (2 + 5 * (k + 1)))), (0, .ref tb)] → W p0 l e0 ({ frames := 2, cells := 0, slots := 0, locals := 140 } : Room) s mt0 args bl0 meth0 cd0 H' locs' (0) (0) Q (F0 mt0 4 ls' [])) : W p0 l e0 ({ frames := 2, cells := 0, slots := 0, locals := 140 } : Room) s mt0 args bl0 meth0 cd0 H locs (0) (0) Q (F0 mt0 4 ls []) := by
  obtain ⟨hx, hb, hml, hr, hown, hts, hlocks⟩ := hC
  refine lv_iload_n hx hb dX1_reckonWidth_4 rfl (lv_at hl 0 rfl) ?_
  refine lv_bipush (v := 64) hx hb dX1_reckonWidth_5 (by decide) ?_
  refine lv_icmp_ge (tgt := 41) hx hb dX1_reckonWidth_7 (by decide) (fun c_1 => absurd c_1 (show ¬ nI 64 ≤ nI (10 + k) from nI_ge (by omega) (by decide))) (fun c_1 => ?_)
  refine lv_aload_n hx hb dX1_reckonWidth_10 rfl (lv_at hl 2 rfl) ?_
  refine lv_iload_n hx hb dX1_reckonWidth_11 rfl (lv_at hl 0 rfl) ?_
  have hFc := va_free (wc := [(tb, .inr (5, [.ref wo, .ref ti, .int (nI pn), .ref wk, .int vw])), (wo, .inl (cW, 64, .inl g))]) hD hS hA [0, 1] rfl
  refine zz_after (wr := []) (va_runV (As := [.int (nI (10 + k))]) (rest := []) ⟨hx, hb, hml, hown, hts⟩ ((k_X1_worthAt l D tb wo ti pn wk vw cW g (10 + k) (by omega)) H.size) (cwV 1 hts gX1_reckonWidth_X1_worthAt rfl rfl rfl (by decide +kernel) ⟨Nat.le_of_ble_eq_true rfl, Nat.le_of_ble_eq_true rfl⟩) (zz_pV (zz_pre (av := [.ref tb, .int (nI (10 + k))]) (tyc := [(cW, .int)]) (wc := [(tb, .inr (5, [.ref wo, .ref ti, .int (nI pn), .ref wk, .int vw])), (wo, .inl (cW, 64, .inl g))]) (X := fun _ _ => True) (Xc := (fun _ _ => True)) hP hD hK hS [0, 1] [0] rfl (by decide) rfl zz_St_tt (fun _ _ _ => trivial)) (va_recv hK hP (ci := 5) (q0 := 0) rfl rfl)) rfl rfl hl.1 rfl (lv_room (Nat.le_of_ble_eq_true rfl)) dX1_reckonWidth_12 ⟨by show 0 + 0 ≤ 0; omega, by show 0 + 0 ≤ 0; omega⟩) hP hD hK hS hFc [0, 1] [] rfl rfl (by decide) (by decide) (fun v w1 ty1 H1 locs hq9 hz9 hk9 hP1 hD1 hK1 hS1 => ?_)
  obtain ⟨rfl, rfl, rfl⟩ := hq9
  clear hS hP hD hK hFc
  have hP : va_P D vwCl [(tb, .inr (5, [.ref wo, .ref ti, .int (nI pn), .ref wk, .int vw])), (wo, .inl (cW, 64, .inl g))] H1 := hP1
  have hD : va_D A [(tb, .inr (5, [.ref wo, .ref ti, .int (nI pn), .ref wk, .int vw])), (wo, .inl (cW, 64, .inl g))] := hD1
  have hK : va_K D vwCl [(cW, .int), (cW, .int)] s := hK1
  have hS := hS1
  clear hP1 hD1 hK1 hS1
  obtain ⟨H, rfl⟩ : ∃ z, z = H1 := ⟨_, rfl⟩
  refine W.eq (g2 := F0 mt0 15 ls [.int (g (10 + k))]) rfl ?_
  rw [hg2 (10 + k) (by omega) (by omega)]
  refine W.eq (g2 := F0 mt0 15 ls [.int (nI 99)]) rfl ?_
  refine lv_istore_n (lv' := [(3, .int (nI 99)), (2, .int (nI (10 + k))), (1, .int (nI (2 + 5 * k))), (0, .ref tb)]) hx hb dX1_reckonWidth_15 rfl hl (by decide) rfl (fun ls hl => ?_)
  refine lv_iload_n hx hb dX1_reckonWidth_16 rfl (lv_at hl 0 rfl) ?_
  refine lv_iconst (v := (-1)) hx hb dX1_reckonWidth_17 (by decide) ?_
  refine lv_icmp_eq (tgt := 35) hx hb dX1_reckonWidth_18 (by decide) (fun c_2 => absurd c_2 (by decide)) (fun c_2 => ?_)
  refine lv_iload_n hx hb dX1_reckonWidth_21 rfl (lv_at hl 2 rfl) ?_
  refine lv_iload_n hx hb dX1_reckonWidth_22 rfl (lv_at hl 1 rfl) ?_
  have hFc := va_free (wc := []) hD hS hA [] rfl
  refine zz_after (wr := [(tb, .inr (5, [.ref wo, .ref ti, .int (nI pn), .ref wk, .int vw])), (wo, .inl (cW, 64, .inl g))]) (va_runS (As := [.int (nI (10 + k))]) (rest := [.int (nI (2 + 5 * k))]) ⟨hx, hb, hml, hown, hts⟩ ((k_X1_signsOf l D (10 + k) (by omega) (by omega)) H.size) (va_cwS 1 hts gX1_reckonWidth_X1_signsOf rfl rfl rfl (by decide +kernel) ⟨Nat.le_of_ble_eq_true rfl, Nat.le_of_ble_eq_true rfl⟩) (zz_pre (av := [.int (nI (10 + k))]) (tyc := []) (wc := []) (X := fun _ _ => True) (Xc := (fun _ _ => True)) hP hD hK hS [] [] rfl (by decide) rfl zz_St_tt (fun _ _ _ => trivial)) rfl rfl hl.1 rfl (lv_room (Nat.le_of_ble_eq_true rfl)) dX1_reckonWidth_23 ⟨by show 0 + 0 + 0 ≤ 0; omega, by show 0 + 0 + 0 ≤ 0; omega⟩) hP hD hK hS hFc [] [0, 1] rfl rfl (by decide) (by decide) (fun v w1 ty1 H1 locs hq9 hz9 hk9 hP1 hD1 hK1 hS1 => ?_)
  obtain ⟨rfl, rfl, rfl⟩ := hq9
  clear hS hP hD hK hFc
  have hP : va_P D vwCl [(tb, .inr (5, [.ref wo, .ref ti, .int (nI pn), .ref wk, .int vw])), (wo, .inl (cW, 64, .inl g))] H1 := hP1
  have hD : va_D A [(tb, .inr (5, [.ref wo, .ref ti, .int (nI pn), .ref wk, .int vw])), (wo, .inl (cW, 64, .inl g))] := hD1
  have hK : va_K D vwCl [(cW, .int), (cW, .int)] s := hK1
  have hS := hS1
  clear hP1 hD1 hK1 hS1
  obtain ⟨H, rfl⟩ : ∃ z, z = H1 := ⟨_, rfl⟩
  refine W.eq (g2 := F0 mt0 26 ls [.int 2, .int (nI (2 + 5 * k))]) rfl ?_
  refine lv_iconst (v := 1) hx hb dX1_reckonWidth_26 (by decide) ?_
  refine lv_iadd hx hb dX1_reckonWidth_27 ?_
  refine lv_topi (fun z_3 ez_3 => ?_)
  obtain rfl : z_3 = 3 := ez_3.trans (by decide)
  refine lv_iload_n hx hb dX1_reckonWidth_28 rfl (lv_at hl 0 rfl) ?_
  have hFc := va_free (wc := []) hD hS hA [] rfl
  refine zz_after (wr := [(tb, .inr (5, [.ref wo, .ref ti, .int (nI pn), .ref wk, .int vw])), (wo, .inl (cW, 64, .inl g))]) (va_runS (As := [.int (nI 99)]) (rest := [.int 3, .int (nI (2 + 5 * k))]) ⟨hx, hb, hml, hown, hts⟩ ((k_X1_signsOf l D 99 (by decide) (by decide)) H.size) (va_cwS 1 hts gX1_reckonWidth_X1_signsOf rfl rfl rfl (by decide +kernel) ⟨Nat.le_of_ble_eq_true rfl, Nat.le_of_ble_eq_true rfl⟩) (zz_pre (av := [.int (nI 99)]) (tyc := []) (wc := []) (X := fun _ _ => True) (Xc := (fun _ _ => True)) hP hD hK hS [] [] rfl (by decide) rfl zz_St_tt (fun _ _ _ => trivial)) rfl rfl hl.1 rfl (lv_room (Nat.le_of_ble_eq_true rfl)) dX1_reckonWidth_29 ⟨by show 0 + 0 + 0 + 0 ≤ 0; omega, by show 0 + 0 + 0 + 0 ≤ 0; omega⟩) hP hD hK hS hFc [] [0, 1] rfl rfl (by decide) (by decide) (fun v w1 ty1 H1 locs hq9 hz9 hk9 hP1 hD1 hK1 hS1 => ?_)
  obtain ⟨rfl, rfl, rfl⟩ := hq9
  clear hS hP hD hK hFc
  have hP : va_P D vwCl [(tb, .inr (5, [.ref wo, .ref ti, .int (nI pn), .ref wk, .int vw])), (wo, .inl (cW, 64, .inl g))] H1 := hP1
  have hD : va_D A [(tb, .inr (5, [.ref wo, .ref ti, .int (nI pn), .ref wk, .int vw])), (wo, .inl (cW, 64, .inl g))] := hD1
  have hK : va_K D vwCl [(cW, .int), (cW, .int)] s := hK1
  have hS := hS1
  clear hP1 hD1 hK1 hS1
  obtain ⟨H, rfl⟩ : ∃ z, z = H1 := ⟨_, rfl⟩
  refine W.eq (g2 := F0 mt0 32 ls [.int 2, .int 3, .int (nI (2 + 5 * k))]) rfl ?_
  refine lv_iadd hx hb dX1_reckonWidth_32 ?_
  refine lv_topi (fun z_4 ez_4 => ?_)
  obtain rfl : z_4 = 5 := ez_4.trans (by decide)
  refine lv_iadd hx hb dX1_reckonWidth_33 ?_
  refine lv_topi (fun z_5 ez_5 => ?_)
  obtain rfl : z_5 = nI (2 + 5 * (k + 1)) := ez_5.trans (by rw [show (5 : Int32) = nI 5 from rfl, nI_add]; exact congrArg nI (by omega))
  refine lv_istore_n (lv' := [(1, .int (nI (2 + 5 * (k + 1)))), (3, .int (nI 99)), (2, .int (nI (10 + k))), (0, .ref tb)]) hx hb dX1_reckonWidth_34 rfl hl (by decide) rfl (fun ls hl => ?_)
  refine lv_iinc (v := (nI (10 + (k + 1)))) (lv' := [(2, .int (nI (10 + (k + 1)))), (1, .int (nI (2 + 5 * (k + 1)))), (3, .int (nI 99)), (0, .ref tb)]) hx hb dX1_reckonWidth_35 hl (k := 2) rfl (nI_1 (10 + k)) (by decide) rfl (fun ls hl => ?_)
  refine lv_goto (tgt := 4) hx hb dX1_reckonWidth_38 (by decide) ?_
  exact kk _ _ _ (hK.sub [0] rfl) (hP.sub [0, 1] rfl) (hD.sub [0, 1] (by decide) rfl) hS (lv_sub hl [0, 1, 3] rfl)
set_option maxHeartbeats 4000000 in
theorem rw_Bs {p0 : Program} {l : Launch} {e0 : Env} {s : State} {mt0 : MethodId} {args : Array Value} {bl0 : List Frame} {meth0 : Method} {cd0 : Code} {Q : State → Prop} {A : Nat → Prop} (D : va_G) (tb : Nat) (wo : Nat) (ti : Nat) (pn : Nat) (wk : Nat) (vw : Int32) (cW : ClassId) (g : Nat → Int32) (hC : zz_C p0 s mt0 meth0 cd0 args RX1 cX1_reckonWidth 4 (some .int) wsX1_reckonWidth)  (hA : ∀ q, s.heap.size ≤ q → A q) (hK : va_K D vwCl [(cW, .int)] s) (hg1 : ∀ n, n < 10 → g n = -1) (hg2 : ∀ n, 10 ≤ n → n < 64 → g n = 99) (kk : ∀ (H : Heap) (locs : List Loc) (ls : Array Slot), va_P D vwCl [(tb, .inr (5, [.ref wo, .ref ti, .int (nI pn), .ref wk, .int vw])), (wo, .inl (cW, 64, .inl g))] H → va_D A [(tb, .inr (5, [.ref wo, .ref ti, .int (nI pn), .ref wk, .int vw])), (wo, .inl (cW, 64, .inl g))] → va_S A s.heap H locs → lv_has ls 4 [(2, .int (nI (10 + 54))), (1, .int (nI (2 + 5 * 54))), (0, .ref tb)] → W p0 l e0 ({ frames := 2, cells := 0, slots := 0, locals := 140 } : Room) s mt0 args bl0 meth0 cd0 H locs 0 0 Q (F0 mt0 4 ls [])) : ∀ (n k : Nat), k + n = 54 → ∀ (H : Heap) (locs : List Loc) (ls : Array Slot), va_P D vwCl [(tb, .inr (5, [.ref wo, .ref ti, .int (nI pn), .ref wk, .int vw])), (wo, .inl (cW, 64, .inl g))] H → va_D A [(tb, .inr (5, [.ref wo, .ref ti, .int (nI pn), .ref wk, .int vw])), (wo, .inl (cW, 64, .inl g))] → va_S A s.heap H locs → lv_has ls 4 [(2, .int (nI (10 + k))), (1, .int (nI (2 + 5 * k))), (0, .ref tb)] → W p0 l e0 ({ frames := 2, cells := 0, slots := 0, locals := 140 } : Room) s mt0 args bl0 meth0 cd0 H locs 0 0 Q (F0 mt0 4 ls []) := by
  intro n
  induction n with
  | zero => intro k hk H locs ls hP hD hS hl
            obtain rfl : k = 54 := by omega
            exact kk H locs ls hP hD hS hl
  | succ n ih => intro k hk H locs ls hP hD hS hl
                 exact rw_B D tb wo ti pn wk vw cW g k hC hA hK hP hD hS hl hg1 hg2 (by omega) (fun H' locs' ls' _ hP' hD' hS' hl' => ih (k + 1) (by omega) H' locs' ls' hP' hD' hS' hl')
set_option maxHeartbeats 4000000 in
set_option maxRecDepth 100000 in
theorem k_X1_reckonWidth (l : Launch) (D : va_G) (tb : Nat) (wo : Nat) (ti : Nat) (wk : Nat) (vw : Int32) (cW : ClassId) (g : Nat → Int32) (hg1 : ∀ n, n < 10 → g n = -1) (hg2 : ∀ n, 10 ≤ n → n < 64 → g n = 99) : zz_M l yX1_reckonWidth wsX1_reckonWidth ({ frames := 2, cells := 0, slots := 0, locals := 140 }) D [.ref tb] [(cW, .int)] [(tb, .inr (5, [.ref wo, .ref ti, .int (nI 54), .ref wk, .int vw])), (wo, .inl (cW, 64, .inl g))] (fun _ _ => True) (fun H0 H1 v w t => v = some (.int (nI 378)) ∧ w = [(tb, .inr (5, [.ref wo, .ref ti, .int (nI 54), .ref wk, .int vw])), (wo, .inl (cW, 64, .inl g))] ∧ t = [(cW, .int)]) := by
  refine zz_M.mk (cc := cX1_reckonWidth) (maxL := 4) (ret := (some .int)) (by decide) rfl (Nat.le_of_ble_eq_true rfl) ?_
  intro p0 e0 s mt0 bl0 meth0 cd0 ls hC hname hP hK hD hX hl
  obtain ⟨hx, hb, hml, hr, hown, hts, hlocks⟩ := hC
  generalize hAe : va_A [(tb, .inr (5, [.ref wo, .ref ti, .int (nI 54), .ref wk, .int vw])), (wo, .inl (cW, 64, .inl g))] s.heap.size = A at *
  have hA : ∀ q : Nat, s.heap.size ≤ q → A q := fun q h => by rw [← hAe]; exact Or.inr h
  obtain ⟨H, hHs⟩ : ∃ z : Heap, z = s.heap := ⟨_, rfl⟩
  rw [← hHs] at hP ⊢
  have hS : va_S A s.heap H [] := by rw [hHs]; exact va_S.rf
  have hl : lv_has ls 4 [(0, .ref tb)] := hl
  refine lv_iconst (v := 2) hx hb dX1_reckonWidth_0 (by decide) ?_
  refine lv_istore_n (lv' := [(1, .int 2), (0, .ref tb)]) hx hb dX1_reckonWidth_1 rfl hl (by decide) rfl (fun ls hl => ?_)
  refine lv_iconst (v := 0) hx hb dX1_reckonWidth_2 (by decide) ?_
  refine lv_istore_n (lv' := [(2, .int 0), (1, .int 2), (0, .ref tb)]) hx hb dX1_reckonWidth_3 rfl hl (by decide) rfl (fun ls hl => ?_)
  refine rw_As D tb wo ti 54 wk vw cW g ⟨hx, hb, hml, hr, hown, hts, hlocks⟩ hA hK hg1 hg2 ?_ 10 0 rfl H _ ls hP hD hS (lv_sub hl [0, 1, 2] rfl)
  intro H locs ls hP hD hS hl
  refine rw_Bs D tb wo ti 54 wk vw cW g ⟨hx, hb, hml, hr, hown, hts, hlocks⟩ hA hK hg1 hg2 ?_ 54 0 rfl H locs ls hP hD hS (lv_sub hl [0, 1, 2] rfl)
  intro H locs ls hP hD hS hl
  refine lv_iload_n hx hb dX1_reckonWidth_4 rfl (lv_at hl 0 rfl) ?_
  refine lv_bipush (v := 64) hx hb dX1_reckonWidth_5 (by decide) ?_
  refine lv_icmp_ge (tgt := 41) hx hb dX1_reckonWidth_7 (by decide) (fun c_1 => ?_) (fun c_1 => absurd (show nI 64 ≤ nI (10 + 54) from Int32.le_refl _) c_1)
  refine lv_aload_n hx hb dX1_reckonWidth_41 rfl (lv_at hl 2 rfl) ?_
  refine va_get (D := D) (ci := 5) (v := .int (nI 54)) (C := RX1) (T := TX1) (N := 5) hx hb hts (by decide +kernel) hown hK hP 0 rfl rfl 2 (by decide) (hts (.fieldLink RX1 29 "Hashladder$Table" "pairs" "I") (by decide +kernel)) (fun _ h9 => h9) rfl dX1_reckonWidth_42 ?_
  refine lv_iconst (v := 1) hx hb dX1_reckonWidth_45 (by decide) ?_
  refine lv_icmp_le (tgt := 62) hx hb dX1_reckonWidth_46 (by decide) (fun c_2 => absurd c_2 (by decide)) (fun c_2 => ?_)
  refine lv_iload_n hx hb dX1_reckonWidth_49 rfl (lv_at hl 1 rfl) ?_
  refine lv_iconst (v := 2) hx hb dX1_reckonWidth_50 (by decide) ?_
  refine lv_aload_n hx hb dX1_reckonWidth_51 rfl (lv_at hl 2 rfl) ?_
  refine va_get (D := D) (ci := 5) (v := .int (nI 54)) (C := RX1) (T := TX1) (N := 5) hx hb hts (by decide +kernel) hown hK hP 0 rfl rfl 2 (by decide) (hts (.fieldLink RX1 29 "Hashladder$Table" "pairs" "I") (by decide +kernel)) (fun _ h9 => h9) rfl dX1_reckonWidth_52 ?_
  refine lv_iconst (v := 1) hx hb dX1_reckonWidth_55 (by decide) ?_
  refine lv_isub hx hb dX1_reckonWidth_56 ?_
  refine lv_topi (fun z_3 ez_3 => ?_)
  obtain rfl : z_3 = 53 := ez_3.trans (by decide)
  refine lv_imul hx hb dX1_reckonWidth_57 ?_
  refine lv_topi (fun z_4 ez_4 => ?_)
  obtain rfl : z_4 = 106 := ez_4.trans (by decide)
  refine lv_iadd hx hb dX1_reckonWidth_58 ?_
  refine lv_topi (fun z_5 ez_5 => ?_)
  obtain rfl : z_5 = nI 378 := ez_5.trans (by decide)
  refine lv_goto (tgt := 63) hx hb dX1_reckonWidth_59 (by decide) ?_
  have hP9 := hP.sub (ws' := [(tb, .inr (5, [.ref wo, .ref ti, .int (nI 54), .ref wk, .int vw])), (wo, .inl (cW, 64, .inl g))]) [0, 1] rfl
  have hD9 := hD.sub (ws' := [(tb, .inr (5, [.ref wo, .ref ti, .int (nI 54), .ref wk, .int vw])), (wo, .inl (cW, 64, .inl g))]) [0, 1] (by decide) rfl
  have hK9 := hK.sub (tys' := [(cW, .int)]) [0] rfl
  refine W.widen (k := 0) (n := 0) (by show 0 ≤ 0; omega) (by show 0 ≤ 0; omega) ?_
  exact W.iret (v := nI 378) hx hb hr (zz_end hP9 hD9 hK9 hS (⟨rfl, rfl, rfl⟩)) hS.2.2 dX1_reckonWidth_63
set_option maxHeartbeats 4000000 in
set_option maxRecDepth 100000 in
theorem k_X3_width (l : Launch) (D : va_G) (hh : Nat) (tA : Nat) (kn : Int32) (sp : Value) (rx : Value) (pb : Value) (pg : Value) (cB : ClassId) (T0 : Nat → Option Nat) (tb : Nat) (wo : Nat) (ti : Nat) (wk : Nat) (vw : Int32) (cW : ClassId) (g : Nat → Int32) (hT : T0 0 = some tb) (hg1 : ∀ n, n < 10 → g n = -1) (hg2 : ∀ n, 10 ≤ n → n < 64 → g n = 99) : zz_M l yX3_width wsX3_width ({ frames := 3, cells := 0, slots := 0, locals := 200 }) D [.ref hh, .int 0] [(cB, .object "Hashladder$Table"), (cW, .int)] [(hh, .inr (7, [.ref tA, .int kn, sp, rx, pb, pg])), (tA, .inl (cB, 4, .inr (.inr (.inr (.inr T0))))), (tb, .inr (5, [.ref wo, .ref ti, .int (nI 54), .ref wk, .int vw])), (wo, .inl (cW, 64, .inl g))] (fun _ _ => True) (fun H0 H1 v w t => v = some (.int (nI 378)) ∧ w = [(hh, .inr (7, [.ref tA, .int kn, sp, rx, pb, pg])), (tA, .inl (cB, 4, .inr (.inr (.inr (.inr T0))))), (tb, .inr (5, [.ref wo, .ref ti, .int (nI 54), .ref wk, .int vw])), (wo, .inl (cW, 64, .inl g))] ∧ t = [(cB, .object "Hashladder$Table"), (cW, .int)]) := by
  refine zz_M.mk (cc := cX3_width) (maxL := 2) (ret := (some .int)) (by decide) rfl (Nat.le_of_ble_eq_true rfl) ?_
  intro p0 e0 s mt0 bl0 meth0 cd0 ls hC hname hP hK hD hX hl
  obtain ⟨hx, hb, hml, hr, hown, hts, hlocks⟩ := hC
  generalize hAe : va_A [(hh, .inr (7, [.ref tA, .int kn, sp, rx, pb, pg])), (tA, .inl (cB, 4, .inr (.inr (.inr (.inr T0))))), (tb, .inr (5, [.ref wo, .ref ti, .int (nI 54), .ref wk, .int vw])), (wo, .inl (cW, 64, .inl g))] s.heap.size = A at *
  have hA : ∀ q : Nat, s.heap.size ≤ q → A q := fun q h => by rw [← hAe]; exact Or.inr h
  obtain ⟨H, hHs⟩ : ∃ z : Heap, z = s.heap := ⟨_, rfl⟩
  rw [← hHs] at hP ⊢
  have hS : va_S A s.heap H [] := by rw [hHs]; exact va_S.rf
  have hl : lv_has ls 2 [(0, .ref hh), (1, .int 0)] := hl
  refine lv_aload_n hx hb dX3_width_0 rfl (lv_at hl 0 rfl) ?_
  refine lv_iload_n hx hb dX3_width_1 rfl (lv_at hl 1 rfl) ?_
  have hFc := va_free (wc := [(hh, .inr (7, [.ref tA, .int kn, sp, rx, pb, pg])), (tA, .inl (cB, 4, .inr (.inr (.inr (.inr T0)))))]) hD hS hA [0, 1] rfl
  refine zz_after (wr := [(tb, .inr (5, [.ref wo, .ref ti, .int (nI 54), .ref wk, .int vw])), (wo, .inl (cW, 64, .inl g))]) (va_runV (As := [.int 0]) (rest := []) ⟨hx, hb, hml, hown, hts⟩ ((k_X3_tableAt l D hh tA kn sp rx pb pg cB T0 tb (hT)) H.size) (cwV 1 hts gX3_width_X3_tableAt rfl rfl rfl (by decide +kernel) ⟨Nat.le_of_ble_eq_true rfl, Nat.le_of_ble_eq_true rfl⟩) (zz_pV (zz_pre (av := [.ref hh, .int 0]) (tyc := [(cB, .object "Hashladder$Table")]) (wc := [(hh, .inr (7, [.ref tA, .int kn, sp, rx, pb, pg])), (tA, .inl (cB, 4, .inr (.inr (.inr (.inr T0)))))]) (X := fun _ _ => True) (Xc := (fun _ _ => True)) hP hD hK hS [0, 1] [0] rfl (by decide) rfl zz_St_tt (fun _ _ _ => trivial)) (va_recv hK hP (ci := 7) (q0 := 0) rfl rfl)) rfl rfl hl.1 rfl (lv_room (Nat.le_of_ble_eq_true rfl)) dX3_width_2 ⟨by show 0 + 0 ≤ 0; omega, by show 0 + 0 ≤ 0; omega⟩) hP hD hK hS hFc [0, 1] [2, 3] rfl rfl (by decide) (by decide) (fun v w1 ty1 H1 locs hq9 hz9 hk9 hP1 hD1 hK1 hS1 => ?_)
  obtain ⟨rfl, rfl, rfl⟩ := hq9
  clear hS hP hD hK hFc
  have hP : va_P D vwCl [(tb, .inr (5, [.ref wo, .ref ti, .int (nI 54), .ref wk, .int vw])), (wo, .inl (cW, 64, .inl g)), (hh, .inr (7, [.ref tA, .int kn, sp, rx, pb, pg])), (tA, .inl (cB, 4, .inr (.inr (.inr (.inr T0)))))] H1 := hP1
  have hD : va_D A [(tb, .inr (5, [.ref wo, .ref ti, .int (nI 54), .ref wk, .int vw])), (wo, .inl (cW, 64, .inl g)), (hh, .inr (7, [.ref tA, .int kn, sp, rx, pb, pg])), (tA, .inl (cB, 4, .inr (.inr (.inr (.inr T0)))))] := hD1
  have hK : va_K D vwCl [(cB, .object "Hashladder$Table"), (cW, .int), (cB, .object "Hashladder$Table")] s := hK1
  have hS := hS1
  clear hP1 hD1 hK1 hS1
  obtain ⟨H, rfl⟩ : ∃ z, z = H1 := ⟨_, rfl⟩
  refine W.eq (g2 := F0 mt0 5 ls [.ref tb]) rfl ?_
  have hFc := va_free (wc := [(tb, .inr (5, [.ref wo, .ref ti, .int (nI 54), .ref wk, .int vw])), (wo, .inl (cW, 64, .inl g))]) hD hS hA [0, 1] rfl
  refine zz_after (wr := [(hh, .inr (7, [.ref tA, .int kn, sp, rx, pb, pg])), (tA, .inl (cB, 4, .inr (.inr (.inr (.inr T0)))))]) (va_runV (As := []) (rest := []) ⟨hx, hb, hml, hown, hts⟩ ((k_X1_reckonWidth l D tb wo ti wk vw cW g (hg1) (hg2)) H.size) (cwV 0 hts gX3_width_X1_reckonWidth rfl rfl rfl (by decide +kernel) ⟨Nat.le_of_ble_eq_true rfl, Nat.le_of_ble_eq_true rfl⟩) (zz_pV (zz_pre (av := [.ref tb]) (tyc := [(cW, .int)]) (wc := [(tb, .inr (5, [.ref wo, .ref ti, .int (nI 54), .ref wk, .int vw])), (wo, .inl (cW, 64, .inl g))]) (X := fun _ _ => True) (Xc := (fun _ _ => True)) hP hD hK hS [0, 1] [1] rfl (by decide) rfl zz_St_tt (fun _ _ _ => trivial)) (va_recv hK hP (ci := 5) (q0 := 0) rfl rfl)) rfl rfl hl.1 rfl (lv_room (Nat.le_of_ble_eq_true rfl)) dX3_width_5 ⟨by show 0 + 0 + 0 ≤ 0; omega, by show 0 + 0 + 0 ≤ 0; omega⟩) hP hD hK hS hFc [0, 1] [2, 3] rfl rfl (by decide) (by decide) (fun v w1 ty1 H1 locs hq9 hz9 hk9 hP1 hD1 hK1 hS1 => ?_)
  obtain ⟨rfl, rfl, rfl⟩ := hq9
  clear hS hP hD hK hFc
  have hP : va_P D vwCl [(hh, .inr (7, [.ref tA, .int kn, sp, rx, pb, pg])), (tA, .inl (cB, 4, .inr (.inr (.inr (.inr T0))))), (tb, .inr (5, [.ref wo, .ref ti, .int (nI 54), .ref wk, .int vw])), (wo, .inl (cW, 64, .inl g))] H1 := hP1
  have hD : va_D A [(hh, .inr (7, [.ref tA, .int kn, sp, rx, pb, pg])), (tA, .inl (cB, 4, .inr (.inr (.inr (.inr T0))))), (tb, .inr (5, [.ref wo, .ref ti, .int (nI 54), .ref wk, .int vw])), (wo, .inl (cW, 64, .inl g))] := hD1
  have hK : va_K D vwCl [(cB, .object "Hashladder$Table"), (cW, .int), (cB, .object "Hashladder$Table"), (cW, .int)] s := hK1
  have hS := hS1
  clear hP1 hD1 hK1 hS1
  obtain ⟨H, rfl⟩ : ∃ z, z = H1 := ⟨_, rfl⟩
  refine W.eq (g2 := F0 mt0 8 ls [.int (nI 378)]) rfl ?_
  have hP9 := hP.sub (ws' := [(hh, .inr (7, [.ref tA, .int kn, sp, rx, pb, pg])), (tA, .inl (cB, 4, .inr (.inr (.inr (.inr T0))))), (tb, .inr (5, [.ref wo, .ref ti, .int (nI 54), .ref wk, .int vw])), (wo, .inl (cW, 64, .inl g))]) [0, 1, 2, 3] rfl
  have hD9 := hD.sub (ws' := [(hh, .inr (7, [.ref tA, .int kn, sp, rx, pb, pg])), (tA, .inl (cB, 4, .inr (.inr (.inr (.inr T0))))), (tb, .inr (5, [.ref wo, .ref ti, .int (nI 54), .ref wk, .int vw])), (wo, .inl (cW, 64, .inl g))]) [0, 1, 2, 3] (by decide) rfl
  have hK9 := hK.sub (tys' := [(cB, .object "Hashladder$Table"), (cW, .int)]) [0, 1] rfl
  refine W.widen (k := 0) (n := 0) (by show 0 + 0 + 0 ≤ 0; omega) (by show 0 + 0 + 0 ≤ 0; omega) ?_
  exact W.iret (v := nI 378) hx hb hr (zz_end hP9 hD9 hK9 hS (⟨rfl, rfl, rfl⟩)) hS.2.2 dX3_width_8
