/-- a text of the launch -/
theorem zz_str {args : Array Value} {s : State} {A : Nat → Prop} (tm : Term) (n : Nat) (f : Nat → Int32) (hex : (Cond.exactly tm "java/lang/String").before args s = true) (hco : (Cond.eq (.field tm "java/lang/String" "coder" "B") (.int 0)).before args s = true) (har : (Cond.arrayOf (.field tm "java/lang/String" "value" "[B") .byte).before args s = true)
    (hle : (Cond.eq (.length (.field tm "java/lang/String" "value" "[B")) (.int (Int32.ofNat n))).before args s = true) (hel : ∀ j : Nat, j < n → (Cond.eq (.elem (.field tm "java/lang/String" "value" "[B") (.int (Int32.ofNat j))) (.int (f j))).before args s = true) (hn : n ≤ 65536) (hf : ∀ j, fits .byte (.int (f j)) = true) (hA : ∀ a : Nat, a < s.heap.size → ¬ A a) :
    ∃ q b : Nat, tm.eval args s none [] s = some (.ref q) ∧ zz_S q b n f A s := by
  obtain ⟨a, c, cA, kA, q1, q2, q3, q4, q5, q6, -⟩ := Cond.exactly_spec (args := args) (first := s) (o := none) (s := s) (idx := []) (t := tm) (cls := "java/lang/String") hex
  obtain ⟨t, ht, hT⟩ := va_Tof (f := fun j => .int (f j)) (A := A) (by omega) har (va_eqt hle) (fun j hj => va_eqt (hel j hj)) hA
  exact ⟨a, t, q1, ⟨cA, q3, q5, by rw [q6]; exact q2, hA a (Array.getElem?_eq_some_iff.mp q3).1⟩, vk_OFof q1 (va_eqt hco) hA, vk_OFof q1 ht hA, hT, hn, hf⟩
/-- all that the walk asks of the start, out of the Statement's premises -/
theorem zz_start {args : Array Value} {s : State} {A : Nat → Prop} (htb : ∀ w ∈ tables_1, w.before args s = true) (hp : (Jvm.Cond.and given_1 narrow_1).before args s = true) (hA : ∀ a : Nat, a < s.heap.size → ¬ A a) :
    ∃ (D : va_G) (qe be qq bq qs bs : Nat), va_K D vwCl [] s ∧ zz_G A s ∧ zz_S qe be 0 zz_fe A s ∧ vk_R RX5 116 "" qe s ∧ zz_S qq bq 1 zz_fq A s ∧ vk_R RX5 134 "=" qq s ∧ zz_S qs bs 2 zz_fs A s ∧ vk_R RX5 152 ", " qs s ∧ va_Nw (.fieldLinkNest RL 13 "HashladderLaw$Out" "n" "J" "HashladderLaw") s ∧ va_Nw (.methodLinkNest RX1 20 yX2_init "Hashladder") s ∧ va_Nw (.methodLinkNest RX3 29 yX2_init "Hashladder") s ∧ va_AO "Hashladder$Table" s ∧ va_AOA .int s ∧ va_Nw (.methodLinkNest RL 183 yX4_init "HashladderLaw") s := by
  have hs := flat_of_before _ hp
  have hts := zz_tbl htb
  obtain ⟨c0, i0, k0⟩ := u_known (C := RJ0) (T := TJ0) (N := 4) hts zt_32 (htb (.instantiable RJ0 4) (by decide +kernel))
  obtain ⟨c1, i1, k1⟩ := u_known (C := RJ4) (T := TJ4) (N := 4) hts zt_31 (htb (.instantiable RJ4 4) (by decide +kernel))
  obtain ⟨c2, i2, k2⟩ := u_known (C := RJx00060) (T := TJx00060) (N := 6) hts zt_43 (htb (.instantiable RJx00060 6) (by decide +kernel))
  obtain ⟨c3, i3, k3⟩ := u_known (C := RJx7c733) (T := TJx7c733) (N := 6) hts zt_44 (htb (.instantiable RJx7c733 6) (by decide +kernel))
  obtain ⟨c4, i4, k4⟩ := u_known (C := RX0) (T := TX0) (N := 3) hts zt_37 (htb (.instantiable RX0 3) (by decide +kernel))
  obtain ⟨c5, i5, k5⟩ := u_known (C := RX1) (T := TX1) (N := 5) hts zt_7 (htb (.instantiable RX1 5) (by decide +kernel))
  obtain ⟨c6, i6, k6⟩ := u_known (C := RX2) (T := TX2) (N := 5) hts zt_8 (htb (.instantiable RX2 5) (by decide +kernel))
  obtain ⟨c7, i7, k7⟩ := u_known (C := RX3) (T := TX3) (N := 6) hts zt_6 (htb (.instantiable RX3 6) (by decide +kernel))
  obtain ⟨c8, i8, k8⟩ := u_known (C := RX4) (T := TX4) (N := 2) hts zt_5 (htb (.instantiable RX4 2) (by decide +kernel))
  obtain ⟨c9, i9, k9⟩ := u_known (C := RX5) (T := TX5) (N := 7) hts zt_15 (htb (.instantiable RX5 7) (by decide +kernel))
  obtain ⟨qe, be, e1, e2⟩ := zz_str (A := A) (.string "HashladderModel" 116) 0 zz_fe (hs _ (by decide +kernel)) (hs _ (by decide +kernel)) (hs _ (by decide +kernel)) (hs _ (by decide +kernel)) (fun j hj => absurd hj (Nat.not_lt_zero j)) (by decide) (fun _ => rfl) hA
  obtain ⟨qq, bq, f1, f2⟩ := zz_str (A := A) (.string "HashladderModel" 134) 1 zz_fq (hs _ (by decide +kernel)) (hs _ (by decide +kernel)) (hs _ (by decide +kernel)) (hs _ (by decide +kernel)) (fun j hj => by
    obtain rfl : j = 0 := by omega
    exact hs _ (by decide +kernel)) (by decide) (fun _ => rfl) hA
  obtain ⟨qs, bs, g1, g2⟩ := zz_str (A := A) (.string "HashladderModel" 152) 2 zz_fs (hs _ (by decide +kernel)) (hs _ (by decide +kernel)) (hs _ (by decide +kernel)) (hs _ (by decide +kernel)) (fun j hj => by
    rcases (show j = 0 ∨ j = 1 by omega) with rfl | rfl
    · exact hs _ (by decide +kernel)
    · exact hs _ (by decide +kernel)) (by decide) (fun j => by unfold zz_fs; split <;> decide) hA
  have w1 := fun j hj => hs _ (zz_d1 j hj)
  have w2 := fun j hj => hs _ (zz_d2 j hj)
  obtain ⟨t1, h1, T1⟩ := va_Tof (f := fun j => .int (zz_g1 j)) (A := A) (N := 100) (tm := .static "java/lang/Integer" "DigitOnes" "[B") (ty := .byte) (by decide) (hs _ (by decide +kernel)) (va_eqt (hs (Cond.eq (.length (.static "java/lang/Integer" "DigitOnes" "[B")) (.int (Int32.ofNat 100))) (by decide +kernel))) (fun j hj => va_eqt (w1 j hj)) hA
  obtain ⟨t2, h2, T2⟩ := va_Tof (f := fun j => .int (zz_g2 j)) (A := A) (N := 100) (tm := .static "java/lang/Integer" "DigitTens" "[B") (ty := .byte) (by decide) (hs _ (by decide +kernel)) (va_eqt (hs (Cond.eq (.length (.static "java/lang/Integer" "DigitTens" "[B")) (.int (Int32.ofNat 100))) (by decide +kernel))) (fun j hj => va_eqt (w2 j hj)) hA
  have hG : zz_G A s := ⟨va_Zof (htb _ (by decide +kernel)) (htb _ (by decide +kernel)) (va_eqi (hs (Cond.eq (.static "java/lang/String" "COMPACT_STRINGS" "Z") (.int 1)) (by decide +kernel))) hA, t1, t2, zz_g1, zz_g2, va_Zof (htb _ (by decide +kernel)) (htb _ (by decide +kernel)) h1 hA, T1, by decide +kernel, va_Zof (htb _ (by decide +kernel)) (htb _ (by decide +kernel)) h2 hA, T2, by decide +kernel⟩
  refine ⟨(fun c => [c0, c1, c2, c3, c4, c5, c6, c7, c8, c9].getD c 0, fun c => [i0, i1, i2, i3, i4, i5, i6, i7, i8, i9].getD c (fun _ => 0)), qe, be, qq, bq, qs, bs, ⟨fun c q hq => ?_, fun k q hk => by cases hk⟩, hG, e2, vk_R.of (htb _ (by decide +kernel)) e1, f2, vk_R.of (htb _ (by decide +kernel)) f1, g2, vk_R.of (htb _ (by decide +kernel)) g1, va_Nw.of rfl (htb _ (by decide +kernel)), va_Nw.of rfl (htb _ (by decide +kernel)), va_Nw.of rfl (htb _ (by decide +kernel)), va_AO.of (htb _ (by decide +kernel)), va_AOA.of (htb _ (by decide +kernel)), va_Nw.of rfl (htb _ (by decide +kernel))⟩
  have hl : c < 10 := (List.getElem?_eq_some_iff.mp hq).1
  rcases (show c = 0 ∨ c = 1 ∨ c = 2 ∨ c = 3 ∨ c = 4 ∨ c = 5 ∨ c = 6 ∨ c = 7 ∨ c = 8 ∨ c = 9 by omega) with rfl | rfl | rfl | rfl | rfl | rfl | rfl | rfl | rfl | rfl <;> cases hq
  · exact k0
  · exact k1
  · exact k2
  · exact k3
  · exact k4
  · exact k5
  · exact k6
  · exact k7
  · exact k8
  · exact k9
