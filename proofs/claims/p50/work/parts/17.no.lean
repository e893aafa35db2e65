/-- a room in which the run comes to its end -/
abbrev zz_room : Room := { frames := 2048, cells := 700000, slots := 300000000, locals := 84000 }
/-- THE RUN: 54 puts and 450 widths, from any start that the Statement's premises allow, in a larger room: it returns 1, and its garbage alone has 9,113,400 slots -/
theorem zz_mine {l : Launch} {p : Program} {e : Env} {s : State} {m : MethodId} {args : Array Value} {below : List Frame} (hadm : l.admits e) (hcas : FairCas e.choices) (hclk : FairClock e.choices) (hf : s.frames = Frame.invoking m args :: below) (happ : (headSpec (Jvm.Cond.code x code maxLocals ret :: tables_1) zz_room).applies x e.platform s = true) (hpre : (Jvm.Cond.and given_1 narrow_1).before args s = true)
    {sb : Nat} {xs : Nat → Int32} (ha : args = #[.ref sb]) (hX : va_X sb 2520 xs s s.heap) (hlt : sb < s.heap.size) (hx : zz_X xs) :
    ∃ n : Nat, (∀ k, k < n → Within (stepsAlone p.tables e k s) below) ∧ (stepsAlone p.tables e n s).status = .running ∧ Ended (stepsAlone p.tables e n s) below (.returned (some (.int 1))) ∧ 9113400 ≤ (((stepsAlone p.tables e n s).heap.toList.drop s.heap.size).map (·.slots.size)).sum := by
  subst ha
  have hpr := ((Spec.applies_iff hf).mp happ).2.2.2.2.2.2.2
  have htb : ∀ w ∈ tables_1, w.before #[.ref sb] s = true := fun w hw => atoms_spec (ws := Jvm.Cond.code x code maxLocals ret :: tables_1) hpr w (List.mem_cons_of_mem _ hw)
  have hA : ∀ a : Nat, a < s.heap.size → ¬ va_A [] s.heap.size a := by
    intro a h z
    rcases z with ⟨k, e9, z⟩ | z
    · simp at z
    · omega
  obtain ⟨D, qe, be, qq, bq, qs, bs, hK, hG, h1, h2, h3, h4, h5, h6, h7, h8, h9, h10, h11, h12⟩ := zz_start (A := va_A [] s.heap.size) htb hpre hA
  have hP0 : va_P D vwCl [] s.heap := fun k q hk => by simp at hk
  have hD0 : va_D (fun _ => True) [] := ⟨fun _ _ _ _ h => by simp at h, fun _ _ h => by simp at h⟩
  obtain ⟨n, o, a1, a2, a3, ⟨⟨v, W', ty', ho, hpost, -, -, -⟩, -⟩, -⟩ := k_L_law l D sb xs qe be zz_fe qq bq zz_fq qs bs zz_fs hx s.heap.size p e hadm hcas hclk s m #[.ref sb] below hf ((Spec.applies_iff_loose hf).mp happ).1 ⟨rfl, rfl, hP0, hK, hD0, hG, h1, h2, h3, h4, h5, h6, h7, ⟨hX, hlt, hA sb hlt⟩, h8, h9, h10, h11, h12⟩ trivial
  obtain ⟨L2, hL, rfl, -, -⟩ := hpost
  subst ho
  exact ⟨n, a1, a2, a3, hL.sum⟩
/-- so no run from such a start ends within the room that the theorem names -/
theorem zz_no {l : Launch} {p : Program} {e : Env} {s : State} {m : MethodId} {args : Array Value} {below : List Frame} (hadm : l.admits e) (hcas : FairCas e.choices) (hclk : FairClock e.choices) (hf : s.frames = Frame.invoking m args :: below) (happ : (headSpec (Jvm.Cond.code x code maxLocals ret :: tables_1) zz_room).applies x e.platform s = true) (hpre : (Jvm.Cond.and given_1 narrow_1).before args s = true)
    {sb : Nat} {xs : Nat → Int32} (ha : args = #[.ref sb]) (hX : va_X sb 2520 xs s s.heap) (hlt : sb < s.heap.size) (hx : zz_X xs) :
    ¬ ∃ (n : Nat) (o : Outcome), (∀ k, k < n → Within (stepsAlone p.tables e k s) below) ∧ (stepsAlone p.tables e n s).status = .running ∧ Ended (stepsAlone p.tables e n s) below o ∧ Framed s o (stepsAlone p.tables e n s) [] 656602 7126297 := by
  rintro ⟨n, o, w1, -, e1, -, -, hsame⟩
  obtain ⟨k, w2, -, e2, hsum⟩ := zz_mine hadm hcas hclk hf happ hpre ha hX hlt hx
  have hnk : n = k := by
    rcases Nat.lt_trichotomy n k with h | h | h
    · exact absurd (w2 n h) e1.not_within
    · exact h
    · exact absurd (w1 k h) e2.not_within
  subst hnk
  obtain ⟨-, -, -, -, hs, -⟩ := hsame
  have h9 : (((stepsAlone p.tables e n s).heap.toList.drop s.heap.size).map (·.slots.size)).sum ≤ 7126297 := hs
  omega
/-- THE STATEMENT AGAINST ANY SUCH START -/
theorem zz_claim (h : Claimed_1_1) {l : Launch} (hfl : l.flags = flags0) (hL : Lists l classFile x code maxLocals ret tables_1 room_1) {p : Program} {e : Env} {s : State} {m : MethodId} {args : Array Value} {below : List Frame} (hadm : l.admits e) (hcas : FairCas e.choices) (hclk : FairClock e.choices) (hf : s.frames = Frame.invoking m args :: below) (hfit : argsFit s.vm m args = true) (hheap : heapFits s = true)
    (happ1 : (headSpec (Jvm.Cond.code x code maxLocals ret :: tables_1) room_1).applies x e.platform s = true) (happ2 : (headSpec (Jvm.Cond.code x code maxLocals ret :: tables_1) zz_room).applies x e.platform s = true) (hrest : rest_1 p.tables e args s) (hpre : Pre_1 p.tables e args s)
    {sb : Nat} {xs : Nat → Int32} (ha : args = #[.ref sb]) (hX : va_X sb 2520 xs s s.heap) (hlt : sb < s.heap.size) (hx : zz_X xs) : False := by
  obtain ⟨n, o, w, r, en, hpost⟩ := h l hfl hL trivial p e hadm hcas hclk s m args below hf hfit hheap happ1 ⟨trivial, hrest, hpre⟩
  exact zz_no hadm hcas hclk hf happ2 hpre ha hX hlt hx ⟨n, o, w, r, en, hpost.2⟩
