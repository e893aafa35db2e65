/-- the script, int by int -/
def zz_xs : Nat → Int32 := fun j => if j < 270 then (if j % 5 = 2 then nI (10 + j / 5) else if j % 5 = 3 then 99 else 0) else if j % 5 = 0 then 33 else 0
def zz_script : Array Value := ((List.range 2520).map (fun j => Value.int (zz_xs j))).toArray
def zz_about : State := start1.aboutOf zz_script
def zz_e : Env := launch0.env 0 800000 400000000
theorem zz_xs_ok : zz_X zz_xs := ⟨by decide +kernel, by decide +kernel⟩
theorem zz_size : zz_script.size = 2520 := by
  unfold zz_script
  simp
theorem zz_at {j : Nat} (hj : j < 2520) : zz_script[j]? = some (.int (zz_xs j)) := by
  unfold zz_script
  simp [hj]
theorem zz_vm (a b : Array Value) : (start1.aboutOf a).vm = (start1.aboutOf b).vm := rfl
theorem zz_fslot (a : Array Value) (i : Nat) (x : Int32) : (start1.aboutOf a).fitsSlot 29 .none i (.int x) = true := rfl
theorem zz_scr : va_X 0 2520 zz_xs zz_about zz_about.heap := by
  refine ⟨{ cls := 29, slots := zz_script, vm := .none }, rfl, ⟨(fun k h => by cases h), _, rfl, 28, rfl⟩, (fun h => by cases h), zz_size, fun j hj => zz_at hj⟩
set_option maxRecDepth 16384 in
theorem zz_words_ot : (Jvm.Cond.code x code maxLocals ret :: tables_1).all (fun c => c.onTables || c.before start1.args0 zz_about) = true := by decide +kernel
theorem zz_words : ∀ c ∈ (Jvm.Cond.code x code maxLocals ret :: tables_1), c.before start1.args0 zz_about = true := by
  intro c hc
  have h := List.all_eq_true.mp zz_words_ot c hc
  simp only [Bool.or_eq_true] at h
  rcases h with h1 | h1
  · exact va_tabs h1 (zz_vm start1.cells0 zz_script) (start1.words c hc)
  · exact h1
set_option maxRecDepth 16384 in
theorem zz_prem : (Jvm.Cond.and given_1 narrow_1).before start1.args0 zz_about = true := by decide +kernel
set_option maxRecDepth 16384 in
theorem zz_fit : argsFit zz_about.vm ⟨0, 0⟩ start1.args0 = true := by decide +kernel
theorem zz_c0g (S : State) (a : Array Value) (h : ∀ (i : Nat) (v : Value), a[i]? = some v → S.fitsSlot 29 .none i v = true) : cellFits S { cls := 29, slots := a, vm := .none } = true := by
  unfold cellFits
  rw [List.all_eq_true]
  intro i _
  dsimp only
  split
  · rename_i v e
    exact h i v e
  · rfl
theorem zz_c0 : cellFits zz_about { cls := 29, slots := zz_script, vm := .none } = true := zz_c0g zz_about zz_script (fun i v e => by
  by_cases hi : i < 2520
  · rw [zz_at hi] at e
    cases e
    exact zz_fslot zz_script i _
  · rw [Array.getElem?_eq_none (by rw [zz_size]; omega)] at e
    cases e)
set_option maxRecDepth 16384 in
theorem zz_tail : (zz_about.heap.toList.tail).all (cellFits zz_about) = true := by decide +kernel
theorem zz_head (a : Array Value) : (start1.aboutOf a).heap.toList = { cls := 29, slots := a, vm := .none } :: (start1.aboutOf a).heap.toList.tail := rfl
theorem zz_hfit : heapFits zz_about = true := by
  show (zz_about.heap).all (cellFits zz_about) = true
  rw [← Array.all_toList]
  have e : zz_about.heap.toList = { cls := 29, slots := zz_script, vm := .none } :: zz_about.heap.toList.tail := zz_head zz_script
  rw [e, List.all_cons, zz_c0, zz_tail]
  rfl
theorem zz_arr : zz_about.arrayAt? 0 = some { cls := 29, slots := zz_script, vm := .none } := rfl
theorem zz_all : (Cond.all (.arg 0) (.isInt (.elem (.arg 0) (.index 0)))).before start1.args0 zz_about = true :=
  Cond.all_isInt_of_fit (a := 0) (cell := { cls := 29, slots := zz_script, vm := .none }) zz_hfit (fun _ => rfl) zz_arr (by show zz_script.size < 2 ^ 31; rw [zz_size]; decide) ⟨(fun k h => by cases h), _, rfl, 28, rfl⟩
set_option maxRecDepth 16384 in
theorem zz_len : (Cond.isInt (.length (.arg 0))).before start1.args0 zz_about = true := by decide +kernel
theorem zz_rest : rest_1_c.before start1.args0 zz_about = true :=
  (Cond.before_and (args := start1.args0) (s := zz_about) (.isInt (.length (.arg 0))) (.all (.arg 0) (.isInt (.elem (.arg 0) (.index 0))))).trans (by rw [zz_len, zz_all]; rfl)
set_option maxRecDepth 16384 in
theorem zz_st : zz_about.slotsTrue = true := by decide +kernel
set_option maxRecDepth 16384 in
theorem zz_rooms (r : Room) (hr : r = room_1 ∨ r = zz_room) : zz_about.hasRoom zz_e.platform r = true := by
  rcases hr with rfl | rfl
  · exact State.hasRoom_of rfl (by decide +kernel) (by decide +kernel) (by decide +kernel) (by decide +kernel) zz_st (by decide +kernel)
  · exact State.hasRoom_of rfl (by decide +kernel) (by decide +kernel) (by decide +kernel) (by decide +kernel) zz_st (by decide +kernel)
set_option maxRecDepth 16384 in
theorem zz_applies (r : Room) (hr : r = room_1 ∨ r = zz_room) : (headSpec (Jvm.Cond.code x code maxLocals ret :: tables_1) r).applies x zz_e.platform zz_about = true :=
  (Spec.applies_iff (m := ⟨0, 0⟩) (args := start1.args0) (below := Lib.HandBits.below0) rfl).mpr ⟨rfl, rfl, rfl, by decide +kernel, by decide +kernel, by decide +kernel, zz_rooms r hr, atoms_intro zz_words⟩
/-- THE STATEMENT IS FALSE -/
theorem p50_false : ¬ Claimed_1_1 := fun h =>
  zz_claim h (l := launch0) rfl lists_1 (p := start1.p0) (e := zz_e) (s := zz_about) (m := ⟨0, 0⟩) (args := start1.args0) (below := Lib.HandBits.below0) (launch0.admits_env _ _ _) fairChoices_fair.cas fairChoices_fair.clock rfl zz_fit zz_hfit (zz_applies _ (Or.inl rfl)) (zz_applies _ (Or.inr rfl)) zz_rest zz_prem (sb := 0) (xs := zz_xs) rfl zz_scr (by decide +kernel) zz_xs_ok
theorem p50_false_both : ¬ (Claimed_1_1 ∧ Claimed_1_2) := fun h => p50_false h.1
