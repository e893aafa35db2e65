/-- the script, int by int -/
def zz_xs : Nat → Int32 := fun j => if j < 270 then (if j % 5 = 2 then nI (10 + j / 5) else if j % 5 = 3 then 99 else 0) else if j % 5 = 0 then 33 else 0
def zz_script : Array Value := ((List.range 2520).map (fun j => Value.int (zz_xs j))).toArray
def zz_about : State := start1.aboutOf zz_script
def zz_e : Env := launch0.env 0 800000 400000000
theorem zz_xs_ok : zz_X zz_xs := ⟨by decide +kernel, by decide +kernel⟩
theorem zz_scr : va_X 0 2520 zz_xs zz_about zz_about.heap := by
  refine ⟨{ cls := 29, slots := zz_script, vm := .none }, rfl, ⟨fun k h => by cases h, _, rfl, 28, rfl⟩, (fun h => by cases h), ?_, fun j hj => ?_⟩
  · show zz_script.size = 2520
    unfold zz_script
    simp
  · show zz_script[j]? = some (.int (zz_xs j))
    unfold zz_script
    simp [hj]
set_option maxRecDepth 16384 in
theorem zz_words_ot : (Jvm.Cond.code x code maxLocals ret :: tables_1).all (fun c => c.onTables || c.before start1.args0 zz_about) = true := by decide +kernel
theorem zz_words : ∀ c ∈ (Jvm.Cond.code x code maxLocals ret :: tables_1), c.before start1.args0 zz_about = true := by
  intro c hc
  have h := List.all_eq_true.mp zz_words_ot c hc
  simp only [Bool.or_eq_true] at h
  rcases h with h1 | h1
  · exact va_tabs h1 (rfl : start1.about.vm = zz_about.vm) (start1.words c hc)
  · exact h1
set_option maxRecDepth 16384 in
theorem zz_pre : (Jvm.Cond.and given_1 narrow_1).before start1.args0 zz_about = true := by decide +kernel
set_option maxRecDepth 16384 in
theorem zz_rest : rest_1_c.before start1.args0 zz_about = true := by decide +kernel
set_option maxRecDepth 16384 in
theorem zz_fit : argsFit zz_about.vm ⟨0, 0⟩ start1.args0 = true := by decide +kernel
set_option maxRecDepth 16384 in
theorem zz_hfit : heapFits zz_about = true := by decide +kernel
set_option maxRecDepth 16384 in
theorem zz_st : zz_about.slotsTrue = true := by decide +kernel
set_option maxRecDepth 16384 in
theorem zz_rooms (r : Room) (hr : r = room_1 ∨ r = zz_room) : zz_about.hasRoom zz_e.platform r = true := by
  rcases hr with rfl | rfl
  · exact State.hasRoom_of rfl (by decide +kernel) (by decide +kernel) (by decide +kernel) (by decide +kernel) zz_st (by decide +kernel)
  · exact State.hasRoom_of rfl (by decide +kernel) (by decide +kernel) (by decide +kernel) (by decide +kernel) zz_st (by decide +kernel)
set_option maxRecDepth 16384 in
theorem zz_applies (r : Room) (hr : r = room_1 ∨ r = zz_room) : (headSpec (Jvm.Cond.code x code maxLocals ret :: tables_1) r).applies x zz_e.platform zz_about = true :=
  (Spec.applies_iff (m := ⟨0, 0⟩) (args := start1.args0) (below := Lib.HandBits.below0) rfl).mpr ⟨rfl, rfl, rfl, by decide +kernel, by decide +kernel, by decide +kernel, zz_rooms r hr, atoms_intro zz_words⟩
/-- THE STATEMENT IS FALSE -/
theorem p50_false : ¬ Claimed_1_1 := fun h =>
  zz_claim h (l := launch0) rfl lists_1 (p := start1.p0) (e := zz_e) (s := zz_about) (m := ⟨0, 0⟩) (args := start1.args0) (below := Lib.HandBits.below0) (launch0.admits_env _ _ _) fairChoices_fair.cas fairChoices_fair.clock rfl zz_fit zz_hfit (zz_applies _ (Or.inl rfl)) (zz_applies _ (Or.inr rfl)) zz_rest zz_pre (sb := 0) (xs := zz_xs) rfl zz_scr (by decide +kernel) zz_xs_ok
theorem p50_false_both : ¬ (Claimed_1_1 ∧ Claimed_1_2) := fun h => p50_false h.1
