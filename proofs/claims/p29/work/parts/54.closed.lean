/-! p29: the claim is false, without a premise: the printed witness's own start, but with a script of 110 threes -/
def z3 : Array Value := Array.replicate 110 (.int 3)
set_option maxRecDepth 100000 in
theorem z_rest : ((Jvm.Cond.code x code maxLocals ret :: tables_1).filter (fun c => !q_ok c)).all (fun c => c.before start1.args0 (start1.aboutOf z3)) = true := by decide +kernel
theorem z_words : ∀ c ∈ (Jvm.Cond.code x code maxLocals ret :: tables_1), c.before start1.args0 (start1.aboutOf z3) = true := by
  intro c hc
  by_cases hq : q_ok c = true
  · exact q_warm (s := start1.about) (U := start1.aboutOf z3) (State.WarmedH.refl start1.about) c _ _ hq (start1.words c hc)
  · exact List.all_eq_true.mp z_rest c (List.mem_filter.mpr ⟨hc, by simpa using hq⟩)
set_option maxRecDepth 100000 in
theorem z_app1 : (headSpec (Jvm.Cond.code x code maxLocals ret :: tables_1) room_1).applies x start1.e0.platform (start1.aboutOf z3) = true :=
  (Spec.applies_iff rfl).mpr ⟨rfl, rfl, rfl, by decide +kernel, by decide +kernel, by decide +kernel, launch0.hasRoom_least _ room_1 (by decide +kernel) (by decide +kernel) (by decide +kernel) (by decide +kernel) (by decide +kernel) (by decide +kernel), atoms_intro z_words⟩
set_option maxRecDepth 100000 in
theorem z_app2 : (headSpec (Jvm.Cond.code x code maxLocals ret :: tables_1) (rg 20 20000)).applies x start1.e0.platform (start1.aboutOf z3) = true :=
  (Spec.applies_iff rfl).mpr ⟨rfl, rfl, rfl, by decide +kernel, by decide +kernel, by decide +kernel, launch0.hasRoom_least _ (rg 20 20000) (by decide +kernel) (by decide +kernel) (by decide +kernel) (by decide +kernel) (by decide +kernel) (by decide +kernel), atoms_intro z_words⟩
theorem z_ints : (start1.aboutOf z3).IntsAt 0 (List.replicate 110 3) :=
  ⟨{ cls := 21, slots := z3, vm := .none }, rfl, by simp [z3], ⟨(fun k h => nomatch h), _, rfl, _, rfl⟩, by decide⟩
set_option maxRecDepth 100000 in
/-- **the printed claim of p29 is false** -/
theorem refuted : ¬ (Claimed_1_1 ∧ Claimed_1_2) :=
  no_claim (l := launch0) rfl lists_1 (p := start1.p0) (e := start1.e0) (launch0.admits_env _ _ _) fairChoices_fair.cas fairChoices_fair.clock (s := start1.aboutOf z3) (m := ⟨0, 0⟩) (args := start1.args0) (below := Lib.HandBits.below0) rfl (by decide +kernel) (by decide +kernel) z_app1
    (show rest_1_c.before start1.args0 (start1.aboutOf z3) = true by decide +kernel) (show (Jvm.Cond.and given_1 narrow_1).before start1.args0 (start1.aboutOf z3) = true by decide +kernel) z_app2 (b := 0) (xs := List.replicate 110 3) rfl z_ints (by decide) (by decide)
    (fun k hk => by rw [List.getD_eq_getElem?_getD, List.getElem?_replicate, if_pos hk]; rfl)
