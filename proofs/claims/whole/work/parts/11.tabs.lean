theorem wd_54 : Cond.laysFinal "TaskStates2" "TaskStates2" "codes" "[LTaskStates2$Code;" ∈ am_G := am_inG 54 (by decide +kernel) (by decide +kernel)
theorem wd_56 : Cond.laysFinal "TaskStates2" "TaskStates2" "terminals" "[LTaskStates2$Terminal;" ∈ am_G := am_inG 56 (by decide +kernel) (by decide +kernel)
theorem wd_58 : Cond.laysFinal "TaskStates2" "TaskStates2" "tasks" "[LTaskStates2$Task;" ∈ am_G := am_inG 58 (by decide +kernel) (by decide +kernel)
theorem wd_60 : Cond.laysFinal "TaskStates2" "TaskStates2" "limits" "[I" ∈ am_G := am_inG 60 (by decide +kernel) (by decide +kernel)
theorem wd_62 : Cond.laysFinal "TaskStates2" "TaskStates2" "activeOfClass" "[I" ∈ am_G := am_inG 62 (by decide +kernel) (by decide +kernel)
theorem wd_64 : Cond.lays "TaskStates2" "TaskStates2" "codeCount" "I" ∈ am_G := am_inG 64 (by decide +kernel) (by decide +kernel)
theorem wd_66 : Cond.lays "TaskStates2" "TaskStates2" "terminalCount" "I" ∈ am_G := am_inG 66 (by decide +kernel) (by decide +kernel)
theorem wd_68 : Cond.lays "TaskStates2" "TaskStates2" "taskCount" "I" ∈ am_G := am_inG 68 (by decide +kernel) (by decide +kernel)
theorem wd_70 : Cond.lays "TaskStates2" "TaskStates2" "time" "J" ∈ am_G := am_inG 70 (by decide +kernel) (by decide +kernel)
theorem am_lays0 : ∀ w ∈ u_ws "TaskStates2" am_F0 9, w ∈ am_G := List.forall_mem_cons.mpr ⟨wd_54, List.forall_mem_cons.mpr ⟨wd_56, List.forall_mem_cons.mpr ⟨wd_58, List.forall_mem_cons.mpr ⟨wd_60, List.forall_mem_cons.mpr ⟨wd_62, List.forall_mem_cons.mpr ⟨wd_64, List.forall_mem_cons.mpr ⟨wd_66, List.forall_mem_cons.mpr ⟨wd_68, List.forall_mem_cons.mpr ⟨wd_70, (fun _ h => absurd h List.not_mem_nil)⟩⟩⟩⟩⟩⟩⟩⟩⟩
theorem wd_100 : Cond.laysFinal "TaskStates2$Code" "TaskStates2$Code" "number" "I" ∈ am_G := am_inG 100 (by decide +kernel) (by decide +kernel)
theorem wd_102 : Cond.laysFinal "TaskStates2$Code" "TaskStates2$Code" "program" "I" ∈ am_G := am_inG 102 (by decide +kernel) (by decide +kernel)
theorem wd_104 : Cond.laysFinal "TaskStates2$Code" "TaskStates2$Code" "cls" "I" ∈ am_G := am_inG 104 (by decide +kernel) (by decide +kernel)
theorem wd_106 : Cond.laysFinal "TaskStates2$Code" "TaskStates2$Code" "priority" "I" ∈ am_G := am_inG 106 (by decide +kernel) (by decide +kernel)
theorem am_lays1 : ∀ w ∈ u_ws "TaskStates2$Code" am_F1 4, w ∈ am_G := List.forall_mem_cons.mpr ⟨wd_100, List.forall_mem_cons.mpr ⟨wd_102, List.forall_mem_cons.mpr ⟨wd_104, List.forall_mem_cons.mpr ⟨wd_106, (fun _ h => absurd h List.not_mem_nil)⟩⟩⟩⟩
theorem wd_123 : Cond.laysFinal "TaskStates2$Terminal" "TaskStates2$Terminal" "number" "I" ∈ am_G := am_inG 123 (by decide +kernel) (by decide +kernel)
theorem wd_125 : Cond.lays "TaskStates2$Terminal" "TaskStates2$Terminal" "next" "I" ∈ am_G := am_inG 125 (by decide +kernel) (by decide +kernel)
theorem wd_127 : Cond.lays "TaskStates2$Terminal" "TaskStates2$Terminal" "area" "I" ∈ am_G := am_inG 127 (by decide +kernel) (by decide +kernel)
theorem wd_129 : Cond.lays "TaskStates2$Terminal" "TaskStates2$Terminal" "activeTask" "I" ∈ am_G := am_inG 129 (by decide +kernel) (by decide +kernel)
theorem am_lays2 : ∀ w ∈ u_ws "TaskStates2$Terminal" am_F2 4, w ∈ am_G := List.forall_mem_cons.mpr ⟨wd_123, List.forall_mem_cons.mpr ⟨wd_125, List.forall_mem_cons.mpr ⟨wd_127, List.forall_mem_cons.mpr ⟨wd_129, (fun _ h => absurd h List.not_mem_nil)⟩⟩⟩⟩
theorem wd_167 : Cond.laysFinal "TaskStates2$Level" "TaskStates2$Level" "program" "I" ∈ am_G := am_inG 167 (by decide +kernel) (by decide +kernel)
theorem wd_169 : Cond.laysFinal "TaskStates2$Level" "TaskStates2$Level" "depth" "I" ∈ am_G := am_inG 169 (by decide +kernel) (by decide +kernel)
theorem wd_171 : Cond.laysFinal "TaskStates2$Level" "TaskStates2$Level" "below" "LTaskStates2$Level;" ∈ am_G := am_inG 171 (by decide +kernel) (by decide +kernel)
theorem wd_173 : Cond.laysFinal "TaskStates2$Level" "TaskStates2$Level" "labels" "[I" ∈ am_G := am_inG 173 (by decide +kernel) (by decide +kernel)
theorem am_lays3 : ∀ w ∈ u_ws "TaskStates2$Level" am_F3 4, w ∈ am_G := List.forall_mem_cons.mpr ⟨wd_167, List.forall_mem_cons.mpr ⟨wd_169, List.forall_mem_cons.mpr ⟨wd_171, List.forall_mem_cons.mpr ⟨wd_173, (fun _ h => absurd h List.not_mem_nil)⟩⟩⟩⟩
theorem wd_191 : Cond.laysFinal "TaskStates2$Task" "TaskStates2$Task" "number" "I" ∈ am_G := am_inG 191 (by decide +kernel) (by decide +kernel)
theorem wd_193 : Cond.laysFinal "TaskStates2$Task" "TaskStates2$Task" "code" "LTaskStates2$Code;" ∈ am_G := am_inG 193 (by decide +kernel) (by decide +kernel)
theorem wd_195 : Cond.laysFinal "TaskStates2$Task" "TaskStates2$Task" "terminal" "LTaskStates2$Terminal;" ∈ am_G := am_inG 195 (by decide +kernel) (by decide +kernel)
theorem wd_197 : Cond.laysFinal "TaskStates2$Task" "TaskStates2$Task" "from" "J" ∈ am_G := am_inG 197 (by decide +kernel) (by decide +kernel)
theorem wd_199 : Cond.lays "TaskStates2$Task" "TaskStates2$Task" "state" "I" ∈ am_G := am_inG 199 (by decide +kernel) (by decide +kernel)
theorem wd_201 : Cond.lays "TaskStates2$Task" "TaskStates2$Task" "event" "I" ∈ am_G := am_inG 201 (by decide +kernel) (by decide +kernel)
theorem wd_203 : Cond.lays "TaskStates2$Task" "TaskStates2$Task" "storage" "I" ∈ am_G := am_inG 203 (by decide +kernel) (by decide +kernel)
theorem wd_205 : Cond.lays "TaskStates2$Task" "TaskStates2$Task" "top" "LTaskStates2$Level;" ∈ am_G := am_inG 205 (by decide +kernel) (by decide +kernel)
theorem am_lays4 : ∀ w ∈ u_ws "TaskStates2$Task" am_F4 8, w ∈ am_G := List.forall_mem_cons.mpr ⟨wd_191, List.forall_mem_cons.mpr ⟨wd_193, List.forall_mem_cons.mpr ⟨wd_195, List.forall_mem_cons.mpr ⟨wd_197, List.forall_mem_cons.mpr ⟨wd_199, List.forall_mem_cons.mpr ⟨wd_201, List.forall_mem_cons.mpr ⟨wd_203, List.forall_mem_cons.mpr ⟨wd_205, (fun _ h => absurd h List.not_mem_nil)⟩⟩⟩⟩⟩⟩⟩⟩
theorem wd_343 : Cond.lays "TaskStates2Model" "TaskStates2Model" "code" "I" ∈ am_G := am_inG 343 (by decide +kernel) (by decide +kernel)
theorem wd_345 : Cond.lays "TaskStates2Model" "TaskStates2Model" "codes" "I" ∈ am_G := am_inG 345 (by decide +kernel) (by decide +kernel)
theorem wd_347 : Cond.lays "TaskStates2Model" "TaskStates2Model" "terminals" "I" ∈ am_G := am_inG 347 (by decide +kernel) (by decide +kernel)
theorem wd_349 : Cond.lays "TaskStates2Model" "TaskStates2Model" "tasks" "I" ∈ am_G := am_inG 349 (by decide +kernel) (by decide +kernel)
theorem wd_351 : Cond.lays "TaskStates2Model" "TaskStates2Model" "time" "J" ∈ am_G := am_inG 351 (by decide +kernel) (by decide +kernel)
theorem wd_353 : Cond.laysFinal "TaskStates2Model" "TaskStates2Model" "programs" "[I" ∈ am_G := am_inG 353 (by decide +kernel) (by decide +kernel)
theorem wd_355 : Cond.laysFinal "TaskStates2Model" "TaskStates2Model" "classes" "[I" ∈ am_G := am_inG 355 (by decide +kernel) (by decide +kernel)
theorem wd_357 : Cond.laysFinal "TaskStates2Model" "TaskStates2Model" "priorities" "[I" ∈ am_G := am_inG 357 (by decide +kernel) (by decide +kernel)
theorem wd_359 : Cond.laysFinal "TaskStates2Model" "TaskStates2Model" "nexts" "[I" ∈ am_G := am_inG 359 (by decide +kernel) (by decide +kernel)
theorem wd_361 : Cond.laysFinal "TaskStates2Model" "TaskStates2Model" "areas" "[I" ∈ am_G := am_inG 361 (by decide +kernel) (by decide +kernel)
theorem wd_363 : Cond.laysFinal "TaskStates2Model" "TaskStates2Model" "limits" "[I" ∈ am_G := am_inG 363 (by decide +kernel) (by decide +kernel)
theorem wd_365 : Cond.laysFinal "TaskStates2Model" "TaskStates2Model" "of" "[I" ∈ am_G := am_inG 365 (by decide +kernel) (by decide +kernel)
theorem wd_367 : Cond.laysFinal "TaskStates2Model" "TaskStates2Model" "ats" "[I" ∈ am_G := am_inG 367 (by decide +kernel) (by decide +kernel)
theorem wd_369 : Cond.laysFinal "TaskStates2Model" "TaskStates2Model" "states" "[I" ∈ am_G := am_inG 369 (by decide +kernel) (by decide +kernel)
theorem wd_371 : Cond.laysFinal "TaskStates2Model" "TaskStates2Model" "events" "[I" ∈ am_G := am_inG 371 (by decide +kernel) (by decide +kernel)
theorem wd_373 : Cond.laysFinal "TaskStates2Model" "TaskStates2Model" "levels" "[I" ∈ am_G := am_inG 373 (by decide +kernel) (by decide +kernel)
theorem wd_375 : Cond.laysFinal "TaskStates2Model" "TaskStates2Model" "stores" "[I" ∈ am_G := am_inG 375 (by decide +kernel) (by decide +kernel)
theorem wd_377 : Cond.laysFinal "TaskStates2Model" "TaskStates2Model" "whens" "[J" ∈ am_G := am_inG 377 (by decide +kernel) (by decide +kernel)
theorem wd_379 : Cond.laysFinal "TaskStates2Model" "TaskStates2Model" "levelPrograms" "[I" ∈ am_G := am_inG 379 (by decide +kernel) (by decide +kernel)
theorem wd_381 : Cond.laysFinal "TaskStates2Model" "TaskStates2Model" "labels" "[I" ∈ am_G := am_inG 381 (by decide +kernel) (by decide +kernel)
theorem am_lays5 : ∀ w ∈ u_ws "TaskStates2Model" am_F5 20, w ∈ am_G := List.forall_mem_cons.mpr ⟨wd_343, List.forall_mem_cons.mpr ⟨wd_345, List.forall_mem_cons.mpr ⟨wd_347, List.forall_mem_cons.mpr ⟨wd_349, List.forall_mem_cons.mpr ⟨wd_351, List.forall_mem_cons.mpr ⟨wd_353, List.forall_mem_cons.mpr ⟨wd_355, List.forall_mem_cons.mpr ⟨wd_357, List.forall_mem_cons.mpr ⟨wd_359, List.forall_mem_cons.mpr ⟨wd_361, List.forall_mem_cons.mpr ⟨wd_363, List.forall_mem_cons.mpr ⟨wd_365, List.forall_mem_cons.mpr ⟨wd_367, List.forall_mem_cons.mpr ⟨wd_369, List.forall_mem_cons.mpr ⟨wd_371, List.forall_mem_cons.mpr ⟨wd_373, List.forall_mem_cons.mpr ⟨wd_375, List.forall_mem_cons.mpr ⟨wd_377, List.forall_mem_cons.mpr ⟨wd_379, List.forall_mem_cons.mpr ⟨wd_381, (fun _ h => absurd h List.not_mem_nil)⟩⟩⟩⟩⟩⟩⟩⟩⟩⟩⟩⟩⟩⟩⟩⟩⟩⟩⟩⟩
theorem am_cl_ok : am_clk := by
  intro a C F N h
  match a, h with
  | 0, h => cases h; exact ⟨by decide, am_lays0, by decide +kernel, by decide +kernel, rfl, by decide +kernel, rfl⟩
  | 1, h => cases h; exact ⟨by decide, am_lays1, by decide +kernel, by decide +kernel, rfl, by decide +kernel, rfl⟩
  | 2, h => cases h; exact ⟨by decide, am_lays2, by decide +kernel, by decide +kernel, rfl, by decide +kernel, rfl⟩
  | 3, h => cases h; exact ⟨by decide, am_lays3, by decide +kernel, by decide +kernel, rfl, by decide +kernel, rfl⟩
  | 4, h => cases h; exact ⟨by decide, am_lays4, by decide +kernel, by decide +kernel, rfl, by decide +kernel, rfl⟩
  | 5, h => cases h; exact ⟨by decide, am_lays5, by decide +kernel, by decide +kernel, rfl, by decide +kernel, rfl⟩
  | a + 6, h => simp [am_cl] at h
def am_all : List am_M → List (List (Nat × am_I)) → Prop
  | [], [] => True
  | M :: Ms, c :: cs => (∀ q ∈ c, am_okq M q.1 q.2) ∧ am_all Ms cs
  | _, _ => False
theorem am_all_get : ∀ (Ms : List am_M) (cs : List (List (Nat × am_I))), am_all Ms cs → ∀ (i : Nat) (l : List (Nat × am_I)), cs[i]? = some l → ∃ M : am_M, Ms[i]? = some M ∧ ∀ q ∈ l, am_okq M q.1 q.2
  | [], [], _, i, l, h => by simp at h
  | M :: Ms, c :: cs, H, 0, l, h => by
    have e : c = l := by simpa using h
    subst e
    exact ⟨M, rfl, H.1⟩
  | M :: Ms, c :: cs, H, i + 1, l, h => am_all_get Ms cs H.2 i l (by simpa using h)
  | [], _ :: _, H, _, _, _ => H.elim
  | _ :: _, [], H, _, _, _ => H.elim
set_option maxRecDepth 20000 in
theorem am_all_ok : am_all am_m am_cs := ⟨am_ok0, ⟨am_ok1, ⟨am_ok2, ⟨am_ok3, ⟨am_ok4, ⟨am_ok5, ⟨am_ok6, ⟨am_ok7, ⟨am_ok8, ⟨am_ok9, ⟨am_ok10, ⟨am_ok11, ⟨am_ok12, ⟨am_ok13, ⟨am_ok14, ⟨am_ok15, ⟨am_ok16, ⟨am_ok17, ⟨am_ok18, ⟨am_ok19, ⟨am_ok20, ⟨am_ok21, ⟨am_ok22, ⟨am_ok23, ⟨am_ok24, ⟨am_ok25, ⟨am_ok26, ⟨am_ok27, ⟨am_ok28, ⟨am_ok29, ⟨am_ok30, ⟨am_ok31, ⟨am_ok32, ⟨am_ok33, ⟨am_ok34, ⟨am_ok35, ⟨am_ok36, ⟨am_ok37, ⟨am_ok38, ⟨am_ok39, ⟨am_ok40, ⟨am_ok41, ⟨am_ok42, ⟨am_ok43, ⟨am_ok44, ⟨am_ok45, ⟨am_ok46, ⟨am_ok47, ⟨am_ok48, ⟨am_ok49, ⟨am_ok50, ⟨am_ok51, ⟨am_ok52, ⟨am_ok53, ⟨am_ok54, ⟨am_ok55, ⟨am_ok56, ⟨am_ok57, ⟨am_ok58, ⟨am_ok59, ⟨am_ok60, ⟨am_ok61, ⟨am_ok62, ⟨am_ok63, ⟨am_ok64, ⟨am_ok65, ⟨am_ok66, ⟨am_ok67, ⟨am_ok68, ⟨am_ok69, ⟨am_ok70, ⟨am_ok71, trivial⟩⟩⟩⟩⟩⟩⟩⟩⟩⟩⟩⟩⟩⟩⟩⟩⟩⟩⟩⟩⟩⟩⟩⟩⟩⟩⟩⟩⟩⟩⟩⟩⟩⟩⟩⟩⟩⟩⟩⟩⟩⟩⟩⟩⟩⟩⟩⟩⟩⟩⟩⟩⟩⟩⟩⟩⟩⟩⟩⟩⟩⟩⟩⟩⟩⟩⟩⟩⟩⟩⟩⟩
theorem am_rfit_b {mi : Nat} {M : am_M} (h : am_m[mi]? = some M) (v : Int32) (hv : am_rfit mi (.int v) = true) (hr : M.2.2.2.1 = some .boolean) : v = 0 ∨ v = 1 := by
  unfold am_rfit at hv
  rw [h] at hv
  dsimp only at hv
  rw [hr] at hv
  simpa using hv
theorem am_tabs_ok : am_tabs := by
  refine ⟨am_cl_ok, fun mi pc q h => ?_⟩
  unfold am_ins at h
  split at h
  · rename_i l hl
    obtain ⟨M, e1, e2⟩ := am_all_get _ _ am_all_ok mi l hl
    have h3 := e2 (pc, q) (am_find_mem h)
    dsimp only at h3
    exact ⟨M, e1, h3, am_mL_of e1, fun v hv hr => am_rfit_b e1 v hv hr⟩
  · cases h
