noncomputable def pickg : List Cond → List Nat → List Cond
  | _, [] => []
  | l, n :: ns => match l.drop n with
    | [] => []
    | c :: t => c :: pickg t ns
theorem pickg_mem : ∀ (ns : List Nat) (l : List Cond) (w : Cond), w ∈ pickg l ns → w ∈ l
  | [], l, w, h => by simp [pickg] at h
  | n :: ns, l, w, h => by
    unfold pickg at h
    split at h
    · simp at h
    · rename_i c t e
      have hs : ∀ x, x ∈ c :: t → x ∈ l := fun x hx => List.mem_of_mem_drop (by rw [e]; exact hx)
      rcases List.mem_cons.mp h with h | h
      · subst h; exact hs _ List.mem_cons_self
      · exact hs _ (List.mem_cons_of_mem _ (pickg_mem ns t w h))
theorem goodIn_two {big S : List Cond} {gs : List Nat} (ws : List Cond) (ps : List Nat) (hs : S = pickg big gs) (hp : ws = ps.filterMap (fun i => S[i]?)) (h : ws.all goodWord = true) : GoodIn big ws := by
  intro w hw
  have h1 := (goodIn_r (big := S) ws ps hp h) w hw
  refine ⟨pickg_mem gs big w ?_, h1.2⟩
  rw [← hs]
  exact h1.1
noncomputable def sI_X0 : List Cond := [.laysFinal RX0 "SmokeTune$Court" "machine" "LSmokeTune$Machine;", .laysFinal RX0 "SmokeTune$Court" "words" "[I"]
set_option maxRecDepth 20000 in
theorem qI_X0 : sI_X0 = pickg lw_tbl [353, 1] := by decide +kernel
set_option maxRecDepth 20000 in
theorem gI_X0 : GoodIn lw_tbl wsX00 := goodIn_two _ [0, 1] qI_X0 (by decide +kernel) (by decide +kernel)
theorem i_X0 : ∀ w ∈ wsX00, w ∈ lw_tbl := fun w h => (gI_X0 w h).1
noncomputable def sI_X1 : List Cond := [.laysFinal RX1 "SmokeTune$Crew" "works" "LSmokeTune$Works;", .laysFinal RX1 "SmokeTune$Crew" "machine" "LSmokeTune$Machine;", .laysFinal RX1 "SmokeTune$Crew" "words" "[I", .laysFinal RX1 "SmokeTune$Crew" "townBefore" "LSmokeTune$Town;", .laysFinal RX1 "SmokeTune$Crew" "historyBefore" "LSmokeTune$History;", .lays RX1 "SmokeTune$Crew" "done" "I", .lays RX1 "SmokeTune$Crew" "met" "I", .lays RX1 "SmokeTune$Crew" "stopped" "I"]
set_option maxRecDepth 20000 in
theorem qI_X1 : sI_X1 = pickg lw_tbl [394, 1, 1, 1, 1, 1, 1, 1] := by decide +kernel
set_option maxRecDepth 20000 in
theorem gI_X1 : GoodIn lw_tbl wsX10 := goodIn_two _ [0, 1, 2, 3, 4, 5, 6, 7] qI_X1 (by decide +kernel) (by decide +kernel)
theorem i_X1 : ∀ w ∈ wsX10, w ∈ lw_tbl := fun w h => (gI_X1 w h).1
noncomputable def sI_X2 : List Cond := [.laysFinal RX2 "SmokeTune$History" "slots" "[I", .lays RX2 "SmokeTune$History" "drafted" "I", .lays RX2 "SmokeTune$History" "kept" "I"]
set_option maxRecDepth 20000 in
theorem qI_X2 : sI_X2 = pickg lw_tbl [377, 1, 1] := by decide +kernel
set_option maxRecDepth 20000 in
theorem gI_X2 : GoodIn lw_tbl wsX20 := goodIn_two _ [0, 1, 2] qI_X2 (by decide +kernel) (by decide +kernel)
theorem i_X2 : ∀ w ∈ wsX20, w ∈ lw_tbl := fun w h => (gI_X2 w h).1
noncomputable def sI_X3 : List Cond := [.laysFinal RX3 "SmokeTune$Machine" "stack" "[I", .lays RX3 "SmokeTune$Machine" "broken" "Z"]
set_option maxRecDepth 20000 in
theorem qI_X3 : sI_X3 = pickg lw_tbl [346, 1] := by decide +kernel
set_option maxRecDepth 20000 in
theorem gI_X3 : GoodIn lw_tbl wsX30 := goodIn_two _ [0, 1] qI_X3 (by decide +kernel) (by decide +kernel)
theorem i_X3 : ∀ w ∈ wsX30, w ∈ lw_tbl := fun w h => (gI_X3 w h).1
noncomputable def sI_X4 : List Cond := [.laysFinal RX4 "SmokeTune$Paper" "dinners" "[I", .laysFinal RX4 "SmokeTune$Paper" "pointed" "[I", .laysFinal RX4 "SmokeTune$Paper" "best" "[I", .laysFinal RX4 "SmokeTune$Paper" "row" "[I", .laysFinal RX4 "SmokeTune$Paper" "setNotes" "[I"]
set_option maxRecDepth 20000 in
theorem qI_X4 : sI_X4 = pickg lw_tbl [451, 1, 1, 1, 1] := by decide +kernel
set_option maxRecDepth 20000 in
theorem gI_X4 : GoodIn lw_tbl wsX40 := goodIn_two _ [0, 1, 2, 3, 4] qI_X4 (by decide +kernel) (by decide +kernel)
theorem i_X4 : ∀ w ∈ wsX40, w ∈ lw_tbl := fun w h => (gI_X4 w h).1
noncomputable def sI_X5 : List Cond := [.laysFinal RX5 "SmokeTune$Plan" "court" "LSmokeTune$Court;", .laysFinal RX5 "SmokeTune$Plan" "burns" "[I", .laysFinal RX5 "SmokeTune$Plan" "flared" "[I", .laysFinal RX5 "SmokeTune$Plan" "coal" "[I", .laysFinal RX5 "SmokeTune$Plan" "stokes" "[I", .laysFinal RX5 "SmokeTune$Plan" "after" "[I"]
set_option maxRecDepth 20000 in
theorem qI_X5 : sI_X5 = pickg lw_tbl [427, 1, 1, 1, 1, 1] := by decide +kernel
set_option maxRecDepth 20000 in
theorem gI_X5 : GoodIn lw_tbl wsX50 := goodIn_two _ [0, 1, 2, 3, 4, 5] qI_X5 (by decide +kernel) (by decide +kernel)
theorem i_X5 : ∀ w ∈ wsX50, w ∈ lw_tbl := fun w h => (gI_X5 w h).1
noncomputable def sI_X6 : List Cond := [.laysFinal RX6 "SmokeTune$Reader" "tape" "LSmokeTune$Tape;", .laysFinal RX6 "SmokeTune$Reader" "text" "LSmokeTune$Script;", .lays RX6 "SmokeTune$Reader" "lawful" "Z", .lays RX6 "SmokeTune$Reader" "parts" "I", .lays RX6 "SmokeTune$Reader" "faultAt" "I"]
set_option maxRecDepth 20000 in
theorem qI_X6 : sI_X6 = pickg lw_tbl [307, 1, 1, 1, 1] := by decide +kernel
set_option maxRecDepth 20000 in
theorem gI_X6 : GoodIn lw_tbl wsX60 := goodIn_two _ [0, 1, 2, 3, 4] qI_X6 (by decide +kernel) (by decide +kernel)
theorem i_X6 : ∀ w ∈ wsX60, w ∈ lw_tbl := fun w h => (gI_X6 w h).1
noncomputable def sI_X7 : List Cond := [.laysFinal RX7 "SmokeTune$Script" "heads" "[I", .laysFinal RX7 "SmokeTune$Script" "code" "[I", .lays RX7 "SmokeTune$Script" "clauses" "I", .lays RX7 "SmokeTune$Script" "used" "I"]
set_option maxRecDepth 20000 in
theorem qI_X7 : sI_X7 = pickg lw_tbl [290, 1, 1, 1] := by decide +kernel
set_option maxRecDepth 20000 in
theorem gI_X7 : GoodIn lw_tbl wsX70 := goodIn_two _ [0, 1, 2, 3] qI_X7 (by decide +kernel) (by decide +kernel)
theorem i_X7 : ∀ w ∈ wsX70, w ∈ lw_tbl := fun w h => (gI_X7 w h).1
noncomputable def sI_X8 : List Cond := [.laysFinal RX8 "SmokeTune$Tape" "bytes" "[I", .lays RX8 "SmokeTune$Tape" "length" "I", .lays RX8 "SmokeTune$Tape" "from" "I", .lays RX8 "SmokeTune$Tape" "to" "I", .lays RX8 "SmokeTune$Tape" "first" "I", .lays RX8 "SmokeTune$Tape" "number" "I"]
set_option maxRecDepth 20000 in
theorem qI_X8 : sI_X8 = pickg lw_tbl [260, 1, 1, 1, 1, 1] := by decide +kernel
set_option maxRecDepth 20000 in
theorem gI_X8 : GoodIn lw_tbl wsX80 := goodIn_two _ [0, 1, 2, 3, 4, 5] qI_X8 (by decide +kernel) (by decide +kernel)
theorem i_X8 : ∀ w ∈ wsX80, w ∈ lw_tbl := fun w h => (gI_X8 w h).1
noncomputable def sI_X9 : List Cond := [.laysFinal RX9 "SmokeTune$Town" "facts" "[I", .laysFinal RX9 "SmokeTune$Town" "chords" "[I", .laysFinal RX9 "SmokeTune$Town" "terms" "[I", .laysFinal RX9 "SmokeTune$Town" "laws" "[LSmokeTune$Script;", .lays RX9 "SmokeTune$Town" "houses" "I", .lays RX9 "SmokeTune$Town" "lawTotal" "I", .lays RX9 "SmokeTune$Town" "inForce" "I", .lays RX9 "SmokeTune$Town" "fines" "I", .lays RX9 "SmokeTune$Town" "heardTimes" "I", .lays RX9 "SmokeTune$Town" "heardNotes" "I"]
set_option maxRecDepth 20000 in
theorem qI_X9 : sI_X9 = pickg lw_tbl [213, 1, 1, 1, 1, 1, 1, 1, 1, 1] := by decide +kernel
set_option maxRecDepth 20000 in
theorem gI_X9 : GoodIn lw_tbl wsX90 := goodIn_two _ [0, 1, 2, 3, 4, 5, 6, 7, 8, 9] qI_X9 (by decide +kernel) (by decide +kernel)
theorem i_X9 : ∀ w ∈ wsX90, w ∈ lw_tbl := fun w h => (gI_X9 w h).1
noncomputable def sI_X10 : List Cond := [.laysFinal RX10 "SmokeTune$Works" "court" "LSmokeTune$Court;"]
set_option maxRecDepth 20000 in
theorem qI_X10 : sI_X10 = pickg lw_tbl [360] := by decide +kernel
set_option maxRecDepth 20000 in
theorem gI_X10 : GoodIn lw_tbl wsX100 := goodIn_two _ [0] qI_X10 (by decide +kernel) (by decide +kernel)
theorem i_X10 : ∀ w ∈ wsX100, w ∈ lw_tbl := fun w h => (gI_X10 w h).1
noncomputable def sI_X11 : List Cond := [.laysFinal RX11 "SmokeTune" "town" "LSmokeTune$Town;", .laysFinal RX11 "SmokeTune" "images" "[LSmokeTune$Town;", .laysFinal RX11 "SmokeTune" "imageKept" "[Z", .laysFinal RX11 "SmokeTune" "paperTown" "LSmokeTune$Town;", .laysFinal RX11 "SmokeTune" "reader" "LSmokeTune$Reader;", .laysFinal RX11 "SmokeTune" "tape" "LSmokeTune$Tape;", .laysFinal RX11 "SmokeTune" "crew" "LSmokeTune$Crew;", .laysFinal RX11 "SmokeTune" "works" "LSmokeTune$Works;", .laysFinal RX11 "SmokeTune" "court" "LSmokeTune$Court;", .laysFinal RX11 "SmokeTune" "history" "LSmokeTune$History;", .laysFinal RX11 "SmokeTune" "plan" "LSmokeTune$Plan;", .laysFinal RX11 "SmokeTune" "paper" "LSmokeTune$Paper;", .laysFinal RX11 "SmokeTune" "refusals" "[I", .lays RX11 "SmokeTune" "refusedBy" "I", .lays RX11 "SmokeTune" "ashTold" "I", .lays RX11 "SmokeTune" "daysKept" "Z", .lays RX11 "SmokeTune" "daysFines" "I"]
set_option maxRecDepth 20000 in
theorem qI_X11 : sI_X11 = pickg lw_tbl [479, 1, 1, 1, 1, 1, 1, 1, 1, 1, 1, 1, 1, 1, 1, 1, 1] := by decide +kernel
set_option maxRecDepth 20000 in
theorem gI_X11 : GoodIn lw_tbl wsX110 := goodIn_two _ [0, 1, 2, 3, 4, 5, 6, 7, 8, 9, 10, 11, 12, 13, 14, 15, 16] qI_X11 (by decide +kernel) (by decide +kernel)
theorem i_X11 : ∀ w ∈ wsX110, w ∈ lw_tbl := fun w h => (gI_X11 w h).1
noncomputable def sI_X12 : List Cond := [.lays RX12 "SmokeTuneModel" "thrown" "I", .lays RX12 "SmokeTuneModel" "status" "I", .laysFinal RX12 "SmokeTuneModel" "refusals" "[I", .laysFinal RX12 "SmokeTuneModel" "row" "[I", .laysFinal RX12 "SmokeTuneModel" "images" "[I", .laysFinal RX12 "SmokeTuneModel" "isKept" "[Z", .laysFinal RX12 "SmokeTuneModel" "undos" "[I", .laysFinal RX12 "SmokeTuneModel" "sorts" "[I", .lays RX12 "SmokeTuneModel" "nUndo" "I", .laysFinal RX12 "SmokeTuneModel" "undosBefore" "[I", .laysFinal RX12 "SmokeTuneModel" "sortsBefore" "[I", .lays RX12 "SmokeTuneModel" "ash" "I", .laysFinal RX12 "SmokeTuneModel" "tape" "[I", .lays RX12 "SmokeTuneModel" "taped" "I", .lays RX12 "SmokeTuneModel" "from" "I", .lays RX12 "SmokeTuneModel" "to" "I", .lays RX12 "SmokeTuneModel" "sort" "I", .lays RX12 "SmokeTuneModel" "worth" "J", .lays RX12 "SmokeTuneModel" "fault" "I", .lays RX12 "SmokeTuneModel" "bad" "Z", .lays RX12 "SmokeTuneModel" "ordered" "Z", .lays RX12 "SmokeTuneModel" "nClauses" "I", .laysFinal RX12 "SmokeTuneModel" "nClause" "[I", .lays RX12 "SmokeTuneModel" "nCode" "I", .laysFinal RX12 "SmokeTuneModel" "nOp" "[I", .laysFinal RX12 "SmokeTuneModel" "nArg" "[I", .lays RX12 "SmokeTuneModel" "nLeaves" "I", .laysFinal RX12 "SmokeTuneModel" "pile" "[I", .laysFinal RX12 "SmokeTuneModel" "pileAt" "[I", .lays RX12 "SmokeTuneModel" "piled" "I", .lays RX12 "SmokeTuneModel" "opened" "I", .laysFinal RX12 "SmokeTuneModel" "words" "[J", .laysFinal RX12 "SmokeTuneModel" "orderWords" "[J", .laysFinal RX12 "SmokeTuneModel" "heads" "[J", .lays RX12 "SmokeTuneModel" "law" "I", .laysFinal RX12 "SmokeTuneModel" "set" "[J", .laysFinal RX12 "SmokeTuneModel" "now" "[J", .laysFinal RX12 "SmokeTuneModel" "rest" "[J", .lays RX12 "SmokeTuneModel" "broken" "Z", .lays RX12 "SmokeTuneModel" "value" "J", .lays RX12 "SmokeTuneModel" "sum" "J", .laysFinal RX12 "SmokeTuneModel" "burns" "[I", .laysFinal RX12 "SmokeTuneModel" "least" "[I", .laysFinal RX12 "SmokeTuneModel" "thenFire" "[I", .laysFinal RX12 "SmokeTuneModel" "isSo3" "[Z", .laysFinal RX12 "SmokeTuneModel" "got" "[I", .laysFinal RX12 "SmokeTuneModel" "points" "[I", .laysFinal RX12 "SmokeTuneModel" "moved" "[I", .laysFinal RX12 "SmokeTuneModel" "players" "[I", .laysFinal RX12 "SmokeTuneModel" "burning" "[I", .laysFinal RX12 "SmokeTuneModel" "acts" "[J", .laysFinal RX12 "SmokeTuneModel" "nOrder" "[I", .lays RX12 "SmokeTuneModel" "done" "I", .lays RX12 "SmokeTuneModel" "met" "I", .lays RX12 "SmokeTuneModel" "stopped" "I", .lays RX12 "SmokeTuneModel" "off" "Z", .lays RX12 "SmokeTuneModel" "state" "J", .laysFinal RX12 "SmokeTuneModel" "drawn" "[I", .lays RX12 "SmokeTuneModel" "drawnFines" "I", .lays RX12 "SmokeTuneModel" "nDrawn" "I"]
set_option maxRecDepth 20000 in
theorem qI_X12 : sI_X12 = pickg lw_tbl [1226, 1, 1, 1, 1, 1, 1, 1, 1, 1, 1, 1, 1, 1, 1, 1, 1, 1, 1, 1, 1, 1, 1, 1, 1, 1, 1, 1, 1, 1, 1, 1, 1, 1, 1, 1, 1, 1, 1, 1, 1, 1, 1, 1, 1, 1, 1, 1, 1, 1, 1, 1, 1, 1, 1, 1, 1, 1, 1, 1] := by decide +kernel
set_option maxRecDepth 20000 in
theorem gI_X12 : GoodIn lw_tbl wsX120 := goodIn_two _ [0, 1, 2, 3, 4, 5, 6, 7, 8, 9, 10, 11, 12, 13, 14, 15, 16, 17, 18, 19, 20, 21, 22, 23, 24, 25, 26, 27, 28, 29, 30, 31, 32, 33, 34, 35, 36, 37, 38, 39, 40, 41, 42, 43, 44, 45, 46, 47, 48, 49, 50, 51, 52, 53, 54, 55, 56, 57, 58, 59] qI_X12 (by decide +kernel) (by decide +kernel)
theorem i_X12 : ∀ w ∈ wsX120, w ∈ lw_tbl := fun w h => (gI_X12 w h).1
theorem goodIn_three {big S : List Cond} {gs : List Nat} (ws : List Cond) (ps : List Nat) (hs : S = pickg big gs) (hp : ws.filter k2_isCode = ps.filterMap (fun i => big[i]?))
    (h : (ws.filter (fun w => !k2_isCode w)).all (fun w => decide (w ∈ S) && goodWord w) = true) : GoodIn big ws := by
  intro w hw
  by_cases hc : k2_isCode w = true
  · have h1 : w ∈ ws.filter k2_isCode := List.mem_filter.mpr ⟨hw, hc⟩
    rw [hp] at h1
    obtain ⟨i, -, hi⟩ := List.mem_filterMap.mp h1
    have hm : w ∈ big := List.mem_of_getElem? hi
    refine ⟨hm, ?_⟩
    cases w <;> first | (simp [k2_isCode] at hc; done) | exact Or.inl rfl
  · have h1 := List.all_eq_true.mp h w (List.mem_filter.mpr ⟨hw, by simpa using hc⟩)
    simp only [Bool.and_eq_true, decide_eq_true_eq] at h1
    refine ⟨pickg_mem gs big w ?_, good_of_word h1.2⟩
    rw [← hs]
    exact h1.1
