/-! the words of nest mates, array classes, the world of a contract, calls -/
noncomputable def nst_0 : List Cond := [.methodLinkNest RX11 9 yX9_init RX11, .methodLinkNest RX11 29 yX6_init RX11, .methodLinkNest RX6 11 yX8_init RX11, .methodLinkNest RX6 20 yX7_init RX11, .methodLinkNest RX11 41 yX1_init RX11, .methodLinkNest RX1 13 yX10_init RX11, .methodLinkNest RX10 11 yX0_init RX11, .methodLinkNest RX0 11 yX3_init RX11, .methodLinkNest RX1 20 yX3_init RX11, .methodLinkNest RX1 31 yX9_init RX11, .methodLinkNest RX1 38 yX2_init RX11, .methodLinkNest RX11 60 yX2_init RX11, .methodLinkNest RX11 67 yX5_init RX11, .methodLinkNest RX5 11 yX0_init RX11, .methodLinkNest RX11 74 yX4_init RX11, .methodLinkNest RX11 105 yX9_dinerOf RX11, .methodLinkNest RX11 111 yX2_clear RX11, .methodLinkNest RX11 114 yX9_build RX11, .methodLinkNest RX9 52 yX11_within RX11, .methodLinkNest RX11 121 yX9_has RX11, .methodLinkNest RX11 125 yX9_fact RX11, .methodLinkNest RX11 129 yX9_sings RX11, .methodLinkNest RX11 132 yX0_face RX11, .methodLinkNest RX0 27 yX9_fact RX11, .methodLinkNest RX11 138 yX9_lawInForce RX11]
noncomputable def nst_1 : List Cond := [.methodLinkNest RX11 142 yX0_told RX11, .methodLinkNest RX0 40 yX7_head RX11, .methodLinkNest RX0 46 yX3_run RX11, .methodLinkNest RX11 146 yX9_chordAt RX11, .methodLinkNest RX11 166 yX8_take RX11, .methodLinkNest RX11 170 yX8_byteAt RX11, .methodLinkNest RX11 176 yX6_reads RX11, .methodLinkNest RX6 47 yX8_step RX11, .methodLinkNest RX6 67 yX8_find RX11, .methodLinkNest RX6 75 yX7_open RX11, .methodLinkNest RX6 88 yX7_setHead RX11, .methodLinkNest RX6 95 yX7_emit RX11, .methodLinkNest RX6 121 yX7_land RX11, .methodLinkNest RX11 184 yX7_trimmed RX11, .methodLinkNest RX11 189 yX9_enact RX11, .methodLinkNest RX11 196 yX1_carryOut RX11, .methodLinkNest RX1 53 yX9_become RX11, .methodLinkNest RX1 57 yX2_become RX11, .methodLinkNest RX1 65 yX7_head RX11, .methodLinkNest RX1 115 yX9_has RX11, .methodLinkNest RX1 119 yX9_fact RX11, .methodLinkNest RX1 122 yX9_sings RX11, .methodLinkNest RX1 79 yX3_run RX11, .methodLinkNest RX1 87 yX2_draft RX11, .methodLinkNest RX1 90 yX10_kindle RX11]
noncomputable def nst_2 : List Cond := [.methodLinkNest RX10 18 yX9_has RX11, .methodLinkNest RX10 24 yX9_fact RX11, .methodLinkNest RX10 28 yX0_face RX11, .methodLinkNest RX10 32 yX9_lawInForce RX11, .methodLinkNest RX10 36 yX0_told RX11, .methodLinkNest RX10 45 yX9_put RX11, .methodLinkNest RX1 94 yX10_quench RX11, .methodLinkNest RX10 49 yX11_within RX11, .methodLinkNest RX1 98 yX10_supply RX11, .methodLinkNest RX1 101 yX10_nextHour RX11, .methodLinkNest RX10 60 yX9_meetsChord RX11, .methodLinkNest RX10 80 yX9_sings RX11, .methodLinkNest RX10 83 yX9_beside RX11, .methodLinkNest RX10 87 yX0_facing RX11, .methodLinkNest RX1 105 yX2_keep RX11, .methodLinkNest RX11 206 yX10_discords RX11, .methodLinkNest RX11 210 yX9_notesNow RX11, .methodLinkNest RX11 214 yX9_thirdsNow RX11, .methodLinkNest RX11 217 yX9_meetsChord RX11, .methodLinkNest RX11 221 yX2_draft RX11, .methodLinkNest RX11 225 yX10_kindle RX11, .methodLinkNest RX11 300 yX2_keep RX11, .methodLinkNest RX11 232 yX10_quench RX11, .methodLinkNest RX11 236 yX10_supply RX11, .methodLinkNest RX11 239 yX10_nextHour RX11]
noncomputable def nst_3 : List Cond := [.methodLinkNest RX11 242 yX2_takeBack RX11, .methodLinkNest RX11 245 yX5_leastCoal RX11, .methodLinkNest RX5 52 yX9_lawInForce RX11, .methodLinkNest RX5 56 yX0_face RX11, .methodLinkNest RX5 60 yX0_told RX11, .methodLinkNest RX5 69 yX9_loud RX11, .methodLinkNest RX5 42 yX9_fact RX11, .methodLinkNest RX5 48 yX11_within RX11, .methodLinkNest RX11 249 yX4_swapped RX11, .methodLinkNest RX4 45 yX9_fact RX11, .methodLinkNest RX4 41 yX11_within RX11, .methodLinkNest RX11 252 yX4_retune RX11, .methodLinkNest RX11 255 yX4_tunedNote RX11, .methodLinkNest RX11 264 yX4_hillSet RX11, .methodLinkNest RX11 267 yX4_question RX11, .methodLinkNest RX11 270 yX4_odds RX11, .methodLinkNest RX4 99 yX9_sings RX11, .methodLinkNest RX11 276 yX9_lawAt RX11, .methodLinkNest RX11 280 yX5_coalBy RX11, .methodLinkNest RX11 285 yX9_become RX11, .methodLinkNest RX11 288 yX10_byDraws RX11, .methodLinkNest RX11 294 yX9_singing RX11, .fieldLinkNest RX2 36 "SmokeTune$Town" "facts" "[I" RX11, .fieldLinkNest RX11 149 "SmokeTune$Town" "chords" "[I" RX11, .fieldLinkNest RX0 22 "SmokeTune$Town" "terms" "[I" RX11]
noncomputable def nst_4 : List Cond := [.fieldLinkNest RX1 109 "SmokeTune$Town" "terms" "[I" RX11, .fieldLinkNest RX10 56 "SmokeTune$Town" "terms" "[I" RX11, .fieldLinkNest RX2 33 "SmokeTune$Town" "terms" "[I" RX11, .fieldLinkNest RX5 80 "SmokeTune$Town" "terms" "[I" RX11, .fieldLinkNest RX11 158 "SmokeTune$Town" "terms" "[I" RX11, .fieldLinkNest RX4 102 "SmokeTune$Town" "terms" "[I" RX11, .fieldLinkNest RX4 27 "SmokeTune$Town" "houses" "I" RX11, .fieldLinkNest RX11 108 "SmokeTune$Town" "houses" "I" RX11, .fieldLinkNest RX5 76 "SmokeTune$Town" "houses" "I" RX11, .fieldLinkNest RX10 77 "SmokeTune$Town" "houses" "I" RX11, .fieldLinkNest RX11 173 "SmokeTune$Town" "lawTotal" "I" RX11, .fieldLinkNest RX11 203 "SmokeTune$Town" "inForce" "I" RX11, .fieldLinkNest RX1 112 "SmokeTune$Town" "fines" "I" RX11, .fieldLinkNest RX2 28 "SmokeTune$Town" "fines" "I" RX11, .fieldLinkNest RX10 65 "SmokeTune$Town" "fines" "I" RX11, .fieldLinkNest RX11 291 "SmokeTune$Town" "fines" "I" RX11, .fieldLinkNest RX11 258 "SmokeTune$Town" "heardTimes" "I" RX11, .fieldLinkNest RX4 81 "SmokeTune$Town" "heardNotes" "I" RX11, .fieldLinkNest RX11 261 "SmokeTune$Town" "heardNotes" "I" RX11, .fieldLinkNest RX6 60 "SmokeTune$Tape" "length" "I" RX11, .fieldLinkNest RX11 161 "SmokeTune$Tape" "length" "I" RX11, .fieldLinkNest RX6 57 "SmokeTune$Tape" "from" "I" RX11, .fieldLinkNest RX6 44 "SmokeTune$Tape" "to" "I" RX11, .fieldLinkNest RX6 54 "SmokeTune$Tape" "first" "I" RX11, .fieldLinkNest RX6 101 "SmokeTune$Tape" "number" "I" RX11]
noncomputable def nst_5 : List Cond := [.fieldLinkNest RX1 76 "SmokeTune$Script" "code" "[I" RX11, .fieldLinkNest RX0 43 "SmokeTune$Script" "code" "[I" RX11, .fieldLinkNest RX6 38 "SmokeTune$Script" "clauses" "I" RX11, .fieldLinkNest RX1 60 "SmokeTune$Script" "clauses" "I" RX11, .fieldLinkNest RX0 34 "SmokeTune$Script" "clauses" "I" RX11, .fieldLinkNest RX6 41 "SmokeTune$Script" "used" "I" RX11, .fieldLinkNest RX11 34 "SmokeTune$Reader" "tape" "LSmokeTune$Tape;" RX11, .fieldLinkNest RX11 180 "SmokeTune$Reader" "text" "LSmokeTune$Script;" RX11, .fieldLinkNest RX11 200 "SmokeTune$Reader" "faultAt" "I" RX11, .fieldLinkNest RX1 83 "SmokeTune$Machine" "broken" "Z" RX11, .fieldLinkNest RX0 50 "SmokeTune$Machine" "broken" "Z" RX11, .fieldLinkNest RX11 51 "SmokeTune$Works" "court" "LSmokeTune$Court;" RX11, .fieldLinkNest RX11 297 "SmokeTune$History" "kept" "I" RX11, .fieldLinkNest RX11 46 "SmokeTune$Crew" "works" "LSmokeTune$Works;" RX11, .fieldLinkNest RX11 193 "SmokeTune$Crew" "stopped" "I" RX11, .fieldLinkNest RX0 31 "SmokeTune" "WITHOUT_LAW" "[I" RX11, .fieldLinkNest RX0 54 "SmokeTune" "MOST_BY_LAW" "[I" RX11]
noncomputable def nst : List Cond := nst_0 ++ nst_1 ++ nst_2 ++ nst_3 ++ nst_4 ++ nst_5
noncomputable def isNest : Cond → Bool
  | .fieldLinkNest _ _ _ _ _ _ => true
  | .methodLinkNest _ _ _ _ => true
  | _ => false
theorem nst_all : nst.all isNest = true := by decide +kernel
noncomputable def npick : List Cond → List Nat → List Cond
  | _, [] => []
  | l, n :: ns => match l.drop n with
    | [] => []
    | c :: t => c :: npick t ns
theorem npick_mem : ∀ (ns : List Nat) (l : List Cond) (w : Cond), w ∈ npick l ns → w ∈ l
  | [], l, w, h => by simp [npick] at h
  | n :: ns, l, w, h => by
    unfold npick at h
    split at h
    · simp at h
    · rename_i c t e
      have hs : ∀ x, x ∈ c :: t → x ∈ l := fun x hx => List.mem_of_mem_drop (by rw [e]; exact hx)
      rcases List.mem_cons.mp h with h | h
      · subst h; exact hs _ List.mem_cons_self
      · exact hs _ (List.mem_cons_of_mem _ (npick_mem ns t w h))
noncomputable def nst_T : List Cond := [.methodLinkNest RX11 9 yX9_init RX11, .fieldLinkNest RX2 36 "SmokeTune$Town" "facts" "[I" RX11, .fieldLinkNest RX11 149 "SmokeTune$Town" "chords" "[I" RX11, .fieldLinkNest RX0 22 "SmokeTune$Town" "terms" "[I" RX11, .fieldLinkNest RX1 109 "SmokeTune$Town" "terms" "[I" RX11, .fieldLinkNest RX10 56 "SmokeTune$Town" "terms" "[I" RX11, .fieldLinkNest RX2 33 "SmokeTune$Town" "terms" "[I" RX11, .fieldLinkNest RX5 80 "SmokeTune$Town" "terms" "[I" RX11, .fieldLinkNest RX11 158 "SmokeTune$Town" "terms" "[I" RX11, .fieldLinkNest RX4 102 "SmokeTune$Town" "terms" "[I" RX11, .fieldLinkNest RX4 27 "SmokeTune$Town" "houses" "I" RX11, .fieldLinkNest RX11 108 "SmokeTune$Town" "houses" "I" RX11, .fieldLinkNest RX5 76 "SmokeTune$Town" "houses" "I" RX11, .fieldLinkNest RX10 77 "SmokeTune$Town" "houses" "I" RX11, .fieldLinkNest RX11 173 "SmokeTune$Town" "lawTotal" "I" RX11, .fieldLinkNest RX11 203 "SmokeTune$Town" "inForce" "I" RX11, .fieldLinkNest RX1 112 "SmokeTune$Town" "fines" "I" RX11, .fieldLinkNest RX2 28 "SmokeTune$Town" "fines" "I" RX11, .fieldLinkNest RX10 65 "SmokeTune$Town" "fines" "I" RX11, .fieldLinkNest RX11 291 "SmokeTune$Town" "fines" "I" RX11, .fieldLinkNest RX11 258 "SmokeTune$Town" "heardTimes" "I" RX11, .fieldLinkNest RX4 81 "SmokeTune$Town" "heardNotes" "I" RX11, .fieldLinkNest RX11 261 "SmokeTune$Town" "heardNotes" "I" RX11, .methodLinkNest RX11 29 yX6_init RX11, .methodLinkNest RX6 11 yX8_init RX11, .fieldLinkNest RX6 60 "SmokeTune$Tape" "length" "I" RX11, .fieldLinkNest RX11 161 "SmokeTune$Tape" "length" "I" RX11, .fieldLinkNest RX6 57 "SmokeTune$Tape" "from" "I" RX11, .fieldLinkNest RX6 44 "SmokeTune$Tape" "to" "I" RX11, .fieldLinkNest RX6 54 "SmokeTune$Tape" "first" "I" RX11, .fieldLinkNest RX6 101 "SmokeTune$Tape" "number" "I" RX11, .methodLinkNest RX6 20 yX7_init RX11, .fieldLinkNest RX1 76 "SmokeTune$Script" "code" "[I" RX11, .fieldLinkNest RX0 43 "SmokeTune$Script" "code" "[I" RX11, .fieldLinkNest RX6 38 "SmokeTune$Script" "clauses" "I" RX11, .fieldLinkNest RX1 60 "SmokeTune$Script" "clauses" "I" RX11, .fieldLinkNest RX0 34 "SmokeTune$Script" "clauses" "I" RX11, .fieldLinkNest RX6 41 "SmokeTune$Script" "used" "I" RX11, .fieldLinkNest RX11 34 "SmokeTune$Reader" "tape" "LSmokeTune$Tape;" RX11, .fieldLinkNest RX11 180 "SmokeTune$Reader" "text" "LSmokeTune$Script;" RX11, .fieldLinkNest RX11 200 "SmokeTune$Reader" "faultAt" "I" RX11, .methodLinkNest RX11 41 yX1_init RX11, .methodLinkNest RX1 13 yX10_init RX11, .methodLinkNest RX10 11 yX0_init RX11, .methodLinkNest RX0 11 yX3_init RX11, .fieldLinkNest RX1 83 "SmokeTune$Machine" "broken" "Z" RX11, .fieldLinkNest RX0 50 "SmokeTune$Machine" "broken" "Z" RX11, .fieldLinkNest RX11 51 "SmokeTune$Works" "court" "LSmokeTune$Court;" RX11, .methodLinkNest RX1 20 yX3_init RX11, .methodLinkNest RX1 31 yX9_init RX11, .methodLinkNest RX1 38 yX2_init RX11, .fieldLinkNest RX11 297 "SmokeTune$History" "kept" "I" RX11, .fieldLinkNest RX11 46 "SmokeTune$Crew" "works" "LSmokeTune$Works;" RX11, .fieldLinkNest RX11 193 "SmokeTune$Crew" "stopped" "I" RX11, .methodLinkNest RX11 60 yX2_init RX11, .methodLinkNest RX11 67 yX5_init RX11, .methodLinkNest RX5 11 yX0_init RX11, .methodLinkNest RX11 74 yX4_init RX11, .methodLinkNest RX11 105 yX9_dinerOf RX11, .methodLinkNest RX11 111 yX2_clear RX11, .methodLinkNest RX11 114 yX9_build RX11, .methodLinkNest RX9 52 yX11_within RX11, .methodLinkNest RX11 121 yX9_has RX11, .methodLinkNest RX11 125 yX9_fact RX11, .methodLinkNest RX11 129 yX9_sings RX11, .methodLinkNest RX11 132 yX0_face RX11, .methodLinkNest RX0 27 yX9_fact RX11, .methodLinkNest RX11 138 yX9_lawInForce RX11, .methodLinkNest RX11 142 yX0_told RX11, .fieldLinkNest RX0 31 "SmokeTune" "WITHOUT_LAW" "[I" RX11, .methodLinkNest RX0 40 yX7_head RX11, .methodLinkNest RX0 46 yX3_run RX11, .fieldLinkNest RX0 54 "SmokeTune" "MOST_BY_LAW" "[I" RX11, .methodLinkNest RX11 146 yX9_chordAt RX11, .methodLinkNest RX11 166 yX8_take RX11, .methodLinkNest RX11 170 yX8_byteAt RX11, .methodLinkNest RX11 176 yX6_reads RX11, .methodLinkNest RX6 47 yX8_step RX11, .methodLinkNest RX6 67 yX8_find RX11, .methodLinkNest RX6 75 yX7_open RX11, .methodLinkNest RX6 88 yX7_setHead RX11, .methodLinkNest RX6 95 yX7_emit RX11, .methodLinkNest RX6 121 yX7_land RX11, .methodLinkNest RX11 184 yX7_trimmed RX11, .methodLinkNest RX11 189 yX9_enact RX11, .methodLinkNest RX11 196 yX1_carryOut RX11, .methodLinkNest RX1 53 yX9_become RX11, .methodLinkNest RX1 57 yX2_become RX11, .methodLinkNest RX1 65 yX7_head RX11, .methodLinkNest RX1 115 yX9_has RX11, .methodLinkNest RX1 119 yX9_fact RX11, .methodLinkNest RX1 122 yX9_sings RX11, .methodLinkNest RX1 79 yX3_run RX11, .methodLinkNest RX1 87 yX2_draft RX11, .methodLinkNest RX1 90 yX10_kindle RX11, .methodLinkNest RX10 18 yX9_has RX11, .methodLinkNest RX10 24 yX9_fact RX11, .methodLinkNest RX10 28 yX0_face RX11, .methodLinkNest RX10 32 yX9_lawInForce RX11, .methodLinkNest RX10 36 yX0_told RX11, .methodLinkNest RX10 45 yX9_put RX11, .methodLinkNest RX1 94 yX10_quench RX11, .methodLinkNest RX10 49 yX11_within RX11, .methodLinkNest RX1 98 yX10_supply RX11, .methodLinkNest RX1 101 yX10_nextHour RX11, .methodLinkNest RX10 60 yX9_meetsChord RX11, .methodLinkNest RX10 80 yX9_sings RX11, .methodLinkNest RX10 83 yX9_beside RX11, .methodLinkNest RX10 87 yX0_facing RX11, .methodLinkNest RX1 105 yX2_keep RX11, .methodLinkNest RX11 206 yX10_discords RX11, .methodLinkNest RX11 210 yX9_notesNow RX11, .methodLinkNest RX11 214 yX9_thirdsNow RX11, .methodLinkNest RX11 217 yX9_meetsChord RX11, .methodLinkNest RX11 221 yX2_draft RX11, .methodLinkNest RX11 225 yX10_kindle RX11, .methodLinkNest RX11 300 yX2_keep RX11, .methodLinkNest RX11 232 yX10_quench RX11, .methodLinkNest RX11 236 yX10_supply RX11, .methodLinkNest RX11 239 yX10_nextHour RX11, .methodLinkNest RX11 242 yX2_takeBack RX11, .methodLinkNest RX11 245 yX5_leastCoal RX11, .methodLinkNest RX5 52 yX9_lawInForce RX11, .methodLinkNest RX5 56 yX0_face RX11, .methodLinkNest RX5 60 yX0_told RX11, .methodLinkNest RX5 69 yX9_loud RX11, .methodLinkNest RX5 42 yX9_fact RX11, .methodLinkNest RX5 48 yX11_within RX11, .methodLinkNest RX11 249 yX4_swapped RX11, .methodLinkNest RX4 45 yX9_fact RX11, .methodLinkNest RX4 41 yX11_within RX11, .methodLinkNest RX11 252 yX4_retune RX11, .methodLinkNest RX11 255 yX4_tunedNote RX11, .methodLinkNest RX11 264 yX4_hillSet RX11, .methodLinkNest RX11 267 yX4_question RX11, .methodLinkNest RX11 270 yX4_odds RX11, .methodLinkNest RX4 99 yX9_sings RX11, .methodLinkNest RX11 276 yX9_lawAt RX11, .methodLinkNest RX11 280 yX5_coalBy RX11, .methodLinkNest RX11 285 yX9_become RX11, .methodLinkNest RX11 288 yX10_byDraws RX11, .methodLinkNest RX11 294 yX9_singing RX11]
set_option maxRecDepth 20000 in
theorem nst_S : nst_T = npick lw_tbl [175, 6, 1, 1, 0, 0, 0, 0, 0, 0, 2, 0, 0, 0, 1, 1, 1, 0, 0, 0, 1, 1, 0, 25, 5, 5, 0, 1, 1, 1, 1, 16, 5, 0, 1, 0, 0, 1, 10, 1, 3, 13, 5, 5, 5, 5, 0, 13, 4, 1, 2, 6, 8, 7, 18, 2, 4, 21, 82, 7, 3, 7, 8, 3, 0, 7, 3, 0, 7, 3, 1, 3, 12, 9, 19, 11, 11, 3, 11, 53, 14, 8, 29, 5, 19, 8, 3, 4, 4, 8, 0, 0, 0, 0, 6, 3, 0, 0, 0, 0, 1, 0, 3, 1, 3, 3, 14, 0, 6, 7, 20, 4, 0, 3, 4, 0, 4, 4, 4, 4, 4, 7, 7, 0, 0, 5, 1, 0, 4, 7, 5, 4, 19, 15, 11, 13, 7, 6, 0, 8, 0, 24] := by decide +kernel
set_option maxRecDepth 20000 in
theorem nst_p : nst = ([0, 23, 24, 31, 41, 42, 43, 44, 48, 49, 50, 54, 55, 56, 57, 58, 59, 60, 61, 62, 63, 64, 65, 66, 67, 68, 70, 71, 73, 74, 75, 76, 77, 78, 79, 80, 81, 82, 83, 84, 85, 86, 87, 88, 89, 90, 91, 92, 93, 94, 95, 96, 97, 98, 99, 100, 101, 102, 103, 104, 105, 106, 107, 108, 109, 110, 111, 112, 113, 114, 115, 116, 117, 118, 119, 120, 121, 122, 123, 124, 125, 126, 127, 128, 129, 130, 131, 132, 133, 134, 135, 136, 137, 138, 139, 140, 141, 1, 2, 3, 4, 5, 6, 7, 8, 9, 10, 11, 12, 13, 14, 15, 16, 17, 18, 19, 20, 21, 22, 25, 26, 27, 28, 29, 30, 32, 33, 34, 35, 36, 37, 38, 39, 40, 45, 46, 47, 51, 52, 53, 69, 72] : List Nat).filterMap (fun i => nst_T[i]?) := by decide +kernel
theorem nst_in : ∀ w ∈ nst, w ∈ lw_tbl := fun w hw => by
  rw [nst_p] at hw
  obtain ⟨i, -, hi⟩ := List.mem_filterMap.mp hw
  have hm : w ∈ nst_T := List.mem_of_getElem? hi
  rw [nst_S] at hm
  exact npick_mem _ _ w hm
theorem nst_warm {w : Cond} (hn : isNest w = true) {s U : State} (hW : s.WarmedH U.vm) (h : va_Nw w s) : va_Nw w U := by
  cases w <;> first | exact va_Nw.warmF hW h | exact va_Nw.warmM hW h | exact absurd hn (by simp [isNest])
theorem nst_same {w : Cond} (hn : isNest w = true) {s U : State} (hW : s.vm = U.vm) (h : va_Nw w s) : va_Nw w U := by
  cases w <;> first | exact va_Nw.same rfl hW h | exact absurd hn (by simp [isNest])
noncomputable def lw_N (U : State) : Prop := (∀ w ∈ nst, va_Nw w U) ∧ va_AO "SmokeTune$Town" U ∧ va_AO "SmokeTune$Script" U
theorem lw_N.warm {s U : State} (hW : s.WarmedH U.vm) (h : lw_N s) : lw_N U := ⟨fun w hw => nst_warm (List.all_eq_true.mp nst_all w hw) hW (h.1 w hw), va_AO.moved hW.alike h.2.1, va_AO.moved hW.alike h.2.2⟩
theorem lw_N.call {U : State} {g : JFrame} {mk : MethodId} {a : Array Value} (h : lw_N U) : lw_N (U.calling g mk a) := ⟨fun w hw => nst_same (s := U) (U := U.calling g mk a) (List.all_eq_true.mp nst_all w hw) rfl (h.1 w hw), va_AO.moved (u := U) (U := U.calling g mk a) (Vm.Alike.refl U.vm) h.2.1, va_AO.moved (u := U) (U := U.calling g mk a) (Vm.Alike.refl U.vm) h.2.2⟩
theorem nst_at {s : State} (h : lw_N s) {w : Cond} (i : Nat) (hi : nst[i]? = some w) : va_Nw w s := h.1 w (List.mem_of_getElem? hi)
theorem nst_use {s : State} {A : Array Value} (h : lw_N s) {w : Cond} (i : Nat) (hi : nst[i]? = some w) : w.before A s = true := va_Nw.use (by have := List.all_eq_true.mp nst_all w (List.mem_of_getElem? hi); cases w <;> first | rfl | exact absurd this (by simp [isNest])) (nst_at h i hi)
noncomputable abbrev KT (K : Nat → ClassId) : List (ClassId × FieldType) := [(K 0, .int), (K 1, .boolean), (K 2, .long), (K 3, .object "SmokeTune$Town"), (K 4, .object "SmokeTune$Script")]
noncomputable def Pre (D : va_G) (K : Nat → ClassId) (ws : va_W) (sz : Nat) (U : State) : Prop := U.heap.size = sz ∧ va_P D vwCl ws U.heap ∧ va_K D vwCl (KT K) U ∧ va_D (fun _ => True) ws ∧ lw_N U
theorem Pre.blind {av : List Value} {D : va_G} {K : Nat → ClassId} {ws : va_W} {sz : Nat} : FrameBlind (va_Pc av (Pre D K ws sz)) := fun a U g mk q => by
  obtain ⟨q0, q1, qP, qK, qD, qN⟩ := q
  exact ⟨q0, q1, qP, va_K.moved (u := U) (U := U.calling g mk a) (Vm.Alike.refl U.vm) qK, qD, qN.call⟩
theorem mkS {s : State} {H : Heap} {D : va_G} {K : Nat → ClassId} {wc : va_W} {A : Nat → Prop} {av : List Value} (hK : va_K D vwCl (KT K) s) (hN : lw_N s) (hP : va_P D vwCl wc H) (hD : va_D A wc) : PreS s H (va_Pc av (Pre D K wc H.size)) av :=
  ⟨Pre.blind, fun U hU hW => ⟨rfl, by rw [hU], by rw [hU]; exact hP, va_K.moved hW.alike hK, hD.weaken (fun _ _ _ _ => trivial), hN.warm hW⟩⟩
theorem mkV {s : State} {H : Heap} {D : va_G} {K : Nat → ClassId} {wc : va_W} {A : Nat → Prop} {b : Nat} {As : List Value} (hK : va_K D vwCl (KT K) s) (hN : lw_N s) (hP : va_P D vwCl wc H) (hD : va_D A wc) {ci q0 : Nat} {q : vw_C} {fs : List Value} (hc : vwCl[ci]? = some q) (he : wc[q0]? = some (b, .inr (ci, fs))) : PreV s H q.1 b (va_Pc (.ref b :: As) (Pre D K wc H.size)) As :=
  ⟨Pre.blind, va_recv hK hP hc he, fun U hU hW => ⟨rfl, by rw [hU], by rw [hU]; exact hP, va_K.moved hW.alike hK, hD.weaken (fun _ _ _ _ => trivial), hN.warm hW⟩⟩
noncomputable def Wd (D : va_G) (A : Nat → Prop) (ws : va_W) (t : State) : Prop := va_P D vwCl ws t.heap ∧ va_D A ws
theorem Wd.nil {D : va_G} {A : Nat → Prop} {t : State} : Wd D A [] t := ⟨fun k q h => by simp at h, fun i j p q h => by simp at h, fun k q h => by simp at h⟩
section MYC
variable {p : Program} {l : Launch} {e : Env} {R : Room} {s : State} {m : MethodId} {args : Array Value} {below : List Frame} {meth : Method} {c : Code} {H : Heap} {locs : List Loc} {cells slots : Nat} {Q : State → Prop}
variable {pc : Nat} {ls : Array Slot} {rest st0 : List Value} {a : Array Value} {A0 : Nat → Prop} {H0 : Heap} {mc ms : Nat} {D : va_G} {ws wc wr : va_W}
theorem pci {post : Int32 → Prop} (hr : va_Run p l e R s m args below meth c H locs cells slots 0 0 (F0 m pc ls st0) rest (vp_Si post a) (fun _ => False))
    (kk : ∀ r : Int32, post r → W p l e R s m args below meth c H locs cells slots Q (F0 m (pc + 3) ls (.int r :: rest))) : W p l e R s m args below meth c H locs cells slots Q (F0 m pc ls st0) := by
  intro T hT X
  obtain ⟨v, st₀, t, T', L, h0, X', hL, e1, e2, ⟨r, hv, hp, hh⟩, st⟩ := hr T hT X
  cases hv
  have hL0 : L = [] := by
    cases L with
    | nil => rfl
    | cons q L => exact absurd (hL q List.mem_cons_self) id
  subst hL0
  rw [List.append_nil] at X'
  obtain ⟨t2, a1, b1⟩ := kk r hp T' (by rw [e1, hh, h0]) X'
  exact ⟨t2, st t2 a1, b1⟩
theorem pcl {post : Int64 → Prop} (hr : va_Run p l e R s m args below meth c H locs cells slots 0 0 (F0 m pc ls st0) rest (vp_Sl post a) (fun _ => False))
    (kk : ∀ r : Int64, post r → W p l e R s m args below meth c H locs cells slots Q (F0 m (pc + 3) ls (.long r :: rest))) : W p l e R s m args below meth c H locs cells slots Q (F0 m pc ls st0) := by
  intro T hT X
  obtain ⟨v, st₀, t, T', L, h0, X', hL, e1, e2, ⟨r, hv, hp, hh⟩, st⟩ := hr T hT X
  cases hv
  have hL0 : L = [] := by
    cases L with
    | nil => rfl
    | cons q L => exact absurd (hL q List.mem_cons_self) id
  subst hL0
  rw [List.append_nil] at X'
  obtain ⟨t2, a1, b1⟩ := kk r hp T' (by rw [e1, hh, h0]) X'
  exact ⟨t2, st t2 a1, b1⟩
theorem pcv {post : Unit → Prop} (hr : va_Run p l e R s m args below meth c H locs cells slots 0 0 (F0 m pc ls st0) rest (va_Sv post a) (fun _ => False))
    (kk : post () → W p l e R s m args below meth c H locs cells slots Q (F0 m (pc + 3) ls rest)) : W p l e R s m args below meth c H locs cells slots Q (F0 m pc ls st0) := by
  intro T hT X
  obtain ⟨v, st₀, t, T', L, h0, X', hL, e1, e2, ⟨hv, hp, hh⟩, st⟩ := hr T hT X
  cases hv
  have hL0 : L = [] := by
    cases L with
    | nil => rfl
    | cons q L => exact absurd (hL q List.mem_cons_self) id
  subst hL0
  rw [List.append_nil] at X'
  obtain ⟨t2, a1, b1⟩ := kk hp T' (by rw [e1, hh, h0]) X'
  exact ⟨t2, st t2 a1, b1⟩
theorem pcq {post : Option Nat → Prop} (hr : va_Run p l e R s m args below meth c H locs cells slots 0 0 (F0 m pc ls st0) rest (va_Sq post a) (fun _ => False))
    (kk : ∀ r : Option Nat, post r → W p l e R s m args below meth c H locs cells slots Q (F0 m (pc + 3) ls (va_rf r :: rest))) : W p l e R s m args below meth c H locs cells slots Q (F0 m pc ls st0) := by
  intro T hT X
  obtain ⟨v, st₀, t, T', L, h0, X', hL, e1, e2, ⟨r, hv, hp, hh⟩, st⟩ := hr T hT X
  cases hv
  have hL0 : L = [] := by
    cases L with
    | nil => rfl
    | cons q L => exact absurd (hL q List.mem_cons_self) id
  subst hL0
  rw [List.append_nil] at X'
  obtain ⟨t2, a1, b1⟩ := kk r hp T' (by rw [e1, hh, h0]) X'
  exact ⟨t2, st t2 a1, b1⟩
theorem kci {S : Type} {post : Int32 → S → Prop} {B : S → va_W} (hr : va_Run p l e R s m args below meth c H locs cells slots mc ms (F0 m pc ls st0) rest (va_Qi post (fun u t => Wd D (va_A wc H.size) (B u) t) (va_A wc H.size) a) (va_A wc H.size))
    (hP : va_P D vwCl ws H) (hD : va_D A0 ws) (hS : va_S A0 H0 H locs) (hA : ∀ q, H0.size ≤ q → A0 q) (isC isR : List Nat) (hC : isC.map (fun i => ws[i]?) = wc.map some) (hR : isR.map (fun i => ws[i]?) = wr.map some) (hn : va_nd isR = true) (hdis : ∀ i ∈ isR, i ∉ isC)
    (kk : ∀ (r : Int32) (u : S) (H1 : Heap) (locs1 : List Loc), post r u → va_P D vwCl (wr ++ B u) H1 → va_D A0 (wr ++ B u) → va_S A0 H0 H1 locs1 → W p l e R s m args below meth c H1 locs1 (cells + mc) (slots + ms) Q (F0 m (pc + 3) ls (.int r :: rest))) : W p l e R s m args below meth c H locs cells slots Q (F0 m pc ls st0) := by
  have hFc := va_free (wc := wc) hD hS hA isC hC
  refine va_calli hr hS (fun q _ h => hFc q h) hFc (fun r u t H1 locs1 ht hvm hw hB hz1 hk1 hS1 => ?_)
  obtain ⟨hP1, hD1⟩ := hB
  rw [ht] at hP1
  obtain ⟨hP2, hD2⟩ := va_join (wr := wr) (w1 := B u) hP hD isC isR hC hR hn hdis hk1 hFc hP1 hD1
  exact kk r u H1 locs1 hw hP2 hD2 hS1
theorem kcl {S : Type} {post : Int64 → S → Prop} {B : S → va_W} (hr : va_Run p l e R s m args below meth c H locs cells slots mc ms (F0 m pc ls st0) rest (va_Ql post (fun u t => Wd D (va_A wc H.size) (B u) t) (va_A wc H.size) a) (va_A wc H.size))
    (hP : va_P D vwCl ws H) (hD : va_D A0 ws) (hS : va_S A0 H0 H locs) (hA : ∀ q, H0.size ≤ q → A0 q) (isC isR : List Nat) (hC : isC.map (fun i => ws[i]?) = wc.map some) (hR : isR.map (fun i => ws[i]?) = wr.map some) (hn : va_nd isR = true) (hdis : ∀ i ∈ isR, i ∉ isC)
    (kk : ∀ (r : Int64) (u : S) (H1 : Heap) (locs1 : List Loc), post r u → va_P D vwCl (wr ++ B u) H1 → va_D A0 (wr ++ B u) → va_S A0 H0 H1 locs1 → W p l e R s m args below meth c H1 locs1 (cells + mc) (slots + ms) Q (F0 m (pc + 3) ls (.long r :: rest))) : W p l e R s m args below meth c H locs cells slots Q (F0 m pc ls st0) := by
  have hFc := va_free (wc := wc) hD hS hA isC hC
  refine va_calll hr hS (fun q _ h => hFc q h) hFc (fun r u t H1 locs1 ht hvm hw hB hz1 hk1 hS1 => ?_)
  obtain ⟨hP1, hD1⟩ := hB
  rw [ht] at hP1
  obtain ⟨hP2, hD2⟩ := va_join (wr := wr) (w1 := B u) hP hD isC isR hC hR hn hdis hk1 hFc hP1 hD1
  exact kk r u H1 locs1 hw hP2 hD2 hS1
theorem kcv {S : Type} {post : S → Prop} {B : S → va_W} (hr : va_Run p l e R s m args below meth c H locs cells slots mc ms (F0 m pc ls st0) rest (va_Qv post (fun u t => Wd D (va_A wc H.size) (B u) t) (va_A wc H.size) a) (va_A wc H.size))
    (hP : va_P D vwCl ws H) (hD : va_D A0 ws) (hS : va_S A0 H0 H locs) (hA : ∀ q, H0.size ≤ q → A0 q) (isC isR : List Nat) (hC : isC.map (fun i => ws[i]?) = wc.map some) (hR : isR.map (fun i => ws[i]?) = wr.map some) (hn : va_nd isR = true) (hdis : ∀ i ∈ isR, i ∉ isC)
    (kk : ∀ (u : S) (H1 : Heap) (locs1 : List Loc), post u → va_P D vwCl (wr ++ B u) H1 → va_D A0 (wr ++ B u) → va_S A0 H0 H1 locs1 → W p l e R s m args below meth c H1 locs1 (cells + mc) (slots + ms) Q (F0 m (pc + 3) ls rest)) : W p l e R s m args below meth c H locs cells slots Q (F0 m pc ls st0) := by
  have hFc := va_free (wc := wc) hD hS hA isC hC
  refine va_callv hr hS (fun q _ h => hFc q h) hFc (fun u t H1 locs1 ht hvm hw hB hz1 hk1 hS1 => ?_)
  obtain ⟨hP1, hD1⟩ := hB
  rw [ht] at hP1
  obtain ⟨hP2, hD2⟩ := va_join (wr := wr) (w1 := B u) hP hD isC isR hC hR hn hdis hk1 hFc hP1 hD1
  exact kk u H1 locs1 hw hP2 hD2 hS1
end MYC
section MYN
variable {p : Program} {l : Launch} {e : Env} {R : Room} {s : State} {m : MethodId} {args : Array Value} {below : List Frame} {meth : Method} {c : Code} {H : Heap} {locs : List Loc} {cells slots : Nat} {Q : State → Prop}
variable {cc : ByteArray} {pc : Nat} {ls : Array Slot} {rest : List Value} {D : va_G} {cl : List vw_C} {A : Nat → Prop} {tys : List (ClassId × FieldType)} {ws : va_W} {H0 : Heap}
theorem ra_one {U : State} {c1 c2 : ClassId} {ty : FieldType} (h1 : va_RA U c1 ty) (h2 : va_RA U c2 ty) : c1 = c2 := by
  cases ty with
  | object C =>
    obtain ⟨_, _, _, _, _, h1⟩ := h1
    obtain ⟨_, _, _, _, _, h2⟩ := h2
    exact Option.some.inj (h1.symm.trans h2)
  | _ => exact Option.some.inj (Eq.trans (Eq.symm h1) h2)
theorem k_newa (hexec : p.tables.exec = Jvm.exec) (hb : c.code = cc) {atype : ArrayType} (harr : (Cond.arrayClass (newarray.typeOf atype)).before args s = true) {ty : FieldType} (hty : newarray.typeOf atype = ty) (hK : va_K D cl tys s) (t0 : Nat) {cA : ClassId} (ht : tys[t0]? = some (cA, ty)) (hP : va_P D cl ws H) (hD : va_D A ws) (hS : va_S A H0 H locs) (hA : ∀ q, H0.size ≤ q → A q)
    {n : Int32} {N' : Nat} {a0 : vp_A} (ha : ∀ cA : ClassId, vp_cell cA a0 = arrV cA N' (fun _ => defaultValue ty)) (hn : ¬ n < 0) (hN : n.toNatClampNeg = N') (hbytes : N' * componentBytes ty ≤ 536870912) (hcells : cells + 1 ≤ R.cells) (hslots : slots + N' ≤ R.slots) (hdg : decode cc pc = .ok (.newarray atype, 2))
    (kk : ∀ (q : Nat) (H1 : Heap), va_P D cl (ws ++ [(q, .inl (cA, a0))]) H1 → va_D A (ws ++ [(q, .inl (cA, a0))]) → va_S A H0 H1 locs →
      W p l e R s m args below meth c H1 locs (cells + 1) (slots + N') Q (F0 m (pc + 2) ls (.ref q :: rest))) : W p l e R s m args below meth c H locs cells slots Q (F0 m pc ls (.int n :: rest)) := by
  refine va_newa hexec hb harr hty hK hP hD hS hA ha hn hN hbytes hcells hslots hdg (fun q cA' H1 hK' hP' hD' hS' => ?_)
  have e1 : cA' = cA := ra_one (hK'.2 tys.length (cA', ty) (by simp)).2 (hK.2 t0 _ ht).2
  subst e1
  exact kk q H1 hP' hD' hS'
theorem k_newq (hexec : p.tables.exec = Jvm.exec) (hb : c.code = cc) {own C : String} {index : Nat} (hown : s.vm.findClass own = some m.cls) (hclink : (Cond.classLink own index C).before args s = true) (hover : va_AO C s) (hK : va_K D cl tys s) (t0 : Nat) {cA : ClassId} (ht : tys[t0]? = some (cA, .object C)) (hP : va_P D cl ws H) (hD : va_D A ws) (hS : va_S A H0 H locs) (hA : ∀ q, H0.size ≤ q → A q)
    {n : Int32} {N' : Nat} (hn : ¬ n < 0) (hN : n.toNatClampNeg = N') (hbytes : N' * 4 ≤ 536870912) (hcells : cells + 1 ≤ R.cells) (hslots : slots + N' ≤ R.slots) (hdg : decode cc pc = .ok (.anewarray index, 3))
    (kk : ∀ (q : Nat) (H1 : Heap), va_P D cl (ws ++ [(q, .inl (cA, N', .inr (.inr (.inr (.inr (fun _ => none))))))]) H1 → va_D A (ws ++ [(q, .inl (cA, N', .inr (.inr (.inr (.inr (fun _ => none))))))]) → va_S A H0 H1 locs →
      W p l e R s m args below meth c H1 locs (cells + 1) (slots + N') Q (F0 m (pc + 3) ls (.ref q :: rest))) : W p l e R s m args below meth c H locs cells slots Q (F0 m pc ls (.int n :: rest)) := by
  refine va_newq hexec hb hown hclink hover hK hP hD hS hA hn hN hbytes hcells hslots hdg (fun q cA' H1 hK' hP' hD' hS' => ?_)
  have e1 : cA' = cA := ra_one (hK'.2 tys.length (cA', .object C) (by simp)).2 (hK.2 t0 _ ht).2
  subst e1
  exact kk q H1 hP' hD' hS'
end MYN
/-! numbers -/
theorem i_le {a b : Int32} {x y : Int} (hx : a.toInt = x) (hy : b.toInt = y) (h : a ≤ b) : x ≤ y := by rw [← hx, ← hy]; exact Int32.le_iff_toInt_le.mp h
theorem i_nle {a b : Int32} {x y : Int} (hx : a.toInt = x) (hy : b.toInt = y) (h : ¬ a ≤ b) : y < x := by
  rw [← hx, ← hy]; exact Int.not_le.mp (fun q => h (Int32.le_iff_toInt_le.mpr q))
theorem i_lt {a b : Int32} {x y : Int} (hx : a.toInt = x) (hy : b.toInt = y) (h : a < b) : x < y := by rw [← hx, ← hy]; exact Int32.lt_iff_toInt_lt.mp h
theorem i_nlt {a b : Int32} {x y : Int} (hx : a.toInt = x) (hy : b.toInt = y) (h : ¬ a < b) : y ≤ x := by
  rw [← hx, ← hy]; exact Int.not_lt.mp (fun q => h (Int32.lt_iff_toInt_lt.mpr q))
theorem i_eq {a b : Int32} {x y : Int} (hx : a.toInt = x) (hy : b.toInt = y) (h : a = b) : x = y := by rw [← hx, ← hy, h]
theorem i_ne {a b : Int32} {x y : Int} (hx : a.toInt = x) (hy : b.toInt = y) (h : ¬ a = b) : x ≠ y := by
  rw [← hx, ← hy]; exact fun q => h (Int32.toInt_inj.mp q)
theorem i_lit {a b : Int32} {x : Int} (hx : a.toInt = x) (hy : b.toInt = x) : a = b := Int32.toInt_inj.mp (hx.trans hy.symm)
theorem i_in {a : Int32} {x : Int} {n : Nat} (hx : a.toInt = x) (h : 0 ≤ x ∧ x < n) : vp_in a n := vp_in_iff.mpr (by rw [hx]; exact h)
theorem i_add {a b : Int32} {x y : Int} (hx : a.toInt = x) (hy : b.toInt = y) (h : -2147483648 ≤ x + y ∧ x + y < 2147483648) : (a + b).toInt = x + y := by
  rw [Int32.toInt_add, hx, hy]
  exact Int.bmod_eq_of_le (by omega) (by omega)
theorem i_sub {a b : Int32} {x y : Int} (hx : a.toInt = x) (hy : b.toInt = y) (h : -2147483648 ≤ x - y ∧ x - y < 2147483648) : (a - b).toInt = x - y := by
  rw [Int32.toInt_sub, hx, hy]
  exact Int.bmod_eq_of_le (by omega) (by omega)
theorem i_wide {a : Int32} {x : Int} (hx : a.toInt = x) : a.toInt64.toInt = x := by rw [← hx]; exact Int32.toInt_toInt64 a
theorem l_le {a b : Int64} {x y : Int} (hx : a.toInt = x) (hy : b.toInt = y) (h : a ≤ b) : x ≤ y := by rw [← hx, ← hy]; exact Int64.le_iff_toInt_le.mp h
theorem l_nle {a b : Int64} {x y : Int} (hx : a.toInt = x) (hy : b.toInt = y) (h : ¬ a ≤ b) : y < x := by
  rw [← hx, ← hy]; exact Int.not_le.mp (fun q => h (Int64.le_iff_toInt_le.mpr q))
theorem l_lt {a b : Int64} {x y : Int} (hx : a.toInt = x) (hy : b.toInt = y) (h : a < b) : x < y := by rw [← hx, ← hy]; exact Int64.lt_iff_toInt_lt.mp h
theorem l_nlt {a b : Int64} {x y : Int} (hx : a.toInt = x) (hy : b.toInt = y) (h : ¬ a < b) : y ≤ x := by
  rw [← hx, ← hy]; exact Int.not_lt.mp (fun q => h (Int64.lt_iff_toInt_lt.mpr q))
