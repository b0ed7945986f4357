section
-- 07.links
/-! the tables' words, by their places -/
set_option maxRecDepth 100000 in
theorem tc_1 : ∀ w ∈ tables_1_1, w ∈ lw_tbl := fun w h => List.mem_append_right _ (show w ∈ tables_1 from List.mem_append_left _ h)
set_option maxRecDepth 100000 in
theorem tc_2 : ∀ w ∈ tables_1_2, w ∈ lw_tbl := fun w h => List.mem_append_right _ (show w ∈ tables_1 from List.mem_append_right _ (List.mem_append_left _ h))
set_option maxRecDepth 100000 in
theorem tc_3 : ∀ w ∈ tables_1_3, w ∈ lw_tbl := fun w h => List.mem_append_right _ (show w ∈ tables_1 from List.mem_append_right _ (List.mem_append_right _ (List.mem_append_left _ h)))
set_option maxRecDepth 100000 in
theorem tc_4 : ∀ w ∈ tables_1_4, w ∈ lw_tbl := fun w h => List.mem_append_right _ (show w ∈ tables_1 from List.mem_append_right _ (List.mem_append_right _ (List.mem_append_right _ (List.mem_append_left _ h))))
set_option maxRecDepth 100000 in
theorem tc_5 : ∀ w ∈ tables_1_5, w ∈ lw_tbl := fun w h => List.mem_append_right _ (show w ∈ tables_1 from List.mem_append_right _ (List.mem_append_right _ (List.mem_append_right _ (List.mem_append_right _ (List.mem_append_left _ h)))))
set_option maxRecDepth 100000 in
theorem tc_6 : ∀ w ∈ tables_1_6, w ∈ lw_tbl := fun w h => List.mem_append_right _ (show w ∈ tables_1 from List.mem_append_right _ (List.mem_append_right _ (List.mem_append_right _ (List.mem_append_right _ (List.mem_append_right _ (List.mem_append_left _ h))))))
set_option maxRecDepth 100000 in
theorem tc_7 : ∀ w ∈ tables_1_7, w ∈ lw_tbl := fun w h => List.mem_append_right _ (show w ∈ tables_1 from List.mem_append_right _ (List.mem_append_right _ (List.mem_append_right _ (List.mem_append_right _ (List.mem_append_right _ (List.mem_append_right _ (h)))))))
set_option maxRecDepth 100000 in
theorem it_Law : Cond.initialized "WhoeverHeardLaw" ∈ lwT := (lwT_of (tc_1 _ (List.mem_of_getElem? (i := 0) rfl)) rfl)
set_option maxRecDepth 100000 in
theorem it_W : Cond.initialized "WhoeverHeard" ∈ lwT := (lwT_of (tc_1 _ (List.mem_of_getElem? (i := 1) rfl)) rfl)
set_option maxRecDepth 100000 in
theorem it_Town : Cond.initialized "WhoeverHeard$Town" ∈ lwT := (lwT_of (tc_1 _ (List.mem_of_getElem? (i := 2) rfl)) rfl)
set_option maxRecDepth 100000 in
theorem it_Math : Cond.initialized "java/lang/Math" ∈ lwT := (lwT_of (tc_1 _ (List.mem_of_getElem? (i := 3) rfl)) rfl)
set_option maxRecDepth 100000 in
theorem it_Folk : Cond.initialized "WhoeverHeard$Folk" ∈ lwT := (lwT_of (tc_1 _ (List.mem_of_getElem? (i := 4) rfl)) rfl)
set_option maxRecDepth 100000 in
theorem it_Vows : Cond.initialized "WhoeverHeard$Vows" ∈ lwT := (lwT_of (tc_1 _ (List.mem_of_getElem? (i := 5) rfl)) rfl)
set_option maxRecDepth 100000 in
theorem it_Sayings : Cond.initialized "WhoeverHeard$Sayings" ∈ lwT := (lwT_of (tc_1 _ (List.mem_of_getElem? (i := 6) rfl)) rfl)
set_option maxRecDepth 100000 in
theorem it_Reader : Cond.initialized "WhoeverHeard$Reader" ∈ lwT := (lwT_of (tc_1 _ (List.mem_of_getElem? (i := 7) rfl)) rfl)
set_option maxRecDepth 100000 in
theorem it_Texts : Cond.initialized "WhoeverHeard$Texts" ∈ lwT := (lwT_of (tc_1 _ (List.mem_of_getElem? (i := 8) rfl)) rfl)
set_option maxRecDepth 100000 in
theorem it_Ledger : Cond.initialized "WhoeverHeard$Ledger" ∈ lwT := (lwT_of (tc_1 _ (List.mem_of_getElem? (i := 9) rfl)) rfl)
set_option maxRecDepth 100000 in
theorem it_Image : Cond.initialized "WhoeverHeard$Image" ∈ lwT := (lwT_of (tc_1 _ (List.mem_of_getElem? (i := 10) rfl)) rfl)
set_option maxRecDepth 100000 in
theorem it_Sheets : Cond.initialized "WhoeverHeard$Sheets" ∈ lwT := (lwT_of (tc_1 _ (List.mem_of_getElem? (i := 11) rfl)) rfl)
set_option maxRecDepth 100000 in
theorem it_String : Cond.initialized "java/lang/String" ∈ lwT := (lwT_of (tc_1 _ (List.mem_of_getElem? (i := 12) rfl)) rfl)
set_option maxRecDepth 100000 in
theorem it_StringLatin1 : Cond.initialized "java/lang/StringLatin1" ∈ lwT := (lwT_of (tc_1 _ (List.mem_of_getElem? (i := 13) rfl)) rfl)
set_option maxRecDepth 100000 in
theorem it_Preconditions : Cond.initialized "jdk/internal/util/Preconditions" ∈ lwT := (lwT_of (tc_1 _ (List.mem_of_getElem? (i := 14) rfl)) rfl)
set_option maxRecDepth 100000 in
theorem it_StringUTF16 : Cond.initialized "java/lang/StringUTF16" ∈ lwT := (lwT_of (tc_1 _ (List.mem_of_getElem? (i := 15) rfl)) rfl)
set_option maxRecDepth 100000 in
theorem it_System : Cond.initialized "java/lang/System" ∈ lwT := (lwT_of (tc_1 _ (List.mem_of_getElem? (i := 16) rfl)) rfl)
set_option maxRecDepth 100000 in
theorem it_R : Cond.initialized "WhoeverHeardModel" ∈ lwT := (lwT_of (tc_1 _ (List.mem_of_getElem? (i := 17) rfl)) rfl)
set_option maxRecDepth 100000 in
theorem it_Integer : Cond.initialized "java/lang/Integer" ∈ lwT := (lwT_of (tc_1 _ (List.mem_of_getElem? (i := 18) rfl)) rfl)
set_option maxRecDepth 100000 in
theorem cl_Law_7 : Cond.classLink "WhoeverHeardLaw" 7 "WhoeverHeard" ∈ lwT := (lwT_of (tc_1 _ (List.mem_of_getElem? (i := 19) rfl)) rfl)
set_option maxRecDepth 100000 in
theorem in_W : Cond.instantiable "WhoeverHeard" 9 ∈ lwT := (lwT_of (tc_1 _ (List.mem_of_getElem? (i := 20) rfl)) rfl)
set_option maxRecDepth 100000 in
theorem ml_Law_9 : Cond.methodLink "WhoeverHeardLaw" 9 (my mW_init) ∈ lwT := (lwT_of (tc_1 _ (List.mem_of_getElem? (i := 21) rfl)) rfl)
set_option maxRecDepth 100000 in
theorem ml_W_3 : Cond.methodLink "WhoeverHeard" 3 Lib.objectInit ∈ lwT := (lwT_of (tc_1 _ (List.mem_of_getElem? (i := 24) rfl)) rfl)
set_option maxRecDepth 100000 in
theorem cl_W_9 : Cond.classLink "WhoeverHeard" 9 "WhoeverHeard$Town" ∈ lwT := (lwT_of (tc_1 _ (List.mem_of_getElem? (i := 27) rfl)) rfl)
set_option maxRecDepth 100000 in
theorem in_Town : Cond.instantiable "WhoeverHeard$Town" 3 ∈ lwT := (lwT_of (tc_1 _ (List.mem_of_getElem? (i := 28) rfl)) rfl)
set_option maxRecDepth 100000 in
theorem ml_W_11 : Cond.methodLink "WhoeverHeard" 11 (my mTown_init) ∈ lwT := (lwT_of (tc_1 _ (List.mem_of_getElem? (i := 29) rfl)) rfl)
set_option maxRecDepth 100000 in
theorem ml_Town_3 : Cond.methodLink "WhoeverHeard$Town" 3 Lib.objectInit ∈ lwT := (lwT_of (tc_1 _ (List.mem_of_getElem? (i := 32) rfl)) rfl)
set_option maxRecDepth 100000 in
theorem ml_Town_22 : Cond.methodLink "WhoeverHeard$Town" 22 (my mMath_abs) ∈ lwT := (lwT_of (tc_1 _ (List.mem_of_getElem? (i := 33) rfl)) rfl)
set_option maxRecDepth 100000 in
theorem fl_Town_9 : FLink "WhoeverHeard$Town" 9 7 0 := ⟨(RX7, TX7, 3), rfl, by decide, (lwT_of (tc_1 _ (List.mem_of_getElem? (i := 36) rfl)) rfl)⟩
set_option maxRecDepth 100000 in
theorem fl_Town_15 : FLink "WhoeverHeard$Town" 15 7 1 := ⟨(RX7, TX7, 3), rfl, by decide, (lwT_of (tc_1 _ (List.mem_of_getElem? (i := 37) rfl)) rfl)⟩
set_option maxRecDepth 100000 in
theorem fl_W_113 : FLink "WhoeverHeard" 113 7 1 := ⟨(RX7, TX7, 3), rfl, by decide, (lwT_of (tc_1 _ (List.mem_of_getElem? (i := 38) rfl)) rfl)⟩
set_option maxRecDepth 100000 in
theorem fl_Ledger_114 : FLink "WhoeverHeard$Ledger" 114 7 1 := ⟨(RX7, TX7, 3), rfl, by decide, (lwT_of (tc_1 _ (List.mem_of_getElem? (i := 39) rfl)) rfl)⟩
set_option maxRecDepth 100000 in
theorem fl_Town_18 : FLink "WhoeverHeard$Town" 18 7 2 := ⟨(RX7, TX7, 3), rfl, by decide, (lwT_of (tc_1 _ (List.mem_of_getElem? (i := 40) rfl)) rfl)⟩
set_option maxRecDepth 100000 in
theorem fl_W_117 : FLink "WhoeverHeard" 117 7 2 := ⟨(RX7, TX7, 3), rfl, by decide, (lwT_of (tc_1 _ (List.mem_of_getElem? (i := 41) rfl)) rfl)⟩
set_option maxRecDepth 100000 in
theorem cl_W_16 : Cond.classLink "WhoeverHeard" 16 "WhoeverHeard$Folk" ∈ lwT := (lwT_of (tc_1 _ (List.mem_of_getElem? (i := 50) rfl)) rfl)
set_option maxRecDepth 100000 in
theorem in_Folk : Cond.instantiable "WhoeverHeard$Folk" 9 ∈ lwT := (lwT_of (tc_1 _ (List.mem_of_getElem? (i := 51) rfl)) rfl)
set_option maxRecDepth 100000 in
theorem ml_Folk_3 : Cond.methodLink "WhoeverHeard$Folk" 3 Lib.objectInit ∈ lwT := (lwT_of (tc_1 _ (List.mem_of_getElem? (i := 55) rfl)) rfl)
set_option maxRecDepth 100000 in
theorem fl_Folk_9 : FLink "WhoeverHeard$Folk" 9 0 0 := ⟨(RX0, TX0, 9), rfl, by decide, (lwT_of (tc_1 _ (List.mem_of_getElem? (i := 56) rfl)) rfl)⟩
set_option maxRecDepth 100000 in
theorem fl_W_149 : FLink "WhoeverHeard" 149 0 0 := ⟨(RX0, TX0, 9), rfl, by decide, (lwT_of (tc_1 _ (List.mem_of_getElem? (i := 57) rfl)) rfl)⟩
set_option maxRecDepth 100000 in
theorem fl_Folk_15 : FLink "WhoeverHeard$Folk" 15 0 1 := ⟨(RX0, TX0, 9), rfl, by decide, (lwT_of (tc_1 _ (List.mem_of_getElem? (i := 58) rfl)) rfl)⟩
set_option maxRecDepth 100000 in
theorem fl_W_152 : FLink "WhoeverHeard" 152 0 1 := ⟨(RX0, TX0, 9), rfl, by decide, (lwT_of (tc_1 _ (List.mem_of_getElem? (i := 59) rfl)) rfl)⟩
set_option maxRecDepth 100000 in
theorem fl_Folk_18 : FLink "WhoeverHeard$Folk" 18 0 2 := ⟨(RX0, TX0, 9), rfl, by decide, (lwT_of (tc_1 _ (List.mem_of_getElem? (i := 60) rfl)) rfl)⟩
set_option maxRecDepth 100000 in
theorem fl_Ledger_111 : FLink "WhoeverHeard$Ledger" 111 0 2 := ⟨(RX0, TX0, 9), rfl, by decide, (lwT_of (tc_1 _ (List.mem_of_getElem? (i := 61) rfl)) rfl)⟩
set_option maxRecDepth 100000 in
theorem fl_W_155 : FLink "WhoeverHeard" 155 0 2 := ⟨(RX0, TX0, 9), rfl, by decide, (lwT_of (tc_1 _ (List.mem_of_getElem? (i := 62) rfl)) rfl)⟩
set_option maxRecDepth 100000 in
theorem fl_Folk_21 : FLink "WhoeverHeard$Folk" 21 0 3 := ⟨(RX0, TX0, 9), rfl, by decide, (lwT_of (tc_1 _ (List.mem_of_getElem? (i := 63) rfl)) rfl)⟩
set_option maxRecDepth 100000 in
theorem fl_W_158 : FLink "WhoeverHeard" 158 0 3 := ⟨(RX0, TX0, 9), rfl, by decide, (lwT_of (tc_1 _ (List.mem_of_getElem? (i := 64) rfl)) rfl)⟩
set_option maxRecDepth 100000 in
theorem fl_Folk_24 : FLink "WhoeverHeard$Folk" 24 0 4 := ⟨(RX0, TX0, 9), rfl, by decide, (lwT_of (tc_1 _ (List.mem_of_getElem? (i := 65) rfl)) rfl)⟩
set_option maxRecDepth 100000 in
theorem fl_W_161 : FLink "WhoeverHeard" 161 0 4 := ⟨(RX0, TX0, 9), rfl, by decide, (lwT_of (tc_1 _ (List.mem_of_getElem? (i := 66) rfl)) rfl)⟩
set_option maxRecDepth 100000 in
theorem fl_Folk_27 : FLink "WhoeverHeard$Folk" 27 0 5 := ⟨(RX0, TX0, 9), rfl, by decide, (lwT_of (tc_1 _ (List.mem_of_getElem? (i := 67) rfl)) rfl)⟩
set_option maxRecDepth 100000 in
theorem fl_W_164 : FLink "WhoeverHeard" 164 0 5 := ⟨(RX0, TX0, 9), rfl, by decide, (lwT_of (tc_1 _ (List.mem_of_getElem? (i := 68) rfl)) rfl)⟩
set_option maxRecDepth 100000 in
theorem fl_Ledger_199 : FLink "WhoeverHeard$Ledger" 199 0 5 := ⟨(RX0, TX0, 9), rfl, by decide, (lwT_of (tc_1 _ (List.mem_of_getElem? (i := 69) rfl)) rfl)⟩
set_option maxRecDepth 100000 in
theorem fl_Folk_30 : FLink "WhoeverHeard$Folk" 30 0 6 := ⟨(RX0, TX0, 9), rfl, by decide, (lwT_of (tc_1 _ (List.mem_of_getElem? (i := 70) rfl)) rfl)⟩
set_option maxRecDepth 100000 in
theorem fl_W_167 : FLink "WhoeverHeard" 167 0 6 := ⟨(RX0, TX0, 9), rfl, by decide, (lwT_of (tc_1 _ (List.mem_of_getElem? (i := 71) rfl)) rfl)⟩
set_option maxRecDepth 100000 in
theorem fl_Ledger_187 : FLink "WhoeverHeard$Ledger" 187 0 6 := ⟨(RX0, TX0, 9), rfl, by decide, (lwT_of (tc_1 _ (List.mem_of_getElem? (i := 72) rfl)) rfl)⟩
set_option maxRecDepth 100000 in
theorem fl_Folk_33 : FLink "WhoeverHeard$Folk" 33 0 7 := ⟨(RX0, TX0, 9), rfl, by decide, (lwT_of (tc_1 _ (List.mem_of_getElem? (i := 73) rfl)) rfl)⟩
set_option maxRecDepth 100000 in
theorem fl_Image_52 : FLink "WhoeverHeard$Image" 52 0 7 := ⟨(RX0, TX0, 9), rfl, by decide, (lwT_of (tc_1 _ (List.mem_of_getElem? (i := 74) rfl)) rfl)⟩
set_option maxRecDepth 100000 in
theorem fl_W_146 : FLink "WhoeverHeard" 146 0 7 := ⟨(RX0, TX0, 9), rfl, by decide, (lwT_of (tc_1 _ (List.mem_of_getElem? (i := 75) rfl)) rfl)⟩
set_option maxRecDepth 100000 in
theorem fl_Ledger_224 : FLink "WhoeverHeard$Ledger" 224 0 7 := ⟨(RX0, TX0, 9), rfl, by decide, (lwT_of (tc_1 _ (List.mem_of_getElem? (i := 76) rfl)) rfl)⟩
set_option maxRecDepth 100000 in
theorem fl_Folk_36 : FLink "WhoeverHeard$Folk" 36 0 8 := ⟨(RX0, TX0, 9), rfl, by decide, (lwT_of (tc_1 _ (List.mem_of_getElem? (i := 77) rfl)) rfl)⟩
set_option maxRecDepth 100000 in
theorem fl_Image_47 : FLink "WhoeverHeard$Image" 47 0 8 := ⟨(RX0, TX0, 9), rfl, by decide, (lwT_of (tc_1 _ (List.mem_of_getElem? (i := 78) rfl)) rfl)⟩
set_option maxRecDepth 100000 in
theorem fl_Ledger_82 : FLink "WhoeverHeard$Ledger" 82 0 8 := ⟨(RX0, TX0, 9), rfl, by decide, (lwT_of (tc_1 _ (List.mem_of_getElem? (i := 79) rfl)) rfl)⟩
set_option maxRecDepth 100000 in
theorem fl_W_121 : FLink "WhoeverHeard" 121 0 8 := ⟨(RX0, TX0, 9), rfl, by decide, (lwT_of (tc_1 _ (List.mem_of_getElem? (i := 80) rfl)) rfl)⟩
set_option maxRecDepth 100000 in
theorem cl_W_23 : Cond.classLink "WhoeverHeard" 23 "WhoeverHeard$Vows" ∈ lwT := (lwT_of (tc_1 _ (List.mem_of_getElem? (i := 100) rfl)) rfl)
set_option maxRecDepth 100000 in
theorem in_Vows : Cond.instantiable "WhoeverHeard$Vows" 5 ∈ lwT := (lwT_of (tc_1 _ (List.mem_of_getElem? (i := 101) rfl)) rfl)
set_option maxRecDepth 100000 in
theorem ml_Vows_3 : Cond.methodLink "WhoeverHeard$Vows" 3 Lib.objectInit ∈ lwT := (lwT_of (tc_1 _ (List.mem_of_getElem? (i := 105) rfl)) rfl)
set_option maxRecDepth 100000 in
theorem fl_Vows_9 : FLink "WhoeverHeard$Vows" 9 8 0 := ⟨(RX8, TX8, 5), rfl, by decide, (lwT_of (tc_1 _ (List.mem_of_getElem? (i := 106) rfl)) rfl)⟩
set_option maxRecDepth 100000 in
theorem fl_Ledger_158 : FLink "WhoeverHeard$Ledger" 158 8 0 := ⟨(RX8, TX8, 5), rfl, by decide, (lwT_of (tc_1 _ (List.mem_of_getElem? (i := 107) rfl)) rfl)⟩
set_option maxRecDepth 100000 in
theorem fl_W_175 : FLink "WhoeverHeard" 175 8 0 := ⟨(RX8, TX8, 5), rfl, by decide, (lwT_of (tc_1 _ (List.mem_of_getElem? (i := 108) rfl)) rfl)⟩
set_option maxRecDepth 100000 in
theorem fl_Vows_15 : FLink "WhoeverHeard$Vows" 15 8 1 := ⟨(RX8, TX8, 5), rfl, by decide, (lwT_of (tc_1 _ (List.mem_of_getElem? (i := 109) rfl)) rfl)⟩
set_option maxRecDepth 100000 in
theorem fl_Ledger_147 : FLink "WhoeverHeard$Ledger" 147 8 1 := ⟨(RX8, TX8, 5), rfl, by decide, (lwT_of (tc_1 _ (List.mem_of_getElem? (i := 110) rfl)) rfl)⟩
set_option maxRecDepth 100000 in
theorem fl_W_178 : FLink "WhoeverHeard" 178 8 1 := ⟨(RX8, TX8, 5), rfl, by decide, (lwT_of (tc_1 _ (List.mem_of_getElem? (i := 111) rfl)) rfl)⟩
set_option maxRecDepth 100000 in
theorem fl_Vows_18 : FLink "WhoeverHeard$Vows" 18 8 2 := ⟨(RX8, TX8, 5), rfl, by decide, (lwT_of (tc_1 _ (List.mem_of_getElem? (i := 112) rfl)) rfl)⟩
set_option maxRecDepth 100000 in
theorem fl_W_181 : FLink "WhoeverHeard" 181 8 2 := ⟨(RX8, TX8, 5), rfl, by decide, (lwT_of (tc_1 _ (List.mem_of_getElem? (i := 113) rfl)) rfl)⟩
set_option maxRecDepth 100000 in
theorem fl_Ledger_196 : FLink "WhoeverHeard$Ledger" 196 8 2 := ⟨(RX8, TX8, 5), rfl, by decide, (lwT_of (tc_1 _ (List.mem_of_getElem? (i := 114) rfl)) rfl)⟩
set_option maxRecDepth 100000 in
theorem fl_Vows_21 : FLink "WhoeverHeard$Vows" 21 8 3 := ⟨(RX8, TX8, 5), rfl, by decide, (lwT_of (tc_1 _ (List.mem_of_getElem? (i := 115) rfl)) rfl)⟩
set_option maxRecDepth 100000 in
theorem fl_Ledger_181 : FLink "WhoeverHeard$Ledger" 181 8 3 := ⟨(RX8, TX8, 5), rfl, by decide, (lwT_of (tc_1 _ (List.mem_of_getElem? (i := 116) rfl)) rfl)⟩
set_option maxRecDepth 100000 in
theorem fl_W_184 : FLink "WhoeverHeard" 184 8 3 := ⟨(RX8, TX8, 5), rfl, by decide, (lwT_of (tc_1 _ (List.mem_of_getElem? (i := 117) rfl)) rfl)⟩
set_option maxRecDepth 100000 in
theorem fl_Vows_24 : FLink "WhoeverHeard$Vows" 24 8 4 := ⟨(RX8, TX8, 5), rfl, by decide, (lwT_of (tc_1 _ (List.mem_of_getElem? (i := 118) rfl)) rfl)⟩
set_option maxRecDepth 100000 in
theorem fl_W_124 : FLink "WhoeverHeard" 124 8 4 := ⟨(RX8, TX8, 5), rfl, by decide, (lwT_of (tc_1 _ (List.mem_of_getElem? (i := 119) rfl)) rfl)⟩
set_option maxRecDepth 100000 in
theorem fl_Ledger_180 : FLink "WhoeverHeard$Ledger" 180 8 4 := ⟨(RX8, TX8, 5), rfl, by decide, (lwT_of (tc_1 _ (List.mem_of_getElem? (i := 120) rfl)) rfl)⟩
set_option maxRecDepth 100000 in
theorem cl_W_30 : Cond.classLink "WhoeverHeard" 30 "WhoeverHeard$Sayings" ∈ lwT := (lwT_of (tc_1 _ (List.mem_of_getElem? (i := 132) rfl)) rfl)
set_option maxRecDepth 100000 in
theorem in_Sayings : Cond.instantiable "WhoeverHeard$Sayings" 5 ∈ lwT := (lwT_of (tc_1 _ (List.mem_of_getElem? (i := 133) rfl)) rfl)
set_option maxRecDepth 100000 in
theorem ml_Sayings_3 : Cond.methodLink "WhoeverHeard$Sayings" 3 Lib.objectInit ∈ lwT := (lwT_of (tc_1 _ (List.mem_of_getElem? (i := 137) rfl)) rfl)
set_option maxRecDepth 100000 in
theorem fl_Sayings_9 : FLink "WhoeverHeard$Sayings" 9 4 0 := ⟨(RX4, TX4, 5), rfl, by decide, (lwT_of (tc_1 _ (List.mem_of_getElem? (i := 138) rfl)) rfl)⟩
set_option maxRecDepth 100000 in
theorem fl_Ledger_144 : FLink "WhoeverHeard$Ledger" 144 4 0 := ⟨(RX4, TX4, 5), rfl, by decide, (lwT_of (tc_1 _ (List.mem_of_getElem? (i := 139) rfl)) rfl)⟩
set_option maxRecDepth 100000 in
theorem fl_W_193 : FLink "WhoeverHeard" 193 4 0 := ⟨(RX4, TX4, 5), rfl, by decide, (lwT_of (tc_1 _ (List.mem_of_getElem? (i := 140) rfl)) rfl)⟩
set_option maxRecDepth 100000 in
theorem fl_Sayings_15 : FLink "WhoeverHeard$Sayings" 15 4 1 := ⟨(RX4, TX4, 5), rfl, by decide, (lwT_of (tc_1 _ (List.mem_of_getElem? (i := 141) rfl)) rfl)⟩
set_option maxRecDepth 100000 in
theorem fl_Ledger_103 : FLink "WhoeverHeard$Ledger" 103 4 1 := ⟨(RX4, TX4, 5), rfl, by decide, (lwT_of (tc_1 _ (List.mem_of_getElem? (i := 142) rfl)) rfl)⟩
set_option maxRecDepth 100000 in
theorem fl_W_196 : FLink "WhoeverHeard" 196 4 1 := ⟨(RX4, TX4, 5), rfl, by decide, (lwT_of (tc_1 _ (List.mem_of_getElem? (i := 143) rfl)) rfl)⟩
set_option maxRecDepth 100000 in
theorem fl_Sayings_18 : FLink "WhoeverHeard$Sayings" 18 4 2 := ⟨(RX4, TX4, 5), rfl, by decide, (lwT_of (tc_1 _ (List.mem_of_getElem? (i := 144) rfl)) rfl)⟩
set_option maxRecDepth 100000 in
theorem fl_Ledger_85 : FLink "WhoeverHeard$Ledger" 85 4 2 := ⟨(RX4, TX4, 5), rfl, by decide, (lwT_of (tc_1 _ (List.mem_of_getElem? (i := 145) rfl)) rfl)⟩
set_option maxRecDepth 100000 in
theorem fl_W_199 : FLink "WhoeverHeard" 199 4 2 := ⟨(RX4, TX4, 5), rfl, by decide, (lwT_of (tc_1 _ (List.mem_of_getElem? (i := 146) rfl)) rfl)⟩
set_option maxRecDepth 100000 in
theorem fl_Sayings_21 : FLink "WhoeverHeard$Sayings" 21 4 3 := ⟨(RX4, TX4, 5), rfl, by decide, (lwT_of (tc_1 _ (List.mem_of_getElem? (i := 147) rfl)) rfl)⟩
set_option maxRecDepth 100000 in
theorem fl_Ledger_96 : FLink "WhoeverHeard$Ledger" 96 4 3 := ⟨(RX4, TX4, 5), rfl, by decide, (lwT_of (tc_1 _ (List.mem_of_getElem? (i := 148) rfl)) rfl)⟩
set_option maxRecDepth 100000 in
theorem fl_W_202 : FLink "WhoeverHeard" 202 4 3 := ⟨(RX4, TX4, 5), rfl, by decide, (lwT_of (tc_1 _ (List.mem_of_getElem? (i := 149) rfl)) rfl)⟩
set_option maxRecDepth 100000 in
theorem fl_Sayings_24 : FLink "WhoeverHeard$Sayings" 24 4 4 := ⟨(RX4, TX4, 5), rfl, by decide, (lwT_of (tc_1 _ (List.mem_of_getElem? (i := 150) rfl)) rfl)⟩
set_option maxRecDepth 100000 in
theorem fl_Ledger_70 : FLink "WhoeverHeard$Ledger" 70 4 4 := ⟨(RX4, TX4, 5), rfl, by decide, (lwT_of (tc_1 _ (List.mem_of_getElem? (i := 151) rfl)) rfl)⟩
set_option maxRecDepth 100000 in
theorem fl_W_125 : FLink "WhoeverHeard" 125 4 4 := ⟨(RX4, TX4, 5), rfl, by decide, (lwT_of (tc_1 _ (List.mem_of_getElem? (i := 152) rfl)) rfl)⟩
set_option maxRecDepth 100000 in
theorem cl_W_37 : Cond.classLink "WhoeverHeard" 37 "WhoeverHeard$Reader" ∈ lwT := (lwT_of (tc_1 _ (List.mem_of_getElem? (i := 164) rfl)) rfl)
set_option maxRecDepth 100000 in
theorem in_Reader : Cond.instantiable "WhoeverHeard$Reader" 10 ∈ lwT := (lwT_of (tc_1 _ (List.mem_of_getElem? (i := 165) rfl)) rfl)
set_option maxRecDepth 100000 in
theorem ml_Reader_3 : Cond.methodLink "WhoeverHeard$Reader" 3 Lib.objectInit ∈ lwT := (lwT_of (tc_1 _ (List.mem_of_getElem? (i := 169) rfl)) rfl)
set_option maxRecDepth 100000 in
theorem fl_Reader_9 : FLink "WhoeverHeard$Reader" 9 3 0 := ⟨(RX3, TX3, 10), rfl, by decide, (lwT_of (tc_1 _ (List.mem_of_getElem? (i := 170) rfl)) rfl)⟩
set_option maxRecDepth 100000 in
theorem fl_Reader_15 : FLink "WhoeverHeard$Reader" 15 3 1 := ⟨(RX3, TX3, 10), rfl, by decide, (lwT_of (tc_1 _ (List.mem_of_getElem? (i := 171) rfl)) rfl)⟩
set_option maxRecDepth 100000 in
theorem fl_W_130 : FLink "WhoeverHeard" 130 3 1 := ⟨(RX3, TX3, 10), rfl, by decide, (lwT_of (tc_1 _ (List.mem_of_getElem? (i := 172) rfl)) rfl)⟩
set_option maxRecDepth 100000 in
theorem fl_Reader_19 : FLink "WhoeverHeard$Reader" 19 3 2 := ⟨(RX3, TX3, 10), rfl, by decide, (lwT_of (tc_1 _ (List.mem_of_getElem? (i := 173) rfl)) rfl)⟩
set_option maxRecDepth 100000 in
theorem fl_Reader_22 : FLink "WhoeverHeard$Reader" 22 3 3 := ⟨(RX3, TX3, 10), rfl, by decide, (lwT_of (tc_1 _ (List.mem_of_getElem? (i := 174) rfl)) rfl)⟩
set_option maxRecDepth 100000 in
theorem fl_Reader_25 : FLink "WhoeverHeard$Reader" 25 3 4 := ⟨(RX3, TX3, 10), rfl, by decide, (lwT_of (tc_1 _ (List.mem_of_getElem? (i := 175) rfl)) rfl)⟩
set_option maxRecDepth 100000 in
theorem fl_Reader_28 : FLink "WhoeverHeard$Reader" 28 3 5 := ⟨(RX3, TX3, 10), rfl, by decide, (lwT_of (tc_1 _ (List.mem_of_getElem? (i := 176) rfl)) rfl)⟩
set_option maxRecDepth 100000 in
theorem fl_Reader_31 : FLink "WhoeverHeard$Reader" 31 3 6 := ⟨(RX3, TX3, 10), rfl, by decide, (lwT_of (tc_1 _ (List.mem_of_getElem? (i := 177) rfl)) rfl)⟩
set_option maxRecDepth 100000 in
theorem fl_Reader_34 : FLink "WhoeverHeard$Reader" 34 3 7 := ⟨(RX3, TX3, 10), rfl, by decide, (lwT_of (tc_1 _ (List.mem_of_getElem? (i := 178) rfl)) rfl)⟩
set_option maxRecDepth 100000 in
theorem fl_Texts_31 : FLink "WhoeverHeard$Texts" 31 3 7 := ⟨(RX3, TX3, 10), rfl, by decide, (lwT_of (tc_1 _ (List.mem_of_getElem? (i := 179) rfl)) rfl)⟩
set_option maxRecDepth 100000 in
theorem fl_Reader_37 : FLink "WhoeverHeard$Reader" 37 3 8 := ⟨(RX3, TX3, 10), rfl, by decide, (lwT_of (tc_1 _ (List.mem_of_getElem? (i := 180) rfl)) rfl)⟩
set_option maxRecDepth 100000 in
theorem fl_Texts_40 : FLink "WhoeverHeard$Texts" 40 3 8 := ⟨(RX3, TX3, 10), rfl, by decide, (lwT_of (tc_1 _ (List.mem_of_getElem? (i := 181) rfl)) rfl)⟩
set_option maxRecDepth 100000 in
theorem fl_Reader_40 : FLink "WhoeverHeard$Reader" 40 3 9 := ⟨(RX3, TX3, 10), rfl, by decide, (lwT_of (tc_1 _ (List.mem_of_getElem? (i := 182) rfl)) rfl)⟩
set_option maxRecDepth 100000 in
theorem cl_W_44 : Cond.classLink "WhoeverHeard" 44 "WhoeverHeard$Texts" ∈ lwT := (lwT_of (tc_1 _ (List.mem_of_getElem? (i := 204) rfl)) rfl)
set_option maxRecDepth 100000 in
theorem in_Texts : Cond.instantiable "WhoeverHeard$Texts" 6 ∈ lwT := (lwT_of (tc_1 _ (List.mem_of_getElem? (i := 205) rfl)) rfl)
set_option maxRecDepth 100000 in
theorem ml_Texts_3 : Cond.methodLink "WhoeverHeard$Texts" 3 Lib.objectInit ∈ lwT := (lwT_of (tc_1 _ (List.mem_of_getElem? (i := 209) rfl)) rfl)
set_option maxRecDepth 100000 in
theorem fl_Texts_9 : FLink "WhoeverHeard$Texts" 9 6 0 := ⟨(RX6, TX6, 6), rfl, by decide, (lwT_of (tc_1 _ (List.mem_of_getElem? (i := 210) rfl)) rfl)⟩
set_option maxRecDepth 100000 in
theorem fl_Texts_15 : FLink "WhoeverHeard$Texts" 15 6 1 := ⟨(RX6, TX6, 6), rfl, by decide, (lwT_of (tc_1 _ (List.mem_of_getElem? (i := 211) rfl)) rfl)⟩
set_option maxRecDepth 100000 in
theorem fl_Texts_18 : FLink "WhoeverHeard$Texts" 18 6 2 := ⟨(RX6, TX6, 6), rfl, by decide, (lwT_of (tc_1 _ (List.mem_of_getElem? (i := 212) rfl)) rfl)⟩
set_option maxRecDepth 100000 in
theorem fl_W_126 : FLink "WhoeverHeard" 126 6 2 := ⟨(RX6, TX6, 6), rfl, by decide, (lwT_of (tc_1 _ (List.mem_of_getElem? (i := 213) rfl)) rfl)⟩
set_option maxRecDepth 100000 in
theorem fl_Texts_22 : FLink "WhoeverHeard$Texts" 22 6 3 := ⟨(RX6, TX6, 6), rfl, by decide, (lwT_of (tc_1 _ (List.mem_of_getElem? (i := 214) rfl)) rfl)⟩
set_option maxRecDepth 100000 in
theorem fl_Image_59 : FLink "WhoeverHeard$Image" 59 6 3 := ⟨(RX6, TX6, 6), rfl, by decide, (lwT_of (tc_1 _ (List.mem_of_getElem? (i := 215) rfl)) rfl)⟩
set_option maxRecDepth 100000 in
theorem fl_W_127 : FLink "WhoeverHeard" 127 6 3 := ⟨(RX6, TX6, 6), rfl, by decide, (lwT_of (tc_1 _ (List.mem_of_getElem? (i := 216) rfl)) rfl)⟩
set_option maxRecDepth 100000 in
theorem fl_Texts_25 : FLink "WhoeverHeard$Texts" 25 6 4 := ⟨(RX6, TX6, 6), rfl, by decide, (lwT_of (tc_1 _ (List.mem_of_getElem? (i := 217) rfl)) rfl)⟩
set_option maxRecDepth 100000 in
theorem fl_Ledger_93 : FLink "WhoeverHeard$Ledger" 93 6 4 := ⟨(RX6, TX6, 6), rfl, by decide, (lwT_of (tc_1 _ (List.mem_of_getElem? (i := 218) rfl)) rfl)⟩
set_option maxRecDepth 100000 in
theorem fl_Texts_28 : FLink "WhoeverHeard$Texts" 28 6 5 := ⟨(RX6, TX6, 6), rfl, by decide, (lwT_of (tc_1 _ (List.mem_of_getElem? (i := 219) rfl)) rfl)⟩
set_option maxRecDepth 100000 in
theorem cl_W_51 : Cond.classLink "WhoeverHeard" 51 "WhoeverHeard$Ledger" ∈ lwT := (lwT_of (tc_1 _ (List.mem_of_getElem? (i := 233) rfl)) rfl)
set_option maxRecDepth 100000 in
theorem in_Ledger : Cond.instantiable "WhoeverHeard$Ledger" 15 ∈ lwT := (lwT_of (tc_1 _ (List.mem_of_getElem? (i := 234) rfl)) rfl)
set_option maxRecDepth 100000 in
theorem ml_W_53 : Cond.methodLink "WhoeverHeard" 53 (my mLedger_init) ∈ lwT := (lwT_of (tc_1 _ (List.mem_of_getElem? (i := 235) rfl)) rfl)
set_option maxRecDepth 100000 in
theorem ml_Ledger_3 : Cond.methodLink "WhoeverHeard$Ledger" 3 Lib.objectInit ∈ lwT := (lwT_of (tc_1 _ (List.mem_of_getElem? (i := 238) rfl)) rfl)
set_option maxRecDepth 100000 in
theorem fl_Ledger_43 : FLink "WhoeverHeard$Ledger" 43 2 0 := ⟨(RX2, TX2, 15), rfl, by decide, (lwT_of (tc_1 _ (List.mem_of_getElem? (i := 239) rfl)) rfl)⟩
set_option maxRecDepth 100000 in
theorem fl_Ledger_47 : FLink "WhoeverHeard$Ledger" 47 2 1 := ⟨(RX2, TX2, 15), rfl, by decide, (lwT_of (tc_2 _ (List.mem_of_getElem? (i := 0) rfl)) rfl)⟩
set_option maxRecDepth 100000 in
theorem fl_Ledger_51 : FLink "WhoeverHeard$Ledger" 51 2 2 := ⟨(RX2, TX2, 15), rfl, by decide, (lwT_of (tc_2 _ (List.mem_of_getElem? (i := 1) rfl)) rfl)⟩
set_option maxRecDepth 100000 in
theorem fl_Ledger_55 : FLink "WhoeverHeard$Ledger" 55 2 3 := ⟨(RX2, TX2, 15), rfl, by decide, (lwT_of (tc_2 _ (List.mem_of_getElem? (i := 2) rfl)) rfl)⟩
set_option maxRecDepth 100000 in
theorem fl_Ledger_59 : FLink "WhoeverHeard$Ledger" 59 2 4 := ⟨(RX2, TX2, 15), rfl, by decide, (lwT_of (tc_2 _ (List.mem_of_getElem? (i := 3) rfl)) rfl)⟩
set_option maxRecDepth 100000 in
theorem fl_Ledger_9 : FLink "WhoeverHeard$Ledger" 9 2 5 := ⟨(RX2, TX2, 15), rfl, by decide, (lwT_of (tc_2 _ (List.mem_of_getElem? (i := 4) rfl)) rfl)⟩
set_option maxRecDepth 100000 in
theorem fl_Ledger_15 : FLink "WhoeverHeard$Ledger" 15 2 6 := ⟨(RX2, TX2, 15), rfl, by decide, (lwT_of (tc_2 _ (List.mem_of_getElem? (i := 5) rfl)) rfl)⟩
set_option maxRecDepth 100000 in
theorem fl_W_208 : FLink "WhoeverHeard" 208 2 6 := ⟨(RX2, TX2, 15), rfl, by decide, (lwT_of (tc_2 _ (List.mem_of_getElem? (i := 6) rfl)) rfl)⟩
set_option maxRecDepth 100000 in
theorem fl_Ledger_19 : FLink "WhoeverHeard$Ledger" 19 2 7 := ⟨(RX2, TX2, 15), rfl, by decide, (lwT_of (tc_2 _ (List.mem_of_getElem? (i := 7) rfl)) rfl)⟩
set_option maxRecDepth 100000 in
theorem fl_W_211 : FLink "WhoeverHeard" 211 2 7 := ⟨(RX2, TX2, 15), rfl, by decide, (lwT_of (tc_2 _ (List.mem_of_getElem? (i := 8) rfl)) rfl)⟩
set_option maxRecDepth 100000 in
theorem fl_Ledger_22 : FLink "WhoeverHeard$Ledger" 22 2 8 := ⟨(RX2, TX2, 15), rfl, by decide, (lwT_of (tc_2 _ (List.mem_of_getElem? (i := 9) rfl)) rfl)⟩
set_option maxRecDepth 100000 in
theorem fl_Ledger_25 : FLink "WhoeverHeard$Ledger" 25 2 9 := ⟨(RX2, TX2, 15), rfl, by decide, (lwT_of (tc_2 _ (List.mem_of_getElem? (i := 10) rfl)) rfl)⟩
set_option maxRecDepth 100000 in
theorem fl_W_216 : FLink "WhoeverHeard" 216 2 9 := ⟨(RX2, TX2, 15), rfl, by decide, (lwT_of (tc_2 _ (List.mem_of_getElem? (i := 11) rfl)) rfl)⟩
set_option maxRecDepth 100000 in
theorem fl_Ledger_28 : FLink "WhoeverHeard$Ledger" 28 2 10 := ⟨(RX2, TX2, 15), rfl, by decide, (lwT_of (tc_2 _ (List.mem_of_getElem? (i := 12) rfl)) rfl)⟩
set_option maxRecDepth 100000 in
theorem fl_W_219 : FLink "WhoeverHeard" 219 2 10 := ⟨(RX2, TX2, 15), rfl, by decide, (lwT_of (tc_2 _ (List.mem_of_getElem? (i := 13) rfl)) rfl)⟩
set_option maxRecDepth 100000 in
theorem fl_Ledger_31 : FLink "WhoeverHeard$Ledger" 31 2 11 := ⟨(RX2, TX2, 15), rfl, by decide, (lwT_of (tc_2 _ (List.mem_of_getElem? (i := 14) rfl)) rfl)⟩
set_option maxRecDepth 100000 in
theorem fl_W_222 : FLink "WhoeverHeard" 222 2 11 := ⟨(RX2, TX2, 15), rfl, by decide, (lwT_of (tc_2 _ (List.mem_of_getElem? (i := 15) rfl)) rfl)⟩
set_option maxRecDepth 100000 in
theorem fl_Ledger_34 : FLink "WhoeverHeard$Ledger" 34 2 12 := ⟨(RX2, TX2, 15), rfl, by decide, (lwT_of (tc_2 _ (List.mem_of_getElem? (i := 16) rfl)) rfl)⟩
set_option maxRecDepth 100000 in
theorem fl_W_225 : FLink "WhoeverHeard" 225 2 12 := ⟨(RX2, TX2, 15), rfl, by decide, (lwT_of (tc_2 _ (List.mem_of_getElem? (i := 17) rfl)) rfl)⟩
set_option maxRecDepth 100000 in
theorem fl_Ledger_37 : FLink "WhoeverHeard$Ledger" 37 2 13 := ⟨(RX2, TX2, 15), rfl, by decide, (lwT_of (tc_2 _ (List.mem_of_getElem? (i := 18) rfl)) rfl)⟩
set_option maxRecDepth 100000 in
theorem fl_W_263 : FLink "WhoeverHeard" 263 2 13 := ⟨(RX2, TX2, 15), rfl, by decide, (lwT_of (tc_2 _ (List.mem_of_getElem? (i := 19) rfl)) rfl)⟩
set_option maxRecDepth 100000 in
theorem fl_Ledger_40 : FLink "WhoeverHeard$Ledger" 40 2 14 := ⟨(RX2, TX2, 15), rfl, by decide, (lwT_of (tc_2 _ (List.mem_of_getElem? (i := 20) rfl)) rfl)⟩
set_option maxRecDepth 100000 in
theorem fl_W_274 : FLink "WhoeverHeard" 274 2 14 := ⟨(RX2, TX2, 15), rfl, by decide, (lwT_of (tc_2 _ (List.mem_of_getElem? (i := 21) rfl)) rfl)⟩
set_option maxRecDepth 100000 in
theorem cl_W_60 : Cond.classLink "WhoeverHeard" 60 "WhoeverHeard$Image" ∈ lwT := (lwT_of (tc_2 _ (List.mem_of_getElem? (i := 53) rfl)) rfl)
set_option maxRecDepth 100000 in
theorem in_Image : Cond.instantiable "WhoeverHeard$Image" 6 ∈ lwT := (lwT_of (tc_2 _ (List.mem_of_getElem? (i := 54) rfl)) rfl)
set_option maxRecDepth 100000 in
theorem ml_Image_3 : Cond.methodLink "WhoeverHeard$Image" 3 Lib.objectInit ∈ lwT := (lwT_of (tc_2 _ (List.mem_of_getElem? (i := 58) rfl)) rfl)
set_option maxRecDepth 100000 in
theorem cl_Image_9 : Cond.classLink "WhoeverHeard$Image" 9 "WhoeverHeard$Town" ∈ lwT := (lwT_of (tc_2 _ (List.mem_of_getElem? (i := 59) rfl)) rfl)
set_option maxRecDepth 100000 in
theorem ml_Image_11 : Cond.methodLink "WhoeverHeard$Image" 11 (my mTown_init) ∈ lwT := (lwT_of (tc_2 _ (List.mem_of_getElem? (i := 60) rfl)) rfl)
set_option maxRecDepth 100000 in
theorem cl_Image_18 : Cond.classLink "WhoeverHeard$Image" 18 "WhoeverHeard$Sayings" ∈ lwT := (lwT_of (tc_2 _ (List.mem_of_getElem? (i := 61) rfl)) rfl)
set_option maxRecDepth 100000 in
theorem fl_Image_12 : FLink "WhoeverHeard$Image" 12 1 0 := ⟨(RX1, TX1, 6), rfl, by decide, (lwT_of (tc_2 _ (List.mem_of_getElem? (i := 63) rfl)) rfl)⟩
set_option maxRecDepth 100000 in
theorem fl_Image_21 : FLink "WhoeverHeard$Image" 21 1 1 := ⟨(RX1, TX1, 6), rfl, by decide, (lwT_of (tc_2 _ (List.mem_of_getElem? (i := 64) rfl)) rfl)⟩
set_option maxRecDepth 100000 in
theorem fl_Image_25 : FLink "WhoeverHeard$Image" 25 1 2 := ⟨(RX1, TX1, 6), rfl, by decide, (lwT_of (tc_2 _ (List.mem_of_getElem? (i := 65) rfl)) rfl)⟩
set_option maxRecDepth 100000 in
theorem fl_Image_29 : FLink "WhoeverHeard$Image" 29 1 3 := ⟨(RX1, TX1, 6), rfl, by decide, (lwT_of (tc_2 _ (List.mem_of_getElem? (i := 66) rfl)) rfl)⟩
set_option maxRecDepth 100000 in
theorem fl_Image_33 : FLink "WhoeverHeard$Image" 33 1 4 := ⟨(RX1, TX1, 6), rfl, by decide, (lwT_of (tc_2 _ (List.mem_of_getElem? (i := 67) rfl)) rfl)⟩
set_option maxRecDepth 100000 in
theorem fl_Image_36 : FLink "WhoeverHeard$Image" 36 1 5 := ⟨(RX1, TX1, 6), rfl, by decide, (lwT_of (tc_2 _ (List.mem_of_getElem? (i := 68) rfl)) rfl)⟩
set_option maxRecDepth 100000 in
theorem fl_W_325 : FLink "WhoeverHeard" 325 1 5 := ⟨(RX1, TX1, 6), rfl, by decide, (lwT_of (tc_2 _ (List.mem_of_getElem? (i := 69) rfl)) rfl)⟩
set_option maxRecDepth 100000 in
theorem cl_W_67 : Cond.classLink "WhoeverHeard" 67 "WhoeverHeard$Sheets" ∈ lwT := (lwT_of (tc_2 _ (List.mem_of_getElem? (i := 83) rfl)) rfl)
set_option maxRecDepth 100000 in
theorem in_Sheets : Cond.instantiable "WhoeverHeard$Sheets" 3 ∈ lwT := (lwT_of (tc_2 _ (List.mem_of_getElem? (i := 84) rfl)) rfl)
set_option maxRecDepth 100000 in
theorem ml_Sheets_3 : Cond.methodLink "WhoeverHeard$Sheets" 3 Lib.objectInit ∈ lwT := (lwT_of (tc_2 _ (List.mem_of_getElem? (i := 88) rfl)) rfl)
set_option maxRecDepth 100000 in
theorem fl_Sheets_9 : FLink "WhoeverHeard$Sheets" 9 5 0 := ⟨(RX5, TX5, 3), rfl, by decide, (lwT_of (tc_2 _ (List.mem_of_getElem? (i := 89) rfl)) rfl)⟩
set_option maxRecDepth 100000 in
theorem fl_W_343 : FLink "WhoeverHeard" 343 5 0 := ⟨(RX5, TX5, 3), rfl, by decide, (lwT_of (tc_2 _ (List.mem_of_getElem? (i := 90) rfl)) rfl)⟩
set_option maxRecDepth 100000 in
theorem fl_Sheets_15 : FLink "WhoeverHeard$Sheets" 15 5 1 := ⟨(RX5, TX5, 3), rfl, by decide, (lwT_of (tc_2 _ (List.mem_of_getElem? (i := 91) rfl)) rfl)⟩
set_option maxRecDepth 100000 in
theorem fl_W_338 : FLink "WhoeverHeard" 338 5 1 := ⟨(RX5, TX5, 3), rfl, by decide, (lwT_of (tc_2 _ (List.mem_of_getElem? (i := 92) rfl)) rfl)⟩
set_option maxRecDepth 100000 in
theorem fl_Sheets_18 : FLink "WhoeverHeard$Sheets" 18 5 2 := ⟨(RX5, TX5, 3), rfl, by decide, (lwT_of (tc_2 _ (List.mem_of_getElem? (i := 93) rfl)) rfl)⟩
set_option maxRecDepth 100000 in
theorem fl_W_346 : FLink "WhoeverHeard" 346 5 2 := ⟨(RX5, TX5, 3), rfl, by decide, (lwT_of (tc_2 _ (List.mem_of_getElem? (i := 94) rfl)) rfl)⟩
set_option maxRecDepth 100000 in
theorem ml_W_76 : Cond.methodLink "WhoeverHeard" 76 (my mString_length) ∈ lwT := (lwT_of (tc_2 _ (List.mem_of_getElem? (i := 103) rfl)) rfl)
set_option maxRecDepth 100000 in
theorem ml_String_335 : Cond.methodLink "java/lang/String" 335 (my mString_coder) ∈ lwT := (lwT_of (tc_2 _ (List.mem_of_getElem? (i := 107) rfl)) rfl)
set_option maxRecDepth 100000 in
theorem ml_W_82 : Cond.methodLink "WhoeverHeard" 82 (my mString_charAt) ∈ lwT := (lwT_of (tc_2 _ (List.mem_of_getElem? (i := 113) rfl)) rfl)
set_option maxRecDepth 100000 in
theorem ml_String_492 : Cond.methodLink "java/lang/String" 492 (my mString_isLatin1) ∈ lwT := (lwT_of (tc_2 _ (List.mem_of_getElem? (i := 117) rfl)) rfl)
set_option maxRecDepth 100000 in
theorem ml_String_495 : Cond.methodLink "java/lang/String" 495 (my mStringLatin1_charAt) ∈ lwT := (lwT_of (tc_2 _ (List.mem_of_getElem? (i := 121) rfl)) rfl)
set_option maxRecDepth 100000 in
theorem ml_StringLatin1_9 : Cond.methodLink "java/lang/StringLatin1" 9 (my mString_checkIndex) ∈ lwT := (lwT_of (tc_2 _ (List.mem_of_getElem? (i := 124) rfl)) rfl)
set_option maxRecDepth 100000 in
theorem ml_String_1059 : Cond.methodLink "java/lang/String" 1059 (my mPreconditions_checkIndex) ∈ lwT := (lwT_of (tc_2 _ (List.mem_of_getElem? (i := 129) rfl)) rfl)
set_option maxRecDepth 100000 in
theorem ml_String_498 : Cond.methodLink "java/lang/String" 498 (my mStringUTF16_charAt) ∈ lwT := (lwT_of (tc_2 _ (List.mem_of_getElem? (i := 132) rfl)) rfl)
set_option maxRecDepth 100000 in
theorem ml_StringUTF16_67 : Cond.methodLink "java/lang/StringUTF16" 67 (my mStringUTF16_checkIndex) ∈ lwT := (lwT_of (tc_2 _ (List.mem_of_getElem? (i := 135) rfl)) rfl)
set_option maxRecDepth 100000 in
theorem ml_StringUTF16_48 : Cond.methodLink "java/lang/StringUTF16" 48 (my mStringUTF16_length) ∈ lwT := (lwT_of (tc_2 _ (List.mem_of_getElem? (i := 138) rfl)) rfl)
set_option maxRecDepth 100000 in
theorem ml_StringUTF16_414 : Cond.methodLink "java/lang/StringUTF16" 414 (my mString_checkIndex) ∈ lwT := (lwT_of (tc_2 _ (List.mem_of_getElem? (i := 141) rfl)) rfl)
set_option maxRecDepth 100000 in
theorem ml_StringUTF16_71 : Cond.methodLink "java/lang/StringUTF16" 71 (my mStringUTF16_getChar) ∈ lwT := (lwT_of (tc_2 _ (List.mem_of_getElem? (i := 142) rfl)) rfl)
set_option maxRecDepth 100000 in
theorem ml_W_86 : Cond.methodLink "WhoeverHeard" 86 (my mReader_put) ∈ lwT := (lwT_of (tc_2 _ (List.mem_of_getElem? (i := 151) rfl)) rfl)
set_option maxRecDepth 100000 in
theorem ml_W_90 : Cond.methodLink "WhoeverHeard" 90 (my mReader_reads) ∈ lwT := (lwT_of (tc_2 _ (List.mem_of_getElem? (i := 155) rfl)) rfl)
set_option maxRecDepth 100000 in
theorem ml_Reader_43 : Cond.methodLink "WhoeverHeard$Reader" 43 (my mReader_cut) ∈ lwT := (lwT_of (tc_2 _ (List.mem_of_getElem? (i := 159) rfl)) rfl)
set_option maxRecDepth 100000 in
theorem ml_Reader_54 : Cond.methodLink "WhoeverHeard$Reader" 54 (my mReader_isLetter) ∈ lwT := (lwT_of (tc_2 _ (List.mem_of_getElem? (i := 163) rfl)) rfl)
set_option maxRecDepth 100000 in
theorem ml_Reader_57 : Cond.methodLink "WhoeverHeard$Reader" 57 (my mReader_lettersEnd) ∈ lwT := (lwT_of (tc_2 _ (List.mem_of_getElem? (i := 169) rfl)) rfl)
set_option maxRecDepth 100000 in
theorem ml_Reader_61 : Cond.methodLink "WhoeverHeard$Reader" 61 (my mReader_putWord) ∈ lwT := (lwT_of (tc_2 _ (List.mem_of_getElem? (i := 173) rfl)) rfl)
set_option maxRecDepth 100000 in
theorem ml_Reader_81 : Cond.methodLink "WhoeverHeard$Reader" 81 (my mReader_nameAt) ∈ lwT := (lwT_of (tc_2 _ (List.mem_of_getElem? (i := 177) rfl)) rfl)
set_option maxRecDepth 100000 in
theorem ml_Reader_90 : Cond.methodLink "WhoeverHeard$Reader" 90 (my mReader_spells) ∈ lwT := (lwT_of (tc_2 _ (List.mem_of_getElem? (i := 182) rfl)) rfl)
set_option maxRecDepth 100000 in
theorem ml_Reader_116 : Cond.methodLink "WhoeverHeard$Reader" 116 (my mString_length) ∈ lwT := (lwT_of (tc_2 _ (List.mem_of_getElem? (i := 186) rfl)) rfl)
set_option maxRecDepth 100000 in
theorem ml_Reader_122 : Cond.methodLink "WhoeverHeard$Reader" 122 (my mString_charAt) ∈ lwT := (lwT_of (tc_2 _ (List.mem_of_getElem? (i := 187) rfl)) rfl)
set_option maxRecDepth 100000 in
theorem ml_Reader_77 : Cond.methodLink "WhoeverHeard$Reader" 77 (my mReader_putToken) ∈ lwT := (lwT_of (tc_2 _ (List.mem_of_getElem? (i := 193) rfl)) rfl)
set_option maxRecDepth 100000 in
theorem ml_Reader_85 : Cond.methodLink "WhoeverHeard$Reader" 85 (my mReader_keyAt) ∈ lwT := (lwT_of (tc_2 _ (List.mem_of_getElem? (i := 197) rfl)) rfl)
set_option maxRecDepth 100000 in
theorem ml_Reader_65 : Cond.methodLink "WhoeverHeard$Reader" 65 (my mReader_isDigit) ∈ lwT := (lwT_of (tc_2 _ (List.mem_of_getElem? (i := 207) rfl)) rfl)
set_option maxRecDepth 100000 in
theorem ml_Reader_68 : Cond.methodLink "WhoeverHeard$Reader" 68 (my mReader_digitsEnd) ∈ lwT := (lwT_of (tc_2 _ (List.mem_of_getElem? (i := 210) rfl)) rfl)
set_option maxRecDepth 100000 in
theorem ml_Reader_71 : Cond.methodLink "WhoeverHeard$Reader" 71 (my mReader_putNumber) ∈ lwT := (lwT_of (tc_2 _ (List.mem_of_getElem? (i := 214) rfl)) rfl)
set_option maxRecDepth 100000 in
theorem ml_Reader_74 : Cond.methodLink "WhoeverHeard$Reader" 74 (my mReader_isSign) ∈ lwT := (lwT_of (tc_2 _ (List.mem_of_getElem? (i := 218) rfl)) rfl)
set_option maxRecDepth 100000 in
theorem ml_Reader_46 : Cond.methodLink "WhoeverHeard$Reader" 46 (my mReader_passes) ∈ lwT := (lwT_of (tc_2 _ (List.mem_of_getElem? (i := 221) rfl)) rfl)
set_option maxRecDepth 100000 in
theorem ml_Reader_50 : Cond.methodLink "WhoeverHeard$Reader" 50 (my mReader_level) ∈ lwT := (lwT_of (tc_2 _ (List.mem_of_getElem? (i := 225) rfl)) rfl)
set_option maxRecDepth 100000 in
theorem ml_Reader_130 : Cond.methodLink "WhoeverHeard$Reader" 130 (my mReader_negation) ∈ lwT := (lwT_of (tc_2 _ (List.mem_of_getElem? (i := 229) rfl)) rfl)
set_option maxRecDepth 100000 in
theorem ml_Reader_143 : Cond.methodLink "WhoeverHeard$Reader" 143 (my mReader_opens) ∈ lwT := (lwT_of (tc_2 _ (List.mem_of_getElem? (i := 233) rfl)) rfl)
set_option maxRecDepth 100000 in
theorem ml_Reader_146 : Cond.methodLink "WhoeverHeard$Reader" 146 (my mReader_did) ∈ lwT := (lwT_of (tc_2 _ (List.mem_of_getElem? (i := 237) rfl)) rfl)
set_option maxRecDepth 100000 in
theorem ml_Reader_139 : Cond.methodLink "WhoeverHeard$Reader" 139 (my mReader_step) ∈ lwT := (lwT_of (tc_3 _ (List.mem_of_getElem? (i := 1) rfl)) rfl)
set_option maxRecDepth 100000 in
theorem ml_Reader_133 : Cond.methodLink "WhoeverHeard$Reader" 133 (my mReader_one) ∈ lwT := (lwT_of (tc_3 _ (List.mem_of_getElem? (i := 5) rfl)) rfl)
set_option maxRecDepth 100000 in
theorem ml_Reader_136 : Cond.methodLink "WhoeverHeard$Reader" 136 (my mReader_joins) ∈ lwT := (lwT_of (tc_3 _ (List.mem_of_getElem? (i := 9) rfl)) rfl)
set_option maxRecDepth 100000 in
theorem ml_W_94 : Cond.methodLink "WhoeverHeard" 94 (my mTexts_add) ∈ lwT := (lwT_of (tc_3 _ (List.mem_of_getElem? (i := 12) rfl)) rfl)
set_option maxRecDepth 100000 in
theorem ml_Texts_34 : Cond.methodLink "WhoeverHeard$Texts" 34 arraycopyName ∈ lwT := (lwT_of (tc_3 _ (List.mem_of_getElem? (i := 16) rfl)) rfl)
set_option maxRecDepth 100000 in
theorem ml_W_98 : Cond.methodLink "WhoeverHeard" 98 (my mReader_clear) ∈ lwT := (lwT_of (tc_3 _ (List.mem_of_getElem? (i := 19) rfl)) rfl)
set_option maxRecDepth 100000 in
theorem fl_W_12 : FLink "WhoeverHeard" 12 9 0 := ⟨(RX9, TX9, 9), rfl, by decide, (lwT_of (tc_3 _ (List.mem_of_getElem? (i := 23) rfl)) rfl)⟩
set_option maxRecDepth 100000 in
theorem fl_W_19 : FLink "WhoeverHeard" 19 9 1 := ⟨(RX9, TX9, 9), rfl, by decide, (lwT_of (tc_3 _ (List.mem_of_getElem? (i := 24) rfl)) rfl)⟩
set_option maxRecDepth 100000 in
theorem fl_W_26 : FLink "WhoeverHeard" 26 9 2 := ⟨(RX9, TX9, 9), rfl, by decide, (lwT_of (tc_3 _ (List.mem_of_getElem? (i := 25) rfl)) rfl)⟩
set_option maxRecDepth 100000 in
theorem fl_W_33 : FLink "WhoeverHeard" 33 9 3 := ⟨(RX9, TX9, 9), rfl, by decide, (lwT_of (tc_3 _ (List.mem_of_getElem? (i := 26) rfl)) rfl)⟩
set_option maxRecDepth 100000 in
theorem fl_W_40 : FLink "WhoeverHeard" 40 9 4 := ⟨(RX9, TX9, 9), rfl, by decide, (lwT_of (tc_3 _ (List.mem_of_getElem? (i := 27) rfl)) rfl)⟩
set_option maxRecDepth 100000 in
theorem fl_W_47 : FLink "WhoeverHeard" 47 9 5 := ⟨(RX9, TX9, 9), rfl, by decide, (lwT_of (tc_3 _ (List.mem_of_getElem? (i := 28) rfl)) rfl)⟩
set_option maxRecDepth 100000 in
theorem fl_W_56 : FLink "WhoeverHeard" 56 9 6 := ⟨(RX9, TX9, 9), rfl, by decide, (lwT_of (tc_3 _ (List.mem_of_getElem? (i := 29) rfl)) rfl)⟩
set_option maxRecDepth 100000 in
theorem fl_W_63 : FLink "WhoeverHeard" 63 9 7 := ⟨(RX9, TX9, 9), rfl, by decide, (lwT_of (tc_3 _ (List.mem_of_getElem? (i := 30) rfl)) rfl)⟩
set_option maxRecDepth 100000 in
theorem fl_W_70 : FLink "WhoeverHeard" 70 9 8 := ⟨(RX9, TX9, 9), rfl, by decide, (lwT_of (tc_3 _ (List.mem_of_getElem? (i := 31) rfl)) rfl)⟩
set_option maxRecDepth 100000 in
theorem ml_Law_13 : Cond.methodLink "WhoeverHeardLaw" 13 (my mW_far) ∈ lwT := (lwT_of (tc_3 _ (List.mem_of_getElem? (i := 52) rfl)) rfl)
set_option maxRecDepth 100000 in
theorem ml_W_101 : Cond.methodLink "WhoeverHeard" 101 (my mW_within) ∈ lwT := (lwT_of (tc_3 _ (List.mem_of_getElem? (i := 56) rfl)) rfl)
set_option maxRecDepth 100000 in
theorem ml_W_105 : Cond.methodLink "WhoeverHeard" 105 (my mTown_between) ∈ lwT := (lwT_of (tc_3 _ (List.mem_of_getElem? (i := 57) rfl)) rfl)
set_option maxRecDepth 100000 in
theorem ml_W_109 : Cond.methodLink "WhoeverHeard" 109 (my mTown_setBetween) ∈ lwT := (lwT_of (tc_3 _ (List.mem_of_getElem? (i := 61) rfl)) rfl)
set_option maxRecDepth 100000 in
theorem ml_Law_18 : Cond.methodLink "WhoeverHeardLaw" 18 (my mW_hush) ∈ lwT := (lwT_of (tc_3 _ (List.mem_of_getElem? (i := 65) rfl)) rfl)
set_option maxRecDepth 100000 in
theorem ml_Law_23 : Cond.methodLink "WhoeverHeardLaw" 23 (my mW_stride) ∈ lwT := (lwT_of (tc_3 _ (List.mem_of_getElem? (i := 69) rfl)) rfl)
set_option maxRecDepth 100000 in
theorem ml_Law_28 : Cond.methodLink "WhoeverHeardLaw" 28 (my mW_count) ∈ lwT := (lwT_of (tc_3 _ (List.mem_of_getElem? (i := 73) rfl)) rfl)
set_option maxRecDepth 100000 in
theorem ml_Law_32 : Cond.methodLink "WhoeverHeardLaw" 32 (my mW_feed) ∈ lwT := (lwT_of (tc_3 _ (List.mem_of_getElem? (i := 77) rfl)) rfl)
set_option maxRecDepth 100000 in
theorem ml_W_133 : Cond.methodLink "WhoeverHeard" 133 (my mW_isByte) ∈ lwT := (lwT_of (tc_3 _ (List.mem_of_getElem? (i := 81) rfl)) rfl)
set_option maxRecDepth 100000 in
theorem ml_Law_37 : Cond.methodLink "WhoeverHeardLaw" 37 (my mW_text) ∈ lwT := (lwT_of (tc_3 _ (List.mem_of_getElem? (i := 84) rfl)) rfl)
set_option maxRecDepth 100000 in
theorem ml_W_137 : Cond.methodLink "WhoeverHeard" 137 (my mReader_fault) ∈ lwT := (lwT_of (tc_3 _ (List.mem_of_getElem? (i := 88) rfl)) rfl)
set_option maxRecDepth 100000 in
theorem ml_Law_42 : Cond.methodLink "WhoeverHeardLaw" 42 (my mW_force) ∈ lwT := (lwT_of (tc_3 _ (List.mem_of_getElem? (i := 92) rfl)) rfl)
set_option maxRecDepth 100000 in
theorem ml_Law_46 : Cond.methodLink "WhoeverHeardLaw" 46 (my mW_person) ∈ lwT := (lwT_of (tc_3 _ (List.mem_of_getElem? (i := 96) rfl)) rfl)
set_option maxRecDepth 100000 in
theorem ml_W_140 : Cond.methodLink "WhoeverHeard" 140 (my mFolk_add) ∈ lwT := (lwT_of (tc_3 _ (List.mem_of_getElem? (i := 100) rfl)) rfl)
set_option maxRecDepth 100000 in
theorem ml_Law_51 : Cond.methodLink "WhoeverHeardLaw" 51 (my mW_move) ∈ lwT := (lwT_of (tc_3 _ (List.mem_of_getElem? (i := 104) rfl)) rfl)
set_option maxRecDepth 100000 in
theorem ml_W_143 : Cond.methodLink "WhoeverHeard" 143 (my mFolk_has) ∈ lwT := (lwT_of (tc_3 _ (List.mem_of_getElem? (i := 108) rfl)) rfl)
set_option maxRecDepth 100000 in
theorem ml_Law_55 : Cond.methodLink "WhoeverHeardLaw" 55 (my mW_told) ∈ lwT := (lwT_of (tc_3 _ (List.mem_of_getElem? (i := 113) rfl)) rfl)
set_option maxRecDepth 100000 in
theorem ml_W_170 : Cond.methodLink "WhoeverHeard" 170 (my mFolk_placeOf) ∈ lwT := (lwT_of (tc_3 _ (List.mem_of_getElem? (i := 117) rfl)) rfl)
set_option maxRecDepth 100000 in
theorem ml_Folk_47 : Cond.methodLink "WhoeverHeard$Folk" 47 (my mFolk_startOf) ∈ lwT := (lwT_of (tc_3 _ (List.mem_of_getElem? (i := 121) rfl)) rfl)
set_option maxRecDepth 100000 in
theorem ml_Folk_51 : Cond.methodLink "WhoeverHeard$Folk" 51 (my mFolk_isA) ∈ lwT := (lwT_of (tc_3 _ (List.mem_of_getElem? (i := 125) rfl)) rfl)
set_option maxRecDepth 100000 in
theorem ml_Folk_55 : Cond.methodLink "WhoeverHeard$Folk" 55 (my mMath_max) ∈ lwT := (lwT_of (tc_3 _ (List.mem_of_getElem? (i := 131) rfl)) rfl)
set_option maxRecDepth 100000 in
theorem ml_Law_59 : Cond.methodLink "WhoeverHeardLaw" 59 (my mW_promise) ∈ lwT := (lwT_of (tc_3 _ (List.mem_of_getElem? (i := 134) rfl)) rfl)
set_option maxRecDepth 100000 in
theorem ml_W_173 : Cond.methodLink "WhoeverHeard" 173 (my mVows_add) ∈ lwT := (lwT_of (tc_3 _ (List.mem_of_getElem? (i := 138) rfl)) rfl)
set_option maxRecDepth 100000 in
theorem ml_Law_63 : Cond.methodLink "WhoeverHeardLaw" 63 (my mW_promised) ∈ lwT := (lwT_of (tc_3 _ (List.mem_of_getElem? (i := 142) rfl)) rfl)
set_option maxRecDepth 100000 in
theorem ml_W_174 : Cond.methodLink "WhoeverHeard" 174 (my mVows_has) ∈ lwT := (lwT_of (tc_3 _ (List.mem_of_getElem? (i := 146) rfl)) rfl)
set_option maxRecDepth 100000 in
theorem ml_Law_67 : Cond.methodLink "WhoeverHeardLaw" 67 (my mW_say) ∈ lwT := (lwT_of (tc_3 _ (List.mem_of_getElem? (i := 151) rfl)) rfl)
set_option maxRecDepth 100000 in
theorem ml_W_187 : Cond.methodLink "WhoeverHeard" 187 (my mW_isHow) ∈ lwT := (lwT_of (tc_3 _ (List.mem_of_getElem? (i := 155) rfl)) rfl)
set_option maxRecDepth 100000 in
theorem ml_W_190 : Cond.methodLink "WhoeverHeard" 190 (my mSayings_put) ∈ lwT := (lwT_of (tc_3 _ (List.mem_of_getElem? (i := 158) rfl)) rfl)
set_option maxRecDepth 100000 in
theorem ml_Law_71 : Cond.methodLink "WhoeverHeardLaw" 71 (my mW_unsay) ∈ lwT := (lwT_of (tc_3 _ (List.mem_of_getElem? (i := 162) rfl)) rfl)
set_option maxRecDepth 100000 in
theorem ml_Law_75 : Cond.methodLink "WhoeverHeardLaw" 75 (my mW_said) ∈ lwT := (lwT_of (tc_3 _ (List.mem_of_getElem? (i := 166) rfl)) rfl)
set_option maxRecDepth 100000 in
theorem ml_W_192 : Cond.methodLink "WhoeverHeard" 192 (my mSayings_has) ∈ lwT := (lwT_of (tc_3 _ (List.mem_of_getElem? (i := 170) rfl)) rfl)
set_option maxRecDepth 100000 in
theorem ml_Law_79 : Cond.methodLink "WhoeverHeardLaw" 79 (my mW_hears) ∈ lwT := (lwT_of (tc_3 _ (List.mem_of_getElem? (i := 175) rfl)) rfl)
set_option maxRecDepth 100000 in
theorem ml_W_205 : Cond.methodLink "WhoeverHeard" 205 (my mLedger_listen) ∈ lwT := (lwT_of (tc_3 _ (List.mem_of_getElem? (i := 179) rfl)) rfl)
set_option maxRecDepth 100000 in
theorem ml_Ledger_75 : Cond.methodLink "WhoeverHeard$Ledger" 75 (my mLedger_listenTo) ∈ lwT := (lwT_of (tc_3 _ (List.mem_of_getElem? (i := 183) rfl)) rfl)
set_option maxRecDepth 100000 in
theorem ml_Ledger_78 : Cond.methodLink "WhoeverHeard$Ledger" 78 (my mLedger_listenOne) ∈ lwT := (lwT_of (tc_3 _ (List.mem_of_getElem? (i := 187) rfl)) rfl)
set_option maxRecDepth 100000 in
theorem ml_Ledger_88 : Cond.methodLink "WhoeverHeard$Ledger" 88 (my mTexts_giveNothing) ∈ lwT := (lwT_of (tc_3 _ (List.mem_of_getElem? (i := 191) rfl)) rfl)
set_option maxRecDepth 100000 in
theorem ml_Ledger_99 : Cond.methodLink "WhoeverHeard$Ledger" 99 (my mFolk_placeOf) ∈ lwT := (lwT_of (tc_3 _ (List.mem_of_getElem? (i := 195) rfl)) rfl)
set_option maxRecDepth 100000 in
theorem ml_Ledger_106 : Cond.methodLink "WhoeverHeard$Ledger" 106 (my mTown_between) ∈ lwT := (lwT_of (tc_3 _ (List.mem_of_getElem? (i := 196) rfl)) rfl)
set_option maxRecDepth 100000 in
theorem ml_Ledger_117 : Cond.methodLink "WhoeverHeard$Ledger" 117 (my mTexts_value) ∈ lwT := (lwT_of (tc_3 _ (List.mem_of_getElem? (i := 197) rfl)) rfl)
set_option maxRecDepth 100000 in
theorem ml_Texts_41 : Cond.methodLink "WhoeverHeard$Texts" 41 (my mMath_max) ∈ lwT := (lwT_of (tc_3 _ (List.mem_of_getElem? (i := 201) rfl)) rfl)
set_option maxRecDepth 100000 in
theorem ml_Texts_47 : Cond.methodLink "WhoeverHeard$Texts" 47 (my mTexts_joined) ∈ lwT := (lwT_of (tc_3 _ (List.mem_of_getElem? (i := 202) rfl)) rfl)
set_option maxRecDepth 100000 in
theorem ml_W_315 : Cond.methodLink "WhoeverHeard" 315 (my mMath_min) ∈ lwT := (lwT_of (tc_3 _ (List.mem_of_getElem? (i := 208) rfl)) rfl)
set_option maxRecDepth 100000 in
theorem ml_W_266 : Cond.methodLink "WhoeverHeard" 266 (my mMath_max) ∈ lwT := (lwT_of (tc_3 _ (List.mem_of_getElem? (i := 211) rfl)) rfl)
set_option maxRecDepth 100000 in
theorem ml_Ledger_123 : Cond.methodLink "WhoeverHeard$Ledger" 123 (my mFolk_hearingOf) ∈ lwT := (lwT_of (tc_3 _ (List.mem_of_getElem? (i := 212) rfl)) rfl)
set_option maxRecDepth 100000 in
theorem ml_Ledger_127 : Cond.methodLink "WhoeverHeard$Ledger" 127 (my mLedger_setClear) ∈ lwT := (lwT_of (tc_3 _ (List.mem_of_getElem? (i := 216) rfl)) rfl)
set_option maxRecDepth 100000 in
theorem ml_Law_83 : Cond.methodLink "WhoeverHeardLaw" 83 (my mW_heard) ∈ lwT := (lwT_of (tc_3 _ (List.mem_of_getElem? (i := 220) rfl)) rfl)
set_option maxRecDepth 100000 in
theorem ml_Law_87 : Cond.methodLink "WhoeverHeardLaw" 87 (my mW_nobody) ∈ lwT := (lwT_of (tc_3 _ (List.mem_of_getElem? (i := 224) rfl)) rfl)
set_option maxRecDepth 100000 in
theorem ml_Law_91 : Cond.methodLink "WhoeverHeardLaw" 91 (my mW_owe) ∈ lwT := (lwT_of (tc_3 _ (List.mem_of_getElem? (i := 228) rfl)) rfl)
set_option maxRecDepth 100000 in
theorem ml_W_213 : Cond.methodLink "WhoeverHeard" 213 (my mLedger_reckon) ∈ lwT := (lwT_of (tc_3 _ (List.mem_of_getElem? (i := 232) rfl)) rfl)
set_option maxRecDepth 100000 in
theorem ml_Ledger_63 : Cond.methodLink "WhoeverHeard$Ledger" 63 (my mLedger_listen) ∈ lwT := (lwT_of (tc_3 _ (List.mem_of_getElem? (i := 236) rfl)) rfl)
set_option maxRecDepth 100000 in
theorem ml_Ledger_67 : Cond.methodLink "WhoeverHeard$Ledger" 67 (my mLedger_bindAll) ∈ lwT := (lwT_of (tc_3 _ (List.mem_of_getElem? (i := 237) rfl)) rfl)
set_option maxRecDepth 100000 in
theorem ml_Ledger_131 : Cond.methodLink "WhoeverHeard$Ledger" 131 (my mLedger_bindBy) ∈ lwT := (lwT_of (tc_4 _ (List.mem_of_getElem? (i := 1) rfl)) rfl)
set_option maxRecDepth 100000 in
theorem ml_Ledger_137 : Cond.methodLink "WhoeverHeard$Ledger" 137 (my mLedger_shareOf) ∈ lwT := (lwT_of (tc_4 _ (List.mem_of_getElem? (i := 5) rfl)) rfl)
set_option maxRecDepth 100000 in
theorem ml_Ledger_140 : Cond.methodLink "WhoeverHeard$Ledger" 140 (my mFolk_isBound) ∈ lwT := (lwT_of (tc_4 _ (List.mem_of_getElem? (i := 9) rfl)) rfl)
set_option maxRecDepth 100000 in
theorem ml_Ledger_152 : Cond.methodLink "WhoeverHeard$Ledger" 152 (my mInteger_bitCount) ∈ lwT := (lwT_of (tc_4 _ (List.mem_of_getElem? (i := 13) rfl)) rfl)
set_option maxRecDepth 100000 in
theorem cn_Integer_265 : Cond.constant "java/lang/Integer" 265 (1431655765) ∈ lwT := (lwT_of (tc_4 _ (List.mem_of_getElem? (i := 16) rfl)) rfl)
set_option maxRecDepth 100000 in
theorem cn_Integer_266 : Cond.constant "java/lang/Integer" 266 (858993459) ∈ lwT := (lwT_of (tc_4 _ (List.mem_of_getElem? (i := 17) rfl)) rfl)
set_option maxRecDepth 100000 in
theorem cn_Integer_267 : Cond.constant "java/lang/Integer" 267 (252645135) ∈ lwT := (lwT_of (tc_4 _ (List.mem_of_getElem? (i := 18) rfl)) rfl)
set_option maxRecDepth 100000 in
theorem ml_Ledger_161 : Cond.methodLink "WhoeverHeard$Ledger" 161 (my mFolk_canDo) ∈ lwT := (lwT_of (tc_4 _ (List.mem_of_getElem? (i := 19) rfl)) rfl)
set_option maxRecDepth 100000 in
theorem ml_Ledger_134 : Cond.methodLink "WhoeverHeard$Ledger" 134 (my mLedger_settle) ∈ lwT := (lwT_of (tc_4 _ (List.mem_of_getElem? (i := 23) rfl)) rfl)
set_option maxRecDepth 100000 in
theorem ml_Ledger_165 : Cond.methodLink "WhoeverHeard$Ledger" 165 (my mLedger_settleOne) ∈ lwT := (lwT_of (tc_4 _ (List.mem_of_getElem? (i := 27) rfl)) rfl)
set_option maxRecDepth 100000 in
theorem ml_Ledger_169 : Cond.methodLink "WhoeverHeard$Ledger" 169 (my mMath_max) ∈ lwT := (lwT_of (tc_4 _ (List.mem_of_getElem? (i := 31) rfl)) rfl)
set_option maxRecDepth 100000 in
theorem ml_Ledger_174 : Cond.methodLink "WhoeverHeard$Ledger" 174 (my mLedger_strikeOut) ∈ lwT := (lwT_of (tc_4 _ (List.mem_of_getElem? (i := 32) rfl)) rfl)
set_option maxRecDepth 100000 in
theorem ml_Ledger_184 : Cond.methodLink "WhoeverHeard$Ledger" 184 (my mMath_min) ∈ lwT := (lwT_of (tc_4 _ (List.mem_of_getElem? (i := 36) rfl)) rfl)
set_option maxRecDepth 100000 in
theorem ml_Ledger_177 : Cond.methodLink "WhoeverHeard$Ledger" 177 (my mLedger_cutToRoom) ∈ lwT := (lwT_of (tc_4 _ (List.mem_of_getElem? (i := 37) rfl)) rfl)
set_option maxRecDepth 100000 in
theorem ml_Law_95 : Cond.methodLink "WhoeverHeardLaw" 95 (my mW_load) ∈ lwT := (lwT_of (tc_4 _ (List.mem_of_getElem? (i := 41) rfl)) rfl)
set_option maxRecDepth 100000 in
theorem ml_W_228 : Cond.methodLink "WhoeverHeard" 228 (my mLedger_painOf) ∈ lwT := (lwT_of (tc_4 _ (List.mem_of_getElem? (i := 45) rfl)) rfl)
set_option maxRecDepth 100000 in
theorem ml_Law_99 : Cond.methodLink "WhoeverHeardLaw" 99 (my mW_done) ∈ lwT := (lwT_of (tc_4 _ (List.mem_of_getElem? (i := 49) rfl)) rfl)
set_option maxRecDepth 100000 in
theorem ml_W_232 : Cond.methodLink "WhoeverHeard" 232 (my mLedger_doneOf) ∈ lwT := (lwT_of (tc_4 _ (List.mem_of_getElem? (i := 53) rfl)) rfl)
set_option maxRecDepth 100000 in
theorem ml_Law_103 : Cond.methodLink "WhoeverHeardLaw" 103 (my mW_sum) ∈ lwT := (lwT_of (tc_4 _ (List.mem_of_getElem? (i := 57) rfl)) rfl)
set_option maxRecDepth 100000 in
theorem ml_W_235 : Cond.methodLink "WhoeverHeard" 235 (my mLedger_fullBits) ∈ lwT := (lwT_of (tc_4 _ (List.mem_of_getElem? (i := 61) rfl)) rfl)
set_option maxRecDepth 100000 in
theorem ml_W_238 : Cond.methodLink "WhoeverHeard" 238 (my mLedger_outcome) ∈ lwT := (lwT_of (tc_4 _ (List.mem_of_getElem? (i := 65) rfl)) rfl)
set_option maxRecDepth 100000 in
theorem ml_Ledger_205 : Cond.methodLink "WhoeverHeard$Ledger" 205 (my mLedger_keptBits) ∈ lwT := (lwT_of (tc_4 _ (List.mem_of_getElem? (i := 69) rfl)) rfl)
set_option maxRecDepth 100000 in
theorem ml_Ledger_193 : Cond.methodLink "WhoeverHeard$Ledger" 193 (my mLedger_keeps) ∈ lwT := (lwT_of (tc_4 _ (List.mem_of_getElem? (i := 73) rfl)) rfl)
set_option maxRecDepth 100000 in
theorem ml_Ledger_190 : Cond.methodLink "WhoeverHeard$Ledger" 190 (my mLedger_doneOf) ∈ lwT := (lwT_of (tc_4 _ (List.mem_of_getElem? (i := 77) rfl)) rfl)
set_option maxRecDepth 100000 in
theorem ml_Ledger_209 : Cond.methodLink "WhoeverHeard$Ledger" 209 (my mLedger_worthKept) ∈ lwT := (lwT_of (tc_4 _ (List.mem_of_getElem? (i := 78) rfl)) rfl)
set_option maxRecDepth 100000 in
theorem ml_Ledger_212 : Cond.methodLink "WhoeverHeard$Ledger" 212 (my mLedger_painOfAll) ∈ lwT := (lwT_of (tc_4 _ (List.mem_of_getElem? (i := 82) rfl)) rfl)
set_option maxRecDepth 100000 in
theorem ml_Ledger_202 : Cond.methodLink "WhoeverHeard$Ledger" 202 (my mLedger_painOf) ∈ lwT := (lwT_of (tc_4 _ (List.mem_of_getElem? (i := 86) rfl)) rfl)
set_option maxRecDepth 100000 in
theorem ml_Law_107 : Cond.methodLink "WhoeverHeardLaw" 107 (my mW_judge) ∈ lwT := (lwT_of (tc_4 _ (List.mem_of_getElem? (i := 87) rfl)) rfl)
set_option maxRecDepth 100000 in
theorem ml_W_241 : Cond.methodLink "WhoeverHeard" 241 (my mW_wayTo) ∈ lwT := (lwT_of (tc_4 _ (List.mem_of_getElem? (i := 91) rfl)) rfl)
set_option maxRecDepth 100000 in
theorem ml_Law_111 : Cond.methodLink "WhoeverHeardLaw" 111 (my mW_walk) ∈ lwT := (lwT_of (tc_4 _ (List.mem_of_getElem? (i := 95) rfl)) rfl)
set_option maxRecDepth 100000 in
theorem ml_Law_115 : Cond.methodLink "WhoeverHeardLaw" 115 (my mW_best) ∈ lwT := (lwT_of (tc_4 _ (List.mem_of_getElem? (i := 99) rfl)) rfl)
set_option maxRecDepth 100000 in
theorem ml_W_244 : Cond.methodLink "WhoeverHeard" 244 (my mLedger_sayMore) ∈ lwT := (lwT_of (tc_4 _ (List.mem_of_getElem? (i := 103) rfl)) rfl)
set_option maxRecDepth 100000 in
theorem ml_Ledger_215 : Cond.methodLink "WhoeverHeard$Ledger" 215 (my mSayings_put) ∈ lwT := (lwT_of (tc_4 _ (List.mem_of_getElem? (i := 107) rfl)) rfl)
set_option maxRecDepth 100000 in
theorem ml_W_248 : Cond.methodLink "WhoeverHeard" 248 (my mLedger_keeps) ∈ lwT := (lwT_of (tc_4 _ (List.mem_of_getElem? (i := 108) rfl)) rfl)
set_option maxRecDepth 100000 in
theorem ml_W_251 : Cond.methodLink "WhoeverHeard" 251 (my mLedger_painOfAll) ∈ lwT := (lwT_of (tc_4 _ (List.mem_of_getElem? (i := 109) rfl)) rfl)
set_option maxRecDepth 100000 in
theorem ml_Law_119 : Cond.methodLink "WhoeverHeardLaw" 119 (my mW_foe) ∈ lwT := (lwT_of (tc_4 _ (List.mem_of_getElem? (i := 110) rfl)) rfl)
set_option maxRecDepth 100000 in
theorem ml_Law_123 : Cond.methodLink "WhoeverHeardLaw" 123 (my mW_loud) ∈ lwT := (lwT_of (tc_4 _ (List.mem_of_getElem? (i := 114) rfl)) rfl)
set_option maxRecDepth 100000 in
theorem ml_Law_127 : Cond.methodLink "WhoeverHeardLaw" 127 (my mW_spare) ∈ lwT := (lwT_of (tc_4 _ (List.mem_of_getElem? (i := 118) rfl)) rfl)
set_option maxRecDepth 100000 in
theorem ml_W_254 : Cond.methodLink "WhoeverHeard" 254 (my mLedger_keptBits) ∈ lwT := (lwT_of (tc_4 _ (List.mem_of_getElem? (i := 122) rfl)) rfl)
set_option maxRecDepth 100000 in
theorem ml_W_257 : Cond.methodLink "WhoeverHeard" 257 (my mLedger_settle) ∈ lwT := (lwT_of (tc_4 _ (List.mem_of_getElem? (i := 123) rfl)) rfl)
set_option maxRecDepth 100000 in
theorem ml_Law_131 : Cond.methodLink "WhoeverHeardLaw" 131 (my mW_even) ∈ lwT := (lwT_of (tc_4 _ (List.mem_of_getElem? (i := 124) rfl)) rfl)
set_option maxRecDepth 100000 in
theorem ml_W_260 : Cond.methodLink "WhoeverHeard" 260 (my mLedger_sharesOut) ∈ lwT := (lwT_of (tc_4 _ (List.mem_of_getElem? (i := 128) rfl)) rfl)
set_option maxRecDepth 100000 in
theorem ml_Ledger_230 : Cond.methodLink "WhoeverHeard$Ledger" 230 (my mLedger_evenBits) ∈ lwT := (lwT_of (tc_4 _ (List.mem_of_getElem? (i := 132) rfl)) rfl)
set_option maxRecDepth 100000 in
theorem ml_Ledger_233 : Cond.methodLink "WhoeverHeard$Ledger" 233 (my mLedger_lightest) ∈ lwT := (lwT_of (tc_4 _ (List.mem_of_getElem? (i := 136) rfl)) rfl)
set_option maxRecDepth 100000 in
theorem ml_Law_135 : Cond.methodLink "WhoeverHeardLaw" 135 (my mW_hardest) ∈ lwT := (lwT_of (tc_4 _ (List.mem_of_getElem? (i := 140) rfl)) rfl)
set_option maxRecDepth 100000 in
theorem ml_Law_139 : Cond.methodLink "WhoeverHeardLaw" 139 (my mW_flee) ∈ lwT := (lwT_of (tc_4 _ (List.mem_of_getElem? (i := 144) rfl)) rfl)
set_option maxRecDepth 100000 in
theorem ml_W_271 : Cond.methodLink "WhoeverHeard" 271 (my mLedger_tryPlaces) ∈ lwT := (lwT_of (tc_4 _ (List.mem_of_getElem? (i := 148) rfl)) rfl)
set_option maxRecDepth 100000 in
theorem ml_Ledger_227 : Cond.methodLink "WhoeverHeard$Ledger" 227 (my mLedger_listenBy) ∈ lwT := (lwT_of (tc_4 _ (List.mem_of_getElem? (i := 152) rfl)) rfl)
set_option maxRecDepth 100000 in
theorem ml_W_277 : Cond.methodLink "WhoeverHeard" 277 (my mW_leastOf) ∈ lwT := (lwT_of (tc_4 _ (List.mem_of_getElem? (i := 156) rfl)) rfl)
set_option maxRecDepth 100000 in
theorem ml_Law_143 : Cond.methodLink "WhoeverHeardLaw" 143 (my mW_send) ∈ lwT := (lwT_of (tc_4 _ (List.mem_of_getElem? (i := 159) rfl)) rfl)
set_option maxRecDepth 100000 in
theorem ml_W_281 : Cond.methodLink "WhoeverHeard" 281 (my mW_mostOf) ∈ lwT := (lwT_of (tc_4 _ (List.mem_of_getElem? (i := 163) rfl)) rfl)
set_option maxRecDepth 100000 in
theorem ml_Law_147 : Cond.methodLink "WhoeverHeardLaw" 147 (my mW_rest) ∈ lwT := (lwT_of (tc_4 _ (List.mem_of_getElem? (i := 166) rfl)) rfl)
set_option maxRecDepth 100000 in
theorem ml_W_284 : Cond.methodLink "WhoeverHeard" 284 (my mW_movesAway) ∈ lwT := (lwT_of (tc_4 _ (List.mem_of_getElem? (i := 170) rfl)) rfl)
set_option maxRecDepth 100000 in
theorem ml_W_361 : Cond.methodLink "WhoeverHeard" 361 (my mFolk_startOf) ∈ lwT := (lwT_of (tc_4 _ (List.mem_of_getElem? (i := 174) rfl)) rfl)
set_option maxRecDepth 100000 in
theorem ml_Law_151 : Cond.methodLink "WhoeverHeardLaw" 151 (my mW_chance) ∈ lwT := (lwT_of (tc_4 _ (List.mem_of_getElem? (i := 175) rfl)) rfl)
set_option maxRecDepth 100000 in
theorem cn_W_287 : Cond.constantLong "WhoeverHeard" 287 (-4611686018427387904) ∈ lwT := (lwT_of (tc_4 _ (List.mem_of_getElem? (i := 179) rfl)) rfl)
set_option maxRecDepth 100000 in
theorem ml_W_289 : Cond.methodLink "WhoeverHeard" 289 (my mLedger_chanceOf) ∈ lwT := (lwT_of (tc_4 _ (List.mem_of_getElem? (i := 180) rfl)) rfl)
set_option maxRecDepth 100000 in
theorem cn_Ledger_236 : Cond.constantLong "WhoeverHeard$Ledger" 236 (1000000) ∈ lwT := (lwT_of (tc_4 _ (List.mem_of_getElem? (i := 184) rfl)) rfl)
set_option maxRecDepth 100000 in
theorem cn_Ledger_222 : Cond.constantLong "WhoeverHeard$Ledger" 222 (100) ∈ lwT := (lwT_of (tc_4 _ (List.mem_of_getElem? (i := 185) rfl)) rfl)
set_option maxRecDepth 100000 in
theorem ml_Law_156 : Cond.methodLink "WhoeverHeardLaw" 156 (my mW_lost) ∈ lwT := (lwT_of (tc_4 _ (List.mem_of_getElem? (i := 186) rfl)) rfl)
set_option maxRecDepth 100000 in
theorem cn_W_293 : Cond.constantLong "WhoeverHeard" 293 (1000000) ∈ lwT := (lwT_of (tc_4 _ (List.mem_of_getElem? (i := 190) rfl)) rfl)
set_option maxRecDepth 100000 in
theorem ml_W_295 : Cond.methodLink "WhoeverHeard" 295 (my mFolk_canDo) ∈ lwT := (lwT_of (tc_4 _ (List.mem_of_getElem? (i := 191) rfl)) rfl)
set_option maxRecDepth 100000 in
theorem ml_W_299 : Cond.methodLink "WhoeverHeard" 299 (my mFolk_isBound) ∈ lwT := (lwT_of (tc_4 _ (List.mem_of_getElem? (i := 192) rfl)) rfl)
set_option maxRecDepth 100000 in
theorem ml_Law_161 : Cond.methodLink "WhoeverHeardLaw" 161 (my mW_laws) ∈ lwT := (lwT_of (tc_4 _ (List.mem_of_getElem? (i := 193) rfl)) rfl)
set_option maxRecDepth 100000 in
theorem ml_Law_165 : Cond.methodLink "WhoeverHeardLaw" 165 (my mW_witness) ∈ lwT := (lwT_of (tc_4 _ (List.mem_of_getElem? (i := 197) rfl)) rfl)
set_option maxRecDepth 100000 in
theorem ml_W_302 : Cond.methodLink "WhoeverHeard" 302 (my mW_witnessRefusal) ∈ lwT := (lwT_of (tc_4 _ (List.mem_of_getElem? (i := 201) rfl)) rfl)
set_option maxRecDepth 100000 in
theorem ml_W_335 : Cond.methodLink "WhoeverHeard" 335 (my mSheets_isMissing) ∈ lwT := (lwT_of (tc_4 _ (List.mem_of_getElem? (i := 205) rfl)) rfl)
set_option maxRecDepth 100000 in
theorem ml_W_305 : Cond.methodLink "WhoeverHeard" 305 (my mW_firstHeardByOthers) ∈ lwT := (lwT_of (tc_4 _ (List.mem_of_getElem? (i := 209) rfl)) rfl)
set_option maxRecDepth 100000 in
theorem ml_W_364 : Cond.methodLink "WhoeverHeard" 364 (my mSheets_bitsAt) ∈ lwT := (lwT_of (tc_4 _ (List.mem_of_getElem? (i := 213) rfl)) rfl)
set_option maxRecDepth 100000 in
theorem ml_Law_169 : Cond.methodLink "WhoeverHeardLaw" 169 (my mW_alibi) ∈ lwT := (lwT_of (tc_4 _ (List.mem_of_getElem? (i := 217) rfl)) rfl)
set_option maxRecDepth 100000 in
theorem ml_W_308 : Cond.methodLink "WhoeverHeard" 308 (my mLedger_listenBy) ∈ lwT := (lwT_of (tc_4 _ (List.mem_of_getElem? (i := 221) rfl)) rfl)
set_option maxRecDepth 100000 in
theorem ml_Law_173 : Cond.methodLink "WhoeverHeardLaw" 173 (my mW_drawn) ∈ lwT := (lwT_of (tc_4 _ (List.mem_of_getElem? (i := 222) rfl)) rfl)
set_option maxRecDepth 100000 in
theorem cn_W_311 : Cond.constant "WhoeverHeard" 311 (99999) ∈ lwT := (lwT_of (tc_4 _ (List.mem_of_getElem? (i := 226) rfl)) rfl)
set_option maxRecDepth 100000 in
theorem ml_W_312 : Cond.methodLink "WhoeverHeard" 312 (my mLedger_draw) ∈ lwT := (lwT_of (tc_4 _ (List.mem_of_getElem? (i := 227) rfl)) rfl)
set_option maxRecDepth 100000 in
theorem cn_Ledger_218 : Cond.constantLong "WhoeverHeard$Ledger" 218 (48271) ∈ lwT := (lwT_of (tc_4 _ (List.mem_of_getElem? (i := 231) rfl)) rfl)
set_option maxRecDepth 100000 in
theorem cn_Ledger_220 : Cond.constantLong "WhoeverHeard$Ledger" 220 (2147483647) ∈ lwT := (lwT_of (tc_4 _ (List.mem_of_getElem? (i := 232) rfl)) rfl)
set_option maxRecDepth 100000 in
theorem ml_Law_177 : Cond.methodLink "WhoeverHeardLaw" 177 (my mW_odds) ∈ lwT := (lwT_of (tc_4 _ (List.mem_of_getElem? (i := 233) rfl)) rfl)
set_option maxRecDepth 100000 in
theorem ml_W_318 : Cond.methodLink "WhoeverHeard" 318 (my mW_commonDivisor) ∈ lwT := (lwT_of (tc_4 _ (List.mem_of_getElem? (i := 237) rfl)) rfl)
set_option maxRecDepth 100000 in
theorem ml_Law_182 : Cond.methodLink "WhoeverHeardLaw" 182 (my mW_image) ∈ lwT := (lwT_of (tc_5 _ (List.mem_of_getElem? (i := 0) rfl)) rfl)
set_option maxRecDepth 100000 in
theorem ml_W_321 : Cond.methodLink "WhoeverHeard" 321 (my mImage_keep) ∈ lwT := (lwT_of (tc_5 _ (List.mem_of_getElem? (i := 4) rfl)) rfl)
set_option maxRecDepth 100000 in
theorem ml_Image_40 : Cond.methodLink "WhoeverHeard$Image" 40 (my mTown_become) ∈ lwT := (lwT_of (tc_5 _ (List.mem_of_getElem? (i := 8) rfl)) rfl)
set_option maxRecDepth 100000 in
theorem ml_Town_28 : Cond.methodLink "WhoeverHeard$Town" 28 arraycopyName ∈ lwT := (lwT_of (tc_5 _ (List.mem_of_getElem? (i := 12) rfl)) rfl)
set_option maxRecDepth 100000 in
theorem ml_Image_44 : Cond.methodLink "WhoeverHeard$Image" 44 (my mSayings_become) ∈ lwT := (lwT_of (tc_5 _ (List.mem_of_getElem? (i := 13) rfl)) rfl)
set_option maxRecDepth 100000 in
theorem ml_Sayings_32 : Cond.methodLink "WhoeverHeard$Sayings" 32 arraycopyName ∈ lwT := (lwT_of (tc_5 _ (List.mem_of_getElem? (i := 17) rfl)) rfl)
set_option maxRecDepth 100000 in
theorem ml_Image_53 : Cond.methodLink "WhoeverHeard$Image" 53 arraycopyName ∈ lwT := (lwT_of (tc_5 _ (List.mem_of_getElem? (i := 18) rfl)) rfl)
set_option maxRecDepth 100000 in
theorem ml_Law_186 : Cond.methodLink "WhoeverHeardLaw" 186 (my mW_back) ∈ lwT := (lwT_of (tc_5 _ (List.mem_of_getElem? (i := 19) rfl)) rfl)
set_option maxRecDepth 100000 in
theorem ml_W_329 : Cond.methodLink "WhoeverHeard" 329 (my mImage_giveBack) ∈ lwT := (lwT_of (tc_5 _ (List.mem_of_getElem? (i := 23) rfl)) rfl)
set_option maxRecDepth 100000 in
theorem ml_Law_190 : Cond.methodLink "WhoeverHeardLaw" 190 (my mW_sheet) ∈ lwT := (lwT_of (tc_5 _ (List.mem_of_getElem? (i := 27) rfl)) rfl)
set_option maxRecDepth 100000 in
theorem ml_W_332 : Cond.methodLink "WhoeverHeard" 332 (my mSheets_become) ∈ lwT := (lwT_of (tc_5 _ (List.mem_of_getElem? (i := 31) rfl)) rfl)
set_option maxRecDepth 100000 in
theorem ml_Law_194 : Cond.methodLink "WhoeverHeardLaw" 194 (my mW_cell) ∈ lwT := (lwT_of (tc_5 _ (List.mem_of_getElem? (i := 35) rfl)) rfl)
set_option maxRecDepth 100000 in
theorem ml_W_340 : Cond.methodLink "WhoeverHeard" 340 (my mSheets_set) ∈ lwT := (lwT_of (tc_5 _ (List.mem_of_getElem? (i := 39) rfl)) rfl)
set_option maxRecDepth 100000 in
theorem ml_Law_198 : Cond.methodLink "WhoeverHeardLaw" 198 (my mW_copy) ∈ lwT := (lwT_of (tc_5 _ (List.mem_of_getElem? (i := 43) rfl)) rfl)
set_option maxRecDepth 100000 in
theorem ml_W_349 : Cond.methodLink "WhoeverHeard" 349 arraycopyName ∈ lwT := (lwT_of (tc_5 _ (List.mem_of_getElem? (i := 47) rfl)) rfl)
set_option maxRecDepth 100000 in
theorem ml_Law_203 : Cond.methodLink "WhoeverHeardLaw" 203 (my mW_promisesBy) ∈ lwT := (lwT_of (tc_5 _ (List.mem_of_getElem? (i := 48) rfl)) rfl)
set_option maxRecDepth 100000 in
theorem ml_W_355 : Cond.methodLink "WhoeverHeard" 355 (my mW_promise) ∈ lwT := (lwT_of (tc_5 _ (List.mem_of_getElem? (i := 52) rfl)) rfl)
set_option maxRecDepth 100000 in
theorem ml_Law_207 : Cond.methodLink "WhoeverHeardLaw" 207 (my mW_taken) ∈ lwT := (lwT_of (tc_5 _ (List.mem_of_getElem? (i := 53) rfl)) rfl)
set_option maxRecDepth 100000 in
theorem ml_W_358 : Cond.methodLink "WhoeverHeard" 358 (my mFolk_isA) ∈ lwT := (lwT_of (tc_5 _ (List.mem_of_getElem? (i := 57) rfl)) rfl)
set_option maxRecDepth 100000 in
theorem cl_Law_10 : Cond.classLink "WhoeverHeardLaw" 10 "WhoeverHeardModel" ∈ lwT := (lwT_of (tc_5 _ (List.mem_of_getElem? (i := 58) rfl)) rfl)
set_option maxRecDepth 100000 in
theorem in_R : Cond.instantiable "WhoeverHeardModel" 62 ∈ lwT := (lwT_of (tc_5 _ (List.mem_of_getElem? (i := 59) rfl)) rfl)
set_option maxRecDepth 100000 in
theorem ml_Law_12 : Cond.methodLink "WhoeverHeardLaw" 12 (my mR_init) ∈ lwT := (lwT_of (tc_5 _ (List.mem_of_getElem? (i := 60) rfl)) rfl)
set_option maxRecDepth 100000 in
theorem ml_R_1 : Cond.methodLink "WhoeverHeardModel" 1 Lib.objectInit ∈ lwT := (lwT_of (tc_5 _ (List.mem_of_getElem? (i := 63) rfl)) rfl)
set_option maxRecDepth 100000 in
theorem ml_R_140 : Cond.methodLink "WhoeverHeardModel" 140 (my mR_text) ∈ lwT := (lwT_of (tc_5 _ (List.mem_of_getElem? (i := 64) rfl)) rfl)
set_option maxRecDepth 100000 in
theorem ml_R_209 : Cond.methodLink "WhoeverHeardModel" 209 (my mR_next) ∈ lwT := (lwT_of (tc_5 _ (List.mem_of_getElem? (i := 68) rfl)) rfl)
set_option maxRecDepth 100000 in
theorem ml_R_151 : Cond.methodLink "WhoeverHeardModel" 151 (my mR_in) ∈ lwT := (lwT_of (tc_5 _ (List.mem_of_getElem? (i := 72) rfl)) rfl)
set_option maxRecDepth 100000 in
theorem ml_R_183 : Cond.methodLink "WhoeverHeardModel" 183 (my mR_wordFrom) ∈ lwT := (lwT_of (tc_5 _ (List.mem_of_getElem? (i := 75) rfl)) rfl)
set_option maxRecDepth 100000 in
theorem ml_R_222 : Cond.methodLink "WhoeverHeardModel" 222 (my mR_eRead) ∈ lwT := (lwT_of (tc_5 _ (List.mem_of_getElem? (i := 79) rfl)) rfl)
set_option maxRecDepth 100000 in
theorem cn_R_212 : Cond.constant "WhoeverHeardModel" 212 (100000) ∈ lwT := (lwT_of (tc_5 _ (List.mem_of_getElem? (i := 83) rfl)) rfl)
set_option maxRecDepth 100000 in
theorem ml_R_199 : Cond.methodLink "WhoeverHeardModel" 199 (my mR_puts) ∈ lwT := (lwT_of (tc_5 _ (List.mem_of_getElem? (i := 84) rfl)) rfl)
set_option maxRecDepth 100000 in
theorem ml_R_206 : Cond.methodLink "WhoeverHeardModel" 206 (my mR_unwinds) ∈ lwT := (lwT_of (tc_5 _ (List.mem_of_getElem? (i := 88) rfl)) rfl)
set_option maxRecDepth 100000 in
theorem ml_R_193 : Cond.methodLink "WhoeverHeardModel" 193 (my mR_rank) ∈ lwT := (lwT_of (tc_5 _ (List.mem_of_getElem? (i := 92) rfl)) rfl)
set_option maxRecDepth 100000 in
theorem ml_R_213 : Cond.methodLink "WhoeverHeardModel" 213 (my mR_opensOne) ∈ lwT := (lwT_of (tc_5 _ (List.mem_of_getElem? (i := 95) rfl)) rfl)
set_option maxRecDepth 100000 in
theorem ml_R_203 : Cond.methodLink "WhoeverHeardModel" 203 (my mR_holds) ∈ lwT := (lwT_of (tc_5 _ (List.mem_of_getElem? (i := 99) rfl)) rfl)
set_option maxRecDepth 100000 in
theorem ml_R_216 : Cond.methodLink "WhoeverHeardModel" 216 (my mR_signOf) ∈ lwT := (lwT_of (tc_5 _ (List.mem_of_getElem? (i := 103) rfl)) rfl)
set_option maxRecDepth 100000 in
theorem ml_R_219 : Cond.methodLink "WhoeverHeardModel" 219 (my mR_between) ∈ lwT := (lwT_of (tc_5 _ (List.mem_of_getElem? (i := 107) rfl)) rfl)
set_option maxRecDepth 100000 in
theorem ml_R_144 : Cond.methodLink "WhoeverHeardModel" 144 (my mR_size) ∈ lwT := (lwT_of (tc_5 _ (List.mem_of_getElem? (i := 111) rfl)) rfl)
set_option maxRecDepth 100000 in
theorem fl_R_7 : FLink "WhoeverHeardModel" 7 10 0 := ⟨(RX10, TX10, 62), rfl, by decide, (lwT_of (tc_5 _ (List.mem_of_getElem? (i := 114) rfl)) rfl)⟩
set_option maxRecDepth 100000 in
theorem fl_R_13 : FLink "WhoeverHeardModel" 13 10 1 := ⟨(RX10, TX10, 62), rfl, by decide, (lwT_of (tc_5 _ (List.mem_of_getElem? (i := 115) rfl)) rfl)⟩
set_option maxRecDepth 100000 in
theorem fl_R_16 : FLink "WhoeverHeardModel" 16 10 2 := ⟨(RX10, TX10, 62), rfl, by decide, (lwT_of (tc_5 _ (List.mem_of_getElem? (i := 116) rfl)) rfl)⟩
set_option maxRecDepth 100000 in
theorem fl_R_148 : FLink "WhoeverHeardModel" 148 10 3 := ⟨(RX10, TX10, 62), rfl, by decide, (lwT_of (tc_5 _ (List.mem_of_getElem? (i := 117) rfl)) rfl)⟩
set_option maxRecDepth 100000 in
theorem fl_R_20 : FLink "WhoeverHeardModel" 20 10 4 := ⟨(RX10, TX10, 62), rfl, by decide, (lwT_of (tc_5 _ (List.mem_of_getElem? (i := 118) rfl)) rfl)⟩
set_option maxRecDepth 100000 in
theorem fl_R_23 : FLink "WhoeverHeardModel" 23 10 5 := ⟨(RX10, TX10, 62), rfl, by decide, (lwT_of (tc_5 _ (List.mem_of_getElem? (i := 119) rfl)) rfl)⟩
set_option maxRecDepth 100000 in
theorem fl_R_26 : FLink "WhoeverHeardModel" 26 10 6 := ⟨(RX10, TX10, 62), rfl, by decide, (lwT_of (tc_5 _ (List.mem_of_getElem? (i := 120) rfl)) rfl)⟩
set_option maxRecDepth 100000 in
theorem fl_R_29 : FLink "WhoeverHeardModel" 29 10 7 := ⟨(RX10, TX10, 62), rfl, by decide, (lwT_of (tc_5 _ (List.mem_of_getElem? (i := 121) rfl)) rfl)⟩
set_option maxRecDepth 100000 in
theorem fl_R_32 : FLink "WhoeverHeardModel" 32 10 8 := ⟨(RX10, TX10, 62), rfl, by decide, (lwT_of (tc_5 _ (List.mem_of_getElem? (i := 122) rfl)) rfl)⟩
set_option maxRecDepth 100000 in
theorem fl_R_35 : FLink "WhoeverHeardModel" 35 10 9 := ⟨(RX10, TX10, 62), rfl, by decide, (lwT_of (tc_5 _ (List.mem_of_getElem? (i := 123) rfl)) rfl)⟩
set_option maxRecDepth 100000 in
theorem fl_R_38 : FLink "WhoeverHeardModel" 38 10 10 := ⟨(RX10, TX10, 62), rfl, by decide, (lwT_of (tc_5 _ (List.mem_of_getElem? (i := 124) rfl)) rfl)⟩
set_option maxRecDepth 100000 in
theorem fl_R_41 : FLink "WhoeverHeardModel" 41 10 11 := ⟨(RX10, TX10, 62), rfl, by decide, (lwT_of (tc_5 _ (List.mem_of_getElem? (i := 125) rfl)) rfl)⟩
set_option maxRecDepth 100000 in
theorem fl_R_155 : FLink "WhoeverHeardModel" 155 10 12 := ⟨(RX10, TX10, 62), rfl, by decide, (lwT_of (tc_5 _ (List.mem_of_getElem? (i := 126) rfl)) rfl)⟩
set_option maxRecDepth 100000 in
theorem fl_R_44 : FLink "WhoeverHeardModel" 44 10 13 := ⟨(RX10, TX10, 62), rfl, by decide, (lwT_of (tc_5 _ (List.mem_of_getElem? (i := 127) rfl)) rfl)⟩
set_option maxRecDepth 100000 in
theorem fl_R_47 : FLink "WhoeverHeardModel" 47 10 14 := ⟨(RX10, TX10, 62), rfl, by decide, (lwT_of (tc_5 _ (List.mem_of_getElem? (i := 128) rfl)) rfl)⟩
set_option maxRecDepth 100000 in
theorem fl_R_50 : FLink "WhoeverHeardModel" 50 10 15 := ⟨(RX10, TX10, 62), rfl, by decide, (lwT_of (tc_5 _ (List.mem_of_getElem? (i := 129) rfl)) rfl)⟩
set_option maxRecDepth 100000 in
theorem fl_R_53 : FLink "WhoeverHeardModel" 53 10 16 := ⟨(RX10, TX10, 62), rfl, by decide, (lwT_of (tc_5 _ (List.mem_of_getElem? (i := 130) rfl)) rfl)⟩
set_option maxRecDepth 100000 in
theorem fl_R_158 : FLink "WhoeverHeardModel" 158 10 17 := ⟨(RX10, TX10, 62), rfl, by decide, (lwT_of (tc_5 _ (List.mem_of_getElem? (i := 131) rfl)) rfl)⟩
set_option maxRecDepth 100000 in
theorem fl_R_56 : FLink "WhoeverHeardModel" 56 10 18 := ⟨(RX10, TX10, 62), rfl, by decide, (lwT_of (tc_5 _ (List.mem_of_getElem? (i := 132) rfl)) rfl)⟩
set_option maxRecDepth 100000 in
theorem fl_R_59 : FLink "WhoeverHeardModel" 59 10 19 := ⟨(RX10, TX10, 62), rfl, by decide, (lwT_of (tc_5 _ (List.mem_of_getElem? (i := 133) rfl)) rfl)⟩
set_option maxRecDepth 100000 in
theorem fl_R_62 : FLink "WhoeverHeardModel" 62 10 20 := ⟨(RX10, TX10, 62), rfl, by decide, (lwT_of (tc_5 _ (List.mem_of_getElem? (i := 134) rfl)) rfl)⟩
set_option maxRecDepth 100000 in
theorem fl_R_65 : FLink "WhoeverHeardModel" 65 10 21 := ⟨(RX10, TX10, 62), rfl, by decide, (lwT_of (tc_5 _ (List.mem_of_getElem? (i := 135) rfl)) rfl)⟩
set_option maxRecDepth 100000 in
theorem fl_R_68 : FLink "WhoeverHeardModel" 68 10 22 := ⟨(RX10, TX10, 62), rfl, by decide, (lwT_of (tc_5 _ (List.mem_of_getElem? (i := 136) rfl)) rfl)⟩
set_option maxRecDepth 100000 in
theorem fl_R_137 : FLink "WhoeverHeardModel" 137 10 23 := ⟨(RX10, TX10, 62), rfl, by decide, (lwT_of (tc_5 _ (List.mem_of_getElem? (i := 137) rfl)) rfl)⟩
set_option maxRecDepth 100000 in
theorem fl_R_71 : FLink "WhoeverHeardModel" 71 10 24 := ⟨(RX10, TX10, 62), rfl, by decide, (lwT_of (tc_5 _ (List.mem_of_getElem? (i := 138) rfl)) rfl)⟩
set_option maxRecDepth 100000 in
theorem fl_R_74 : FLink "WhoeverHeardModel" 74 10 25 := ⟨(RX10, TX10, 62), rfl, by decide, (lwT_of (tc_5 _ (List.mem_of_getElem? (i := 139) rfl)) rfl)⟩
set_option maxRecDepth 100000 in
theorem fl_R_161 : FLink "WhoeverHeardModel" 161 10 26 := ⟨(RX10, TX10, 62), rfl, by decide, (lwT_of (tc_5 _ (List.mem_of_getElem? (i := 140) rfl)) rfl)⟩
set_option maxRecDepth 100000 in
theorem fl_R_164 : FLink "WhoeverHeardModel" 164 10 27 := ⟨(RX10, TX10, 62), rfl, by decide, (lwT_of (tc_5 _ (List.mem_of_getElem? (i := 141) rfl)) rfl)⟩
set_option maxRecDepth 100000 in
theorem fl_R_361 : FLink "WhoeverHeardModel" 361 10 28 := ⟨(RX10, TX10, 62), rfl, by decide, (lwT_of (tc_5 _ (List.mem_of_getElem? (i := 142) rfl)) rfl)⟩
set_option maxRecDepth 100000 in
theorem fl_R_364 : FLink "WhoeverHeardModel" 364 10 29 := ⟨(RX10, TX10, 62), rfl, by decide, (lwT_of (tc_5 _ (List.mem_of_getElem? (i := 143) rfl)) rfl)⟩
set_option maxRecDepth 100000 in
theorem fl_R_367 : FLink "WhoeverHeardModel" 367 10 30 := ⟨(RX10, TX10, 62), rfl, by decide, (lwT_of (tc_5 _ (List.mem_of_getElem? (i := 144) rfl)) rfl)⟩
set_option maxRecDepth 100000 in
theorem fl_R_370 : FLink "WhoeverHeardModel" 370 10 31 := ⟨(RX10, TX10, 62), rfl, by decide, (lwT_of (tc_5 _ (List.mem_of_getElem? (i := 145) rfl)) rfl)⟩
set_option maxRecDepth 100000 in
theorem fl_R_373 : FLink "WhoeverHeardModel" 373 10 32 := ⟨(RX10, TX10, 62), rfl, by decide, (lwT_of (tc_5 _ (List.mem_of_getElem? (i := 146) rfl)) rfl)⟩
set_option maxRecDepth 100000 in
theorem fl_R_77 : FLink "WhoeverHeardModel" 77 10 33 := ⟨(RX10, TX10, 62), rfl, by decide, (lwT_of (tc_5 _ (List.mem_of_getElem? (i := 147) rfl)) rfl)⟩
set_option maxRecDepth 100000 in
theorem fl_R_80 : FLink "WhoeverHeardModel" 80 10 34 := ⟨(RX10, TX10, 62), rfl, by decide, (lwT_of (tc_5 _ (List.mem_of_getElem? (i := 148) rfl)) rfl)⟩
set_option maxRecDepth 100000 in
theorem fl_R_83 : FLink "WhoeverHeardModel" 83 10 35 := ⟨(RX10, TX10, 62), rfl, by decide, (lwT_of (tc_5 _ (List.mem_of_getElem? (i := 149) rfl)) rfl)⟩
set_option maxRecDepth 100000 in
theorem fl_R_86 : FLink "WhoeverHeardModel" 86 10 36 := ⟨(RX10, TX10, 62), rfl, by decide, (lwT_of (tc_5 _ (List.mem_of_getElem? (i := 150) rfl)) rfl)⟩
set_option maxRecDepth 100000 in
theorem fl_R_89 : FLink "WhoeverHeardModel" 89 10 37 := ⟨(RX10, TX10, 62), rfl, by decide, (lwT_of (tc_5 _ (List.mem_of_getElem? (i := 151) rfl)) rfl)⟩
set_option maxRecDepth 100000 in
theorem fl_R_92 : FLink "WhoeverHeardModel" 92 10 38 := ⟨(RX10, TX10, 62), rfl, by decide, (lwT_of (tc_5 _ (List.mem_of_getElem? (i := 152) rfl)) rfl)⟩
set_option maxRecDepth 100000 in
theorem fl_R_95 : FLink "WhoeverHeardModel" 95 10 39 := ⟨(RX10, TX10, 62), rfl, by decide, (lwT_of (tc_5 _ (List.mem_of_getElem? (i := 153) rfl)) rfl)⟩
set_option maxRecDepth 100000 in
theorem fl_R_98 : FLink "WhoeverHeardModel" 98 10 40 := ⟨(RX10, TX10, 62), rfl, by decide, (lwT_of (tc_5 _ (List.mem_of_getElem? (i := 154) rfl)) rfl)⟩
set_option maxRecDepth 100000 in
theorem fl_R_101 : FLink "WhoeverHeardModel" 101 10 41 := ⟨(RX10, TX10, 62), rfl, by decide, (lwT_of (tc_5 _ (List.mem_of_getElem? (i := 155) rfl)) rfl)⟩
set_option maxRecDepth 100000 in
theorem fl_R_104 : FLink "WhoeverHeardModel" 104 10 42 := ⟨(RX10, TX10, 62), rfl, by decide, (lwT_of (tc_5 _ (List.mem_of_getElem? (i := 156) rfl)) rfl)⟩
set_option maxRecDepth 100000 in
theorem fl_R_107 : FLink "WhoeverHeardModel" 107 10 43 := ⟨(RX10, TX10, 62), rfl, by decide, (lwT_of (tc_5 _ (List.mem_of_getElem? (i := 157) rfl)) rfl)⟩
set_option maxRecDepth 100000 in
theorem fl_R_171 : FLink "WhoeverHeardModel" 171 10 44 := ⟨(RX10, TX10, 62), rfl, by decide, (lwT_of (tc_5 _ (List.mem_of_getElem? (i := 158) rfl)) rfl)⟩
set_option maxRecDepth 100000 in
theorem fl_R_174 : FLink "WhoeverHeardModel" 174 10 45 := ⟨(RX10, TX10, 62), rfl, by decide, (lwT_of (tc_5 _ (List.mem_of_getElem? (i := 159) rfl)) rfl)⟩
set_option maxRecDepth 100000 in
theorem fl_R_177 : FLink "WhoeverHeardModel" 177 10 46 := ⟨(RX10, TX10, 62), rfl, by decide, (lwT_of (tc_5 _ (List.mem_of_getElem? (i := 160) rfl)) rfl)⟩
set_option maxRecDepth 100000 in
theorem fl_R_180 : FLink "WhoeverHeardModel" 180 10 47 := ⟨(RX10, TX10, 62), rfl, by decide, (lwT_of (tc_5 _ (List.mem_of_getElem? (i := 161) rfl)) rfl)⟩
set_option maxRecDepth 100000 in
theorem fl_R_110 : FLink "WhoeverHeardModel" 110 10 48 := ⟨(RX10, TX10, 62), rfl, by decide, (lwT_of (tc_5 _ (List.mem_of_getElem? (i := 162) rfl)) rfl)⟩
set_option maxRecDepth 100000 in
theorem fl_R_113 : FLink "WhoeverHeardModel" 113 10 49 := ⟨(RX10, TX10, 62), rfl, by decide, (lwT_of (tc_5 _ (List.mem_of_getElem? (i := 163) rfl)) rfl)⟩
set_option maxRecDepth 100000 in
theorem fl_R_190 : FLink "WhoeverHeardModel" 190 10 50 := ⟨(RX10, TX10, 62), rfl, by decide, (lwT_of (tc_5 _ (List.mem_of_getElem? (i := 164) rfl)) rfl)⟩
set_option maxRecDepth 100000 in
theorem fl_R_196 : FLink "WhoeverHeardModel" 196 10 51 := ⟨(RX10, TX10, 62), rfl, by decide, (lwT_of (tc_5 _ (List.mem_of_getElem? (i := 165) rfl)) rfl)⟩
set_option maxRecDepth 100000 in
theorem fl_R_187 : FLink "WhoeverHeardModel" 187 10 52 := ⟨(RX10, TX10, 62), rfl, by decide, (lwT_of (tc_5 _ (List.mem_of_getElem? (i := 166) rfl)) rfl)⟩
set_option maxRecDepth 100000 in
theorem fl_R_116 : FLink "WhoeverHeardModel" 116 10 53 := ⟨(RX10, TX10, 62), rfl, by decide, (lwT_of (tc_5 _ (List.mem_of_getElem? (i := 167) rfl)) rfl)⟩
set_option maxRecDepth 100000 in
theorem fl_R_119 : FLink "WhoeverHeardModel" 119 10 54 := ⟨(RX10, TX10, 62), rfl, by decide, (lwT_of (tc_5 _ (List.mem_of_getElem? (i := 168) rfl)) rfl)⟩
set_option maxRecDepth 100000 in
theorem fl_R_259 : FLink "WhoeverHeardModel" 259 10 55 := ⟨(RX10, TX10, 62), rfl, by decide, (lwT_of (tc_5 _ (List.mem_of_getElem? (i := 169) rfl)) rfl)⟩
set_option maxRecDepth 100000 in
theorem fl_R_263 : FLink "WhoeverHeardModel" 263 10 56 := ⟨(RX10, TX10, 62), rfl, by decide, (lwT_of (tc_5 _ (List.mem_of_getElem? (i := 170) rfl)) rfl)⟩
set_option maxRecDepth 100000 in
theorem fl_R_122 : FLink "WhoeverHeardModel" 122 10 57 := ⟨(RX10, TX10, 62), rfl, by decide, (lwT_of (tc_5 _ (List.mem_of_getElem? (i := 171) rfl)) rfl)⟩
set_option maxRecDepth 100000 in
theorem fl_R_125 : FLink "WhoeverHeardModel" 125 10 58 := ⟨(RX10, TX10, 62), rfl, by decide, (lwT_of (tc_5 _ (List.mem_of_getElem? (i := 172) rfl)) rfl)⟩
set_option maxRecDepth 100000 in
theorem fl_R_128 : FLink "WhoeverHeardModel" 128 10 59 := ⟨(RX10, TX10, 62), rfl, by decide, (lwT_of (tc_5 _ (List.mem_of_getElem? (i := 173) rfl)) rfl)⟩
set_option maxRecDepth 100000 in
theorem fl_R_131 : FLink "WhoeverHeardModel" 131 10 60 := ⟨(RX10, TX10, 62), rfl, by decide, (lwT_of (tc_5 _ (List.mem_of_getElem? (i := 174) rfl)) rfl)⟩
set_option maxRecDepth 100000 in
theorem fl_R_134 : FLink "WhoeverHeardModel" 134 10 61 := ⟨(RX10, TX10, 62), rfl, by decide, (lwT_of (tc_5 _ (List.mem_of_getElem? (i := 175) rfl)) rfl)⟩
set_option maxRecDepth 100000 in
theorem ml_Law_17 : Cond.methodLink "WhoeverHeardLaw" 17 (my mR_far) ∈ lwT := (lwT_of (tc_6 _ (List.mem_of_getElem? (i := 61) rfl)) rfl)
set_option maxRecDepth 100000 in
theorem ml_Law_22 : Cond.methodLink "WhoeverHeardLaw" 22 (my mR_hush) ∈ lwT := (lwT_of (tc_6 _ (List.mem_of_getElem? (i := 65) rfl)) rfl)
set_option maxRecDepth 100000 in
theorem ml_Law_27 : Cond.methodLink "WhoeverHeardLaw" 27 (my mR_stride) ∈ lwT := (lwT_of (tc_6 _ (List.mem_of_getElem? (i := 69) rfl)) rfl)
set_option maxRecDepth 100000 in
theorem ml_Law_31 : Cond.methodLink "WhoeverHeardLaw" 31 (my mR_count) ∈ lwT := (lwT_of (tc_6 _ (List.mem_of_getElem? (i := 73) rfl)) rfl)
set_option maxRecDepth 100000 in
theorem ml_Law_36 : Cond.methodLink "WhoeverHeardLaw" 36 (my mR_feed) ∈ lwT := (lwT_of (tc_6 _ (List.mem_of_getElem? (i := 77) rfl)) rfl)
set_option maxRecDepth 100000 in
theorem ml_R_167 : Cond.methodLink "WhoeverHeardModel" 167 (my mR_isByte) ∈ lwT := (lwT_of (tc_6 _ (List.mem_of_getElem? (i := 81) rfl)) rfl)
set_option maxRecDepth 100000 in
theorem ml_Law_41 : Cond.methodLink "WhoeverHeardLaw" 41 (my mR_text) ∈ lwT := (lwT_of (tc_6 _ (List.mem_of_getElem? (i := 84) rfl)) rfl)
set_option maxRecDepth 100000 in
theorem ml_Law_45 : Cond.methodLink "WhoeverHeardLaw" 45 (my mR_force) ∈ lwT := (lwT_of (tc_6 _ (List.mem_of_getElem? (i := 85) rfl)) rfl)
set_option maxRecDepth 100000 in
theorem ml_Law_50 : Cond.methodLink "WhoeverHeardLaw" 50 (my mR_person) ∈ lwT := (lwT_of (tc_6 _ (List.mem_of_getElem? (i := 89) rfl)) rfl)
set_option maxRecDepth 100000 in
theorem ml_Law_54 : Cond.methodLink "WhoeverHeardLaw" 54 (my mR_move) ∈ lwT := (lwT_of (tc_6 _ (List.mem_of_getElem? (i := 93) rfl)) rfl)
set_option maxRecDepth 100000 in
theorem ml_R_230 : Cond.methodLink "WhoeverHeardModel" 230 (my mR_isOne) ∈ lwT := (lwT_of (tc_6 _ (List.mem_of_getElem? (i := 97) rfl)) rfl)
set_option maxRecDepth 100000 in
theorem ml_Law_58 : Cond.methodLink "WhoeverHeardLaw" 58 (my mR_told) ∈ lwT := (lwT_of (tc_6 _ (List.mem_of_getElem? (i := 101) rfl)) rfl)
set_option maxRecDepth 100000 in
theorem ml_R_233 : Cond.methodLink "WhoeverHeardModel" 233 (my mR_whereIs) ∈ lwT := (lwT_of (tc_6 _ (List.mem_of_getElem? (i := 105) rfl)) rfl)
set_option maxRecDepth 100000 in
theorem ml_Law_62 : Cond.methodLink "WhoeverHeardLaw" 62 (my mR_promise) ∈ lwT := (lwT_of (tc_6 _ (List.mem_of_getElem? (i := 109) rfl)) rfl)
set_option maxRecDepth 100000 in
theorem ml_Law_66 : Cond.methodLink "WhoeverHeardLaw" 66 (my mR_promised) ∈ lwT := (lwT_of (tc_6 _ (List.mem_of_getElem? (i := 113) rfl)) rfl)
set_option maxRecDepth 100000 in
theorem ml_R_236 : Cond.methodLink "WhoeverHeardModel" 236 (my mR_isPromise) ∈ lwT := (lwT_of (tc_6 _ (List.mem_of_getElem? (i := 117) rfl)) rfl)
set_option maxRecDepth 100000 in
theorem ml_Law_70 : Cond.methodLink "WhoeverHeardLaw" 70 (my mR_say) ∈ lwT := (lwT_of (tc_6 _ (List.mem_of_getElem? (i := 121) rfl)) rfl)
set_option maxRecDepth 100000 in
theorem ml_R_239 : Cond.methodLink "WhoeverHeardModel" 239 (my mR_says) ∈ lwT := (lwT_of (tc_6 _ (List.mem_of_getElem? (i := 125) rfl)) rfl)
set_option maxRecDepth 100000 in
theorem ml_Law_74 : Cond.methodLink "WhoeverHeardLaw" 74 (my mR_unsay) ∈ lwT := (lwT_of (tc_6 _ (List.mem_of_getElem? (i := 129) rfl)) rfl)
set_option maxRecDepth 100000 in
theorem ml_Law_78 : Cond.methodLink "WhoeverHeardLaw" 78 (my mR_said) ∈ lwT := (lwT_of (tc_6 _ (List.mem_of_getElem? (i := 133) rfl)) rfl)
set_option maxRecDepth 100000 in
theorem ml_R_243 : Cond.methodLink "WhoeverHeardModel" 243 (my mR_isSaying) ∈ lwT := (lwT_of (tc_6 _ (List.mem_of_getElem? (i := 137) rfl)) rfl)
set_option maxRecDepth 100000 in
theorem ml_Law_82 : Cond.methodLink "WhoeverHeardLaw" 82 (my mR_hears) ∈ lwT := (lwT_of (tc_6 _ (List.mem_of_getElem? (i := 141) rfl)) rfl)
set_option maxRecDepth 100000 in
theorem ml_R_256 : Cond.methodLink "WhoeverHeardModel" 256 (my mR_hearsOf) ∈ lwT := (lwT_of (tc_6 _ (List.mem_of_getElem? (i := 145) rfl)) rfl)
set_option maxRecDepth 100000 in
theorem ml_R_246 : Cond.methodLink "WhoeverHeardModel" 246 (my mR_names) ∈ lwT := (lwT_of (tc_6 _ (List.mem_of_getElem? (i := 149) rfl)) rfl)
set_option maxRecDepth 100000 in
theorem ml_R_250 : Cond.methodLink "WhoeverHeardModel" 250 (my mR_worthOf) ∈ lwT := (lwT_of (tc_6 _ (List.mem_of_getElem? (i := 153) rfl)) rfl)
set_option maxRecDepth 100000 in
theorem ml_R_226 : Cond.methodLink "WhoeverHeardModel" 226 (my mR_two) ∈ lwT := (lwT_of (tc_6 _ (List.mem_of_getElem? (i := 157) rfl)) rfl)
set_option maxRecDepth 100000 in
theorem ml_R_253 : Cond.methodLink "WhoeverHeardModel" 253 (my mR_within) ∈ lwT := (lwT_of (tc_6 _ (List.mem_of_getElem? (i := 160) rfl)) rfl)
set_option maxRecDepth 100000 in
theorem ml_Law_86 : Cond.methodLink "WhoeverHeardLaw" 86 (my mR_heard) ∈ lwT := (lwT_of (tc_6 _ (List.mem_of_getElem? (i := 163) rfl)) rfl)
set_option maxRecDepth 100000 in
theorem ml_R_277 : Cond.methodLink "WhoeverHeardModel" 277 (my mR_clearTo) ∈ lwT := (lwT_of (tc_6 _ (List.mem_of_getElem? (i := 167) rfl)) rfl)
set_option maxRecDepth 100000 in
theorem ml_R_273 : Cond.methodLink "WhoeverHeardModel" 273 (my mR_isClear) ∈ lwT := (lwT_of (tc_6 _ (List.mem_of_getElem? (i := 171) rfl)) rfl)
set_option maxRecDepth 100000 in
theorem cn_R_267 : Cond.constantLong "WhoeverHeardModel" 267 (48271) ∈ lwT := (lwT_of (tc_6 _ (List.mem_of_getElem? (i := 175) rfl)) rfl)
set_option maxRecDepth 100000 in
theorem cn_R_269 : Cond.constantLong "WhoeverHeardModel" 269 (2147483647) ∈ lwT := (lwT_of (tc_6 _ (List.mem_of_getElem? (i := 176) rfl)) rfl)
set_option maxRecDepth 100000 in
theorem cn_R_271 : Cond.constantLong "WhoeverHeardModel" 271 (100) ∈ lwT := (lwT_of (tc_6 _ (List.mem_of_getElem? (i := 177) rfl)) rfl)
set_option maxRecDepth 100000 in
theorem ml_Law_90 : Cond.methodLink "WhoeverHeardLaw" 90 (my mR_nobody) ∈ lwT := (lwT_of (tc_6 _ (List.mem_of_getElem? (i := 178) rfl)) rfl)
set_option maxRecDepth 100000 in
theorem ml_Law_94 : Cond.methodLink "WhoeverHeardLaw" 94 (my mR_owe) ∈ lwT := (lwT_of (tc_6 _ (List.mem_of_getElem? (i := 182) rfl)) rfl)
set_option maxRecDepth 100000 in
theorem ml_R_295 : Cond.methodLink "WhoeverHeardModel" 295 (my mR_owes) ∈ lwT := (lwT_of (tc_6 _ (List.mem_of_getElem? (i := 186) rfl)) rfl)
set_option maxRecDepth 100000 in
theorem ml_R_286 : Cond.methodLink "WhoeverHeardModel" 286 (my mR_owesBy) ∈ lwT := (lwT_of (tc_6 _ (List.mem_of_getElem? (i := 190) rfl)) rfl)
set_option maxRecDepth 100000 in
theorem ml_R_280 : Cond.methodLink "WhoeverHeardModel" 280 (my mR_ones) ∈ lwT := (lwT_of (tc_6 _ (List.mem_of_getElem? (i := 194) rfl)) rfl)
set_option maxRecDepth 100000 in
theorem ml_R_283 : Cond.methodLink "WhoeverHeardModel" 283 (my mR_can) ∈ lwT := (lwT_of (tc_6 _ (List.mem_of_getElem? (i := 197) rfl)) rfl)
set_option maxRecDepth 100000 in
theorem ml_R_289 : Cond.methodLink "WhoeverHeardModel" 289 (my mR_strikes) ∈ lwT := (lwT_of (tc_6 _ (List.mem_of_getElem? (i := 201) rfl)) rfl)
set_option maxRecDepth 100000 in
theorem ml_R_292 : Cond.methodLink "WhoeverHeardModel" 292 (my mR_fits) ∈ lwT := (lwT_of (tc_6 _ (List.mem_of_getElem? (i := 205) rfl)) rfl)
set_option maxRecDepth 100000 in
theorem ml_Law_98 : Cond.methodLink "WhoeverHeardLaw" 98 (my mR_load) ∈ lwT := (lwT_of (tc_6 _ (List.mem_of_getElem? (i := 209) rfl)) rfl)
set_option maxRecDepth 100000 in
theorem ml_R_298 : Cond.methodLink "WhoeverHeardModel" 298 (my mR_owedBy) ∈ lwT := (lwT_of (tc_6 _ (List.mem_of_getElem? (i := 213) rfl)) rfl)
set_option maxRecDepth 100000 in
theorem ml_R_301 : Cond.methodLink "WhoeverHeardModel" 301 (my mR_painOf) ∈ lwT := (lwT_of (tc_6 _ (List.mem_of_getElem? (i := 217) rfl)) rfl)
set_option maxRecDepth 100000 in
theorem ml_Law_102 : Cond.methodLink "WhoeverHeardLaw" 102 (my mR_done) ∈ lwT := (lwT_of (tc_6 _ (List.mem_of_getElem? (i := 221) rfl)) rfl)
set_option maxRecDepth 100000 in
theorem ml_R_304 : Cond.methodLink "WhoeverHeardModel" 304 (my mR_doneOf) ∈ lwT := (lwT_of (tc_6 _ (List.mem_of_getElem? (i := 225) rfl)) rfl)
set_option maxRecDepth 100000 in
theorem ml_Law_106 : Cond.methodLink "WhoeverHeardLaw" 106 (my mR_sum) ∈ lwT := (lwT_of (tc_6 _ (List.mem_of_getElem? (i := 229) rfl)) rfl)
set_option maxRecDepth 100000 in
theorem ml_R_310 : Cond.methodLink "WhoeverHeardModel" 310 (my mR_keptNow) ∈ lwT := (lwT_of (tc_6 _ (List.mem_of_getElem? (i := 233) rfl)) rfl)
set_option maxRecDepth 100000 in
theorem ml_R_307 : Cond.methodLink "WhoeverHeardModel" 307 (my mR_isKept) ∈ lwT := (lwT_of (tc_6 _ (List.mem_of_getElem? (i := 237) rfl)) rfl)
set_option maxRecDepth 100000 in
theorem ml_R_313 : Cond.methodLink "WhoeverHeardModel" 313 (my mR_worthNow) ∈ lwT := (lwT_of (tc_7 _ (List.mem_of_getElem? (i := 1) rfl)) rfl)
set_option maxRecDepth 100000 in
theorem ml_R_316 : Cond.methodLink "WhoeverHeardModel" 316 (my mR_painNow) ∈ lwT := (lwT_of (tc_7 _ (List.mem_of_getElem? (i := 5) rfl)) rfl)
set_option maxRecDepth 100000 in
theorem ml_Law_110 : Cond.methodLink "WhoeverHeardLaw" 110 (my mR_judge) ∈ lwT := (lwT_of (tc_7 _ (List.mem_of_getElem? (i := 9) rfl)) rfl)
set_option maxRecDepth 100000 in
theorem ml_R_319 : Cond.methodLink "WhoeverHeardModel" 319 (my mR_wayTo) ∈ lwT := (lwT_of (tc_7 _ (List.mem_of_getElem? (i := 13) rfl)) rfl)
set_option maxRecDepth 100000 in
theorem ml_Law_114 : Cond.methodLink "WhoeverHeardLaw" 114 (my mR_walk) ∈ lwT := (lwT_of (tc_7 _ (List.mem_of_getElem? (i := 17) rfl)) rfl)
set_option maxRecDepth 100000 in
theorem ml_Law_118 : Cond.methodLink "WhoeverHeardLaw" 118 (my mR_best) ∈ lwT := (lwT_of (tc_7 _ (List.mem_of_getElem? (i := 21) rfl)) rfl)
set_option maxRecDepth 100000 in
theorem ml_R_322 : Cond.methodLink "WhoeverHeardModel" 322 (my mR_isHow) ∈ lwT := (lwT_of (tc_7 _ (List.mem_of_getElem? (i := 25) rfl)) rfl)
set_option maxRecDepth 100000 in
theorem ml_R_325 : Cond.methodLink "WhoeverHeardModel" 325 (my mR_owesWith) ∈ lwT := (lwT_of (tc_7 _ (List.mem_of_getElem? (i := 28) rfl)) rfl)
set_option maxRecDepth 100000 in
theorem ml_Law_122 : Cond.methodLink "WhoeverHeardLaw" 122 (my mR_foe) ∈ lwT := (lwT_of (tc_7 _ (List.mem_of_getElem? (i := 32) rfl)) rfl)
set_option maxRecDepth 100000 in
theorem ml_Law_126 : Cond.methodLink "WhoeverHeardLaw" 126 (my mR_loud) ∈ lwT := (lwT_of (tc_7 _ (List.mem_of_getElem? (i := 36) rfl)) rfl)
set_option maxRecDepth 100000 in
theorem ml_Law_130 : Cond.methodLink "WhoeverHeardLaw" 130 (my mR_spare) ∈ lwT := (lwT_of (tc_7 _ (List.mem_of_getElem? (i := 40) rfl)) rfl)
set_option maxRecDepth 100000 in
theorem ml_Law_134 : Cond.methodLink "WhoeverHeardLaw" 134 (my mR_even) ∈ lwT := (lwT_of (tc_7 _ (List.mem_of_getElem? (i := 44) rfl)) rfl)
set_option maxRecDepth 100000 in
theorem ml_R_329 : Cond.methodLink "WhoeverHeardModel" 329 (my mR_shares) ∈ lwT := (lwT_of (tc_7 _ (List.mem_of_getElem? (i := 48) rfl)) rfl)
set_option maxRecDepth 100000 in
theorem ml_Law_138 : Cond.methodLink "WhoeverHeardLaw" 138 (my mR_hardest) ∈ lwT := (lwT_of (tc_7 _ (List.mem_of_getElem? (i := 52) rfl)) rfl)
set_option maxRecDepth 100000 in
theorem ml_Law_142 : Cond.methodLink "WhoeverHeardLaw" 142 (my mR_flee) ∈ lwT := (lwT_of (tc_7 _ (List.mem_of_getElem? (i := 56) rfl)) rfl)
set_option maxRecDepth 100000 in
theorem ml_R_335 : Cond.methodLink "WhoeverHeardModel" 335 (my mR_goesTo) ∈ lwT := (lwT_of (tc_7 _ (List.mem_of_getElem? (i := 60) rfl)) rfl)
set_option maxRecDepth 100000 in
theorem ml_R_332 : Cond.methodLink "WhoeverHeardModel" 332 (my mR_owedAt) ∈ lwT := (lwT_of (tc_7 _ (List.mem_of_getElem? (i := 64) rfl)) rfl)
set_option maxRecDepth 100000 in
theorem ml_Law_146 : Cond.methodLink "WhoeverHeardLaw" 146 (my mR_send) ∈ lwT := (lwT_of (tc_7 _ (List.mem_of_getElem? (i := 68) rfl)) rfl)
set_option maxRecDepth 100000 in
theorem ml_Law_150 : Cond.methodLink "WhoeverHeardLaw" 150 (my mR_rest) ∈ lwT := (lwT_of (tc_7 _ (List.mem_of_getElem? (i := 72) rfl)) rfl)
set_option maxRecDepth 100000 in
theorem ml_Law_155 : Cond.methodLink "WhoeverHeardLaw" 155 (my mR_chance) ∈ lwT := (lwT_of (tc_7 _ (List.mem_of_getElem? (i := 76) rfl)) rfl)
set_option maxRecDepth 100000 in
theorem ml_R_341 : Cond.methodLink "WhoeverHeardModel" 341 (my mR_chanceOf) ∈ lwT := (lwT_of (tc_7 _ (List.mem_of_getElem? (i := 80) rfl)) rfl)
set_option maxRecDepth 100000 in
theorem cn_R_339 : Cond.constantLong "WhoeverHeardModel" 339 (1000000) ∈ lwT := (lwT_of (tc_7 _ (List.mem_of_getElem? (i := 84) rfl)) rfl)
set_option maxRecDepth 100000 in
theorem cn_R_345 : Cond.constantLong "WhoeverHeardModel" 345 (-4611686018427387904) ∈ lwT := (lwT_of (tc_7 _ (List.mem_of_getElem? (i := 85) rfl)) rfl)
set_option maxRecDepth 100000 in
theorem ml_Law_160 : Cond.methodLink "WhoeverHeardLaw" 160 (my mR_lost) ∈ lwT := (lwT_of (tc_7 _ (List.mem_of_getElem? (i := 86) rfl)) rfl)
set_option maxRecDepth 100000 in
theorem ml_Law_164 : Cond.methodLink "WhoeverHeardLaw" 164 (my mR_laws) ∈ lwT := (lwT_of (tc_7 _ (List.mem_of_getElem? (i := 90) rfl)) rfl)
set_option maxRecDepth 100000 in
theorem ml_Law_168 : Cond.methodLink "WhoeverHeardLaw" 168 (my mR_witness) ∈ lwT := (lwT_of (tc_7 _ (List.mem_of_getElem? (i := 94) rfl)) rfl)
set_option maxRecDepth 100000 in
theorem ml_R_347 : Cond.methodLink "WhoeverHeardModel" 347 (my mR_sheetWrong) ∈ lwT := (lwT_of (tc_7 _ (List.mem_of_getElem? (i := 98) rfl)) rfl)
set_option maxRecDepth 100000 in
theorem ml_R_350 : Cond.methodLink "WhoeverHeardModel" 350 (my mR_unlike) ∈ lwT := (lwT_of (tc_7 _ (List.mem_of_getElem? (i := 102) rfl)) rfl)
set_option maxRecDepth 100000 in
theorem ml_Law_172 : Cond.methodLink "WhoeverHeardLaw" 172 (my mR_alibi) ∈ lwT := (lwT_of (tc_7 _ (List.mem_of_getElem? (i := 106) rfl)) rfl)
set_option maxRecDepth 100000 in
theorem ml_Law_176 : Cond.methodLink "WhoeverHeardLaw" 176 (my mR_drawn) ∈ lwT := (lwT_of (tc_7 _ (List.mem_of_getElem? (i := 110) rfl)) rfl)
set_option maxRecDepth 100000 in
theorem cn_R_353 : Cond.constant "WhoeverHeardModel" 353 (99999) ∈ lwT := (lwT_of (tc_7 _ (List.mem_of_getElem? (i := 114) rfl)) rfl)
set_option maxRecDepth 100000 in
theorem ml_R_354 : Cond.methodLink "WhoeverHeardModel" 354 (my mR_draws) ∈ lwT := (lwT_of (tc_7 _ (List.mem_of_getElem? (i := 115) rfl)) rfl)
set_option maxRecDepth 100000 in
theorem ml_Law_181 : Cond.methodLink "WhoeverHeardLaw" 181 (my mR_odds) ∈ lwT := (lwT_of (tc_7 _ (List.mem_of_getElem? (i := 119) rfl)) rfl)
set_option maxRecDepth 100000 in
theorem ml_R_357 : Cond.methodLink "WhoeverHeardModel" 357 (my mR_lowest) ∈ lwT := (lwT_of (tc_7 _ (List.mem_of_getElem? (i := 123) rfl)) rfl)
set_option maxRecDepth 100000 in
theorem ml_Law_185 : Cond.methodLink "WhoeverHeardLaw" 185 (my mR_image) ∈ lwT := (lwT_of (tc_7 _ (List.mem_of_getElem? (i := 126) rfl)) rfl)
set_option maxRecDepth 100000 in
theorem ml_Law_189 : Cond.methodLink "WhoeverHeardLaw" 189 (my mR_back) ∈ lwT := (lwT_of (tc_7 _ (List.mem_of_getElem? (i := 130) rfl)) rfl)
set_option maxRecDepth 100000 in
theorem ml_Law_193 : Cond.methodLink "WhoeverHeardLaw" 193 (my mR_sheet) ∈ lwT := (lwT_of (tc_7 _ (List.mem_of_getElem? (i := 134) rfl)) rfl)
set_option maxRecDepth 100000 in
theorem ml_Law_197 : Cond.methodLink "WhoeverHeardLaw" 197 (my mR_cell) ∈ lwT := (lwT_of (tc_7 _ (List.mem_of_getElem? (i := 138) rfl)) rfl)
set_option maxRecDepth 100000 in
theorem ml_Law_202 : Cond.methodLink "WhoeverHeardLaw" 202 (my mR_copy) ∈ lwT := (lwT_of (tc_7 _ (List.mem_of_getElem? (i := 142) rfl)) rfl)
set_option maxRecDepth 100000 in
theorem ml_Law_206 : Cond.methodLink "WhoeverHeardLaw" 206 (my mR_promisesBy) ∈ lwT := (lwT_of (tc_7 _ (List.mem_of_getElem? (i := 146) rfl)) rfl)
set_option maxRecDepth 100000 in
theorem ml_R_376 : Cond.methodLink "WhoeverHeardModel" 376 (my mR_promise) ∈ lwT := (lwT_of (tc_7 _ (List.mem_of_getElem? (i := 150) rfl)) rfl)
set_option maxRecDepth 100000 in
theorem ml_Law_210 : Cond.methodLink "WhoeverHeardLaw" 210 (my mR_taken) ∈ lwT := (lwT_of (tc_7 _ (List.mem_of_getElem? (i := 151) rfl)) rfl)
set_option maxRecDepth 100000 in
theorem ml_R_380 : Cond.methodLink "WhoeverHeardModel" 380 (my mR_isUnder) ∈ lwT := (lwT_of (tc_7 _ (List.mem_of_getElem? (i := 155) rfl)) rfl)
set_option maxRecDepth 100000 in
theorem ok_Folk_init : IOk mFolk_init 0 := ⟨⟨(lwT_of (tc_1 _ (List.mem_of_getElem? (i := 54) rfl)) rfl), (lwT_of (tc_1 _ (List.mem_of_getElem? (i := 4) rfl)) rfl), ⟨by decide +kernel, by decide +kernel, by decide +kernel⟩, Nat.le_of_ble_eq_true rfl⟩, (lwT_of (tc_1 _ (List.mem_of_getElem? (i := 53) rfl)) rfl), rfl⟩
set_option maxRecDepth 100000 in
theorem ok_Folk_has : VOk mFolk_has 1 := ⟨⟨(lwT_of (tc_3 _ (List.mem_of_getElem? (i := 111) rfl)) rfl), (lwT_of (tc_1 _ (List.mem_of_getElem? (i := 4) rfl)) rfl), ⟨by decide +kernel, by decide +kernel, by decide +kernel⟩, Nat.le_of_ble_eq_true rfl⟩, (lwT_of (tc_3 _ (List.mem_of_getElem? (i := 109) rfl)) rfl), (lwT_of (tc_3 _ (List.mem_of_getElem? (i := 110) rfl)) rfl)⟩
set_option maxRecDepth 100000 in
theorem ok_Folk_add : VOk mFolk_add 4 := ⟨⟨(lwT_of (tc_3 _ (List.mem_of_getElem? (i := 103) rfl)) rfl), (lwT_of (tc_1 _ (List.mem_of_getElem? (i := 4) rfl)) rfl), ⟨by decide +kernel, by decide +kernel, by decide +kernel⟩, Nat.le_of_ble_eq_true rfl⟩, (lwT_of (tc_3 _ (List.mem_of_getElem? (i := 101) rfl)) rfl), (lwT_of (tc_3 _ (List.mem_of_getElem? (i := 102) rfl)) rfl)⟩
set_option maxRecDepth 100000 in
theorem ok_Folk_isA : VOk mFolk_isA 2 := ⟨⟨(lwT_of (tc_3 _ (List.mem_of_getElem? (i := 128) rfl)) rfl), (lwT_of (tc_1 _ (List.mem_of_getElem? (i := 4) rfl)) rfl), ⟨by decide +kernel, by decide +kernel, by decide +kernel⟩, Nat.le_of_ble_eq_true rfl⟩, (lwT_of (tc_3 _ (List.mem_of_getElem? (i := 126) rfl)) rfl), (lwT_of (tc_3 _ (List.mem_of_getElem? (i := 127) rfl)) rfl)⟩
set_option maxRecDepth 100000 in
theorem ok_Folk_startOf : VOk mFolk_startOf 1 := ⟨⟨(lwT_of (tc_3 _ (List.mem_of_getElem? (i := 124) rfl)) rfl), (lwT_of (tc_1 _ (List.mem_of_getElem? (i := 4) rfl)) rfl), ⟨by decide +kernel, by decide +kernel, by decide +kernel⟩, Nat.le_of_ble_eq_true rfl⟩, (lwT_of (tc_3 _ (List.mem_of_getElem? (i := 122) rfl)) rfl), (lwT_of (tc_3 _ (List.mem_of_getElem? (i := 123) rfl)) rfl)⟩
set_option maxRecDepth 100000 in
theorem ok_Folk_placeOf : VOk mFolk_placeOf 2 := ⟨⟨(lwT_of (tc_3 _ (List.mem_of_getElem? (i := 120) rfl)) rfl), (lwT_of (tc_1 _ (List.mem_of_getElem? (i := 4) rfl)) rfl), ⟨by decide +kernel, by decide +kernel, by decide +kernel⟩, Nat.le_of_ble_eq_true rfl⟩, (lwT_of (tc_3 _ (List.mem_of_getElem? (i := 118) rfl)) rfl), (lwT_of (tc_3 _ (List.mem_of_getElem? (i := 119) rfl)) rfl)⟩
set_option maxRecDepth 100000 in
theorem ok_Folk_isBound : VOk mFolk_isBound 1 := ⟨⟨(lwT_of (tc_4 _ (List.mem_of_getElem? (i := 12) rfl)) rfl), (lwT_of (tc_1 _ (List.mem_of_getElem? (i := 4) rfl)) rfl), ⟨by decide +kernel, by decide +kernel, by decide +kernel⟩, Nat.le_of_ble_eq_true rfl⟩, (lwT_of (tc_4 _ (List.mem_of_getElem? (i := 10) rfl)) rfl), (lwT_of (tc_4 _ (List.mem_of_getElem? (i := 11) rfl)) rfl)⟩
set_option maxRecDepth 100000 in
theorem ok_Folk_canDo : VOk mFolk_canDo 2 := ⟨⟨(lwT_of (tc_4 _ (List.mem_of_getElem? (i := 22) rfl)) rfl), (lwT_of (tc_1 _ (List.mem_of_getElem? (i := 4) rfl)) rfl), ⟨by decide +kernel, by decide +kernel, by decide +kernel⟩, Nat.le_of_ble_eq_true rfl⟩, (lwT_of (tc_4 _ (List.mem_of_getElem? (i := 20) rfl)) rfl), (lwT_of (tc_4 _ (List.mem_of_getElem? (i := 21) rfl)) rfl)⟩
set_option maxRecDepth 100000 in
theorem ok_Folk_hearingOf : VOk mFolk_hearingOf 3 := ⟨⟨(lwT_of (tc_3 _ (List.mem_of_getElem? (i := 215) rfl)) rfl), (lwT_of (tc_1 _ (List.mem_of_getElem? (i := 4) rfl)) rfl), ⟨by decide +kernel, by decide +kernel, by decide +kernel⟩, Nat.le_of_ble_eq_true rfl⟩, (lwT_of (tc_3 _ (List.mem_of_getElem? (i := 213) rfl)) rfl), (lwT_of (tc_3 _ (List.mem_of_getElem? (i := 214) rfl)) rfl)⟩
set_option maxRecDepth 100000 in
theorem ok_Image_init : IOk mImage_init 0 := ⟨⟨(lwT_of (tc_2 _ (List.mem_of_getElem? (i := 57) rfl)) rfl), (lwT_of (tc_1 _ (List.mem_of_getElem? (i := 10) rfl)) rfl), ⟨by decide +kernel, by decide +kernel, by decide +kernel⟩, Nat.le_of_ble_eq_true rfl⟩, (lwT_of (tc_2 _ (List.mem_of_getElem? (i := 56) rfl)) rfl), rfl⟩
set_option maxRecDepth 100000 in
theorem ok_Image_keep : VOk mImage_keep 4 := ⟨⟨(lwT_of (tc_5 _ (List.mem_of_getElem? (i := 7) rfl)) rfl), (lwT_of (tc_1 _ (List.mem_of_getElem? (i := 10) rfl)) rfl), ⟨by decide +kernel, by decide +kernel, by decide +kernel⟩, Nat.le_of_ble_eq_true rfl⟩, (lwT_of (tc_5 _ (List.mem_of_getElem? (i := 5) rfl)) rfl), (lwT_of (tc_5 _ (List.mem_of_getElem? (i := 6) rfl)) rfl)⟩
set_option maxRecDepth 100000 in
theorem ok_Image_giveBack : VOk mImage_giveBack 4 := ⟨⟨(lwT_of (tc_5 _ (List.mem_of_getElem? (i := 26) rfl)) rfl), (lwT_of (tc_1 _ (List.mem_of_getElem? (i := 10) rfl)) rfl), ⟨by decide +kernel, by decide +kernel, by decide +kernel⟩, Nat.le_of_ble_eq_true rfl⟩, (lwT_of (tc_5 _ (List.mem_of_getElem? (i := 24) rfl)) rfl), (lwT_of (tc_5 _ (List.mem_of_getElem? (i := 25) rfl)) rfl)⟩
set_option maxRecDepth 100000 in
theorem ok_Ledger_init : IOk mLedger_init 5 := ⟨⟨(lwT_of (tc_1 _ (List.mem_of_getElem? (i := 237) rfl)) rfl), (lwT_of (tc_1 _ (List.mem_of_getElem? (i := 9) rfl)) rfl), ⟨by decide +kernel, by decide +kernel, by decide +kernel⟩, Nat.le_of_ble_eq_true rfl⟩, (lwT_of (tc_1 _ (List.mem_of_getElem? (i := 236) rfl)) rfl), rfl⟩
set_option maxRecDepth 100000 in
theorem ok_Ledger_reckon : VOk mLedger_reckon 1 := ⟨⟨(lwT_of (tc_3 _ (List.mem_of_getElem? (i := 235) rfl)) rfl), (lwT_of (tc_1 _ (List.mem_of_getElem? (i := 9) rfl)) rfl), ⟨by decide +kernel, by decide +kernel, by decide +kernel⟩, Nat.le_of_ble_eq_true rfl⟩, (lwT_of (tc_3 _ (List.mem_of_getElem? (i := 233) rfl)) rfl), (lwT_of (tc_3 _ (List.mem_of_getElem? (i := 234) rfl)) rfl)⟩
set_option maxRecDepth 100000 in
theorem ok_Ledger_listen : VOk mLedger_listen 1 := ⟨⟨(lwT_of (tc_3 _ (List.mem_of_getElem? (i := 182) rfl)) rfl), (lwT_of (tc_1 _ (List.mem_of_getElem? (i := 9) rfl)) rfl), ⟨by decide +kernel, by decide +kernel, by decide +kernel⟩, Nat.le_of_ble_eq_true rfl⟩, (lwT_of (tc_3 _ (List.mem_of_getElem? (i := 180) rfl)) rfl), (lwT_of (tc_3 _ (List.mem_of_getElem? (i := 181) rfl)) rfl)⟩
set_option maxRecDepth 100000 in
theorem ok_Ledger_listenBy : VOk mLedger_listenBy 1 := ⟨⟨(lwT_of (tc_4 _ (List.mem_of_getElem? (i := 155) rfl)) rfl), (lwT_of (tc_1 _ (List.mem_of_getElem? (i := 9) rfl)) rfl), ⟨by decide +kernel, by decide +kernel, by decide +kernel⟩, Nat.le_of_ble_eq_true rfl⟩, (lwT_of (tc_4 _ (List.mem_of_getElem? (i := 153) rfl)) rfl), (lwT_of (tc_4 _ (List.mem_of_getElem? (i := 154) rfl)) rfl)⟩
set_option maxRecDepth 100000 in
theorem ok_Ledger_listenTo : VOk mLedger_listenTo 1 := ⟨⟨(lwT_of (tc_3 _ (List.mem_of_getElem? (i := 186) rfl)) rfl), (lwT_of (tc_1 _ (List.mem_of_getElem? (i := 9) rfl)) rfl), ⟨by decide +kernel, by decide +kernel, by decide +kernel⟩, Nat.le_of_ble_eq_true rfl⟩, (lwT_of (tc_3 _ (List.mem_of_getElem? (i := 185) rfl)) rfl), (lwT_of (List.mem_of_getElem? (i := 16) rfl) rfl)⟩
set_option maxRecDepth 100000 in
theorem ok_Ledger_listenOne : VOk mLedger_listenOne 2 := ⟨⟨(lwT_of (tc_3 _ (List.mem_of_getElem? (i := 190) rfl)) rfl), (lwT_of (tc_1 _ (List.mem_of_getElem? (i := 9) rfl)) rfl), ⟨by decide +kernel, by decide +kernel, by decide +kernel⟩, Nat.le_of_ble_eq_true rfl⟩, (lwT_of (tc_3 _ (List.mem_of_getElem? (i := 189) rfl)) rfl), (lwT_of (List.mem_of_getElem? (i := 17) rfl) rfl)⟩
set_option maxRecDepth 100000 in
theorem ok_Ledger_setClear : VOk mLedger_setClear 3 := ⟨⟨(lwT_of (tc_3 _ (List.mem_of_getElem? (i := 219) rfl)) rfl), (lwT_of (tc_1 _ (List.mem_of_getElem? (i := 9) rfl)) rfl), ⟨by decide +kernel, by decide +kernel, by decide +kernel⟩, Nat.le_of_ble_eq_true rfl⟩, (lwT_of (tc_3 _ (List.mem_of_getElem? (i := 218) rfl)) rfl), (lwT_of (List.mem_of_getElem? (i := 18) rfl) rfl)⟩
set_option maxRecDepth 100000 in
theorem ok_Ledger_bindAll : VOk mLedger_bindAll 0 := ⟨⟨(lwT_of (tc_4 _ (List.mem_of_getElem? (i := 0) rfl)) rfl), (lwT_of (tc_1 _ (List.mem_of_getElem? (i := 9) rfl)) rfl), ⟨by decide +kernel, by decide +kernel, by decide +kernel⟩, Nat.le_of_ble_eq_true rfl⟩, (lwT_of (tc_3 _ (List.mem_of_getElem? (i := 239) rfl)) rfl), (lwT_of (List.mem_of_getElem? (i := 19) rfl) rfl)⟩
set_option maxRecDepth 100000 in
theorem ok_Ledger_bindBy : VOk mLedger_bindBy 1 := ⟨⟨(lwT_of (tc_4 _ (List.mem_of_getElem? (i := 4) rfl)) rfl), (lwT_of (tc_1 _ (List.mem_of_getElem? (i := 9) rfl)) rfl), ⟨by decide +kernel, by decide +kernel, by decide +kernel⟩, Nat.le_of_ble_eq_true rfl⟩, (lwT_of (tc_4 _ (List.mem_of_getElem? (i := 3) rfl)) rfl), (lwT_of (List.mem_of_getElem? (i := 20) rfl) rfl)⟩
set_option maxRecDepth 100000 in
theorem ok_Ledger_shareOf : VOk mLedger_shareOf 2 := ⟨⟨(lwT_of (tc_4 _ (List.mem_of_getElem? (i := 8) rfl)) rfl), (lwT_of (tc_1 _ (List.mem_of_getElem? (i := 9) rfl)) rfl), ⟨by decide +kernel, by decide +kernel, by decide +kernel⟩, Nat.le_of_ble_eq_true rfl⟩, (lwT_of (tc_4 _ (List.mem_of_getElem? (i := 7) rfl)) rfl), (lwT_of (List.mem_of_getElem? (i := 21) rfl) rfl)⟩
set_option maxRecDepth 100000 in
theorem ok_Ledger_settle : VOk mLedger_settle 2 := ⟨⟨(lwT_of (tc_4 _ (List.mem_of_getElem? (i := 26) rfl)) rfl), (lwT_of (tc_1 _ (List.mem_of_getElem? (i := 9) rfl)) rfl), ⟨by decide +kernel, by decide +kernel, by decide +kernel⟩, Nat.le_of_ble_eq_true rfl⟩, (lwT_of (tc_4 _ (List.mem_of_getElem? (i := 24) rfl)) rfl), (lwT_of (tc_4 _ (List.mem_of_getElem? (i := 25) rfl)) rfl)⟩
set_option maxRecDepth 100000 in
theorem ok_Ledger_settleOne : VOk mLedger_settleOne 3 := ⟨⟨(lwT_of (tc_4 _ (List.mem_of_getElem? (i := 30) rfl)) rfl), (lwT_of (tc_1 _ (List.mem_of_getElem? (i := 9) rfl)) rfl), ⟨by decide +kernel, by decide +kernel, by decide +kernel⟩, Nat.le_of_ble_eq_true rfl⟩, (lwT_of (tc_4 _ (List.mem_of_getElem? (i := 29) rfl)) rfl), (lwT_of (List.mem_of_getElem? (i := 22) rfl) rfl)⟩
set_option maxRecDepth 100000 in
theorem ok_Ledger_strikeOut : VOk mLedger_strikeOut 1 := ⟨⟨(lwT_of (tc_4 _ (List.mem_of_getElem? (i := 35) rfl)) rfl), (lwT_of (tc_1 _ (List.mem_of_getElem? (i := 9) rfl)) rfl), ⟨by decide +kernel, by decide +kernel, by decide +kernel⟩, Nat.le_of_ble_eq_true rfl⟩, (lwT_of (tc_4 _ (List.mem_of_getElem? (i := 34) rfl)) rfl), (lwT_of (List.mem_of_getElem? (i := 23) rfl) rfl)⟩
set_option maxRecDepth 100000 in
theorem ok_Ledger_cutToRoom : VOk mLedger_cutToRoom 1 := ⟨⟨(lwT_of (tc_4 _ (List.mem_of_getElem? (i := 40) rfl)) rfl), (lwT_of (tc_1 _ (List.mem_of_getElem? (i := 9) rfl)) rfl), ⟨by decide +kernel, by decide +kernel, by decide +kernel⟩, Nat.le_of_ble_eq_true rfl⟩, (lwT_of (tc_4 _ (List.mem_of_getElem? (i := 39) rfl)) rfl), (lwT_of (List.mem_of_getElem? (i := 24) rfl) rfl)⟩
set_option maxRecDepth 100000 in
theorem ok_Ledger_doneOf : VOk mLedger_doneOf 1 := ⟨⟨(lwT_of (tc_4 _ (List.mem_of_getElem? (i := 56) rfl)) rfl), (lwT_of (tc_1 _ (List.mem_of_getElem? (i := 9) rfl)) rfl), ⟨by decide +kernel, by decide +kernel, by decide +kernel⟩, Nat.le_of_ble_eq_true rfl⟩, (lwT_of (tc_4 _ (List.mem_of_getElem? (i := 54) rfl)) rfl), (lwT_of (tc_4 _ (List.mem_of_getElem? (i := 55) rfl)) rfl)⟩
set_option maxRecDepth 100000 in
theorem ok_Ledger_keeps : VOk mLedger_keeps 1 := ⟨⟨(lwT_of (tc_4 _ (List.mem_of_getElem? (i := 76) rfl)) rfl), (lwT_of (tc_1 _ (List.mem_of_getElem? (i := 9) rfl)) rfl), ⟨by decide +kernel, by decide +kernel, by decide +kernel⟩, Nat.le_of_ble_eq_true rfl⟩, (lwT_of (tc_4 _ (List.mem_of_getElem? (i := 74) rfl)) rfl), (lwT_of (tc_4 _ (List.mem_of_getElem? (i := 75) rfl)) rfl)⟩
set_option maxRecDepth 100000 in
theorem ok_Ledger_keptBits : VOk mLedger_keptBits 0 := ⟨⟨(lwT_of (tc_4 _ (List.mem_of_getElem? (i := 72) rfl)) rfl), (lwT_of (tc_1 _ (List.mem_of_getElem? (i := 9) rfl)) rfl), ⟨by decide +kernel, by decide +kernel, by decide +kernel⟩, Nat.le_of_ble_eq_true rfl⟩, (lwT_of (tc_4 _ (List.mem_of_getElem? (i := 70) rfl)) rfl), (lwT_of (tc_4 _ (List.mem_of_getElem? (i := 71) rfl)) rfl)⟩
set_option maxRecDepth 100000 in
theorem ok_Ledger_worthKept : VOk mLedger_worthKept 0 := ⟨⟨(lwT_of (tc_4 _ (List.mem_of_getElem? (i := 81) rfl)) rfl), (lwT_of (tc_1 _ (List.mem_of_getElem? (i := 9) rfl)) rfl), ⟨by decide +kernel, by decide +kernel, by decide +kernel⟩, Nat.le_of_ble_eq_true rfl⟩, (lwT_of (tc_4 _ (List.mem_of_getElem? (i := 80) rfl)) rfl), (lwT_of (List.mem_of_getElem? (i := 25) rfl) rfl)⟩
set_option maxRecDepth 100000 in
theorem ok_Ledger_painOf : VOk mLedger_painOf 1 := ⟨⟨(lwT_of (tc_4 _ (List.mem_of_getElem? (i := 48) rfl)) rfl), (lwT_of (tc_1 _ (List.mem_of_getElem? (i := 9) rfl)) rfl), ⟨by decide +kernel, by decide +kernel, by decide +kernel⟩, Nat.le_of_ble_eq_true rfl⟩, (lwT_of (tc_4 _ (List.mem_of_getElem? (i := 46) rfl)) rfl), (lwT_of (tc_4 _ (List.mem_of_getElem? (i := 47) rfl)) rfl)⟩
set_option maxRecDepth 100000 in
theorem ok_Ledger_painOfAll : VOk mLedger_painOfAll 0 := ⟨⟨(lwT_of (tc_4 _ (List.mem_of_getElem? (i := 85) rfl)) rfl), (lwT_of (tc_1 _ (List.mem_of_getElem? (i := 9) rfl)) rfl), ⟨by decide +kernel, by decide +kernel, by decide +kernel⟩, Nat.le_of_ble_eq_true rfl⟩, (lwT_of (tc_4 _ (List.mem_of_getElem? (i := 83) rfl)) rfl), (lwT_of (tc_4 _ (List.mem_of_getElem? (i := 84) rfl)) rfl)⟩
set_option maxRecDepth 100000 in
theorem ok_Ledger_outcome : VOk mLedger_outcome 1 := ⟨⟨(lwT_of (tc_4 _ (List.mem_of_getElem? (i := 68) rfl)) rfl), (lwT_of (tc_1 _ (List.mem_of_getElem? (i := 9) rfl)) rfl), ⟨by decide +kernel, by decide +kernel, by decide +kernel⟩, Nat.le_of_ble_eq_true rfl⟩, (lwT_of (tc_4 _ (List.mem_of_getElem? (i := 66) rfl)) rfl), (lwT_of (tc_4 _ (List.mem_of_getElem? (i := 67) rfl)) rfl)⟩
set_option maxRecDepth 100000 in
theorem ok_Ledger_fullBits : VOk mLedger_fullBits 0 := ⟨⟨(lwT_of (tc_4 _ (List.mem_of_getElem? (i := 64) rfl)) rfl), (lwT_of (tc_1 _ (List.mem_of_getElem? (i := 9) rfl)) rfl), ⟨by decide +kernel, by decide +kernel, by decide +kernel⟩, Nat.le_of_ble_eq_true rfl⟩, (lwT_of (tc_4 _ (List.mem_of_getElem? (i := 62) rfl)) rfl), (lwT_of (tc_4 _ (List.mem_of_getElem? (i := 63) rfl)) rfl)⟩
set_option maxRecDepth 100000 in
theorem ok_Ledger_sayMore : VOk mLedger_sayMore 2 := ⟨⟨(lwT_of (tc_4 _ (List.mem_of_getElem? (i := 106) rfl)) rfl), (lwT_of (tc_1 _ (List.mem_of_getElem? (i := 9) rfl)) rfl), ⟨by decide +kernel, by decide +kernel, by decide +kernel⟩, Nat.le_of_ble_eq_true rfl⟩, (lwT_of (tc_4 _ (List.mem_of_getElem? (i := 104) rfl)) rfl), (lwT_of (tc_4 _ (List.mem_of_getElem? (i := 105) rfl)) rfl)⟩
set_option maxRecDepth 100000 in
theorem ok_Ledger_draw : VOk mLedger_draw 1 := ⟨⟨(lwT_of (tc_4 _ (List.mem_of_getElem? (i := 230) rfl)) rfl), (lwT_of (tc_1 _ (List.mem_of_getElem? (i := 9) rfl)) rfl), ⟨by decide +kernel, by decide +kernel, by decide +kernel⟩, Nat.le_of_ble_eq_true rfl⟩, (lwT_of (tc_4 _ (List.mem_of_getElem? (i := 228) rfl)) rfl), (lwT_of (tc_4 _ (List.mem_of_getElem? (i := 229) rfl)) rfl)⟩
set_option maxRecDepth 100000 in
theorem ok_Ledger_tryPlaces : VOk mLedger_tryPlaces 1 := ⟨⟨(lwT_of (tc_4 _ (List.mem_of_getElem? (i := 151) rfl)) rfl), (lwT_of (tc_1 _ (List.mem_of_getElem? (i := 9) rfl)) rfl), ⟨by decide +kernel, by decide +kernel, by decide +kernel⟩, Nat.le_of_ble_eq_true rfl⟩, (lwT_of (tc_4 _ (List.mem_of_getElem? (i := 149) rfl)) rfl), (lwT_of (tc_4 _ (List.mem_of_getElem? (i := 150) rfl)) rfl)⟩
set_option maxRecDepth 100000 in
theorem ok_Ledger_sharesOut : VOk mLedger_sharesOut 1 := ⟨⟨(lwT_of (tc_4 _ (List.mem_of_getElem? (i := 131) rfl)) rfl), (lwT_of (tc_1 _ (List.mem_of_getElem? (i := 9) rfl)) rfl), ⟨by decide +kernel, by decide +kernel, by decide +kernel⟩, Nat.le_of_ble_eq_true rfl⟩, (lwT_of (tc_4 _ (List.mem_of_getElem? (i := 129) rfl)) rfl), (lwT_of (tc_4 _ (List.mem_of_getElem? (i := 130) rfl)) rfl)⟩
set_option maxRecDepth 100000 in
theorem ok_Ledger_evenBits : VOk mLedger_evenBits 1 := ⟨⟨(lwT_of (tc_4 _ (List.mem_of_getElem? (i := 135) rfl)) rfl), (lwT_of (tc_1 _ (List.mem_of_getElem? (i := 9) rfl)) rfl), ⟨by decide +kernel, by decide +kernel, by decide +kernel⟩, Nat.le_of_ble_eq_true rfl⟩, (lwT_of (tc_4 _ (List.mem_of_getElem? (i := 134) rfl)) rfl), (lwT_of (List.mem_of_getElem? (i := 27) rfl) rfl)⟩
set_option maxRecDepth 100000 in
theorem ok_Ledger_lightest : VOk mLedger_lightest 1 := ⟨⟨(lwT_of (tc_4 _ (List.mem_of_getElem? (i := 139) rfl)) rfl), (lwT_of (tc_1 _ (List.mem_of_getElem? (i := 9) rfl)) rfl), ⟨by decide +kernel, by decide +kernel, by decide +kernel⟩, Nat.le_of_ble_eq_true rfl⟩, (lwT_of (tc_4 _ (List.mem_of_getElem? (i := 138) rfl)) rfl), (lwT_of (List.mem_of_getElem? (i := 28) rfl) rfl)⟩
set_option maxRecDepth 100000 in
theorem ok_Ledger_chanceOf : VOk mLedger_chanceOf 2 := ⟨⟨(lwT_of (tc_4 _ (List.mem_of_getElem? (i := 183) rfl)) rfl), (lwT_of (tc_1 _ (List.mem_of_getElem? (i := 9) rfl)) rfl), ⟨by decide +kernel, by decide +kernel, by decide +kernel⟩, Nat.le_of_ble_eq_true rfl⟩, (lwT_of (tc_4 _ (List.mem_of_getElem? (i := 181) rfl)) rfl), (lwT_of (tc_4 _ (List.mem_of_getElem? (i := 182) rfl)) rfl)⟩
set_option maxRecDepth 100000 in
theorem ok_Reader_init : IOk mReader_init 0 := ⟨⟨(lwT_of (tc_1 _ (List.mem_of_getElem? (i := 168) rfl)) rfl), (lwT_of (tc_1 _ (List.mem_of_getElem? (i := 7) rfl)) rfl), ⟨by decide +kernel, by decide +kernel, by decide +kernel⟩, Nat.le_of_ble_eq_true rfl⟩, (lwT_of (tc_1 _ (List.mem_of_getElem? (i := 167) rfl)) rfl), rfl⟩
set_option maxRecDepth 100000 in
theorem ok_Reader_put : VOk mReader_put 1 := ⟨⟨(lwT_of (tc_2 _ (List.mem_of_getElem? (i := 154) rfl)) rfl), (lwT_of (tc_1 _ (List.mem_of_getElem? (i := 7) rfl)) rfl), ⟨by decide +kernel, by decide +kernel, by decide +kernel⟩, Nat.le_of_ble_eq_true rfl⟩, (lwT_of (tc_2 _ (List.mem_of_getElem? (i := 152) rfl)) rfl), (lwT_of (tc_2 _ (List.mem_of_getElem? (i := 153) rfl)) rfl)⟩
set_option maxRecDepth 100000 in
theorem ok_Reader_clear : VOk mReader_clear 0 := ⟨⟨(lwT_of (tc_3 _ (List.mem_of_getElem? (i := 22) rfl)) rfl), (lwT_of (tc_1 _ (List.mem_of_getElem? (i := 7) rfl)) rfl), ⟨by decide +kernel, by decide +kernel, by decide +kernel⟩, Nat.le_of_ble_eq_true rfl⟩, (lwT_of (tc_3 _ (List.mem_of_getElem? (i := 20) rfl)) rfl), (lwT_of (tc_3 _ (List.mem_of_getElem? (i := 21) rfl)) rfl)⟩
set_option maxRecDepth 100000 in
theorem ok_Reader_fault : VOk mReader_fault 0 := ⟨⟨(lwT_of (tc_3 _ (List.mem_of_getElem? (i := 91) rfl)) rfl), (lwT_of (tc_1 _ (List.mem_of_getElem? (i := 7) rfl)) rfl), ⟨by decide +kernel, by decide +kernel, by decide +kernel⟩, Nat.le_of_ble_eq_true rfl⟩, (lwT_of (tc_3 _ (List.mem_of_getElem? (i := 89) rfl)) rfl), (lwT_of (tc_3 _ (List.mem_of_getElem? (i := 90) rfl)) rfl)⟩
set_option maxRecDepth 100000 in
theorem ok_Reader_reads : VOk mReader_reads 0 := ⟨⟨(lwT_of (tc_2 _ (List.mem_of_getElem? (i := 158) rfl)) rfl), (lwT_of (tc_1 _ (List.mem_of_getElem? (i := 7) rfl)) rfl), ⟨by decide +kernel, by decide +kernel, by decide +kernel⟩, Nat.le_of_ble_eq_true rfl⟩, (lwT_of (tc_2 _ (List.mem_of_getElem? (i := 156) rfl)) rfl), (lwT_of (tc_2 _ (List.mem_of_getElem? (i := 157) rfl)) rfl)⟩
set_option maxRecDepth 100000 in
theorem ok_Reader_cut : VOk mReader_cut 0 := ⟨⟨(lwT_of (tc_2 _ (List.mem_of_getElem? (i := 162) rfl)) rfl), (lwT_of (tc_1 _ (List.mem_of_getElem? (i := 7) rfl)) rfl), ⟨by decide +kernel, by decide +kernel, by decide +kernel⟩, Nat.le_of_ble_eq_true rfl⟩, (lwT_of (tc_2 _ (List.mem_of_getElem? (i := 161) rfl)) rfl), (lwT_of (List.mem_of_getElem? (i := 0) rfl) rfl)⟩
set_option maxRecDepth 100000 in
theorem ok_Reader_putToken : VOk mReader_putToken 3 := ⟨⟨(lwT_of (tc_2 _ (List.mem_of_getElem? (i := 196) rfl)) rfl), (lwT_of (tc_1 _ (List.mem_of_getElem? (i := 7) rfl)) rfl), ⟨by decide +kernel, by decide +kernel, by decide +kernel⟩, Nat.le_of_ble_eq_true rfl⟩, (lwT_of (tc_2 _ (List.mem_of_getElem? (i := 195) rfl)) rfl), (lwT_of (List.mem_of_getElem? (i := 5) rfl) rfl)⟩
set_option maxRecDepth 100000 in
theorem ok_Reader_putNumber : VOk mReader_putNumber 2 := ⟨⟨(lwT_of (tc_2 _ (List.mem_of_getElem? (i := 217) rfl)) rfl), (lwT_of (tc_1 _ (List.mem_of_getElem? (i := 7) rfl)) rfl), ⟨by decide +kernel, by decide +kernel, by decide +kernel⟩, Nat.le_of_ble_eq_true rfl⟩, (lwT_of (tc_2 _ (List.mem_of_getElem? (i := 216) rfl)) rfl), (lwT_of (List.mem_of_getElem? (i := 8) rfl) rfl)⟩
set_option maxRecDepth 100000 in
theorem ok_Reader_putWord : VOk mReader_putWord 2 := ⟨⟨(lwT_of (tc_2 _ (List.mem_of_getElem? (i := 176) rfl)) rfl), (lwT_of (tc_1 _ (List.mem_of_getElem? (i := 7) rfl)) rfl), ⟨by decide +kernel, by decide +kernel, by decide +kernel⟩, Nat.le_of_ble_eq_true rfl⟩, (lwT_of (tc_2 _ (List.mem_of_getElem? (i := 175) rfl)) rfl), (lwT_of (List.mem_of_getElem? (i := 2) rfl) rfl)⟩
set_option maxRecDepth 100000 in
theorem ok_Reader_nameAt : VOk mReader_nameAt 2 := ⟨⟨(lwT_of (tc_2 _ (List.mem_of_getElem? (i := 180) rfl)) rfl), (lwT_of (tc_1 _ (List.mem_of_getElem? (i := 7) rfl)) rfl), ⟨by decide +kernel, by decide +kernel, by decide +kernel⟩, Nat.le_of_ble_eq_true rfl⟩, (lwT_of (tc_2 _ (List.mem_of_getElem? (i := 179) rfl)) rfl), (lwT_of (List.mem_of_getElem? (i := 3) rfl) rfl)⟩
set_option maxRecDepth 100000 in
theorem ok_Reader_keyAt : VOk mReader_keyAt 2 := ⟨⟨(lwT_of (tc_2 _ (List.mem_of_getElem? (i := 200) rfl)) rfl), (lwT_of (tc_1 _ (List.mem_of_getElem? (i := 7) rfl)) rfl), ⟨by decide +kernel, by decide +kernel, by decide +kernel⟩, Nat.le_of_ble_eq_true rfl⟩, (lwT_of (tc_2 _ (List.mem_of_getElem? (i := 199) rfl)) rfl), (lwT_of (List.mem_of_getElem? (i := 6) rfl) rfl)⟩
set_option maxRecDepth 100000 in
theorem ok_Reader_spells : VOk mReader_spells 3 := ⟨⟨(lwT_of (tc_2 _ (List.mem_of_getElem? (i := 185) rfl)) rfl), (lwT_of (tc_1 _ (List.mem_of_getElem? (i := 7) rfl)) rfl), ⟨by decide +kernel, by decide +kernel, by decide +kernel⟩, Nat.le_of_ble_eq_true rfl⟩, (lwT_of (tc_2 _ (List.mem_of_getElem? (i := 184) rfl)) rfl), (lwT_of (List.mem_of_getElem? (i := 4) rfl) rfl)⟩
set_option maxRecDepth 100000 in
theorem ok_Reader_lettersEnd : VOk mReader_lettersEnd 1 := ⟨⟨(lwT_of (tc_2 _ (List.mem_of_getElem? (i := 172) rfl)) rfl), (lwT_of (tc_1 _ (List.mem_of_getElem? (i := 7) rfl)) rfl), ⟨by decide +kernel, by decide +kernel, by decide +kernel⟩, Nat.le_of_ble_eq_true rfl⟩, (lwT_of (tc_2 _ (List.mem_of_getElem? (i := 171) rfl)) rfl), (lwT_of (List.mem_of_getElem? (i := 1) rfl) rfl)⟩
set_option maxRecDepth 100000 in
theorem ok_Reader_digitsEnd : VOk mReader_digitsEnd 1 := ⟨⟨(lwT_of (tc_2 _ (List.mem_of_getElem? (i := 213) rfl)) rfl), (lwT_of (tc_1 _ (List.mem_of_getElem? (i := 7) rfl)) rfl), ⟨by decide +kernel, by decide +kernel, by decide +kernel⟩, Nat.le_of_ble_eq_true rfl⟩, (lwT_of (tc_2 _ (List.mem_of_getElem? (i := 212) rfl)) rfl), (lwT_of (List.mem_of_getElem? (i := 7) rfl) rfl)⟩
set_option maxRecDepth 100000 in
theorem ok_Reader_isLetter : SOk mReader_isLetter 1 := ⟨⟨(lwT_of (tc_2 _ (List.mem_of_getElem? (i := 165) rfl)) rfl), (lwT_of (tc_1 _ (List.mem_of_getElem? (i := 7) rfl)) rfl), ⟨by decide +kernel, by decide +kernel, by decide +kernel⟩, Nat.le_of_ble_eq_true rfl⟩, (lwT_of (tc_2 _ (List.mem_of_getElem? (i := 164) rfl)) rfl)⟩
set_option maxRecDepth 100000 in
theorem ok_Reader_isDigit : SOk mReader_isDigit 1 := ⟨⟨(lwT_of (tc_2 _ (List.mem_of_getElem? (i := 209) rfl)) rfl), (lwT_of (tc_1 _ (List.mem_of_getElem? (i := 7) rfl)) rfl), ⟨by decide +kernel, by decide +kernel, by decide +kernel⟩, Nat.le_of_ble_eq_true rfl⟩, (lwT_of (tc_2 _ (List.mem_of_getElem? (i := 208) rfl)) rfl)⟩
set_option maxRecDepth 100000 in
theorem ok_Reader_isSign : SOk mReader_isSign 1 := ⟨⟨(lwT_of (tc_2 _ (List.mem_of_getElem? (i := 220) rfl)) rfl), (lwT_of (tc_1 _ (List.mem_of_getElem? (i := 7) rfl)) rfl), ⟨by decide +kernel, by decide +kernel, by decide +kernel⟩, Nat.le_of_ble_eq_true rfl⟩, (lwT_of (tc_2 _ (List.mem_of_getElem? (i := 219) rfl)) rfl)⟩
set_option maxRecDepth 100000 in
theorem ok_Reader_passes : VOk mReader_passes 1 := ⟨⟨(lwT_of (tc_2 _ (List.mem_of_getElem? (i := 224) rfl)) rfl), (lwT_of (tc_1 _ (List.mem_of_getElem? (i := 7) rfl)) rfl), ⟨by decide +kernel, by decide +kernel, by decide +kernel⟩, Nat.le_of_ble_eq_true rfl⟩, (lwT_of (tc_2 _ (List.mem_of_getElem? (i := 223) rfl)) rfl), (lwT_of (List.mem_of_getElem? (i := 9) rfl) rfl)⟩
set_option maxRecDepth 100000 in
theorem ok_Reader_step : VOk mReader_step 1 := ⟨⟨(lwT_of (tc_3 _ (List.mem_of_getElem? (i := 4) rfl)) rfl), (lwT_of (tc_1 _ (List.mem_of_getElem? (i := 7) rfl)) rfl), ⟨by decide +kernel, by decide +kernel, by decide +kernel⟩, Nat.le_of_ble_eq_true rfl⟩, (lwT_of (tc_3 _ (List.mem_of_getElem? (i := 3) rfl)) rfl), (lwT_of (List.mem_of_getElem? (i := 14) rfl) rfl)⟩
set_option maxRecDepth 100000 in
theorem ok_Reader_joins : SOk mReader_joins 2 := ⟨⟨(lwT_of (tc_3 _ (List.mem_of_getElem? (i := 11) rfl)) rfl), (lwT_of (tc_1 _ (List.mem_of_getElem? (i := 7) rfl)) rfl), ⟨by decide +kernel, by decide +kernel, by decide +kernel⟩, Nat.le_of_ble_eq_true rfl⟩, (lwT_of (tc_3 _ (List.mem_of_getElem? (i := 10) rfl)) rfl)⟩
set_option maxRecDepth 100000 in
theorem ok_Reader_level : VOk mReader_level 2 := ⟨⟨(lwT_of (tc_2 _ (List.mem_of_getElem? (i := 228) rfl)) rfl), (lwT_of (tc_1 _ (List.mem_of_getElem? (i := 7) rfl)) rfl), ⟨by decide +kernel, by decide +kernel, by decide +kernel⟩, Nat.le_of_ble_eq_true rfl⟩, (lwT_of (tc_2 _ (List.mem_of_getElem? (i := 227) rfl)) rfl), (lwT_of (List.mem_of_getElem? (i := 10) rfl) rfl)⟩
set_option maxRecDepth 100000 in
theorem ok_Reader_negation : VOk mReader_negation 1 := ⟨⟨(lwT_of (tc_2 _ (List.mem_of_getElem? (i := 232) rfl)) rfl), (lwT_of (tc_1 _ (List.mem_of_getElem? (i := 7) rfl)) rfl), ⟨by decide +kernel, by decide +kernel, by decide +kernel⟩, Nat.le_of_ble_eq_true rfl⟩, (lwT_of (tc_2 _ (List.mem_of_getElem? (i := 231) rfl)) rfl), (lwT_of (List.mem_of_getElem? (i := 11) rfl) rfl)⟩
set_option maxRecDepth 100000 in
theorem ok_Reader_one : VOk mReader_one 1 := ⟨⟨(lwT_of (tc_3 _ (List.mem_of_getElem? (i := 8) rfl)) rfl), (lwT_of (tc_1 _ (List.mem_of_getElem? (i := 7) rfl)) rfl), ⟨by decide +kernel, by decide +kernel, by decide +kernel⟩, Nat.le_of_ble_eq_true rfl⟩, (lwT_of (tc_3 _ (List.mem_of_getElem? (i := 7) rfl)) rfl), (lwT_of (List.mem_of_getElem? (i := 15) rfl) rfl)⟩
set_option maxRecDepth 100000 in
theorem ok_Reader_opens : VOk mReader_opens 2 := ⟨⟨(lwT_of (tc_2 _ (List.mem_of_getElem? (i := 236) rfl)) rfl), (lwT_of (tc_1 _ (List.mem_of_getElem? (i := 7) rfl)) rfl), ⟨by decide +kernel, by decide +kernel, by decide +kernel⟩, Nat.le_of_ble_eq_true rfl⟩, (lwT_of (tc_2 _ (List.mem_of_getElem? (i := 235) rfl)) rfl), (lwT_of (List.mem_of_getElem? (i := 12) rfl) rfl)⟩
set_option maxRecDepth 100000 in
theorem ok_Reader_did : VOk mReader_did 1 := ⟨⟨(lwT_of (tc_3 _ (List.mem_of_getElem? (i := 0) rfl)) rfl), (lwT_of (tc_1 _ (List.mem_of_getElem? (i := 7) rfl)) rfl), ⟨by decide +kernel, by decide +kernel, by decide +kernel⟩, Nat.le_of_ble_eq_true rfl⟩, (lwT_of (tc_2 _ (List.mem_of_getElem? (i := 239) rfl)) rfl), (lwT_of (List.mem_of_getElem? (i := 13) rfl) rfl)⟩
set_option maxRecDepth 100000 in
theorem ok_Sayings_init : IOk mSayings_init 0 := ⟨⟨(lwT_of (tc_1 _ (List.mem_of_getElem? (i := 136) rfl)) rfl), (lwT_of (tc_1 _ (List.mem_of_getElem? (i := 6) rfl)) rfl), ⟨by decide +kernel, by decide +kernel, by decide +kernel⟩, Nat.le_of_ble_eq_true rfl⟩, (lwT_of (tc_1 _ (List.mem_of_getElem? (i := 135) rfl)) rfl), rfl⟩
set_option maxRecDepth 100000 in
theorem ok_Sayings_has : VOk mSayings_has 1 := ⟨⟨(lwT_of (tc_3 _ (List.mem_of_getElem? (i := 173) rfl)) rfl), (lwT_of (tc_1 _ (List.mem_of_getElem? (i := 6) rfl)) rfl), ⟨by decide +kernel, by decide +kernel, by decide +kernel⟩, Nat.le_of_ble_eq_true rfl⟩, (lwT_of (tc_3 _ (List.mem_of_getElem? (i := 171) rfl)) rfl), (lwT_of (tc_3 _ (List.mem_of_getElem? (i := 172) rfl)) rfl)⟩
set_option maxRecDepth 100000 in
theorem ok_Sayings_put : VOk mSayings_put 3 := ⟨⟨(lwT_of (tc_3 _ (List.mem_of_getElem? (i := 161) rfl)) rfl), (lwT_of (tc_1 _ (List.mem_of_getElem? (i := 6) rfl)) rfl), ⟨by decide +kernel, by decide +kernel, by decide +kernel⟩, Nat.le_of_ble_eq_true rfl⟩, (lwT_of (tc_3 _ (List.mem_of_getElem? (i := 159) rfl)) rfl), (lwT_of (tc_3 _ (List.mem_of_getElem? (i := 160) rfl)) rfl)⟩
set_option maxRecDepth 100000 in
theorem ok_Sayings_become : VOk mSayings_become 1 := ⟨⟨(lwT_of (tc_5 _ (List.mem_of_getElem? (i := 16) rfl)) rfl), (lwT_of (tc_1 _ (List.mem_of_getElem? (i := 6) rfl)) rfl), ⟨by decide +kernel, by decide +kernel, by decide +kernel⟩, Nat.le_of_ble_eq_true rfl⟩, (lwT_of (tc_5 _ (List.mem_of_getElem? (i := 14) rfl)) rfl), (lwT_of (tc_5 _ (List.mem_of_getElem? (i := 15) rfl)) rfl)⟩
set_option maxRecDepth 100000 in
theorem ok_Sheets_init : IOk mSheets_init 0 := ⟨⟨(lwT_of (tc_2 _ (List.mem_of_getElem? (i := 87) rfl)) rfl), (lwT_of (tc_1 _ (List.mem_of_getElem? (i := 11) rfl)) rfl), ⟨by decide +kernel, by decide +kernel, by decide +kernel⟩, Nat.le_of_ble_eq_true rfl⟩, (lwT_of (tc_2 _ (List.mem_of_getElem? (i := 86) rfl)) rfl), rfl⟩
set_option maxRecDepth 100000 in
theorem ok_Sheets_isMissing : VOk mSheets_isMissing 1 := ⟨⟨(lwT_of (tc_4 _ (List.mem_of_getElem? (i := 208) rfl)) rfl), (lwT_of (tc_1 _ (List.mem_of_getElem? (i := 11) rfl)) rfl), ⟨by decide +kernel, by decide +kernel, by decide +kernel⟩, Nat.le_of_ble_eq_true rfl⟩, (lwT_of (tc_4 _ (List.mem_of_getElem? (i := 206) rfl)) rfl), (lwT_of (tc_4 _ (List.mem_of_getElem? (i := 207) rfl)) rfl)⟩
set_option maxRecDepth 100000 in
theorem ok_Sheets_become : VOk mSheets_become 3 := ⟨⟨(lwT_of (tc_5 _ (List.mem_of_getElem? (i := 34) rfl)) rfl), (lwT_of (tc_1 _ (List.mem_of_getElem? (i := 11) rfl)) rfl), ⟨by decide +kernel, by decide +kernel, by decide +kernel⟩, Nat.le_of_ble_eq_true rfl⟩, (lwT_of (tc_5 _ (List.mem_of_getElem? (i := 32) rfl)) rfl), (lwT_of (tc_5 _ (List.mem_of_getElem? (i := 33) rfl)) rfl)⟩
set_option maxRecDepth 100000 in
theorem ok_Sheets_set : VOk mSheets_set 3 := ⟨⟨(lwT_of (tc_5 _ (List.mem_of_getElem? (i := 42) rfl)) rfl), (lwT_of (tc_1 _ (List.mem_of_getElem? (i := 11) rfl)) rfl), ⟨by decide +kernel, by decide +kernel, by decide +kernel⟩, Nat.le_of_ble_eq_true rfl⟩, (lwT_of (tc_5 _ (List.mem_of_getElem? (i := 40) rfl)) rfl), (lwT_of (tc_5 _ (List.mem_of_getElem? (i := 41) rfl)) rfl)⟩
set_option maxRecDepth 100000 in
theorem ok_Sheets_bitsAt : VOk mSheets_bitsAt 2 := ⟨⟨(lwT_of (tc_4 _ (List.mem_of_getElem? (i := 216) rfl)) rfl), (lwT_of (tc_1 _ (List.mem_of_getElem? (i := 11) rfl)) rfl), ⟨by decide +kernel, by decide +kernel, by decide +kernel⟩, Nat.le_of_ble_eq_true rfl⟩, (lwT_of (tc_4 _ (List.mem_of_getElem? (i := 214) rfl)) rfl), (lwT_of (tc_4 _ (List.mem_of_getElem? (i := 215) rfl)) rfl)⟩
set_option maxRecDepth 100000 in
theorem ok_Texts_init : IOk mTexts_init 0 := ⟨⟨(lwT_of (tc_1 _ (List.mem_of_getElem? (i := 208) rfl)) rfl), (lwT_of (tc_1 _ (List.mem_of_getElem? (i := 8) rfl)) rfl), ⟨by decide +kernel, by decide +kernel, by decide +kernel⟩, Nat.le_of_ble_eq_true rfl⟩, (lwT_of (tc_1 _ (List.mem_of_getElem? (i := 207) rfl)) rfl), rfl⟩
set_option maxRecDepth 100000 in
theorem ok_Texts_add : VOk mTexts_add 1 := ⟨⟨(lwT_of (tc_3 _ (List.mem_of_getElem? (i := 15) rfl)) rfl), (lwT_of (tc_1 _ (List.mem_of_getElem? (i := 8) rfl)) rfl), ⟨by decide +kernel, by decide +kernel, by decide +kernel⟩, Nat.le_of_ble_eq_true rfl⟩, (lwT_of (tc_3 _ (List.mem_of_getElem? (i := 13) rfl)) rfl), (lwT_of (tc_3 _ (List.mem_of_getElem? (i := 14) rfl)) rfl)⟩
set_option maxRecDepth 100000 in
theorem ok_Texts_giveNothing : VOk mTexts_giveNothing 0 := ⟨⟨(lwT_of (tc_3 _ (List.mem_of_getElem? (i := 194) rfl)) rfl), (lwT_of (tc_1 _ (List.mem_of_getElem? (i := 8) rfl)) rfl), ⟨by decide +kernel, by decide +kernel, by decide +kernel⟩, Nat.le_of_ble_eq_true rfl⟩, (lwT_of (tc_3 _ (List.mem_of_getElem? (i := 192) rfl)) rfl), (lwT_of (tc_3 _ (List.mem_of_getElem? (i := 193) rfl)) rfl)⟩
set_option maxRecDepth 100000 in
theorem ok_Texts_value : VOk mTexts_value 2 := ⟨⟨(lwT_of (tc_3 _ (List.mem_of_getElem? (i := 200) rfl)) rfl), (lwT_of (tc_1 _ (List.mem_of_getElem? (i := 8) rfl)) rfl), ⟨by decide +kernel, by decide +kernel, by decide +kernel⟩, Nat.le_of_ble_eq_true rfl⟩, (lwT_of (tc_3 _ (List.mem_of_getElem? (i := 198) rfl)) rfl), (lwT_of (tc_3 _ (List.mem_of_getElem? (i := 199) rfl)) rfl)⟩
set_option maxRecDepth 100000 in
theorem ok_Texts_joined : SOk mTexts_joined 3 := ⟨⟨(lwT_of (tc_3 _ (List.mem_of_getElem? (i := 204) rfl)) rfl), (lwT_of (tc_1 _ (List.mem_of_getElem? (i := 8) rfl)) rfl), ⟨by decide +kernel, by decide +kernel, by decide +kernel⟩, Nat.le_of_ble_eq_true rfl⟩, (lwT_of (tc_3 _ (List.mem_of_getElem? (i := 203) rfl)) rfl)⟩
set_option maxRecDepth 100000 in
theorem ok_Town_init : IOk mTown_init 0 := ⟨⟨(lwT_of (tc_1 _ (List.mem_of_getElem? (i := 31) rfl)) rfl), (lwT_of (tc_1 _ (List.mem_of_getElem? (i := 2) rfl)) rfl), ⟨by decide +kernel, by decide +kernel, by decide +kernel⟩, Nat.le_of_ble_eq_true rfl⟩, (lwT_of (tc_1 _ (List.mem_of_getElem? (i := 30) rfl)) rfl), rfl⟩
set_option maxRecDepth 100000 in
theorem ok_Town_between : VOk mTown_between 2 := ⟨⟨(lwT_of (tc_3 _ (List.mem_of_getElem? (i := 60) rfl)) rfl), (lwT_of (tc_1 _ (List.mem_of_getElem? (i := 2) rfl)) rfl), ⟨by decide +kernel, by decide +kernel, by decide +kernel⟩, Nat.le_of_ble_eq_true rfl⟩, (lwT_of (tc_3 _ (List.mem_of_getElem? (i := 58) rfl)) rfl), (lwT_of (tc_3 _ (List.mem_of_getElem? (i := 59) rfl)) rfl)⟩
set_option maxRecDepth 100000 in
theorem ok_Town_setBetween : VOk mTown_setBetween 3 := ⟨⟨(lwT_of (tc_3 _ (List.mem_of_getElem? (i := 64) rfl)) rfl), (lwT_of (tc_1 _ (List.mem_of_getElem? (i := 2) rfl)) rfl), ⟨by decide +kernel, by decide +kernel, by decide +kernel⟩, Nat.le_of_ble_eq_true rfl⟩, (lwT_of (tc_3 _ (List.mem_of_getElem? (i := 62) rfl)) rfl), (lwT_of (tc_3 _ (List.mem_of_getElem? (i := 63) rfl)) rfl)⟩
set_option maxRecDepth 100000 in
theorem ok_Town_become : VOk mTown_become 1 := ⟨⟨(lwT_of (tc_5 _ (List.mem_of_getElem? (i := 11) rfl)) rfl), (lwT_of (tc_1 _ (List.mem_of_getElem? (i := 2) rfl)) rfl), ⟨by decide +kernel, by decide +kernel, by decide +kernel⟩, Nat.le_of_ble_eq_true rfl⟩, (lwT_of (tc_5 _ (List.mem_of_getElem? (i := 9) rfl)) rfl), (lwT_of (tc_5 _ (List.mem_of_getElem? (i := 10) rfl)) rfl)⟩
set_option maxRecDepth 100000 in
theorem ok_Vows_init : IOk mVows_init 0 := ⟨⟨(lwT_of (tc_1 _ (List.mem_of_getElem? (i := 104) rfl)) rfl), (lwT_of (tc_1 _ (List.mem_of_getElem? (i := 5) rfl)) rfl), ⟨by decide +kernel, by decide +kernel, by decide +kernel⟩, Nat.le_of_ble_eq_true rfl⟩, (lwT_of (tc_1 _ (List.mem_of_getElem? (i := 103) rfl)) rfl), rfl⟩
set_option maxRecDepth 100000 in
theorem ok_Vows_has : VOk mVows_has 1 := ⟨⟨(lwT_of (tc_3 _ (List.mem_of_getElem? (i := 149) rfl)) rfl), (lwT_of (tc_1 _ (List.mem_of_getElem? (i := 5) rfl)) rfl), ⟨by decide +kernel, by decide +kernel, by decide +kernel⟩, Nat.le_of_ble_eq_true rfl⟩, (lwT_of (tc_3 _ (List.mem_of_getElem? (i := 147) rfl)) rfl), (lwT_of (tc_3 _ (List.mem_of_getElem? (i := 148) rfl)) rfl)⟩
set_option maxRecDepth 100000 in
theorem ok_Vows_add : VOk mVows_add 4 := ⟨⟨(lwT_of (tc_3 _ (List.mem_of_getElem? (i := 141) rfl)) rfl), (lwT_of (tc_1 _ (List.mem_of_getElem? (i := 5) rfl)) rfl), ⟨by decide +kernel, by decide +kernel, by decide +kernel⟩, Nat.le_of_ble_eq_true rfl⟩, (lwT_of (tc_3 _ (List.mem_of_getElem? (i := 139) rfl)) rfl), (lwT_of (tc_3 _ (List.mem_of_getElem? (i := 140) rfl)) rfl)⟩
set_option maxRecDepth 100000 in
theorem ok_W_init : IOk mW_init 0 := ⟨⟨(lwT_of (tc_1 _ (List.mem_of_getElem? (i := 23) rfl)) rfl), (lwT_of (tc_1 _ (List.mem_of_getElem? (i := 1) rfl)) rfl), ⟨by decide +kernel, by decide +kernel, by decide +kernel⟩, Nat.le_of_ble_eq_true rfl⟩, (lwT_of (tc_1 _ (List.mem_of_getElem? (i := 22) rfl)) rfl), rfl⟩
set_option maxRecDepth 100000 in
theorem ok_W_far : VOk mW_far 3 := ⟨⟨(lwT_of (tc_3 _ (List.mem_of_getElem? (i := 55) rfl)) rfl), (lwT_of (tc_1 _ (List.mem_of_getElem? (i := 1) rfl)) rfl), ⟨by decide +kernel, by decide +kernel, by decide +kernel⟩, Nat.le_of_ble_eq_true rfl⟩, (lwT_of (tc_3 _ (List.mem_of_getElem? (i := 53) rfl)) rfl), (lwT_of (tc_3 _ (List.mem_of_getElem? (i := 54) rfl)) rfl)⟩
set_option maxRecDepth 100000 in
theorem ok_W_hush : VOk mW_hush 2 := ⟨⟨(lwT_of (tc_3 _ (List.mem_of_getElem? (i := 68) rfl)) rfl), (lwT_of (tc_1 _ (List.mem_of_getElem? (i := 1) rfl)) rfl), ⟨by decide +kernel, by decide +kernel, by decide +kernel⟩, Nat.le_of_ble_eq_true rfl⟩, (lwT_of (tc_3 _ (List.mem_of_getElem? (i := 66) rfl)) rfl), (lwT_of (tc_3 _ (List.mem_of_getElem? (i := 67) rfl)) rfl)⟩
set_option maxRecDepth 100000 in
theorem ok_W_stride : VOk mW_stride 1 := ⟨⟨(lwT_of (tc_3 _ (List.mem_of_getElem? (i := 72) rfl)) rfl), (lwT_of (tc_1 _ (List.mem_of_getElem? (i := 1) rfl)) rfl), ⟨by decide +kernel, by decide +kernel, by decide +kernel⟩, Nat.le_of_ble_eq_true rfl⟩, (lwT_of (tc_3 _ (List.mem_of_getElem? (i := 70) rfl)) rfl), (lwT_of (tc_3 _ (List.mem_of_getElem? (i := 71) rfl)) rfl)⟩
set_option maxRecDepth 100000 in
theorem ok_W_count : VOk mW_count 1 := ⟨⟨(lwT_of (tc_3 _ (List.mem_of_getElem? (i := 76) rfl)) rfl), (lwT_of (tc_1 _ (List.mem_of_getElem? (i := 1) rfl)) rfl), ⟨by decide +kernel, by decide +kernel, by decide +kernel⟩, Nat.le_of_ble_eq_true rfl⟩, (lwT_of (tc_3 _ (List.mem_of_getElem? (i := 74) rfl)) rfl), (lwT_of (tc_3 _ (List.mem_of_getElem? (i := 75) rfl)) rfl)⟩
set_option maxRecDepth 100000 in
theorem ok_W_feed : VOk mW_feed 6 := ⟨⟨(lwT_of (tc_3 _ (List.mem_of_getElem? (i := 80) rfl)) rfl), (lwT_of (tc_1 _ (List.mem_of_getElem? (i := 1) rfl)) rfl), ⟨by decide +kernel, by decide +kernel, by decide +kernel⟩, Nat.le_of_ble_eq_true rfl⟩, (lwT_of (tc_3 _ (List.mem_of_getElem? (i := 78) rfl)) rfl), (lwT_of (tc_3 _ (List.mem_of_getElem? (i := 79) rfl)) rfl)⟩
set_option maxRecDepth 100000 in
theorem ok_W_text : VOk mW_text 0 := ⟨⟨(lwT_of (tc_3 _ (List.mem_of_getElem? (i := 87) rfl)) rfl), (lwT_of (tc_1 _ (List.mem_of_getElem? (i := 1) rfl)) rfl), ⟨by decide +kernel, by decide +kernel, by decide +kernel⟩, Nat.le_of_ble_eq_true rfl⟩, (lwT_of (tc_3 _ (List.mem_of_getElem? (i := 85) rfl)) rfl), (lwT_of (tc_3 _ (List.mem_of_getElem? (i := 86) rfl)) rfl)⟩
set_option maxRecDepth 100000 in
theorem ok_W_force : VOk mW_force 1 := ⟨⟨(lwT_of (tc_3 _ (List.mem_of_getElem? (i := 95) rfl)) rfl), (lwT_of (tc_1 _ (List.mem_of_getElem? (i := 1) rfl)) rfl), ⟨by decide +kernel, by decide +kernel, by decide +kernel⟩, Nat.le_of_ble_eq_true rfl⟩, (lwT_of (tc_3 _ (List.mem_of_getElem? (i := 93) rfl)) rfl), (lwT_of (tc_3 _ (List.mem_of_getElem? (i := 94) rfl)) rfl)⟩
set_option maxRecDepth 100000 in
theorem ok_W_person : VOk mW_person 4 := ⟨⟨(lwT_of (tc_3 _ (List.mem_of_getElem? (i := 99) rfl)) rfl), (lwT_of (tc_1 _ (List.mem_of_getElem? (i := 1) rfl)) rfl), ⟨by decide +kernel, by decide +kernel, by decide +kernel⟩, Nat.le_of_ble_eq_true rfl⟩, (lwT_of (tc_3 _ (List.mem_of_getElem? (i := 97) rfl)) rfl), (lwT_of (tc_3 _ (List.mem_of_getElem? (i := 98) rfl)) rfl)⟩
set_option maxRecDepth 100000 in
theorem ok_W_move : VOk mW_move 2 := ⟨⟨(lwT_of (tc_3 _ (List.mem_of_getElem? (i := 107) rfl)) rfl), (lwT_of (tc_1 _ (List.mem_of_getElem? (i := 1) rfl)) rfl), ⟨by decide +kernel, by decide +kernel, by decide +kernel⟩, Nat.le_of_ble_eq_true rfl⟩, (lwT_of (tc_3 _ (List.mem_of_getElem? (i := 105) rfl)) rfl), (lwT_of (tc_3 _ (List.mem_of_getElem? (i := 106) rfl)) rfl)⟩
set_option maxRecDepth 100000 in
theorem ok_W_told : VOk mW_told 2 := ⟨⟨(lwT_of (tc_3 _ (List.mem_of_getElem? (i := 116) rfl)) rfl), (lwT_of (tc_1 _ (List.mem_of_getElem? (i := 1) rfl)) rfl), ⟨by decide +kernel, by decide +kernel, by decide +kernel⟩, Nat.le_of_ble_eq_true rfl⟩, (lwT_of (tc_3 _ (List.mem_of_getElem? (i := 114) rfl)) rfl), (lwT_of (tc_3 _ (List.mem_of_getElem? (i := 115) rfl)) rfl)⟩
set_option maxRecDepth 100000 in
theorem ok_W_promise : VOk mW_promise 4 := ⟨⟨(lwT_of (tc_3 _ (List.mem_of_getElem? (i := 137) rfl)) rfl), (lwT_of (tc_1 _ (List.mem_of_getElem? (i := 1) rfl)) rfl), ⟨by decide +kernel, by decide +kernel, by decide +kernel⟩, Nat.le_of_ble_eq_true rfl⟩, (lwT_of (tc_3 _ (List.mem_of_getElem? (i := 135) rfl)) rfl), (lwT_of (tc_3 _ (List.mem_of_getElem? (i := 136) rfl)) rfl)⟩
set_option maxRecDepth 100000 in
theorem ok_W_promised : VOk mW_promised 2 := ⟨⟨(lwT_of (tc_3 _ (List.mem_of_getElem? (i := 145) rfl)) rfl), (lwT_of (tc_1 _ (List.mem_of_getElem? (i := 1) rfl)) rfl), ⟨by decide +kernel, by decide +kernel, by decide +kernel⟩, Nat.le_of_ble_eq_true rfl⟩, (lwT_of (tc_3 _ (List.mem_of_getElem? (i := 143) rfl)) rfl), (lwT_of (tc_3 _ (List.mem_of_getElem? (i := 144) rfl)) rfl)⟩
set_option maxRecDepth 100000 in
theorem ok_W_say : VOk mW_say 2 := ⟨⟨(lwT_of (tc_3 _ (List.mem_of_getElem? (i := 154) rfl)) rfl), (lwT_of (tc_1 _ (List.mem_of_getElem? (i := 1) rfl)) rfl), ⟨by decide +kernel, by decide +kernel, by decide +kernel⟩, Nat.le_of_ble_eq_true rfl⟩, (lwT_of (tc_3 _ (List.mem_of_getElem? (i := 152) rfl)) rfl), (lwT_of (tc_3 _ (List.mem_of_getElem? (i := 153) rfl)) rfl)⟩
set_option maxRecDepth 100000 in
theorem ok_W_unsay : VOk mW_unsay 0 := ⟨⟨(lwT_of (tc_3 _ (List.mem_of_getElem? (i := 165) rfl)) rfl), (lwT_of (tc_1 _ (List.mem_of_getElem? (i := 1) rfl)) rfl), ⟨by decide +kernel, by decide +kernel, by decide +kernel⟩, Nat.le_of_ble_eq_true rfl⟩, (lwT_of (tc_3 _ (List.mem_of_getElem? (i := 163) rfl)) rfl), (lwT_of (tc_3 _ (List.mem_of_getElem? (i := 164) rfl)) rfl)⟩
set_option maxRecDepth 100000 in
theorem ok_W_said : VOk mW_said 2 := ⟨⟨(lwT_of (tc_3 _ (List.mem_of_getElem? (i := 169) rfl)) rfl), (lwT_of (tc_1 _ (List.mem_of_getElem? (i := 1) rfl)) rfl), ⟨by decide +kernel, by decide +kernel, by decide +kernel⟩, Nat.le_of_ble_eq_true rfl⟩, (lwT_of (tc_3 _ (List.mem_of_getElem? (i := 167) rfl)) rfl), (lwT_of (tc_3 _ (List.mem_of_getElem? (i := 168) rfl)) rfl)⟩
set_option maxRecDepth 100000 in
theorem ok_W_hears : VOk mW_hears 2 := ⟨⟨(lwT_of (tc_3 _ (List.mem_of_getElem? (i := 178) rfl)) rfl), (lwT_of (tc_1 _ (List.mem_of_getElem? (i := 1) rfl)) rfl), ⟨by decide +kernel, by decide +kernel, by decide +kernel⟩, Nat.le_of_ble_eq_true rfl⟩, (lwT_of (tc_3 _ (List.mem_of_getElem? (i := 176) rfl)) rfl), (lwT_of (tc_3 _ (List.mem_of_getElem? (i := 177) rfl)) rfl)⟩
set_option maxRecDepth 100000 in
theorem ok_W_heard : VOk mW_heard 1 := ⟨⟨(lwT_of (tc_3 _ (List.mem_of_getElem? (i := 223) rfl)) rfl), (lwT_of (tc_1 _ (List.mem_of_getElem? (i := 1) rfl)) rfl), ⟨by decide +kernel, by decide +kernel, by decide +kernel⟩, Nat.le_of_ble_eq_true rfl⟩, (lwT_of (tc_3 _ (List.mem_of_getElem? (i := 221) rfl)) rfl), (lwT_of (tc_3 _ (List.mem_of_getElem? (i := 222) rfl)) rfl)⟩
set_option maxRecDepth 100000 in
theorem ok_W_nobody : VOk mW_nobody 0 := ⟨⟨(lwT_of (tc_3 _ (List.mem_of_getElem? (i := 227) rfl)) rfl), (lwT_of (tc_1 _ (List.mem_of_getElem? (i := 1) rfl)) rfl), ⟨by decide +kernel, by decide +kernel, by decide +kernel⟩, Nat.le_of_ble_eq_true rfl⟩, (lwT_of (tc_3 _ (List.mem_of_getElem? (i := 225) rfl)) rfl), (lwT_of (tc_3 _ (List.mem_of_getElem? (i := 226) rfl)) rfl)⟩
set_option maxRecDepth 100000 in
theorem ok_W_owe : VOk mW_owe 2 := ⟨⟨(lwT_of (tc_3 _ (List.mem_of_getElem? (i := 231) rfl)) rfl), (lwT_of (tc_1 _ (List.mem_of_getElem? (i := 1) rfl)) rfl), ⟨by decide +kernel, by decide +kernel, by decide +kernel⟩, Nat.le_of_ble_eq_true rfl⟩, (lwT_of (tc_3 _ (List.mem_of_getElem? (i := 229) rfl)) rfl), (lwT_of (tc_3 _ (List.mem_of_getElem? (i := 230) rfl)) rfl)⟩
set_option maxRecDepth 100000 in
theorem ok_W_load : VOk mW_load 2 := ⟨⟨(lwT_of (tc_4 _ (List.mem_of_getElem? (i := 44) rfl)) rfl), (lwT_of (tc_1 _ (List.mem_of_getElem? (i := 1) rfl)) rfl), ⟨by decide +kernel, by decide +kernel, by decide +kernel⟩, Nat.le_of_ble_eq_true rfl⟩, (lwT_of (tc_4 _ (List.mem_of_getElem? (i := 42) rfl)) rfl), (lwT_of (tc_4 _ (List.mem_of_getElem? (i := 43) rfl)) rfl)⟩
set_option maxRecDepth 100000 in
theorem ok_W_done : VOk mW_done 1 := ⟨⟨(lwT_of (tc_4 _ (List.mem_of_getElem? (i := 52) rfl)) rfl), (lwT_of (tc_1 _ (List.mem_of_getElem? (i := 1) rfl)) rfl), ⟨by decide +kernel, by decide +kernel, by decide +kernel⟩, Nat.le_of_ble_eq_true rfl⟩, (lwT_of (tc_4 _ (List.mem_of_getElem? (i := 50) rfl)) rfl), (lwT_of (tc_4 _ (List.mem_of_getElem? (i := 51) rfl)) rfl)⟩
set_option maxRecDepth 100000 in
theorem ok_W_sum : VOk mW_sum 1 := ⟨⟨(lwT_of (tc_4 _ (List.mem_of_getElem? (i := 60) rfl)) rfl), (lwT_of (tc_1 _ (List.mem_of_getElem? (i := 1) rfl)) rfl), ⟨by decide +kernel, by decide +kernel, by decide +kernel⟩, Nat.le_of_ble_eq_true rfl⟩, (lwT_of (tc_4 _ (List.mem_of_getElem? (i := 58) rfl)) rfl), (lwT_of (tc_4 _ (List.mem_of_getElem? (i := 59) rfl)) rfl)⟩
set_option maxRecDepth 100000 in
theorem ok_W_judge : VOk mW_judge 0 := ⟨⟨(lwT_of (tc_4 _ (List.mem_of_getElem? (i := 90) rfl)) rfl), (lwT_of (tc_1 _ (List.mem_of_getElem? (i := 1) rfl)) rfl), ⟨by decide +kernel, by decide +kernel, by decide +kernel⟩, Nat.le_of_ble_eq_true rfl⟩, (lwT_of (tc_4 _ (List.mem_of_getElem? (i := 88) rfl)) rfl), (lwT_of (tc_4 _ (List.mem_of_getElem? (i := 89) rfl)) rfl)⟩
set_option maxRecDepth 100000 in
theorem ok_W_walk : VOk mW_walk 0 := ⟨⟨(lwT_of (tc_4 _ (List.mem_of_getElem? (i := 98) rfl)) rfl), (lwT_of (tc_1 _ (List.mem_of_getElem? (i := 1) rfl)) rfl), ⟨by decide +kernel, by decide +kernel, by decide +kernel⟩, Nat.le_of_ble_eq_true rfl⟩, (lwT_of (tc_4 _ (List.mem_of_getElem? (i := 96) rfl)) rfl), (lwT_of (tc_4 _ (List.mem_of_getElem? (i := 97) rfl)) rfl)⟩
set_option maxRecDepth 100000 in
theorem ok_W_best : VOk mW_best 2 := ⟨⟨(lwT_of (tc_4 _ (List.mem_of_getElem? (i := 102) rfl)) rfl), (lwT_of (tc_1 _ (List.mem_of_getElem? (i := 1) rfl)) rfl), ⟨by decide +kernel, by decide +kernel, by decide +kernel⟩, Nat.le_of_ble_eq_true rfl⟩, (lwT_of (tc_4 _ (List.mem_of_getElem? (i := 100) rfl)) rfl), (lwT_of (tc_4 _ (List.mem_of_getElem? (i := 101) rfl)) rfl)⟩
set_option maxRecDepth 100000 in
theorem ok_W_foe : VOk mW_foe 3 := ⟨⟨(lwT_of (tc_4 _ (List.mem_of_getElem? (i := 113) rfl)) rfl), (lwT_of (tc_1 _ (List.mem_of_getElem? (i := 1) rfl)) rfl), ⟨by decide +kernel, by decide +kernel, by decide +kernel⟩, Nat.le_of_ble_eq_true rfl⟩, (lwT_of (tc_4 _ (List.mem_of_getElem? (i := 111) rfl)) rfl), (lwT_of (tc_4 _ (List.mem_of_getElem? (i := 112) rfl)) rfl)⟩
set_option maxRecDepth 100000 in
theorem ok_W_loud : VOk mW_loud 3 := ⟨⟨(lwT_of (tc_4 _ (List.mem_of_getElem? (i := 117) rfl)) rfl), (lwT_of (tc_1 _ (List.mem_of_getElem? (i := 1) rfl)) rfl), ⟨by decide +kernel, by decide +kernel, by decide +kernel⟩, Nat.le_of_ble_eq_true rfl⟩, (lwT_of (tc_4 _ (List.mem_of_getElem? (i := 115) rfl)) rfl), (lwT_of (tc_4 _ (List.mem_of_getElem? (i := 116) rfl)) rfl)⟩
set_option maxRecDepth 100000 in
theorem ok_W_spare : VOk mW_spare 0 := ⟨⟨(lwT_of (tc_4 _ (List.mem_of_getElem? (i := 121) rfl)) rfl), (lwT_of (tc_1 _ (List.mem_of_getElem? (i := 1) rfl)) rfl), ⟨by decide +kernel, by decide +kernel, by decide +kernel⟩, Nat.le_of_ble_eq_true rfl⟩, (lwT_of (tc_4 _ (List.mem_of_getElem? (i := 119) rfl)) rfl), (lwT_of (tc_4 _ (List.mem_of_getElem? (i := 120) rfl)) rfl)⟩
set_option maxRecDepth 100000 in
theorem ok_W_even : VOk mW_even 2 := ⟨⟨(lwT_of (tc_4 _ (List.mem_of_getElem? (i := 127) rfl)) rfl), (lwT_of (tc_1 _ (List.mem_of_getElem? (i := 1) rfl)) rfl), ⟨by decide +kernel, by decide +kernel, by decide +kernel⟩, Nat.le_of_ble_eq_true rfl⟩, (lwT_of (tc_4 _ (List.mem_of_getElem? (i := 125) rfl)) rfl), (lwT_of (tc_4 _ (List.mem_of_getElem? (i := 126) rfl)) rfl)⟩
set_option maxRecDepth 100000 in
theorem ok_W_hardest : VOk mW_hardest 1 := ⟨⟨(lwT_of (tc_4 _ (List.mem_of_getElem? (i := 143) rfl)) rfl), (lwT_of (tc_1 _ (List.mem_of_getElem? (i := 1) rfl)) rfl), ⟨by decide +kernel, by decide +kernel, by decide +kernel⟩, Nat.le_of_ble_eq_true rfl⟩, (lwT_of (tc_4 _ (List.mem_of_getElem? (i := 141) rfl)) rfl), (lwT_of (tc_4 _ (List.mem_of_getElem? (i := 142) rfl)) rfl)⟩
set_option maxRecDepth 100000 in
theorem ok_W_flee : VOk mW_flee 2 := ⟨⟨(lwT_of (tc_4 _ (List.mem_of_getElem? (i := 147) rfl)) rfl), (lwT_of (tc_1 _ (List.mem_of_getElem? (i := 1) rfl)) rfl), ⟨by decide +kernel, by decide +kernel, by decide +kernel⟩, Nat.le_of_ble_eq_true rfl⟩, (lwT_of (tc_4 _ (List.mem_of_getElem? (i := 145) rfl)) rfl), (lwT_of (tc_4 _ (List.mem_of_getElem? (i := 146) rfl)) rfl)⟩
set_option maxRecDepth 100000 in
theorem ok_W_send : VOk mW_send 2 := ⟨⟨(lwT_of (tc_4 _ (List.mem_of_getElem? (i := 162) rfl)) rfl), (lwT_of (tc_1 _ (List.mem_of_getElem? (i := 1) rfl)) rfl), ⟨by decide +kernel, by decide +kernel, by decide +kernel⟩, Nat.le_of_ble_eq_true rfl⟩, (lwT_of (tc_4 _ (List.mem_of_getElem? (i := 160) rfl)) rfl), (lwT_of (tc_4 _ (List.mem_of_getElem? (i := 161) rfl)) rfl)⟩
set_option maxRecDepth 100000 in
theorem ok_W_rest : VOk mW_rest 1 := ⟨⟨(lwT_of (tc_4 _ (List.mem_of_getElem? (i := 169) rfl)) rfl), (lwT_of (tc_1 _ (List.mem_of_getElem? (i := 1) rfl)) rfl), ⟨by decide +kernel, by decide +kernel, by decide +kernel⟩, Nat.le_of_ble_eq_true rfl⟩, (lwT_of (tc_4 _ (List.mem_of_getElem? (i := 167) rfl)) rfl), (lwT_of (tc_4 _ (List.mem_of_getElem? (i := 168) rfl)) rfl)⟩
set_option maxRecDepth 100000 in
theorem ok_W_chance : VOk mW_chance 2 := ⟨⟨(lwT_of (tc_4 _ (List.mem_of_getElem? (i := 178) rfl)) rfl), (lwT_of (tc_1 _ (List.mem_of_getElem? (i := 1) rfl)) rfl), ⟨by decide +kernel, by decide +kernel, by decide +kernel⟩, Nat.le_of_ble_eq_true rfl⟩, (lwT_of (tc_4 _ (List.mem_of_getElem? (i := 176) rfl)) rfl), (lwT_of (tc_4 _ (List.mem_of_getElem? (i := 177) rfl)) rfl)⟩
set_option maxRecDepth 100000 in
theorem ok_W_lost : VOk mW_lost 1 := ⟨⟨(lwT_of (tc_4 _ (List.mem_of_getElem? (i := 189) rfl)) rfl), (lwT_of (tc_1 _ (List.mem_of_getElem? (i := 1) rfl)) rfl), ⟨by decide +kernel, by decide +kernel, by decide +kernel⟩, Nat.le_of_ble_eq_true rfl⟩, (lwT_of (tc_4 _ (List.mem_of_getElem? (i := 187) rfl)) rfl), (lwT_of (tc_4 _ (List.mem_of_getElem? (i := 188) rfl)) rfl)⟩
set_option maxRecDepth 100000 in
theorem ok_W_laws : VOk mW_laws 1 := ⟨⟨(lwT_of (tc_4 _ (List.mem_of_getElem? (i := 196) rfl)) rfl), (lwT_of (tc_1 _ (List.mem_of_getElem? (i := 1) rfl)) rfl), ⟨by decide +kernel, by decide +kernel, by decide +kernel⟩, Nat.le_of_ble_eq_true rfl⟩, (lwT_of (tc_4 _ (List.mem_of_getElem? (i := 194) rfl)) rfl), (lwT_of (tc_4 _ (List.mem_of_getElem? (i := 195) rfl)) rfl)⟩
set_option maxRecDepth 100000 in
theorem ok_W_witness : VOk mW_witness 1 := ⟨⟨(lwT_of (tc_4 _ (List.mem_of_getElem? (i := 200) rfl)) rfl), (lwT_of (tc_1 _ (List.mem_of_getElem? (i := 1) rfl)) rfl), ⟨by decide +kernel, by decide +kernel, by decide +kernel⟩, Nat.le_of_ble_eq_true rfl⟩, (lwT_of (tc_4 _ (List.mem_of_getElem? (i := 198) rfl)) rfl), (lwT_of (tc_4 _ (List.mem_of_getElem? (i := 199) rfl)) rfl)⟩
set_option maxRecDepth 100000 in
theorem ok_W_alibi : VOk mW_alibi 2 := ⟨⟨(lwT_of (tc_4 _ (List.mem_of_getElem? (i := 220) rfl)) rfl), (lwT_of (tc_1 _ (List.mem_of_getElem? (i := 1) rfl)) rfl), ⟨by decide +kernel, by decide +kernel, by decide +kernel⟩, Nat.le_of_ble_eq_true rfl⟩, (lwT_of (tc_4 _ (List.mem_of_getElem? (i := 218) rfl)) rfl), (lwT_of (tc_4 _ (List.mem_of_getElem? (i := 219) rfl)) rfl)⟩
set_option maxRecDepth 100000 in
theorem ok_W_drawn : VOk mW_drawn 2 := ⟨⟨(lwT_of (tc_4 _ (List.mem_of_getElem? (i := 225) rfl)) rfl), (lwT_of (tc_1 _ (List.mem_of_getElem? (i := 1) rfl)) rfl), ⟨by decide +kernel, by decide +kernel, by decide +kernel⟩, Nat.le_of_ble_eq_true rfl⟩, (lwT_of (tc_4 _ (List.mem_of_getElem? (i := 223) rfl)) rfl), (lwT_of (tc_4 _ (List.mem_of_getElem? (i := 224) rfl)) rfl)⟩
set_option maxRecDepth 100000 in
theorem ok_W_odds : VOk mW_odds 4 := ⟨⟨(lwT_of (tc_4 _ (List.mem_of_getElem? (i := 236) rfl)) rfl), (lwT_of (tc_1 _ (List.mem_of_getElem? (i := 1) rfl)) rfl), ⟨by decide +kernel, by decide +kernel, by decide +kernel⟩, Nat.le_of_ble_eq_true rfl⟩, (lwT_of (tc_4 _ (List.mem_of_getElem? (i := 234) rfl)) rfl), (lwT_of (tc_4 _ (List.mem_of_getElem? (i := 235) rfl)) rfl)⟩
set_option maxRecDepth 100000 in
theorem ok_W_image : VOk mW_image 0 := ⟨⟨(lwT_of (tc_5 _ (List.mem_of_getElem? (i := 3) rfl)) rfl), (lwT_of (tc_1 _ (List.mem_of_getElem? (i := 1) rfl)) rfl), ⟨by decide +kernel, by decide +kernel, by decide +kernel⟩, Nat.le_of_ble_eq_true rfl⟩, (lwT_of (tc_5 _ (List.mem_of_getElem? (i := 1) rfl)) rfl), (lwT_of (tc_5 _ (List.mem_of_getElem? (i := 2) rfl)) rfl)⟩
set_option maxRecDepth 100000 in
theorem ok_W_back : VOk mW_back 0 := ⟨⟨(lwT_of (tc_5 _ (List.mem_of_getElem? (i := 22) rfl)) rfl), (lwT_of (tc_1 _ (List.mem_of_getElem? (i := 1) rfl)) rfl), ⟨by decide +kernel, by decide +kernel, by decide +kernel⟩, Nat.le_of_ble_eq_true rfl⟩, (lwT_of (tc_5 _ (List.mem_of_getElem? (i := 20) rfl)) rfl), (lwT_of (tc_5 _ (List.mem_of_getElem? (i := 21) rfl)) rfl)⟩
set_option maxRecDepth 100000 in
theorem ok_W_sheet : VOk mW_sheet 3 := ⟨⟨(lwT_of (tc_5 _ (List.mem_of_getElem? (i := 30) rfl)) rfl), (lwT_of (tc_1 _ (List.mem_of_getElem? (i := 1) rfl)) rfl), ⟨by decide +kernel, by decide +kernel, by decide +kernel⟩, Nat.le_of_ble_eq_true rfl⟩, (lwT_of (tc_5 _ (List.mem_of_getElem? (i := 28) rfl)) rfl), (lwT_of (tc_5 _ (List.mem_of_getElem? (i := 29) rfl)) rfl)⟩
set_option maxRecDepth 100000 in
theorem ok_W_cell : VOk mW_cell 3 := ⟨⟨(lwT_of (tc_5 _ (List.mem_of_getElem? (i := 38) rfl)) rfl), (lwT_of (tc_1 _ (List.mem_of_getElem? (i := 1) rfl)) rfl), ⟨by decide +kernel, by decide +kernel, by decide +kernel⟩, Nat.le_of_ble_eq_true rfl⟩, (lwT_of (tc_5 _ (List.mem_of_getElem? (i := 36) rfl)) rfl), (lwT_of (tc_5 _ (List.mem_of_getElem? (i := 37) rfl)) rfl)⟩
set_option maxRecDepth 100000 in
theorem ok_W_copy : VOk mW_copy 5 := ⟨⟨(lwT_of (tc_5 _ (List.mem_of_getElem? (i := 46) rfl)) rfl), (lwT_of (tc_1 _ (List.mem_of_getElem? (i := 1) rfl)) rfl), ⟨by decide +kernel, by decide +kernel, by decide +kernel⟩, Nat.le_of_ble_eq_true rfl⟩, (lwT_of (tc_5 _ (List.mem_of_getElem? (i := 44) rfl)) rfl), (lwT_of (tc_5 _ (List.mem_of_getElem? (i := 45) rfl)) rfl)⟩
set_option maxRecDepth 100000 in
theorem ok_W_promisesBy : VOk mW_promisesBy 4 := ⟨⟨(lwT_of (tc_5 _ (List.mem_of_getElem? (i := 51) rfl)) rfl), (lwT_of (tc_1 _ (List.mem_of_getElem? (i := 1) rfl)) rfl), ⟨by decide +kernel, by decide +kernel, by decide +kernel⟩, Nat.le_of_ble_eq_true rfl⟩, (lwT_of (tc_5 _ (List.mem_of_getElem? (i := 49) rfl)) rfl), (lwT_of (tc_5 _ (List.mem_of_getElem? (i := 50) rfl)) rfl)⟩
set_option maxRecDepth 100000 in
theorem ok_W_taken : VOk mW_taken 2 := ⟨⟨(lwT_of (tc_5 _ (List.mem_of_getElem? (i := 56) rfl)) rfl), (lwT_of (tc_1 _ (List.mem_of_getElem? (i := 1) rfl)) rfl), ⟨by decide +kernel, by decide +kernel, by decide +kernel⟩, Nat.le_of_ble_eq_true rfl⟩, (lwT_of (tc_5 _ (List.mem_of_getElem? (i := 54) rfl)) rfl), (lwT_of (tc_5 _ (List.mem_of_getElem? (i := 55) rfl)) rfl)⟩
set_option maxRecDepth 100000 in
theorem ok_W_within : SOk mW_within 3 := ⟨⟨(lwT_of (tc_2 _ (List.mem_of_getElem? (i := 168) rfl)) rfl), (lwT_of (tc_1 _ (List.mem_of_getElem? (i := 1) rfl)) rfl), ⟨by decide +kernel, by decide +kernel, by decide +kernel⟩, Nat.le_of_ble_eq_true rfl⟩, (lwT_of (tc_2 _ (List.mem_of_getElem? (i := 167) rfl)) rfl)⟩
set_option maxRecDepth 100000 in
theorem ok_W_isByte : SOk mW_isByte 1 := ⟨⟨(lwT_of (tc_3 _ (List.mem_of_getElem? (i := 83) rfl)) rfl), (lwT_of (tc_1 _ (List.mem_of_getElem? (i := 1) rfl)) rfl), ⟨by decide +kernel, by decide +kernel, by decide +kernel⟩, Nat.le_of_ble_eq_true rfl⟩, (lwT_of (tc_3 _ (List.mem_of_getElem? (i := 82) rfl)) rfl)⟩
set_option maxRecDepth 100000 in
theorem ok_W_isHow : SOk mW_isHow 1 := ⟨⟨(lwT_of (tc_3 _ (List.mem_of_getElem? (i := 157) rfl)) rfl), (lwT_of (tc_1 _ (List.mem_of_getElem? (i := 1) rfl)) rfl), ⟨by decide +kernel, by decide +kernel, by decide +kernel⟩, Nat.le_of_ble_eq_true rfl⟩, (lwT_of (tc_3 _ (List.mem_of_getElem? (i := 156) rfl)) rfl)⟩
set_option maxRecDepth 100000 in
theorem ok_W_bounded : SOk mW_bounded 2 := ⟨⟨(lwT_of (tc_3 _ (List.mem_of_getElem? (i := 207) rfl)) rfl), (lwT_of (tc_1 _ (List.mem_of_getElem? (i := 1) rfl)) rfl), ⟨by decide +kernel, by decide +kernel, by decide +kernel⟩, Nat.le_of_ble_eq_true rfl⟩, (lwT_of (tc_3 _ (List.mem_of_getElem? (i := 206) rfl)) rfl)⟩
set_option maxRecDepth 100000 in
theorem ok_W_leastOf : SOk mW_leastOf 1 := ⟨⟨(lwT_of (tc_4 _ (List.mem_of_getElem? (i := 158) rfl)) rfl), (lwT_of (tc_1 _ (List.mem_of_getElem? (i := 1) rfl)) rfl), ⟨by decide +kernel, by decide +kernel, by decide +kernel⟩, Nat.le_of_ble_eq_true rfl⟩, (lwT_of (tc_4 _ (List.mem_of_getElem? (i := 157) rfl)) rfl)⟩
set_option maxRecDepth 100000 in
theorem ok_W_mostOf : SOk mW_mostOf 1 := ⟨⟨(lwT_of (tc_4 _ (List.mem_of_getElem? (i := 165) rfl)) rfl), (lwT_of (tc_1 _ (List.mem_of_getElem? (i := 1) rfl)) rfl), ⟨by decide +kernel, by decide +kernel, by decide +kernel⟩, Nat.le_of_ble_eq_true rfl⟩, (lwT_of (tc_4 _ (List.mem_of_getElem? (i := 164) rfl)) rfl)⟩
set_option maxRecDepth 100000 in
theorem ok_W_commonDivisor : SOk mW_commonDivisor 2 := ⟨⟨(lwT_of (tc_4 _ (List.mem_of_getElem? (i := 239) rfl)) rfl), (lwT_of (tc_1 _ (List.mem_of_getElem? (i := 1) rfl)) rfl), ⟨by decide +kernel, by decide +kernel, by decide +kernel⟩, Nat.le_of_ble_eq_true rfl⟩, (lwT_of (tc_4 _ (List.mem_of_getElem? (i := 238) rfl)) rfl)⟩
set_option maxRecDepth 100000 in
theorem ok_W_wayTo : VOk mW_wayTo 1 := ⟨⟨(lwT_of (tc_4 _ (List.mem_of_getElem? (i := 94) rfl)) rfl), (lwT_of (tc_1 _ (List.mem_of_getElem? (i := 1) rfl)) rfl), ⟨by decide +kernel, by decide +kernel, by decide +kernel⟩, Nat.le_of_ble_eq_true rfl⟩, (lwT_of (tc_4 _ (List.mem_of_getElem? (i := 93) rfl)) rfl), (lwT_of (List.mem_of_getElem? (i := 26) rfl) rfl)⟩
set_option maxRecDepth 100000 in
theorem ok_W_movesAway : VOk mW_movesAway 1 := ⟨⟨(lwT_of (tc_4 _ (List.mem_of_getElem? (i := 173) rfl)) rfl), (lwT_of (tc_1 _ (List.mem_of_getElem? (i := 1) rfl)) rfl), ⟨by decide +kernel, by decide +kernel, by decide +kernel⟩, Nat.le_of_ble_eq_true rfl⟩, (lwT_of (tc_4 _ (List.mem_of_getElem? (i := 172) rfl)) rfl), (lwT_of (List.mem_of_getElem? (i := 29) rfl) rfl)⟩
set_option maxRecDepth 100000 in
theorem ok_W_witnessRefusal : VOk mW_witnessRefusal 1 := ⟨⟨(lwT_of (tc_4 _ (List.mem_of_getElem? (i := 204) rfl)) rfl), (lwT_of (tc_1 _ (List.mem_of_getElem? (i := 1) rfl)) rfl), ⟨by decide +kernel, by decide +kernel, by decide +kernel⟩, Nat.le_of_ble_eq_true rfl⟩, (lwT_of (tc_4 _ (List.mem_of_getElem? (i := 203) rfl)) rfl), (lwT_of (List.mem_of_getElem? (i := 30) rfl) rfl)⟩
set_option maxRecDepth 100000 in
theorem ok_W_firstHeardByOthers : VOk mW_firstHeardByOthers 1 := ⟨⟨(lwT_of (tc_4 _ (List.mem_of_getElem? (i := 212) rfl)) rfl), (lwT_of (tc_1 _ (List.mem_of_getElem? (i := 1) rfl)) rfl), ⟨by decide +kernel, by decide +kernel, by decide +kernel⟩, Nat.le_of_ble_eq_true rfl⟩, (lwT_of (tc_4 _ (List.mem_of_getElem? (i := 211) rfl)) rfl), (lwT_of (List.mem_of_getElem? (i := 31) rfl) rfl)⟩
set_option maxRecDepth 100000 in
theorem ok_R_init : IOk mR_init 0 := ⟨⟨(lwT_of (tc_5 _ (List.mem_of_getElem? (i := 62) rfl)) rfl), (lwT_of (tc_1 _ (List.mem_of_getElem? (i := 17) rfl)) rfl), ⟨by decide +kernel, by decide +kernel, by decide +kernel⟩, Nat.le_of_ble_eq_true rfl⟩, (lwT_of (tc_5 _ (List.mem_of_getElem? (i := 61) rfl)) rfl), rfl⟩
set_option maxRecDepth 100000 in
theorem ok_R_in : SOk mR_in 3 := ⟨⟨(lwT_of (tc_5 _ (List.mem_of_getElem? (i := 74) rfl)) rfl), (lwT_of (tc_1 _ (List.mem_of_getElem? (i := 17) rfl)) rfl), ⟨by decide +kernel, by decide +kernel, by decide +kernel⟩, Nat.le_of_ble_eq_true rfl⟩, (lwT_of (tc_5 _ (List.mem_of_getElem? (i := 73) rfl)) rfl)⟩
set_option maxRecDepth 100000 in
theorem ok_R_size : SOk mR_size 1 := ⟨⟨(lwT_of (tc_5 _ (List.mem_of_getElem? (i := 113) rfl)) rfl), (lwT_of (tc_1 _ (List.mem_of_getElem? (i := 17) rfl)) rfl), ⟨by decide +kernel, by decide +kernel, by decide +kernel⟩, Nat.le_of_ble_eq_true rfl⟩, (lwT_of (tc_5 _ (List.mem_of_getElem? (i := 112) rfl)) rfl)⟩
set_option maxRecDepth 100000 in
theorem ok_R_within : SOk mR_within 3 := ⟨⟨(lwT_of (tc_6 _ (List.mem_of_getElem? (i := 162) rfl)) rfl), (lwT_of (tc_1 _ (List.mem_of_getElem? (i := 17) rfl)) rfl), ⟨by decide +kernel, by decide +kernel, by decide +kernel⟩, Nat.le_of_ble_eq_true rfl⟩, (lwT_of (tc_6 _ (List.mem_of_getElem? (i := 161) rfl)) rfl)⟩
set_option maxRecDepth 100000 in
theorem ok_R_isOne : VOk mR_isOne 1 := ⟨⟨(lwT_of (tc_6 _ (List.mem_of_getElem? (i := 100) rfl)) rfl), (lwT_of (tc_1 _ (List.mem_of_getElem? (i := 17) rfl)) rfl), ⟨by decide +kernel, by decide +kernel, by decide +kernel⟩, Nat.le_of_ble_eq_true rfl⟩, (lwT_of (tc_6 _ (List.mem_of_getElem? (i := 99) rfl)) rfl), (lwT_of (List.mem_of_getElem? (i := 41) rfl) rfl)⟩
set_option maxRecDepth 100000 in
theorem ok_R_isPromise : VOk mR_isPromise 1 := ⟨⟨(lwT_of (tc_6 _ (List.mem_of_getElem? (i := 120) rfl)) rfl), (lwT_of (tc_1 _ (List.mem_of_getElem? (i := 17) rfl)) rfl), ⟨by decide +kernel, by decide +kernel, by decide +kernel⟩, Nat.le_of_ble_eq_true rfl⟩, (lwT_of (tc_6 _ (List.mem_of_getElem? (i := 119) rfl)) rfl), (lwT_of (List.mem_of_getElem? (i := 43) rfl) rfl)⟩
set_option maxRecDepth 100000 in
theorem ok_R_isSaying : VOk mR_isSaying 1 := ⟨⟨(lwT_of (tc_6 _ (List.mem_of_getElem? (i := 140) rfl)) rfl), (lwT_of (tc_1 _ (List.mem_of_getElem? (i := 17) rfl)) rfl), ⟨by decide +kernel, by decide +kernel, by decide +kernel⟩, Nat.le_of_ble_eq_true rfl⟩, (lwT_of (tc_6 _ (List.mem_of_getElem? (i := 139) rfl)) rfl), (lwT_of (List.mem_of_getElem? (i := 45) rfl) rfl)⟩
set_option maxRecDepth 100000 in
theorem ok_R_far : VOk mR_far 3 := ⟨⟨(lwT_of (tc_6 _ (List.mem_of_getElem? (i := 64) rfl)) rfl), (lwT_of (tc_1 _ (List.mem_of_getElem? (i := 17) rfl)) rfl), ⟨by decide +kernel, by decide +kernel, by decide +kernel⟩, Nat.le_of_ble_eq_true rfl⟩, (lwT_of (tc_6 _ (List.mem_of_getElem? (i := 62) rfl)) rfl), (lwT_of (tc_6 _ (List.mem_of_getElem? (i := 63) rfl)) rfl)⟩
set_option maxRecDepth 100000 in
theorem ok_R_hush : VOk mR_hush 2 := ⟨⟨(lwT_of (tc_6 _ (List.mem_of_getElem? (i := 68) rfl)) rfl), (lwT_of (tc_1 _ (List.mem_of_getElem? (i := 17) rfl)) rfl), ⟨by decide +kernel, by decide +kernel, by decide +kernel⟩, Nat.le_of_ble_eq_true rfl⟩, (lwT_of (tc_6 _ (List.mem_of_getElem? (i := 66) rfl)) rfl), (lwT_of (tc_6 _ (List.mem_of_getElem? (i := 67) rfl)) rfl)⟩
set_option maxRecDepth 100000 in
theorem ok_R_stride : VOk mR_stride 1 := ⟨⟨(lwT_of (tc_6 _ (List.mem_of_getElem? (i := 72) rfl)) rfl), (lwT_of (tc_1 _ (List.mem_of_getElem? (i := 17) rfl)) rfl), ⟨by decide +kernel, by decide +kernel, by decide +kernel⟩, Nat.le_of_ble_eq_true rfl⟩, (lwT_of (tc_6 _ (List.mem_of_getElem? (i := 70) rfl)) rfl), (lwT_of (tc_6 _ (List.mem_of_getElem? (i := 71) rfl)) rfl)⟩
set_option maxRecDepth 100000 in
theorem ok_R_count : VOk mR_count 1 := ⟨⟨(lwT_of (tc_6 _ (List.mem_of_getElem? (i := 76) rfl)) rfl), (lwT_of (tc_1 _ (List.mem_of_getElem? (i := 17) rfl)) rfl), ⟨by decide +kernel, by decide +kernel, by decide +kernel⟩, Nat.le_of_ble_eq_true rfl⟩, (lwT_of (tc_6 _ (List.mem_of_getElem? (i := 74) rfl)) rfl), (lwT_of (tc_6 _ (List.mem_of_getElem? (i := 75) rfl)) rfl)⟩
set_option maxRecDepth 100000 in
theorem ok_R_isByte : SOk mR_isByte 1 := ⟨⟨(lwT_of (tc_6 _ (List.mem_of_getElem? (i := 83) rfl)) rfl), (lwT_of (tc_1 _ (List.mem_of_getElem? (i := 17) rfl)) rfl), ⟨by decide +kernel, by decide +kernel, by decide +kernel⟩, Nat.le_of_ble_eq_true rfl⟩, (lwT_of (tc_6 _ (List.mem_of_getElem? (i := 82) rfl)) rfl)⟩
set_option maxRecDepth 100000 in
theorem ok_R_feed : VOk mR_feed 6 := ⟨⟨(lwT_of (tc_6 _ (List.mem_of_getElem? (i := 80) rfl)) rfl), (lwT_of (tc_1 _ (List.mem_of_getElem? (i := 17) rfl)) rfl), ⟨by decide +kernel, by decide +kernel, by decide +kernel⟩, Nat.le_of_ble_eq_true rfl⟩, (lwT_of (tc_6 _ (List.mem_of_getElem? (i := 78) rfl)) rfl), (lwT_of (tc_6 _ (List.mem_of_getElem? (i := 79) rfl)) rfl)⟩
set_option maxRecDepth 100000 in
theorem ok_R_wordFrom : VOk mR_wordFrom 2 := ⟨⟨(lwT_of (tc_5 _ (List.mem_of_getElem? (i := 78) rfl)) rfl), (lwT_of (tc_1 _ (List.mem_of_getElem? (i := 17) rfl)) rfl), ⟨by decide +kernel, by decide +kernel, by decide +kernel⟩, Nat.le_of_ble_eq_true rfl⟩, (lwT_of (tc_5 _ (List.mem_of_getElem? (i := 77) rfl)) rfl), (lwT_of (List.mem_of_getElem? (i := 33) rfl) rfl)⟩
set_option maxRecDepth 100000 in
theorem ok_R_next : VOk mR_next 0 := ⟨⟨(lwT_of (tc_5 _ (List.mem_of_getElem? (i := 71) rfl)) rfl), (lwT_of (tc_1 _ (List.mem_of_getElem? (i := 17) rfl)) rfl), ⟨by decide +kernel, by decide +kernel, by decide +kernel⟩, Nat.le_of_ble_eq_true rfl⟩, (lwT_of (tc_5 _ (List.mem_of_getElem? (i := 70) rfl)) rfl), (lwT_of (List.mem_of_getElem? (i := 32) rfl) rfl)⟩
set_option maxRecDepth 100000 in
theorem ok_R_rank : SOk mR_rank 1 := ⟨⟨(lwT_of (tc_5 _ (List.mem_of_getElem? (i := 94) rfl)) rfl), (lwT_of (tc_1 _ (List.mem_of_getElem? (i := 17) rfl)) rfl), ⟨by decide +kernel, by decide +kernel, by decide +kernel⟩, Nat.le_of_ble_eq_true rfl⟩, (lwT_of (tc_5 _ (List.mem_of_getElem? (i := 93) rfl)) rfl)⟩
set_option maxRecDepth 100000 in
theorem ok_R_puts : VOk mR_puts 1 := ⟨⟨(lwT_of (tc_5 _ (List.mem_of_getElem? (i := 87) rfl)) rfl), (lwT_of (tc_1 _ (List.mem_of_getElem? (i := 17) rfl)) rfl), ⟨by decide +kernel, by decide +kernel, by decide +kernel⟩, Nat.le_of_ble_eq_true rfl⟩, (lwT_of (tc_5 _ (List.mem_of_getElem? (i := 86) rfl)) rfl), (lwT_of (List.mem_of_getElem? (i := 35) rfl) rfl)⟩
set_option maxRecDepth 100000 in
theorem ok_R_unwinds : VOk mR_unwinds 1 := ⟨⟨(lwT_of (tc_5 _ (List.mem_of_getElem? (i := 91) rfl)) rfl), (lwT_of (tc_1 _ (List.mem_of_getElem? (i := 17) rfl)) rfl), ⟨by decide +kernel, by decide +kernel, by decide +kernel⟩, Nat.le_of_ble_eq_true rfl⟩, (lwT_of (tc_5 _ (List.mem_of_getElem? (i := 90) rfl)) rfl), (lwT_of (List.mem_of_getElem? (i := 36) rfl) rfl)⟩
set_option maxRecDepth 100000 in
theorem ok_R_holds : VOk mR_holds 1 := ⟨⟨(lwT_of (tc_5 _ (List.mem_of_getElem? (i := 102) rfl)) rfl), (lwT_of (tc_1 _ (List.mem_of_getElem? (i := 17) rfl)) rfl), ⟨by decide +kernel, by decide +kernel, by decide +kernel⟩, Nat.le_of_ble_eq_true rfl⟩, (lwT_of (tc_5 _ (List.mem_of_getElem? (i := 101) rfl)) rfl), (lwT_of (List.mem_of_getElem? (i := 38) rfl) rfl)⟩
set_option maxRecDepth 100000 in
theorem ok_R_opensOne : VOk mR_opensOne 1 := ⟨⟨(lwT_of (tc_5 _ (List.mem_of_getElem? (i := 98) rfl)) rfl), (lwT_of (tc_1 _ (List.mem_of_getElem? (i := 17) rfl)) rfl), ⟨by decide +kernel, by decide +kernel, by decide +kernel⟩, Nat.le_of_ble_eq_true rfl⟩, (lwT_of (tc_5 _ (List.mem_of_getElem? (i := 97) rfl)) rfl), (lwT_of (List.mem_of_getElem? (i := 37) rfl) rfl)⟩
set_option maxRecDepth 100000 in
theorem ok_R_between : VOk mR_between 1 := ⟨⟨(lwT_of (tc_5 _ (List.mem_of_getElem? (i := 110) rfl)) rfl), (lwT_of (tc_1 _ (List.mem_of_getElem? (i := 17) rfl)) rfl), ⟨by decide +kernel, by decide +kernel, by decide +kernel⟩, Nat.le_of_ble_eq_true rfl⟩, (lwT_of (tc_5 _ (List.mem_of_getElem? (i := 109) rfl)) rfl), (lwT_of (List.mem_of_getElem? (i := 40) rfl) rfl)⟩
set_option maxRecDepth 100000 in
theorem ok_R_signOf : VOk mR_signOf 0 := ⟨⟨(lwT_of (tc_5 _ (List.mem_of_getElem? (i := 106) rfl)) rfl), (lwT_of (tc_1 _ (List.mem_of_getElem? (i := 17) rfl)) rfl), ⟨by decide +kernel, by decide +kernel, by decide +kernel⟩, Nat.le_of_ble_eq_true rfl⟩, (lwT_of (tc_5 _ (List.mem_of_getElem? (i := 105) rfl)) rfl), (lwT_of (List.mem_of_getElem? (i := 39) rfl) rfl)⟩
set_option maxRecDepth 100000 in
theorem ok_R_eRead : VOk mR_eRead 0 := ⟨⟨(lwT_of (tc_5 _ (List.mem_of_getElem? (i := 82) rfl)) rfl), (lwT_of (tc_1 _ (List.mem_of_getElem? (i := 17) rfl)) rfl), ⟨by decide +kernel, by decide +kernel, by decide +kernel⟩, Nat.le_of_ble_eq_true rfl⟩, (lwT_of (tc_5 _ (List.mem_of_getElem? (i := 81) rfl)) rfl), (lwT_of (List.mem_of_getElem? (i := 34) rfl) rfl)⟩
set_option maxRecDepth 100000 in
theorem ok_R_text : VOk mR_text 0 := ⟨⟨(lwT_of (tc_5 _ (List.mem_of_getElem? (i := 67) rfl)) rfl), (lwT_of (tc_1 _ (List.mem_of_getElem? (i := 17) rfl)) rfl), ⟨by decide +kernel, by decide +kernel, by decide +kernel⟩, Nat.le_of_ble_eq_true rfl⟩, (lwT_of (tc_5 _ (List.mem_of_getElem? (i := 65) rfl)) rfl), (lwT_of (tc_5 _ (List.mem_of_getElem? (i := 66) rfl)) rfl)⟩
set_option maxRecDepth 100000 in
theorem ok_R_two : SOk mR_two 3 := ⟨⟨(lwT_of (tc_6 _ (List.mem_of_getElem? (i := 159) rfl)) rfl), (lwT_of (tc_1 _ (List.mem_of_getElem? (i := 17) rfl)) rfl), ⟨by decide +kernel, by decide +kernel, by decide +kernel⟩, Nat.le_of_ble_eq_true rfl⟩, (lwT_of (tc_6 _ (List.mem_of_getElem? (i := 158) rfl)) rfl)⟩
set_option maxRecDepth 100000 in
theorem ok_R_worthOf : VOk mR_worthOf 1 := ⟨⟨(lwT_of (tc_6 _ (List.mem_of_getElem? (i := 156) rfl)) rfl), (lwT_of (tc_1 _ (List.mem_of_getElem? (i := 17) rfl)) rfl), ⟨by decide +kernel, by decide +kernel, by decide +kernel⟩, Nat.le_of_ble_eq_true rfl⟩, (lwT_of (tc_6 _ (List.mem_of_getElem? (i := 155) rfl)) rfl), (lwT_of (List.mem_of_getElem? (i := 48) rfl) rfl)⟩
set_option maxRecDepth 100000 in
theorem ok_R_names : VOk mR_names 6 := ⟨⟨(lwT_of (tc_6 _ (List.mem_of_getElem? (i := 152) rfl)) rfl), (lwT_of (tc_1 _ (List.mem_of_getElem? (i := 17) rfl)) rfl), ⟨by decide +kernel, by decide +kernel, by decide +kernel⟩, Nat.le_of_ble_eq_true rfl⟩, (lwT_of (tc_6 _ (List.mem_of_getElem? (i := 151) rfl)) rfl), (lwT_of (List.mem_of_getElem? (i := 47) rfl) rfl)⟩
set_option maxRecDepth 100000 in
theorem ok_R_force : VOk mR_force 1 := ⟨⟨(lwT_of (tc_6 _ (List.mem_of_getElem? (i := 88) rfl)) rfl), (lwT_of (tc_1 _ (List.mem_of_getElem? (i := 17) rfl)) rfl), ⟨by decide +kernel, by decide +kernel, by decide +kernel⟩, Nat.le_of_ble_eq_true rfl⟩, (lwT_of (tc_6 _ (List.mem_of_getElem? (i := 86) rfl)) rfl), (lwT_of (tc_6 _ (List.mem_of_getElem? (i := 87) rfl)) rfl)⟩
set_option maxRecDepth 100000 in
theorem ok_R_person : VOk mR_person 4 := ⟨⟨(lwT_of (tc_6 _ (List.mem_of_getElem? (i := 92) rfl)) rfl), (lwT_of (tc_1 _ (List.mem_of_getElem? (i := 17) rfl)) rfl), ⟨by decide +kernel, by decide +kernel, by decide +kernel⟩, Nat.le_of_ble_eq_true rfl⟩, (lwT_of (tc_6 _ (List.mem_of_getElem? (i := 90) rfl)) rfl), (lwT_of (tc_6 _ (List.mem_of_getElem? (i := 91) rfl)) rfl)⟩
set_option maxRecDepth 100000 in
theorem ok_R_move : VOk mR_move 2 := ⟨⟨(lwT_of (tc_6 _ (List.mem_of_getElem? (i := 96) rfl)) rfl), (lwT_of (tc_1 _ (List.mem_of_getElem? (i := 17) rfl)) rfl), ⟨by decide +kernel, by decide +kernel, by decide +kernel⟩, Nat.le_of_ble_eq_true rfl⟩, (lwT_of (tc_6 _ (List.mem_of_getElem? (i := 94) rfl)) rfl), (lwT_of (tc_6 _ (List.mem_of_getElem? (i := 95) rfl)) rfl)⟩
set_option maxRecDepth 100000 in
theorem ok_R_whereIs : VOk mR_whereIs 2 := ⟨⟨(lwT_of (tc_6 _ (List.mem_of_getElem? (i := 108) rfl)) rfl), (lwT_of (tc_1 _ (List.mem_of_getElem? (i := 17) rfl)) rfl), ⟨by decide +kernel, by decide +kernel, by decide +kernel⟩, Nat.le_of_ble_eq_true rfl⟩, (lwT_of (tc_6 _ (List.mem_of_getElem? (i := 107) rfl)) rfl), (lwT_of (List.mem_of_getElem? (i := 42) rfl) rfl)⟩
set_option maxRecDepth 100000 in
theorem ok_R_told : VOk mR_told 2 := ⟨⟨(lwT_of (tc_6 _ (List.mem_of_getElem? (i := 104) rfl)) rfl), (lwT_of (tc_1 _ (List.mem_of_getElem? (i := 17) rfl)) rfl), ⟨by decide +kernel, by decide +kernel, by decide +kernel⟩, Nat.le_of_ble_eq_true rfl⟩, (lwT_of (tc_6 _ (List.mem_of_getElem? (i := 102) rfl)) rfl), (lwT_of (tc_6 _ (List.mem_of_getElem? (i := 103) rfl)) rfl)⟩
set_option maxRecDepth 100000 in
theorem ok_R_promise : VOk mR_promise 4 := ⟨⟨(lwT_of (tc_6 _ (List.mem_of_getElem? (i := 112) rfl)) rfl), (lwT_of (tc_1 _ (List.mem_of_getElem? (i := 17) rfl)) rfl), ⟨by decide +kernel, by decide +kernel, by decide +kernel⟩, Nat.le_of_ble_eq_true rfl⟩, (lwT_of (tc_6 _ (List.mem_of_getElem? (i := 110) rfl)) rfl), (lwT_of (tc_6 _ (List.mem_of_getElem? (i := 111) rfl)) rfl)⟩
set_option maxRecDepth 100000 in
theorem ok_R_promised : VOk mR_promised 2 := ⟨⟨(lwT_of (tc_6 _ (List.mem_of_getElem? (i := 116) rfl)) rfl), (lwT_of (tc_1 _ (List.mem_of_getElem? (i := 17) rfl)) rfl), ⟨by decide +kernel, by decide +kernel, by decide +kernel⟩, Nat.le_of_ble_eq_true rfl⟩, (lwT_of (tc_6 _ (List.mem_of_getElem? (i := 114) rfl)) rfl), (lwT_of (tc_6 _ (List.mem_of_getElem? (i := 115) rfl)) rfl)⟩
set_option maxRecDepth 100000 in
theorem ok_R_says : VOk mR_says 3 := ⟨⟨(lwT_of (tc_6 _ (List.mem_of_getElem? (i := 128) rfl)) rfl), (lwT_of (tc_1 _ (List.mem_of_getElem? (i := 17) rfl)) rfl), ⟨by decide +kernel, by decide +kernel, by decide +kernel⟩, Nat.le_of_ble_eq_true rfl⟩, (lwT_of (tc_6 _ (List.mem_of_getElem? (i := 127) rfl)) rfl), (lwT_of (List.mem_of_getElem? (i := 44) rfl) rfl)⟩
set_option maxRecDepth 100000 in
theorem ok_R_say : VOk mR_say 2 := ⟨⟨(lwT_of (tc_6 _ (List.mem_of_getElem? (i := 124) rfl)) rfl), (lwT_of (tc_1 _ (List.mem_of_getElem? (i := 17) rfl)) rfl), ⟨by decide +kernel, by decide +kernel, by decide +kernel⟩, Nat.le_of_ble_eq_true rfl⟩, (lwT_of (tc_6 _ (List.mem_of_getElem? (i := 122) rfl)) rfl), (lwT_of (tc_6 _ (List.mem_of_getElem? (i := 123) rfl)) rfl)⟩
set_option maxRecDepth 100000 in
theorem ok_R_unsay : VOk mR_unsay 0 := ⟨⟨(lwT_of (tc_6 _ (List.mem_of_getElem? (i := 132) rfl)) rfl), (lwT_of (tc_1 _ (List.mem_of_getElem? (i := 17) rfl)) rfl), ⟨by decide +kernel, by decide +kernel, by decide +kernel⟩, Nat.le_of_ble_eq_true rfl⟩, (lwT_of (tc_6 _ (List.mem_of_getElem? (i := 130) rfl)) rfl), (lwT_of (tc_6 _ (List.mem_of_getElem? (i := 131) rfl)) rfl)⟩
set_option maxRecDepth 100000 in
theorem ok_R_said : VOk mR_said 2 := ⟨⟨(lwT_of (tc_6 _ (List.mem_of_getElem? (i := 136) rfl)) rfl), (lwT_of (tc_1 _ (List.mem_of_getElem? (i := 17) rfl)) rfl), ⟨by decide +kernel, by decide +kernel, by decide +kernel⟩, Nat.le_of_ble_eq_true rfl⟩, (lwT_of (tc_6 _ (List.mem_of_getElem? (i := 134) rfl)) rfl), (lwT_of (tc_6 _ (List.mem_of_getElem? (i := 135) rfl)) rfl)⟩
set_option maxRecDepth 100000 in
theorem ok_R_hearsOf : VOk mR_hearsOf 2 := ⟨⟨(lwT_of (tc_6 _ (List.mem_of_getElem? (i := 148) rfl)) rfl), (lwT_of (tc_1 _ (List.mem_of_getElem? (i := 17) rfl)) rfl), ⟨by decide +kernel, by decide +kernel, by decide +kernel⟩, Nat.le_of_ble_eq_true rfl⟩, (lwT_of (tc_6 _ (List.mem_of_getElem? (i := 147) rfl)) rfl), (lwT_of (List.mem_of_getElem? (i := 46) rfl) rfl)⟩
set_option maxRecDepth 100000 in
theorem ok_R_hears : VOk mR_hears 2 := ⟨⟨(lwT_of (tc_6 _ (List.mem_of_getElem? (i := 144) rfl)) rfl), (lwT_of (tc_1 _ (List.mem_of_getElem? (i := 17) rfl)) rfl), ⟨by decide +kernel, by decide +kernel, by decide +kernel⟩, Nat.le_of_ble_eq_true rfl⟩, (lwT_of (tc_6 _ (List.mem_of_getElem? (i := 142) rfl)) rfl), (lwT_of (tc_6 _ (List.mem_of_getElem? (i := 143) rfl)) rfl)⟩
set_option maxRecDepth 100000 in
theorem ok_R_isClear : VOk mR_isClear 2 := ⟨⟨(lwT_of (tc_6 _ (List.mem_of_getElem? (i := 174) rfl)) rfl), (lwT_of (tc_1 _ (List.mem_of_getElem? (i := 17) rfl)) rfl), ⟨by decide +kernel, by decide +kernel, by decide +kernel⟩, Nat.le_of_ble_eq_true rfl⟩, (lwT_of (tc_6 _ (List.mem_of_getElem? (i := 173) rfl)) rfl), (lwT_of (List.mem_of_getElem? (i := 50) rfl) rfl)⟩
set_option maxRecDepth 100000 in
theorem ok_R_clearTo : VOk mR_clearTo 1 := ⟨⟨(lwT_of (tc_6 _ (List.mem_of_getElem? (i := 170) rfl)) rfl), (lwT_of (tc_1 _ (List.mem_of_getElem? (i := 17) rfl)) rfl), ⟨by decide +kernel, by decide +kernel, by decide +kernel⟩, Nat.le_of_ble_eq_true rfl⟩, (lwT_of (tc_6 _ (List.mem_of_getElem? (i := 169) rfl)) rfl), (lwT_of (List.mem_of_getElem? (i := 49) rfl) rfl)⟩
set_option maxRecDepth 100000 in
theorem ok_R_heard : VOk mR_heard 1 := ⟨⟨(lwT_of (tc_6 _ (List.mem_of_getElem? (i := 166) rfl)) rfl), (lwT_of (tc_1 _ (List.mem_of_getElem? (i := 17) rfl)) rfl), ⟨by decide +kernel, by decide +kernel, by decide +kernel⟩, Nat.le_of_ble_eq_true rfl⟩, (lwT_of (tc_6 _ (List.mem_of_getElem? (i := 164) rfl)) rfl), (lwT_of (tc_6 _ (List.mem_of_getElem? (i := 165) rfl)) rfl)⟩
set_option maxRecDepth 100000 in
theorem ok_R_nobody : VOk mR_nobody 0 := ⟨⟨(lwT_of (tc_6 _ (List.mem_of_getElem? (i := 181) rfl)) rfl), (lwT_of (tc_1 _ (List.mem_of_getElem? (i := 17) rfl)) rfl), ⟨by decide +kernel, by decide +kernel, by decide +kernel⟩, Nat.le_of_ble_eq_true rfl⟩, (lwT_of (tc_6 _ (List.mem_of_getElem? (i := 179) rfl)) rfl), (lwT_of (tc_6 _ (List.mem_of_getElem? (i := 180) rfl)) rfl)⟩
set_option maxRecDepth 100000 in
theorem ok_R_can : VOk mR_can 2 := ⟨⟨(lwT_of (tc_6 _ (List.mem_of_getElem? (i := 200) rfl)) rfl), (lwT_of (tc_1 _ (List.mem_of_getElem? (i := 17) rfl)) rfl), ⟨by decide +kernel, by decide +kernel, by decide +kernel⟩, Nat.le_of_ble_eq_true rfl⟩, (lwT_of (tc_6 _ (List.mem_of_getElem? (i := 199) rfl)) rfl), (lwT_of (List.mem_of_getElem? (i := 53) rfl) rfl)⟩
set_option maxRecDepth 100000 in
theorem ok_R_ones : SOk mR_ones 1 := ⟨⟨(lwT_of (tc_6 _ (List.mem_of_getElem? (i := 196) rfl)) rfl), (lwT_of (tc_1 _ (List.mem_of_getElem? (i := 17) rfl)) rfl), ⟨by decide +kernel, by decide +kernel, by decide +kernel⟩, Nat.le_of_ble_eq_true rfl⟩, (lwT_of (tc_6 _ (List.mem_of_getElem? (i := 195) rfl)) rfl)⟩
set_option maxRecDepth 100000 in
theorem ok_R_owesBy : VOk mR_owesBy 1 := ⟨⟨(lwT_of (tc_6 _ (List.mem_of_getElem? (i := 193) rfl)) rfl), (lwT_of (tc_1 _ (List.mem_of_getElem? (i := 17) rfl)) rfl), ⟨by decide +kernel, by decide +kernel, by decide +kernel⟩, Nat.le_of_ble_eq_true rfl⟩, (lwT_of (tc_6 _ (List.mem_of_getElem? (i := 192) rfl)) rfl), (lwT_of (List.mem_of_getElem? (i := 52) rfl) rfl)⟩
set_option maxRecDepth 100000 in
theorem ok_R_strikes : VOk mR_strikes 1 := ⟨⟨(lwT_of (tc_6 _ (List.mem_of_getElem? (i := 204) rfl)) rfl), (lwT_of (tc_1 _ (List.mem_of_getElem? (i := 17) rfl)) rfl), ⟨by decide +kernel, by decide +kernel, by decide +kernel⟩, Nat.le_of_ble_eq_true rfl⟩, (lwT_of (tc_6 _ (List.mem_of_getElem? (i := 203) rfl)) rfl), (lwT_of (List.mem_of_getElem? (i := 54) rfl) rfl)⟩
set_option maxRecDepth 100000 in
theorem ok_R_fits : VOk mR_fits 1 := ⟨⟨(lwT_of (tc_6 _ (List.mem_of_getElem? (i := 208) rfl)) rfl), (lwT_of (tc_1 _ (List.mem_of_getElem? (i := 17) rfl)) rfl), ⟨by decide +kernel, by decide +kernel, by decide +kernel⟩, Nat.le_of_ble_eq_true rfl⟩, (lwT_of (tc_6 _ (List.mem_of_getElem? (i := 207) rfl)) rfl), (lwT_of (List.mem_of_getElem? (i := 55) rfl) rfl)⟩
set_option maxRecDepth 100000 in
theorem ok_R_owes : VOk mR_owes 1 := ⟨⟨(lwT_of (tc_6 _ (List.mem_of_getElem? (i := 189) rfl)) rfl), (lwT_of (tc_1 _ (List.mem_of_getElem? (i := 17) rfl)) rfl), ⟨by decide +kernel, by decide +kernel, by decide +kernel⟩, Nat.le_of_ble_eq_true rfl⟩, (lwT_of (tc_6 _ (List.mem_of_getElem? (i := 188) rfl)) rfl), (lwT_of (List.mem_of_getElem? (i := 51) rfl) rfl)⟩
set_option maxRecDepth 100000 in
theorem ok_R_owe : VOk mR_owe 2 := ⟨⟨(lwT_of (tc_6 _ (List.mem_of_getElem? (i := 185) rfl)) rfl), (lwT_of (tc_1 _ (List.mem_of_getElem? (i := 17) rfl)) rfl), ⟨by decide +kernel, by decide +kernel, by decide +kernel⟩, Nat.le_of_ble_eq_true rfl⟩, (lwT_of (tc_6 _ (List.mem_of_getElem? (i := 183) rfl)) rfl), (lwT_of (tc_6 _ (List.mem_of_getElem? (i := 184) rfl)) rfl)⟩
set_option maxRecDepth 100000 in
theorem ok_R_owedBy : VOk mR_owedBy 1 := ⟨⟨(lwT_of (tc_6 _ (List.mem_of_getElem? (i := 216) rfl)) rfl), (lwT_of (tc_1 _ (List.mem_of_getElem? (i := 17) rfl)) rfl), ⟨by decide +kernel, by decide +kernel, by decide +kernel⟩, Nat.le_of_ble_eq_true rfl⟩, (lwT_of (tc_6 _ (List.mem_of_getElem? (i := 215) rfl)) rfl), (lwT_of (List.mem_of_getElem? (i := 56) rfl) rfl)⟩
set_option maxRecDepth 100000 in
theorem ok_R_painOf : VOk mR_painOf 1 := ⟨⟨(lwT_of (tc_6 _ (List.mem_of_getElem? (i := 220) rfl)) rfl), (lwT_of (tc_1 _ (List.mem_of_getElem? (i := 17) rfl)) rfl), ⟨by decide +kernel, by decide +kernel, by decide +kernel⟩, Nat.le_of_ble_eq_true rfl⟩, (lwT_of (tc_6 _ (List.mem_of_getElem? (i := 219) rfl)) rfl), (lwT_of (List.mem_of_getElem? (i := 57) rfl) rfl)⟩
set_option maxRecDepth 100000 in
theorem ok_R_load : VOk mR_load 2 := ⟨⟨(lwT_of (tc_6 _ (List.mem_of_getElem? (i := 212) rfl)) rfl), (lwT_of (tc_1 _ (List.mem_of_getElem? (i := 17) rfl)) rfl), ⟨by decide +kernel, by decide +kernel, by decide +kernel⟩, Nat.le_of_ble_eq_true rfl⟩, (lwT_of (tc_6 _ (List.mem_of_getElem? (i := 210) rfl)) rfl), (lwT_of (tc_6 _ (List.mem_of_getElem? (i := 211) rfl)) rfl)⟩
set_option maxRecDepth 100000 in
theorem ok_R_doneOf : VOk mR_doneOf 1 := ⟨⟨(lwT_of (tc_6 _ (List.mem_of_getElem? (i := 228) rfl)) rfl), (lwT_of (tc_1 _ (List.mem_of_getElem? (i := 17) rfl)) rfl), ⟨by decide +kernel, by decide +kernel, by decide +kernel⟩, Nat.le_of_ble_eq_true rfl⟩, (lwT_of (tc_6 _ (List.mem_of_getElem? (i := 227) rfl)) rfl), (lwT_of (List.mem_of_getElem? (i := 58) rfl) rfl)⟩
set_option maxRecDepth 100000 in
theorem ok_R_isKept : VOk mR_isKept 1 := ⟨⟨(lwT_of (tc_7 _ (List.mem_of_getElem? (i := 0) rfl)) rfl), (lwT_of (tc_1 _ (List.mem_of_getElem? (i := 17) rfl)) rfl), ⟨by decide +kernel, by decide +kernel, by decide +kernel⟩, Nat.le_of_ble_eq_true rfl⟩, (lwT_of (tc_6 _ (List.mem_of_getElem? (i := 239) rfl)) rfl), (lwT_of (List.mem_of_getElem? (i := 60) rfl) rfl)⟩
set_option maxRecDepth 100000 in
theorem ok_R_done : VOk mR_done 1 := ⟨⟨(lwT_of (tc_6 _ (List.mem_of_getElem? (i := 224) rfl)) rfl), (lwT_of (tc_1 _ (List.mem_of_getElem? (i := 17) rfl)) rfl), ⟨by decide +kernel, by decide +kernel, by decide +kernel⟩, Nat.le_of_ble_eq_true rfl⟩, (lwT_of (tc_6 _ (List.mem_of_getElem? (i := 222) rfl)) rfl), (lwT_of (tc_6 _ (List.mem_of_getElem? (i := 223) rfl)) rfl)⟩
set_option maxRecDepth 100000 in
theorem ok_R_keptNow : VOk mR_keptNow 0 := ⟨⟨(lwT_of (tc_6 _ (List.mem_of_getElem? (i := 236) rfl)) rfl), (lwT_of (tc_1 _ (List.mem_of_getElem? (i := 17) rfl)) rfl), ⟨by decide +kernel, by decide +kernel, by decide +kernel⟩, Nat.le_of_ble_eq_true rfl⟩, (lwT_of (tc_6 _ (List.mem_of_getElem? (i := 235) rfl)) rfl), (lwT_of (List.mem_of_getElem? (i := 59) rfl) rfl)⟩
set_option maxRecDepth 100000 in
theorem ok_R_worthNow : VOk mR_worthNow 0 := ⟨⟨(lwT_of (tc_7 _ (List.mem_of_getElem? (i := 4) rfl)) rfl), (lwT_of (tc_1 _ (List.mem_of_getElem? (i := 17) rfl)) rfl), ⟨by decide +kernel, by decide +kernel, by decide +kernel⟩, Nat.le_of_ble_eq_true rfl⟩, (lwT_of (tc_7 _ (List.mem_of_getElem? (i := 3) rfl)) rfl), (lwT_of (List.mem_of_getElem? (i := 61) rfl) rfl)⟩
set_option maxRecDepth 100000 in
theorem ok_R_painNow : VOk mR_painNow 0 := ⟨⟨(lwT_of (tc_7 _ (List.mem_of_getElem? (i := 8) rfl)) rfl), (lwT_of (tc_1 _ (List.mem_of_getElem? (i := 17) rfl)) rfl), ⟨by decide +kernel, by decide +kernel, by decide +kernel⟩, Nat.le_of_ble_eq_true rfl⟩, (lwT_of (tc_7 _ (List.mem_of_getElem? (i := 7) rfl)) rfl), (lwT_of (List.mem_of_getElem? (i := 62) rfl) rfl)⟩
set_option maxRecDepth 100000 in
theorem ok_R_sum : VOk mR_sum 1 := ⟨⟨(lwT_of (tc_6 _ (List.mem_of_getElem? (i := 232) rfl)) rfl), (lwT_of (tc_1 _ (List.mem_of_getElem? (i := 17) rfl)) rfl), ⟨by decide +kernel, by decide +kernel, by decide +kernel⟩, Nat.le_of_ble_eq_true rfl⟩, (lwT_of (tc_6 _ (List.mem_of_getElem? (i := 230) rfl)) rfl), (lwT_of (tc_6 _ (List.mem_of_getElem? (i := 231) rfl)) rfl)⟩
set_option maxRecDepth 100000 in
theorem ok_R_wayTo : VOk mR_wayTo 1 := ⟨⟨(lwT_of (tc_7 _ (List.mem_of_getElem? (i := 16) rfl)) rfl), (lwT_of (tc_1 _ (List.mem_of_getElem? (i := 17) rfl)) rfl), ⟨by decide +kernel, by decide +kernel, by decide +kernel⟩, Nat.le_of_ble_eq_true rfl⟩, (lwT_of (tc_7 _ (List.mem_of_getElem? (i := 15) rfl)) rfl), (lwT_of (List.mem_of_getElem? (i := 63) rfl) rfl)⟩
set_option maxRecDepth 100000 in
theorem ok_R_judge : VOk mR_judge 0 := ⟨⟨(lwT_of (tc_7 _ (List.mem_of_getElem? (i := 12) rfl)) rfl), (lwT_of (tc_1 _ (List.mem_of_getElem? (i := 17) rfl)) rfl), ⟨by decide +kernel, by decide +kernel, by decide +kernel⟩, Nat.le_of_ble_eq_true rfl⟩, (lwT_of (tc_7 _ (List.mem_of_getElem? (i := 10) rfl)) rfl), (lwT_of (tc_7 _ (List.mem_of_getElem? (i := 11) rfl)) rfl)⟩
set_option maxRecDepth 100000 in
theorem ok_R_walk : VOk mR_walk 0 := ⟨⟨(lwT_of (tc_7 _ (List.mem_of_getElem? (i := 20) rfl)) rfl), (lwT_of (tc_1 _ (List.mem_of_getElem? (i := 17) rfl)) rfl), ⟨by decide +kernel, by decide +kernel, by decide +kernel⟩, Nat.le_of_ble_eq_true rfl⟩, (lwT_of (tc_7 _ (List.mem_of_getElem? (i := 18) rfl)) rfl), (lwT_of (tc_7 _ (List.mem_of_getElem? (i := 19) rfl)) rfl)⟩
set_option maxRecDepth 100000 in
theorem ok_R_owesWith : VOk mR_owesWith 2 := ⟨⟨(lwT_of (tc_7 _ (List.mem_of_getElem? (i := 31) rfl)) rfl), (lwT_of (tc_1 _ (List.mem_of_getElem? (i := 17) rfl)) rfl), ⟨by decide +kernel, by decide +kernel, by decide +kernel⟩, Nat.le_of_ble_eq_true rfl⟩, (lwT_of (tc_7 _ (List.mem_of_getElem? (i := 30) rfl)) rfl), (lwT_of (List.mem_of_getElem? (i := 64) rfl) rfl)⟩
set_option maxRecDepth 100000 in
theorem ok_R_isHow : SOk mR_isHow 1 := ⟨⟨(lwT_of (tc_7 _ (List.mem_of_getElem? (i := 27) rfl)) rfl), (lwT_of (tc_1 _ (List.mem_of_getElem? (i := 17) rfl)) rfl), ⟨by decide +kernel, by decide +kernel, by decide +kernel⟩, Nat.le_of_ble_eq_true rfl⟩, (lwT_of (tc_7 _ (List.mem_of_getElem? (i := 26) rfl)) rfl)⟩
set_option maxRecDepth 100000 in
theorem ok_R_best : VOk mR_best 2 := ⟨⟨(lwT_of (tc_7 _ (List.mem_of_getElem? (i := 24) rfl)) rfl), (lwT_of (tc_1 _ (List.mem_of_getElem? (i := 17) rfl)) rfl), ⟨by decide +kernel, by decide +kernel, by decide +kernel⟩, Nat.le_of_ble_eq_true rfl⟩, (lwT_of (tc_7 _ (List.mem_of_getElem? (i := 22) rfl)) rfl), (lwT_of (tc_7 _ (List.mem_of_getElem? (i := 23) rfl)) rfl)⟩
set_option maxRecDepth 100000 in
theorem ok_R_foe : VOk mR_foe 3 := ⟨⟨(lwT_of (tc_7 _ (List.mem_of_getElem? (i := 35) rfl)) rfl), (lwT_of (tc_1 _ (List.mem_of_getElem? (i := 17) rfl)) rfl), ⟨by decide +kernel, by decide +kernel, by decide +kernel⟩, Nat.le_of_ble_eq_true rfl⟩, (lwT_of (tc_7 _ (List.mem_of_getElem? (i := 33) rfl)) rfl), (lwT_of (tc_7 _ (List.mem_of_getElem? (i := 34) rfl)) rfl)⟩
set_option maxRecDepth 100000 in
theorem ok_R_loud : VOk mR_loud 3 := ⟨⟨(lwT_of (tc_7 _ (List.mem_of_getElem? (i := 39) rfl)) rfl), (lwT_of (tc_1 _ (List.mem_of_getElem? (i := 17) rfl)) rfl), ⟨by decide +kernel, by decide +kernel, by decide +kernel⟩, Nat.le_of_ble_eq_true rfl⟩, (lwT_of (tc_7 _ (List.mem_of_getElem? (i := 37) rfl)) rfl), (lwT_of (tc_7 _ (List.mem_of_getElem? (i := 38) rfl)) rfl)⟩
set_option maxRecDepth 100000 in
theorem ok_R_spare : VOk mR_spare 0 := ⟨⟨(lwT_of (tc_7 _ (List.mem_of_getElem? (i := 43) rfl)) rfl), (lwT_of (tc_1 _ (List.mem_of_getElem? (i := 17) rfl)) rfl), ⟨by decide +kernel, by decide +kernel, by decide +kernel⟩, Nat.le_of_ble_eq_true rfl⟩, (lwT_of (tc_7 _ (List.mem_of_getElem? (i := 41) rfl)) rfl), (lwT_of (tc_7 _ (List.mem_of_getElem? (i := 42) rfl)) rfl)⟩
set_option maxRecDepth 100000 in
theorem ok_R_shares : VOk mR_shares 1 := ⟨⟨(lwT_of (tc_7 _ (List.mem_of_getElem? (i := 51) rfl)) rfl), (lwT_of (tc_1 _ (List.mem_of_getElem? (i := 17) rfl)) rfl), ⟨by decide +kernel, by decide +kernel, by decide +kernel⟩, Nat.le_of_ble_eq_true rfl⟩, (lwT_of (tc_7 _ (List.mem_of_getElem? (i := 50) rfl)) rfl), (lwT_of (List.mem_of_getElem? (i := 65) rfl) rfl)⟩
set_option maxRecDepth 100000 in
theorem ok_R_even : VOk mR_even 2 := ⟨⟨(lwT_of (tc_7 _ (List.mem_of_getElem? (i := 47) rfl)) rfl), (lwT_of (tc_1 _ (List.mem_of_getElem? (i := 17) rfl)) rfl), ⟨by decide +kernel, by decide +kernel, by decide +kernel⟩, Nat.le_of_ble_eq_true rfl⟩, (lwT_of (tc_7 _ (List.mem_of_getElem? (i := 45) rfl)) rfl), (lwT_of (tc_7 _ (List.mem_of_getElem? (i := 46) rfl)) rfl)⟩
set_option maxRecDepth 100000 in
theorem ok_R_hardest : VOk mR_hardest 1 := ⟨⟨(lwT_of (tc_7 _ (List.mem_of_getElem? (i := 55) rfl)) rfl), (lwT_of (tc_1 _ (List.mem_of_getElem? (i := 17) rfl)) rfl), ⟨by decide +kernel, by decide +kernel, by decide +kernel⟩, Nat.le_of_ble_eq_true rfl⟩, (lwT_of (tc_7 _ (List.mem_of_getElem? (i := 53) rfl)) rfl), (lwT_of (tc_7 _ (List.mem_of_getElem? (i := 54) rfl)) rfl)⟩
set_option maxRecDepth 100000 in
theorem ok_R_owedAt : VOk mR_owedAt 2 := ⟨⟨(lwT_of (tc_7 _ (List.mem_of_getElem? (i := 67) rfl)) rfl), (lwT_of (tc_1 _ (List.mem_of_getElem? (i := 17) rfl)) rfl), ⟨by decide +kernel, by decide +kernel, by decide +kernel⟩, Nat.le_of_ble_eq_true rfl⟩, (lwT_of (tc_7 _ (List.mem_of_getElem? (i := 66) rfl)) rfl), (lwT_of (List.mem_of_getElem? (i := 67) rfl) rfl)⟩
set_option maxRecDepth 100000 in
theorem ok_R_goesTo : VOk mR_goesTo 2 := ⟨⟨(lwT_of (tc_7 _ (List.mem_of_getElem? (i := 63) rfl)) rfl), (lwT_of (tc_1 _ (List.mem_of_getElem? (i := 17) rfl)) rfl), ⟨by decide +kernel, by decide +kernel, by decide +kernel⟩, Nat.le_of_ble_eq_true rfl⟩, (lwT_of (tc_7 _ (List.mem_of_getElem? (i := 62) rfl)) rfl), (lwT_of (List.mem_of_getElem? (i := 66) rfl) rfl)⟩
set_option maxRecDepth 100000 in
theorem ok_R_flee : VOk mR_flee 2 := ⟨⟨(lwT_of (tc_7 _ (List.mem_of_getElem? (i := 59) rfl)) rfl), (lwT_of (tc_1 _ (List.mem_of_getElem? (i := 17) rfl)) rfl), ⟨by decide +kernel, by decide +kernel, by decide +kernel⟩, Nat.le_of_ble_eq_true rfl⟩, (lwT_of (tc_7 _ (List.mem_of_getElem? (i := 57) rfl)) rfl), (lwT_of (tc_7 _ (List.mem_of_getElem? (i := 58) rfl)) rfl)⟩
set_option maxRecDepth 100000 in
theorem ok_R_send : VOk mR_send 2 := ⟨⟨(lwT_of (tc_7 _ (List.mem_of_getElem? (i := 71) rfl)) rfl), (lwT_of (tc_1 _ (List.mem_of_getElem? (i := 17) rfl)) rfl), ⟨by decide +kernel, by decide +kernel, by decide +kernel⟩, Nat.le_of_ble_eq_true rfl⟩, (lwT_of (tc_7 _ (List.mem_of_getElem? (i := 69) rfl)) rfl), (lwT_of (tc_7 _ (List.mem_of_getElem? (i := 70) rfl)) rfl)⟩
set_option maxRecDepth 100000 in
theorem ok_R_rest : VOk mR_rest 1 := ⟨⟨(lwT_of (tc_7 _ (List.mem_of_getElem? (i := 75) rfl)) rfl), (lwT_of (tc_1 _ (List.mem_of_getElem? (i := 17) rfl)) rfl), ⟨by decide +kernel, by decide +kernel, by decide +kernel⟩, Nat.le_of_ble_eq_true rfl⟩, (lwT_of (tc_7 _ (List.mem_of_getElem? (i := 73) rfl)) rfl), (lwT_of (tc_7 _ (List.mem_of_getElem? (i := 74) rfl)) rfl)⟩
set_option maxRecDepth 100000 in
theorem ok_R_chanceOf : VOk mR_chanceOf 2 := ⟨⟨(lwT_of (tc_7 _ (List.mem_of_getElem? (i := 83) rfl)) rfl), (lwT_of (tc_1 _ (List.mem_of_getElem? (i := 17) rfl)) rfl), ⟨by decide +kernel, by decide +kernel, by decide +kernel⟩, Nat.le_of_ble_eq_true rfl⟩, (lwT_of (tc_7 _ (List.mem_of_getElem? (i := 82) rfl)) rfl), (lwT_of (List.mem_of_getElem? (i := 68) rfl) rfl)⟩
set_option maxRecDepth 100000 in
theorem ok_R_chance : VOk mR_chance 2 := ⟨⟨(lwT_of (tc_7 _ (List.mem_of_getElem? (i := 79) rfl)) rfl), (lwT_of (tc_1 _ (List.mem_of_getElem? (i := 17) rfl)) rfl), ⟨by decide +kernel, by decide +kernel, by decide +kernel⟩, Nat.le_of_ble_eq_true rfl⟩, (lwT_of (tc_7 _ (List.mem_of_getElem? (i := 77) rfl)) rfl), (lwT_of (tc_7 _ (List.mem_of_getElem? (i := 78) rfl)) rfl)⟩
set_option maxRecDepth 100000 in
theorem ok_R_lost : VOk mR_lost 1 := ⟨⟨(lwT_of (tc_7 _ (List.mem_of_getElem? (i := 89) rfl)) rfl), (lwT_of (tc_1 _ (List.mem_of_getElem? (i := 17) rfl)) rfl), ⟨by decide +kernel, by decide +kernel, by decide +kernel⟩, Nat.le_of_ble_eq_true rfl⟩, (lwT_of (tc_7 _ (List.mem_of_getElem? (i := 87) rfl)) rfl), (lwT_of (tc_7 _ (List.mem_of_getElem? (i := 88) rfl)) rfl)⟩
set_option maxRecDepth 100000 in
theorem ok_R_laws : VOk mR_laws 1 := ⟨⟨(lwT_of (tc_7 _ (List.mem_of_getElem? (i := 93) rfl)) rfl), (lwT_of (tc_1 _ (List.mem_of_getElem? (i := 17) rfl)) rfl), ⟨by decide +kernel, by decide +kernel, by decide +kernel⟩, Nat.le_of_ble_eq_true rfl⟩, (lwT_of (tc_7 _ (List.mem_of_getElem? (i := 91) rfl)) rfl), (lwT_of (tc_7 _ (List.mem_of_getElem? (i := 92) rfl)) rfl)⟩
set_option maxRecDepth 100000 in
theorem ok_R_sheetWrong : VOk mR_sheetWrong 1 := ⟨⟨(lwT_of (tc_7 _ (List.mem_of_getElem? (i := 101) rfl)) rfl), (lwT_of (tc_1 _ (List.mem_of_getElem? (i := 17) rfl)) rfl), ⟨by decide +kernel, by decide +kernel, by decide +kernel⟩, Nat.le_of_ble_eq_true rfl⟩, (lwT_of (tc_7 _ (List.mem_of_getElem? (i := 100) rfl)) rfl), (lwT_of (List.mem_of_getElem? (i := 69) rfl) rfl)⟩
set_option maxRecDepth 100000 in
theorem ok_R_unlike : VOk mR_unlike 1 := ⟨⟨(lwT_of (tc_7 _ (List.mem_of_getElem? (i := 105) rfl)) rfl), (lwT_of (tc_1 _ (List.mem_of_getElem? (i := 17) rfl)) rfl), ⟨by decide +kernel, by decide +kernel, by decide +kernel⟩, Nat.le_of_ble_eq_true rfl⟩, (lwT_of (tc_7 _ (List.mem_of_getElem? (i := 104) rfl)) rfl), (lwT_of (List.mem_of_getElem? (i := 70) rfl) rfl)⟩
set_option maxRecDepth 100000 in
theorem ok_R_witness : VOk mR_witness 1 := ⟨⟨(lwT_of (tc_7 _ (List.mem_of_getElem? (i := 97) rfl)) rfl), (lwT_of (tc_1 _ (List.mem_of_getElem? (i := 17) rfl)) rfl), ⟨by decide +kernel, by decide +kernel, by decide +kernel⟩, Nat.le_of_ble_eq_true rfl⟩, (lwT_of (tc_7 _ (List.mem_of_getElem? (i := 95) rfl)) rfl), (lwT_of (tc_7 _ (List.mem_of_getElem? (i := 96) rfl)) rfl)⟩
set_option maxRecDepth 100000 in
theorem ok_R_alibi : VOk mR_alibi 2 := ⟨⟨(lwT_of (tc_7 _ (List.mem_of_getElem? (i := 109) rfl)) rfl), (lwT_of (tc_1 _ (List.mem_of_getElem? (i := 17) rfl)) rfl), ⟨by decide +kernel, by decide +kernel, by decide +kernel⟩, Nat.le_of_ble_eq_true rfl⟩, (lwT_of (tc_7 _ (List.mem_of_getElem? (i := 107) rfl)) rfl), (lwT_of (tc_7 _ (List.mem_of_getElem? (i := 108) rfl)) rfl)⟩
set_option maxRecDepth 100000 in
theorem ok_R_draws : VOk mR_draws 1 := ⟨⟨(lwT_of (tc_7 _ (List.mem_of_getElem? (i := 118) rfl)) rfl), (lwT_of (tc_1 _ (List.mem_of_getElem? (i := 17) rfl)) rfl), ⟨by decide +kernel, by decide +kernel, by decide +kernel⟩, Nat.le_of_ble_eq_true rfl⟩, (lwT_of (tc_7 _ (List.mem_of_getElem? (i := 117) rfl)) rfl), (lwT_of (List.mem_of_getElem? (i := 71) rfl) rfl)⟩
set_option maxRecDepth 100000 in
theorem ok_R_drawn : VOk mR_drawn 2 := ⟨⟨(lwT_of (tc_7 _ (List.mem_of_getElem? (i := 113) rfl)) rfl), (lwT_of (tc_1 _ (List.mem_of_getElem? (i := 17) rfl)) rfl), ⟨by decide +kernel, by decide +kernel, by decide +kernel⟩, Nat.le_of_ble_eq_true rfl⟩, (lwT_of (tc_7 _ (List.mem_of_getElem? (i := 111) rfl)) rfl), (lwT_of (tc_7 _ (List.mem_of_getElem? (i := 112) rfl)) rfl)⟩
set_option maxRecDepth 100000 in
theorem ok_R_lowest : SOk mR_lowest 3 := ⟨⟨(lwT_of (tc_7 _ (List.mem_of_getElem? (i := 125) rfl)) rfl), (lwT_of (tc_1 _ (List.mem_of_getElem? (i := 17) rfl)) rfl), ⟨by decide +kernel, by decide +kernel, by decide +kernel⟩, Nat.le_of_ble_eq_true rfl⟩, (lwT_of (tc_7 _ (List.mem_of_getElem? (i := 124) rfl)) rfl)⟩
set_option maxRecDepth 100000 in
theorem ok_R_odds : VOk mR_odds 4 := ⟨⟨(lwT_of (tc_7 _ (List.mem_of_getElem? (i := 122) rfl)) rfl), (lwT_of (tc_1 _ (List.mem_of_getElem? (i := 17) rfl)) rfl), ⟨by decide +kernel, by decide +kernel, by decide +kernel⟩, Nat.le_of_ble_eq_true rfl⟩, (lwT_of (tc_7 _ (List.mem_of_getElem? (i := 120) rfl)) rfl), (lwT_of (tc_7 _ (List.mem_of_getElem? (i := 121) rfl)) rfl)⟩
set_option maxRecDepth 100000 in
theorem ok_R_image : VOk mR_image 0 := ⟨⟨(lwT_of (tc_7 _ (List.mem_of_getElem? (i := 129) rfl)) rfl), (lwT_of (tc_1 _ (List.mem_of_getElem? (i := 17) rfl)) rfl), ⟨by decide +kernel, by decide +kernel, by decide +kernel⟩, Nat.le_of_ble_eq_true rfl⟩, (lwT_of (tc_7 _ (List.mem_of_getElem? (i := 127) rfl)) rfl), (lwT_of (tc_7 _ (List.mem_of_getElem? (i := 128) rfl)) rfl)⟩
set_option maxRecDepth 100000 in
theorem ok_R_back : VOk mR_back 0 := ⟨⟨(lwT_of (tc_7 _ (List.mem_of_getElem? (i := 133) rfl)) rfl), (lwT_of (tc_1 _ (List.mem_of_getElem? (i := 17) rfl)) rfl), ⟨by decide +kernel, by decide +kernel, by decide +kernel⟩, Nat.le_of_ble_eq_true rfl⟩, (lwT_of (tc_7 _ (List.mem_of_getElem? (i := 131) rfl)) rfl), (lwT_of (tc_7 _ (List.mem_of_getElem? (i := 132) rfl)) rfl)⟩
set_option maxRecDepth 100000 in
theorem ok_R_sheet : VOk mR_sheet 3 := ⟨⟨(lwT_of (tc_7 _ (List.mem_of_getElem? (i := 137) rfl)) rfl), (lwT_of (tc_1 _ (List.mem_of_getElem? (i := 17) rfl)) rfl), ⟨by decide +kernel, by decide +kernel, by decide +kernel⟩, Nat.le_of_ble_eq_true rfl⟩, (lwT_of (tc_7 _ (List.mem_of_getElem? (i := 135) rfl)) rfl), (lwT_of (tc_7 _ (List.mem_of_getElem? (i := 136) rfl)) rfl)⟩
set_option maxRecDepth 100000 in
theorem ok_R_cell : VOk mR_cell 3 := ⟨⟨(lwT_of (tc_7 _ (List.mem_of_getElem? (i := 141) rfl)) rfl), (lwT_of (tc_1 _ (List.mem_of_getElem? (i := 17) rfl)) rfl), ⟨by decide +kernel, by decide +kernel, by decide +kernel⟩, Nat.le_of_ble_eq_true rfl⟩, (lwT_of (tc_7 _ (List.mem_of_getElem? (i := 139) rfl)) rfl), (lwT_of (tc_7 _ (List.mem_of_getElem? (i := 140) rfl)) rfl)⟩
set_option maxRecDepth 100000 in
theorem ok_R_copy : VOk mR_copy 5 := ⟨⟨(lwT_of (tc_7 _ (List.mem_of_getElem? (i := 145) rfl)) rfl), (lwT_of (tc_1 _ (List.mem_of_getElem? (i := 17) rfl)) rfl), ⟨by decide +kernel, by decide +kernel, by decide +kernel⟩, Nat.le_of_ble_eq_true rfl⟩, (lwT_of (tc_7 _ (List.mem_of_getElem? (i := 143) rfl)) rfl), (lwT_of (tc_7 _ (List.mem_of_getElem? (i := 144) rfl)) rfl)⟩
set_option maxRecDepth 100000 in
theorem ok_R_promisesBy : VOk mR_promisesBy 4 := ⟨⟨(lwT_of (tc_7 _ (List.mem_of_getElem? (i := 149) rfl)) rfl), (lwT_of (tc_1 _ (List.mem_of_getElem? (i := 17) rfl)) rfl), ⟨by decide +kernel, by decide +kernel, by decide +kernel⟩, Nat.le_of_ble_eq_true rfl⟩, (lwT_of (tc_7 _ (List.mem_of_getElem? (i := 147) rfl)) rfl), (lwT_of (tc_7 _ (List.mem_of_getElem? (i := 148) rfl)) rfl)⟩
set_option maxRecDepth 100000 in
theorem ok_R_isUnder : SOk mR_isUnder 2 := ⟨⟨(lwT_of (tc_7 _ (List.mem_of_getElem? (i := 157) rfl)) rfl), (lwT_of (tc_1 _ (List.mem_of_getElem? (i := 17) rfl)) rfl), ⟨by decide +kernel, by decide +kernel, by decide +kernel⟩, Nat.le_of_ble_eq_true rfl⟩, (lwT_of (tc_7 _ (List.mem_of_getElem? (i := 156) rfl)) rfl)⟩
set_option maxRecDepth 100000 in
theorem ok_R_taken : VOk mR_taken 2 := ⟨⟨(lwT_of (tc_7 _ (List.mem_of_getElem? (i := 154) rfl)) rfl), (lwT_of (tc_1 _ (List.mem_of_getElem? (i := 17) rfl)) rfl), ⟨by decide +kernel, by decide +kernel, by decide +kernel⟩, Nat.le_of_ble_eq_true rfl⟩, (lwT_of (tc_7 _ (List.mem_of_getElem? (i := 152) rfl)) rfl), (lwT_of (tc_7 _ (List.mem_of_getElem? (i := 153) rfl)) rfl)⟩
set_option maxRecDepth 100000 in
theorem ok_Integer_bitCount : SOk mInteger_bitCount 1 := ⟨⟨(lwT_of (tc_4 _ (List.mem_of_getElem? (i := 15) rfl)) rfl), (lwT_of (tc_1 _ (List.mem_of_getElem? (i := 18) rfl)) rfl), ⟨by decide +kernel, by decide +kernel, by decide +kernel⟩, Nat.le_of_ble_eq_true rfl⟩, (lwT_of (tc_4 _ (List.mem_of_getElem? (i := 14) rfl)) rfl)⟩
set_option maxRecDepth 100000 in
theorem ok_Math_abs : SOk mMath_abs 1 := ⟨⟨(lwT_of (tc_1 _ (List.mem_of_getElem? (i := 35) rfl)) rfl), (lwT_of (tc_1 _ (List.mem_of_getElem? (i := 3) rfl)) rfl), ⟨by decide +kernel, by decide +kernel, by decide +kernel⟩, Nat.le_of_ble_eq_true rfl⟩, (lwT_of (tc_1 _ (List.mem_of_getElem? (i := 34) rfl)) rfl)⟩
set_option maxRecDepth 100000 in
theorem ok_Math_max : SOk mMath_max 2 := ⟨⟨(lwT_of (tc_3 _ (List.mem_of_getElem? (i := 133) rfl)) rfl), (lwT_of (tc_1 _ (List.mem_of_getElem? (i := 3) rfl)) rfl), ⟨by decide +kernel, by decide +kernel, by decide +kernel⟩, Nat.le_of_ble_eq_true rfl⟩, (lwT_of (tc_3 _ (List.mem_of_getElem? (i := 132) rfl)) rfl)⟩
set_option maxRecDepth 100000 in
theorem ok_Math_min : SOk mMath_min 2 := ⟨⟨(lwT_of (tc_3 _ (List.mem_of_getElem? (i := 210) rfl)) rfl), (lwT_of (tc_1 _ (List.mem_of_getElem? (i := 3) rfl)) rfl), ⟨by decide +kernel, by decide +kernel, by decide +kernel⟩, Nat.le_of_ble_eq_true rfl⟩, (lwT_of (tc_3 _ (List.mem_of_getElem? (i := 209) rfl)) rfl)⟩
set_option maxRecDepth 100000 in
theorem ok_String_length : VOk mString_length 0 := ⟨⟨(lwT_of (tc_2 _ (List.mem_of_getElem? (i := 106) rfl)) rfl), (lwT_of (tc_1 _ (List.mem_of_getElem? (i := 12) rfl)) rfl), ⟨by decide +kernel, by decide +kernel, by decide +kernel⟩, Nat.le_of_ble_eq_true rfl⟩, (lwT_of (tc_2 _ (List.mem_of_getElem? (i := 104) rfl)) rfl), (lwT_of (tc_2 _ (List.mem_of_getElem? (i := 105) rfl)) rfl)⟩
set_option maxRecDepth 100000 in
theorem ok_String_charAt : VOk mString_charAt 1 := ⟨⟨(lwT_of (tc_2 _ (List.mem_of_getElem? (i := 116) rfl)) rfl), (lwT_of (tc_1 _ (List.mem_of_getElem? (i := 12) rfl)) rfl), ⟨by decide +kernel, by decide +kernel, by decide +kernel⟩, Nat.le_of_ble_eq_true rfl⟩, (lwT_of (tc_2 _ (List.mem_of_getElem? (i := 114) rfl)) rfl), (lwT_of (tc_2 _ (List.mem_of_getElem? (i := 115) rfl)) rfl)⟩
set_option maxRecDepth 100000 in
theorem ok_String_coder : VOk mString_coder 0 := ⟨⟨(lwT_of (tc_2 _ (List.mem_of_getElem? (i := 110) rfl)) rfl), (lwT_of (tc_1 _ (List.mem_of_getElem? (i := 12) rfl)) rfl), ⟨by decide +kernel, by decide +kernel, by decide +kernel⟩, Nat.le_of_ble_eq_true rfl⟩, (lwT_of (tc_2 _ (List.mem_of_getElem? (i := 108) rfl)) rfl), (lwT_of (tc_2 _ (List.mem_of_getElem? (i := 109) rfl)) rfl)⟩
set_option maxRecDepth 100000 in
theorem ok_String_isLatin1 : VOk mString_isLatin1 0 := ⟨⟨(lwT_of (tc_2 _ (List.mem_of_getElem? (i := 120) rfl)) rfl), (lwT_of (tc_1 _ (List.mem_of_getElem? (i := 12) rfl)) rfl), ⟨by decide +kernel, by decide +kernel, by decide +kernel⟩, Nat.le_of_ble_eq_true rfl⟩, (lwT_of (tc_2 _ (List.mem_of_getElem? (i := 118) rfl)) rfl), (lwT_of (tc_2 _ (List.mem_of_getElem? (i := 119) rfl)) rfl)⟩
set_option maxRecDepth 100000 in
theorem ok_String_checkIndex : SOk mString_checkIndex 2 := ⟨⟨(lwT_of (tc_2 _ (List.mem_of_getElem? (i := 126) rfl)) rfl), (lwT_of (tc_1 _ (List.mem_of_getElem? (i := 12) rfl)) rfl), ⟨by decide +kernel, by decide +kernel, by decide +kernel⟩, Nat.le_of_ble_eq_true rfl⟩, (lwT_of (tc_2 _ (List.mem_of_getElem? (i := 125) rfl)) rfl)⟩
set_option maxRecDepth 100000 in
theorem ok_StringLatin1_charAt : SOk mStringLatin1_charAt 2 := ⟨⟨(lwT_of (tc_2 _ (List.mem_of_getElem? (i := 123) rfl)) rfl), (lwT_of (tc_1 _ (List.mem_of_getElem? (i := 13) rfl)) rfl), ⟨by decide +kernel, by decide +kernel, by decide +kernel⟩, Nat.le_of_ble_eq_true rfl⟩, (lwT_of (tc_2 _ (List.mem_of_getElem? (i := 122) rfl)) rfl)⟩
set_option maxRecDepth 100000 in
theorem ok_StringUTF16_getChar : SOk mStringUTF16_getChar 2 := ⟨⟨(lwT_of (tc_2 _ (List.mem_of_getElem? (i := 144) rfl)) rfl), (lwT_of (tc_1 _ (List.mem_of_getElem? (i := 15) rfl)) rfl), ⟨by decide +kernel, by decide +kernel, by decide +kernel⟩, Nat.le_of_ble_eq_true rfl⟩, (lwT_of (tc_2 _ (List.mem_of_getElem? (i := 143) rfl)) rfl)⟩
set_option maxRecDepth 100000 in
theorem ok_StringUTF16_length : SOk mStringUTF16_length 1 := ⟨⟨(lwT_of (tc_2 _ (List.mem_of_getElem? (i := 140) rfl)) rfl), (lwT_of (tc_1 _ (List.mem_of_getElem? (i := 15) rfl)) rfl), ⟨by decide +kernel, by decide +kernel, by decide +kernel⟩, Nat.le_of_ble_eq_true rfl⟩, (lwT_of (tc_2 _ (List.mem_of_getElem? (i := 139) rfl)) rfl)⟩
set_option maxRecDepth 100000 in
theorem ok_StringUTF16_charAt : SOk mStringUTF16_charAt 2 := ⟨⟨(lwT_of (tc_2 _ (List.mem_of_getElem? (i := 134) rfl)) rfl), (lwT_of (tc_1 _ (List.mem_of_getElem? (i := 15) rfl)) rfl), ⟨by decide +kernel, by decide +kernel, by decide +kernel⟩, Nat.le_of_ble_eq_true rfl⟩, (lwT_of (tc_2 _ (List.mem_of_getElem? (i := 133) rfl)) rfl)⟩
set_option maxRecDepth 100000 in
theorem ok_StringUTF16_checkIndex : SOk mStringUTF16_checkIndex 2 := ⟨⟨(lwT_of (tc_2 _ (List.mem_of_getElem? (i := 137) rfl)) rfl), (lwT_of (tc_1 _ (List.mem_of_getElem? (i := 15) rfl)) rfl), ⟨by decide +kernel, by decide +kernel, by decide +kernel⟩, Nat.le_of_ble_eq_true rfl⟩, (lwT_of (tc_2 _ (List.mem_of_getElem? (i := 136) rfl)) rfl)⟩
set_option maxRecDepth 100000 in
theorem ok_Preconditions_checkIndex : SOk mPreconditions_checkIndex 3 := ⟨⟨(lwT_of (tc_2 _ (List.mem_of_getElem? (i := 131) rfl)) rfl), (lwT_of (tc_1 _ (List.mem_of_getElem? (i := 14) rfl)) rfl), ⟨by decide +kernel, by decide +kernel, by decide +kernel⟩, Nat.le_of_ble_eq_true rfl⟩, (lwT_of (tc_2 _ (List.mem_of_getElem? (i := 130) rfl)) rfl)⟩
set_option maxRecDepth 100000 in
theorem st_max : Cond.static Lib.Math.max.name ∈ lwT := (lwT_of (tc_3 _ (List.mem_of_getElem? (i := 132) rfl)) rfl)
set_option maxRecDepth 100000 in
theorem co_max : Cond.code Lib.Math.max.name Lib.Math.max.code 2 (some .int) ∈ lwT := (lwT_of (tc_3 _ (List.mem_of_getElem? (i := 133) rfl)) rfl)
set_option maxRecDepth 100000 in
theorem st_min : Cond.static Lib.Math.min.name ∈ lwT := (lwT_of (tc_3 _ (List.mem_of_getElem? (i := 209) rfl)) rfl)
set_option maxRecDepth 100000 in
theorem co_min : Cond.code Lib.Math.min.name Lib.Math.min.code 2 (some .int) ∈ lwT := (lwT_of (tc_3 _ (List.mem_of_getElem? (i := 210) rfl)) rfl)
set_option maxRecDepth 100000 in
theorem st_abs : Cond.static Lib.Math.abs.name ∈ lwT := (lwT_of (tc_1 _ (List.mem_of_getElem? (i := 34) rfl)) rfl)
set_option maxRecDepth 100000 in
theorem co_abs : Cond.code Lib.Math.abs.name Lib.Math.abs.code 1 (some .int) ∈ lwT := (lwT_of (tc_1 _ (List.mem_of_getElem? (i := 35) rfl)) rfl)
set_option maxRecDepth 100000 in
theorem im_obj : Cond.instanceMethod Lib.objectInit ∈ lwT := (lwT_of (tc_1 _ (List.mem_of_getElem? (i := 25) rfl)) rfl)
set_option maxRecDepth 100000 in
theorem co_obj : Cond.code Lib.objectInit ⟨#[0xb1]⟩ 1 none ∈ lwT := (lwT_of (tc_1 _ (List.mem_of_getElem? (i := 26) rfl)) rfl)
set_option maxRecDepth 100000 in
theorem na_ac : Cond.native arraycopyName ∈ lwT := (lwT_of (tc_3 _ (List.mem_of_getElem? (i := 18) rfl)) rfl)
set_option maxRecDepth 100000 in
theorem st_ac : Cond.static arraycopyName ∈ lwT := (lwT_of (tc_3 _ (List.mem_of_getElem? (i := 17) rfl)) rfl)
end
