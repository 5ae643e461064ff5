/-! the words that are kept over calls, out of the tables, by name -/
def gwA : List Cond := lw_tbl.filter goodWord
theorem gWA : GoodIn gwA gwA := fun w h => ⟨h, good_of_word (List.mem_filter.mp h).2⟩
theorem gWL : ∀ w ∈ gwA, w ∈ lw_tbl := fun _ h => (List.mem_filter.mp h).1
theorem gw_in {w : Cond} (h : w ∈ lw_tbl) (g : goodWord w = true) : w ∈ gwA := List.mem_filter.mpr ⟨h, g⟩
theorem mt_1 : ∀ w ∈ tables_1_1, w ∈ lw_tbl := fun _ h => List.mem_append_right _ (List.mem_append_left _ h)
theorem mt_2 : ∀ w ∈ tables_1_2, w ∈ lw_tbl := fun _ h => List.mem_append_right _ (List.mem_append_right _ (List.mem_append_left _ h))
theorem mt_3 : ∀ w ∈ tables_1_3, w ∈ lw_tbl := fun _ h => List.mem_append_right _ (List.mem_append_right _ (List.mem_append_right _ (List.mem_append_left _ h)))
theorem mt_4 : ∀ w ∈ tables_1_4, w ∈ lw_tbl := fun _ h => List.mem_append_right _ (List.mem_append_right _ (List.mem_append_right _ (List.mem_append_right _ h)))
theorem mp_1 : ∀ q ∈ lw_privs_1, Cond.selects q.1.cls q.1 q.1 ∈ lw_tbl := fun _ h => List.mem_append_left _ (List.mem_map.mpr ⟨_, (List.mem_append_left _ h), rfl⟩)
theorem mp_2 : ∀ q ∈ lw_privs_2, Cond.selects q.1.cls q.1 q.1 ∈ lw_tbl := fun _ h => List.mem_append_left _ (List.mem_map.mpr ⟨_, (List.mem_append_right _ (List.mem_append_left _ h)), rfl⟩)
theorem mp_3 : ∀ q ∈ lw_privs_3, Cond.selects q.1.cls q.1 q.1 ∈ lw_tbl := fun _ h => List.mem_append_left _ (List.mem_map.mpr ⟨_, (List.mem_append_right _ (List.mem_append_right _ h)), rfl⟩)
theorem kl_L_7 : Cond.classLink RL 7 RX6 ∈ gwA := gw_in (mt_1 _ (List.mem_of_getElem? (i := 10) rfl)) rfl
theorem ia_X6 : Cond.instantiable RX6 4 ∈ gwA := gw_in (mt_1 _ (List.mem_of_getElem? (i := 11) rfl)) rfl
theorem in_X6 : Cond.initialized RX6 ∈ gwA := gw_in (mt_1 _ (List.mem_of_getElem? (i := 1) rfl)) rfl
theorem kl_L_10 : Cond.classLink RL 10 RX7 ∈ gwA := gw_in (mt_3 _ (List.mem_of_getElem? (i := 30) rfl)) rfl
theorem ia_X7 : Cond.instantiable RX7 34 ∈ gwA := gw_in (mt_3 _ (List.mem_of_getElem? (i := 31) rfl)) rfl
theorem in_X7 : Cond.initialized RX7 ∈ gwA := gw_in (mt_1 _ (List.mem_of_getElem? (i := 5) rfl)) rfl
theorem ml_L_9 : Cond.methodLink RL 9 yX6_init ∈ gwA := gw_in (mt_1 _ (List.mem_of_getElem? (i := 12) rfl)) rfl
theorem im_X6_init : Cond.instanceMethod yX6_init ∈ gwA := gw_in (mt_1 _ (List.mem_of_getElem? (i := 13) rfl)) rfl
theorem co_X6_init : Cond.code yX6_init cX6_init 1 none ∈ gwA := gw_in (mt_1 _ (List.mem_of_getElem? (i := 14) rfl)) rfl
theorem ml_X6_1 : Cond.methodLink RX6 1 objectInit ∈ gwA := gw_in (mt_1 _ (List.mem_of_getElem? (i := 15) rfl)) rfl
theorem im_objectInit : Cond.instanceMethod objectInit ∈ gwA := gw_in (mt_1 _ (List.mem_of_getElem? (i := 16) rfl)) rfl
theorem co_objectInit : Cond.code objectInit ⟨#[0xb1]⟩ 1 none ∈ gwA := gw_in (mt_1 _ (List.mem_of_getElem? (i := 17) rfl)) rfl
theorem kl_X6_9 : Cond.classLink RX6 9 RX2 ∈ gwA := gw_in (mt_1 _ (List.mem_of_getElem? (i := 18) rfl)) rfl
theorem fl_X6_11 : Cond.fieldLink RX6 11 "ClassStarts" "kinds" "[LClassStarts$Kind;" ∈ gwA := gw_in (mt_1 _ (List.mem_of_getElem? (i := 97) rfl)) rfl
theorem fl_X6_15 : Cond.fieldLink RX6 15 "ClassStarts" "size" "I" ∈ gwA := gw_in (mt_1 _ (List.mem_of_getElem? (i := 98) rfl)) rfl
theorem kl_X6_19 : Cond.classLink RX6 19 RX3 ∈ gwA := gw_in (mt_1 _ (List.mem_of_getElem? (i := 20) rfl)) rfl
theorem ia_X3 : Cond.instantiable RX3 1 ∈ gwA := gw_in (mt_1 _ (List.mem_of_getElem? (i := 21) rfl)) rfl
theorem in_X3 : Cond.initialized RX3 ∈ gwA := gw_in (mt_1 _ (List.mem_of_getElem? (i := 2) rfl)) rfl
theorem fl_X6_22 : Cond.fieldLink RX6 22 "ClassStarts" "machine" "LClassStarts$Machine;" ∈ gwA := gw_in (mt_1 _ (List.mem_of_getElem? (i := 99) rfl)) rfl
theorem kl_X6_26 : Cond.classLink RX6 26 RX5 ∈ gwA := gw_in (mt_1 _ (List.mem_of_getElem? (i := 76) rfl)) rfl
theorem ia_X5 : Cond.instantiable RX5 4 ∈ gwA := gw_in (mt_1 _ (List.mem_of_getElem? (i := 77) rfl)) rfl
theorem in_X5 : Cond.initialized RX5 ∈ gwA := gw_in (mt_1 _ (List.mem_of_getElem? (i := 4) rfl)) rfl
theorem fl_X6_29 : Cond.fieldLink RX6 29 "ClassStarts" "reach" "LClassStarts$Reach;" ∈ gwA := gw_in (mt_1 _ (List.mem_of_getElem? (i := 100) rfl)) rfl
theorem im_X3_init : Cond.instanceMethod yX3_init ∈ gwA := gw_in (mt_1 _ (List.mem_of_getElem? (i := 23) rfl)) rfl
theorem co_X3_init : Cond.code yX3_init cX3_init 1 none ∈ gwA := gw_in (mt_1 _ (List.mem_of_getElem? (i := 24) rfl)) rfl
theorem ml_X3_3 : Cond.methodLink RX3 3 objectInit ∈ gwA := gw_in (mt_1 _ (List.mem_of_getElem? (i := 25) rfl)) rfl
theorem kl_X3_9 : Cond.classLink RX3 9 RX1 ∈ gwA := gw_in (mt_1 _ (List.mem_of_getElem? (i := 26) rfl)) rfl
theorem ia_X1 : Cond.instantiable RX1 8 ∈ gwA := gw_in (mt_1 _ (List.mem_of_getElem? (i := 27) rfl)) rfl
theorem in_X1 : Cond.initialized RX1 ∈ gwA := gw_in (mt_1 _ (List.mem_of_getElem? (i := 3) rfl)) rfl
theorem fl_X3_12 : Cond.fieldLink RX3 12 "ClassStarts$Machine" "journal" "LClassStarts$Journal;" ∈ gwA := gw_in (mt_1 _ (List.mem_of_getElem? (i := 71) rfl)) rfl
theorem im_X1_init : Cond.instanceMethod yX1_init ∈ gwA := gw_in (mt_1 _ (List.mem_of_getElem? (i := 29) rfl)) rfl
theorem co_X1_init : Cond.code yX1_init cX1_init 1 none ∈ gwA := gw_in (mt_1 _ (List.mem_of_getElem? (i := 30) rfl)) rfl
theorem ml_X1_3 : Cond.methodLink RX1 3 objectInit ∈ gwA := gw_in (mt_1 _ (List.mem_of_getElem? (i := 31) rfl)) rfl
theorem ac_int : Cond.arrayClass .int ∈ gwA := gw_in (mt_1 _ (List.mem_of_getElem? (i := 70) rfl)) rfl
theorem fl_X1_11 : Cond.fieldLink RX1 11 "ClassStarts$Journal" "sorts" "[I" ∈ gwA := gw_in (mt_1 _ (List.mem_of_getElem? (i := 32) rfl)) rfl
theorem fl_X1_15 : Cond.fieldLink RX1 15 "ClassStarts$Journal" "values" "[I" ∈ gwA := gw_in (mt_1 _ (List.mem_of_getElem? (i := 34) rfl)) rfl
theorem fl_X1_18 : Cond.fieldLink RX1 18 "ClassStarts$Journal" "events" "I" ∈ gwA := gw_in (mt_1 _ (List.mem_of_getElem? (i := 36) rfl)) rfl
theorem fl_X1_22 : Cond.fieldLink RX1 22 "ClassStarts$Journal" "halfSeen" "I" ∈ gwA := gw_in (mt_1 _ (List.mem_of_getElem? (i := 38) rfl)) rfl
theorem fl_X1_25 : Cond.fieldLink RX1 25 "ClassStarts$Journal" "acts" "I" ∈ gwA := gw_in (mt_1 _ (List.mem_of_getElem? (i := 41) rfl)) rfl
theorem fl_X1_28 : Cond.fieldLink RX1 28 "ClassStarts$Journal" "raised" "I" ∈ gwA := gw_in (mt_1 _ (List.mem_of_getElem? (i := 44) rfl)) rfl
theorem fl_X1_31 : Cond.fieldLink RX1 31 "ClassStarts$Journal" "ended" "I" ∈ gwA := gw_in (mt_1 _ (List.mem_of_getElem? (i := 47) rfl)) rfl
theorem fl_X1_34 : Cond.fieldLink RX1 34 "ClassStarts$Journal" "startCause" "I" ∈ gwA := gw_in (mt_1 _ (List.mem_of_getElem? (i := 50) rfl)) rfl
theorem im_X5_init : Cond.instanceMethod yX5_init ∈ gwA := gw_in (mt_1 _ (List.mem_of_getElem? (i := 79) rfl)) rfl
theorem co_X5_init : Cond.code yX5_init cX5_init 1 none ∈ gwA := gw_in (mt_1 _ (List.mem_of_getElem? (i := 80) rfl)) rfl
theorem ml_X5_5 : Cond.methodLink RX5 5 objectInit ∈ gwA := gw_in (mt_1 _ (List.mem_of_getElem? (i := 81) rfl)) rfl
theorem fl_X5_11 : Cond.fieldLink RX5 11 "ClassStarts$Reach" "wanted" "I" ∈ gwA := gw_in (mt_1 _ (List.mem_of_getElem? (i := 84) rfl)) rfl
theorem fl_X5_17 : Cond.fieldLink RX5 17 "ClassStarts$Reach" "listed" "J" ∈ gwA := gw_in (mt_1 _ (List.mem_of_getElem? (i := 85) rfl)) rfl
theorem kl_X5_21 : Cond.classLink RX5 21 RX4 ∈ gwA := gw_in (mt_1 _ (List.mem_of_getElem? (i := 82) rfl)) rfl
theorem fl_X5_23 : Cond.fieldLink RX5 23 "ClassStarts$Reach" "methods" "[LClassStarts$Method;" ∈ gwA := gw_in (mt_1 _ (List.mem_of_getElem? (i := 86) rfl)) rfl
theorem fl_X5_27 : Cond.fieldLink RX5 27 "ClassStarts$Reach" "size" "I" ∈ gwA := gw_in (mt_1 _ (List.mem_of_getElem? (i := 87) rfl)) rfl
theorem ml_L_12 : Cond.methodLink RL 12 yX7_init ∈ gwA := gw_in (mt_3 _ (List.mem_of_getElem? (i := 32) rfl)) rfl
theorem im_X7_init : Cond.instanceMethod yX7_init ∈ gwA := gw_in (mt_3 _ (List.mem_of_getElem? (i := 33) rfl)) rfl
theorem co_X7_init : Cond.code yX7_init cX7_init 1 none ∈ gwA := gw_in (mt_3 _ (List.mem_of_getElem? (i := 34) rfl)) rfl
theorem ml_X7_1 : Cond.methodLink RX7 1 objectInit ∈ gwA := gw_in (mt_3 _ (List.mem_of_getElem? (i := 35) rfl)) rfl
theorem ac_boolean : Cond.arrayClass .boolean ∈ gwA := gw_in (mt_1 _ (List.mem_of_getElem? (i := 151) rfl)) rfl
theorem fl_X7_7 : Cond.fieldLink RX7 7 "ClassStartsModel" "isFace" "[Z" ∈ gwA := gw_in (mt_3 _ (List.mem_of_getElem? (i := 37) rfl)) rfl
theorem fl_X7_13 : Cond.fieldLink RX7 13 "ClassStartsModel" "hasDefaults" "[Z" ∈ gwA := gw_in (mt_3 _ (List.mem_of_getElem? (i := 38) rfl)) rfl
theorem fl_X7_16 : Cond.fieldLink RX7 16 "ClassStartsModel" "parent" "[I" ∈ gwA := gw_in (mt_3 _ (List.mem_of_getElem? (i := 39) rfl)) rfl
theorem fl_X7_20 : Cond.fieldLink RX7 20 "ClassStartsModel" "faces" "[I" ∈ gwA := gw_in (mt_3 _ (List.mem_of_getElem? (i := 40) rfl)) rfl
theorem fl_X7_23 : Cond.fieldLink RX7 23 "ClassStartsModel" "faceOf" "[I" ∈ gwA := gw_in (mt_3 _ (List.mem_of_getElem? (i := 41) rfl)) rfl
theorem fl_X7_26 : Cond.fieldLink RX7 26 "ClassStartsModel" "value" "[I" ∈ gwA := gw_in (mt_3 _ (List.mem_of_getElem? (i := 42) rfl)) rfl
theorem fl_X7_29 : Cond.fieldLink RX7 29 "ClassStartsModel" "isConstant" "[Z" ∈ gwA := gw_in (mt_3 _ (List.mem_of_getElem? (i := 43) rfl)) rfl
theorem fl_X7_32 : Cond.fieldLink RX7 32 "ClassStartsModel" "rowSize" "[I" ∈ gwA := gw_in (mt_3 _ (List.mem_of_getElem? (i := 44) rfl)) rfl
theorem fl_X7_35 : Cond.fieldLink RX7 35 "ClassStartsModel" "rowItem" "[I" ∈ gwA := gw_in (mt_3 _ (List.mem_of_getElem? (i := 45) rfl)) rfl
theorem fl_X7_38 : Cond.fieldLink RX7 38 "ClassStartsModel" "acts" "[I" ∈ gwA := gw_in (mt_3 _ (List.mem_of_getElem? (i := 46) rfl)) rfl
theorem fl_X7_41 : Cond.fieldLink RX7 41 "ClassStartsModel" "actOf" "[I" ∈ gwA := gw_in (mt_3 _ (List.mem_of_getElem? (i := 47) rfl)) rfl
theorem fl_X7_44 : Cond.fieldLink RX7 44 "ClassStartsModel" "state" "[I" ∈ gwA := gw_in (mt_3 _ (List.mem_of_getElem? (i := 48) rfl)) rfl
theorem fl_X7_47 : Cond.fieldLink RX7 47 "ClassStartsModel" "eventSort" "[I" ∈ gwA := gw_in (mt_3 _ (List.mem_of_getElem? (i := 50) rfl)) rfl
theorem fl_X7_50 : Cond.fieldLink RX7 50 "ClassStartsModel" "eventOf" "[I" ∈ gwA := gw_in (mt_3 _ (List.mem_of_getElem? (i := 51) rfl)) rfl
theorem fl_X7_53 : Cond.fieldLink RX7 53 "ClassStartsModel" "causeTold" "I" ∈ gwA := gw_in (mt_3 _ (List.mem_of_getElem? (i := 56) rfl)) rfl
theorem fl_X7_57 : Cond.fieldLink RX7 57 "ClassStartsModel" "sort" "[I" ∈ gwA := gw_in (mt_3 _ (List.mem_of_getElem? (i := 59) rfl)) rfl
theorem fl_X7_60 : Cond.fieldLink RX7 60 "ClassStartsModel" "one" "[I" ∈ gwA := gw_in (mt_3 _ (List.mem_of_getElem? (i := 60) rfl)) rfl
theorem fl_X7_63 : Cond.fieldLink RX7 63 "ClassStartsModel" "two" "[I" ∈ gwA := gw_in (mt_3 _ (List.mem_of_getElem? (i := 61) rfl)) rfl
theorem fl_X7_66 : Cond.fieldLink RX7 66 "ClassStartsModel" "three" "[I" ∈ gwA := gw_in (mt_3 _ (List.mem_of_getElem? (i := 62) rfl)) rfl
theorem fl_X7_69 : Cond.fieldLink RX7 69 "ClassStartsModel" "stage" "[I" ∈ gwA := gw_in (mt_3 _ (List.mem_of_getElem? (i := 63) rfl)) rfl
theorem fl_X7_72 : Cond.fieldLink RX7 72 "ClassStartsModel" "guards" "[I" ∈ gwA := gw_in (mt_3 _ (List.mem_of_getElem? (i := 64) rfl)) rfl
theorem fl_X7_75 : Cond.fieldLink RX7 75 "ClassStartsModel" "guardEnd" "[I" ∈ gwA := gw_in (mt_3 _ (List.mem_of_getElem? (i := 65) rfl)) rfl
theorem fl_X7_78 : Cond.fieldLink RX7 78 "ClassStartsModel" "guardBy" "[I" ∈ gwA := gw_in (mt_3 _ (List.mem_of_getElem? (i := 66) rfl)) rfl
theorem fl_X7_81 : Cond.fieldLink RX7 81 "ClassStartsModel" "mayWork" "[Z" ∈ gwA := gw_in (mt_3 _ (List.mem_of_getElem? (i := 69) rfl)) rfl
theorem ml_L_13 : Cond.methodLink RL 13 yX6_made ∈ gwA := gw_in (mt_1 _ (List.mem_of_getElem? (i := 110) rfl)) rfl
theorem im_X6_made : Cond.instanceMethod yX6_made ∈ gwA := gw_in (mt_1 _ (List.mem_of_getElem? (i := 111) rfl)) rfl
theorem se_X6_made : Cond.selects RX6 yX6_made yX6_made ∈ gwA := gw_in (mt_1 _ (List.mem_of_getElem? (i := 112) rfl)) rfl
theorem co_X6_made : Cond.code yX6_made cX6_made 3 (some .int) ∈ gwA := gw_in (mt_1 _ (List.mem_of_getElem? (i := 113) rfl)) rfl
theorem fl_X6_37 : Cond.fieldLink RX6 37 "ClassStarts$Kind" "isFace" "Z" ∈ gwA := gw_in (mt_1 _ (List.mem_of_getElem? (i := 156) rfl)) rfl
theorem ml_X6_33 : Cond.methodLink RX6 33 yX6_find ∈ gwA := gw_in (mt_1 _ (List.mem_of_getElem? (i := 114) rfl)) rfl
theorem im_X6_find : Cond.instanceMethod yX6_find ∈ gwA := gw_in (mt_1 _ (List.mem_of_getElem? (i := 116) rfl)) rfl
theorem se_X6_find : Cond.selects RX6 yX6_find yX6_find ∈ gwA := gw_in (mp_1 (yX6_find, 4) (List.mem_of_getElem? (i := 0) rfl)) rfl
theorem co_X6_find : Cond.code yX6_find cX6_find 2 (some (.object "ClassStarts$Kind")) ∈ gwA := gw_in (mt_1 _ (List.mem_of_getElem? (i := 117) rfl)) rfl
theorem ml_X6_41 : Cond.methodLink RX6 41 yX6_keep ∈ gwA := gw_in (mt_1 _ (List.mem_of_getElem? (i := 118) rfl)) rfl
theorem im_X6_keep : Cond.instanceMethod yX6_keep ∈ gwA := gw_in (mt_1 _ (List.mem_of_getElem? (i := 120) rfl)) rfl
theorem se_X6_keep : Cond.selects RX6 yX6_keep yX6_keep ∈ gwA := gw_in (mp_1 (yX6_keep, 4) (List.mem_of_getElem? (i := 1) rfl)) rfl
theorem co_X6_keep : Cond.code yX6_keep cX6_keep 4 (some .int) ∈ gwA := gw_in (mt_1 _ (List.mem_of_getElem? (i := 121) rfl)) rfl
theorem ia_X2 : Cond.instantiable RX2 12 ∈ gwA := gw_in (mt_1 _ (List.mem_of_getElem? (i := 122) rfl)) rfl
theorem in_X2 : Cond.initialized RX2 ∈ gwA := gw_in (mt_1 _ (List.mem_of_getElem? (i := 6) rfl)) rfl
theorem ml_X6_156 : Cond.methodLink RX6 156 yX2_init ∈ gwA := gw_in (mt_1 _ (List.mem_of_getElem? (i := 123) rfl)) rfl
theorem im_X2_init : Cond.instanceMethod yX2_init ∈ gwA := gw_in (mt_1 _ (List.mem_of_getElem? (i := 124) rfl)) rfl
theorem co_X2_init : Cond.code yX2_init cX2_init 6 none ∈ gwA := gw_in (mt_1 _ (List.mem_of_getElem? (i := 125) rfl)) rfl
theorem ml_X2_3 : Cond.methodLink RX2 3 objectInit ∈ gwA := gw_in (mt_1 _ (List.mem_of_getElem? (i := 126) rfl)) rfl
theorem kl_X2_9 : Cond.classLink RX2 9 RX2 ∈ gwA := gw_in (mt_1 _ (List.mem_of_getElem? (i := 127) rfl)) rfl
theorem fl_X2_11 : Cond.fieldLink RX2 11 "ClassStarts$Kind" "faces" "[LClassStarts$Kind;" ∈ gwA := gw_in (mt_1 _ (List.mem_of_getElem? (i := 165) rfl)) rfl
theorem fl_X2_15 : Cond.fieldLink RX2 15 "ClassStarts$Kind" "faceCount" "I" ∈ gwA := gw_in (mt_1 _ (List.mem_of_getElem? (i := 168) rfl)) rfl
theorem fl_X2_19 : Cond.fieldLink RX2 19 "ClassStarts$Kind" "fields" "[I" ∈ gwA := gw_in (mt_1 _ (List.mem_of_getElem? (i := 171) rfl)) rfl
theorem fl_X2_23 : Cond.fieldLink RX2 23 "ClassStarts$Kind" "constants" "[Z" ∈ gwA := gw_in (mt_1 _ (List.mem_of_getElem? (i := 172) rfl)) rfl
theorem fl_X2_27 : Cond.fieldLink RX2 27 "ClassStarts$Kind" "row" "[I" ∈ gwA := gw_in (mt_1 _ (List.mem_of_getElem? (i := 173) rfl)) rfl
theorem fl_X2_30 : Cond.fieldLink RX2 30 "ClassStarts$Kind" "items" "I" ∈ gwA := gw_in (mt_1 _ (List.mem_of_getElem? (i := 176) rfl)) rfl
theorem kl_X2_33 : Cond.classLink RX2 33 RX4 ∈ gwA := gw_in (mt_1 _ (List.mem_of_getElem? (i := 128) rfl)) rfl
theorem fl_X2_35 : Cond.fieldLink RX2 35 "ClassStarts$Kind" "methods" "[LClassStarts$Method;" ∈ gwA := gw_in (mt_1 _ (List.mem_of_getElem? (i := 179) rfl)) rfl
theorem fl_X2_39 : Cond.fieldLink RX2 39 "ClassStarts$Kind" "state" "I" ∈ gwA := gw_in (mt_1 _ (List.mem_of_getElem? (i := 183) rfl)) rfl
theorem fl_X2_42 : Cond.fieldLink RX2 42 "ClassStarts$Kind" "number" "I" ∈ gwA := gw_in (mt_1 _ (List.mem_of_getElem? (i := 152) rfl)) rfl
theorem fl_X2_45 : Cond.fieldLink RX2 45 "ClassStarts$Kind" "isFace" "Z" ∈ gwA := gw_in (mt_1 _ (List.mem_of_getElem? (i := 155) rfl)) rfl
theorem fl_X2_49 : Cond.fieldLink RX2 49 "ClassStarts$Kind" "hasDefaults" "Z" ∈ gwA := gw_in (mt_1 _ (List.mem_of_getElem? (i := 159) rfl)) rfl
theorem fl_X2_52 : Cond.fieldLink RX2 52 "ClassStarts$Kind" "parent" "LClassStarts$Kind;" ∈ gwA := gw_in (mt_1 _ (List.mem_of_getElem? (i := 162) rfl)) rfl
theorem ia_X4 : Cond.instantiable RX4 3 ∈ gwA := gw_in (mt_1 _ (List.mem_of_getElem? (i := 129) rfl)) rfl
theorem in_X4 : Cond.initialized RX4 ∈ gwA := gw_in (mt_1 _ (List.mem_of_getElem? (i := 7) rfl)) rfl
theorem ml_X2_56 : Cond.methodLink RX2 56 yX4_init ∈ gwA := gw_in (mt_1 _ (List.mem_of_getElem? (i := 130) rfl)) rfl
theorem im_X4_init : Cond.instanceMethod yX4_init ∈ gwA := gw_in (mt_1 _ (List.mem_of_getElem? (i := 131) rfl)) rfl
theorem co_X4_init : Cond.code yX4_init cX4_init 2 none ∈ gwA := gw_in (mt_1 _ (List.mem_of_getElem? (i := 132) rfl)) rfl
theorem ml_X4_3 : Cond.methodLink RX4 3 objectInit ∈ gwA := gw_in (mt_1 _ (List.mem_of_getElem? (i := 133) rfl)) rfl
theorem kl_X4_11 : Cond.classLink RX4 11 RX0 ∈ gwA := gw_in (mt_1 _ (List.mem_of_getElem? (i := 134) rfl)) rfl
theorem fl_X4_13 : Cond.fieldLink RX4 13 "ClassStarts$Method" "acts" "[LClassStarts$Act;" ∈ gwA := gw_in (mt_1 _ (List.mem_of_getElem? (i := 138) rfl)) rfl
theorem fl_X4_17 : Cond.fieldLink RX4 17 "ClassStarts$Method" "size" "I" ∈ gwA := gw_in (mt_1 _ (List.mem_of_getElem? (i := 141) rfl)) rfl
theorem fl_X4_21 : Cond.fieldLink RX4 21 "ClassStarts$Method" "number" "I" ∈ gwA := gw_in (mt_1 _ (List.mem_of_getElem? (i := 136) rfl)) rfl
theorem ml_L_17 : Cond.methodLink RL 17 yX7_made ∈ gwA := gw_in (mt_3 _ (List.mem_of_getElem? (i := 139) rfl)) rfl
theorem im_X7_made : Cond.instanceMethod yX7_made ∈ gwA := gw_in (mt_3 _ (List.mem_of_getElem? (i := 140) rfl)) rfl
theorem se_X7_made : Cond.selects RX7 yX7_made yX7_made ∈ gwA := gw_in (mt_3 _ (List.mem_of_getElem? (i := 141) rfl)) rfl
theorem co_X7_made : Cond.code yX7_made cX7_made 2 (some .int) ∈ gwA := gw_in (mt_3 _ (List.mem_of_getElem? (i := 142) rfl)) rfl
theorem ml_X7_87 : Cond.methodLink RX7 87 yX7_has ∈ gwA := gw_in (mt_3 _ (List.mem_of_getElem? (i := 143) rfl)) rfl
theorem im_X7_has : Cond.instanceMethod yX7_has ∈ gwA := gw_in (mt_3 _ (List.mem_of_getElem? (i := 145) rfl)) rfl
theorem se_X7_has : Cond.selects RX7 yX7_has yX7_has ∈ gwA := gw_in (mp_2 (yX7_has, 34) (List.mem_of_getElem? (i := 9) rfl)) rfl
theorem co_X7_has : Cond.code yX7_has cX7_has 2 (some .boolean) ∈ gwA := gw_in (mt_3 _ (List.mem_of_getElem? (i := 146) rfl)) rfl
theorem fl_X7_84 : Cond.fieldLink RX7 84 "ClassStartsModel" "many" "I" ∈ gwA := gw_in (mt_3 _ (List.mem_of_getElem? (i := 36) rfl)) rfl
theorem ml_X7_91 : Cond.methodLink RX7 91 yX7_make ∈ gwA := gw_in (mt_3 _ (List.mem_of_getElem? (i := 147) rfl)) rfl
theorem im_X7_make : Cond.instanceMethod yX7_make ∈ gwA := gw_in (mt_3 _ (List.mem_of_getElem? (i := 149) rfl)) rfl
theorem se_X7_make : Cond.selects RX7 yX7_make yX7_make ∈ gwA := gw_in (mp_2 (yX7_make, 34) (List.mem_of_getElem? (i := 10) rfl)) rfl
theorem co_X7_make : Cond.code yX7_make cX7_make 4 (some .int) ∈ gwA := gw_in (mt_3 _ (List.mem_of_getElem? (i := 150) rfl)) rfl
theorem ml_L_18 : Cond.methodLink RL 18 yX6_face ∈ gwA := gw_in (mt_1 _ (List.mem_of_getElem? (i := 211) rfl)) rfl
theorem im_X6_face : Cond.instanceMethod yX6_face ∈ gwA := gw_in (mt_1 _ (List.mem_of_getElem? (i := 212) rfl)) rfl
theorem se_X6_face : Cond.selects RX6 yX6_face yX6_face ∈ gwA := gw_in (mt_1 _ (List.mem_of_getElem? (i := 213) rfl)) rfl
theorem co_X6_face : Cond.code yX6_face cX6_face 2 (some .int) ∈ gwA := gw_in (mt_1 _ (List.mem_of_getElem? (i := 214) rfl)) rfl
theorem ml_L_22 : Cond.methodLink RL 22 yX7_face ∈ gwA := gw_in (mt_3 _ (List.mem_of_getElem? (i := 151) rfl)) rfl
theorem im_X7_face : Cond.instanceMethod yX7_face ∈ gwA := gw_in (mt_3 _ (List.mem_of_getElem? (i := 152) rfl)) rfl
theorem se_X7_face : Cond.selects RX7 yX7_face yX7_face ∈ gwA := gw_in (mt_3 _ (List.mem_of_getElem? (i := 153) rfl)) rfl
theorem co_X7_face : Cond.code yX7_face cX7_face 2 (some .int) ∈ gwA := gw_in (mt_3 _ (List.mem_of_getElem? (i := 154) rfl)) rfl
theorem ml_L_23 : Cond.methodLink RL 23 yX6_bears ∈ gwA := gw_in (mt_1 _ (List.mem_of_getElem? (i := 215) rfl)) rfl
theorem im_X6_bears : Cond.instanceMethod yX6_bears ∈ gwA := gw_in (mt_1 _ (List.mem_of_getElem? (i := 216) rfl)) rfl
theorem se_X6_bears : Cond.selects RX6 yX6_bears yX6_bears ∈ gwA := gw_in (mt_1 _ (List.mem_of_getElem? (i := 217) rfl)) rfl
theorem co_X6_bears : Cond.code yX6_bears cX6_bears 5 (some .int) ∈ gwA := gw_in (mt_1 _ (List.mem_of_getElem? (i := 218) rfl)) rfl
theorem fl_X6_45 : Cond.fieldLink RX6 45 "ClassStarts$Kind" "number" "I" ∈ gwA := gw_in (mt_1 _ (List.mem_of_getElem? (i := 153) rfl)) rfl
theorem fl_X6_52 : Cond.fieldLink RX6 52 "ClassStarts$Kind" "state" "I" ∈ gwA := gw_in (mt_1 _ (List.mem_of_getElem? (i := 185) rfl)) rfl
theorem ml_X6_48 : Cond.methodLink RX6 48 yX2_hasFace ∈ gwA := gw_in (mt_1 _ (List.mem_of_getElem? (i := 219) rfl)) rfl
theorem im_X2_hasFace : Cond.instanceMethod yX2_hasFace ∈ gwA := gw_in (mt_1 _ (List.mem_of_getElem? (i := 220) rfl)) rfl
theorem se_X2_hasFace : Cond.selects RX2 yX2_hasFace yX2_hasFace ∈ gwA := gw_in (mt_1 _ (List.mem_of_getElem? (i := 221) rfl)) rfl
theorem co_X2_hasFace : Cond.code yX2_hasFace cX2_hasFace 3 (some .boolean) ∈ gwA := gw_in (mt_1 _ (List.mem_of_getElem? (i := 222) rfl)) rfl
theorem ml_X6_55 : Cond.methodLink RX6 55 yX2_addFace ∈ gwA := gw_in (mt_1 _ (List.mem_of_getElem? (i := 223) rfl)) rfl
theorem im_X2_addFace : Cond.instanceMethod yX2_addFace ∈ gwA := gw_in (mt_1 _ (List.mem_of_getElem? (i := 224) rfl)) rfl
theorem se_X2_addFace : Cond.selects RX2 yX2_addFace yX2_addFace ∈ gwA := gw_in (mt_1 _ (List.mem_of_getElem? (i := 225) rfl)) rfl
theorem co_X2_addFace : Cond.code yX2_addFace cX2_addFace 2 (some .int) ∈ gwA := gw_in (mt_1 _ (List.mem_of_getElem? (i := 226) rfl)) rfl
theorem ml_L_27 : Cond.methodLink RL 27 yX7_bears ∈ gwA := gw_in (mt_3 _ (List.mem_of_getElem? (i := 155) rfl)) rfl
theorem im_X7_bears : Cond.instanceMethod yX7_bears ∈ gwA := gw_in (mt_3 _ (List.mem_of_getElem? (i := 156) rfl)) rfl
theorem se_X7_bears : Cond.selects RX7 yX7_bears yX7_bears ∈ gwA := gw_in (mt_3 _ (List.mem_of_getElem? (i := 157) rfl)) rfl
theorem co_X7_bears : Cond.code yX7_bears cX7_bears 5 (some .int) ∈ gwA := gw_in (mt_3 _ (List.mem_of_getElem? (i := 158) rfl)) rfl
theorem ml_L_28 : Cond.methodLink RL 28 yX6_constant ∈ gwA := gw_in (mt_1 _ (List.mem_of_getElem? (i := 227) rfl)) rfl
theorem im_X6_constant : Cond.instanceMethod yX6_constant ∈ gwA := gw_in (mt_1 _ (List.mem_of_getElem? (i := 228) rfl)) rfl
theorem se_X6_constant : Cond.selects RX6 yX6_constant yX6_constant ∈ gwA := gw_in (mt_1 _ (List.mem_of_getElem? (i := 229) rfl)) rfl
theorem co_X6_constant : Cond.code yX6_constant cX6_constant 5 (some .int) ∈ gwA := gw_in (mt_1 _ (List.mem_of_getElem? (i := 230) rfl)) rfl
theorem ml_X6_59 : Cond.methodLink RX6 59 yX2_isField ∈ gwA := gw_in (mt_1 _ (List.mem_of_getElem? (i := 231) rfl)) rfl
theorem st_X2_isField : Cond.static yX2_isField ∈ gwA := gw_in (mt_1 _ (List.mem_of_getElem? (i := 232) rfl)) rfl
theorem co_X2_isField : Cond.code yX2_isField cX2_isField 1 (some .boolean) ∈ gwA := gw_in (mt_1 _ (List.mem_of_getElem? (i := 233) rfl)) rfl
theorem ml_X6_62 : Cond.methodLink RX6 62 yX2_isConstant ∈ gwA := gw_in (mt_1 _ (List.mem_of_getElem? (i := 234) rfl)) rfl
theorem im_X2_isConstant : Cond.instanceMethod yX2_isConstant ∈ gwA := gw_in (mt_1 _ (List.mem_of_getElem? (i := 235) rfl)) rfl
theorem se_X2_isConstant : Cond.selects RX2 yX2_isConstant yX2_isConstant ∈ gwA := gw_in (mt_1 _ (List.mem_of_getElem? (i := 236) rfl)) rfl
theorem co_X2_isConstant : Cond.code yX2_isConstant cX2_isConstant 2 (some .boolean) ∈ gwA := gw_in (mt_1 _ (List.mem_of_getElem? (i := 237) rfl)) rfl
theorem ml_X2_59 : Cond.methodLink RX2 59 yX2_isField ∈ gwA := gw_in (mt_1 _ (List.mem_of_getElem? (i := 238) rfl)) rfl
theorem ml_X6_65 : Cond.methodLink RX6 65 yX2_fix ∈ gwA := gw_in (mt_1 _ (List.mem_of_getElem? (i := 239) rfl)) rfl
theorem im_X2_fix : Cond.instanceMethod yX2_fix ∈ gwA := gw_in (mt_2 _ (List.mem_of_getElem? (i := 0) rfl)) rfl
theorem se_X2_fix : Cond.selects RX2 yX2_fix yX2_fix ∈ gwA := gw_in (mt_2 _ (List.mem_of_getElem? (i := 1) rfl)) rfl
theorem co_X2_fix : Cond.code yX2_fix cX2_fix 3 none ∈ gwA := gw_in (mt_2 _ (List.mem_of_getElem? (i := 2) rfl)) rfl
theorem ml_L_32 : Cond.methodLink RL 32 yX7_constant ∈ gwA := gw_in (mt_3 _ (List.mem_of_getElem? (i := 159) rfl)) rfl
theorem im_X7_constant : Cond.instanceMethod yX7_constant ∈ gwA := gw_in (mt_3 _ (List.mem_of_getElem? (i := 160) rfl)) rfl
theorem se_X7_constant : Cond.selects RX7 yX7_constant yX7_constant ∈ gwA := gw_in (mt_3 _ (List.mem_of_getElem? (i := 161) rfl)) rfl
theorem co_X7_constant : Cond.code yX7_constant cX7_constant 4 (some .int) ∈ gwA := gw_in (mt_3 _ (List.mem_of_getElem? (i := 162) rfl)) rfl
theorem ml_X7_95 : Cond.methodLink RX7 95 yX7_isField ∈ gwA := gw_in (mt_3 _ (List.mem_of_getElem? (i := 163) rfl)) rfl
theorem st_X7_isField : Cond.static yX7_isField ∈ gwA := gw_in (mt_3 _ (List.mem_of_getElem? (i := 164) rfl)) rfl
theorem co_X7_isField : Cond.code yX7_isField cX7_isField 1 (some .boolean) ∈ gwA := gw_in (mt_3 _ (List.mem_of_getElem? (i := 165) rfl)) rfl
theorem ml_L_33 : Cond.methodLink RL 33 yX6_act ∈ gwA := gw_in (mt_2 _ (List.mem_of_getElem? (i := 3) rfl)) rfl
theorem im_X6_act : Cond.instanceMethod yX6_act ∈ gwA := gw_in (mt_2 _ (List.mem_of_getElem? (i := 4) rfl)) rfl
theorem se_X6_act : Cond.selects RX6 yX6_act yX6_act ∈ gwA := gw_in (mt_2 _ (List.mem_of_getElem? (i := 5) rfl)) rfl
theorem co_X6_act : Cond.code yX6_act cX6_act 9 (some .int) ∈ gwA := gw_in (mt_2 _ (List.mem_of_getElem? (i := 6) rfl)) rfl
theorem fl_X6_82 : Cond.fieldLink RX6 82 "ClassStarts$Kind" "methods" "[LClassStarts$Method;" ∈ gwA := gw_in (mt_1 _ (List.mem_of_getElem? (i := 181) rfl)) rfl
theorem ml_X6_69 : Cond.methodLink RX6 69 yX6_named ∈ gwA := gw_in (mt_2 _ (List.mem_of_getElem? (i := 7) rfl)) rfl
theorem im_X6_named : Cond.instanceMethod yX6_named ∈ gwA := gw_in (mt_2 _ (List.mem_of_getElem? (i := 9) rfl)) rfl
theorem se_X6_named : Cond.selects RX6 yX6_named yX6_named ∈ gwA := gw_in (mp_1 (yX6_named, 4) (List.mem_of_getElem? (i := 2) rfl)) rfl
theorem co_X6_named : Cond.code yX6_named cX6_named 5 (some (.object "ClassStarts$Kind")) ∈ gwA := gw_in (mt_2 _ (List.mem_of_getElem? (i := 10) rfl)) rfl
theorem ml_X6_73 : Cond.methodLink RX6 73 yX2_isMethod ∈ gwA := gw_in (mt_2 _ (List.mem_of_getElem? (i := 11) rfl)) rfl
theorem st_X2_isMethod : Cond.static yX2_isMethod ∈ gwA := gw_in (mt_2 _ (List.mem_of_getElem? (i := 12) rfl)) rfl
theorem co_X2_isMethod : Cond.code yX2_isMethod cX2_isMethod 1 (some .boolean) ∈ gwA := gw_in (mt_2 _ (List.mem_of_getElem? (i := 13) rfl)) rfl
theorem ml_X6_76 : Cond.methodLink RX6 76 yX0_numbersFit ∈ gwA := gw_in (mt_2 _ (List.mem_of_getElem? (i := 14) rfl)) rfl
theorem st_X0_numbersFit : Cond.static yX0_numbersFit ∈ gwA := gw_in (mt_2 _ (List.mem_of_getElem? (i := 15) rfl)) rfl
theorem in_X0 : Cond.initialized RX0 ∈ gwA := gw_in (mt_1 _ (List.mem_of_getElem? (i := 8) rfl)) rfl
theorem co_X0_numbersFit : Cond.code yX0_numbersFit cX0_numbersFit 4 (some .boolean) ∈ gwA := gw_in (mt_2 _ (List.mem_of_getElem? (i := 16) rfl)) rfl
theorem ml_X0_31 : Cond.methodLink RX0 31 yX2_isField ∈ gwA := gw_in (mt_2 _ (List.mem_of_getElem? (i := 17) rfl)) rfl
theorem ml_X0_37 : Cond.methodLink RX0 37 yX2_isCallable ∈ gwA := gw_in (mt_2 _ (List.mem_of_getElem? (i := 18) rfl)) rfl
theorem st_X2_isCallable : Cond.static yX2_isCallable ∈ gwA := gw_in (mt_2 _ (List.mem_of_getElem? (i := 19) rfl)) rfl
theorem co_X2_isCallable : Cond.code yX2_isCallable cX2_isCallable 1 (some .boolean) ∈ gwA := gw_in (mt_2 _ (List.mem_of_getElem? (i := 20) rfl)) rfl
theorem ml_X6_86 : Cond.methodLink RX6 86 yX4_append ∈ gwA := gw_in (mt_2 _ (List.mem_of_getElem? (i := 21) rfl)) rfl
theorem im_X4_append : Cond.instanceMethod yX4_append ∈ gwA := gw_in (mt_2 _ (List.mem_of_getElem? (i := 22) rfl)) rfl
theorem se_X4_append : Cond.selects RX4 yX4_append yX4_append ∈ gwA := gw_in (mt_2 _ (List.mem_of_getElem? (i := 23) rfl)) rfl
theorem co_X4_append : Cond.code yX4_append cX4_append 7 (some .int) ∈ gwA := gw_in (mt_2 _ (List.mem_of_getElem? (i := 24) rfl)) rfl
theorem ia_X0 : Cond.instantiable RX0 6 ∈ gwA := gw_in (mt_2 _ (List.mem_of_getElem? (i := 36) rfl)) rfl
theorem ml_X4_24 : Cond.methodLink RX4 24 yX4_lastGuarded ∈ gwA := gw_in (mt_2 _ (List.mem_of_getElem? (i := 25) rfl)) rfl
theorem im_X4_lastGuarded : Cond.instanceMethod yX4_lastGuarded ∈ gwA := gw_in (mt_2 _ (List.mem_of_getElem? (i := 27) rfl)) rfl
theorem se_X4_lastGuarded : Cond.selects RX4 yX4_lastGuarded yX4_lastGuarded ∈ gwA := gw_in (mp_1 (yX4_lastGuarded, 3) (List.mem_of_getElem? (i := 3) rfl)) rfl
theorem co_X4_lastGuarded : Cond.code yX4_lastGuarded cX4_lastGuarded 4 (some .int) ∈ gwA := gw_in (mt_2 _ (List.mem_of_getElem? (i := 28) rfl)) rfl
theorem fl_X4_35 : Cond.fieldLink RX4 35 "ClassStarts$Act" "lastGuarded" "I" ∈ gwA := gw_in (mt_2 _ (List.mem_of_getElem? (i := 55) rfl)) rfl
theorem ml_X4_37 : Cond.methodLink RX4 37 Lib.Math.min.name ∈ gwA := gw_in (mt_2 _ (List.mem_of_getElem? (i := 33) rfl)) rfl
theorem st_Lib_Math_min_name : Cond.static Lib.Math.min.name ∈ gwA := gw_in (mt_2 _ (List.mem_of_getElem? (i := 34) rfl)) rfl
theorem in_Math : Cond.initialized "java/lang/Math" ∈ gwA := gw_in (mt_1 _ (List.mem_of_getElem? (i := 9) rfl)) rfl
theorem co_Lib_Math_min_name : Cond.code Lib.Math.min.name Lib.Math.min.code 2 (some .int) ∈ gwA := gw_in (mt_2 _ (List.mem_of_getElem? (i := 35) rfl)) rfl
theorem ml_X4_31 : Cond.methodLink RX4 31 yX0_guards ∈ gwA := gw_in (mt_2 _ (List.mem_of_getElem? (i := 29) rfl)) rfl
theorem im_X0_guards : Cond.instanceMethod yX0_guards ∈ gwA := gw_in (mt_2 _ (List.mem_of_getElem? (i := 30) rfl)) rfl
theorem se_X0_guards : Cond.selects RX0 yX0_guards yX0_guards ∈ gwA := gw_in (mt_2 _ (List.mem_of_getElem? (i := 31) rfl)) rfl
theorem co_X0_guards : Cond.code yX0_guards cX0_guards 2 (some .boolean) ∈ gwA := gw_in (mt_2 _ (List.mem_of_getElem? (i := 32) rfl)) rfl
theorem fl_X0_9 : Cond.fieldLink RX0 9 "ClassStarts$Act" "sort" "I" ∈ gwA := gw_in (mt_2 _ (List.mem_of_getElem? (i := 41) rfl)) rfl
theorem fl_X0_28 : Cond.fieldLink RX0 28 "ClassStarts$Act" "lastGuarded" "I" ∈ gwA := gw_in (mt_2 _ (List.mem_of_getElem? (i := 54) rfl)) rfl
theorem ml_X4_28 : Cond.methodLink RX4 28 yX0_init ∈ gwA := gw_in (mt_2 _ (List.mem_of_getElem? (i := 37) rfl)) rfl
theorem im_X0_init : Cond.instanceMethod yX0_init ∈ gwA := gw_in (mt_2 _ (List.mem_of_getElem? (i := 38) rfl)) rfl
theorem co_X0_init : Cond.code yX0_init cX0_init 7 none ∈ gwA := gw_in (mt_2 _ (List.mem_of_getElem? (i := 39) rfl)) rfl
theorem ml_X0_3 : Cond.methodLink RX0 3 objectInit ∈ gwA := gw_in (mt_2 _ (List.mem_of_getElem? (i := 40) rfl)) rfl
theorem fl_X0_15 : Cond.fieldLink RX0 15 "ClassStarts$Act" "other" "LClassStarts$Kind;" ∈ gwA := gw_in (mt_2 _ (List.mem_of_getElem? (i := 44) rfl)) rfl
theorem fl_X0_19 : Cond.fieldLink RX0 19 "ClassStarts$Act" "a" "I" ∈ gwA := gw_in (mt_2 _ (List.mem_of_getElem? (i := 47) rfl)) rfl
theorem fl_X0_22 : Cond.fieldLink RX0 22 "ClassStarts$Act" "b" "I" ∈ gwA := gw_in (mt_2 _ (List.mem_of_getElem? (i := 49) rfl)) rfl
theorem fl_X0_25 : Cond.fieldLink RX0 25 "ClassStarts$Act" "c" "I" ∈ gwA := gw_in (mt_2 _ (List.mem_of_getElem? (i := 52) rfl)) rfl
theorem ml_L_37 : Cond.methodLink RL 37 yX7_act ∈ gwA := gw_in (mt_3 _ (List.mem_of_getElem? (i := 166) rfl)) rfl
theorem im_X7_act : Cond.instanceMethod yX7_act ∈ gwA := gw_in (mt_3 _ (List.mem_of_getElem? (i := 167) rfl)) rfl
theorem se_X7_act : Cond.selects RX7 yX7_act yX7_act ∈ gwA := gw_in (mt_3 _ (List.mem_of_getElem? (i := 168) rfl)) rfl
theorem co_X7_act : Cond.code yX7_act cX7_act 10 (some .int) ∈ gwA := gw_in (mt_3 _ (List.mem_of_getElem? (i := 169) rfl)) rfl
theorem ml_X7_98 : Cond.methodLink RX7 98 yX7_areIn ∈ gwA := gw_in (mt_3 _ (List.mem_of_getElem? (i := 170) rfl)) rfl
theorem st_X7_areIn : Cond.static yX7_areIn ∈ gwA := gw_in (mt_3 _ (List.mem_of_getElem? (i := 171) rfl)) rfl
theorem co_X7_areIn : Cond.code yX7_areIn cX7_areIn 4 (some .boolean) ∈ gwA := gw_in (mt_3 _ (List.mem_of_getElem? (i := 172) rfl)) rfl
theorem ml_L_38 : Cond.methodLink RL 38 yX6_run ∈ gwA := gw_in (mt_2 _ (List.mem_of_getElem? (i := 69) rfl)) rfl
theorem im_X6_run : Cond.instanceMethod yX6_run ∈ gwA := gw_in (mt_2 _ (List.mem_of_getElem? (i := 70) rfl)) rfl
theorem se_X6_run : Cond.selects RX6 yX6_run yX6_run ∈ gwA := gw_in (mt_2 _ (List.mem_of_getElem? (i := 71) rfl)) rfl
theorem co_X6_run : Cond.code yX6_run cX6_run 4 (some .int) ∈ gwA := gw_in (mt_2 _ (List.mem_of_getElem? (i := 72) rfl)) rfl
theorem ml_X6_92 : Cond.methodLink RX6 92 yX2_isCallable ∈ gwA := gw_in (mt_2 _ (List.mem_of_getElem? (i := 73) rfl)) rfl
theorem ml_X6_95 : Cond.methodLink RX6 95 yX3_execute ∈ gwA := gw_in (mt_2 _ (List.mem_of_getElem? (i := 74) rfl)) rfl
theorem im_X3_execute : Cond.instanceMethod yX3_execute ∈ gwA := gw_in (mt_2 _ (List.mem_of_getElem? (i := 75) rfl)) rfl
theorem se_X3_execute : Cond.selects RX3 yX3_execute yX3_execute ∈ gwA := gw_in (mt_2 _ (List.mem_of_getElem? (i := 76) rfl)) rfl
theorem co_X3_execute : Cond.code yX3_execute cX3_execute 4 (some .int) ∈ gwA := gw_in (mt_2 _ (List.mem_of_getElem? (i := 77) rfl)) rfl
theorem fl_X3_29 : Cond.fieldLink RX3 29 "ClassStarts$Journal" "ended" "I" ∈ gwA := gw_in (mt_1 _ (List.mem_of_getElem? (i := 48) rfl)) rfl
theorem ml_X3_18 : Cond.methodLink RX3 18 yX1_clear ∈ gwA := gw_in (mt_2 _ (List.mem_of_getElem? (i := 78) rfl)) rfl
theorem im_X1_clear : Cond.instanceMethod yX1_clear ∈ gwA := gw_in (mt_2 _ (List.mem_of_getElem? (i := 79) rfl)) rfl
theorem se_X1_clear : Cond.selects RX1 yX1_clear yX1_clear ∈ gwA := gw_in (mt_2 _ (List.mem_of_getElem? (i := 80) rfl)) rfl
theorem co_X1_clear : Cond.code yX1_clear cX1_clear 1 none ∈ gwA := gw_in (mt_2 _ (List.mem_of_getElem? (i := 81) rfl)) rfl
theorem ml_X3_21 : Cond.methodLink RX3 21 yX3_want ∈ gwA := gw_in (mt_2 _ (List.mem_of_getElem? (i := 82) rfl)) rfl
theorem im_X3_want : Cond.instanceMethod yX3_want ∈ gwA := gw_in (mt_2 _ (List.mem_of_getElem? (i := 84) rfl)) rfl
theorem se_X3_want : Cond.selects RX3 yX3_want yX3_want ∈ gwA := gw_in (mp_1 (yX3_want, 1) (List.mem_of_getElem? (i := 4) rfl)) rfl
theorem co_X3_want : Cond.code yX3_want cX3_want 4 (some .int) ∈ gwA := gw_in (mt_2 _ (List.mem_of_getElem? (i := 85) rfl)) rfl
theorem fl_X3_36 : Cond.fieldLink RX3 36 "ClassStarts$Kind" "state" "I" ∈ gwA := gw_in (mt_1 _ (List.mem_of_getElem? (i := 184) rfl)) rfl
theorem fl_X3_45 : Cond.fieldLink RX3 45 "ClassStarts$Kind" "number" "I" ∈ gwA := gw_in (mt_1 _ (List.mem_of_getElem? (i := 154) rfl)) rfl
theorem ml_X3_41 : Cond.methodLink RX3 41 yX3_raise ∈ gwA := gw_in (mt_2 _ (List.mem_of_getElem? (i := 86) rfl)) rfl
theorem im_X3_raise : Cond.instanceMethod yX3_raise ∈ gwA := gw_in (mt_2 _ (List.mem_of_getElem? (i := 88) rfl)) rfl
theorem se_X3_raise : Cond.selects RX3 yX3_raise yX3_raise ∈ gwA := gw_in (mp_1 (yX3_raise, 1) (List.mem_of_getElem? (i := 5) rfl)) rfl
theorem co_X3_raise : Cond.code yX3_raise cX3_raise 2 (some .int) ∈ gwA := gw_in (mt_2 _ (List.mem_of_getElem? (i := 89) rfl)) rfl
theorem fl_X3_33 : Cond.fieldLink RX3 33 "ClassStarts$Journal" "raised" "I" ∈ gwA := gw_in (mt_1 _ (List.mem_of_getElem? (i := 45) rfl)) rfl
theorem ml_X3_48 : Cond.methodLink RX3 48 yX1_note ∈ gwA := gw_in (mt_2 _ (List.mem_of_getElem? (i := 90) rfl)) rfl
theorem im_X1_note : Cond.instanceMethod yX1_note ∈ gwA := gw_in (mt_2 _ (List.mem_of_getElem? (i := 91) rfl)) rfl
theorem se_X1_note : Cond.selects RX1 yX1_note yX1_note ∈ gwA := gw_in (mt_2 _ (List.mem_of_getElem? (i := 92) rfl)) rfl
theorem co_X1_note : Cond.code yX1_note cX1_note 3 none ∈ gwA := gw_in (mt_2 _ (List.mem_of_getElem? (i := 93) rfl)) rfl
theorem ml_X3_52 : Cond.methodLink RX3 52 yX3_start ∈ gwA := gw_in (mt_2 _ (List.mem_of_getElem? (i := 94) rfl)) rfl
theorem im_X3_start : Cond.instanceMethod yX3_start ∈ gwA := gw_in (mt_2 _ (List.mem_of_getElem? (i := 96) rfl)) rfl
theorem se_X3_start : Cond.selects RX3 yX3_start yX3_start ∈ gwA := gw_in (mp_1 (yX3_start, 1) (List.mem_of_getElem? (i := 6) rfl)) rfl
theorem ml_X3_55 : Cond.methodLink RX3 55 yX3_afterStart ∈ gwA := gw_in (mt_2 _ (List.mem_of_getElem? (i := 176) rfl)) rfl
theorem im_X3_afterStart : Cond.instanceMethod yX3_afterStart ∈ gwA := gw_in (mt_2 _ (List.mem_of_getElem? (i := 178) rfl)) rfl
theorem se_X3_afterStart : Cond.selects RX3 yX3_afterStart yX3_afterStart ∈ gwA := gw_in (mp_2 (yX3_afterStart, 1) (List.mem_of_getElem? (i := 1) rfl)) rfl
theorem co_X3_afterStart : Cond.code yX3_afterStart cX3_afterStart 2 (some .int) ∈ gwA := gw_in (mt_2 _ (List.mem_of_getElem? (i := 179) rfl)) rfl
theorem fl_X3_69 : Cond.fieldLink RX3 69 "ClassStarts$Journal" "startCause" "I" ∈ gwA := gw_in (mt_1 _ (List.mem_of_getElem? (i := 51) rfl)) rfl
theorem co_X3_begin : Cond.code yX3_begin cX3_begin 5 (some .int) ∈ gwA := gw_in (mt_2 _ (List.mem_of_getElem? (i := 109) rfl)) rfl
theorem fl_X3_103 : Cond.fieldLink RX3 103 "ClassStarts$Journal" "acts" "I" ∈ gwA := gw_in (mt_1 _ (List.mem_of_getElem? (i := 42) rfl)) rfl
theorem fl_X3_111 : Cond.fieldLink RX3 111 "ClassStarts$Act" "other" "LClassStarts$Kind;" ∈ gwA := gw_in (mt_2 _ (List.mem_of_getElem? (i := 46) rfl)) rfl
theorem ml_X3_105 : Cond.methodLink RX3 105 yX0_wants ∈ gwA := gw_in (mt_2 _ (List.mem_of_getElem? (i := 110) rfl)) rfl
theorem im_X0_wants : Cond.instanceMethod yX0_wants ∈ gwA := gw_in (mt_2 _ (List.mem_of_getElem? (i := 111) rfl)) rfl
theorem se_X0_wants : Cond.selects RX0 yX0_wants yX0_wants ∈ gwA := gw_in (mt_2 _ (List.mem_of_getElem? (i := 112) rfl)) rfl
theorem co_X0_wants : Cond.code yX0_wants cX0_wants 1 (some .boolean) ∈ gwA := gw_in (mt_2 _ (List.mem_of_getElem? (i := 113) rfl)) rfl
theorem ml_X0_42 : Cond.methodLink RX0 42 yX2_isConstant ∈ gwA := gw_in (mt_2 _ (List.mem_of_getElem? (i := 114) rfl)) rfl
theorem ml_X3_114 : Cond.methodLink RX3 114 yX3_perform ∈ gwA := gw_in (mt_2 _ (List.mem_of_getElem? (i := 115) rfl)) rfl
theorem im_X3_perform : Cond.instanceMethod yX3_perform ∈ gwA := gw_in (mt_2 _ (List.mem_of_getElem? (i := 117) rfl)) rfl
theorem se_X3_perform : Cond.selects RX3 yX3_perform yX3_perform ∈ gwA := gw_in (mp_1 (yX3_perform, 1) (List.mem_of_getElem? (i := 10) rfl)) rfl
theorem co_X3_enter : Cond.code yX3_enter cX3_enter 4 (some .int) ∈ gwA := gw_in (mt_2 _ (List.mem_of_getElem? (i := 163) rfl)) rfl
theorem ml_X3_25 : Cond.methodLink RX3 25 yX3_work ∈ gwA := gw_in (mt_2 _ (List.mem_of_getElem? (i := 102) rfl)) rfl
theorem im_X3_work : Cond.instanceMethod yX3_work ∈ gwA := gw_in (mt_2 _ (List.mem_of_getElem? (i := 104) rfl)) rfl
theorem se_X3_work : Cond.selects RX3 yX3_work yX3_work ∈ gwA := gw_in (mp_1 (yX3_work, 1) (List.mem_of_getElem? (i := 8) rfl)) rfl
theorem co_X3_lookThrough : Cond.code yX3_lookThrough cX3_lookThrough 7 (some .int) ∈ gwA := gw_in (mt_2 _ (List.mem_of_getElem? (i := 101) rfl)) rfl
theorem fl_X3_72 : Cond.fieldLink RX3 72 "ClassStarts$Kind" "faceCount" "I" ∈ gwA := gw_in (mt_1 _ (List.mem_of_getElem? (i := 170) rfl)) rfl
theorem fl_X3_75 : Cond.fieldLink RX3 75 "ClassStarts$Kind" "faces" "[LClassStarts$Kind;" ∈ gwA := gw_in (mt_1 _ (List.mem_of_getElem? (i := 167) rfl)) rfl
theorem fl_X3_79 : Cond.fieldLink RX3 79 "ClassStarts$Kind" "hasDefaults" "Z" ∈ gwA := gw_in (mt_1 _ (List.mem_of_getElem? (i := 161) rfl)) rfl
theorem ml_X3_66 : Cond.methodLink RX3 66 yX3_lookThrough ∈ gwA := gw_in (mt_2 _ (List.mem_of_getElem? (i := 98) rfl)) rfl
theorem im_X3_lookThrough : Cond.instanceMethod yX3_lookThrough ∈ gwA := gw_in (mt_2 _ (List.mem_of_getElem? (i := 100) rfl)) rfl
theorem se_X3_lookThrough : Cond.selects RX3 yX3_lookThrough yX3_lookThrough ∈ gwA := gw_in (mp_1 (yX3_lookThrough, 1) (List.mem_of_getElem? (i := 7) rfl)) rfl
theorem co_X3_perform : Cond.code yX3_perform cX3_perform 4 (some .int) ∈ gwA := gw_in (mt_2 _ (List.mem_of_getElem? (i := 118) rfl)) rfl
theorem fl_X3_117 : Cond.fieldLink RX3 117 "ClassStarts$Act" "sort" "I" ∈ gwA := gw_in (mt_2 _ (List.mem_of_getElem? (i := 43) rfl)) rfl
theorem fl_X3_120 : Cond.fieldLink RX3 120 "ClassStarts$Act" "a" "I" ∈ gwA := gw_in (mt_2 _ (List.mem_of_getElem? (i := 48) rfl)) rfl
theorem fl_X3_123 : Cond.fieldLink RX3 123 "ClassStarts$Act" "b" "I" ∈ gwA := gw_in (mt_2 _ (List.mem_of_getElem? (i := 51) rfl)) rfl
theorem fl_X3_136 : Cond.fieldLink RX3 136 "ClassStarts$Act" "c" "I" ∈ gwA := gw_in (mt_2 _ (List.mem_of_getElem? (i := 53) rfl)) rfl
theorem ml_X3_126 : Cond.methodLink RX3 126 yX2_change ∈ gwA := gw_in (mt_2 _ (List.mem_of_getElem? (i := 119) rfl)) rfl
theorem im_X2_change : Cond.instanceMethod yX2_change ∈ gwA := gw_in (mt_2 _ (List.mem_of_getElem? (i := 120) rfl)) rfl
theorem se_X2_change : Cond.selects RX2 yX2_change yX2_change ∈ gwA := gw_in (mt_2 _ (List.mem_of_getElem? (i := 121) rfl)) rfl
theorem co_X2_change : Cond.code yX2_change cX2_change 3 none ∈ gwA := gw_in (mt_2 _ (List.mem_of_getElem? (i := 122) rfl)) rfl
theorem ml_X3_129 : Cond.methodLink RX3 129 yX2_valueOf ∈ gwA := gw_in (mt_2 _ (List.mem_of_getElem? (i := 123) rfl)) rfl
theorem im_X2_valueOf : Cond.instanceMethod yX2_valueOf ∈ gwA := gw_in (mt_2 _ (List.mem_of_getElem? (i := 124) rfl)) rfl
theorem se_X2_valueOf : Cond.selects RX2 yX2_valueOf yX2_valueOf ∈ gwA := gw_in (mt_2 _ (List.mem_of_getElem? (i := 125) rfl)) rfl
theorem co_X2_valueOf : Cond.code yX2_valueOf cX2_valueOf 2 (some .int) ∈ gwA := gw_in (mt_2 _ (List.mem_of_getElem? (i := 126) rfl)) rfl
theorem ml_X3_132 : Cond.methodLink RX3 132 yX3_readOther ∈ gwA := gw_in (mt_2 _ (List.mem_of_getElem? (i := 127) rfl)) rfl
theorem im_X3_readOther : Cond.instanceMethod yX3_readOther ∈ gwA := gw_in (mt_2 _ (List.mem_of_getElem? (i := 129) rfl)) rfl
theorem se_X3_readOther : Cond.selects RX3 yX3_readOther yX3_readOther ∈ gwA := gw_in (mp_1 (yX3_readOther, 1) (List.mem_of_getElem? (i := 11) rfl)) rfl
theorem co_X3_readOther : Cond.code yX3_readOther cX3_readOther 4 (some .int) ∈ gwA := gw_in (mt_2 _ (List.mem_of_getElem? (i := 130) rfl)) rfl
theorem fl_X3_161 : Cond.fieldLink RX3 161 "ClassStarts$Journal" "halfSeen" "I" ∈ gwA := gw_in (mt_1 _ (List.mem_of_getElem? (i := 40) rfl)) rfl
theorem ml_X3_157 : Cond.methodLink RX3 157 yX2_isConstant ∈ gwA := gw_in (mt_2 _ (List.mem_of_getElem? (i := 131) rfl)) rfl
theorem ml_X3_139 : Cond.methodLink RX3 139 yX3_divide ∈ gwA := gw_in (mt_2 _ (List.mem_of_getElem? (i := 132) rfl)) rfl
theorem im_X3_divide : Cond.instanceMethod yX3_divide ∈ gwA := gw_in (mt_2 _ (List.mem_of_getElem? (i := 134) rfl)) rfl
theorem se_X3_divide : Cond.selects RX3 yX3_divide yX3_divide ∈ gwA := gw_in (mp_1 (yX3_divide, 1) (List.mem_of_getElem? (i := 12) rfl)) rfl
theorem co_X3_divide : Cond.code yX3_divide cX3_divide 4 (some .int) ∈ gwA := gw_in (mt_2 _ (List.mem_of_getElem? (i := 135) rfl)) rfl
theorem ml_X3_142 : Cond.methodLink RX3 142 yX3_makeRow ∈ gwA := gw_in (mt_2 _ (List.mem_of_getElem? (i := 136) rfl)) rfl
theorem im_X3_makeRow : Cond.instanceMethod yX3_makeRow ∈ gwA := gw_in (mt_2 _ (List.mem_of_getElem? (i := 138) rfl)) rfl
theorem se_X3_makeRow : Cond.selects RX3 yX3_makeRow yX3_makeRow ∈ gwA := gw_in (mp_1 (yX3_makeRow, 1) (List.mem_of_getElem? (i := 13) rfl)) rfl
theorem co_X3_makeRow : Cond.code yX3_makeRow cX3_makeRow 3 (some .int) ∈ gwA := gw_in (mt_2 _ (List.mem_of_getElem? (i := 139) rfl)) rfl
theorem ml_X3_164 : Cond.methodLink RX3 164 yX2_makeRow ∈ gwA := gw_in (mt_2 _ (List.mem_of_getElem? (i := 140) rfl)) rfl
theorem im_X2_makeRow : Cond.instanceMethod yX2_makeRow ∈ gwA := gw_in (mt_2 _ (List.mem_of_getElem? (i := 141) rfl)) rfl
theorem se_X2_makeRow : Cond.selects RX2 yX2_makeRow yX2_makeRow ∈ gwA := gw_in (mt_2 _ (List.mem_of_getElem? (i := 142) rfl)) rfl
theorem co_X2_makeRow : Cond.code yX2_makeRow cX2_makeRow 3 none ∈ gwA := gw_in (mt_2 _ (List.mem_of_getElem? (i := 143) rfl)) rfl
theorem ml_X2_63 : Cond.methodLink RX2 63 Lib.Math.min.name ∈ gwA := gw_in (mt_2 _ (List.mem_of_getElem? (i := 144) rfl)) rfl
theorem ml_X2_69 : Cond.methodLink RX2 69 Lib.Math.max.name ∈ gwA := gw_in (mt_2 _ (List.mem_of_getElem? (i := 145) rfl)) rfl
theorem st_Lib_Math_max_name : Cond.static Lib.Math.max.name ∈ gwA := gw_in (mt_2 _ (List.mem_of_getElem? (i := 146) rfl)) rfl
theorem co_Lib_Math_max_name : Cond.code Lib.Math.max.name Lib.Math.max.code 2 (some .int) ∈ gwA := gw_in (mt_2 _ (List.mem_of_getElem? (i := 147) rfl)) rfl
theorem ml_X3_145 : Cond.methodLink RX3 145 yX3_putItem ∈ gwA := gw_in (mt_2 _ (List.mem_of_getElem? (i := 148) rfl)) rfl
theorem im_X3_putItem : Cond.instanceMethod yX3_putItem ∈ gwA := gw_in (mt_2 _ (List.mem_of_getElem? (i := 150) rfl)) rfl
theorem se_X3_putItem : Cond.selects RX3 yX3_putItem yX3_putItem ∈ gwA := gw_in (mp_1 (yX3_putItem, 1) (List.mem_of_getElem? (i := 14) rfl)) rfl
theorem co_X3_putItem : Cond.code yX3_putItem cX3_putItem 4 (some .int) ∈ gwA := gw_in (mt_2 _ (List.mem_of_getElem? (i := 151) rfl)) rfl
theorem fl_X3_170 : Cond.fieldLink RX3 170 "ClassStarts$Kind" "items" "I" ∈ gwA := gw_in (mt_1 _ (List.mem_of_getElem? (i := 178) rfl)) rfl
theorem fl_X3_173 : Cond.fieldLink RX3 173 "ClassStarts$Kind" "row" "[I" ∈ gwA := gw_in (mt_1 _ (List.mem_of_getElem? (i := 175) rfl)) rfl
theorem ml_X3_167 : Cond.methodLink RX3 167 yX2_hasItem ∈ gwA := gw_in (mt_2 _ (List.mem_of_getElem? (i := 152) rfl)) rfl
theorem im_X2_hasItem : Cond.instanceMethod yX2_hasItem ∈ gwA := gw_in (mt_2 _ (List.mem_of_getElem? (i := 153) rfl)) rfl
theorem se_X2_hasItem : Cond.selects RX2 yX2_hasItem yX2_hasItem ∈ gwA := gw_in (mt_2 _ (List.mem_of_getElem? (i := 154) rfl)) rfl
theorem co_X2_hasItem : Cond.code yX2_hasItem cX2_hasItem 2 (some .boolean) ∈ gwA := gw_in (mt_2 _ (List.mem_of_getElem? (i := 155) rfl)) rfl
theorem ml_X3_148 : Cond.methodLink RX3 148 yX3_takeItem ∈ gwA := gw_in (mt_2 _ (List.mem_of_getElem? (i := 156) rfl)) rfl
theorem im_X3_takeItem : Cond.instanceMethod yX3_takeItem ∈ gwA := gw_in (mt_2 _ (List.mem_of_getElem? (i := 158) rfl)) rfl
theorem se_X3_takeItem : Cond.selects RX3 yX3_takeItem yX3_takeItem ∈ gwA := gw_in (mp_1 (yX3_takeItem, 1) (List.mem_of_getElem? (i := 15) rfl)) rfl
theorem co_X3_takeItem : Cond.code yX3_takeItem cX3_takeItem 4 (some .int) ∈ gwA := gw_in (mt_2 _ (List.mem_of_getElem? (i := 159) rfl)) rfl
theorem ml_X3_151 : Cond.methodLink RX3 151 yX3_enter ∈ gwA := gw_in (mt_2 _ (List.mem_of_getElem? (i := 160) rfl)) rfl
theorem im_X3_enter : Cond.instanceMethod yX3_enter ∈ gwA := gw_in (mt_2 _ (List.mem_of_getElem? (i := 162) rfl)) rfl
theorem se_X3_enter : Cond.selects RX3 yX3_enter yX3_enter ∈ gwA := gw_in (mp_2 (yX3_enter, 1) (List.mem_of_getElem? (i := 0) rfl)) rfl
theorem ml_X3_154 : Cond.methodLink RX3 154 yX2_dropRow ∈ gwA := gw_in (mt_2 _ (List.mem_of_getElem? (i := 164) rfl)) rfl
theorem im_X2_dropRow : Cond.instanceMethod yX2_dropRow ∈ gwA := gw_in (mt_2 _ (List.mem_of_getElem? (i := 165) rfl)) rfl
theorem se_X2_dropRow : Cond.selects RX2 yX2_dropRow yX2_dropRow ∈ gwA := gw_in (mt_2 _ (List.mem_of_getElem? (i := 166) rfl)) rfl
theorem co_X2_dropRow : Cond.code yX2_dropRow cX2_dropRow 1 none ∈ gwA := gw_in (mt_2 _ (List.mem_of_getElem? (i := 167) rfl)) rfl
theorem co_X3_start : Cond.code yX3_start cX3_start 4 (some .int) ∈ gwA := gw_in (mt_2 _ (List.mem_of_getElem? (i := 97) rfl)) rfl
theorem fl_X3_58 : Cond.fieldLink RX3 58 "ClassStarts$Kind" "parent" "LClassStarts$Kind;" ∈ gwA := gw_in (mt_1 _ (List.mem_of_getElem? (i := 163) rfl)) rfl
theorem fl_X3_62 : Cond.fieldLink RX3 62 "ClassStarts$Kind" "isFace" "Z" ∈ gwA := gw_in (mt_1 _ (List.mem_of_getElem? (i := 157) rfl)) rfl
theorem co_X3_work : Cond.code yX3_work cX3_work 9 (some .int) ∈ gwA := gw_in (mt_2 _ (List.mem_of_getElem? (i := 105) rfl)) rfl
theorem fl_X3_82 : Cond.fieldLink RX3 82 "ClassStarts$Kind" "methods" "[LClassStarts$Method;" ∈ gwA := gw_in (mt_1 _ (List.mem_of_getElem? (i := 182) rfl)) rfl
theorem fl_X3_86 : Cond.fieldLink RX3 86 "ClassStarts$Method" "size" "I" ∈ gwA := gw_in (mt_1 _ (List.mem_of_getElem? (i := 143) rfl)) rfl
theorem fl_X3_91 : Cond.fieldLink RX3 91 "ClassStarts$Method" "acts" "[LClassStarts$Act;" ∈ gwA := gw_in (mt_1 _ (List.mem_of_getElem? (i := 140) rfl)) rfl
theorem ml_X3_95 : Cond.methodLink RX3 95 yX3_begin ∈ gwA := gw_in (mt_2 _ (List.mem_of_getElem? (i := 106) rfl)) rfl
theorem im_X3_begin : Cond.instanceMethod yX3_begin ∈ gwA := gw_in (mt_2 _ (List.mem_of_getElem? (i := 108) rfl)) rfl
theorem se_X3_begin : Cond.selects RX3 yX3_begin yX3_begin ∈ gwA := gw_in (mp_1 (yX3_begin, 1) (List.mem_of_getElem? (i := 9) rfl)) rfl
theorem ml_X3_99 : Cond.methodLink RX3 99 yX4_endOfCatch ∈ gwA := gw_in (mt_2 _ (List.mem_of_getElem? (i := 168) rfl)) rfl
theorem im_X4_endOfCatch : Cond.instanceMethod yX4_endOfCatch ∈ gwA := gw_in (mt_2 _ (List.mem_of_getElem? (i := 169) rfl)) rfl
theorem se_X4_endOfCatch : Cond.selects RX4 yX4_endOfCatch yX4_endOfCatch ∈ gwA := gw_in (mt_2 _ (List.mem_of_getElem? (i := 170) rfl)) rfl
theorem co_X4_endOfCatch : Cond.code yX4_endOfCatch cX4_endOfCatch 4 (some .int) ∈ gwA := gw_in (mt_2 _ (List.mem_of_getElem? (i := 171) rfl)) rfl
theorem ml_X4_43 : Cond.methodLink RX4 43 yX0_catches ∈ gwA := gw_in (mt_2 _ (List.mem_of_getElem? (i := 172) rfl)) rfl
theorem im_X0_catches : Cond.instanceMethod yX0_catches ∈ gwA := gw_in (mt_2 _ (List.mem_of_getElem? (i := 173) rfl)) rfl
theorem se_X0_catches : Cond.selects RX0 yX0_catches yX0_catches ∈ gwA := gw_in (mt_2 _ (List.mem_of_getElem? (i := 174) rfl)) rfl
theorem co_X0_catches : Cond.code yX0_catches cX0_catches 2 (some .boolean) ∈ gwA := gw_in (mt_2 _ (List.mem_of_getElem? (i := 175) rfl)) rfl
theorem ml_L_41 : Cond.methodLink RL 41 yX7_run ∈ gwA := gw_in (mt_3 _ (List.mem_of_getElem? (i := 173) rfl)) rfl
theorem im_X7_run : Cond.instanceMethod yX7_run ∈ gwA := gw_in (mt_3 _ (List.mem_of_getElem? (i := 174) rfl)) rfl
theorem se_X7_run : Cond.selects RX7 yX7_run yX7_run ∈ gwA := gw_in (mt_3 _ (List.mem_of_getElem? (i := 175) rfl)) rfl
theorem co_X7_run : Cond.code yX7_run cX7_run 3 (some .int) ∈ gwA := gw_in (mt_3 _ (List.mem_of_getElem? (i := 176) rfl)) rfl
theorem fl_X7_102 : Cond.fieldLink RX7 102 "ClassStartsModel" "events" "I" ∈ gwA := gw_in (mt_3 _ (List.mem_of_getElem? (i := 49) rfl)) rfl
theorem fl_X7_173 : Cond.fieldLink RX7 173 "ClassStartsModel" "half" "I" ∈ gwA := gw_in (mt_3 _ (List.mem_of_getElem? (i := 52) rfl)) rfl
theorem fl_X7_145 : Cond.fieldLink RX7 145 "ClassStartsModel" "worked" "I" ∈ gwA := gw_in (mt_3 _ (List.mem_of_getElem? (i := 53) rfl)) rfl
theorem fl_X7_105 : Cond.fieldLink RX7 105 "ClassStartsModel" "thrown" "I" ∈ gwA := gw_in (mt_3 _ (List.mem_of_getElem? (i := 54) rfl)) rfl
theorem fl_X7_126 : Cond.fieldLink RX7 126 "ClassStartsModel" "within" "I" ∈ gwA := gw_in (mt_3 _ (List.mem_of_getElem? (i := 57) rfl)) rfl
theorem fl_X7_108 : Cond.fieldLink RX7 108 "ClassStartsModel" "frames" "I" ∈ gwA := gw_in (mt_3 _ (List.mem_of_getElem? (i := 58) rfl)) rfl
theorem fl_X7_115 : Cond.fieldLink RX7 115 "ClassStartsModel" "flying" "I" ∈ gwA := gw_in (mt_3 _ (List.mem_of_getElem? (i := 67) rfl)) rfl
theorem fl_X7_142 : Cond.fieldLink RX7 142 "ClassStartsModel" "causeNow" "I" ∈ gwA := gw_in (mt_3 _ (List.mem_of_getElem? (i := 55) rfl)) rfl
theorem ml_X7_122 : Cond.methodLink RX7 122 yX7_push ∈ gwA := gw_in (mt_3 _ (List.mem_of_getElem? (i := 177) rfl)) rfl
theorem im_X7_push : Cond.instanceMethod yX7_push ∈ gwA := gw_in (mt_3 _ (List.mem_of_getElem? (i := 179) rfl)) rfl
theorem se_X7_push : Cond.selects RX7 yX7_push yX7_push ∈ gwA := gw_in (mp_2 (yX7_push, 34) (List.mem_of_getElem? (i := 11) rfl)) rfl
theorem co_X7_push : Cond.code yX7_push cX7_push 4 none ∈ gwA := gw_in (mt_3 _ (List.mem_of_getElem? (i := 180) rfl)) rfl
theorem ml_X7_176 : Cond.methodLink RX7 176 yX7_step ∈ gwA := gw_in (mt_3 _ (List.mem_of_getElem? (i := 181) rfl)) rfl
theorem im_X7_step : Cond.instanceMethod yX7_step ∈ gwA := gw_in (mt_3 _ (List.mem_of_getElem? (i := 183) rfl)) rfl
theorem se_X7_step : Cond.selects RX7 yX7_step yX7_step ∈ gwA := gw_in (mp_2 (yX7_step, 34) (List.mem_of_getElem? (i := 12) rfl)) rfl
theorem co_X7_step : Cond.code yX7_step cX7_step 3 none ∈ gwA := gw_in (mt_3 _ (List.mem_of_getElem? (i := 184) rfl)) rfl
theorem ml_X7_129 : Cond.methodLink RX7 129 yX7_goOn ∈ gwA := gw_in (mt_3 _ (List.mem_of_getElem? (i := 185) rfl)) rfl
theorem im_X7_goOn : Cond.instanceMethod yX7_goOn ∈ gwA := gw_in (mt_3 _ (List.mem_of_getElem? (i := 187) rfl)) rfl
theorem se_X7_goOn : Cond.selects RX7 yX7_goOn yX7_goOn ∈ gwA := gw_in (mp_2 (yX7_goOn, 34) (List.mem_of_getElem? (i := 13) rfl)) rfl
theorem co_X7_goOn : Cond.code yX7_goOn cX7_goOn 6 none ∈ gwA := gw_in (mt_3 _ (List.mem_of_getElem? (i := 188) rfl)) rfl
theorem ml_X7_111 : Cond.methodLink RX7 111 yX7_arise ∈ gwA := gw_in (mt_3 _ (List.mem_of_getElem? (i := 189) rfl)) rfl
theorem im_X7_arise : Cond.instanceMethod yX7_arise ∈ gwA := gw_in (mt_3 _ (List.mem_of_getElem? (i := 191) rfl)) rfl
theorem se_X7_arise : Cond.selects RX7 yX7_arise yX7_arise ∈ gwA := gw_in (mp_2 (yX7_arise, 34) (List.mem_of_getElem? (i := 14) rfl)) rfl
theorem co_X7_arise : Cond.code yX7_arise cX7_arise 2 (some .int) ∈ gwA := gw_in (mt_3 _ (List.mem_of_getElem? (i := 192) rfl)) rfl
theorem ml_X7_148 : Cond.methodLink RX7 148 yX7_wants ∈ gwA := gw_in (mt_3 _ (List.mem_of_getElem? (i := 193) rfl)) rfl
theorem im_X7_wants : Cond.instanceMethod yX7_wants ∈ gwA := gw_in (mt_3 _ (List.mem_of_getElem? (i := 195) rfl)) rfl
theorem se_X7_wants : Cond.selects RX7 yX7_wants yX7_wants ∈ gwA := gw_in (mp_2 (yX7_wants, 34) (List.mem_of_getElem? (i := 15) rfl)) rfl
theorem co_X7_wants : Cond.code yX7_wants cX7_wants 5 (some .int) ∈ gwA := gw_in (mt_3 _ (List.mem_of_getElem? (i := 196) rfl)) rfl
theorem ml_X7_133 : Cond.methodLink RX7 133 yX7_want ∈ gwA := gw_in (mt_3 _ (List.mem_of_getElem? (i := 197) rfl)) rfl
theorem im_X7_want : Cond.instanceMethod yX7_want ∈ gwA := gw_in (mt_3 _ (List.mem_of_getElem? (i := 199) rfl)) rfl
theorem se_X7_want : Cond.selects RX7 yX7_want yX7_want ∈ gwA := gw_in (mp_3 (yX7_want, 34) (List.mem_of_getElem? (i := 0) rfl)) rfl
theorem co_X7_want : Cond.code yX7_want cX7_want 2 none ∈ gwA := gw_in (mt_3 _ (List.mem_of_getElem? (i := 200) rfl)) rfl
theorem ml_X7_118 : Cond.methodLink RX7 118 yX7_tell ∈ gwA := gw_in (mt_3 _ (List.mem_of_getElem? (i := 201) rfl)) rfl
theorem im_X7_tell : Cond.instanceMethod yX7_tell ∈ gwA := gw_in (mt_3 _ (List.mem_of_getElem? (i := 203) rfl)) rfl
theorem se_X7_tell : Cond.selects RX7 yX7_tell yX7_tell ∈ gwA := gw_in (mp_3 (yX7_tell, 34) (List.mem_of_getElem? (i := 1) rfl)) rfl
theorem co_X7_tell : Cond.code yX7_tell cX7_tell 3 none ∈ gwA := gw_in (mt_3 _ (List.mem_of_getElem? (i := 204) rfl)) rfl
theorem ml_X7_136 : Cond.methodLink RX7 136 yX7_enter ∈ gwA := gw_in (mt_3 _ (List.mem_of_getElem? (i := 205) rfl)) rfl
theorem im_X7_enter : Cond.instanceMethod yX7_enter ∈ gwA := gw_in (mt_3 _ (List.mem_of_getElem? (i := 207) rfl)) rfl
theorem se_X7_enter : Cond.selects RX7 yX7_enter yX7_enter ∈ gwA := gw_in (mp_3 (yX7_enter, 34) (List.mem_of_getElem? (i := 2) rfl)) rfl
theorem co_X7_enter : Cond.code yX7_enter cX7_enter 3 none ∈ gwA := gw_in (mt_3 _ (List.mem_of_getElem? (i := 208) rfl)) rfl
theorem ml_X7_152 : Cond.methodLink RX7 152 yX7_doOne ∈ gwA := gw_in (mt_3 _ (List.mem_of_getElem? (i := 209) rfl)) rfl
theorem im_X7_doOne : Cond.instanceMethod yX7_doOne ∈ gwA := gw_in (mt_3 _ (List.mem_of_getElem? (i := 211) rfl)) rfl
theorem se_X7_doOne : Cond.selects RX7 yX7_doOne yX7_doOne ∈ gwA := gw_in (mp_3 (yX7_doOne, 34) (List.mem_of_getElem? (i := 3) rfl)) rfl
theorem co_X7_doOne : Cond.code yX7_doOne cX7_doOne 6 (some .int) ∈ gwA := gw_in (mt_3 _ (List.mem_of_getElem? (i := 212) rfl)) rfl
theorem ml_X7_156 : Cond.methodLink RX7 156 yX7_set ∈ gwA := gw_in (mt_3 _ (List.mem_of_getElem? (i := 213) rfl)) rfl
theorem im_X7_set : Cond.instanceMethod yX7_set ∈ gwA := gw_in (mt_3 _ (List.mem_of_getElem? (i := 215) rfl)) rfl
theorem se_X7_set : Cond.selects RX7 yX7_set yX7_set ∈ gwA := gw_in (mp_3 (yX7_set, 34) (List.mem_of_getElem? (i := 4) rfl)) rfl
theorem co_X7_set : Cond.code yX7_set cX7_set 4 none ∈ gwA := gw_in (mt_3 _ (List.mem_of_getElem? (i := 216) rfl)) rfl
theorem ml_X7_159 : Cond.methodLink RX7 159 yX7_other ∈ gwA := gw_in (mt_3 _ (List.mem_of_getElem? (i := 217) rfl)) rfl
theorem im_X7_other : Cond.instanceMethod yX7_other ∈ gwA := gw_in (mt_3 _ (List.mem_of_getElem? (i := 219) rfl)) rfl
theorem se_X7_other : Cond.selects RX7 yX7_other yX7_other ∈ gwA := gw_in (mp_3 (yX7_other, 34) (List.mem_of_getElem? (i := 5) rfl)) rfl
theorem co_X7_other : Cond.code yX7_other cX7_other 8 (some .int) ∈ gwA := gw_in (mt_3 _ (List.mem_of_getElem? (i := 220) rfl)) rfl
theorem ml_X7_162 : Cond.methodLink RX7 162 yX7_get ∈ gwA := gw_in (mt_3 _ (List.mem_of_getElem? (i := 221) rfl)) rfl
theorem im_X7_get : Cond.instanceMethod yX7_get ∈ gwA := gw_in (mt_3 _ (List.mem_of_getElem? (i := 223) rfl)) rfl
theorem se_X7_get : Cond.selects RX7 yX7_get yX7_get ∈ gwA := gw_in (mp_3 (yX7_get, 34) (List.mem_of_getElem? (i := 6) rfl)) rfl
theorem co_X7_get : Cond.code yX7_get cX7_get 3 (some .int) ∈ gwA := gw_in (mt_3 _ (List.mem_of_getElem? (i := 224) rfl)) rfl
theorem ml_X7_166 : Cond.methodLink RX7 166 yX7_newRow ∈ gwA := gw_in (mt_3 _ (List.mem_of_getElem? (i := 225) rfl)) rfl
theorem im_X7_newRow : Cond.instanceMethod yX7_newRow ∈ gwA := gw_in (mt_3 _ (List.mem_of_getElem? (i := 227) rfl)) rfl
theorem se_X7_newRow : Cond.selects RX7 yX7_newRow yX7_newRow ∈ gwA := gw_in (mp_3 (yX7_newRow, 34) (List.mem_of_getElem? (i := 7) rfl)) rfl
theorem co_X7_newRow : Cond.code yX7_newRow cX7_newRow 5 (some .int) ∈ gwA := gw_in (mt_3 _ (List.mem_of_getElem? (i := 228) rfl)) rfl
theorem ml_X7_169 : Cond.methodLink RX7 169 yX7_inOut ∈ gwA := gw_in (mt_3 _ (List.mem_of_getElem? (i := 229) rfl)) rfl
theorem im_X7_inOut : Cond.instanceMethod yX7_inOut ∈ gwA := gw_in (mt_3 _ (List.mem_of_getElem? (i := 231) rfl)) rfl
theorem se_X7_inOut : Cond.selects RX7 yX7_inOut yX7_inOut ∈ gwA := gw_in (mp_3 (yX7_inOut, 34) (List.mem_of_getElem? (i := 8) rfl)) rfl
theorem co_X7_inOut : Cond.code yX7_inOut cX7_inOut 6 (some .int) ∈ gwA := gw_in (mt_3 _ (List.mem_of_getElem? (i := 232) rfl)) rfl
theorem ml_X7_139 : Cond.methodLink RX7 139 yX7_look ∈ gwA := gw_in (mt_3 _ (List.mem_of_getElem? (i := 233) rfl)) rfl
theorem im_X7_look : Cond.instanceMethod yX7_look ∈ gwA := gw_in (mt_3 _ (List.mem_of_getElem? (i := 235) rfl)) rfl
theorem se_X7_look : Cond.selects RX7 yX7_look yX7_look ∈ gwA := gw_in (mp_3 (yX7_look, 34) (List.mem_of_getElem? (i := 9) rfl)) rfl
theorem co_X7_look : Cond.code yX7_look cX7_look 4 none ∈ gwA := gw_in (mt_3 _ (List.mem_of_getElem? (i := 236) rfl)) rfl
theorem ml_X7_179 : Cond.methodLink RX7 179 yX7_fly ∈ gwA := gw_in (mt_3 _ (List.mem_of_getElem? (i := 237) rfl)) rfl
theorem im_X7_fly : Cond.instanceMethod yX7_fly ∈ gwA := gw_in (mt_3 _ (List.mem_of_getElem? (i := 239) rfl)) rfl
theorem se_X7_fly : Cond.selects RX7 yX7_fly yX7_fly ∈ gwA := gw_in (mp_3 (yX7_fly, 34) (List.mem_of_getElem? (i := 10) rfl)) rfl
theorem co_X7_fly : Cond.code yX7_fly cX7_fly 4 none ∈ gwA := gw_in (mt_4 _ (List.mem_of_getElem? (i := 0) rfl)) rfl
theorem ml_L_42 : Cond.methodLink RL 42 yX6_cause ∈ gwA := gw_in (mt_2 _ (List.mem_of_getElem? (i := 180) rfl)) rfl
theorem im_X6_cause : Cond.instanceMethod yX6_cause ∈ gwA := gw_in (mt_2 _ (List.mem_of_getElem? (i := 181) rfl)) rfl
theorem se_X6_cause : Cond.selects RX6 yX6_cause yX6_cause ∈ gwA := gw_in (mt_2 _ (List.mem_of_getElem? (i := 182) rfl)) rfl
theorem co_X6_cause : Cond.code yX6_cause cX6_cause 2 (some .int) ∈ gwA := gw_in (mt_2 _ (List.mem_of_getElem? (i := 183) rfl)) rfl
theorem fl_X6_99 : Cond.fieldLink RX6 99 "ClassStarts$Machine" "journal" "LClassStarts$Journal;" ∈ gwA := gw_in (mt_1 _ (List.mem_of_getElem? (i := 72) rfl)) rfl
theorem fl_X6_103 : Cond.fieldLink RX6 103 "ClassStarts$Journal" "ended" "I" ∈ gwA := gw_in (mt_1 _ (List.mem_of_getElem? (i := 49) rfl)) rfl
theorem fl_X6_108 : Cond.fieldLink RX6 108 "ClassStarts$Journal" "startCause" "I" ∈ gwA := gw_in (mt_1 _ (List.mem_of_getElem? (i := 52) rfl)) rfl
theorem ml_L_46 : Cond.methodLink RL 46 yX7_cause ∈ gwA := gw_in (mt_4 _ (List.mem_of_getElem? (i := 1) rfl)) rfl
theorem im_X7_cause : Cond.instanceMethod yX7_cause ∈ gwA := gw_in (mt_4 _ (List.mem_of_getElem? (i := 2) rfl)) rfl
theorem se_X7_cause : Cond.selects RX7 yX7_cause yX7_cause ∈ gwA := gw_in (mt_4 _ (List.mem_of_getElem? (i := 3) rfl)) rfl
theorem co_X7_cause : Cond.code yX7_cause cX7_cause 1 (some .int) ∈ gwA := gw_in (mt_4 _ (List.mem_of_getElem? (i := 4) rfl)) rfl
theorem ml_L_47 : Cond.methodLink RL 47 yX6_count ∈ gwA := gw_in (mt_2 _ (List.mem_of_getElem? (i := 184) rfl)) rfl
theorem im_X6_count : Cond.instanceMethod yX6_count ∈ gwA := gw_in (mt_2 _ (List.mem_of_getElem? (i := 185) rfl)) rfl
theorem se_X6_count : Cond.selects RX6 yX6_count yX6_count ∈ gwA := gw_in (mt_2 _ (List.mem_of_getElem? (i := 186) rfl)) rfl
theorem co_X6_count : Cond.code yX6_count cX6_count 3 (some .int) ∈ gwA := gw_in (mt_2 _ (List.mem_of_getElem? (i := 187) rfl)) rfl
theorem fl_X6_111 : Cond.fieldLink RX6 111 "ClassStarts$Journal" "events" "I" ∈ gwA := gw_in (mt_1 _ (List.mem_of_getElem? (i := 37) rfl)) rfl
theorem fl_X6_114 : Cond.fieldLink RX6 114 "ClassStarts$Journal" "halfSeen" "I" ∈ gwA := gw_in (mt_1 _ (List.mem_of_getElem? (i := 39) rfl)) rfl
theorem fl_X6_117 : Cond.fieldLink RX6 117 "ClassStarts$Journal" "acts" "I" ∈ gwA := gw_in (mt_1 _ (List.mem_of_getElem? (i := 43) rfl)) rfl
theorem fl_X6_120 : Cond.fieldLink RX6 120 "ClassStarts$Journal" "raised" "I" ∈ gwA := gw_in (mt_1 _ (List.mem_of_getElem? (i := 46) rfl)) rfl
theorem ml_L_50 : Cond.methodLink RL 50 yX7_count ∈ gwA := gw_in (mt_4 _ (List.mem_of_getElem? (i := 5) rfl)) rfl
theorem im_X7_count : Cond.instanceMethod yX7_count ∈ gwA := gw_in (mt_4 _ (List.mem_of_getElem? (i := 6) rfl)) rfl
theorem se_X7_count : Cond.selects RX7 yX7_count yX7_count ∈ gwA := gw_in (mt_4 _ (List.mem_of_getElem? (i := 7) rfl)) rfl
theorem co_X7_count : Cond.code yX7_count cX7_count 2 (some .int) ∈ gwA := gw_in (mt_4 _ (List.mem_of_getElem? (i := 8) rfl)) rfl
theorem ml_L_51 : Cond.methodLink RL 51 yX6_event ∈ gwA := gw_in (mt_2 _ (List.mem_of_getElem? (i := 188) rfl)) rfl
theorem im_X6_event : Cond.instanceMethod yX6_event ∈ gwA := gw_in (mt_2 _ (List.mem_of_getElem? (i := 189) rfl)) rfl
theorem se_X6_event : Cond.selects RX6 yX6_event yX6_event ∈ gwA := gw_in (mt_2 _ (List.mem_of_getElem? (i := 190) rfl)) rfl
theorem co_X6_event : Cond.code yX6_event cX6_event 4 (some .int) ∈ gwA := gw_in (mt_2 _ (List.mem_of_getElem? (i := 191) rfl)) rfl
theorem fl_X6_123 : Cond.fieldLink RX6 123 "ClassStarts$Journal" "sorts" "[I" ∈ gwA := gw_in (mt_1 _ (List.mem_of_getElem? (i := 33) rfl)) rfl
theorem fl_X6_127 : Cond.fieldLink RX6 127 "ClassStarts$Journal" "values" "[I" ∈ gwA := gw_in (mt_1 _ (List.mem_of_getElem? (i := 35) rfl)) rfl
theorem ml_L_54 : Cond.methodLink RL 54 yX7_event ∈ gwA := gw_in (mt_4 _ (List.mem_of_getElem? (i := 9) rfl)) rfl
theorem im_X7_event : Cond.instanceMethod yX7_event ∈ gwA := gw_in (mt_4 _ (List.mem_of_getElem? (i := 10) rfl)) rfl
theorem se_X7_event : Cond.selects RX7 yX7_event yX7_event ∈ gwA := gw_in (mt_4 _ (List.mem_of_getElem? (i := 11) rfl)) rfl
theorem co_X7_event : Cond.code yX7_event cX7_event 3 (some .int) ∈ gwA := gw_in (mt_4 _ (List.mem_of_getElem? (i := 12) rfl)) rfl
theorem ml_L_55 : Cond.methodLink RL 55 yX6_state ∈ gwA := gw_in (mt_2 _ (List.mem_of_getElem? (i := 192) rfl)) rfl
theorem im_X6_state : Cond.instanceMethod yX6_state ∈ gwA := gw_in (mt_2 _ (List.mem_of_getElem? (i := 193) rfl)) rfl
theorem se_X6_state : Cond.selects RX6 yX6_state yX6_state ∈ gwA := gw_in (mt_2 _ (List.mem_of_getElem? (i := 194) rfl)) rfl
theorem co_X6_state : Cond.code yX6_state cX6_state 3 (some .int) ∈ gwA := gw_in (mt_2 _ (List.mem_of_getElem? (i := 195) rfl)) rfl
theorem ml_L_58 : Cond.methodLink RL 58 yX7_state ∈ gwA := gw_in (mt_4 _ (List.mem_of_getElem? (i := 13) rfl)) rfl
theorem im_X7_state : Cond.instanceMethod yX7_state ∈ gwA := gw_in (mt_4 _ (List.mem_of_getElem? (i := 14) rfl)) rfl
theorem se_X7_state : Cond.selects RX7 yX7_state yX7_state ∈ gwA := gw_in (mt_4 _ (List.mem_of_getElem? (i := 15) rfl)) rfl
theorem co_X7_state : Cond.code yX7_state cX7_state 2 (some .int) ∈ gwA := gw_in (mt_4 _ (List.mem_of_getElem? (i := 16) rfl)) rfl
theorem ml_L_59 : Cond.methodLink RL 59 yX6_field ∈ gwA := gw_in (mt_2 _ (List.mem_of_getElem? (i := 196) rfl)) rfl
theorem im_X6_field : Cond.instanceMethod yX6_field ∈ gwA := gw_in (mt_2 _ (List.mem_of_getElem? (i := 197) rfl)) rfl
theorem se_X6_field : Cond.selects RX6 yX6_field yX6_field ∈ gwA := gw_in (mt_2 _ (List.mem_of_getElem? (i := 198) rfl)) rfl
theorem co_X6_field : Cond.code yX6_field cX6_field 4 (some .int) ∈ gwA := gw_in (mt_2 _ (List.mem_of_getElem? (i := 199) rfl)) rfl
theorem ml_X6_130 : Cond.methodLink RX6 130 yX2_valueOf ∈ gwA := gw_in (mt_2 _ (List.mem_of_getElem? (i := 200) rfl)) rfl
theorem ml_L_62 : Cond.methodLink RL 62 yX7_field ∈ gwA := gw_in (mt_4 _ (List.mem_of_getElem? (i := 17) rfl)) rfl
theorem im_X7_field : Cond.instanceMethod yX7_field ∈ gwA := gw_in (mt_4 _ (List.mem_of_getElem? (i := 18) rfl)) rfl
theorem se_X7_field : Cond.selects RX7 yX7_field yX7_field ∈ gwA := gw_in (mt_4 _ (List.mem_of_getElem? (i := 19) rfl)) rfl
theorem co_X7_field : Cond.code yX7_field cX7_field 3 (some .int) ∈ gwA := gw_in (mt_4 _ (List.mem_of_getElem? (i := 20) rfl)) rfl
theorem ml_L_63 : Cond.methodLink RL 63 yX6_row ∈ gwA := gw_in (mt_2 _ (List.mem_of_getElem? (i := 201) rfl)) rfl
theorem im_X6_row : Cond.instanceMethod yX6_row ∈ gwA := gw_in (mt_2 _ (List.mem_of_getElem? (i := 202) rfl)) rfl
theorem se_X6_row : Cond.selects RX6 yX6_row yX6_row ∈ gwA := gw_in (mt_2 _ (List.mem_of_getElem? (i := 203) rfl)) rfl
theorem co_X6_row : Cond.code yX6_row cX6_row 3 (some .int) ∈ gwA := gw_in (mt_2 _ (List.mem_of_getElem? (i := 204) rfl)) rfl
theorem fl_X6_134 : Cond.fieldLink RX6 134 "ClassStarts$Kind" "items" "I" ∈ gwA := gw_in (mt_1 _ (List.mem_of_getElem? (i := 177) rfl)) rfl
theorem ml_L_66 : Cond.methodLink RL 66 yX7_row ∈ gwA := gw_in (mt_4 _ (List.mem_of_getElem? (i := 21) rfl)) rfl
theorem im_X7_row : Cond.instanceMethod yX7_row ∈ gwA := gw_in (mt_4 _ (List.mem_of_getElem? (i := 22) rfl)) rfl
theorem se_X7_row : Cond.selects RX7 yX7_row yX7_row ∈ gwA := gw_in (mt_4 _ (List.mem_of_getElem? (i := 23) rfl)) rfl
theorem co_X7_row : Cond.code yX7_row cX7_row 2 (some .int) ∈ gwA := gw_in (mt_4 _ (List.mem_of_getElem? (i := 24) rfl)) rfl
theorem ml_L_67 : Cond.methodLink RL 67 yX6_item ∈ gwA := gw_in (mt_2 _ (List.mem_of_getElem? (i := 205) rfl)) rfl
theorem im_X6_item : Cond.instanceMethod yX6_item ∈ gwA := gw_in (mt_2 _ (List.mem_of_getElem? (i := 206) rfl)) rfl
theorem se_X6_item : Cond.selects RX6 yX6_item yX6_item ∈ gwA := gw_in (mt_2 _ (List.mem_of_getElem? (i := 207) rfl)) rfl
theorem co_X6_item : Cond.code yX6_item cX6_item 4 (some .int) ∈ gwA := gw_in (mt_2 _ (List.mem_of_getElem? (i := 208) rfl)) rfl
theorem fl_X6_140 : Cond.fieldLink RX6 140 "ClassStarts$Kind" "row" "[I" ∈ gwA := gw_in (mt_1 _ (List.mem_of_getElem? (i := 174) rfl)) rfl
theorem ml_X6_137 : Cond.methodLink RX6 137 yX2_hasItem ∈ gwA := gw_in (mt_2 _ (List.mem_of_getElem? (i := 209) rfl)) rfl
theorem ml_L_70 : Cond.methodLink RL 70 yX7_item ∈ gwA := gw_in (mt_4 _ (List.mem_of_getElem? (i := 25) rfl)) rfl
theorem im_X7_item : Cond.instanceMethod yX7_item ∈ gwA := gw_in (mt_4 _ (List.mem_of_getElem? (i := 26) rfl)) rfl
theorem se_X7_item : Cond.selects RX7 yX7_item yX7_item ∈ gwA := gw_in (mt_4 _ (List.mem_of_getElem? (i := 27) rfl)) rfl
theorem co_X7_item : Cond.code yX7_item cX7_item 3 (some .int) ∈ gwA := gw_in (mt_4 _ (List.mem_of_getElem? (i := 28) rfl)) rfl
theorem ml_L_71 : Cond.methodLink RL 71 yX6_again ∈ gwA := gw_in (mt_2 _ (List.mem_of_getElem? (i := 210) rfl)) rfl
theorem im_X6_again : Cond.instanceMethod yX6_again ∈ gwA := gw_in (mt_2 _ (List.mem_of_getElem? (i := 211) rfl)) rfl
theorem se_X6_again : Cond.selects RX6 yX6_again yX6_again ∈ gwA := gw_in (mt_2 _ (List.mem_of_getElem? (i := 212) rfl)) rfl
theorem co_X6_again : Cond.code yX6_again cX6_again 3 (some .int) ∈ gwA := gw_in (mt_2 _ (List.mem_of_getElem? (i := 213) rfl)) rfl
theorem ml_X6_143 : Cond.methodLink RX6 143 yX2_reset ∈ gwA := gw_in (mt_2 _ (List.mem_of_getElem? (i := 214) rfl)) rfl
theorem im_X2_reset : Cond.instanceMethod yX2_reset ∈ gwA := gw_in (mt_2 _ (List.mem_of_getElem? (i := 215) rfl)) rfl
theorem se_X2_reset : Cond.selects RX2 yX2_reset yX2_reset ∈ gwA := gw_in (mt_2 _ (List.mem_of_getElem? (i := 216) rfl)) rfl
theorem co_X2_reset : Cond.code yX2_reset cX2_reset 2 none ∈ gwA := gw_in (mt_2 _ (List.mem_of_getElem? (i := 217) rfl)) rfl
theorem ml_X2_72 : Cond.methodLink RX2 72 yX2_dropRow ∈ gwA := gw_in (mt_2 _ (List.mem_of_getElem? (i := 218) rfl)) rfl
theorem ml_X2_75 : Cond.methodLink RX2 75 yX2_change ∈ gwA := gw_in (mt_2 _ (List.mem_of_getElem? (i := 219) rfl)) rfl
theorem ml_L_74 : Cond.methodLink RL 74 yX7_again ∈ gwA := gw_in (mt_4 _ (List.mem_of_getElem? (i := 29) rfl)) rfl
theorem im_X7_again : Cond.instanceMethod yX7_again ∈ gwA := gw_in (mt_4 _ (List.mem_of_getElem? (i := 30) rfl)) rfl
theorem se_X7_again : Cond.selects RX7 yX7_again yX7_again ∈ gwA := gw_in (mt_4 _ (List.mem_of_getElem? (i := 31) rfl)) rfl
theorem co_X7_again : Cond.code yX7_again cX7_again 4 (some .int) ∈ gwA := gw_in (mt_4 _ (List.mem_of_getElem? (i := 32) rfl)) rfl
theorem ml_L_75 : Cond.methodLink RL 75 yX6_may ∈ gwA := gw_in (mt_2 _ (List.mem_of_getElem? (i := 220) rfl)) rfl
theorem im_X6_may : Cond.instanceMethod yX6_may ∈ gwA := gw_in (mt_2 _ (List.mem_of_getElem? (i := 221) rfl)) rfl
theorem se_X6_may : Cond.selects RX6 yX6_may yX6_may ∈ gwA := gw_in (mt_2 _ (List.mem_of_getElem? (i := 222) rfl)) rfl
theorem co_X6_may : Cond.code yX6_may cX6_may 4 (some .int) ∈ gwA := gw_in (mt_2 _ (List.mem_of_getElem? (i := 223) rfl)) rfl
theorem ml_X6_146 : Cond.methodLink RX6 146 yX5_ofMethod ∈ gwA := gw_in (mt_2 _ (List.mem_of_getElem? (i := 224) rfl)) rfl
theorem im_X5_ofMethod : Cond.instanceMethod yX5_ofMethod ∈ gwA := gw_in (mt_2 _ (List.mem_of_getElem? (i := 225) rfl)) rfl
theorem se_X5_ofMethod : Cond.selects RX5 yX5_ofMethod yX5_ofMethod ∈ gwA := gw_in (mt_2 _ (List.mem_of_getElem? (i := 226) rfl)) rfl
theorem co_X5_ofMethod : Cond.code yX5_ofMethod cX5_ofMethod 4 (some .int) ∈ gwA := gw_in (mt_2 _ (List.mem_of_getElem? (i := 227) rfl)) rfl
theorem fl_X5_37 : Cond.fieldLink RX5 37 "ClassStarts$Kind" "methods" "[LClassStarts$Method;" ∈ gwA := gw_in (mt_1 _ (List.mem_of_getElem? (i := 180) rfl)) rfl
theorem ml_X5_30 : Cond.methodLink RX5 30 yX5_clear ∈ gwA := gw_in (mt_2 _ (List.mem_of_getElem? (i := 228) rfl)) rfl
theorem im_X5_clear : Cond.instanceMethod yX5_clear ∈ gwA := gw_in (mt_2 _ (List.mem_of_getElem? (i := 230) rfl)) rfl
theorem se_X5_clear : Cond.selects RX5 yX5_clear yX5_clear ∈ gwA := gw_in (mp_2 (yX5_clear, 4) (List.mem_of_getElem? (i := 2) rfl)) rfl
theorem co_X5_clear : Cond.code yX5_clear cX5_clear 1 none ∈ gwA := gw_in (mt_2 _ (List.mem_of_getElem? (i := 231) rfl)) rfl
theorem ml_X5_33 : Cond.methodLink RX5 33 yX5_want ∈ gwA := gw_in (mt_2 _ (List.mem_of_getElem? (i := 232) rfl)) rfl
theorem im_X5_want : Cond.instanceMethod yX5_want ∈ gwA := gw_in (mt_2 _ (List.mem_of_getElem? (i := 234) rfl)) rfl
theorem se_X5_want : Cond.selects RX5 yX5_want yX5_want ∈ gwA := gw_in (mp_2 (yX5_want, 4) (List.mem_of_getElem? (i := 3) rfl)) rfl
theorem co_X5_want : Cond.code yX5_want cX5_want 4 none ∈ gwA := gw_in (mt_2 _ (List.mem_of_getElem? (i := 235) rfl)) rfl
theorem fl_X5_73 : Cond.fieldLink RX5 73 "ClassStarts$Kind" "isFace" "Z" ∈ gwA := gw_in (mt_1 _ (List.mem_of_getElem? (i := 158) rfl)) rfl
theorem fl_X5_81 : Cond.fieldLink RX5 81 "ClassStarts$Kind" "parent" "LClassStarts$Kind;" ∈ gwA := gw_in (mt_1 _ (List.mem_of_getElem? (i := 164) rfl)) rfl
theorem ml_X5_66 : Cond.methodLink RX5 66 yX5_isWanted ∈ gwA := gw_in (mt_2 _ (List.mem_of_getElem? (i := 236) rfl)) rfl
theorem im_X5_isWanted : Cond.instanceMethod yX5_isWanted ∈ gwA := gw_in (mt_2 _ (List.mem_of_getElem? (i := 238) rfl)) rfl
theorem se_X5_isWanted : Cond.selects RX5 yX5_isWanted yX5_isWanted ∈ gwA := gw_in (mp_2 (yX5_isWanted, 4) (List.mem_of_getElem? (i := 4) rfl)) rfl
theorem co_X5_isWanted : Cond.code yX5_isWanted cX5_isWanted 2 (some .boolean) ∈ gwA := gw_in (mt_2 _ (List.mem_of_getElem? (i := 239) rfl)) rfl
theorem ml_X5_94 : Cond.methodLink RX5 94 yX2_bit ∈ gwA := gw_in (mt_3 _ (List.mem_of_getElem? (i := 0) rfl)) rfl
theorem im_X2_bit : Cond.instanceMethod yX2_bit ∈ gwA := gw_in (mt_3 _ (List.mem_of_getElem? (i := 1) rfl)) rfl
theorem se_X2_bit : Cond.selects RX2 yX2_bit yX2_bit ∈ gwA := gw_in (mt_3 _ (List.mem_of_getElem? (i := 2) rfl)) rfl
theorem co_X2_bit : Cond.code yX2_bit cX2_bit 1 (some .int) ∈ gwA := gw_in (mt_3 _ (List.mem_of_getElem? (i := 3) rfl)) rfl
theorem ml_X5_70 : Cond.methodLink RX5 70 yX5_add ∈ gwA := gw_in (mt_3 _ (List.mem_of_getElem? (i := 4) rfl)) rfl
theorem im_X5_add : Cond.instanceMethod yX5_add ∈ gwA := gw_in (mt_3 _ (List.mem_of_getElem? (i := 6) rfl)) rfl
theorem se_X5_add : Cond.selects RX5 yX5_add yX5_add ∈ gwA := gw_in (mp_2 (yX5_add, 4) (List.mem_of_getElem? (i := 5) rfl)) rfl
theorem co_X5_add : Cond.code yX5_add cX5_add 2 none ∈ gwA := gw_in (mt_3 _ (List.mem_of_getElem? (i := 7) rfl)) rfl
theorem ml_X5_38 : Cond.methodLink RX5 38 yX5_list ∈ gwA := gw_in (mt_3 _ (List.mem_of_getElem? (i := 8) rfl)) rfl
theorem im_X5_list : Cond.instanceMethod yX5_list ∈ gwA := gw_in (mt_3 _ (List.mem_of_getElem? (i := 10) rfl)) rfl
theorem se_X5_list : Cond.selects RX5 yX5_list yX5_list ∈ gwA := gw_in (mp_2 (yX5_list, 4) (List.mem_of_getElem? (i := 6) rfl)) rfl
theorem co_X5_list : Cond.code yX5_list cX5_list 4 none ∈ gwA := gw_in (mt_3 _ (List.mem_of_getElem? (i := 11) rfl)) rfl
theorem fl_X5_98 : Cond.fieldLink RX5 98 "ClassStarts$Method" "number" "I" ∈ gwA := gw_in (mt_1 _ (List.mem_of_getElem? (i := 137) rfl)) rfl
theorem ml_X5_77 : Cond.methodLink RX5 77 yX5_lookThrough ∈ gwA := gw_in (mt_3 _ (List.mem_of_getElem? (i := 12) rfl)) rfl
theorem im_X5_lookThrough : Cond.instanceMethod yX5_lookThrough ∈ gwA := gw_in (mt_3 _ (List.mem_of_getElem? (i := 14) rfl)) rfl
theorem se_X5_lookThrough : Cond.selects RX5 yX5_lookThrough yX5_lookThrough ∈ gwA := gw_in (mp_2 (yX5_lookThrough, 4) (List.mem_of_getElem? (i := 7) rfl)) rfl
theorem co_X5_lookThrough : Cond.code yX5_lookThrough cX5_lookThrough 5 none ∈ gwA := gw_in (mt_3 _ (List.mem_of_getElem? (i := 15) rfl)) rfl
theorem fl_X5_84 : Cond.fieldLink RX5 84 "ClassStarts$Kind" "faceCount" "I" ∈ gwA := gw_in (mt_1 _ (List.mem_of_getElem? (i := 169) rfl)) rfl
theorem fl_X5_87 : Cond.fieldLink RX5 87 "ClassStarts$Kind" "faces" "[LClassStarts$Kind;" ∈ gwA := gw_in (mt_1 _ (List.mem_of_getElem? (i := 166) rfl)) rfl
theorem fl_X5_91 : Cond.fieldLink RX5 91 "ClassStarts$Kind" "hasDefaults" "Z" ∈ gwA := gw_in (mt_1 _ (List.mem_of_getElem? (i := 160) rfl)) rfl
theorem ml_X5_42 : Cond.methodLink RX5 42 yX5_follow ∈ gwA := gw_in (mt_3 _ (List.mem_of_getElem? (i := 16) rfl)) rfl
theorem im_X5_follow : Cond.instanceMethod yX5_follow ∈ gwA := gw_in (mt_3 _ (List.mem_of_getElem? (i := 18) rfl)) rfl
theorem se_X5_follow : Cond.selects RX5 yX5_follow yX5_follow ∈ gwA := gw_in (mp_2 (yX5_follow, 4) (List.mem_of_getElem? (i := 8) rfl)) rfl
theorem co_X5_follow : Cond.code yX5_follow cX5_follow 4 none ∈ gwA := gw_in (mt_3 _ (List.mem_of_getElem? (i := 19) rfl)) rfl
theorem fl_X5_45 : Cond.fieldLink RX5 45 "ClassStarts$Method" "size" "I" ∈ gwA := gw_in (mt_1 _ (List.mem_of_getElem? (i := 142) rfl)) rfl
theorem fl_X5_46 : Cond.fieldLink RX5 46 "ClassStarts$Method" "acts" "[LClassStarts$Act;" ∈ gwA := gw_in (mt_1 _ (List.mem_of_getElem? (i := 139) rfl)) rfl
theorem fl_X5_56 : Cond.fieldLink RX5 56 "ClassStarts$Act" "other" "LClassStarts$Kind;" ∈ gwA := gw_in (mt_2 _ (List.mem_of_getElem? (i := 45) rfl)) rfl
theorem fl_X5_60 : Cond.fieldLink RX5 60 "ClassStarts$Act" "sort" "I" ∈ gwA := gw_in (mt_2 _ (List.mem_of_getElem? (i := 42) rfl)) rfl
theorem fl_X5_63 : Cond.fieldLink RX5 63 "ClassStarts$Act" "b" "I" ∈ gwA := gw_in (mt_2 _ (List.mem_of_getElem? (i := 50) rfl)) rfl
theorem ml_X5_50 : Cond.methodLink RX5 50 yX0_wants ∈ gwA := gw_in (mt_3 _ (List.mem_of_getElem? (i := 20) rfl)) rfl
theorem ml_L_78 : Cond.methodLink RL 78 yX7_may ∈ gwA := gw_in (mt_4 _ (List.mem_of_getElem? (i := 33) rfl)) rfl
theorem im_X7_may : Cond.instanceMethod yX7_may ∈ gwA := gw_in (mt_4 _ (List.mem_of_getElem? (i := 34) rfl)) rfl
theorem se_X7_may : Cond.selects RX7 yX7_may yX7_may ∈ gwA := gw_in (mt_4 _ (List.mem_of_getElem? (i := 35) rfl)) rfl
theorem co_X7_may : Cond.code yX7_may cX7_may 5 (some .int) ∈ gwA := gw_in (mt_4 _ (List.mem_of_getElem? (i := 36) rfl)) rfl
theorem fl_X7_182 : Cond.fieldLink RX7 182 "ClassStartsModel" "wanted" "I" ∈ gwA := gw_in (mt_3 _ (List.mem_of_getElem? (i := 68) rfl)) rfl
theorem ml_X7_188 : Cond.methodLink RX7 188 yX7_mayWant ∈ gwA := gw_in (mt_4 _ (List.mem_of_getElem? (i := 37) rfl)) rfl
theorem im_X7_mayWant : Cond.instanceMethod yX7_mayWant ∈ gwA := gw_in (mt_4 _ (List.mem_of_getElem? (i := 39) rfl)) rfl
theorem se_X7_mayWant : Cond.selects RX7 yX7_mayWant yX7_mayWant ∈ gwA := gw_in (mp_3 (yX7_mayWant, 34) (List.mem_of_getElem? (i := 11) rfl)) rfl
theorem co_X7_mayWant : Cond.code yX7_mayWant cX7_mayWant 2 none ∈ gwA := gw_in (mt_4 _ (List.mem_of_getElem? (i := 40) rfl)) rfl
theorem ml_X7_185 : Cond.methodLink RX7 185 yX7_mayLook ∈ gwA := gw_in (mt_4 _ (List.mem_of_getElem? (i := 41) rfl)) rfl
theorem im_X7_mayLook : Cond.instanceMethod yX7_mayLook ∈ gwA := gw_in (mt_4 _ (List.mem_of_getElem? (i := 43) rfl)) rfl
theorem se_X7_mayLook : Cond.selects RX7 yX7_mayLook yX7_mayLook ∈ gwA := gw_in (mp_3 (yX7_mayLook, 34) (List.mem_of_getElem? (i := 12) rfl)) rfl
theorem co_X7_mayLook : Cond.code yX7_mayLook cX7_mayLook 5 none ∈ gwA := gw_in (mt_4 _ (List.mem_of_getElem? (i := 44) rfl)) rfl
theorem ml_X7_191 : Cond.methodLink RX7 191 yX7_mayActs ∈ gwA := gw_in (mt_4 _ (List.mem_of_getElem? (i := 45) rfl)) rfl
theorem im_X7_mayActs : Cond.instanceMethod yX7_mayActs ∈ gwA := gw_in (mt_4 _ (List.mem_of_getElem? (i := 47) rfl)) rfl
theorem se_X7_mayActs : Cond.selects RX7 yX7_mayActs yX7_mayActs ∈ gwA := gw_in (mp_3 (yX7_mayActs, 34) (List.mem_of_getElem? (i := 13) rfl)) rfl
theorem co_X7_mayActs : Cond.code yX7_mayActs cX7_mayActs 7 none ∈ gwA := gw_in (mt_4 _ (List.mem_of_getElem? (i := 48) rfl)) rfl
theorem ml_L_79 : Cond.methodLink RL 79 yX6_ahead ∈ gwA := gw_in (mt_3 _ (List.mem_of_getElem? (i := 21) rfl)) rfl
theorem im_X6_ahead : Cond.instanceMethod yX6_ahead ∈ gwA := gw_in (mt_3 _ (List.mem_of_getElem? (i := 22) rfl)) rfl
theorem se_X6_ahead : Cond.selects RX6 yX6_ahead yX6_ahead ∈ gwA := gw_in (mt_3 _ (List.mem_of_getElem? (i := 23) rfl)) rfl
theorem co_X6_ahead : Cond.code yX6_ahead cX6_ahead 5 (some .int) ∈ gwA := gw_in (mt_3 _ (List.mem_of_getElem? (i := 24) rfl)) rfl
theorem ml_X6_149 : Cond.methodLink RX6 149 yX5_ofStart ∈ gwA := gw_in (mt_3 _ (List.mem_of_getElem? (i := 25) rfl)) rfl
theorem im_X5_ofStart : Cond.instanceMethod yX5_ofStart ∈ gwA := gw_in (mt_3 _ (List.mem_of_getElem? (i := 26) rfl)) rfl
theorem se_X5_ofStart : Cond.selects RX5 yX5_ofStart yX5_ofStart ∈ gwA := gw_in (mt_3 _ (List.mem_of_getElem? (i := 27) rfl)) rfl
theorem co_X5_ofStart : Cond.code yX5_ofStart cX5_ofStart 2 (some .int) ∈ gwA := gw_in (mt_3 _ (List.mem_of_getElem? (i := 28) rfl)) rfl
theorem ml_X6_152 : Cond.methodLink RX6 152 yX2_bit ∈ gwA := gw_in (mt_3 _ (List.mem_of_getElem? (i := 29) rfl)) rfl
theorem ml_L_82 : Cond.methodLink RL 82 yX7_ahead ∈ gwA := gw_in (mt_4 _ (List.mem_of_getElem? (i := 49) rfl)) rfl
theorem im_X7_ahead : Cond.instanceMethod yX7_ahead ∈ gwA := gw_in (mt_4 _ (List.mem_of_getElem? (i := 50) rfl)) rfl
theorem se_X7_ahead : Cond.selects RX7 yX7_ahead yX7_ahead ∈ gwA := gw_in (mt_4 _ (List.mem_of_getElem? (i := 51) rfl)) rfl
theorem co_X7_ahead : Cond.code yX7_ahead cX7_ahead 5 (some .int) ∈ gwA := gw_in (mt_4 _ (List.mem_of_getElem? (i := 52) rfl)) rfl
theorem inX0 : ∀ w ∈ u_ws RX0 TX0 6, w ∈ gwA := List.forall_mem_cons.mpr ⟨gw_in (mt_2 _ (List.mem_of_getElem? (i := 56) rfl)) rfl, List.forall_mem_cons.mpr ⟨gw_in (mt_2 _ (List.mem_of_getElem? (i := 58) rfl)) rfl, List.forall_mem_cons.mpr ⟨gw_in (mt_2 _ (List.mem_of_getElem? (i := 60) rfl)) rfl, List.forall_mem_cons.mpr ⟨gw_in (mt_2 _ (List.mem_of_getElem? (i := 62) rfl)) rfl, List.forall_mem_cons.mpr ⟨gw_in (mt_2 _ (List.mem_of_getElem? (i := 64) rfl)) rfl, List.forall_mem_cons.mpr ⟨gw_in (mt_2 _ (List.mem_of_getElem? (i := 66) rfl)) rfl, fun _ h => absurd h List.not_mem_nil⟩⟩⟩⟩⟩⟩
theorem inX1 : ∀ w ∈ u_ws RX1 TX1 8, w ∈ gwA := List.forall_mem_cons.mpr ⟨gw_in (mt_1 _ (List.mem_of_getElem? (i := 53) rfl)) rfl, List.forall_mem_cons.mpr ⟨gw_in (mt_1 _ (List.mem_of_getElem? (i := 55) rfl)) rfl, List.forall_mem_cons.mpr ⟨gw_in (mt_1 _ (List.mem_of_getElem? (i := 57) rfl)) rfl, List.forall_mem_cons.mpr ⟨gw_in (mt_1 _ (List.mem_of_getElem? (i := 59) rfl)) rfl, List.forall_mem_cons.mpr ⟨gw_in (mt_1 _ (List.mem_of_getElem? (i := 61) rfl)) rfl, List.forall_mem_cons.mpr ⟨gw_in (mt_1 _ (List.mem_of_getElem? (i := 63) rfl)) rfl, List.forall_mem_cons.mpr ⟨gw_in (mt_1 _ (List.mem_of_getElem? (i := 65) rfl)) rfl, List.forall_mem_cons.mpr ⟨gw_in (mt_1 _ (List.mem_of_getElem? (i := 67) rfl)) rfl, fun _ h => absurd h List.not_mem_nil⟩⟩⟩⟩⟩⟩⟩⟩
theorem inX2 : ∀ w ∈ u_ws RX2 TX2 12, w ∈ gwA := List.forall_mem_cons.mpr ⟨gw_in (mt_1 _ (List.mem_of_getElem? (i := 186) rfl)) rfl, List.forall_mem_cons.mpr ⟨gw_in (mt_1 _ (List.mem_of_getElem? (i := 188) rfl)) rfl, List.forall_mem_cons.mpr ⟨gw_in (mt_1 _ (List.mem_of_getElem? (i := 190) rfl)) rfl, List.forall_mem_cons.mpr ⟨gw_in (mt_1 _ (List.mem_of_getElem? (i := 192) rfl)) rfl, List.forall_mem_cons.mpr ⟨gw_in (mt_1 _ (List.mem_of_getElem? (i := 194) rfl)) rfl, List.forall_mem_cons.mpr ⟨gw_in (mt_1 _ (List.mem_of_getElem? (i := 196) rfl)) rfl, List.forall_mem_cons.mpr ⟨gw_in (mt_1 _ (List.mem_of_getElem? (i := 198) rfl)) rfl, List.forall_mem_cons.mpr ⟨gw_in (mt_1 _ (List.mem_of_getElem? (i := 200) rfl)) rfl, List.forall_mem_cons.mpr ⟨gw_in (mt_1 _ (List.mem_of_getElem? (i := 202) rfl)) rfl, List.forall_mem_cons.mpr ⟨gw_in (mt_1 _ (List.mem_of_getElem? (i := 204) rfl)) rfl, List.forall_mem_cons.mpr ⟨gw_in (mt_1 _ (List.mem_of_getElem? (i := 206) rfl)) rfl, List.forall_mem_cons.mpr ⟨gw_in (mt_1 _ (List.mem_of_getElem? (i := 208) rfl)) rfl, fun _ h => absurd h List.not_mem_nil⟩⟩⟩⟩⟩⟩⟩⟩⟩⟩⟩⟩
theorem inX3 : ∀ w ∈ u_ws RX3 TX3 1, w ∈ gwA := List.forall_mem_cons.mpr ⟨gw_in (mt_1 _ (List.mem_of_getElem? (i := 73) rfl)) rfl, fun _ h => absurd h List.not_mem_nil⟩
theorem inX4 : ∀ w ∈ u_ws RX4 TX4 3, w ∈ gwA := List.forall_mem_cons.mpr ⟨gw_in (mt_1 _ (List.mem_of_getElem? (i := 144) rfl)) rfl, List.forall_mem_cons.mpr ⟨gw_in (mt_1 _ (List.mem_of_getElem? (i := 146) rfl)) rfl, List.forall_mem_cons.mpr ⟨gw_in (mt_1 _ (List.mem_of_getElem? (i := 148) rfl)) rfl, fun _ h => absurd h List.not_mem_nil⟩⟩⟩
theorem inX5 : ∀ w ∈ u_ws RX5 TX5 4, w ∈ gwA := List.forall_mem_cons.mpr ⟨gw_in (mt_1 _ (List.mem_of_getElem? (i := 88) rfl)) rfl, List.forall_mem_cons.mpr ⟨gw_in (mt_1 _ (List.mem_of_getElem? (i := 90) rfl)) rfl, List.forall_mem_cons.mpr ⟨gw_in (mt_1 _ (List.mem_of_getElem? (i := 92) rfl)) rfl, List.forall_mem_cons.mpr ⟨gw_in (mt_1 _ (List.mem_of_getElem? (i := 94) rfl)) rfl, fun _ h => absurd h List.not_mem_nil⟩⟩⟩⟩
theorem inX6 : ∀ w ∈ u_ws RX6 TX6 4, w ∈ gwA := List.forall_mem_cons.mpr ⟨gw_in (mt_1 _ (List.mem_of_getElem? (i := 101) rfl)) rfl, List.forall_mem_cons.mpr ⟨gw_in (mt_1 _ (List.mem_of_getElem? (i := 103) rfl)) rfl, List.forall_mem_cons.mpr ⟨gw_in (mt_1 _ (List.mem_of_getElem? (i := 105) rfl)) rfl, List.forall_mem_cons.mpr ⟨gw_in (mt_1 _ (List.mem_of_getElem? (i := 107) rfl)) rfl, fun _ h => absurd h List.not_mem_nil⟩⟩⟩⟩
theorem inX7 : ∀ w ∈ u_ws RX7 TX7 34, w ∈ gwA := List.forall_mem_cons.mpr ⟨gw_in (mt_3 _ (List.mem_of_getElem? (i := 70) rfl)) rfl, List.forall_mem_cons.mpr ⟨gw_in (mt_3 _ (List.mem_of_getElem? (i := 72) rfl)) rfl, List.forall_mem_cons.mpr ⟨gw_in (mt_3 _ (List.mem_of_getElem? (i := 74) rfl)) rfl, List.forall_mem_cons.mpr ⟨gw_in (mt_3 _ (List.mem_of_getElem? (i := 76) rfl)) rfl, List.forall_mem_cons.mpr ⟨gw_in (mt_3 _ (List.mem_of_getElem? (i := 78) rfl)) rfl, List.forall_mem_cons.mpr ⟨gw_in (mt_3 _ (List.mem_of_getElem? (i := 80) rfl)) rfl, List.forall_mem_cons.mpr ⟨gw_in (mt_3 _ (List.mem_of_getElem? (i := 82) rfl)) rfl, List.forall_mem_cons.mpr ⟨gw_in (mt_3 _ (List.mem_of_getElem? (i := 84) rfl)) rfl, List.forall_mem_cons.mpr ⟨gw_in (mt_3 _ (List.mem_of_getElem? (i := 86) rfl)) rfl, List.forall_mem_cons.mpr ⟨gw_in (mt_3 _ (List.mem_of_getElem? (i := 88) rfl)) rfl, List.forall_mem_cons.mpr ⟨gw_in (mt_3 _ (List.mem_of_getElem? (i := 90) rfl)) rfl, List.forall_mem_cons.mpr ⟨gw_in (mt_3 _ (List.mem_of_getElem? (i := 92) rfl)) rfl, List.forall_mem_cons.mpr ⟨gw_in (mt_3 _ (List.mem_of_getElem? (i := 94) rfl)) rfl, List.forall_mem_cons.mpr ⟨gw_in (mt_3 _ (List.mem_of_getElem? (i := 96) rfl)) rfl, List.forall_mem_cons.mpr ⟨gw_in (mt_3 _ (List.mem_of_getElem? (i := 98) rfl)) rfl, List.forall_mem_cons.mpr ⟨gw_in (mt_3 _ (List.mem_of_getElem? (i := 100) rfl)) rfl, List.forall_mem_cons.mpr ⟨gw_in (mt_3 _ (List.mem_of_getElem? (i := 102) rfl)) rfl, List.forall_mem_cons.mpr ⟨gw_in (mt_3 _ (List.mem_of_getElem? (i := 104) rfl)) rfl, List.forall_mem_cons.mpr ⟨gw_in (mt_3 _ (List.mem_of_getElem? (i := 106) rfl)) rfl, List.forall_mem_cons.mpr ⟨gw_in (mt_3 _ (List.mem_of_getElem? (i := 108) rfl)) rfl, List.forall_mem_cons.mpr ⟨gw_in (mt_3 _ (List.mem_of_getElem? (i := 110) rfl)) rfl, List.forall_mem_cons.mpr ⟨gw_in (mt_3 _ (List.mem_of_getElem? (i := 112) rfl)) rfl, List.forall_mem_cons.mpr ⟨gw_in (mt_3 _ (List.mem_of_getElem? (i := 114) rfl)) rfl, List.forall_mem_cons.mpr ⟨gw_in (mt_3 _ (List.mem_of_getElem? (i := 116) rfl)) rfl, List.forall_mem_cons.mpr ⟨gw_in (mt_3 _ (List.mem_of_getElem? (i := 118) rfl)) rfl, List.forall_mem_cons.mpr ⟨gw_in (mt_3 _ (List.mem_of_getElem? (i := 120) rfl)) rfl, List.forall_mem_cons.mpr ⟨gw_in (mt_3 _ (List.mem_of_getElem? (i := 122) rfl)) rfl, List.forall_mem_cons.mpr ⟨gw_in (mt_3 _ (List.mem_of_getElem? (i := 124) rfl)) rfl, List.forall_mem_cons.mpr ⟨gw_in (mt_3 _ (List.mem_of_getElem? (i := 126) rfl)) rfl, List.forall_mem_cons.mpr ⟨gw_in (mt_3 _ (List.mem_of_getElem? (i := 128) rfl)) rfl, List.forall_mem_cons.mpr ⟨gw_in (mt_3 _ (List.mem_of_getElem? (i := 130) rfl)) rfl, List.forall_mem_cons.mpr ⟨gw_in (mt_3 _ (List.mem_of_getElem? (i := 132) rfl)) rfl, List.forall_mem_cons.mpr ⟨gw_in (mt_3 _ (List.mem_of_getElem? (i := 134) rfl)) rfl, List.forall_mem_cons.mpr ⟨gw_in (mt_3 _ (List.mem_of_getElem? (i := 136) rfl)) rfl, fun _ h => absurd h List.not_mem_nil⟩⟩⟩⟩⟩⟩⟩⟩⟩⟩⟩⟩⟩⟩⟩⟩⟩⟩⟩⟩⟩⟩⟩⟩⟩⟩⟩⟩⟩⟩⟩⟩⟩⟩
