/-- the words that every contract here stands on: those of the tables that stay while classes are linked -/
def TT : List Cond := lw_tbl.filter goodWord
theorem tt_of {w : Cond} (h : w ∈ lw_tbl) (hg : goodWord w = true) : w ∈ TT := List.mem_filter.mpr ⟨h, hg⟩
theorem tt_p {w : Cond} (i : Nat) (h : (k2_sels lw_privs)[i]? = some w) (hg : goodWord w = true) : w ∈ TT := tt_of (List.mem_append_left _ (List.mem_of_getElem? h)) hg
theorem tt_1 {w : Cond} (i : Nat) (h : tables_1_1[i]? = some w) (hg : goodWord w = true) : w ∈ TT := tt_of (List.mem_append_right _ (List.mem_append_left _ (List.mem_of_getElem? h))) hg
theorem tt_2 {w : Cond} (i : Nat) (h : tables_1_2[i]? = some w) (hg : goodWord w = true) : w ∈ TT := tt_of (List.mem_append_right _ (List.mem_append_right _ (List.mem_append_left _ (List.mem_of_getElem? h)))) hg
theorem tt_3 {w : Cond} (i : Nat) (h : tables_1_3[i]? = some w) (hg : goodWord w = true) : w ∈ TT := tt_of (List.mem_append_right _ (List.mem_append_right _ (List.mem_append_right _ (List.mem_append_left _ (List.mem_of_getElem? h))))) hg
theorem tt_4 {w : Cond} (i : Nat) (h : tables_1_4[i]? = some w) (hg : goodWord w = true) : w ∈ TT := tt_of (List.mem_append_right _ (List.mem_append_right _ (List.mem_append_right _ (List.mem_append_right _ (List.mem_append_left _ (List.mem_of_getElem? h)))))) hg
theorem tt_5 {w : Cond} (i : Nat) (h : tables_1_5[i]? = some w) (hg : goodWord w = true) : w ∈ TT := tt_of (List.mem_append_right _ (List.mem_append_right _ (List.mem_append_right _ (List.mem_append_right _ (List.mem_append_right _ (List.mem_append_left _ (List.mem_of_getElem? h))))))) hg
theorem tt_6 {w : Cond} (i : Nat) (h : tables_1_6[i]? = some w) (hg : goodWord w = true) : w ∈ TT := tt_of (List.mem_append_right _ (List.mem_append_right _ (List.mem_append_right _ (List.mem_append_right _ (List.mem_append_right _ (List.mem_append_right _ (List.mem_of_getElem? h))))))) hg
set_option maxRecDepth 4000 in
theorem ini_L : Cond.initialized RL ∈ TT := tt_1 0 rfl rfl
set_option maxRecDepth 4000 in
theorem ini_X8 : Cond.initialized RX8 ∈ TT := tt_1 1 rfl rfl
set_option maxRecDepth 4000 in
theorem ini_X6 : Cond.initialized RX6 ∈ TT := tt_1 2 rfl rfl
set_option maxRecDepth 4000 in
theorem ini_J10 : Cond.initialized RJ10 ∈ TT := tt_1 3 rfl rfl
set_option maxRecDepth 4000 in
theorem ini_X5 : Cond.initialized RX5 ∈ TT := tt_1 4 rfl rfl
set_option maxRecDepth 4000 in
theorem ini_X3 : Cond.initialized RX3 ∈ TT := tt_1 5 rfl rfl
set_option maxRecDepth 4000 in
theorem ini_X0 : Cond.initialized RX0 ∈ TT := tt_1 6 rfl rfl
set_option maxRecDepth 4000 in
theorem ini_X2 : Cond.initialized RX2 ∈ TT := tt_1 7 rfl rfl
set_option maxRecDepth 4000 in
theorem ini_X7 : Cond.initialized RX7 ∈ TT := tt_1 8 rfl rfl
set_option maxRecDepth 4000 in
theorem ini_X1 : Cond.initialized RX1 ∈ TT := tt_1 9 rfl rfl
set_option maxRecDepth 4000 in
theorem ini_X4 : Cond.initialized RX4 ∈ TT := tt_1 10 rfl rfl
set_option maxRecDepth 4000 in
theorem ini_X9 : Cond.initialized RX9 ∈ TT := tt_1 11 rfl rfl
set_option maxRecDepth 4000 in
theorem ini_J6 : Cond.initialized RJ6 ∈ TT := tt_1 12 rfl rfl
set_option maxRecDepth 4000 in
theorem ini_J9 : Cond.initialized RJ9 ∈ TT := tt_1 13 rfl rfl
set_option maxRecDepth 4000 in
theorem ini_J7 : Cond.initialized RJ7 ∈ TT := tt_1 14 rfl rfl
set_option maxRecDepth 4000 in
theorem ini_J0 : Cond.initialized RJ0 ∈ TT := tt_1 15 rfl rfl
set_option maxRecDepth 4000 in
theorem ini_J1 : Cond.initialized RJ1 ∈ TT := tt_1 16 rfl rfl
set_option maxRecDepth 4000 in
theorem ini_J2 : Cond.initialized RJ2 ∈ TT := tt_1 17 rfl rfl
set_option maxRecDepth 4000 in
theorem ini_J3 : Cond.initialized RJ3 ∈ TT := tt_1 18 rfl rfl
set_option maxRecDepth 4000 in
theorem ini_J11 : Cond.initialized RJ11 ∈ TT := tt_1 19 rfl rfl
set_option maxRecDepth 4000 in
theorem cl_L_7 : Cond.classLink RL 7 RX8 ∈ TT := tt_1 20 rfl rfl
set_option maxRecDepth 4000 in
theorem inst_X8 : Cond.instantiable RX8 11 ∈ TT := tt_1 21 rfl rfl
set_option maxRecDepth 4000 in
theorem ml_L_9 : Cond.methodLink RL 9 yX8_init ∈ TT := tt_1 22 rfl rfl
set_option maxRecDepth 4000 in
theorem im_X8_init : Cond.instanceMethod yX8_init ∈ TT := tt_1 23 rfl rfl
set_option maxRecDepth 4000 in
theorem cd_X8_init : Cond.code yX8_init cX8_init 3 none ∈ TT := tt_1 24 rfl rfl
set_option maxRecDepth 4000 in
theorem ml_X8_1 : Cond.methodLink RX8 1 objectInit ∈ TT := tt_1 25 rfl rfl
set_option maxRecDepth 4000 in
theorem im_objectInit : Cond.instanceMethod objectInit ∈ TT := tt_1 26 rfl rfl
set_option maxRecDepth 4000 in
theorem cd_objectInit : Cond.code objectInit ⟨#[0xb1]⟩ 1 none ∈ TT := tt_1 27 rfl rfl
set_option maxRecDepth 4000 in
theorem cl_X8_7 : Cond.classLink RX8 7 RX6 ∈ TT := tt_1 28 rfl rfl
set_option maxRecDepth 4000 in
theorem inst_X6 : Cond.instantiable RX6 12 ∈ TT := tt_1 29 rfl rfl
set_option maxRecDepth 4000 in
theorem ml_X8_9 : Cond.methodLink RX8 9 yX6_init ∈ TT := tt_1 30 rfl rfl
set_option maxRecDepth 4000 in
theorem im_X6_init : Cond.instanceMethod yX6_init ∈ TT := tt_1 31 rfl rfl
set_option maxRecDepth 4000 in
theorem cd_X6_init : Cond.code yX6_init cX6_init 1 none ∈ TT := tt_1 32 rfl rfl
set_option maxRecDepth 4000 in
theorem ml_X6_3 : Cond.methodLink RX6 3 objectInit ∈ TT := tt_1 33 rfl rfl
set_option maxRecDepth 4000 in
theorem ml_X6_40 : Cond.methodLink RX6 40 arraycopyName ∈ TT := tt_1 36 rfl rfl
set_option maxRecDepth 4000 in
theorem sm_arraycopyName : Cond.static arraycopyName ∈ TT := tt_1 37 rfl rfl
set_option maxRecDepth 4000 in
theorem nat_arraycopyName : Cond.native arraycopyName ∈ TT := tt_1 38 rfl rfl
set_option maxRecDepth 4000 in
theorem fl_X6_9 : Cond.fieldLink RX6 9 "SlipWeeks$State" "kinds" "[I" ∈ TT := tt_1 39 rfl rfl
set_option maxRecDepth 4000 in
theorem fl_X0_89 : Cond.fieldLink RX0 89 "SlipWeeks$State" "kinds" "[I" ∈ TT := tt_1 40 rfl rfl
set_option maxRecDepth 4000 in
theorem fl_X8_98 : Cond.fieldLink RX8 98 "SlipWeeks$State" "kinds" "[I" ∈ TT := tt_1 41 rfl rfl
set_option maxRecDepth 4000 in
theorem fl_X6_15 : Cond.fieldLink RX6 15 "SlipWeeks$State" "manys" "[I" ∈ TT := tt_1 42 rfl rfl
set_option maxRecDepth 4000 in
theorem fl_X0_92 : Cond.fieldLink RX0 92 "SlipWeeks$State" "manys" "[I" ∈ TT := tt_1 43 rfl rfl
set_option maxRecDepth 4000 in
theorem fl_X8_101 : Cond.fieldLink RX8 101 "SlipWeeks$State" "manys" "[I" ∈ TT := tt_1 44 rfl rfl
set_option maxRecDepth 4000 in
theorem fl_X6_18 : Cond.fieldLink RX6 18 "SlipWeeks$State" "boughtPlaces" "[I" ∈ TT := tt_1 45 rfl rfl
set_option maxRecDepth 4000 in
theorem fl_X0_106 : Cond.fieldLink RX0 106 "SlipWeeks$State" "boughtPlaces" "[I" ∈ TT := tt_1 46 rfl rfl
set_option maxRecDepth 4000 in
theorem fl_X8_136 : Cond.fieldLink RX8 136 "SlipWeeks$State" "boughtPlaces" "[I" ∈ TT := tt_1 47 rfl rfl
set_option maxRecDepth 4000 in
theorem fl_X6_21 : Cond.fieldLink RX6 21 "SlipWeeks$State" "boughtTimes" "[I" ∈ TT := tt_1 48 rfl rfl
set_option maxRecDepth 4000 in
theorem fl_X0_113 : Cond.fieldLink RX0 113 "SlipWeeks$State" "boughtTimes" "[I" ∈ TT := tt_1 49 rfl rfl
set_option maxRecDepth 4000 in
theorem fl_X8_133 : Cond.fieldLink RX8 133 "SlipWeeks$State" "boughtTimes" "[I" ∈ TT := tt_1 50 rfl rfl
set_option maxRecDepth 4000 in
theorem fl_X6_24 : Cond.fieldLink RX6 24 "SlipWeeks$State" "code" "[I" ∈ TT := tt_1 51 rfl rfl
set_option maxRecDepth 4000 in
theorem fl_X2_29 : Cond.fieldLink RX2 29 "SlipWeeks$State" "code" "[I" ∈ TT := tt_1 52 rfl rfl
set_option maxRecDepth 4000 in
theorem fl_X8_152 : Cond.fieldLink RX8 152 "SlipWeeks$State" "code" "[I" ∈ TT := tt_1 53 rfl rfl
set_option maxRecDepth 4000 in
theorem fl_X6_27 : Cond.fieldLink RX6 27 "SlipWeeks$State" "rule" "[I" ∈ TT := tt_1 54 rfl rfl
set_option maxRecDepth 4000 in
theorem fl_X7_82 : Cond.fieldLink RX7 82 "SlipWeeks$State" "rule" "[I" ∈ TT := tt_1 55 rfl rfl
set_option maxRecDepth 4000 in
theorem fl_X8_172 : Cond.fieldLink RX8 172 "SlipWeeks$State" "rule" "[I" ∈ TT := tt_1 56 rfl rfl
set_option maxRecDepth 4000 in
theorem fl_X6_30 : Cond.fieldLink RX6 30 "SlipWeeks$State" "cells" "[I" ∈ TT := tt_1 57 rfl rfl
set_option maxRecDepth 4000 in
theorem fl_X6_46 : Cond.fieldLink RX6 46 "SlipWeeks$State" "groups" "I" ∈ TT := tt_1 58 rfl rfl
set_option maxRecDepth 4000 in
theorem fl_X0_86 : Cond.fieldLink RX0 86 "SlipWeeks$State" "groups" "I" ∈ TT := tt_1 59 rfl rfl
set_option maxRecDepth 4000 in
theorem fl_X8_94 : Cond.fieldLink RX8 94 "SlipWeeks$State" "groups" "I" ∈ TT := tt_1 60 rfl rfl
set_option maxRecDepth 4000 in
theorem fl_X6_49 : Cond.fieldLink RX6 49 "SlipWeeks$State" "boughtRows" "I" ∈ TT := tt_1 61 rfl rfl
set_option maxRecDepth 4000 in
theorem fl_X0_103 : Cond.fieldLink RX0 103 "SlipWeeks$State" "boughtRows" "I" ∈ TT := tt_1 62 rfl rfl
set_option maxRecDepth 4000 in
theorem fl_X8_130 : Cond.fieldLink RX8 130 "SlipWeeks$State" "boughtRows" "I" ∈ TT := tt_1 63 rfl rfl
set_option maxRecDepth 4000 in
theorem fl_X2_25 : Cond.fieldLink RX2 25 "SlipWeeks$State" "codeSize" "I" ∈ TT := tt_1 64 rfl rfl
set_option maxRecDepth 4000 in
theorem fl_X6_52 : Cond.fieldLink RX6 52 "SlipWeeks$State" "codeSize" "I" ∈ TT := tt_1 65 rfl rfl
set_option maxRecDepth 4000 in
theorem fl_X8_159 : Cond.fieldLink RX8 159 "SlipWeeks$State" "codeSize" "I" ∈ TT := tt_1 66 rfl rfl
set_option maxRecDepth 4000 in
theorem fl_X6_55 : Cond.fieldLink RX6 55 "SlipWeeks$State" "weekCount" "I" ∈ TT := tt_1 67 rfl rfl
set_option maxRecDepth 4000 in
theorem fl_X2_59 : Cond.fieldLink RX2 59 "SlipWeeks$State" "weekCount" "I" ∈ TT := tt_1 68 rfl rfl
set_option maxRecDepth 4000 in
theorem fl_X8_189 : Cond.fieldLink RX8 189 "SlipWeeks$State" "weekCount" "I" ∈ TT := tt_1 69 rfl rfl
set_option maxRecDepth 4000 in
theorem fl_X6_33 : Cond.fieldLink RX6 33 "SlipWeeks$State" "z" "I" ∈ TT := tt_1 70 rfl rfl
set_option maxRecDepth 4000 in
theorem fl_X8_175 : Cond.fieldLink RX8 175 "SlipWeeks$State" "z" "I" ∈ TT := tt_1 71 rfl rfl
set_option maxRecDepth 4000 in
theorem ly_X6_kinds : Cond.laysFinal "SlipWeeks$State" "SlipWeeks$State" "kinds" "[I" ∈ TT := tt_1 72 rfl rfl
set_option maxRecDepth 4000 in
theorem ly_X6_manys : Cond.laysFinal "SlipWeeks$State" "SlipWeeks$State" "manys" "[I" ∈ TT := tt_1 74 rfl rfl
set_option maxRecDepth 4000 in
theorem ly_X6_boughtPlaces : Cond.laysFinal "SlipWeeks$State" "SlipWeeks$State" "boughtPlaces" "[I" ∈ TT := tt_1 76 rfl rfl
set_option maxRecDepth 4000 in
theorem ly_X6_boughtTimes : Cond.laysFinal "SlipWeeks$State" "SlipWeeks$State" "boughtTimes" "[I" ∈ TT := tt_1 78 rfl rfl
set_option maxRecDepth 4000 in
theorem ly_X6_code : Cond.laysFinal "SlipWeeks$State" "SlipWeeks$State" "code" "[I" ∈ TT := tt_1 80 rfl rfl
set_option maxRecDepth 4000 in
theorem ly_X6_rule : Cond.laysFinal "SlipWeeks$State" "SlipWeeks$State" "rule" "[I" ∈ TT := tt_1 82 rfl rfl
set_option maxRecDepth 4000 in
theorem ly_X6_cells : Cond.laysFinal "SlipWeeks$State" "SlipWeeks$State" "cells" "[I" ∈ TT := tt_1 84 rfl rfl
set_option maxRecDepth 4000 in
theorem ly_X6_groups : Cond.lays "SlipWeeks$State" "SlipWeeks$State" "groups" "I" ∈ TT := tt_1 86 rfl rfl
set_option maxRecDepth 4000 in
theorem ly_X6_boughtRows : Cond.lays "SlipWeeks$State" "SlipWeeks$State" "boughtRows" "I" ∈ TT := tt_1 88 rfl rfl
set_option maxRecDepth 4000 in
theorem ly_X6_codeSize : Cond.lays "SlipWeeks$State" "SlipWeeks$State" "codeSize" "I" ∈ TT := tt_1 90 rfl rfl
set_option maxRecDepth 4000 in
theorem ly_X6_weekCount : Cond.lays "SlipWeeks$State" "SlipWeeks$State" "weekCount" "I" ∈ TT := tt_1 92 rfl rfl
set_option maxRecDepth 4000 in
theorem ly_X6_z : Cond.lays "SlipWeeks$State" "SlipWeeks$State" "z" "I" ∈ TT := tt_1 94 rfl rfl
set_option maxRecDepth 4000 in
theorem ac_int : Cond.arrayClass .int ∈ TT := tt_1 97 rfl rfl
set_option maxRecDepth 4000 in
theorem cl_X8_19 : Cond.classLink RX8 19 RX5 ∈ TT := tt_1 98 rfl rfl
set_option maxRecDepth 4000 in
theorem inst_X5 : Cond.instantiable RX5 2 ∈ TT := tt_1 99 rfl rfl
set_option maxRecDepth 4000 in
theorem ml_X8_21 : Cond.methodLink RX8 21 yX5_init ∈ TT := tt_1 100 rfl rfl
set_option maxRecDepth 4000 in
theorem im_X5_init : Cond.instanceMethod yX5_init ∈ TT := tt_1 101 rfl rfl
set_option maxRecDepth 4000 in
theorem cd_X5_init : Cond.code yX5_init cX5_init 6 none ∈ TT := tt_1 102 rfl rfl
set_option maxRecDepth 4000 in
theorem ml_X5_3 : Cond.methodLink RX5 3 objectInit ∈ TT := tt_1 103 rfl rfl
set_option maxRecDepth 4000 in
theorem fl_X5_9 : Cond.fieldLink RX5 9 "SlipWeeks$Slip" "bits" "[I" ∈ TT := tt_1 104 rfl rfl
set_option maxRecDepth 4000 in
theorem fl_X7_35 : Cond.fieldLink RX7 35 "SlipWeeks$Slip" "bits" "[I" ∈ TT := tt_1 105 rfl rfl
set_option maxRecDepth 4000 in
theorem fl_X8_86 : Cond.fieldLink RX8 86 "SlipWeeks$Slip" "bits" "[I" ∈ TT := tt_1 106 rfl rfl
set_option maxRecDepth 4000 in
theorem fl_X0_68 : Cond.fieldLink RX0 68 "SlipWeeks$Slip" "bits" "[I" ∈ TT := tt_1 107 rfl rfl
set_option maxRecDepth 4000 in
theorem fl_X5_15 : Cond.fieldLink RX5 15 "SlipWeeks$Slip" "packed" "[I" ∈ TT := tt_1 108 rfl rfl
set_option maxRecDepth 4000 in
theorem fl_X3_32 : Cond.fieldLink RX3 32 "SlipWeeks$Slip" "packed" "[I" ∈ TT := tt_1 109 rfl rfl
set_option maxRecDepth 4000 in
theorem fl_X0_73 : Cond.fieldLink RX0 73 "SlipWeeks$Slip" "packed" "[I" ∈ TT := tt_1 110 rfl rfl
set_option maxRecDepth 4000 in
theorem ly_X5_bits : Cond.laysFinal "SlipWeeks$Slip" "SlipWeeks$Slip" "bits" "[I" ∈ TT := tt_1 111 rfl rfl
set_option maxRecDepth 4000 in
theorem ly_X5_packed : Cond.laysFinal "SlipWeeks$Slip" "SlipWeeks$Slip" "packed" "[I" ∈ TT := tt_1 113 rfl rfl
set_option maxRecDepth 4000 in
theorem cl_X8_26 : Cond.classLink RX8 26 RX3 ∈ TT := tt_1 116 rfl rfl
set_option maxRecDepth 4000 in
theorem inst_X3 : Cond.instantiable RX3 4 ∈ TT := tt_1 117 rfl rfl
set_option maxRecDepth 4000 in
theorem ml_X8_28 : Cond.methodLink RX8 28 yX3_init ∈ TT := tt_1 118 rfl rfl
set_option maxRecDepth 4000 in
theorem im_X3_init : Cond.instanceMethod yX3_init ∈ TT := tt_1 119 rfl rfl
set_option maxRecDepth 4000 in
theorem cd_X3_init : Cond.code yX3_init cX3_init 2 none ∈ TT := tt_1 120 rfl rfl
set_option maxRecDepth 4000 in
theorem ml_X3_3 : Cond.methodLink RX3 3 objectInit ∈ TT := tt_1 121 rfl rfl
set_option maxRecDepth 4000 in
theorem fl_X3_9 : Cond.fieldLink RX3 9 "SlipWeeks$Overlaps" "values" "[J" ∈ TT := tt_1 122 rfl rfl
set_option maxRecDepth 4000 in
theorem fl_X0_122 : Cond.fieldLink RX0 122 "SlipWeeks$Overlaps" "values" "[J" ∈ TT := tt_1 123 rfl rfl
set_option maxRecDepth 4000 in
theorem fl_X7_85 : Cond.fieldLink RX7 85 "SlipWeeks$Overlaps" "values" "[J" ∈ TT := tt_1 124 rfl rfl
set_option maxRecDepth 4000 in
theorem fl_X3_15 : Cond.fieldLink RX3 15 "SlipWeeks$Overlaps" "sums" "[J" ∈ TT := tt_1 125 rfl rfl
set_option maxRecDepth 4000 in
theorem fl_X3_18 : Cond.fieldLink RX3 18 "SlipWeeks$Overlaps" "marks" "[I" ∈ TT := tt_1 126 rfl rfl
set_option maxRecDepth 4000 in
theorem fl_X3_22 : Cond.fieldLink RX3 22 "SlipWeeks$Overlaps" "slip" "LSlipWeeks$Slip;" ∈ TT := tt_1 127 rfl rfl
set_option maxRecDepth 4000 in
theorem ly_X3_values : Cond.laysFinal "SlipWeeks$Overlaps" "SlipWeeks$Overlaps" "values" "[J" ∈ TT := tt_1 128 rfl rfl
set_option maxRecDepth 4000 in
theorem ly_X3_sums : Cond.laysFinal "SlipWeeks$Overlaps" "SlipWeeks$Overlaps" "sums" "[J" ∈ TT := tt_1 130 rfl rfl
set_option maxRecDepth 4000 in
theorem ly_X3_marks : Cond.laysFinal "SlipWeeks$Overlaps" "SlipWeeks$Overlaps" "marks" "[I" ∈ TT := tt_1 132 rfl rfl
set_option maxRecDepth 4000 in
theorem ly_X3_slip : Cond.laysFinal "SlipWeeks$Overlaps" "SlipWeeks$Overlaps" "slip" "LSlipWeeks$Slip;" ∈ TT := tt_1 134 rfl rfl
set_option maxRecDepth 4000 in
theorem ac_long : Cond.arrayClass .long ∈ TT := tt_1 137 rfl rfl
set_option maxRecDepth 4000 in
theorem cl_X8_31 : Cond.classLink RX8 31 RX0 ∈ TT := tt_1 138 rfl rfl
set_option maxRecDepth 4000 in
theorem inst_X0 : Cond.instantiable RX0 14 ∈ TT := tt_1 139 rfl rfl
set_option maxRecDepth 4000 in
theorem ml_X8_33 : Cond.methodLink RX8 33 yX0_init ∈ TT := tt_1 140 rfl rfl
set_option maxRecDepth 4000 in
theorem im_X0_init : Cond.instanceMethod yX0_init ∈ TT := tt_1 141 rfl rfl
set_option maxRecDepth 4000 in
theorem cd_X0_init : Cond.code yX0_init cX0_init 4 none ∈ TT := tt_1 142 rfl rfl
set_option maxRecDepth 4000 in
theorem ml_X0_3 : Cond.methodLink RX0 3 objectInit ∈ TT := tt_1 143 rfl rfl
set_option maxRecDepth 4000 in
theorem cl_X0_42 : Cond.classLink RX0 42 RX2 ∈ TT := tt_1 144 rfl rfl
set_option maxRecDepth 4000 in
theorem inst_X2 : Cond.instantiable RX2 2 ∈ TT := tt_1 145 rfl rfl
set_option maxRecDepth 4000 in
theorem ml_X0_44 : Cond.methodLink RX0 44 yX2_init ∈ TT := tt_1 146 rfl rfl
set_option maxRecDepth 4000 in
theorem im_X2_init : Cond.instanceMethod yX2_init ∈ TT := tt_1 147 rfl rfl
set_option maxRecDepth 4000 in
theorem cd_X2_init : Cond.code yX2_init cX2_init 2 none ∈ TT := tt_1 148 rfl rfl
set_option maxRecDepth 4000 in
theorem ml_X2_3 : Cond.methodLink RX2 3 objectInit ∈ TT := tt_1 149 rfl rfl
set_option maxRecDepth 4000 in
theorem fl_X2_15 : Cond.fieldLink RX2 15 "SlipWeeks$LikingVoice" "state" "LSlipWeeks$State;" ∈ TT := tt_1 150 rfl rfl
set_option maxRecDepth 4000 in
theorem fl_X2_9 : Cond.fieldLink RX2 9 "SlipWeeks$LikingVoice" "stack" "[I" ∈ TT := tt_1 151 rfl rfl
set_option maxRecDepth 4000 in
theorem ly_X2_state : Cond.laysFinal "SlipWeeks$LikingVoice" "SlipWeeks$LikingVoice" "state" "LSlipWeeks$State;" ∈ TT := tt_1 152 rfl rfl
set_option maxRecDepth 4000 in
theorem ly_X2_stack : Cond.laysFinal "SlipWeeks$LikingVoice" "SlipWeeks$LikingVoice" "stack" "[I" ∈ TT := tt_1 154 rfl rfl
set_option maxRecDepth 4000 in
theorem fl_X0_30 : Cond.fieldLink RX0 30 "SlipWeeks$Crowd" "state" "LSlipWeeks$State;" ∈ TT := tt_1 157 rfl rfl
set_option maxRecDepth 4000 in
theorem fl_X0_34 : Cond.fieldLink RX0 34 "SlipWeeks$Crowd" "slip" "LSlipWeeks$Slip;" ∈ TT := tt_1 158 rfl rfl
set_option maxRecDepth 4000 in
theorem fl_X0_47 : Cond.fieldLink RX0 47 "SlipWeeks$Crowd" "voice" "LSlipWeeks$LikingVoice;" ∈ TT := tt_1 159 rfl rfl
set_option maxRecDepth 4000 in
theorem fl_X0_38 : Cond.fieldLink RX0 38 "SlipWeeks$Crowd" "overlaps" "LSlipWeeks$Overlaps;" ∈ TT := tt_1 160 rfl rfl
set_option maxRecDepth 4000 in
theorem fl_X0_9 : Cond.fieldLink RX0 9 "SlipWeeks$Crowd" "said" "[I" ∈ TT := tt_1 161 rfl rfl
set_option maxRecDepth 4000 in
theorem fl_X0_15 : Cond.fieldLink RX0 15 "SlipWeeks$Crowd" "liked" "[I" ∈ TT := tt_1 162 rfl rfl
set_option maxRecDepth 4000 in
theorem fl_X0_18 : Cond.fieldLink RX0 18 "SlipWeeks$Crowd" "threes" "[I" ∈ TT := tt_1 163 rfl rfl
set_option maxRecDepth 4000 in
theorem fl_X0_21 : Cond.fieldLink RX0 21 "SlipWeeks$Crowd" "twos" "[I" ∈ TT := tt_1 164 rfl rfl
set_option maxRecDepth 4000 in
theorem fl_X0_24 : Cond.fieldLink RX0 24 "SlipWeeks$Crowd" "crosses" "[I" ∈ TT := tt_1 165 rfl rfl
set_option maxRecDepth 4000 in
theorem fl_X7_111 : Cond.fieldLink RX7 111 "SlipWeeks$Crowd" "crosses" "[I" ∈ TT := tt_1 166 rfl rfl
set_option maxRecDepth 4000 in
theorem fl_X8_121 : Cond.fieldLink RX8 121 "SlipWeeks$Crowd" "crosses" "[I" ∈ TT := tt_1 167 rfl rfl
set_option maxRecDepth 4000 in
theorem fl_X0_27 : Cond.fieldLink RX0 27 "SlipWeeks$Crowd" "byRank" "[I" ∈ TT := tt_1 168 rfl rfl
set_option maxRecDepth 4000 in
theorem fl_X6_89 : Cond.fieldLink RX6 89 "SlipWeeks$Crowd" "byRank" "[I" ∈ TT := tt_1 169 rfl rfl
set_option maxRecDepth 4000 in
theorem fl_X7_40 : Cond.fieldLink RX7 40 "SlipWeeks$Crowd" "total" "I" ∈ TT := tt_1 170 rfl rfl
set_option maxRecDepth 4000 in
theorem fl_X0_116 : Cond.fieldLink RX0 116 "SlipWeeks$Crowd" "total" "I" ∈ TT := tt_1 171 rfl rfl
set_option maxRecDepth 4000 in
theorem fl_X6_76 : Cond.fieldLink RX6 76 "SlipWeeks$Crowd" "total" "I" ∈ TT := tt_1 172 rfl rfl
set_option maxRecDepth 4000 in
theorem fl_X8_195 : Cond.fieldLink RX8 195 "SlipWeeks$Crowd" "total" "I" ∈ TT := tt_1 173 rfl rfl
set_option maxRecDepth 4000 in
theorem fl_X0_64 : Cond.fieldLink RX0 64 "SlipWeeks$Crowd" "latest" "I" ∈ TT := tt_1 174 rfl rfl
set_option maxRecDepth 4000 in
theorem fl_X0_51 : Cond.fieldLink RX0 51 "SlipWeeks$Crowd" "settled" "Z" ∈ TT := tt_1 175 rfl rfl
set_option maxRecDepth 4000 in
theorem fl_X0_55 : Cond.fieldLink RX0 55 "SlipWeeks$Crowd" "winnersSettled" "Z" ∈ TT := tt_1 176 rfl rfl
set_option maxRecDepth 4000 in
theorem ly_X0_state : Cond.laysFinal "SlipWeeks$Crowd" "SlipWeeks$Crowd" "state" "LSlipWeeks$State;" ∈ TT := tt_1 177 rfl rfl
set_option maxRecDepth 4000 in
theorem ly_X0_slip : Cond.laysFinal "SlipWeeks$Crowd" "SlipWeeks$Crowd" "slip" "LSlipWeeks$Slip;" ∈ TT := tt_1 179 rfl rfl
set_option maxRecDepth 4000 in
theorem ly_X0_voice : Cond.laysFinal "SlipWeeks$Crowd" "SlipWeeks$Crowd" "voice" "LSlipWeeks$LikingVoice;" ∈ TT := tt_1 181 rfl rfl
set_option maxRecDepth 4000 in
theorem ly_X0_overlaps : Cond.laysFinal "SlipWeeks$Crowd" "SlipWeeks$Crowd" "overlaps" "LSlipWeeks$Overlaps;" ∈ TT := tt_1 183 rfl rfl
set_option maxRecDepth 4000 in
theorem ly_X0_said : Cond.laysFinal "SlipWeeks$Crowd" "SlipWeeks$Crowd" "said" "[I" ∈ TT := tt_1 185 rfl rfl
set_option maxRecDepth 4000 in
theorem ly_X0_liked : Cond.laysFinal "SlipWeeks$Crowd" "SlipWeeks$Crowd" "liked" "[I" ∈ TT := tt_1 187 rfl rfl
set_option maxRecDepth 4000 in
theorem ly_X0_threes : Cond.laysFinal "SlipWeeks$Crowd" "SlipWeeks$Crowd" "threes" "[I" ∈ TT := tt_1 189 rfl rfl
set_option maxRecDepth 4000 in
theorem ly_X0_twos : Cond.laysFinal "SlipWeeks$Crowd" "SlipWeeks$Crowd" "twos" "[I" ∈ TT := tt_1 191 rfl rfl
set_option maxRecDepth 4000 in
theorem ly_X0_crosses : Cond.laysFinal "SlipWeeks$Crowd" "SlipWeeks$Crowd" "crosses" "[I" ∈ TT := tt_1 193 rfl rfl
set_option maxRecDepth 4000 in
theorem ly_X0_byRank : Cond.laysFinal "SlipWeeks$Crowd" "SlipWeeks$Crowd" "byRank" "[I" ∈ TT := tt_1 195 rfl rfl
set_option maxRecDepth 4000 in
theorem ly_X0_total : Cond.lays "SlipWeeks$Crowd" "SlipWeeks$Crowd" "total" "I" ∈ TT := tt_1 197 rfl rfl
set_option maxRecDepth 4000 in
theorem ly_X0_latest : Cond.lays "SlipWeeks$Crowd" "SlipWeeks$Crowd" "latest" "I" ∈ TT := tt_1 199 rfl rfl
set_option maxRecDepth 4000 in
theorem ly_X0_settled : Cond.lays "SlipWeeks$Crowd" "SlipWeeks$Crowd" "settled" "Z" ∈ TT := tt_1 201 rfl rfl
set_option maxRecDepth 4000 in
theorem ly_X0_winnersSettled : Cond.lays "SlipWeeks$Crowd" "SlipWeeks$Crowd" "winnersSettled" "Z" ∈ TT := tt_1 203 rfl rfl
set_option maxRecDepth 4000 in
theorem cl_X8_40 : Cond.classLink RX8 40 RX7 ∈ TT := tt_1 206 rfl rfl
set_option maxRecDepth 4000 in
theorem inst_X7 : Cond.instantiable RX7 6 ∈ TT := tt_1 207 rfl rfl
set_option maxRecDepth 4000 in
theorem ml_X8_42 : Cond.methodLink RX8 42 yX7_init ∈ TT := tt_1 208 rfl rfl
set_option maxRecDepth 4000 in
theorem im_X7_init : Cond.instanceMethod yX7_init ∈ TT := tt_1 209 rfl rfl
set_option maxRecDepth 4000 in
theorem cd_X7_init : Cond.code yX7_init cX7_init 5 none ∈ TT := tt_1 210 rfl rfl
set_option maxRecDepth 4000 in
theorem ml_X7_3 : Cond.methodLink RX7 3 objectInit ∈ TT := tt_1 211 rfl rfl
set_option maxRecDepth 4000 in
theorem fl_X7_19 : Cond.fieldLink RX7 19 "SlipWeeks$Worths" "state" "LSlipWeeks$State;" ∈ TT := tt_1 212 rfl rfl
set_option maxRecDepth 4000 in
theorem fl_X7_23 : Cond.fieldLink RX7 23 "SlipWeeks$Worths" "slip" "LSlipWeeks$Slip;" ∈ TT := tt_1 213 rfl rfl
set_option maxRecDepth 4000 in
theorem fl_X7_27 : Cond.fieldLink RX7 27 "SlipWeeks$Worths" "crowd" "LSlipWeeks$Crowd;" ∈ TT := tt_1 214 rfl rfl
set_option maxRecDepth 4000 in
theorem fl_X7_31 : Cond.fieldLink RX7 31 "SlipWeeks$Worths" "overlaps" "LSlipWeeks$Overlaps;" ∈ TT := tt_1 215 rfl rfl
set_option maxRecDepth 4000 in
theorem fl_X7_9 : Cond.fieldLink RX7 9 "SlipWeeks$Worths" "sums" "[J" ∈ TT := tt_1 216 rfl rfl
set_option maxRecDepth 4000 in
theorem fl_X7_15 : Cond.fieldLink RX7 15 "SlipWeeks$Worths" "taken" "[I" ∈ TT := tt_1 217 rfl rfl
set_option maxRecDepth 4000 in
theorem ly_X7_state : Cond.laysFinal "SlipWeeks$Worths" "SlipWeeks$Worths" "state" "LSlipWeeks$State;" ∈ TT := tt_1 218 rfl rfl
set_option maxRecDepth 4000 in
theorem ly_X7_slip : Cond.laysFinal "SlipWeeks$Worths" "SlipWeeks$Worths" "slip" "LSlipWeeks$Slip;" ∈ TT := tt_1 220 rfl rfl
set_option maxRecDepth 4000 in
theorem ly_X7_crowd : Cond.laysFinal "SlipWeeks$Worths" "SlipWeeks$Worths" "crowd" "LSlipWeeks$Crowd;" ∈ TT := tt_1 222 rfl rfl
set_option maxRecDepth 4000 in
theorem ly_X7_overlaps : Cond.laysFinal "SlipWeeks$Worths" "SlipWeeks$Worths" "overlaps" "LSlipWeeks$Overlaps;" ∈ TT := tt_1 224 rfl rfl
set_option maxRecDepth 4000 in
theorem ly_X7_sums : Cond.laysFinal "SlipWeeks$Worths" "SlipWeeks$Worths" "sums" "[J" ∈ TT := tt_1 226 rfl rfl
set_option maxRecDepth 4000 in
theorem ly_X7_taken : Cond.laysFinal "SlipWeeks$Worths" "SlipWeeks$Worths" "taken" "[I" ∈ TT := tt_1 228 rfl rfl
set_option maxRecDepth 4000 in
theorem cl_X8_49 : Cond.classLink RX8 49 RX1 ∈ TT := tt_1 231 rfl rfl
set_option maxRecDepth 4000 in
theorem inst_X1 : Cond.instantiable RX1 6 ∈ TT := tt_1 232 rfl rfl
set_option maxRecDepth 4000 in
theorem im_X1_init : Cond.instanceMethod yX1_init ∈ TT := tt_1 234 rfl rfl
set_option maxRecDepth 4000 in
theorem cd_X1_init : Cond.code yX1_init cX1_init 1 none ∈ TT := tt_1 235 rfl rfl
set_option maxRecDepth 4000 in
theorem ml_X1_3 : Cond.methodLink RX1 3 objectInit ∈ TT := tt_1 236 rfl rfl
set_option maxRecDepth 4000 in
theorem fl_X1_9 : Cond.fieldLink RX1 9 "SlipWeeks$LikingReader" "text" "[B" ∈ TT := tt_1 237 rfl rfl
set_option maxRecDepth 4000 in
theorem fl_X1_15 : Cond.fieldLink RX1 15 "SlipWeeks$LikingReader" "code" "[I" ∈ TT := tt_1 238 rfl rfl
set_option maxRecDepth 4000 in
theorem fl_X1_28 : Cond.fieldLink RX1 28 "SlipWeeks$LikingReader" "size" "I" ∈ TT := tt_1 239 rfl rfl
set_option maxRecDepth 4000 in
theorem fl_X1_38 : Cond.fieldLink RX1 38 "SlipWeeks$LikingReader" "codeSize" "I" ∈ TT := tt_2 0 rfl rfl
set_option maxRecDepth 4000 in
theorem fl_X1_41 : Cond.fieldLink RX1 41 "SlipWeeks$LikingReader" "at" "I" ∈ TT := tt_2 1 rfl rfl
set_option maxRecDepth 4000 in
theorem fl_X1_44 : Cond.fieldLink RX1 44 "SlipWeeks$LikingReader" "fault" "I" ∈ TT := tt_2 2 rfl rfl
set_option maxRecDepth 4000 in
theorem ly_X1_text : Cond.laysFinal "SlipWeeks$LikingReader" "SlipWeeks$LikingReader" "text" "[B" ∈ TT := tt_2 3 rfl rfl
set_option maxRecDepth 4000 in
theorem ly_X1_code : Cond.laysFinal "SlipWeeks$LikingReader" "SlipWeeks$LikingReader" "code" "[I" ∈ TT := tt_2 5 rfl rfl
set_option maxRecDepth 4000 in
theorem ly_X1_size : Cond.lays "SlipWeeks$LikingReader" "SlipWeeks$LikingReader" "size" "I" ∈ TT := tt_2 7 rfl rfl
set_option maxRecDepth 4000 in
theorem ly_X1_codeSize : Cond.lays "SlipWeeks$LikingReader" "SlipWeeks$LikingReader" "codeSize" "I" ∈ TT := tt_2 9 rfl rfl
set_option maxRecDepth 4000 in
theorem ly_X1_at : Cond.lays "SlipWeeks$LikingReader" "SlipWeeks$LikingReader" "at" "I" ∈ TT := tt_2 11 rfl rfl
set_option maxRecDepth 4000 in
theorem ly_X1_fault : Cond.lays "SlipWeeks$LikingReader" "SlipWeeks$LikingReader" "fault" "I" ∈ TT := tt_2 13 rfl rfl
set_option maxRecDepth 4000 in
theorem ac_byte : Cond.arrayClass .byte ∈ TT := tt_2 16 rfl rfl
set_option maxRecDepth 4000 in
theorem cl_X8_60 : Cond.classLink RX8 60 RX4 ∈ TT := tt_2 17 rfl rfl
set_option maxRecDepth 4000 in
theorem inst_X4 : Cond.instantiable RX4 3 ∈ TT := tt_2 19 rfl rfl
set_option maxRecDepth 4000 in
theorem im_X4_init : Cond.instanceMethod yX4_init ∈ TT := tt_2 21 rfl rfl
set_option maxRecDepth 4000 in
theorem cd_X4_init : Cond.code yX4_init cX4_init 1 none ∈ TT := tt_2 22 rfl rfl
set_option maxRecDepth 4000 in
theorem ml_X4_3 : Cond.methodLink RX4 3 objectInit ∈ TT := tt_2 23 rfl rfl
set_option maxRecDepth 4000 in
theorem fl_X4_9 : Cond.fieldLink RX4 9 "SlipWeeks$Sheet" "numbers" "[J" ∈ TT := tt_2 24 rfl rfl
set_option maxRecDepth 4000 in
theorem fl_X8_253 : Cond.fieldLink RX8 253 "SlipWeeks$Sheet" "numbers" "[J" ∈ TT := tt_2 25 rfl rfl
set_option maxRecDepth 4000 in
theorem fl_X4_21 : Cond.fieldLink RX4 21 "SlipWeeks$Sheet" "bits" "I" ∈ TT := tt_2 26 rfl rfl
set_option maxRecDepth 4000 in
theorem fl_X8_248 : Cond.fieldLink RX8 248 "SlipWeeks$Sheet" "bits" "I" ∈ TT := tt_2 27 rfl rfl
set_option maxRecDepth 4000 in
theorem fl_X4_34 : Cond.fieldLink RX4 34 "SlipWeeks$Sheet" "size" "I" ∈ TT := tt_2 28 rfl rfl
set_option maxRecDepth 4000 in
theorem fl_X8_250 : Cond.fieldLink RX8 250 "SlipWeeks$Sheet" "size" "I" ∈ TT := tt_2 29 rfl rfl
set_option maxRecDepth 4000 in
theorem ly_X4_numbers : Cond.laysFinal "SlipWeeks$Sheet" "SlipWeeks$Sheet" "numbers" "[J" ∈ TT := tt_2 30 rfl rfl
set_option maxRecDepth 4000 in
theorem ly_X4_bits : Cond.lays "SlipWeeks$Sheet" "SlipWeeks$Sheet" "bits" "I" ∈ TT := tt_2 32 rfl rfl
set_option maxRecDepth 4000 in
theorem ly_X4_size : Cond.lays "SlipWeeks$Sheet" "SlipWeeks$Sheet" "size" "I" ∈ TT := tt_2 34 rfl rfl
set_option maxRecDepth 4000 in
theorem fl_X8_10 : Cond.fieldLink RX8 10 "SlipWeeks" "state" "LSlipWeeks$State;" ∈ TT := tt_2 37 rfl rfl
set_option maxRecDepth 4000 in
theorem fl_X8_16 : Cond.fieldLink RX8 16 "SlipWeeks" "kept" "LSlipWeeks$State;" ∈ TT := tt_2 38 rfl rfl
set_option maxRecDepth 4000 in
theorem fl_X8_22 : Cond.fieldLink RX8 22 "SlipWeeks" "slip" "LSlipWeeks$Slip;" ∈ TT := tt_2 39 rfl rfl
set_option maxRecDepth 4000 in
theorem fl_X8_36 : Cond.fieldLink RX8 36 "SlipWeeks" "crowd" "LSlipWeeks$Crowd;" ∈ TT := tt_2 40 rfl rfl
set_option maxRecDepth 4000 in
theorem fl_X8_45 : Cond.fieldLink RX8 45 "SlipWeeks" "worths" "LSlipWeeks$Worths;" ∈ TT := tt_2 41 rfl rfl
set_option maxRecDepth 4000 in
theorem fl_X8_52 : Cond.fieldLink RX8 52 "SlipWeeks" "reader" "LSlipWeeks$LikingReader;" ∈ TT := tt_2 42 rfl rfl
set_option maxRecDepth 4000 in
theorem fl_X8_56 : Cond.fieldLink RX8 56 "SlipWeeks" "tape" "[B" ∈ TT := tt_2 43 rfl rfl
set_option maxRecDepth 4000 in
theorem fl_X8_62 : Cond.fieldLink RX8 62 "SlipWeeks" "sheets" "[LSlipWeeks$Sheet;" ∈ TT := tt_2 44 rfl rfl
set_option maxRecDepth 4000 in
theorem fl_X8_67 : Cond.fieldLink RX8 67 "SlipWeeks" "findings" "[I" ∈ TT := tt_2 45 rfl rfl
set_option maxRecDepth 4000 in
theorem fl_X8_145 : Cond.fieldLink RX8 145 "SlipWeeks" "tapeSize" "I" ∈ TT := tt_2 46 rfl rfl
set_option maxRecDepth 4000 in
theorem fl_X8_274 : Cond.fieldLink RX8 274 "SlipWeeks" "keeps" "Z" ∈ TT := tt_2 47 rfl rfl
set_option maxRecDepth 4000 in
theorem ly_X8_state : Cond.laysFinal "SlipWeeks" "SlipWeeks" "state" "LSlipWeeks$State;" ∈ TT := tt_2 48 rfl rfl
set_option maxRecDepth 4000 in
theorem ly_X8_kept : Cond.laysFinal "SlipWeeks" "SlipWeeks" "kept" "LSlipWeeks$State;" ∈ TT := tt_2 50 rfl rfl
set_option maxRecDepth 4000 in
theorem ly_X8_slip : Cond.laysFinal "SlipWeeks" "SlipWeeks" "slip" "LSlipWeeks$Slip;" ∈ TT := tt_2 52 rfl rfl
set_option maxRecDepth 4000 in
theorem ly_X8_crowd : Cond.laysFinal "SlipWeeks" "SlipWeeks" "crowd" "LSlipWeeks$Crowd;" ∈ TT := tt_2 54 rfl rfl
set_option maxRecDepth 4000 in
theorem ly_X8_worths : Cond.laysFinal "SlipWeeks" "SlipWeeks" "worths" "LSlipWeeks$Worths;" ∈ TT := tt_2 56 rfl rfl
set_option maxRecDepth 4000 in
theorem ly_X8_reader : Cond.laysFinal "SlipWeeks" "SlipWeeks" "reader" "LSlipWeeks$LikingReader;" ∈ TT := tt_2 58 rfl rfl
set_option maxRecDepth 4000 in
theorem ly_X8_tape : Cond.laysFinal "SlipWeeks" "SlipWeeks" "tape" "[B" ∈ TT := tt_2 60 rfl rfl
set_option maxRecDepth 4000 in
theorem ly_X8_sheets : Cond.laysFinal "SlipWeeks" "SlipWeeks" "sheets" "[LSlipWeeks$Sheet;" ∈ TT := tt_2 62 rfl rfl
set_option maxRecDepth 4000 in
theorem ly_X8_findings : Cond.laysFinal "SlipWeeks" "SlipWeeks" "findings" "[I" ∈ TT := tt_2 64 rfl rfl
set_option maxRecDepth 4000 in
theorem ly_X8_tapeSize : Cond.lays "SlipWeeks" "SlipWeeks" "tapeSize" "I" ∈ TT := tt_2 66 rfl rfl
set_option maxRecDepth 4000 in
theorem ly_X8_keeps : Cond.lays "SlipWeeks" "SlipWeeks" "keeps" "Z" ∈ TT := tt_2 68 rfl rfl
set_option maxRecDepth 4000 in
theorem ml_L_13 : Cond.methodLink RL 13 yX8_place ∈ TT := tt_2 71 rfl rfl
set_option maxRecDepth 4000 in
theorem im_X8_place : Cond.instanceMethod yX8_place ∈ TT := tt_2 72 rfl rfl
set_option maxRecDepth 4000 in
theorem sl_X8_place : Cond.selects RX8 yX8_place yX8_place ∈ TT := tt_2 73 rfl rfl
set_option maxRecDepth 4000 in
theorem cd_X8_place : Cond.code yX8_place cX8_place 2 (some .int) ∈ TT := tt_2 74 rfl rfl
set_option maxRecDepth 4000 in
theorem ml_X8_71 : Cond.methodLink RX8 71 yX8_isRow ∈ TT := tt_2 75 rfl rfl
set_option maxRecDepth 4000 in
theorem sm_X8_isRow : Cond.static yX8_isRow ∈ TT := tt_2 76 rfl rfl
set_option maxRecDepth 4000 in
theorem cd_X8_isRow : Cond.code yX8_isRow cX8_isRow 2 (some .boolean) ∈ TT := tt_2 77 rfl rfl
set_option maxRecDepth 4000 in
theorem kl_X8_279 : Cond.constantLong RX8 279 (4095) ∈ TT := tt_2 78 rfl rfl
set_option maxRecDepth 4000 in
theorem ml_X8_281 : Cond.methodLink RX8 281 yJ6_bitCount_0f7a4 ∈ TT := tt_2 79 rfl rfl
set_option maxRecDepth 4000 in
theorem sm_J6_bitCount_0f7a4 : Cond.static yJ6_bitCount_0f7a4 ∈ TT := tt_2 80 rfl rfl
set_option maxRecDepth 4000 in
theorem cd_J6_bitCount_0f7a4 : Cond.code yJ6_bitCount_0f7a4 cJ6_bitCount_0f7a4 1 (some .int) ∈ TT := tt_2 81 rfl rfl
set_option maxRecDepth 4000 in
theorem k_J6_265 : Cond.constant RJ6 265 (1431655765) ∈ TT := tt_2 82 rfl rfl
set_option maxRecDepth 4000 in
theorem k_J6_266 : Cond.constant RJ6 266 (858993459) ∈ TT := tt_2 83 rfl rfl
set_option maxRecDepth 4000 in
theorem k_J6_267 : Cond.constant RJ6 267 (252645135) ∈ TT := tt_2 84 rfl rfl
set_option maxRecDepth 4000 in
theorem ml_X8_75 : Cond.methodLink RX8 75 yX5_placeOf ∈ TT := tt_2 85 rfl rfl
set_option maxRecDepth 4000 in
theorem sm_X5_placeOf : Cond.static yX5_placeOf ∈ TT := tt_2 86 rfl rfl
set_option maxRecDepth 4000 in
theorem cd_X5_placeOf : Cond.code yX5_placeOf cX5_placeOf 4 (some .int) ∈ TT := tt_2 87 rfl rfl
set_option maxRecDepth 4000 in
theorem ml_X5_18 : Cond.methodLink RX5 18 yX5_choose ∈ TT := tt_2 88 rfl rfl
set_option maxRecDepth 4000 in
theorem sm_X5_choose : Cond.static yX5_choose ∈ TT := tt_2 89 rfl rfl
set_option maxRecDepth 4000 in
theorem cd_X5_choose : Cond.code yX5_choose cX5_choose 4 (some .int) ∈ TT := tt_2 90 rfl rfl
set_option maxRecDepth 4000 in
theorem ml_X8_79 : Cond.methodLink RX8 79 yX8_tell ∈ TT := tt_2 91 rfl rfl
set_option maxRecDepth 4000 in
theorem im_X8_tell : Cond.instanceMethod yX8_tell ∈ TT := tt_2 93 rfl rfl
set_option maxRecDepth 4000 in
theorem cd_X8_tell : Cond.code yX8_tell cX8_tell 2 (some .int) ∈ TT := tt_2 94 rfl rfl
set_option maxRecDepth 4000 in
theorem ml_X8_89 : Cond.methodLink RX8 89 yX8_within ∈ TT := tt_2 95 rfl rfl
set_option maxRecDepth 4000 in
theorem sm_X8_within : Cond.static yX8_within ∈ TT := tt_2 96 rfl rfl
set_option maxRecDepth 4000 in
theorem cd_X8_within : Cond.code yX8_within cX8_within 3 (some .boolean) ∈ TT := tt_2 97 rfl rfl
set_option maxRecDepth 4000 in
theorem k_X8_278 : Cond.constant RX8 278 (-1000000001) ∈ TT := tt_2 98 rfl rfl
set_option maxRecDepth 4000 in
theorem ml_L_18 : Cond.methodLink RL 18 yX8_row ∈ TT := tt_2 99 rfl rfl
set_option maxRecDepth 4000 in
theorem im_X8_row : Cond.instanceMethod yX8_row ∈ TT := tt_2 100 rfl rfl
set_option maxRecDepth 4000 in
theorem sl_X8_row : Cond.selects RX8 yX8_row yX8_row ∈ TT := tt_2 101 rfl rfl
set_option maxRecDepth 4000 in
theorem cd_X8_row : Cond.code yX8_row cX8_row 2 (some .int) ∈ TT := tt_2 102 rfl rfl
set_option maxRecDepth 4000 in
theorem ml_X8_82 : Cond.methodLink RX8 82 yX8_isPlace ∈ TT := tt_2 103 rfl rfl
set_option maxRecDepth 4000 in
theorem sm_X8_isPlace : Cond.static yX8_isPlace ∈ TT := tt_2 104 rfl rfl
set_option maxRecDepth 4000 in
theorem cd_X8_isPlace : Cond.code yX8_isPlace cX8_isPlace 1 (some .boolean) ∈ TT := tt_2 105 rfl rfl
set_option maxRecDepth 4000 in
theorem ml_L_22 : Cond.methodLink RL 22 yX8_people ∈ TT := tt_2 106 rfl rfl
set_option maxRecDepth 4000 in
theorem im_X8_people : Cond.instanceMethod yX8_people ∈ TT := tt_2 107 rfl rfl
set_option maxRecDepth 4000 in
theorem sl_X8_people : Cond.selects RX8 yX8_people yX8_people ∈ TT := tt_2 108 rfl rfl
set_option maxRecDepth 4000 in
theorem cd_X8_people : Cond.code yX8_people cX8_people 4 (some .int) ∈ TT := tt_2 109 rfl rfl
set_option maxRecDepth 4000 in
theorem k_X8_93 : Cond.constant RX8 93 (99999) ∈ TT := tt_2 110 rfl rfl
set_option maxRecDepth 4000 in
theorem ml_X8_104 : Cond.methodLink RX8 104 yX0_stir ∈ TT := tt_2 111 rfl rfl
set_option maxRecDepth 4000 in
theorem im_X0_stir : Cond.instanceMethod yX0_stir ∈ TT := tt_2 112 rfl rfl
set_option maxRecDepth 4000 in
theorem sl_X0_stir : Cond.selects RX0 yX0_stir yX0_stir ∈ TT := tt_2 113 rfl rfl
set_option maxRecDepth 4000 in
theorem cd_X0_stir : Cond.code yX0_stir cX0_stir 1 none ∈ TT := tt_2 114 rfl rfl
set_option maxRecDepth 4000 in
theorem ml_L_27 : Cond.methodLink RL 27 yX8_of ∈ TT := tt_2 115 rfl rfl
set_option maxRecDepth 4000 in
theorem im_X8_of : Cond.instanceMethod yX8_of ∈ TT := tt_2 116 rfl rfl
set_option maxRecDepth 4000 in
theorem sl_X8_of : Cond.selects RX8 yX8_of yX8_of ∈ TT := tt_2 117 rfl rfl
set_option maxRecDepth 4000 in
theorem cd_X8_of : Cond.code yX8_of cX8_of 3 (some .int) ∈ TT := tt_2 118 rfl rfl
set_option maxRecDepth 4000 in
theorem ml_X8_107 : Cond.methodLink RX8 107 yX8_isPeople ∈ TT := tt_2 119 rfl rfl
set_option maxRecDepth 4000 in
theorem im_X8_isPeople : Cond.instanceMethod yX8_isPeople ∈ TT := tt_2 121 rfl rfl
set_option maxRecDepth 4000 in
theorem cd_X8_isPeople : Cond.code yX8_isPeople cX8_isPeople 2 (some .boolean) ∈ TT := tt_2 122 rfl rfl
set_option maxRecDepth 4000 in
theorem ml_L_31 : Cond.methodLink RL 31 yX8_many ∈ TT := tt_2 123 rfl rfl
set_option maxRecDepth 4000 in
theorem im_X8_many : Cond.instanceMethod yX8_many ∈ TT := tt_2 124 rfl rfl
set_option maxRecDepth 4000 in
theorem sl_X8_many : Cond.selects RX8 yX8_many yX8_many ∈ TT := tt_2 125 rfl rfl
set_option maxRecDepth 4000 in
theorem cd_X8_many : Cond.code yX8_many cX8_many 4 (some .int) ∈ TT := tt_2 126 rfl rfl
set_option maxRecDepth 4000 in
theorem ml_L_35 : Cond.methodLink RL 35 yX8_as ∈ TT := tt_2 127 rfl rfl
set_option maxRecDepth 4000 in
theorem im_X8_as : Cond.instanceMethod yX8_as ∈ TT := tt_2 128 rfl rfl
set_option maxRecDepth 4000 in
theorem sl_X8_as : Cond.selects RX8 yX8_as yX8_as ∈ TT := tt_2 129 rfl rfl
set_option maxRecDepth 4000 in
theorem cd_X8_as : Cond.code yX8_as cX8_as 3 (some .int) ∈ TT := tt_2 130 rfl rfl
set_option maxRecDepth 4000 in
theorem ml_X8_110 : Cond.methodLink RX8 110 yX8_isUnder ∈ TT := tt_2 131 rfl rfl
set_option maxRecDepth 4000 in
theorem sm_X8_isUnder : Cond.static yX8_isUnder ∈ TT := tt_2 132 rfl rfl
set_option maxRecDepth 4000 in
theorem cd_X8_isUnder : Cond.code yX8_isUnder cX8_isUnder 4 (some .boolean) ∈ TT := tt_2 133 rfl rfl
set_option maxRecDepth 4000 in
theorem fl_X8_286 : Cond.fieldLink RX8 286 "SlipWeeks" "KIND_ABOVE" "[I" ∈ TT := tt_2 134 rfl rfl
set_option maxRecDepth 4000 in
theorem ml_L_39 : Cond.methodLink RL 39 yX8_likes ∈ TT := tt_2 136 rfl rfl
set_option maxRecDepth 4000 in
theorem im_X8_likes : Cond.instanceMethod yX8_likes ∈ TT := tt_2 137 rfl rfl
set_option maxRecDepth 4000 in
theorem sl_X8_likes : Cond.selects RX8 yX8_likes yX8_likes ∈ TT := tt_2 138 rfl rfl
set_option maxRecDepth 4000 in
theorem cd_X8_likes : Cond.code yX8_likes cX8_likes 3 (some .int) ∈ TT := tt_2 139 rfl rfl
set_option maxRecDepth 4000 in
theorem ml_X8_114 : Cond.methodLink RX8 114 yX0_settle ∈ TT := tt_2 140 rfl rfl
set_option maxRecDepth 4000 in
theorem im_X0_settle : Cond.instanceMethod yX0_settle ∈ TT := tt_2 141 rfl rfl
set_option maxRecDepth 4000 in
theorem sl_X0_settle : Cond.selects RX0 yX0_settle yX0_settle ∈ TT := tt_2 142 rfl rfl
set_option maxRecDepth 4000 in
theorem cd_X0_settle : Cond.code yX0_settle cX0_settle 3 none ∈ TT := tt_2 143 rfl rfl
set_option maxRecDepth 4000 in
theorem ml_X0_58 : Cond.methodLink RX0 58 yX6_latestDraw ∈ TT := tt_2 144 rfl rfl
set_option maxRecDepth 4000 in
theorem im_X6_latestDraw : Cond.instanceMethod yX6_latestDraw ∈ TT := tt_2 145 rfl rfl
set_option maxRecDepth 4000 in
theorem sl_X6_latestDraw : Cond.selects RX6 yX6_latestDraw yX6_latestDraw ∈ TT := tt_2 146 rfl rfl
set_option maxRecDepth 4000 in
theorem cd_X6_latestDraw : Cond.code yX6_latestDraw cX6_latestDraw 1 (some .int) ∈ TT := tt_2 147 rfl rfl
set_option maxRecDepth 4000 in
theorem ml_X6_62 : Cond.methodLink RX6 62 yX6_bookCell ∈ TT := tt_2 148 rfl rfl
set_option maxRecDepth 4000 in
theorem im_X6_bookCell : Cond.instanceMethod yX6_bookCell ∈ TT := tt_2 149 rfl rfl
set_option maxRecDepth 4000 in
theorem sl_X6_bookCell : Cond.selects RX6 yX6_bookCell yX6_bookCell ∈ TT := tt_2 150 rfl rfl
set_option maxRecDepth 4000 in
theorem cd_X6_bookCell : Cond.code yX6_bookCell cX6_bookCell 3 (some .int) ∈ TT := tt_2 151 rfl rfl
set_option maxRecDepth 4000 in
theorem ml_X0_76 : Cond.methodLink RX0 76 yX2_say ∈ TT := tt_2 153 rfl rfl
set_option maxRecDepth 4000 in
theorem im_X2_say : Cond.instanceMethod yX2_say ∈ TT := tt_2 154 rfl rfl
set_option maxRecDepth 4000 in
theorem sl_X2_say : Cond.selects RX2 yX2_say yX2_say ∈ TT := tt_2 155 rfl rfl
set_option maxRecDepth 4000 in
theorem cd_X2_say : Cond.code yX2_say cX2_say 7 (some .int) ∈ TT := tt_2 156 rfl rfl
set_option maxRecDepth 4000 in
theorem ml_X2_19 : Cond.methodLink RX2 19 yX6_hasLiking ∈ TT := tt_2 157 rfl rfl
set_option maxRecDepth 4000 in
theorem im_X6_hasLiking : Cond.instanceMethod yX6_hasLiking ∈ TT := tt_2 158 rfl rfl
set_option maxRecDepth 4000 in
theorem sl_X6_hasLiking : Cond.selects RX6 yX6_hasLiking yX6_hasLiking ∈ TT := tt_2 159 rfl rfl
set_option maxRecDepth 4000 in
theorem cd_X6_hasLiking : Cond.code yX6_hasLiking cX6_hasLiking 1 (some .boolean) ∈ TT := tt_2 160 rfl rfl
set_option maxRecDepth 4000 in
theorem ml_X2_34 : Cond.methodLink RX2 34 yX2_named ∈ TT := tt_2 161 rfl rfl
set_option maxRecDepth 4000 in
theorem im_X2_named : Cond.instanceMethod yX2_named ∈ TT := tt_2 163 rfl rfl
set_option maxRecDepth 4000 in
theorem cd_X2_named : Cond.code yX2_named cX2_named 5 (some .int) ∈ TT := tt_2 164 rfl rfl
set_option maxRecDepth 4000 in
theorem ml_X2_50 : Cond.methodLink RX2 50 yJ6_bitCount_0f7a4 ∈ TT := tt_2 165 rfl rfl
set_option maxRecDepth 4000 in
theorem ml_X2_56 : Cond.methodLink RX2 56 yX2_longestChain ∈ TT := tt_2 166 rfl rfl
set_option maxRecDepth 4000 in
theorem sm_X2_longestChain : Cond.static yX2_longestChain ∈ TT := tt_2 167 rfl rfl
set_option maxRecDepth 4000 in
theorem cd_X2_longestChain : Cond.code yX2_longestChain cX2_longestChain 4 (some .int) ∈ TT := tt_2 168 rfl rfl
set_option maxRecDepth 4000 in
theorem ml_X2_47 : Cond.methodLink RX2 47 Lib.Math.max.name ∈ TT := tt_2 169 rfl rfl
set_option maxRecDepth 4000 in
theorem sm_Lib_Math_max_name : Cond.static Lib.Math.max.name ∈ TT := tt_2 170 rfl rfl
set_option maxRecDepth 4000 in
theorem cd_Lib_Math_max_name : Cond.code Lib.Math.max.name Lib.Math.max.code 2 (some .int) ∈ TT := tt_2 171 rfl rfl
set_option maxRecDepth 4000 in
theorem ml_X2_38 : Cond.methodLink RX2 38 yX2_act ∈ TT := tt_2 172 rfl rfl
set_option maxRecDepth 4000 in
theorem im_X2_act : Cond.instanceMethod yX2_act ∈ TT := tt_2 174 rfl rfl
set_option maxRecDepth 4000 in
theorem cd_X2_act : Cond.code yX2_act cX2_act 5 (some .int) ∈ TT := tt_2 175 rfl rfl
set_option maxRecDepth 4000 in
theorem ml_X2_42 : Cond.methodLink RX2 42 Lib.Math.min.name ∈ TT := tt_2 176 rfl rfl
set_option maxRecDepth 4000 in
theorem sm_Lib_Math_min_name : Cond.static Lib.Math.min.name ∈ TT := tt_2 177 rfl rfl
set_option maxRecDepth 4000 in
theorem cd_Lib_Math_min_name : Cond.code Lib.Math.min.name Lib.Math.min.code 2 (some .int) ∈ TT := tt_2 178 rfl rfl
set_option maxRecDepth 4000 in
theorem ml_X0_80 : Cond.methodLink RX0 80 yJ7_fill_53178 ∈ TT := tt_2 179 rfl rfl
set_option maxRecDepth 4000 in
theorem sm_J7_fill_53178 : Cond.static yJ7_fill_53178 ∈ TT := tt_2 180 rfl rfl
set_option maxRecDepth 4000 in
theorem cd_J7_fill_53178 : Cond.code yJ7_fill_53178 cJ7_fill_53178 4 none ∈ TT := tt_2 181 rfl rfl
set_option maxRecDepth 4000 in
theorem ml_X0_95 : Cond.methodLink RX0 95 yX0_likeAll ∈ TT := tt_2 182 rfl rfl
set_option maxRecDepth 4000 in
theorem im_X0_likeAll : Cond.instanceMethod yX0_likeAll ∈ TT := tt_2 184 rfl rfl
set_option maxRecDepth 4000 in
theorem cd_X0_likeAll : Cond.code yX0_likeAll cX0_likeAll 5 (some .int) ∈ TT := tt_2 185 rfl rfl
set_option maxRecDepth 4000 in
theorem ml_X0_150 : Cond.methodLink RX0 150 yX0_likingOf ∈ TT := tt_2 186 rfl rfl
set_option maxRecDepth 4000 in
theorem im_X0_likingOf : Cond.instanceMethod yX0_likingOf ∈ TT := tt_2 187 rfl rfl
set_option maxRecDepth 4000 in
theorem sl_X0_likingOf : Cond.selects RX0 yX0_likingOf yX0_likingOf ∈ TT := tt_2 188 rfl rfl
set_option maxRecDepth 4000 in
theorem cd_X0_likingOf : Cond.code yX0_likingOf cX0_likingOf 5 (some .int) ∈ TT := tt_2 189 rfl rfl
set_option maxRecDepth 4000 in
theorem ml_X0_141 : Cond.methodLink RX0 141 yX0_born ∈ TT := tt_2 190 rfl rfl
set_option maxRecDepth 4000 in
theorem sm_X0_born : Cond.static yX0_born ∈ TT := tt_2 191 rfl rfl
set_option maxRecDepth 4000 in
theorem cd_X0_born : Cond.code yX0_born cX0_born 1 (some .int) ∈ TT := tt_2 192 rfl rfl
set_option maxRecDepth 4000 in
theorem ml_X0_135 : Cond.methodLink RX0 135 yJ6_bitCount_0f7a4 ∈ TT := tt_2 193 rfl rfl
set_option maxRecDepth 4000 in
theorem ml_X0_144 : Cond.methodLink RX0 144 yX5_inOneLine ∈ TT := tt_2 194 rfl rfl
set_option maxRecDepth 4000 in
theorem sm_X5_inOneLine : Cond.static yX5_inOneLine ∈ TT := tt_2 195 rfl rfl
set_option maxRecDepth 4000 in
theorem cd_X5_inOneLine : Cond.code yX5_inOneLine cX5_inOneLine 1 (some .boolean) ∈ TT := tt_2 196 rfl rfl
set_option maxRecDepth 4000 in
theorem ml_X0_147 : Cond.methodLink RX0 147 yX5_hasColumn ∈ TT := tt_2 197 rfl rfl
set_option maxRecDepth 4000 in
theorem sm_X5_hasColumn : Cond.static yX5_hasColumn ∈ TT := tt_2 198 rfl rfl
set_option maxRecDepth 4000 in
theorem cd_X5_hasColumn : Cond.code yX5_hasColumn cX5_hasColumn 3 (some .boolean) ∈ TT := tt_2 199 rfl rfl
set_option maxRecDepth 4000 in
theorem ml_X0_99 : Cond.methodLink RX0 99 yX0_addCrosses ∈ TT := tt_2 200 rfl rfl
set_option maxRecDepth 4000 in
theorem im_X0_addCrosses : Cond.instanceMethod yX0_addCrosses ∈ TT := tt_2 202 rfl rfl
set_option maxRecDepth 4000 in
theorem cd_X0_addCrosses : Cond.code yX0_addCrosses cX0_addCrosses 4 none ∈ TT := tt_2 203 rfl rfl
set_option maxRecDepth 4000 in
theorem ml_X8_117 : Cond.methodLink RX8 117 yX0_likingOf ∈ TT := tt_2 205 rfl rfl
set_option maxRecDepth 4000 in
theorem ml_L_43 : Cond.methodLink RL 43 yX8_crossed ∈ TT := tt_2 206 rfl rfl
set_option maxRecDepth 4000 in
theorem im_X8_crossed : Cond.instanceMethod yX8_crossed ∈ TT := tt_2 207 rfl rfl
set_option maxRecDepth 4000 in
theorem sl_X8_crossed : Cond.selects RX8 yX8_crossed yX8_crossed ∈ TT := tt_2 208 rfl rfl
set_option maxRecDepth 4000 in
theorem cd_X8_crossed : Cond.code yX8_crossed cX8_crossed 3 (some .int) ∈ TT := tt_2 209 rfl rfl
set_option maxRecDepth 4000 in
theorem ml_X8_124 : Cond.methodLink RX8 124 yX0_crossesBy ∈ TT := tt_2 210 rfl rfl
set_option maxRecDepth 4000 in
theorem im_X0_crossesBy : Cond.instanceMethod yX0_crossesBy ∈ TT := tt_2 211 rfl rfl
set_option maxRecDepth 4000 in
theorem sl_X0_crossesBy : Cond.selects RX0 yX0_crossesBy yX0_crossesBy ∈ TT := tt_2 212 rfl rfl
set_option maxRecDepth 4000 in
theorem cd_X0_crossesBy : Cond.code yX0_crossesBy cX0_crossesBy 5 (some .int) ∈ TT := tt_2 213 rfl rfl
set_option maxRecDepth 4000 in
theorem ml_L_47 : Cond.methodLink RL 47 yX8_buys ∈ TT := tt_2 214 rfl rfl
set_option maxRecDepth 4000 in
theorem im_X8_buys : Cond.instanceMethod yX8_buys ∈ TT := tt_2 215 rfl rfl
set_option maxRecDepth 4000 in
theorem sl_X8_buys : Cond.selects RX8 yX8_buys yX8_buys ∈ TT := tt_2 216 rfl rfl
set_option maxRecDepth 4000 in
theorem cd_X8_buys : Cond.code yX8_buys cX8_buys 5 (some .int) ∈ TT := tt_2 217 rfl rfl
set_option maxRecDepth 4000 in
theorem ml_X8_127 : Cond.methodLink RX8 127 yX6_boughtAt ∈ TT := tt_2 218 rfl rfl
set_option maxRecDepth 4000 in
theorem im_X6_boughtAt : Cond.instanceMethod yX6_boughtAt ∈ TT := tt_2 219 rfl rfl
set_option maxRecDepth 4000 in
theorem sl_X6_boughtAt : Cond.selects RX6 yX6_boughtAt yX6_boughtAt ∈ TT := tt_2 220 rfl rfl
set_option maxRecDepth 4000 in
theorem cd_X6_boughtAt : Cond.code yX6_boughtAt cX6_boughtAt 3 (some .int) ∈ TT := tt_2 221 rfl rfl
set_option maxRecDepth 4000 in
theorem ml_X8_139 : Cond.methodLink RX8 139 Lib.Math.max.name ∈ TT := tt_2 222 rfl rfl
set_option maxRecDepth 4000 in
theorem ml_L_51 : Cond.methodLink RL 51 yX8_returned ∈ TT := tt_2 223 rfl rfl
set_option maxRecDepth 4000 in
theorem im_X8_returned : Cond.instanceMethod yX8_returned ∈ TT := tt_2 224 rfl rfl
set_option maxRecDepth 4000 in
theorem sl_X8_returned : Cond.selects RX8 yX8_returned yX8_returned ∈ TT := tt_2 225 rfl rfl
set_option maxRecDepth 4000 in
theorem cd_X8_returned : Cond.code yX8_returned cX8_returned 3 (some .int) ∈ TT := tt_2 226 rfl rfl
set_option maxRecDepth 4000 in
theorem ml_L_56 : Cond.methodLink RL 56 yX8_feed ∈ TT := tt_2 227 rfl rfl
set_option maxRecDepth 4000 in
theorem im_X8_feed : Cond.instanceMethod yX8_feed ∈ TT := tt_2 228 rfl rfl
set_option maxRecDepth 4000 in
theorem sl_X8_feed : Cond.selects RX8 yX8_feed yX8_feed ∈ TT := tt_2 229 rfl rfl
set_option maxRecDepth 4000 in
theorem cd_X8_feed : Cond.code yX8_feed cX8_feed 4 (some .int) ∈ TT := tt_2 230 rfl rfl
set_option maxRecDepth 4000 in
theorem ml_L_60 : Cond.methodLink RL 60 yX8_wipe ∈ TT := tt_2 231 rfl rfl
set_option maxRecDepth 4000 in
theorem im_X8_wipe : Cond.instanceMethod yX8_wipe ∈ TT := tt_2 232 rfl rfl
set_option maxRecDepth 4000 in
theorem sl_X8_wipe : Cond.selects RX8 yX8_wipe yX8_wipe ∈ TT := tt_2 233 rfl rfl
set_option maxRecDepth 4000 in
theorem cd_X8_wipe : Cond.code yX8_wipe cX8_wipe 2 (some .int) ∈ TT := tt_2 234 rfl rfl
set_option maxRecDepth 4000 in
theorem ml_L_64 : Cond.methodLink RL 64 yX8_liking ∈ TT := tt_2 235 rfl rfl
set_option maxRecDepth 4000 in
theorem im_X8_liking : Cond.instanceMethod yX8_liking ∈ TT := tt_2 236 rfl rfl
set_option maxRecDepth 4000 in
theorem sl_X8_liking : Cond.selects RX8 yX8_liking yX8_liking ∈ TT := tt_2 237 rfl rfl
set_option maxRecDepth 4000 in
theorem cd_X8_liking : Cond.code yX8_liking cX8_liking 2 (some .int) ∈ TT := tt_2 238 rfl rfl
set_option maxRecDepth 4000 in
theorem ml_X8_148 : Cond.methodLink RX8 148 yX1_faultOf ∈ TT := tt_2 239 rfl rfl
set_option maxRecDepth 4000 in
theorem im_X1_faultOf : Cond.instanceMethod yX1_faultOf ∈ TT := tt_3 0 rfl rfl
set_option maxRecDepth 4000 in
theorem sl_X1_faultOf : Cond.selects RX1 yX1_faultOf yX1_faultOf ∈ TT := tt_3 1 rfl rfl
set_option maxRecDepth 4000 in
theorem cd_X1_faultOf : Cond.code yX1_faultOf cX1_faultOf 3 (some .int) ∈ TT := tt_3 2 rfl rfl
set_option maxRecDepth 4000 in
theorem ml_X1_19 : Cond.methodLink RX1 19 Lib.Math.min.name ∈ TT := tt_3 3 rfl rfl
set_option maxRecDepth 4000 in
theorem ml_X1_25 : Cond.methodLink RX1 25 Lib.Math.max.name ∈ TT := tt_3 4 rfl rfl
set_option maxRecDepth 4000 in
theorem ml_X1_32 : Cond.methodLink RX1 32 arraycopyName ∈ TT := tt_3 5 rfl rfl
set_option maxRecDepth 4000 in
theorem ml_X1_47 : Cond.methodLink RX1 47 yX1_readSum ∈ TT := tt_3 6 rfl rfl
set_option maxRecDepth 4000 in
theorem im_X1_readSum : Cond.instanceMethod yX1_readSum ∈ TT := tt_3 8 rfl rfl
set_option maxRecDepth 4000 in
theorem cd_X1_readSum : Cond.code yX1_readSum cX1_readSum 4 none ∈ TT := tt_3 9 rfl rfl
set_option maxRecDepth 4000 in
theorem ml_X1_51 : Cond.methodLink RX1 51 yX1_readProduct ∈ TT := tt_3 10 rfl rfl
set_option maxRecDepth 4000 in
theorem im_X1_readProduct : Cond.instanceMethod yX1_readProduct ∈ TT := tt_3 12 rfl rfl
set_option maxRecDepth 4000 in
theorem cd_X1_readProduct : Cond.code yX1_readProduct cX1_readProduct 3 none ∈ TT := tt_3 13 rfl rfl
set_option maxRecDepth 4000 in
theorem ml_X1_61 : Cond.methodLink RX1 61 yX1_readFactor ∈ TT := tt_3 14 rfl rfl
set_option maxRecDepth 4000 in
theorem im_X1_readFactor : Cond.instanceMethod yX1_readFactor ∈ TT := tt_3 16 rfl rfl
set_option maxRecDepth 4000 in
theorem cd_X1_readFactor : Cond.code yX1_readFactor cX1_readFactor 2 none ∈ TT := tt_3 17 rfl rfl
set_option maxRecDepth 4000 in
theorem ml_X1_64 : Cond.methodLink RX1 64 yX1_digit ∈ TT := tt_3 18 rfl rfl
set_option maxRecDepth 4000 in
theorem im_X1_digit : Cond.instanceMethod yX1_digit ∈ TT := tt_3 20 rfl rfl
set_option maxRecDepth 4000 in
theorem cd_X1_digit : Cond.code yX1_digit cX1_digit 1 (some .int) ∈ TT := tt_3 21 rfl rfl
set_option maxRecDepth 4000 in
theorem ml_X1_68 : Cond.methodLink RX1 68 yX1_readNumber ∈ TT := tt_3 22 rfl rfl
set_option maxRecDepth 4000 in
theorem im_X1_readNumber : Cond.instanceMethod yX1_readNumber ∈ TT := tt_3 24 rfl rfl
set_option maxRecDepth 4000 in
theorem cd_X1_readNumber : Cond.code yX1_readNumber cX1_readNumber 3 none ∈ TT := tt_3 25 rfl rfl
set_option maxRecDepth 4000 in
theorem ml_X1_58 : Cond.methodLink RX1 58 yX1_put ∈ TT := tt_3 26 rfl rfl
set_option maxRecDepth 4000 in
theorem im_X1_put : Cond.instanceMethod yX1_put ∈ TT := tt_3 28 rfl rfl
set_option maxRecDepth 4000 in
theorem cd_X1_put : Cond.code yX1_put cX1_put 2 none ∈ TT := tt_3 29 rfl rfl
set_option maxRecDepth 4000 in
theorem ml_X1_71 : Cond.methodLink RX1 71 yX1_nameHere ∈ TT := tt_3 30 rfl rfl
set_option maxRecDepth 4000 in
theorem im_X1_nameHere : Cond.instanceMethod yX1_nameHere ∈ TT := tt_3 32 rfl rfl
set_option maxRecDepth 4000 in
theorem cd_X1_nameHere : Cond.code yX1_nameHere cX1_nameHere 1 (some .int) ∈ TT := tt_3 33 rfl rfl
set_option maxRecDepth 4000 in
theorem ml_X1_83 : Cond.methodLink RX1 83 yJ0_indexOf_0f7a4 ∈ TT := tt_3 35 rfl rfl
set_option maxRecDepth 4000 in
theorem im_J0_indexOf_0f7a4 : Cond.instanceMethod yJ0_indexOf_0f7a4 ∈ TT := tt_3 36 rfl rfl
set_option maxRecDepth 4000 in
theorem sl_J0_indexOf_0f7a4 : Cond.selects RJ0 yJ0_indexOf_0f7a4 yJ0_indexOf_0f7a4 ∈ TT := tt_3 37 rfl rfl
set_option maxRecDepth 4000 in
theorem cd_J0_indexOf_0f7a4 : Cond.code yJ0_indexOf_0f7a4 cJ0_indexOf_0f7a4 2 (some .int) ∈ TT := tt_3 38 rfl rfl
set_option maxRecDepth 4000 in
theorem ml_J0_633 : Cond.methodLink RJ0 633 yJ0_indexOf_7cf53 ∈ TT := tt_3 39 rfl rfl
set_option maxRecDepth 4000 in
theorem im_J0_indexOf_7cf53 : Cond.instanceMethod yJ0_indexOf_7cf53 ∈ TT := tt_3 40 rfl rfl
set_option maxRecDepth 4000 in
theorem sl_J0_indexOf_7cf53 : Cond.selects RJ0 yJ0_indexOf_7cf53 yJ0_indexOf_7cf53 ∈ TT := tt_3 41 rfl rfl
set_option maxRecDepth 4000 in
theorem cd_J0_indexOf_7cf53 : Cond.code yJ0_indexOf_7cf53 cJ0_indexOf_7cf53 3 (some .int) ∈ TT := tt_3 42 rfl rfl
set_option maxRecDepth 4000 in
theorem ml_J0_492 : Cond.methodLink RJ0 492 yJ0_isLatin1_aae02 ∈ TT := tt_3 43 rfl rfl
set_option maxRecDepth 4000 in
theorem im_J0_isLatin1_aae02 : Cond.instanceMethod yJ0_isLatin1_aae02 ∈ TT := tt_3 44 rfl rfl
set_option maxRecDepth 4000 in
theorem sl_J0_isLatin1_aae02 : Cond.selects RJ0 yJ0_isLatin1_aae02 yJ0_isLatin1_aae02 ∈ TT := tt_3 45 rfl rfl
set_option maxRecDepth 4000 in
theorem cd_J0_isLatin1_aae02 : Cond.code yJ0_isLatin1_aae02 cJ0_isLatin1_aae02 1 (some .boolean) ∈ TT := tt_3 46 rfl rfl
set_option maxRecDepth 4000 in
theorem fl_J0_38 : Cond.fieldLink RJ0 38 "java/lang/String" "COMPACT_STRINGS" "Z" ∈ TT := tt_3 47 rfl rfl
set_option maxRecDepth 4000 in
theorem ml_J0_505 : Cond.methodLink RJ0 505 yJ0_length_8abf5 ∈ TT := tt_3 49 rfl rfl
set_option maxRecDepth 4000 in
theorem im_J0_length_8abf5 : Cond.instanceMethod yJ0_length_8abf5 ∈ TT := tt_3 50 rfl rfl
set_option maxRecDepth 4000 in
theorem sl_J0_length_8abf5 : Cond.selects RJ0 yJ0_length_8abf5 yJ0_length_8abf5 ∈ TT := tt_3 51 rfl rfl
set_option maxRecDepth 4000 in
theorem cd_J0_length_8abf5 : Cond.code yJ0_length_8abf5 cJ0_length_8abf5 1 (some .int) ∈ TT := tt_3 52 rfl rfl
set_option maxRecDepth 4000 in
theorem ml_J0_335 : Cond.methodLink RJ0 335 yJ0_coder_7d493 ∈ TT := tt_3 53 rfl rfl
set_option maxRecDepth 4000 in
theorem im_J0_coder_7d493 : Cond.instanceMethod yJ0_coder_7d493 ∈ TT := tt_3 54 rfl rfl
set_option maxRecDepth 4000 in
theorem sl_J0_coder_7d493 : Cond.selects RJ0 yJ0_coder_7d493 yJ0_coder_7d493 ∈ TT := tt_3 55 rfl rfl
set_option maxRecDepth 4000 in
theorem cd_J0_coder_7d493 : Cond.code yJ0_coder_7d493 cJ0_coder_7d493 1 (some .byte) ∈ TT := tt_3 56 rfl rfl
set_option maxRecDepth 4000 in
theorem ml_J0_637 : Cond.methodLink RJ0 637 yJ1_indexOf_4cfef ∈ TT := tt_3 57 rfl rfl
set_option maxRecDepth 4000 in
theorem sm_J1_indexOf_4cfef : Cond.static yJ1_indexOf_4cfef ∈ TT := tt_3 58 rfl rfl
set_option maxRecDepth 4000 in
theorem cd_J1_indexOf_4cfef : Cond.code yJ1_indexOf_4cfef cJ1_indexOf_4cfef 4 (some .int) ∈ TT := tt_3 59 rfl rfl
set_option maxRecDepth 4000 in
theorem ml_J1_88 : Cond.methodLink RJ1 88 yJ1_canEncode_9a6ad ∈ TT := tt_3 60 rfl rfl
set_option maxRecDepth 4000 in
theorem sm_J1_canEncode_9a6ad : Cond.static yJ1_canEncode_9a6ad ∈ TT := tt_3 61 rfl rfl
set_option maxRecDepth 4000 in
theorem cd_J1_canEncode_9a6ad : Cond.code yJ1_canEncode_9a6ad cJ1_canEncode_9a6ad 1 (some .boolean) ∈ TT := tt_3 62 rfl rfl
set_option maxRecDepth 4000 in
theorem ml_J1_92 : Cond.methodLink RJ1 92 Lib.Math.max.name ∈ TT := tt_3 63 rfl rfl
set_option maxRecDepth 4000 in
theorem ml_J1_38 : Cond.methodLink RJ1 38 Lib.Math.min.name ∈ TT := tt_3 64 rfl rfl
set_option maxRecDepth 4000 in
theorem ml_J1_95 : Cond.methodLink RJ1 95 yJ1_indexOfChar_4cfef ∈ TT := tt_3 65 rfl rfl
set_option maxRecDepth 4000 in
theorem sm_J1_indexOfChar_4cfef : Cond.static yJ1_indexOfChar_4cfef ∈ TT := tt_3 66 rfl rfl
set_option maxRecDepth 4000 in
theorem cd_J1_indexOfChar_4cfef : Cond.code yJ1_indexOfChar_4cfef cJ1_indexOfChar_4cfef 6 (some .int) ∈ TT := tt_3 67 rfl rfl
set_option maxRecDepth 4000 in
theorem ml_J0_640 : Cond.methodLink RJ0 640 yJ2_indexOf_4cfef ∈ TT := tt_3 68 rfl rfl
set_option maxRecDepth 4000 in
theorem sm_J2_indexOf_4cfef : Cond.static yJ2_indexOf_4cfef ∈ TT := tt_3 69 rfl rfl
set_option maxRecDepth 4000 in
theorem cd_J2_indexOf_4cfef : Cond.code yJ2_indexOf_4cfef cJ2_indexOf_4cfef 4 (some .int) ∈ TT := tt_3 70 rfl rfl
set_option maxRecDepth 4000 in
theorem ml_J2_224 : Cond.methodLink RJ2 224 Lib.Math.max.name ∈ TT := tt_3 71 rfl rfl
set_option maxRecDepth 4000 in
theorem ml_J2_183 : Cond.methodLink RJ2 183 Lib.Math.min.name ∈ TT := tt_3 72 rfl rfl
set_option maxRecDepth 4000 in
theorem k_J2_227 : Cond.constant RJ2 227 (65536) ∈ TT := tt_3 73 rfl rfl
set_option maxRecDepth 4000 in
theorem ml_J2_228 : Cond.methodLink RJ2 228 yJ2_indexOfChar_4cfef ∈ TT := tt_3 74 rfl rfl
set_option maxRecDepth 4000 in
theorem sm_J2_indexOfChar_4cfef : Cond.static yJ2_indexOfChar_4cfef ∈ TT := tt_3 75 rfl rfl
set_option maxRecDepth 4000 in
theorem cd_J2_indexOfChar_4cfef : Cond.code yJ2_indexOfChar_4cfef cJ2_indexOfChar_4cfef 4 (some .int) ∈ TT := tt_3 76 rfl rfl
set_option maxRecDepth 4000 in
theorem ml_J2_96 : Cond.methodLink RJ2 96 yJ2_checkBoundsBeginEnd_d044e ∈ TT := tt_3 77 rfl rfl
set_option maxRecDepth 4000 in
theorem sm_J2_checkBoundsBeginEnd_d044e : Cond.static yJ2_checkBoundsBeginEnd_d044e ∈ TT := tt_3 78 rfl rfl
set_option maxRecDepth 4000 in
theorem cd_J2_checkBoundsBeginEnd_d044e : Cond.code yJ2_checkBoundsBeginEnd_d044e cJ2_checkBoundsBeginEnd_d044e 3 none ∈ TT := tt_3 79 rfl rfl
set_option maxRecDepth 4000 in
theorem ml_J2_48 : Cond.methodLink RJ2 48 yJ2_length_9d52b ∈ TT := tt_3 80 rfl rfl
set_option maxRecDepth 4000 in
theorem sm_J2_length_9d52b : Cond.static yJ2_length_9d52b ∈ TT := tt_3 81 rfl rfl
set_option maxRecDepth 4000 in
theorem cd_J2_length_9d52b : Cond.code yJ2_length_9d52b cJ2_length_9d52b 1 (some .int) ∈ TT := tt_3 82 rfl rfl
set_option maxRecDepth 4000 in
theorem ml_J2_241 : Cond.methodLink RJ2 241 yJ0_checkBoundsBeginEnd_23922 ∈ TT := tt_3 83 rfl rfl
set_option maxRecDepth 4000 in
theorem sm_J0_checkBoundsBeginEnd_23922 : Cond.static yJ0_checkBoundsBeginEnd_23922 ∈ TT := tt_3 84 rfl rfl
set_option maxRecDepth 4000 in
theorem cd_J0_checkBoundsBeginEnd_23922 : Cond.code yJ0_checkBoundsBeginEnd_23922 cJ0_checkBoundsBeginEnd_23922 3 none ∈ TT := tt_3 85 rfl rfl
set_option maxRecDepth 4000 in
theorem fl_J0_1053 : Cond.fieldLink RJ0 1053 "jdk/internal/util/Preconditions" "SIOOBE_FORMATTER" "Ljava/util/function/BiFunction;" ∈ TT := tt_3 86 rfl rfl
set_option maxRecDepth 4000 in
theorem ml_J0_1062 : Cond.methodLink RJ0 1062 yJ3_checkFromToIndex_8c36e ∈ TT := tt_3 88 rfl rfl
set_option maxRecDepth 4000 in
theorem sm_J3_checkFromToIndex_8c36e : Cond.static yJ3_checkFromToIndex_8c36e ∈ TT := tt_3 89 rfl rfl
set_option maxRecDepth 4000 in
theorem cd_J3_checkFromToIndex_8c36e : Cond.code yJ3_checkFromToIndex_8c36e cJ3_checkFromToIndex_8c36e 4 (some .int) ∈ TT := tt_3 90 rfl rfl
set_option maxRecDepth 4000 in
theorem ml_J2_244 : Cond.methodLink RJ2 244 yJ2_indexOfCharUnsafe_4cfef ∈ TT := tt_3 91 rfl rfl
set_option maxRecDepth 4000 in
theorem sm_J2_indexOfCharUnsafe_4cfef : Cond.static yJ2_indexOfCharUnsafe_4cfef ∈ TT := tt_3 92 rfl rfl
set_option maxRecDepth 4000 in
theorem cd_J2_indexOfCharUnsafe_4cfef : Cond.code yJ2_indexOfCharUnsafe_4cfef cJ2_indexOfCharUnsafe_4cfef 5 (some .int) ∈ TT := tt_3 93 rfl rfl
set_option maxRecDepth 4000 in
theorem ml_J2_71 : Cond.methodLink RJ2 71 yJ2_getChar_3b067 ∈ TT := tt_3 94 rfl rfl
set_option maxRecDepth 4000 in
theorem sm_J2_getChar_3b067 : Cond.static yJ2_getChar_3b067 ∈ TT := tt_3 95 rfl rfl
set_option maxRecDepth 4000 in
theorem cd_J2_getChar_3b067 : Cond.code yJ2_getChar_3b067 cJ2_getChar_3b067 2 (some .char) ∈ TT := tt_3 96 rfl rfl
set_option maxRecDepth 4000 in
theorem fl_J2_44 : Cond.fieldLink RJ2 44 "java/lang/StringUTF16" "$assertionsDisabled" "Z" ∈ TT := tt_3 97 rfl rfl
set_option maxRecDepth 4000 in
theorem fl_J2_59 : Cond.fieldLink RJ2 59 "java/lang/StringUTF16" "HI_BYTE_SHIFT" "I" ∈ TT := tt_3 99 rfl rfl
set_option maxRecDepth 4000 in
theorem fl_J2_63 : Cond.fieldLink RJ2 63 "java/lang/StringUTF16" "LO_BYTE_SHIFT" "I" ∈ TT := tt_3 101 rfl rfl
set_option maxRecDepth 4000 in
theorem ml_J2_232 : Cond.methodLink RJ2 232 yJ2_indexOfSupplementary_4cfef ∈ TT := tt_3 103 rfl rfl
set_option maxRecDepth 4000 in
theorem sm_J2_indexOfSupplementary_4cfef : Cond.static yJ2_indexOfSupplementary_4cfef ∈ TT := tt_3 104 rfl rfl
set_option maxRecDepth 4000 in
theorem cd_J2_indexOfSupplementary_4cfef : Cond.code yJ2_indexOfSupplementary_4cfef cJ2_indexOfSupplementary_4cfef 7 (some .int) ∈ TT := tt_3 105 rfl rfl
set_option maxRecDepth 4000 in
theorem ml_J2_164 : Cond.methodLink RJ2 164 yJ11_isValidCodePoint_9a6ad ∈ TT := tt_3 106 rfl rfl
set_option maxRecDepth 4000 in
theorem sm_J11_isValidCodePoint_9a6ad : Cond.static yJ11_isValidCodePoint_9a6ad ∈ TT := tt_3 107 rfl rfl
set_option maxRecDepth 4000 in
theorem cd_J11_isValidCodePoint_9a6ad : Cond.code yJ11_isValidCodePoint_9a6ad cJ11_isValidCodePoint_9a6ad 2 (some .boolean) ∈ TT := tt_3 108 rfl rfl
set_option maxRecDepth 4000 in
theorem ml_J2_157 : Cond.methodLink RJ2 157 yJ11_highSurrogate_5068e ∈ TT := tt_3 109 rfl rfl
set_option maxRecDepth 4000 in
theorem sm_J11_highSurrogate_5068e : Cond.static yJ11_highSurrogate_5068e ∈ TT := tt_3 110 rfl rfl
set_option maxRecDepth 4000 in
theorem cd_J11_highSurrogate_5068e : Cond.code yJ11_highSurrogate_5068e cJ11_highSurrogate_5068e 1 (some .char) ∈ TT := tt_3 111 rfl rfl
set_option maxRecDepth 4000 in
theorem k_J11_110 : Cond.constant RJ11 110 (55232) ∈ TT := tt_3 112 rfl rfl
set_option maxRecDepth 4000 in
theorem ml_J2_161 : Cond.methodLink RJ2 161 yJ11_lowSurrogate_5068e ∈ TT := tt_3 113 rfl rfl
set_option maxRecDepth 4000 in
theorem sm_J11_lowSurrogate_5068e : Cond.static yJ11_lowSurrogate_5068e ∈ TT := tt_3 114 rfl rfl
set_option maxRecDepth 4000 in
theorem cd_J11_lowSurrogate_5068e : Cond.code yJ11_lowSurrogate_5068e cJ11_lowSurrogate_5068e 1 (some .char) ∈ TT := tt_3 115 rfl rfl
set_option maxRecDepth 4000 in
theorem k_J11_76 : Cond.constant RJ11 76 (56320) ∈ TT := tt_3 116 rfl rfl
set_option maxRecDepth 4000 in
theorem ml_X1_54 : Cond.methodLink RX1 54 yX1_sees ∈ TT := tt_3 117 rfl rfl
set_option maxRecDepth 4000 in
theorem im_X1_sees : Cond.instanceMethod yX1_sees ∈ TT := tt_3 119 rfl rfl
set_option maxRecDepth 4000 in
theorem cd_X1_sees : Cond.code yX1_sees cX1_sees 2 (some .boolean) ∈ TT := tt_3 120 rfl rfl
set_option maxRecDepth 4000 in
theorem ml_X1_74 : Cond.methodLink RX1 74 yX1_readBracket ∈ TT := tt_3 121 rfl rfl
set_option maxRecDepth 4000 in
theorem im_X1_readBracket : Cond.instanceMethod yX1_readBracket ∈ TT := tt_3 123 rfl rfl
set_option maxRecDepth 4000 in
theorem cd_X1_readBracket : Cond.code yX1_readBracket cX1_readBracket 2 none ∈ TT := tt_3 124 rfl rfl
set_option maxRecDepth 4000 in
theorem ml_X1_77 : Cond.methodLink RX1 77 yX1_pass ∈ TT := tt_3 125 rfl rfl
set_option maxRecDepth 4000 in
theorem im_X1_pass : Cond.instanceMethod yX1_pass ∈ TT := tt_3 127 rfl rfl
set_option maxRecDepth 4000 in
theorem cd_X1_pass : Cond.code yX1_pass cX1_pass 2 none ∈ TT := tt_3 128 rfl rfl
set_option maxRecDepth 4000 in
theorem ml_X8_155 : Cond.methodLink RX8 155 yX1_putCodeInto ∈ TT := tt_3 129 rfl rfl
set_option maxRecDepth 4000 in
theorem im_X1_putCodeInto : Cond.instanceMethod yX1_putCodeInto ∈ TT := tt_3 130 rfl rfl
set_option maxRecDepth 4000 in
theorem sl_X1_putCodeInto : Cond.selects RX1 yX1_putCodeInto yX1_putCodeInto ∈ TT := tt_3 131 rfl rfl
set_option maxRecDepth 4000 in
theorem cd_X1_putCodeInto : Cond.code yX1_putCodeInto cX1_putCodeInto 3 (some .int) ∈ TT := tt_3 132 rfl rfl
set_option maxRecDepth 4000 in
theorem ml_L_68 : Cond.methodLink RL 68 yX8_even ∈ TT := tt_3 133 rfl rfl
set_option maxRecDepth 4000 in
theorem im_X8_even : Cond.instanceMethod yX8_even ∈ TT := tt_3 134 rfl rfl
set_option maxRecDepth 4000 in
theorem sl_X8_even : Cond.selects RX8 yX8_even yX8_even ∈ TT := tt_3 135 rfl rfl
set_option maxRecDepth 4000 in
theorem cd_X8_even : Cond.code yX8_even cX8_even 2 (some .int) ∈ TT := tt_3 136 rfl rfl
set_option maxRecDepth 4000 in
theorem ml_X8_162 : Cond.methodLink RX8 162 yX6_hasLiking ∈ TT := tt_3 137 rfl rfl
set_option maxRecDepth 4000 in
theorem ml_L_72 : Cond.methodLink RL 72 yX8_rule ∈ TT := tt_3 138 rfl rfl
set_option maxRecDepth 4000 in
theorem im_X8_rule : Cond.instanceMethod yX8_rule ∈ TT := tt_3 139 rfl rfl
set_option maxRecDepth 4000 in
theorem sl_X8_rule : Cond.selects RX8 yX8_rule yX8_rule ∈ TT := tt_3 140 rfl rfl
set_option maxRecDepth 4000 in
theorem cd_X8_rule : Cond.code yX8_rule cX8_rule 4 (some .int) ∈ TT := tt_3 141 rfl rfl
set_option maxRecDepth 4000 in
theorem fl_X8_166 : Cond.fieldLink RX8 166 "SlipWeeks" "RULE_LEAST" "[I" ∈ TT := tt_3 142 rfl rfl
set_option maxRecDepth 4000 in
theorem fl_X8_169 : Cond.fieldLink RX8 169 "SlipWeeks" "RULE_MOST" "[I" ∈ TT := tt_3 144 rfl rfl
set_option maxRecDepth 4000 in
theorem ml_L_76 : Cond.methodLink RL 76 yX8_seed ∈ TT := tt_3 146 rfl rfl
set_option maxRecDepth 4000 in
theorem im_X8_seed : Cond.instanceMethod yX8_seed ∈ TT := tt_3 147 rfl rfl
set_option maxRecDepth 4000 in
theorem sl_X8_seed : Cond.selects RX8 yX8_seed yX8_seed ∈ TT := tt_3 148 rfl rfl
set_option maxRecDepth 4000 in
theorem cd_X8_seed : Cond.code yX8_seed cX8_seed 3 (some .int) ∈ TT := tt_3 149 rfl rfl
set_option maxRecDepth 4000 in
theorem ml_L_80 : Cond.methodLink RL 80 yX8_week ∈ TT := tt_3 150 rfl rfl
set_option maxRecDepth 4000 in
theorem im_X8_week : Cond.instanceMethod yX8_week ∈ TT := tt_3 151 rfl rfl
set_option maxRecDepth 4000 in
theorem sl_X8_week : Cond.selects RX8 yX8_week yX8_week ∈ TT := tt_3 152 rfl rfl
set_option maxRecDepth 4000 in
theorem cd_X8_week : Cond.code yX8_week cX8_week 2 (some .int) ∈ TT := tt_3 153 rfl rfl
set_option maxRecDepth 4000 in
theorem ml_X8_178 : Cond.methodLink RX8 178 yX6_isBookFull ∈ TT := tt_3 154 rfl rfl
set_option maxRecDepth 4000 in
theorem im_X6_isBookFull : Cond.instanceMethod yX6_isBookFull ∈ TT := tt_3 155 rfl rfl
set_option maxRecDepth 4000 in
theorem sl_X6_isBookFull : Cond.selects RX6 yX6_isBookFull yX6_isBookFull ∈ TT := tt_3 156 rfl rfl
set_option maxRecDepth 4000 in
theorem cd_X6_isBookFull : Cond.code yX6_isBookFull cX6_isBookFull 1 (some .boolean) ∈ TT := tt_3 157 rfl rfl
set_option maxRecDepth 4000 in
theorem ml_X8_181 : Cond.methodLink RX8 181 yX8_drawByLots ∈ TT := tt_3 158 rfl rfl
set_option maxRecDepth 4000 in
theorem im_X8_drawByLots : Cond.instanceMethod yX8_drawByLots ∈ TT := tt_3 160 rfl rfl
set_option maxRecDepth 4000 in
theorem cd_X8_drawByLots : Cond.code yX8_drawByLots cX8_drawByLots 3 (some .int) ∈ TT := tt_3 161 rfl rfl
set_option maxRecDepth 4000 in
theorem k_X8_289 : Cond.constant RX8 289 (1000000) ∈ TT := tt_3 162 rfl rfl
set_option maxRecDepth 4000 in
theorem k_X8_290 : Cond.constant RX8 290 (1103515245) ∈ TT := tt_3 163 rfl rfl
set_option maxRecDepth 4000 in
theorem ml_X8_185 : Cond.methodLink RX8 185 yX8_holdWeek ∈ TT := tt_3 164 rfl rfl
set_option maxRecDepth 4000 in
theorem im_X8_holdWeek : Cond.instanceMethod yX8_holdWeek ∈ TT := tt_3 166 rfl rfl
set_option maxRecDepth 4000 in
theorem cd_X8_holdWeek : Cond.code yX8_holdWeek cX8_holdWeek 2 none ∈ TT := tt_3 167 rfl rfl
set_option maxRecDepth 4000 in
theorem ml_X8_291 : Cond.methodLink RX8 291 yX6_enterWeek ∈ TT := tt_3 168 rfl rfl
set_option maxRecDepth 4000 in
theorem im_X6_enterWeek : Cond.instanceMethod yX6_enterWeek ∈ TT := tt_3 169 rfl rfl
set_option maxRecDepth 4000 in
theorem sl_X6_enterWeek : Cond.selects RX6 yX6_enterWeek yX6_enterWeek ∈ TT := tt_3 170 rfl rfl
set_option maxRecDepth 4000 in
theorem cd_X6_enterWeek : Cond.code yX6_enterWeek cX6_enterWeek 12 none ∈ TT := tt_3 171 rfl rfl
set_option maxRecDepth 4000 in
theorem ml_X6_72 : Cond.methodLink RX6 72 yX6_isBookFull ∈ TT := tt_3 172 rfl rfl
set_option maxRecDepth 4000 in
theorem ml_X6_81 : Cond.methodLink RX6 81 yX6_potWithIn ∈ TT := tt_3 173 rfl rfl
set_option maxRecDepth 4000 in
theorem im_X6_potWithIn : Cond.instanceMethod yX6_potWithIn ∈ TT := tt_3 174 rfl rfl
set_option maxRecDepth 4000 in
theorem sl_X6_potWithIn : Cond.selects RX6 yX6_potWithIn yX6_potWithIn ∈ TT := tt_3 175 rfl rfl
set_option maxRecDepth 4000 in
theorem cd_X6_potWithIn : Cond.code yX6_potWithIn cX6_potWithIn 5 (some .long) ∈ TT := tt_3 176 rfl rfl
set_option maxRecDepth 4000 in
theorem kl_X6_70 : Cond.constantLong RX6 70 (100) ∈ TT := tt_3 177 rfl rfl
set_option maxRecDepth 4000 in
theorem ml_X6_85 : Cond.methodLink RX6 85 yX0_tellWinners ∈ TT := tt_3 178 rfl rfl
set_option maxRecDepth 4000 in
theorem im_X0_tellWinners : Cond.instanceMethod yX0_tellWinners ∈ TT := tt_3 179 rfl rfl
set_option maxRecDepth 4000 in
theorem sl_X0_tellWinners : Cond.selects RX0 yX0_tellWinners yX0_tellWinners ∈ TT := tt_3 180 rfl rfl
set_option maxRecDepth 4000 in
theorem cd_X0_tellWinners : Cond.code yX0_tellWinners cX0_tellWinners 4 none ∈ TT := tt_3 181 rfl rfl
set_option maxRecDepth 4000 in
theorem ml_X6_92 : Cond.methodLink RX6 92 yX6_rankPart ∈ TT := tt_3 182 rfl rfl
set_option maxRecDepth 4000 in
theorem im_X6_rankPart : Cond.instanceMethod yX6_rankPart ∈ TT := tt_3 183 rfl rfl
set_option maxRecDepth 4000 in
theorem sl_X6_rankPart : Cond.selects RX6 yX6_rankPart yX6_rankPart ∈ TT := tt_3 184 rfl rfl
set_option maxRecDepth 4000 in
theorem cd_X6_rankPart : Cond.code yX6_rankPart cX6_rankPart 4 (some .long) ∈ TT := tt_3 185 rfl rfl
set_option maxRecDepth 4000 in
theorem ml_X6_96 : Cond.methodLink RX6 96 Lib.MathLoose.max_long.x ∈ TT := tt_3 186 rfl rfl
set_option maxRecDepth 4000 in
theorem sm_Lib_MathLoose_max_long_x : Cond.static Lib.MathLoose.max_long.x ∈ TT := tt_3 187 rfl rfl
set_option maxRecDepth 4000 in
theorem cd_Lib_MathLoose_max_long_x : Cond.code Lib.MathLoose.max_long.x Lib.MathLoose.max_long.code 4 (some .long) ∈ TT := tt_3 188 rfl rfl
set_option maxRecDepth 4000 in
theorem kl_X6_101 : Cond.constantLong RX6 101 (99999999) ∈ TT := tt_3 189 rfl rfl
set_option maxRecDepth 4000 in
theorem ml_X6_103 : Cond.methodLink RX6 103 Lib.MathLoose.min_long.x ∈ TT := tt_3 190 rfl rfl
set_option maxRecDepth 4000 in
theorem sm_Lib_MathLoose_min_long_x : Cond.static Lib.MathLoose.min_long.x ∈ TT := tt_3 191 rfl rfl
set_option maxRecDepth 4000 in
theorem cd_Lib_MathLoose_min_long_x : Cond.code Lib.MathLoose.min_long.x Lib.MathLoose.min_long.code 4 (some .long) ∈ TT := tt_3 192 rfl rfl
set_option maxRecDepth 4000 in
theorem ml_L_84 : Cond.methodLink RL 84 yX8_told ∈ TT := tt_3 193 rfl rfl
set_option maxRecDepth 4000 in
theorem im_X8_told : Cond.instanceMethod yX8_told ∈ TT := tt_3 194 rfl rfl
set_option maxRecDepth 4000 in
theorem sl_X8_told : Cond.selects RX8 yX8_told yX8_told ∈ TT := tt_3 195 rfl rfl
set_option maxRecDepth 4000 in
theorem cd_X8_told : Cond.code yX8_told cX8_told 2 (some .int) ∈ TT := tt_3 196 rfl rfl
set_option maxRecDepth 4000 in
theorem ml_X8_192 : Cond.methodLink RX8 192 yX6_bookCell ∈ TT := tt_3 197 rfl rfl
set_option maxRecDepth 4000 in
theorem ml_L_88 : Cond.methodLink RL 88 yX8_book ∈ TT := tt_3 198 rfl rfl
set_option maxRecDepth 4000 in
theorem im_X8_book : Cond.instanceMethod yX8_book ∈ TT := tt_3 199 rfl rfl
set_option maxRecDepth 4000 in
theorem sl_X8_book : Cond.selects RX8 yX8_book yX8_book ∈ TT := tt_3 200 rfl rfl
set_option maxRecDepth 4000 in
theorem cd_X8_book : Cond.code yX8_book cX8_book 3 (some .int) ∈ TT := tt_3 201 rfl rfl
set_option maxRecDepth 4000 in
theorem ml_L_92 : Cond.methodLink RL 92 yX8_now ∈ TT := tt_3 202 rfl rfl
set_option maxRecDepth 4000 in
theorem im_X8_now : Cond.instanceMethod yX8_now ∈ TT := tt_3 203 rfl rfl
set_option maxRecDepth 4000 in
theorem sl_X8_now : Cond.selects RX8 yX8_now yX8_now ∈ TT := tt_3 204 rfl rfl
set_option maxRecDepth 4000 in
theorem cd_X8_now : Cond.code yX8_now cX8_now 1 (some .int) ∈ TT := tt_3 205 rfl rfl
set_option maxRecDepth 4000 in
theorem ml_X8_198 : Cond.methodLink RX8 198 yX6_potWithIn ∈ TT := tt_3 206 rfl rfl
set_option maxRecDepth 4000 in
theorem ml_L_96 : Cond.methodLink RL 96 yX8_worth ∈ TT := tt_3 207 rfl rfl
set_option maxRecDepth 4000 in
theorem im_X8_worth : Cond.instanceMethod yX8_worth ∈ TT := tt_3 208 rfl rfl
set_option maxRecDepth 4000 in
theorem sl_X8_worth : Cond.selects RX8 yX8_worth yX8_worth ∈ TT := tt_3 209 rfl rfl
set_option maxRecDepth 4000 in
theorem cd_X8_worth : Cond.code yX8_worth cX8_worth 2 (some .int) ∈ TT := tt_3 210 rfl rfl
set_option maxRecDepth 4000 in
theorem ml_X8_202 : Cond.methodLink RX8 202 yX0_settleWinners ∈ TT := tt_3 211 rfl rfl
set_option maxRecDepth 4000 in
theorem im_X0_settleWinners : Cond.instanceMethod yX0_settleWinners ∈ TT := tt_3 212 rfl rfl
set_option maxRecDepth 4000 in
theorem sl_X0_settleWinners : Cond.selects RX0 yX0_settleWinners yX0_settleWinners ∈ TT := tt_3 213 rfl rfl
set_option maxRecDepth 4000 in
theorem cd_X0_settleWinners : Cond.code yX0_settleWinners cX0_settleWinners 2 none ∈ TT := tt_3 214 rfl rfl
set_option maxRecDepth 4000 in
theorem ml_X0_119 : Cond.methodLink RX0 119 yX0_settle ∈ TT := tt_3 215 rfl rfl
set_option maxRecDepth 4000 in
theorem ml_X0_128 : Cond.methodLink RX0 128 yX3_gather ∈ TT := tt_3 216 rfl rfl
set_option maxRecDepth 4000 in
theorem im_X3_gather : Cond.instanceMethod yX3_gather ∈ TT := tt_3 217 rfl rfl
set_option maxRecDepth 4000 in
theorem sl_X3_gather : Cond.selects RX3 yX3_gather yX3_gather ∈ TT := tt_3 218 rfl rfl
set_option maxRecDepth 4000 in
theorem cd_X3_gather : Cond.code yX3_gather cX3_gather 3 none ∈ TT := tt_3 219 rfl rfl
set_option maxRecDepth 4000 in
theorem ml_X3_26 : Cond.methodLink RX3 26 yJ7_fill_d0a16 ∈ TT := tt_3 220 rfl rfl
set_option maxRecDepth 4000 in
theorem sm_J7_fill_d0a16 : Cond.static yJ7_fill_d0a16 ∈ TT := tt_3 221 rfl rfl
set_option maxRecDepth 4000 in
theorem cd_J7_fill_d0a16 : Cond.code yJ7_fill_d0a16 cJ7_fill_d0a16 5 none ∈ TT := tt_3 222 rfl rfl
set_option maxRecDepth 4000 in
theorem ml_X3_37 : Cond.methodLink RX3 37 yX3_mark ∈ TT := tt_3 223 rfl rfl
set_option maxRecDepth 4000 in
theorem im_X3_mark : Cond.instanceMethod yX3_mark ∈ TT := tt_3 225 rfl rfl
set_option maxRecDepth 4000 in
theorem cd_X3_mark : Cond.code yX3_mark cX3_mark 9 none ∈ TT := tt_3 226 rfl rfl
set_option maxRecDepth 4000 in
theorem ml_X0_131 : Cond.methodLink RX0 131 yX3_ofRank ∈ TT := tt_3 231 rfl rfl
set_option maxRecDepth 4000 in
theorem im_X3_ofRank : Cond.instanceMethod yX3_ofRank ∈ TT := tt_3 232 rfl rfl
set_option maxRecDepth 4000 in
theorem sl_X3_ofRank : Cond.selects RX3 yX3_ofRank yX3_ofRank ∈ TT := tt_3 233 rfl rfl
set_option maxRecDepth 4000 in
theorem cd_X3_ofRank : Cond.code yX3_ofRank cX3_ofRank 10 (some .long) ∈ TT := tt_3 234 rfl rfl
set_option maxRecDepth 4000 in
theorem kl_X3_41 : Cond.constantLong RX3 41 (4) ∈ TT := tt_3 235 rfl rfl
set_option maxRecDepth 4000 in
theorem kl_X3_43 : Cond.constantLong RX3 43 (3) ∈ TT := tt_3 236 rfl rfl
set_option maxRecDepth 4000 in
theorem kl_X3_45 : Cond.constantLong RX3 45 (6) ∈ TT := tt_3 237 rfl rfl
set_option maxRecDepth 4000 in
theorem ml_X8_205 : Cond.methodLink RX8 205 yX7_worthOf ∈ TT := tt_3 238 rfl rfl
set_option maxRecDepth 4000 in
theorem im_X7_worthOf : Cond.instanceMethod yX7_worthOf ∈ TT := tt_3 239 rfl rfl
set_option maxRecDepth 4000 in
theorem sl_X7_worthOf : Cond.selects RX7 yX7_worthOf yX7_worthOf ∈ TT := tt_4 0 rfl rfl
set_option maxRecDepth 4000 in
theorem cd_X7_worthOf : Cond.code yX7_worthOf cX7_worthOf 18 (some .long) ∈ TT := tt_4 1 rfl rfl
set_option maxRecDepth 4000 in
theorem ml_X7_46 : Cond.methodLink RX7 46 yX6_potWithIn ∈ TT := tt_4 2 rfl rfl
set_option maxRecDepth 4000 in
theorem ml_X7_52 : Cond.methodLink RX7 52 yX6_rankPart ∈ TT := tt_4 3 rfl rfl
set_option maxRecDepth 4000 in
theorem ml_X7_56 : Cond.methodLink RX7 56 yJ6_bitCount_0f7a4 ∈ TT := tt_4 4 rfl rfl
set_option maxRecDepth 4000 in
theorem ml_X7_62 : Cond.methodLink RX7 62 yX0_winnersAt ∈ TT := tt_4 5 rfl rfl
set_option maxRecDepth 4000 in
theorem im_X0_winnersAt : Cond.instanceMethod yX0_winnersAt ∈ TT := tt_4 6 rfl rfl
set_option maxRecDepth 4000 in
theorem sl_X0_winnersAt : Cond.selects RX0 yX0_winnersAt yX0_winnersAt ∈ TT := tt_4 7 rfl rfl
set_option maxRecDepth 4000 in
theorem cd_X0_winnersAt : Cond.code yX0_winnersAt cX0_winnersAt 3 (some .int) ∈ TT := tt_4 8 rfl rfl
set_option maxRecDepth 4000 in
theorem ml_X7_66 : Cond.methodLink RX7 66 yX7_oneGets ∈ TT := tt_4 9 rfl rfl
set_option maxRecDepth 4000 in
theorem im_X7_oneGets : Cond.instanceMethod yX7_oneGets ∈ TT := tt_4 11 rfl rfl
set_option maxRecDepth 4000 in
theorem cd_X7_oneGets : Cond.code yX7_oneGets cX7_oneGets 8 (some .long) ∈ TT := tt_4 12 rfl rfl
set_option maxRecDepth 4000 in
theorem ml_X7_72 : Cond.methodLink RX7 72 yX6_lessTax ∈ TT := tt_4 13 rfl rfl
set_option maxRecDepth 4000 in
theorem im_X6_lessTax : Cond.instanceMethod yX6_lessTax ∈ TT := tt_4 14 rfl rfl
set_option maxRecDepth 4000 in
theorem sl_X6_lessTax : Cond.selects RX6 yX6_lessTax yX6_lessTax ∈ TT := tt_4 15 rfl rfl
set_option maxRecDepth 4000 in
theorem cd_X6_lessTax : Cond.code yX6_lessTax cX6_lessTax 5 (some .long) ∈ TT := tt_4 16 rfl rfl
set_option maxRecDepth 4000 in
theorem kl_X7_70 : Cond.constantLong RX7 70 (495) ∈ TT := tt_4 17 rfl rfl
set_option maxRecDepth 4000 in
theorem ml_L_100 : Cond.methodLink RL 100 yX8_best ∈ TT := tt_4 18 rfl rfl
set_option maxRecDepth 4000 in
theorem im_X8_best : Cond.instanceMethod yX8_best ∈ TT := tt_4 19 rfl rfl
set_option maxRecDepth 4000 in
theorem sl_X8_best : Cond.selects RX8 yX8_best yX8_best ∈ TT := tt_4 20 rfl rfl
set_option maxRecDepth 4000 in
theorem cd_X8_best : Cond.code yX8_best cX8_best 3 (some .int) ∈ TT := tt_4 21 rfl rfl
set_option maxRecDepth 4000 in
theorem ml_X8_209 : Cond.methodLink RX8 209 yX7_bestPlace ∈ TT := tt_4 22 rfl rfl
set_option maxRecDepth 4000 in
theorem im_X7_bestPlace : Cond.instanceMethod yX7_bestPlace ∈ TT := tt_4 23 rfl rfl
set_option maxRecDepth 4000 in
theorem sl_X7_bestPlace : Cond.selects RX7 yX7_bestPlace yX7_bestPlace ∈ TT := tt_4 24 rfl rfl
set_option maxRecDepth 4000 in
theorem cd_X7_bestPlace : Cond.code yX7_bestPlace cX7_bestPlace 7 (some .int) ∈ TT := tt_4 25 rfl rfl
set_option maxRecDepth 4000 in
theorem ml_X7_76 : Cond.methodLink RX7 76 yJ7_fill_d0a16 ∈ TT := tt_4 26 rfl rfl
set_option maxRecDepth 4000 in
theorem ml_X7_90 : Cond.methodLink RX7 90 yX3_gather ∈ TT := tt_4 27 rfl rfl
set_option maxRecDepth 4000 in
theorem ml_X7_93 : Cond.methodLink RX7 93 yX3_ofRank ∈ TT := tt_4 28 rfl rfl
set_option maxRecDepth 4000 in
theorem ml_L_104 : Cond.methodLink RL 104 yX8_alone ∈ TT := tt_4 29 rfl rfl
set_option maxRecDepth 4000 in
theorem im_X8_alone : Cond.instanceMethod yX8_alone ∈ TT := tt_4 30 rfl rfl
set_option maxRecDepth 4000 in
theorem sl_X8_alone : Cond.selects RX8 yX8_alone yX8_alone ∈ TT := tt_4 31 rfl rfl
set_option maxRecDepth 4000 in
theorem cd_X8_alone : Cond.code yX8_alone cX8_alone 5 (some .int) ∈ TT := tt_4 32 rfl rfl
set_option maxRecDepth 4000 in
theorem ml_L_108 : Cond.methodLink RL 108 yX8_line ∈ TT := tt_4 33 rfl rfl
set_option maxRecDepth 4000 in
theorem im_X8_line : Cond.instanceMethod yX8_line ∈ TT := tt_4 34 rfl rfl
set_option maxRecDepth 4000 in
theorem sl_X8_line : Cond.selects RX8 yX8_line yX8_line ∈ TT := tt_4 35 rfl rfl
set_option maxRecDepth 4000 in
theorem cd_X8_line : Cond.code yX8_line cX8_line 3 (some .int) ∈ TT := tt_4 36 rfl rfl
set_option maxRecDepth 4000 in
theorem ml_X8_212 : Cond.methodLink RX8 212 yX7_leastPot ∈ TT := tt_4 37 rfl rfl
set_option maxRecDepth 4000 in
theorem im_X7_leastPot : Cond.instanceMethod yX7_leastPot ∈ TT := tt_4 38 rfl rfl
set_option maxRecDepth 4000 in
theorem sl_X7_leastPot : Cond.selects RX7 yX7_leastPot yX7_leastPot ∈ TT := tt_4 39 rfl rfl
set_option maxRecDepth 4000 in
theorem cd_X7_leastPot : Cond.code yX7_leastPot cX7_leastPot 7 (some .int) ∈ TT := tt_4 40 rfl rfl
set_option maxRecDepth 4000 in
theorem k_X7_97 : Cond.constant RX7 97 (99999999) ∈ TT := tt_4 41 rfl rfl
set_option maxRecDepth 4000 in
theorem ml_X7_98 : Cond.methodLink RX7 98 yX7_worthOf ∈ TT := tt_4 42 rfl rfl
set_option maxRecDepth 4000 in
theorem ml_L_112 : Cond.methodLink RL 112 yX8_house ∈ TT := tt_4 43 rfl rfl
set_option maxRecDepth 4000 in
theorem im_X8_house : Cond.instanceMethod yX8_house ∈ TT := tt_4 44 rfl rfl
set_option maxRecDepth 4000 in
theorem sl_X8_house : Cond.selects RX8 yX8_house yX8_house ∈ TT := tt_4 45 rfl rfl
set_option maxRecDepth 4000 in
theorem cd_X8_house : Cond.code yX8_house cX8_house 2 (some .long) ∈ TT := tt_4 46 rfl rfl
set_option maxRecDepth 4000 in
theorem ml_X8_215 : Cond.methodLink RX8 215 yX7_houseOf ∈ TT := tt_4 47 rfl rfl
set_option maxRecDepth 4000 in
theorem im_X7_houseOf : Cond.instanceMethod yX7_houseOf ∈ TT := tt_4 48 rfl rfl
set_option maxRecDepth 4000 in
theorem sl_X7_houseOf : Cond.selects RX7 yX7_houseOf yX7_houseOf ∈ TT := tt_4 49 rfl rfl
set_option maxRecDepth 4000 in
theorem cd_X7_houseOf : Cond.code yX7_houseOf cX7_houseOf 12 (some .long) ∈ TT := tt_4 50 rfl rfl
set_option maxRecDepth 4000 in
theorem ml_X7_101 : Cond.methodLink RX7 101 yX7_takeLeastCrossed ∈ TT := tt_4 51 rfl rfl
set_option maxRecDepth 4000 in
theorem im_X7_takeLeastCrossed : Cond.instanceMethod yX7_takeLeastCrossed ∈ TT := tt_4 53 rfl rfl
set_option maxRecDepth 4000 in
theorem cd_X7_takeLeastCrossed : Cond.code yX7_takeLeastCrossed cX7_takeLeastCrossed 7 none ∈ TT := tt_4 54 rfl rfl
set_option maxRecDepth 4000 in
theorem ml_X7_105 : Cond.methodLink RX7 105 yX7_leastBound ∈ TT := tt_4 55 rfl rfl
set_option maxRecDepth 4000 in
theorem im_X7_leastBound : Cond.instanceMethod yX7_leastBound ∈ TT := tt_4 57 rfl rfl
set_option maxRecDepth 4000 in
theorem cd_X7_leastBound : Cond.code yX7_leastBound cX7_leastBound 6 (some .int) ∈ TT := tt_4 58 rfl rfl
set_option maxRecDepth 4000 in
theorem ml_X7_108 : Cond.methodLink RX7 108 yX7_countUpTo ∈ TT := tt_4 59 rfl rfl
set_option maxRecDepth 4000 in
theorem im_X7_countUpTo : Cond.instanceMethod yX7_countUpTo ∈ TT := tt_4 61 rfl rfl
set_option maxRecDepth 4000 in
theorem cd_X7_countUpTo : Cond.code yX7_countUpTo cX7_countUpTo 4 (some .int) ∈ TT := tt_4 62 rfl rfl
set_option maxRecDepth 4000 in
theorem ml_L_117 : Cond.methodLink RL 117 yX8_seek ∈ TT := tt_4 63 rfl rfl
set_option maxRecDepth 4000 in
theorem im_X8_seek : Cond.instanceMethod yX8_seek ∈ TT := tt_4 64 rfl rfl
set_option maxRecDepth 4000 in
theorem sl_X8_seek : Cond.selects RX8 yX8_seek yX8_seek ∈ TT := tt_4 65 rfl rfl
set_option maxRecDepth 4000 in
theorem cd_X8_seek : Cond.code yX8_seek cX8_seek 3 (some .int) ∈ TT := tt_4 66 rfl rfl
set_option maxRecDepth 4000 in
theorem ml_X8_219 : Cond.methodLink RX8 219 yX7_afterSeekers ∈ TT := tt_4 67 rfl rfl
set_option maxRecDepth 4000 in
theorem im_X7_afterSeekers : Cond.instanceMethod yX7_afterSeekers ∈ TT := tt_4 68 rfl rfl
set_option maxRecDepth 4000 in
theorem sl_X7_afterSeekers : Cond.selects RX7 yX7_afterSeekers yX7_afterSeekers ∈ TT := tt_4 69 rfl rfl
set_option maxRecDepth 4000 in
theorem cd_X7_afterSeekers : Cond.code yX7_afterSeekers cX7_afterSeekers 6 (some .int) ∈ TT := tt_4 70 rfl rfl
set_option maxRecDepth 4000 in
theorem ml_X7_114 : Cond.methodLink RX7 114 arraycopyName ∈ TT := tt_4 71 rfl rfl
set_option maxRecDepth 4000 in
theorem ml_X7_120 : Cond.methodLink RX7 120 yX7_leastTaken ∈ TT := tt_4 72 rfl rfl
set_option maxRecDepth 4000 in
theorem im_X7_leastTaken : Cond.instanceMethod yX7_leastTaken ∈ TT := tt_4 74 rfl rfl
set_option maxRecDepth 4000 in
theorem cd_X7_leastTaken : Cond.code yX7_leastTaken cX7_leastTaken 3 (some .int) ∈ TT := tt_4 75 rfl rfl
set_option maxRecDepth 4000 in
theorem ml_L_121 : Cond.methodLink RL 121 yX8_shares ∈ TT := tt_4 76 rfl rfl
set_option maxRecDepth 4000 in
theorem im_X8_shares : Cond.instanceMethod yX8_shares ∈ TT := tt_4 77 rfl rfl
set_option maxRecDepth 4000 in
theorem sl_X8_shares : Cond.selects RX8 yX8_shares yX8_shares ∈ TT := tt_4 78 rfl rfl
set_option maxRecDepth 4000 in
theorem cd_X8_shares : Cond.code yX8_shares cX8_shares 2 (some .int) ∈ TT := tt_4 79 rfl rfl
set_option maxRecDepth 4000 in
theorem ml_L_125 : Cond.methodLink RL 125 yX8_due ∈ TT := tt_4 80 rfl rfl
set_option maxRecDepth 4000 in
theorem im_X8_due : Cond.instanceMethod yX8_due ∈ TT := tt_4 81 rfl rfl
set_option maxRecDepth 4000 in
theorem sl_X8_due : Cond.selects RX8 yX8_due yX8_due ∈ TT := tt_4 82 rfl rfl
set_option maxRecDepth 4000 in
theorem cd_X8_due : Cond.code yX8_due cX8_due 3 (some .int) ∈ TT := tt_4 83 rfl rfl
set_option maxRecDepth 4000 in
theorem ml_X8_223 : Cond.methodLink RX8 223 yX8_isNumber ∈ TT := tt_4 84 rfl rfl
set_option maxRecDepth 4000 in
theorem sm_X8_isNumber : Cond.static yX8_isNumber ∈ TT := tt_4 85 rfl rfl
set_option maxRecDepth 4000 in
theorem cd_X8_isNumber : Cond.code yX8_isNumber cX8_isNumber 1 (some .boolean) ∈ TT := tt_4 86 rfl rfl
set_option maxRecDepth 4000 in
theorem ml_X8_226 : Cond.methodLink RX8 226 yX6_cameIn ∈ TT := tt_4 87 rfl rfl
set_option maxRecDepth 4000 in
theorem im_X6_cameIn : Cond.instanceMethod yX6_cameIn ∈ TT := tt_4 88 rfl rfl
set_option maxRecDepth 4000 in
theorem sl_X6_cameIn : Cond.selects RX6 yX6_cameIn yX6_cameIn ∈ TT := tt_4 89 rfl rfl
set_option maxRecDepth 4000 in
theorem cd_X6_cameIn : Cond.code yX6_cameIn cX6_cameIn 3 (some .boolean) ∈ TT := tt_4 90 rfl rfl
set_option maxRecDepth 4000 in
theorem ml_L_129 : Cond.methodLink RL 129 yX8_came ∈ TT := tt_4 91 rfl rfl
set_option maxRecDepth 4000 in
theorem im_X8_came : Cond.instanceMethod yX8_came ∈ TT := tt_4 92 rfl rfl
set_option maxRecDepth 4000 in
theorem sl_X8_came : Cond.selects RX8 yX8_came yX8_came ∈ TT := tt_4 93 rfl rfl
set_option maxRecDepth 4000 in
theorem cd_X8_came : Cond.code yX8_came cX8_came 2 (some .int) ∈ TT := tt_4 94 rfl rfl
set_option maxRecDepth 4000 in
theorem ml_X8_229 : Cond.methodLink RX8 229 yX6_timesOf ∈ TT := tt_4 95 rfl rfl
set_option maxRecDepth 4000 in
theorem im_X6_timesOf : Cond.instanceMethod yX6_timesOf ∈ TT := tt_4 96 rfl rfl
set_option maxRecDepth 4000 in
theorem sl_X6_timesOf : Cond.selects RX6 yX6_timesOf yX6_timesOf ∈ TT := tt_4 97 rfl rfl
set_option maxRecDepth 4000 in
theorem cd_X6_timesOf : Cond.code yX6_timesOf cX6_timesOf 4 (some .int) ∈ TT := tt_4 98 rfl rfl
set_option maxRecDepth 4000 in
theorem ml_X6_66 : Cond.methodLink RX6 66 yX6_cameIn ∈ TT := tt_4 99 rfl rfl
set_option maxRecDepth 4000 in
theorem ml_L_133 : Cond.methodLink RL 133 yX8_drum ∈ TT := tt_4 100 rfl rfl
set_option maxRecDepth 4000 in
theorem im_X8_drum : Cond.instanceMethod yX8_drum ∈ TT := tt_4 101 rfl rfl
set_option maxRecDepth 4000 in
theorem sl_X8_drum : Cond.selects RX8 yX8_drum yX8_drum ∈ TT := tt_4 102 rfl rfl
set_option maxRecDepth 4000 in
theorem cd_X8_drum : Cond.code yX8_drum cX8_drum 6 (some .long) ∈ TT := tt_4 103 rfl rfl
set_option maxRecDepth 4000 in
theorem kl_X8_232 : Cond.constantLong RX8 232 (12) ∈ TT := tt_4 104 rfl rfl
set_option maxRecDepth 4000 in
theorem kl_X8_234 : Cond.constantLong RX8 234 (4) ∈ TT := tt_4 105 rfl rfl
set_option maxRecDepth 4000 in
theorem ml_L_138 : Cond.methodLink RL 138 yX8_felt ∈ TT := tt_4 106 rfl rfl
set_option maxRecDepth 4000 in
theorem im_X8_felt : Cond.instanceMethod yX8_felt ∈ TT := tt_4 107 rfl rfl
set_option maxRecDepth 4000 in
theorem sl_X8_felt : Cond.selects RX8 yX8_felt yX8_felt ∈ TT := tt_4 108 rfl rfl
set_option maxRecDepth 4000 in
theorem cd_X8_felt : Cond.code yX8_felt cX8_felt 4 (some .int) ∈ TT := tt_4 109 rfl rfl
set_option maxRecDepth 4000 in
theorem ml_X8_236 : Cond.methodLink RX8 236 yX6_rankTwoWinners ∈ TT := tt_4 110 rfl rfl
set_option maxRecDepth 4000 in
theorem im_X6_rankTwoWinners : Cond.instanceMethod yX6_rankTwoWinners ∈ TT := tt_4 111 rfl rfl
set_option maxRecDepth 4000 in
theorem sl_X6_rankTwoWinners : Cond.selects RX6 yX6_rankTwoWinners yX6_rankTwoWinners ∈ TT := tt_4 112 rfl rfl
set_option maxRecDepth 4000 in
theorem cd_X6_rankTwoWinners : Cond.code yX6_rankTwoWinners cX6_rankTwoWinners 5 (some .int) ∈ TT := tt_4 113 rfl rfl
set_option maxRecDepth 4000 in
theorem ml_L_142 : Cond.methodLink RL 142 yX8_sheet ∈ TT := tt_4 114 rfl rfl
set_option maxRecDepth 4000 in
theorem im_X8_sheet : Cond.instanceMethod yX8_sheet ∈ TT := tt_4 115 rfl rfl
set_option maxRecDepth 4000 in
theorem sl_X8_sheet : Cond.selects RX8 yX8_sheet yX8_sheet ∈ TT := tt_4 116 rfl rfl
set_option maxRecDepth 4000 in
theorem cd_X8_sheet : Cond.code yX8_sheet cX8_sheet 4 (some .int) ∈ TT := tt_4 117 rfl rfl
set_option maxRecDepth 4000 in
theorem ml_X8_239 : Cond.methodLink RX8 239 yX8_isSheet ∈ TT := tt_4 118 rfl rfl
set_option maxRecDepth 4000 in
theorem sm_X8_isSheet : Cond.static yX8_isSheet ∈ TT := tt_4 119 rfl rfl
set_option maxRecDepth 4000 in
theorem cd_X8_isSheet : Cond.code yX8_isSheet cX8_isSheet 1 (some .boolean) ∈ TT := tt_4 120 rfl rfl
set_option maxRecDepth 4000 in
theorem ml_X8_242 : Cond.methodLink RX8 242 yX4_isWidth ∈ TT := tt_4 121 rfl rfl
set_option maxRecDepth 4000 in
theorem sm_X4_isWidth : Cond.static yX4_isWidth ∈ TT := tt_4 122 rfl rfl
set_option maxRecDepth 4000 in
theorem cd_X4_isWidth : Cond.code yX4_isWidth cX4_isWidth 1 (some .boolean) ∈ TT := tt_4 123 rfl rfl
set_option maxRecDepth 4000 in
theorem ml_X8_245 : Cond.methodLink RX8 245 yX4_lay ∈ TT := tt_4 124 rfl rfl
set_option maxRecDepth 4000 in
theorem im_X4_lay : Cond.instanceMethod yX4_lay ∈ TT := tt_4 125 rfl rfl
set_option maxRecDepth 4000 in
theorem sl_X4_lay : Cond.selects RX4 yX4_lay yX4_lay ∈ TT := tt_4 126 rfl rfl
set_option maxRecDepth 4000 in
theorem cd_X4_lay : Cond.code yX4_lay cX4_lay 3 (some .int) ∈ TT := tt_4 127 rfl rfl
set_option maxRecDepth 4000 in
theorem ml_X4_15 : Cond.methodLink RX4 15 yJ7_fill_d0a16 ∈ TT := tt_4 128 rfl rfl
set_option maxRecDepth 4000 in
theorem ml_X4_25 : Cond.methodLink RX4 25 Lib.Math.min.name ∈ TT := tt_4 129 rfl rfl
set_option maxRecDepth 4000 in
theorem ml_X4_31 : Cond.methodLink RX4 31 Lib.Math.max.name ∈ TT := tt_4 130 rfl rfl
set_option maxRecDepth 4000 in
theorem ml_L_149 : Cond.methodLink RL 149 yX8_write ∈ TT := tt_4 131 rfl rfl
set_option maxRecDepth 4000 in
theorem im_X8_write : Cond.instanceMethod yX8_write ∈ TT := tt_4 132 rfl rfl
set_option maxRecDepth 4000 in
theorem sl_X8_write : Cond.selects RX8 yX8_write yX8_write ∈ TT := tt_4 133 rfl rfl
set_option maxRecDepth 4000 in
theorem cd_X8_write : Cond.code yX8_write cX8_write 8 (some .long) ∈ TT := tt_4 134 rfl rfl
set_option maxRecDepth 4000 in
theorem ml_X8_257 : Cond.methodLink RX8 257 yX4_lowestBits ∈ TT := tt_4 135 rfl rfl
set_option maxRecDepth 4000 in
theorem im_X4_lowestBits : Cond.instanceMethod yX4_lowestBits ∈ TT := tt_4 136 rfl rfl
set_option maxRecDepth 4000 in
theorem sl_X4_lowestBits : Cond.selects RX4 yX4_lowestBits yX4_lowestBits ∈ TT := tt_4 137 rfl rfl
set_option maxRecDepth 4000 in
theorem cd_X4_lowestBits : Cond.code yX4_lowestBits cX4_lowestBits 3 (some .long) ∈ TT := tt_4 138 rfl rfl
set_option maxRecDepth 4000 in
theorem ml_L_154 : Cond.methodLink RL 154 yX8_copy ∈ TT := tt_4 139 rfl rfl
set_option maxRecDepth 4000 in
theorem im_X8_copy : Cond.instanceMethod yX8_copy ∈ TT := tt_4 140 rfl rfl
set_option maxRecDepth 4000 in
theorem sl_X8_copy : Cond.selects RX8 yX8_copy yX8_copy ∈ TT := tt_4 141 rfl rfl
set_option maxRecDepth 4000 in
theorem cd_X8_copy : Cond.code yX8_copy cX8_copy 8 (some .int) ∈ TT := tt_4 142 rfl rfl
set_option maxRecDepth 4000 in
theorem ml_X8_261 : Cond.methodLink RX8 261 yX4_holds ∈ TT := tt_4 143 rfl rfl
set_option maxRecDepth 4000 in
theorem im_X4_holds : Cond.instanceMethod yX4_holds ∈ TT := tt_4 144 rfl rfl
set_option maxRecDepth 4000 in
theorem sl_X4_holds : Cond.selects RX4 yX4_holds yX4_holds ∈ TT := tt_4 145 rfl rfl
set_option maxRecDepth 4000 in
theorem cd_X4_holds : Cond.code yX4_holds cX4_holds 3 (some .boolean) ∈ TT := tt_4 146 rfl rfl
set_option maxRecDepth 4000 in
theorem ml_X8_264 : Cond.methodLink RX8 264 arraycopyName ∈ TT := tt_4 147 rfl rfl
set_option maxRecDepth 4000 in
theorem ml_L_159 : Cond.methodLink RL 159 yX8_weeks ∈ TT := tt_4 148 rfl rfl
set_option maxRecDepth 4000 in
theorem im_X8_weeks : Cond.instanceMethod yX8_weeks ∈ TT := tt_4 149 rfl rfl
set_option maxRecDepth 4000 in
theorem sl_X8_weeks : Cond.selects RX8 yX8_weeks yX8_weeks ∈ TT := tt_4 150 rfl rfl
set_option maxRecDepth 4000 in
theorem cd_X8_weeks : Cond.code yX8_weeks cX8_weeks 5 (some .int) ∈ TT := tt_4 151 rfl rfl
set_option maxRecDepth 4000 in
theorem ml_L_163 : Cond.methodLink RL 163 yX8_read ∈ TT := tt_4 152 rfl rfl
set_option maxRecDepth 4000 in
theorem im_X8_read : Cond.instanceMethod yX8_read ∈ TT := tt_4 153 rfl rfl
set_option maxRecDepth 4000 in
theorem sl_X8_read : Cond.selects RX8 yX8_read yX8_read ∈ TT := tt_4 154 rfl rfl
set_option maxRecDepth 4000 in
theorem cd_X8_read : Cond.code yX8_read cX8_read 4 (some .int) ∈ TT := tt_4 155 rfl rfl
set_option maxRecDepth 4000 in
theorem ml_L_167 : Cond.methodLink RL 167 yX8_image ∈ TT := tt_4 156 rfl rfl
set_option maxRecDepth 4000 in
theorem im_X8_image : Cond.instanceMethod yX8_image ∈ TT := tt_4 157 rfl rfl
set_option maxRecDepth 4000 in
theorem sl_X8_image : Cond.selects RX8 yX8_image yX8_image ∈ TT := tt_4 158 rfl rfl
set_option maxRecDepth 4000 in
theorem cd_X8_image : Cond.code yX8_image cX8_image 1 (some .int) ∈ TT := tt_4 159 rfl rfl
set_option maxRecDepth 4000 in
theorem ml_X8_270 : Cond.methodLink RX8 270 yX6_becomes ∈ TT := tt_4 160 rfl rfl
set_option maxRecDepth 4000 in
theorem im_X6_becomes : Cond.instanceMethod yX6_becomes ∈ TT := tt_4 161 rfl rfl
set_option maxRecDepth 4000 in
theorem sl_X6_becomes : Cond.selects RX6 yX6_becomes yX6_becomes ∈ TT := tt_4 162 rfl rfl
set_option maxRecDepth 4000 in
theorem cd_X6_becomes : Cond.code yX6_becomes cX6_becomes 2 none ∈ TT := tt_4 163 rfl rfl
set_option maxRecDepth 4000 in
theorem ml_L_171 : Cond.methodLink RL 171 yX8_undo ∈ TT := tt_4 164 rfl rfl
set_option maxRecDepth 4000 in
theorem im_X8_undo : Cond.instanceMethod yX8_undo ∈ TT := tt_4 165 rfl rfl
set_option maxRecDepth 4000 in
theorem sl_X8_undo : Cond.selects RX8 yX8_undo yX8_undo ∈ TT := tt_4 166 rfl rfl
set_option maxRecDepth 4000 in
theorem cd_X8_undo : Cond.code yX8_undo cX8_undo 1 (some .int) ∈ TT := tt_4 167 rfl rfl
set_option maxRecDepth 4000 in
theorem ml_L_175 : Cond.methodLink RL 175 yX8_tear ∈ TT := tt_4 168 rfl rfl
set_option maxRecDepth 4000 in
theorem im_X8_tear : Cond.instanceMethod yX8_tear ∈ TT := tt_4 169 rfl rfl
set_option maxRecDepth 4000 in
theorem sl_X8_tear : Cond.selects RX8 yX8_tear yX8_tear ∈ TT := tt_4 170 rfl rfl
set_option maxRecDepth 4000 in
theorem cd_X8_tear : Cond.code yX8_tear cX8_tear 2 (some .int) ∈ TT := tt_4 171 rfl rfl
set_option maxRecDepth 4000 in
theorem ml_L_179 : Cond.methodLink RL 179 yX8_count ∈ TT := tt_4 172 rfl rfl
set_option maxRecDepth 4000 in
theorem im_X8_count : Cond.instanceMethod yX8_count ∈ TT := tt_4 173 rfl rfl
set_option maxRecDepth 4000 in
theorem sl_X8_count : Cond.selects RX8 yX8_count yX8_count ∈ TT := tt_4 174 rfl rfl
set_option maxRecDepth 4000 in
theorem cd_X8_count : Cond.code yX8_count cX8_count 2 (some .int) ∈ TT := tt_4 175 rfl rfl
set_option maxRecDepth 4000 in
theorem ml_L_183 : Cond.methodLink RL 183 yX8_status ∈ TT := tt_4 176 rfl rfl
set_option maxRecDepth 4000 in
theorem im_X8_status : Cond.instanceMethod yX8_status ∈ TT := tt_4 177 rfl rfl
set_option maxRecDepth 4000 in
theorem sl_X8_status : Cond.selects RX8 yX8_status yX8_status ∈ TT := tt_4 178 rfl rfl
set_option maxRecDepth 4000 in
theorem cd_X8_status : Cond.code yX8_status cX8_status 4 (some .int) ∈ TT := tt_4 179 rfl rfl
set_option maxRecDepth 4000 in
theorem cl_L_10 : Cond.classLink RL 10 RX9 ∈ TT := tt_4 180 rfl rfl
set_option maxRecDepth 4000 in
theorem inst_X9 : Cond.instantiable RX9 30 ∈ TT := tt_4 181 rfl rfl
set_option maxRecDepth 4000 in
theorem ml_L_12 : Cond.methodLink RL 12 yX9_init ∈ TT := tt_4 182 rfl rfl
set_option maxRecDepth 4000 in
theorem im_X9_init : Cond.instanceMethod yX9_init ∈ TT := tt_4 183 rfl rfl
set_option maxRecDepth 4000 in
theorem cd_X9_init : Cond.code yX9_init cX9_init 4 none ∈ TT := tt_4 184 rfl rfl
set_option maxRecDepth 4000 in
theorem ml_X9_1 : Cond.methodLink RX9 1 objectInit ∈ TT := tt_4 185 rfl rfl
set_option maxRecDepth 4000 in
theorem ml_X9_79 : Cond.methodLink RX9 79 yX9_looksAt ∈ TT := tt_4 186 rfl rfl
set_option maxRecDepth 4000 in
theorem im_X9_looksAt : Cond.instanceMethod yX9_looksAt ∈ TT := tt_4 188 rfl rfl
set_option maxRecDepth 4000 in
theorem cd_X9_looksAt : Cond.code yX9_looksAt cX9_looksAt 7 none ∈ TT := tt_4 189 rfl rfl
set_option maxRecDepth 4000 in
theorem ml_X9_83 : Cond.methodLink RX9 83 yX9_has ∈ TT := tt_4 190 rfl rfl
set_option maxRecDepth 4000 in
theorem sm_X9_has : Cond.static yX9_has ∈ TT := tt_4 191 rfl rfl
set_option maxRecDepth 4000 in
theorem cd_X9_has : Cond.code yX9_has cX9_has 2 (some .boolean) ∈ TT := tt_4 192 rfl rfl
set_option maxRecDepth 4000 in
theorem fl_X9_7 : Cond.fieldLink RX9 7 "SlipWeeksModel" "s" "[I" ∈ TT := tt_4 193 rfl rfl
set_option maxRecDepth 4000 in
theorem fl_X9_13 : Cond.fieldLink RX9 13 "SlipWeeksModel" "kept" "[I" ∈ TT := tt_4 194 rfl rfl
set_option maxRecDepth 4000 in
theorem fl_X9_268 : Cond.fieldLink RX9 268 "SlipWeeksModel" "isKept" "Z" ∈ TT := tt_4 195 rfl rfl
set_option maxRecDepth 4000 in
theorem fl_X9_16 : Cond.fieldLink RX9 16 "SlipWeeksModel" "findings" "[I" ∈ TT := tt_4 196 rfl rfl
set_option maxRecDepth 4000 in
theorem fl_X9_19 : Cond.fieldLink RX9 19 "SlipWeeksModel" "rowAt" "[I" ∈ TT := tt_4 197 rfl rfl
set_option maxRecDepth 4000 in
theorem fl_X9_22 : Cond.fieldLink RX9 22 "SlipWeeksModel" "placeAt" "[I" ∈ TT := tt_4 198 rfl rfl
set_option maxRecDepth 4000 in
theorem fl_X9_25 : Cond.fieldLink RX9 25 "SlipWeeksModel" "bitsIn" "[I" ∈ TT := tt_4 199 rfl rfl
set_option maxRecDepth 4000 in
theorem fl_X9_28 : Cond.fieldLink RX9 28 "SlipWeeksModel" "factOf" "[I" ∈ TT := tt_4 200 rfl rfl
set_option maxRecDepth 4000 in
theorem fl_X9_31 : Cond.fieldLink RX9 31 "SlipWeeksModel" "tape" "[I" ∈ TT := tt_4 201 rfl rfl
set_option maxRecDepth 4000 in
theorem fl_X9_115 : Cond.fieldLink RX9 115 "SlipWeeksModel" "taped" "I" ∈ TT := tt_4 202 rfl rfl
set_option maxRecDepth 4000 in
theorem fl_X9_34 : Cond.fieldLink RX9 34 "SlipWeeksModel" "bitsOf" "[I" ∈ TT := tt_4 203 rfl rfl
set_option maxRecDepth 4000 in
theorem fl_X9_37 : Cond.fieldLink RX9 37 "SlipWeeksModel" "sizes" "[I" ∈ TT := tt_4 204 rfl rfl
set_option maxRecDepth 4000 in
theorem fl_X9_40 : Cond.fieldLink RX9 40 "SlipWeeksModel" "numbers" "[J" ∈ TT := tt_4 205 rfl rfl
set_option maxRecDepth 4000 in
theorem fl_X9_119 : Cond.fieldLink RX9 119 "SlipWeeksModel" "at" "I" ∈ TT := tt_4 206 rfl rfl
set_option maxRecDepth 4000 in
theorem fl_X9_148 : Cond.fieldLink RX9 148 "SlipWeeksModel" "open" "I" ∈ TT := tt_4 207 rfl rfl
set_option maxRecDepth 4000 in
theorem fl_X9_135 : Cond.fieldLink RX9 135 "SlipWeeksModel" "isBad" "Z" ∈ TT := tt_4 208 rfl rfl
set_option maxRecDepth 4000 in
theorem fl_X9_112 : Cond.fieldLink RX9 112 "SlipWeeksModel" "isTaped" "Z" ∈ TT := tt_4 209 rfl rfl
set_option maxRecDepth 4000 in
theorem fl_X9_126 : Cond.fieldLink RX9 126 "SlipWeeksModel" "placeRead" "I" ∈ TT := tt_4 210 rfl rfl
set_option maxRecDepth 4000 in
theorem fl_X9_44 : Cond.fieldLink RX9 44 "SlipWeeksModel" "isNew" "Z" ∈ TT := tt_4 211 rfl rfl
set_option maxRecDepth 4000 in
theorem fl_X9_48 : Cond.fieldLink RX9 48 "SlipWeeksModel" "isSaidNew" "Z" ∈ TT := tt_4 212 rfl rfl
set_option maxRecDepth 4000 in
theorem fl_X9_51 : Cond.fieldLink RX9 51 "SlipWeeksModel" "isWinnerNew" "Z" ∈ TT := tt_4 213 rfl rfl
set_option maxRecDepth 4000 in
theorem fl_X9_54 : Cond.fieldLink RX9 54 "SlipWeeksModel" "liked" "[I" ∈ TT := tt_4 214 rfl rfl
set_option maxRecDepth 4000 in
theorem fl_X9_57 : Cond.fieldLink RX9 57 "SlipWeeksModel" "all" "[I" ∈ TT := tt_4 215 rfl rfl
set_option maxRecDepth 4000 in
theorem fl_X9_60 : Cond.fieldLink RX9 60 "SlipWeeksModel" "likesOf" "[I" ∈ TT := tt_4 216 rfl rfl
set_option maxRecDepth 4000 in
theorem fl_X9_192 : Cond.fieldLink RX9 192 "SlipWeeksModel" "allCrossed" "I" ∈ TT := tt_4 217 rfl rfl
set_option maxRecDepth 4000 in
theorem fl_X9_63 : Cond.fieldLink RX9 63 "SlipWeeksModel" "winners" "[I" ∈ TT := tt_4 218 rfl rfl
set_option maxRecDepth 4000 in
theorem fl_X9_66 : Cond.fieldLink RX9 66 "SlipWeeksModel" "tried" "[I" ∈ TT := tt_4 219 rfl rfl
set_option maxRecDepth 4000 in
theorem fl_X9_69 : Cond.fieldLink RX9 69 "SlipWeeksModel" "isTaken" "[Z" ∈ TT := tt_4 220 rfl rfl
set_option maxRecDepth 4000 in
theorem fl_X9_73 : Cond.fieldLink RX9 73 "SlipWeeksModel" "bought" "[I" ∈ TT := tt_4 221 rfl rfl
set_option maxRecDepth 4000 in
theorem fl_X9_76 : Cond.fieldLink RX9 76 "SlipWeeksModel" "own" "[I" ∈ TT := tt_4 222 rfl rfl
set_option maxRecDepth 4000 in
theorem ly_X9_s : Cond.laysFinal "SlipWeeksModel" "SlipWeeksModel" "s" "[I" ∈ TT := tt_4 223 rfl rfl
set_option maxRecDepth 4000 in
theorem ly_X9_kept : Cond.laysFinal "SlipWeeksModel" "SlipWeeksModel" "kept" "[I" ∈ TT := tt_4 225 rfl rfl
set_option maxRecDepth 4000 in
theorem ly_X9_isKept : Cond.lays "SlipWeeksModel" "SlipWeeksModel" "isKept" "Z" ∈ TT := tt_4 227 rfl rfl
set_option maxRecDepth 4000 in
theorem ly_X9_findings : Cond.laysFinal "SlipWeeksModel" "SlipWeeksModel" "findings" "[I" ∈ TT := tt_4 229 rfl rfl
set_option maxRecDepth 4000 in
theorem ly_X9_rowAt : Cond.laysFinal "SlipWeeksModel" "SlipWeeksModel" "rowAt" "[I" ∈ TT := tt_4 231 rfl rfl
set_option maxRecDepth 4000 in
theorem ly_X9_placeAt : Cond.laysFinal "SlipWeeksModel" "SlipWeeksModel" "placeAt" "[I" ∈ TT := tt_4 233 rfl rfl
set_option maxRecDepth 4000 in
theorem ly_X9_bitsIn : Cond.laysFinal "SlipWeeksModel" "SlipWeeksModel" "bitsIn" "[I" ∈ TT := tt_4 235 rfl rfl
set_option maxRecDepth 4000 in
theorem ly_X9_factOf : Cond.laysFinal "SlipWeeksModel" "SlipWeeksModel" "factOf" "[I" ∈ TT := tt_4 237 rfl rfl
set_option maxRecDepth 4000 in
theorem ly_X9_tape : Cond.laysFinal "SlipWeeksModel" "SlipWeeksModel" "tape" "[I" ∈ TT := tt_4 239 rfl rfl
set_option maxRecDepth 4000 in
theorem ly_X9_taped : Cond.lays "SlipWeeksModel" "SlipWeeksModel" "taped" "I" ∈ TT := tt_5 1 rfl rfl
set_option maxRecDepth 4000 in
theorem ly_X9_bitsOf : Cond.laysFinal "SlipWeeksModel" "SlipWeeksModel" "bitsOf" "[I" ∈ TT := tt_5 3 rfl rfl
set_option maxRecDepth 4000 in
theorem ly_X9_sizes : Cond.laysFinal "SlipWeeksModel" "SlipWeeksModel" "sizes" "[I" ∈ TT := tt_5 5 rfl rfl
set_option maxRecDepth 4000 in
theorem ly_X9_numbers : Cond.laysFinal "SlipWeeksModel" "SlipWeeksModel" "numbers" "[J" ∈ TT := tt_5 7 rfl rfl
set_option maxRecDepth 4000 in
theorem ly_X9_at : Cond.lays "SlipWeeksModel" "SlipWeeksModel" "at" "I" ∈ TT := tt_5 9 rfl rfl
set_option maxRecDepth 4000 in
theorem ly_X9_open : Cond.lays "SlipWeeksModel" "SlipWeeksModel" "open" "I" ∈ TT := tt_5 11 rfl rfl
set_option maxRecDepth 4000 in
theorem ly_X9_isBad : Cond.lays "SlipWeeksModel" "SlipWeeksModel" "isBad" "Z" ∈ TT := tt_5 13 rfl rfl
set_option maxRecDepth 4000 in
theorem ly_X9_isTaped : Cond.lays "SlipWeeksModel" "SlipWeeksModel" "isTaped" "Z" ∈ TT := tt_5 15 rfl rfl
set_option maxRecDepth 4000 in
theorem ly_X9_placeRead : Cond.lays "SlipWeeksModel" "SlipWeeksModel" "placeRead" "I" ∈ TT := tt_5 17 rfl rfl
set_option maxRecDepth 4000 in
theorem ly_X9_isNew : Cond.lays "SlipWeeksModel" "SlipWeeksModel" "isNew" "Z" ∈ TT := tt_5 19 rfl rfl
set_option maxRecDepth 4000 in
theorem ly_X9_isSaidNew : Cond.lays "SlipWeeksModel" "SlipWeeksModel" "isSaidNew" "Z" ∈ TT := tt_5 21 rfl rfl
set_option maxRecDepth 4000 in
theorem ly_X9_isWinnerNew : Cond.lays "SlipWeeksModel" "SlipWeeksModel" "isWinnerNew" "Z" ∈ TT := tt_5 23 rfl rfl
set_option maxRecDepth 4000 in
theorem ly_X9_liked : Cond.laysFinal "SlipWeeksModel" "SlipWeeksModel" "liked" "[I" ∈ TT := tt_5 25 rfl rfl
set_option maxRecDepth 4000 in
theorem ly_X9_all : Cond.laysFinal "SlipWeeksModel" "SlipWeeksModel" "all" "[I" ∈ TT := tt_5 27 rfl rfl
set_option maxRecDepth 4000 in
theorem ly_X9_likesOf : Cond.laysFinal "SlipWeeksModel" "SlipWeeksModel" "likesOf" "[I" ∈ TT := tt_5 29 rfl rfl
set_option maxRecDepth 4000 in
theorem ly_X9_allCrossed : Cond.lays "SlipWeeksModel" "SlipWeeksModel" "allCrossed" "I" ∈ TT := tt_5 31 rfl rfl
set_option maxRecDepth 4000 in
theorem ly_X9_winners : Cond.laysFinal "SlipWeeksModel" "SlipWeeksModel" "winners" "[I" ∈ TT := tt_5 33 rfl rfl
set_option maxRecDepth 4000 in
theorem ly_X9_tried : Cond.laysFinal "SlipWeeksModel" "SlipWeeksModel" "tried" "[I" ∈ TT := tt_5 35 rfl rfl
set_option maxRecDepth 4000 in
theorem ly_X9_isTaken : Cond.laysFinal "SlipWeeksModel" "SlipWeeksModel" "isTaken" "[Z" ∈ TT := tt_5 37 rfl rfl
set_option maxRecDepth 4000 in
theorem ly_X9_bought : Cond.laysFinal "SlipWeeksModel" "SlipWeeksModel" "bought" "[I" ∈ TT := tt_5 39 rfl rfl
set_option maxRecDepth 4000 in
theorem ly_X9_own : Cond.laysFinal "SlipWeeksModel" "SlipWeeksModel" "own" "[I" ∈ TT := tt_5 41 rfl rfl
set_option maxRecDepth 4000 in
theorem ac_boolean : Cond.arrayClass .boolean ∈ TT := tt_5 44 rfl rfl
set_option maxRecDepth 4000 in
theorem ml_L_17 : Cond.methodLink RL 17 yX9_place ∈ TT := tt_5 45 rfl rfl
set_option maxRecDepth 4000 in
theorem im_X9_place : Cond.instanceMethod yX9_place ∈ TT := tt_5 46 rfl rfl
set_option maxRecDepth 4000 in
theorem sl_X9_place : Cond.selects RX9 yX9_place yX9_place ∈ TT := tt_5 47 rfl rfl
set_option maxRecDepth 4000 in
theorem cd_X9_place : Cond.code yX9_place cX9_place 2 (some .int) ∈ TT := tt_5 48 rfl rfl
set_option maxRecDepth 4000 in
theorem k_X9_87 : Cond.constant RX9 87 (-1000000001) ∈ TT := tt_5 49 rfl rfl
set_option maxRecDepth 4000 in
theorem ml_X9_88 : Cond.methodLink RX9 88 yX9_finds ∈ TT := tt_5 50 rfl rfl
set_option maxRecDepth 4000 in
theorem im_X9_finds : Cond.instanceMethod yX9_finds ∈ TT := tt_5 52 rfl rfl
set_option maxRecDepth 4000 in
theorem cd_X9_finds : Cond.code yX9_finds cX9_finds 2 (some .int) ∈ TT := tt_5 53 rfl rfl
set_option maxRecDepth 4000 in
theorem ml_L_21 : Cond.methodLink RL 21 yX9_row ∈ TT := tt_5 54 rfl rfl
set_option maxRecDepth 4000 in
theorem im_X9_row : Cond.instanceMethod yX9_row ∈ TT := tt_5 55 rfl rfl
set_option maxRecDepth 4000 in
theorem sl_X9_row : Cond.selects RX9 yX9_row yX9_row ∈ TT := tt_5 56 rfl rfl
set_option maxRecDepth 4000 in
theorem cd_X9_row : Cond.code yX9_row cX9_row 2 (some .int) ∈ TT := tt_5 57 rfl rfl
set_option maxRecDepth 4000 in
theorem ml_X9_92 : Cond.methodLink RX9 92 yX9_isPlace ∈ TT := tt_5 58 rfl rfl
set_option maxRecDepth 4000 in
theorem sm_X9_isPlace : Cond.static yX9_isPlace ∈ TT := tt_5 59 rfl rfl
set_option maxRecDepth 4000 in
theorem cd_X9_isPlace : Cond.code yX9_isPlace cX9_isPlace 1 (some .boolean) ∈ TT := tt_5 60 rfl rfl
set_option maxRecDepth 4000 in
theorem ml_L_26 : Cond.methodLink RL 26 yX9_people ∈ TT := tt_5 61 rfl rfl
set_option maxRecDepth 4000 in
theorem im_X9_people : Cond.instanceMethod yX9_people ∈ TT := tt_5 62 rfl rfl
set_option maxRecDepth 4000 in
theorem sl_X9_people : Cond.selects RX9 yX9_people yX9_people ∈ TT := tt_5 63 rfl rfl
set_option maxRecDepth 4000 in
theorem cd_X9_people : Cond.code yX9_people cX9_people 3 (some .int) ∈ TT := tt_5 64 rfl rfl
set_option maxRecDepth 4000 in
theorem kl_X9_96 : Cond.constantLong RX9 96 (7) ∈ TT := tt_5 65 rfl rfl
set_option maxRecDepth 4000 in
theorem ml_X9_98 : Cond.methodLink RX9 98 yX9_isIn ∈ TT := tt_5 66 rfl rfl
set_option maxRecDepth 4000 in
theorem sm_X9_isIn : Cond.static yX9_isIn ∈ TT := tt_5 67 rfl rfl
set_option maxRecDepth 4000 in
theorem cd_X9_isIn : Cond.code yX9_isIn cX9_isIn 6 (some .boolean) ∈ TT := tt_5 68 rfl rfl
set_option maxRecDepth 4000 in
theorem kl_X9_102 : Cond.constantLong RX9 102 (99999) ∈ TT := tt_5 69 rfl rfl
set_option maxRecDepth 4000 in
theorem k_X9_104 : Cond.constant RX9 104 (-1000000002) ∈ TT := tt_5 70 rfl rfl
set_option maxRecDepth 4000 in
theorem ml_L_30 : Cond.methodLink RL 30 yX9_of ∈ TT := tt_5 71 rfl rfl
set_option maxRecDepth 4000 in
theorem im_X9_of : Cond.instanceMethod yX9_of ∈ TT := tt_5 72 rfl rfl
set_option maxRecDepth 4000 in
theorem sl_X9_of : Cond.selects RX9 yX9_of yX9_of ∈ TT := tt_5 73 rfl rfl
set_option maxRecDepth 4000 in
theorem cd_X9_of : Cond.code yX9_of cX9_of 3 (some .int) ∈ TT := tt_5 74 rfl rfl
set_option maxRecDepth 4000 in
theorem ml_X9_105 : Cond.methodLink RX9 105 yX9_isPeople ∈ TT := tt_5 75 rfl rfl
set_option maxRecDepth 4000 in
theorem im_X9_isPeople : Cond.instanceMethod yX9_isPeople ∈ TT := tt_5 77 rfl rfl
set_option maxRecDepth 4000 in
theorem cd_X9_isPeople : Cond.code yX9_isPeople cX9_isPeople 2 (some .boolean) ∈ TT := tt_5 78 rfl rfl
set_option maxRecDepth 4000 in
theorem ml_L_34 : Cond.methodLink RL 34 yX9_many ∈ TT := tt_5 79 rfl rfl
set_option maxRecDepth 4000 in
theorem im_X9_many : Cond.instanceMethod yX9_many ∈ TT := tt_5 80 rfl rfl
set_option maxRecDepth 4000 in
theorem sl_X9_many : Cond.selects RX9 yX9_many yX9_many ∈ TT := tt_5 81 rfl rfl
set_option maxRecDepth 4000 in
theorem cd_X9_many : Cond.code yX9_many cX9_many 4 (some .int) ∈ TT := tt_5 82 rfl rfl
set_option maxRecDepth 4000 in
theorem ml_L_38 : Cond.methodLink RL 38 yX9_as ∈ TT := tt_5 83 rfl rfl
set_option maxRecDepth 4000 in
theorem im_X9_as : Cond.instanceMethod yX9_as ∈ TT := tt_5 84 rfl rfl
set_option maxRecDepth 4000 in
theorem sl_X9_as : Cond.selects RX9 yX9_as yX9_as ∈ TT := tt_5 85 rfl rfl
set_option maxRecDepth 4000 in
theorem cd_X9_as : Cond.code yX9_as cX9_as 4 (some .int) ∈ TT := tt_5 86 rfl rfl
set_option maxRecDepth 4000 in
theorem ml_X9_108 : Cond.methodLink RX9 108 yX9_above ∈ TT := tt_5 87 rfl rfl
set_option maxRecDepth 4000 in
theorem sm_X9_above : Cond.static yX9_above ∈ TT := tt_5 88 rfl rfl
set_option maxRecDepth 4000 in
theorem cd_X9_above : Cond.code yX9_above cX9_above 1 (some .int) ∈ TT := tt_5 89 rfl rfl
set_option maxRecDepth 4000 in
theorem k_X9_111 : Cond.constant RX9 111 (-1000000003) ∈ TT := tt_5 90 rfl rfl
set_option maxRecDepth 4000 in
theorem ml_L_59 : Cond.methodLink RL 59 yX9_feed ∈ TT := tt_5 91 rfl rfl
set_option maxRecDepth 4000 in
theorem im_X9_feed : Cond.instanceMethod yX9_feed ∈ TT := tt_5 92 rfl rfl
set_option maxRecDepth 4000 in
theorem sl_X9_feed : Cond.selects RX9 yX9_feed yX9_feed ∈ TT := tt_5 93 rfl rfl
set_option maxRecDepth 4000 in
theorem cd_X9_feed : Cond.code yX9_feed cX9_feed 4 (some .int) ∈ TT := tt_5 94 rfl rfl
set_option maxRecDepth 4000 in
theorem kl_X9_173 : Cond.constantLong RX9 173 (4) ∈ TT := tt_5 95 rfl rfl
set_option maxRecDepth 4000 in
theorem ml_L_63 : Cond.methodLink RL 63 yX9_wipe ∈ TT := tt_5 96 rfl rfl
set_option maxRecDepth 4000 in
theorem im_X9_wipe : Cond.instanceMethod yX9_wipe ∈ TT := tt_5 97 rfl rfl
set_option maxRecDepth 4000 in
theorem sl_X9_wipe : Cond.selects RX9 yX9_wipe yX9_wipe ∈ TT := tt_5 98 rfl rfl
set_option maxRecDepth 4000 in
theorem cd_X9_wipe : Cond.code yX9_wipe cX9_wipe 2 (some .int) ∈ TT := tt_5 99 rfl rfl
set_option maxRecDepth 4000 in
theorem ml_L_67 : Cond.methodLink RL 67 yX9_liking ∈ TT := tt_5 100 rfl rfl
set_option maxRecDepth 4000 in
theorem im_X9_liking : Cond.instanceMethod yX9_liking ∈ TT := tt_5 101 rfl rfl
set_option maxRecDepth 4000 in
theorem sl_X9_liking : Cond.selects RX9 yX9_liking yX9_liking ∈ TT := tt_5 102 rfl rfl
set_option maxRecDepth 4000 in
theorem cd_X9_liking : Cond.code yX9_liking cX9_liking 3 (some .int) ∈ TT := tt_5 103 rfl rfl
set_option maxRecDepth 4000 in
theorem ml_X9_175 : Cond.methodLink RX9 175 yX9_says ∈ TT := tt_5 104 rfl rfl
set_option maxRecDepth 4000 in
theorem im_X9_says : Cond.instanceMethod yX9_says ∈ TT := tt_5 106 rfl rfl
set_option maxRecDepth 4000 in
theorem cd_X9_says : Cond.code yX9_says cX9_says 3 (some .int) ∈ TT := tt_5 107 rfl rfl
set_option maxRecDepth 4000 in
theorem ml_X9_151 : Cond.methodLink RX9 151 yX9_sum ∈ TT := tt_5 108 rfl rfl
set_option maxRecDepth 4000 in
theorem im_X9_sum : Cond.instanceMethod yX9_sum ∈ TT := tt_5 110 rfl rfl
set_option maxRecDepth 4000 in
theorem cd_X9_sum : Cond.code yX9_sum cX9_sum 5 (some .int) ∈ TT := tt_5 111 rfl rfl
set_option maxRecDepth 4000 in
theorem ml_X9_170 : Cond.methodLink RX9 170 yX9_term ∈ TT := tt_5 112 rfl rfl
set_option maxRecDepth 4000 in
theorem im_X9_term : Cond.instanceMethod yX9_term ∈ TT := tt_5 114 rfl rfl
set_option maxRecDepth 4000 in
theorem cd_X9_term : Cond.code yX9_term cX9_term 2 (some .int) ∈ TT := tt_5 115 rfl rfl
set_option maxRecDepth 4000 in
theorem ml_X9_167 : Cond.methodLink RX9 167 yX9_factor ∈ TT := tt_5 116 rfl rfl
set_option maxRecDepth 4000 in
theorem im_X9_factor : Cond.instanceMethod yX9_factor ∈ TT := tt_5 118 rfl rfl
set_option maxRecDepth 4000 in
theorem cd_X9_factor : Cond.code yX9_factor cX9_factor 3 (some .int) ∈ TT := tt_5 119 rfl rfl
set_option maxRecDepth 4000 in
theorem ml_X9_138 : Cond.methodLink RX9 138 yX9_byteHere ∈ TT := tt_5 120 rfl rfl
set_option maxRecDepth 4000 in
theorem im_X9_byteHere : Cond.instanceMethod yX9_byteHere ∈ TT := tt_5 122 rfl rfl
set_option maxRecDepth 4000 in
theorem cd_X9_byteHere : Cond.code yX9_byteHere cX9_byteHere 1 (some .int) ∈ TT := tt_5 123 rfl rfl
set_option maxRecDepth 4000 in
theorem ml_X9_122 : Cond.methodLink RX9 122 yX9_end ∈ TT := tt_5 124 rfl rfl
set_option maxRecDepth 4000 in
theorem im_X9_end : Cond.instanceMethod yX9_end ∈ TT := tt_5 126 rfl rfl
set_option maxRecDepth 4000 in
theorem cd_X9_end : Cond.code yX9_end cX9_end 1 (some .int) ∈ TT := tt_5 127 rfl rfl
set_option maxRecDepth 4000 in
theorem kl_X9_144 : Cond.constantLong RX9 144 (48) ∈ TT := tt_5 128 rfl rfl
set_option maxRecDepth 4000 in
theorem kl_X9_146 : Cond.constantLong RX9 146 (57) ∈ TT := tt_5 129 rfl rfl
set_option maxRecDepth 4000 in
theorem ml_X9_158 : Cond.methodLink RX9 158 yX9_number ∈ TT := tt_5 130 rfl rfl
set_option maxRecDepth 4000 in
theorem im_X9_number : Cond.instanceMethod yX9_number ∈ TT := tt_5 132 rfl rfl
set_option maxRecDepth 4000 in
theorem cd_X9_number : Cond.code yX9_number cX9_number 3 (some .int) ∈ TT := tt_5 133 rfl rfl
set_option maxRecDepth 4000 in
theorem ml_X9_161 : Cond.methodLink RX9 161 yX9_choice ∈ TT := tt_5 134 rfl rfl
set_option maxRecDepth 4000 in
theorem im_X9_choice : Cond.instanceMethod yX9_choice ∈ TT := tt_5 136 rfl rfl
set_option maxRecDepth 4000 in
theorem cd_X9_choice : Cond.code yX9_choice cX9_choice 4 (some .int) ∈ TT := tt_5 137 rfl rfl
set_option maxRecDepth 4000 in
theorem ml_X9_141 : Cond.methodLink RX9 141 yX9_takes ∈ TT := tt_5 138 rfl rfl
set_option maxRecDepth 4000 in
theorem im_X9_takes : Cond.instanceMethod yX9_takes ∈ TT := tt_5 140 rfl rfl
set_option maxRecDepth 4000 in
theorem cd_X9_takes : Cond.code yX9_takes cX9_takes 2 (some .boolean) ∈ TT := tt_5 141 rfl rfl
set_option maxRecDepth 4000 in
theorem ml_X9_154 : Cond.methodLink RX9 154 yX9_must ∈ TT := tt_5 142 rfl rfl
set_option maxRecDepth 4000 in
theorem im_X9_must : Cond.instanceMethod yX9_must ∈ TT := tt_5 144 rfl rfl
set_option maxRecDepth 4000 in
theorem cd_X9_must : Cond.code yX9_must cX9_must 2 none ∈ TT := tt_5 145 rfl rfl
set_option maxRecDepth 4000 in
theorem ml_X9_164 : Cond.methodLink RX9 164 yX9_named ∈ TT := tt_5 146 rfl rfl
set_option maxRecDepth 4000 in
theorem im_X9_named : Cond.instanceMethod yX9_named ∈ TT := tt_5 148 rfl rfl
set_option maxRecDepth 4000 in
theorem cd_X9_named : Cond.code yX9_named cX9_named 2 (some .int) ∈ TT := tt_5 149 rfl rfl
set_option maxRecDepth 4000 in
theorem ml_X9_129 : Cond.methodLink RX9 129 yX9_latest ∈ TT := tt_5 150 rfl rfl
set_option maxRecDepth 4000 in
theorem im_X9_latest : Cond.instanceMethod yX9_latest ∈ TT := tt_5 152 rfl rfl
set_option maxRecDepth 4000 in
theorem cd_X9_latest : Cond.code yX9_latest cX9_latest 1 (some .int) ∈ TT := tt_5 153 rfl rfl
set_option maxRecDepth 4000 in
theorem ml_X9_132 : Cond.methodLink RX9 132 yX9_ones ∈ TT := tt_5 154 rfl rfl
set_option maxRecDepth 4000 in
theorem im_X9_ones : Cond.instanceMethod yX9_ones ∈ TT := tt_5 156 rfl rfl
set_option maxRecDepth 4000 in
theorem cd_X9_ones : Cond.code yX9_ones cX9_ones 2 (some .int) ∈ TT := tt_5 157 rfl rfl
set_option maxRecDepth 4000 in
theorem ml_L_71 : Cond.methodLink RL 71 yX9_even ∈ TT := tt_5 158 rfl rfl
set_option maxRecDepth 4000 in
theorem im_X9_even : Cond.instanceMethod yX9_even ∈ TT := tt_5 159 rfl rfl
set_option maxRecDepth 4000 in
theorem sl_X9_even : Cond.selects RX9 yX9_even yX9_even ∈ TT := tt_5 160 rfl rfl
set_option maxRecDepth 4000 in
theorem cd_X9_even : Cond.code yX9_even cX9_even 2 (some .int) ∈ TT := tt_5 161 rfl rfl
set_option maxRecDepth 4000 in
theorem ml_L_42 : Cond.methodLink RL 42 yX9_likes ∈ TT := tt_5 162 rfl rfl
set_option maxRecDepth 4000 in
theorem im_X9_likes : Cond.instanceMethod yX9_likes ∈ TT := tt_5 163 rfl rfl
set_option maxRecDepth 4000 in
theorem sl_X9_likes : Cond.selects RX9 yX9_likes yX9_likes ∈ TT := tt_5 164 rfl rfl
set_option maxRecDepth 4000 in
theorem cd_X9_likes : Cond.code yX9_likes cX9_likes 3 (some .int) ∈ TT := tt_5 165 rfl rfl
set_option maxRecDepth 4000 in
theorem ml_X9_198 : Cond.methodLink RX9 198 yX9_works ∈ TT := tt_5 166 rfl rfl
set_option maxRecDepth 4000 in
theorem im_X9_works : Cond.instanceMethod yX9_works ∈ TT := tt_5 168 rfl rfl
set_option maxRecDepth 4000 in
theorem cd_X9_works : Cond.code yX9_works cX9_works 3 none ∈ TT := tt_5 169 rfl rfl
set_option maxRecDepth 4000 in
theorem ml_X9_188 : Cond.methodLink RX9 188 yX9_likesBy ∈ TT := tt_5 170 rfl rfl
set_option maxRecDepth 4000 in
theorem im_X9_likesBy : Cond.instanceMethod yX9_likesBy ∈ TT := tt_5 172 rfl rfl
set_option maxRecDepth 4000 in
theorem cd_X9_likesBy : Cond.code yX9_likesBy cX9_likesBy 3 (some .int) ∈ TT := tt_5 173 rfl rfl
set_option maxRecDepth 4000 in
theorem ml_X9_184 : Cond.methodLink RX9 184 yX9_fancied ∈ TT := tt_5 174 rfl rfl
set_option maxRecDepth 4000 in
theorem im_X9_fancied : Cond.instanceMethod yX9_fancied ∈ TT := tt_5 176 rfl rfl
set_option maxRecDepth 4000 in
theorem cd_X9_fancied : Cond.code yX9_fancied cX9_fancied 6 (some .int) ∈ TT := tt_5 177 rfl rfl
set_option maxRecDepth 4000 in
theorem ml_X9_178 : Cond.methodLink RX9 178 yX9_isOneLine ∈ TT := tt_5 178 rfl rfl
set_option maxRecDepth 4000 in
theorem sm_X9_isOneLine : Cond.static yX9_isOneLine ∈ TT := tt_5 179 rfl rfl
set_option maxRecDepth 4000 in
theorem cd_X9_isOneLine : Cond.code yX9_isOneLine cX9_isOneLine 1 (some .boolean) ∈ TT := tt_5 180 rfl rfl
set_option maxRecDepth 4000 in
theorem ml_X9_181 : Cond.methodLink RX9 181 yX9_isThreeUp ∈ TT := tt_5 181 rfl rfl
set_option maxRecDepth 4000 in
theorem im_X9_isThreeUp : Cond.instanceMethod yX9_isThreeUp ∈ TT := tt_5 183 rfl rfl
set_option maxRecDepth 4000 in
theorem cd_X9_isThreeUp : Cond.code yX9_isThreeUp cX9_isThreeUp 4 (some .boolean) ∈ TT := tt_5 184 rfl rfl
set_option maxRecDepth 4000 in
theorem ml_X9_195 : Cond.methodLink RX9 195 yX9_crossedBy ∈ TT := tt_5 185 rfl rfl
set_option maxRecDepth 4000 in
theorem im_X9_crossedBy : Cond.instanceMethod yX9_crossedBy ∈ TT := tt_5 187 rfl rfl
set_option maxRecDepth 4000 in
theorem cd_X9_crossedBy : Cond.code yX9_crossedBy cX9_crossedBy 3 (some .int) ∈ TT := tt_5 188 rfl rfl
set_option maxRecDepth 4000 in
theorem ml_L_46 : Cond.methodLink RL 46 yX9_crossed ∈ TT := tt_5 189 rfl rfl
set_option maxRecDepth 4000 in
theorem im_X9_crossed : Cond.instanceMethod yX9_crossed ∈ TT := tt_5 190 rfl rfl
set_option maxRecDepth 4000 in
theorem sl_X9_crossed : Cond.selects RX9 yX9_crossed yX9_crossed ∈ TT := tt_5 191 rfl rfl
set_option maxRecDepth 4000 in
theorem cd_X9_crossed : Cond.code yX9_crossed cX9_crossed 3 (some .int) ∈ TT := tt_5 192 rfl rfl
set_option maxRecDepth 4000 in
theorem ml_L_50 : Cond.methodLink RL 50 yX9_buys ∈ TT := tt_5 193 rfl rfl
set_option maxRecDepth 4000 in
theorem im_X9_buys : Cond.instanceMethod yX9_buys ∈ TT := tt_5 194 rfl rfl
set_option maxRecDepth 4000 in
theorem sl_X9_buys : Cond.selects RX9 yX9_buys yX9_buys ∈ TT := tt_5 195 rfl rfl
set_option maxRecDepth 4000 in
theorem cd_X9_buys : Cond.code yX9_buys cX9_buys 4 (some .int) ∈ TT := tt_5 196 rfl rfl
set_option maxRecDepth 4000 in
theorem kl_X9_201 : Cond.constantLong RX9 201 (9999) ∈ TT := tt_5 197 rfl rfl
set_option maxRecDepth 4000 in
theorem k_X9_203 : Cond.constant RX9 203 (99999) ∈ TT := tt_5 198 rfl rfl
set_option maxRecDepth 4000 in
theorem ml_L_55 : Cond.methodLink RL 55 yX9_returned ∈ TT := tt_5 199 rfl rfl
set_option maxRecDepth 4000 in
theorem im_X9_returned : Cond.instanceMethod yX9_returned ∈ TT := tt_5 200 rfl rfl
set_option maxRecDepth 4000 in
theorem sl_X9_returned : Cond.selects RX9 yX9_returned yX9_returned ∈ TT := tt_5 201 rfl rfl
set_option maxRecDepth 4000 in
theorem cd_X9_returned : Cond.code yX9_returned cX9_returned 3 (some .int) ∈ TT := tt_5 202 rfl rfl
set_option maxRecDepth 4000 in
theorem ml_L_75 : Cond.methodLink RL 75 yX9_rule ∈ TT := tt_5 203 rfl rfl
set_option maxRecDepth 4000 in
theorem im_X9_rule : Cond.instanceMethod yX9_rule ∈ TT := tt_5 204 rfl rfl
set_option maxRecDepth 4000 in
theorem sl_X9_rule : Cond.selects RX9 yX9_rule yX9_rule ∈ TT := tt_5 205 rfl rfl
set_option maxRecDepth 4000 in
theorem cd_X9_rule : Cond.code yX9_rule cX9_rule 5 (some .int) ∈ TT := tt_5 206 rfl rfl
set_option maxRecDepth 4000 in
theorem k_X9_204 : Cond.constant RX9 204 (999999) ∈ TT := tt_5 207 rfl rfl
set_option maxRecDepth 4000 in
theorem k_X9_205 : Cond.constant RX9 205 (99999999) ∈ TT := tt_5 208 rfl rfl
set_option maxRecDepth 4000 in
theorem ml_L_79 : Cond.methodLink RL 79 yX9_seed ∈ TT := tt_5 209 rfl rfl
set_option maxRecDepth 4000 in
theorem im_X9_seed : Cond.instanceMethod yX9_seed ∈ TT := tt_5 210 rfl rfl
set_option maxRecDepth 4000 in
theorem sl_X9_seed : Cond.selects RX9 yX9_seed yX9_seed ∈ TT := tt_5 211 rfl rfl
set_option maxRecDepth 4000 in
theorem cd_X9_seed : Cond.code yX9_seed cX9_seed 3 (some .int) ∈ TT := tt_5 212 rfl rfl
set_option maxRecDepth 4000 in
theorem ml_L_83 : Cond.methodLink RL 83 yX9_week ∈ TT := tt_5 213 rfl rfl
set_option maxRecDepth 4000 in
theorem im_X9_week : Cond.instanceMethod yX9_week ∈ TT := tt_5 214 rfl rfl
set_option maxRecDepth 4000 in
theorem sl_X9_week : Cond.selects RX9 yX9_week yX9_week ∈ TT := tt_5 215 rfl rfl
set_option maxRecDepth 4000 in
theorem cd_X9_week : Cond.code yX9_week cX9_week 2 (some .int) ∈ TT := tt_5 216 rfl rfl
set_option maxRecDepth 4000 in
theorem k_X9_218 : Cond.constant RX9 218 (1103515245) ∈ TT := tt_5 217 rfl rfl
set_option maxRecDepth 4000 in
theorem ml_X9_219 : Cond.methodLink RX9 219 yX9_goes ∈ TT := tt_5 218 rfl rfl
set_option maxRecDepth 4000 in
theorem im_X9_goes : Cond.instanceMethod yX9_goes ∈ TT := tt_5 220 rfl rfl
set_option maxRecDepth 4000 in
theorem cd_X9_goes : Cond.code yX9_goes cX9_goes 11 none ∈ TT := tt_5 221 rfl rfl
set_option maxRecDepth 4000 in
theorem ml_X9_208 : Cond.methodLink RX9 208 yX9_potWith ∈ TT := tt_5 222 rfl rfl
set_option maxRecDepth 4000 in
theorem im_X9_potWith : Cond.instanceMethod yX9_potWith ∈ TT := tt_5 224 rfl rfl
set_option maxRecDepth 4000 in
theorem cd_X9_potWith : Cond.code yX9_potWith cX9_potWith 2 (some .long) ∈ TT := tt_5 225 rfl rfl
set_option maxRecDepth 4000 in
theorem kl_X9_206 : Cond.constantLong RX9 206 (100) ∈ TT := tt_5 226 rfl rfl
set_option maxRecDepth 4000 in
theorem ml_X9_212 : Cond.methodLink RX9 212 yX9_shareOf ∈ TT := tt_5 227 rfl rfl
set_option maxRecDepth 4000 in
theorem im_X9_shareOf : Cond.instanceMethod yX9_shareOf ∈ TT := tt_5 229 rfl rfl
set_option maxRecDepth 4000 in
theorem cd_X9_shareOf : Cond.code yX9_shareOf cX9_shareOf 4 (some .long) ∈ TT := tt_5 230 rfl rfl
set_option maxRecDepth 4000 in
theorem kl_X9_216 : Cond.constantLong RX9 216 (99999999) ∈ TT := tt_5 231 rfl rfl
set_option maxRecDepth 4000 in
theorem ml_L_87 : Cond.methodLink RL 87 yX9_told ∈ TT := tt_5 232 rfl rfl
set_option maxRecDepth 4000 in
theorem im_X9_told : Cond.instanceMethod yX9_told ∈ TT := tt_5 233 rfl rfl
set_option maxRecDepth 4000 in
theorem sl_X9_told : Cond.selects RX9 yX9_told yX9_told ∈ TT := tt_5 234 rfl rfl
set_option maxRecDepth 4000 in
theorem cd_X9_told : Cond.code yX9_told cX9_told 2 (some .int) ∈ TT := tt_5 235 rfl rfl
set_option maxRecDepth 4000 in
theorem ml_L_91 : Cond.methodLink RL 91 yX9_book ∈ TT := tt_5 236 rfl rfl
set_option maxRecDepth 4000 in
theorem im_X9_book : Cond.instanceMethod yX9_book ∈ TT := tt_5 237 rfl rfl
set_option maxRecDepth 4000 in
theorem sl_X9_book : Cond.selects RX9 yX9_book yX9_book ∈ TT := tt_5 238 rfl rfl
set_option maxRecDepth 4000 in
theorem cd_X9_book : Cond.code yX9_book cX9_book 3 (some .int) ∈ TT := tt_5 239 rfl rfl
set_option maxRecDepth 4000 in
theorem ml_L_95 : Cond.methodLink RL 95 yX9_now ∈ TT := tt_6 0 rfl rfl
set_option maxRecDepth 4000 in
theorem im_X9_now : Cond.instanceMethod yX9_now ∈ TT := tt_6 1 rfl rfl
set_option maxRecDepth 4000 in
theorem sl_X9_now : Cond.selects RX9 yX9_now yX9_now ∈ TT := tt_6 2 rfl rfl
set_option maxRecDepth 4000 in
theorem cd_X9_now : Cond.code yX9_now cX9_now 1 (some .int) ∈ TT := tt_6 3 rfl rfl
set_option maxRecDepth 4000 in
theorem ml_L_99 : Cond.methodLink RL 99 yX9_worth ∈ TT := tt_6 4 rfl rfl
set_option maxRecDepth 4000 in
theorem im_X9_worth : Cond.instanceMethod yX9_worth ∈ TT := tt_6 5 rfl rfl
set_option maxRecDepth 4000 in
theorem sl_X9_worth : Cond.selects RX9 yX9_worth yX9_worth ∈ TT := tt_6 6 rfl rfl
set_option maxRecDepth 4000 in
theorem cd_X9_worth : Cond.code yX9_worth cX9_worth 2 (some .int) ∈ TT := tt_6 7 rfl rfl
set_option maxRecDepth 4000 in
theorem ml_X9_235 : Cond.methodLink RX9 235 yX9_worthOf ∈ TT := tt_6 8 rfl rfl
set_option maxRecDepth 4000 in
theorem im_X9_worthOf : Cond.instanceMethod yX9_worthOf ∈ TT := tt_6 10 rfl rfl
set_option maxRecDepth 4000 in
theorem cd_X9_worthOf : Cond.code yX9_worthOf cX9_worthOf 4 (some .int) ∈ TT := tt_6 11 rfl rfl
set_option maxRecDepth 4000 in
theorem ml_X9_229 : Cond.methodLink RX9 229 yX9_getsAll ∈ TT := tt_6 12 rfl rfl
set_option maxRecDepth 4000 in
theorem im_X9_getsAll : Cond.instanceMethod yX9_getsAll ∈ TT := tt_6 14 rfl rfl
set_option maxRecDepth 4000 in
theorem cd_X9_getsAll : Cond.code yX9_getsAll cX9_getsAll 8 (some .long) ∈ TT := tt_6 15 rfl rfl
set_option maxRecDepth 4000 in
theorem ml_X9_222 : Cond.methodLink RX9 222 yX9_counts ∈ TT := tt_6 16 rfl rfl
set_option maxRecDepth 4000 in
theorem im_X9_counts : Cond.instanceMethod yX9_counts ∈ TT := tt_6 18 rfl rfl
set_option maxRecDepth 4000 in
theorem cd_X9_counts : Cond.code yX9_counts cX9_counts 4 none ∈ TT := tt_6 19 rfl rfl
set_option maxRecDepth 4000 in
theorem ml_X9_225 : Cond.methodLink RX9 225 yX9_taxed ∈ TT := tt_6 20 rfl rfl
set_option maxRecDepth 4000 in
theorem im_X9_taxed : Cond.instanceMethod yX9_taxed ∈ TT := tt_6 22 rfl rfl
set_option maxRecDepth 4000 in
theorem cd_X9_taxed : Cond.code yX9_taxed cX9_taxed 3 (some .long) ∈ TT := tt_6 23 rfl rfl
set_option maxRecDepth 4000 in
theorem kl_X9_233 : Cond.constantLong RX9 233 (495) ∈ TT := tt_6 24 rfl rfl
set_option maxRecDepth 4000 in
theorem ml_L_103 : Cond.methodLink RL 103 yX9_best ∈ TT := tt_6 25 rfl rfl
set_option maxRecDepth 4000 in
theorem im_X9_best : Cond.instanceMethod yX9_best ∈ TT := tt_6 26 rfl rfl
set_option maxRecDepth 4000 in
theorem sl_X9_best : Cond.selects RX9 yX9_best yX9_best ∈ TT := tt_6 27 rfl rfl
set_option maxRecDepth 4000 in
theorem cd_X9_best : Cond.code yX9_best cX9_best 8 (some .int) ∈ TT := tt_6 28 rfl rfl
set_option maxRecDepth 4000 in
theorem ml_L_107 : Cond.methodLink RL 107 yX9_alone ∈ TT := tt_6 29 rfl rfl
set_option maxRecDepth 4000 in
theorem im_X9_alone : Cond.instanceMethod yX9_alone ∈ TT := tt_6 30 rfl rfl
set_option maxRecDepth 4000 in
theorem sl_X9_alone : Cond.selects RX9 yX9_alone yX9_alone ∈ TT := tt_6 31 rfl rfl
set_option maxRecDepth 4000 in
theorem cd_X9_alone : Cond.code yX9_alone cX9_alone 5 (some .int) ∈ TT := tt_6 32 rfl rfl
set_option maxRecDepth 4000 in
theorem k_X9_239 : Cond.constant RX9 239 (-1000000004) ∈ TT := tt_6 33 rfl rfl
set_option maxRecDepth 4000 in
theorem ml_L_111 : Cond.methodLink RL 111 yX9_line ∈ TT := tt_6 34 rfl rfl
set_option maxRecDepth 4000 in
theorem im_X9_line : Cond.instanceMethod yX9_line ∈ TT := tt_6 35 rfl rfl
set_option maxRecDepth 4000 in
theorem sl_X9_line : Cond.selects RX9 yX9_line yX9_line ∈ TT := tt_6 36 rfl rfl
set_option maxRecDepth 4000 in
theorem cd_X9_line : Cond.code yX9_line cX9_line 6 (some .int) ∈ TT := tt_6 37 rfl rfl
set_option maxRecDepth 4000 in
theorem ml_L_116 : Cond.methodLink RL 116 yX9_house ∈ TT := tt_6 38 rfl rfl
set_option maxRecDepth 4000 in
theorem im_X9_house : Cond.instanceMethod yX9_house ∈ TT := tt_6 39 rfl rfl
set_option maxRecDepth 4000 in
theorem sl_X9_house : Cond.selects RX9 yX9_house yX9_house ∈ TT := tt_6 40 rfl rfl
set_option maxRecDepth 4000 in
theorem cd_X9_house : Cond.code yX9_house cX9_house 8 (some .long) ∈ TT := tt_6 41 rfl rfl
set_option maxRecDepth 4000 in
theorem ml_X9_240 : Cond.methodLink RX9 240 yX9_begins ∈ TT := tt_6 42 rfl rfl
set_option maxRecDepth 4000 in
theorem im_X9_begins : Cond.instanceMethod yX9_begins ∈ TT := tt_6 44 rfl rfl
set_option maxRecDepth 4000 in
theorem cd_X9_begins : Cond.code yX9_begins cX9_begins 2 none ∈ TT := tt_6 45 rfl rfl
set_option maxRecDepth 4000 in
theorem ml_X9_243 : Cond.methodLink RX9 243 yX9_rarest ∈ TT := tt_6 46 rfl rfl
set_option maxRecDepth 4000 in
theorem im_X9_rarest : Cond.instanceMethod yX9_rarest ∈ TT := tt_6 48 rfl rfl
set_option maxRecDepth 4000 in
theorem cd_X9_rarest : Cond.code yX9_rarest cX9_rarest 3 (some .int) ∈ TT := tt_6 49 rfl rfl
set_option maxRecDepth 4000 in
theorem ml_L_120 : Cond.methodLink RL 120 yX9_seek ∈ TT := tt_6 50 rfl rfl
set_option maxRecDepth 4000 in
theorem im_X9_seek : Cond.instanceMethod yX9_seek ∈ TT := tt_6 51 rfl rfl
set_option maxRecDepth 4000 in
theorem sl_X9_seek : Cond.selects RX9 yX9_seek yX9_seek ∈ TT := tt_6 52 rfl rfl
set_option maxRecDepth 4000 in
theorem cd_X9_seek : Cond.code yX9_seek cX9_seek 6 (some .int) ∈ TT := tt_6 53 rfl rfl
set_option maxRecDepth 4000 in
theorem kl_X9_246 : Cond.constantLong RX9 246 (200) ∈ TT := tt_6 54 rfl rfl
set_option maxRecDepth 4000 in
theorem ml_L_124 : Cond.methodLink RL 124 yX9_shares ∈ TT := tt_6 55 rfl rfl
set_option maxRecDepth 4000 in
theorem im_X9_shares : Cond.instanceMethod yX9_shares ∈ TT := tt_6 56 rfl rfl
set_option maxRecDepth 4000 in
theorem sl_X9_shares : Cond.selects RX9 yX9_shares yX9_shares ∈ TT := tt_6 57 rfl rfl
set_option maxRecDepth 4000 in
theorem cd_X9_shares : Cond.code yX9_shares cX9_shares 2 (some .int) ∈ TT := tt_6 58 rfl rfl
set_option maxRecDepth 4000 in
theorem ml_L_128 : Cond.methodLink RL 128 yX9_due ∈ TT := tt_6 59 rfl rfl
set_option maxRecDepth 4000 in
theorem im_X9_due : Cond.instanceMethod yX9_due ∈ TT := tt_6 60 rfl rfl
set_option maxRecDepth 4000 in
theorem sl_X9_due : Cond.selects RX9 yX9_due yX9_due ∈ TT := tt_6 61 rfl rfl
set_option maxRecDepth 4000 in
theorem cd_X9_due : Cond.code yX9_due cX9_due 3 (some .int) ∈ TT := tt_6 62 rfl rfl
set_option maxRecDepth 4000 in
theorem kl_X9_251 : Cond.constantLong RX9 251 (11) ∈ TT := tt_6 63 rfl rfl
set_option maxRecDepth 4000 in
theorem ml_X9_248 : Cond.methodLink RX9 248 yX9_drawAt ∈ TT := tt_6 64 rfl rfl
set_option maxRecDepth 4000 in
theorem im_X9_drawAt : Cond.instanceMethod yX9_drawAt ∈ TT := tt_6 66 rfl rfl
set_option maxRecDepth 4000 in
theorem cd_X9_drawAt : Cond.code yX9_drawAt cX9_drawAt 2 (some .int) ∈ TT := tt_6 67 rfl rfl
set_option maxRecDepth 4000 in
theorem ml_L_132 : Cond.methodLink RL 132 yX9_came ∈ TT := tt_6 68 rfl rfl
set_option maxRecDepth 4000 in
theorem im_X9_came : Cond.instanceMethod yX9_came ∈ TT := tt_6 69 rfl rfl
set_option maxRecDepth 4000 in
theorem sl_X9_came : Cond.selects RX9 yX9_came yX9_came ∈ TT := tt_6 70 rfl rfl
set_option maxRecDepth 4000 in
theorem cd_X9_came : Cond.code yX9_came cX9_came 2 (some .int) ∈ TT := tt_6 71 rfl rfl
set_option maxRecDepth 4000 in
theorem ml_X9_253 : Cond.methodLink RX9 253 yX9_timesOf ∈ TT := tt_6 72 rfl rfl
set_option maxRecDepth 4000 in
theorem im_X9_timesOf : Cond.instanceMethod yX9_timesOf ∈ TT := tt_6 74 rfl rfl
set_option maxRecDepth 4000 in
theorem cd_X9_timesOf : Cond.code yX9_timesOf cX9_timesOf 4 (some .int) ∈ TT := tt_6 75 rfl rfl
set_option maxRecDepth 4000 in
theorem ml_L_137 : Cond.methodLink RL 137 yX9_drum ∈ TT := tt_6 76 rfl rfl
set_option maxRecDepth 4000 in
theorem im_X9_drum : Cond.instanceMethod yX9_drum ∈ TT := tt_6 77 rfl rfl
set_option maxRecDepth 4000 in
theorem sl_X9_drum : Cond.selects RX9 yX9_drum yX9_drum ∈ TT := tt_6 78 rfl rfl
set_option maxRecDepth 4000 in
theorem cd_X9_drum : Cond.code yX9_drum cX9_drum 6 (some .long) ∈ TT := tt_6 79 rfl rfl
set_option maxRecDepth 4000 in
theorem kl_X9_256 : Cond.constantLong RX9 256 (12) ∈ TT := tt_6 80 rfl rfl
set_option maxRecDepth 4000 in
theorem ml_L_141 : Cond.methodLink RL 141 yX9_felt ∈ TT := tt_6 81 rfl rfl
set_option maxRecDepth 4000 in
theorem im_X9_felt : Cond.instanceMethod yX9_felt ∈ TT := tt_6 82 rfl rfl
set_option maxRecDepth 4000 in
theorem sl_X9_felt : Cond.selects RX9 yX9_felt yX9_felt ∈ TT := tt_6 83 rfl rfl
set_option maxRecDepth 4000 in
theorem cd_X9_felt : Cond.code yX9_felt cX9_felt 7 (some .int) ∈ TT := tt_6 84 rfl rfl
set_option maxRecDepth 4000 in
theorem ml_L_146 : Cond.methodLink RL 146 yX9_sheet ∈ TT := tt_6 85 rfl rfl
set_option maxRecDepth 4000 in
theorem im_X9_sheet : Cond.instanceMethod yX9_sheet ∈ TT := tt_6 86 rfl rfl
set_option maxRecDepth 4000 in
theorem sl_X9_sheet : Cond.selects RX9 yX9_sheet yX9_sheet ∈ TT := tt_6 87 rfl rfl
set_option maxRecDepth 4000 in
theorem cd_X9_sheet : Cond.code yX9_sheet cX9_sheet 5 (some .int) ∈ TT := tt_6 88 rfl rfl
set_option maxRecDepth 4000 in
theorem ml_X9_258 : Cond.methodLink RX9 258 yX9_isSheet ∈ TT := tt_6 89 rfl rfl
set_option maxRecDepth 4000 in
theorem sm_X9_isSheet : Cond.static yX9_isSheet ∈ TT := tt_6 90 rfl rfl
set_option maxRecDepth 4000 in
theorem cd_X9_isSheet : Cond.code yX9_isSheet cX9_isSheet 1 (some .boolean) ∈ TT := tt_6 91 rfl rfl
set_option maxRecDepth 4000 in
theorem k_X9_261 : Cond.constant RX9 261 (-1000000007) ∈ TT := tt_6 92 rfl rfl
set_option maxRecDepth 4000 in
theorem ml_L_153 : Cond.methodLink RL 153 yX9_write ∈ TT := tt_6 93 rfl rfl
set_option maxRecDepth 4000 in
theorem im_X9_write : Cond.instanceMethod yX9_write ∈ TT := tt_6 94 rfl rfl
set_option maxRecDepth 4000 in
theorem sl_X9_write : Cond.selects RX9 yX9_write yX9_write ∈ TT := tt_6 95 rfl rfl
set_option maxRecDepth 4000 in
theorem cd_X9_write : Cond.code yX9_write cX9_write 7 (some .long) ∈ TT := tt_6 96 rfl rfl
set_option maxRecDepth 4000 in
theorem k_X9_262 : Cond.constant RX9 262 (-1000000006) ∈ TT := tt_6 97 rfl rfl
set_option maxRecDepth 4000 in
theorem ml_X9_263 : Cond.methodLink RX9 263 yX9_narrow ∈ TT := tt_6 98 rfl rfl
set_option maxRecDepth 4000 in
theorem sm_X9_narrow : Cond.static yX9_narrow ∈ TT := tt_6 99 rfl rfl
set_option maxRecDepth 4000 in
theorem cd_X9_narrow : Cond.code yX9_narrow cX9_narrow 3 (some .long) ∈ TT := tt_6 100 rfl rfl
set_option maxRecDepth 4000 in
theorem ml_L_158 : Cond.methodLink RL 158 yX9_copy ∈ TT := tt_6 101 rfl rfl
set_option maxRecDepth 4000 in
theorem im_X9_copy : Cond.instanceMethod yX9_copy ∈ TT := tt_6 102 rfl rfl
set_option maxRecDepth 4000 in
theorem sl_X9_copy : Cond.selects RX9 yX9_copy yX9_copy ∈ TT := tt_6 103 rfl rfl
set_option maxRecDepth 4000 in
theorem cd_X9_copy : Cond.code yX9_copy cX9_copy 10 (some .int) ∈ TT := tt_6 104 rfl rfl
set_option maxRecDepth 4000 in
theorem ml_L_162 : Cond.methodLink RL 162 yX9_weeks ∈ TT := tt_6 105 rfl rfl
set_option maxRecDepth 4000 in
theorem im_X9_weeks : Cond.instanceMethod yX9_weeks ∈ TT := tt_6 106 rfl rfl
set_option maxRecDepth 4000 in
theorem sl_X9_weeks : Cond.selects RX9 yX9_weeks yX9_weeks ∈ TT := tt_6 107 rfl rfl
set_option maxRecDepth 4000 in
theorem cd_X9_weeks : Cond.code yX9_weeks cX9_weeks 6 (some .int) ∈ TT := tt_6 108 rfl rfl
set_option maxRecDepth 4000 in
theorem kl_X9_266 : Cond.constantLong RX9 266 (4095) ∈ TT := tt_6 109 rfl rfl
set_option maxRecDepth 4000 in
theorem ml_L_166 : Cond.methodLink RL 166 yX9_read ∈ TT := tt_6 110 rfl rfl
set_option maxRecDepth 4000 in
theorem im_X9_read : Cond.instanceMethod yX9_read ∈ TT := tt_6 111 rfl rfl
set_option maxRecDepth 4000 in
theorem sl_X9_read : Cond.selects RX9 yX9_read yX9_read ∈ TT := tt_6 112 rfl rfl
set_option maxRecDepth 4000 in
theorem cd_X9_read : Cond.code yX9_read cX9_read 3 (some .int) ∈ TT := tt_6 113 rfl rfl
set_option maxRecDepth 4000 in
theorem ml_L_170 : Cond.methodLink RL 170 yX9_image ∈ TT := tt_6 114 rfl rfl
set_option maxRecDepth 4000 in
theorem im_X9_image : Cond.instanceMethod yX9_image ∈ TT := tt_6 115 rfl rfl
set_option maxRecDepth 4000 in
theorem sl_X9_image : Cond.selects RX9 yX9_image yX9_image ∈ TT := tt_6 116 rfl rfl
set_option maxRecDepth 4000 in
theorem cd_X9_image : Cond.code yX9_image cX9_image 2 (some .int) ∈ TT := tt_6 117 rfl rfl
set_option maxRecDepth 4000 in
theorem ml_L_174 : Cond.methodLink RL 174 yX9_undo ∈ TT := tt_6 118 rfl rfl
set_option maxRecDepth 4000 in
theorem im_X9_undo : Cond.instanceMethod yX9_undo ∈ TT := tt_6 119 rfl rfl
set_option maxRecDepth 4000 in
theorem sl_X9_undo : Cond.selects RX9 yX9_undo yX9_undo ∈ TT := tt_6 120 rfl rfl
set_option maxRecDepth 4000 in
theorem cd_X9_undo : Cond.code yX9_undo cX9_undo 2 (some .int) ∈ TT := tt_6 121 rfl rfl
set_option maxRecDepth 4000 in
theorem ml_L_178 : Cond.methodLink RL 178 yX9_tear ∈ TT := tt_6 122 rfl rfl
set_option maxRecDepth 4000 in
theorem im_X9_tear : Cond.instanceMethod yX9_tear ∈ TT := tt_6 123 rfl rfl
set_option maxRecDepth 4000 in
theorem sl_X9_tear : Cond.selects RX9 yX9_tear yX9_tear ∈ TT := tt_6 124 rfl rfl
set_option maxRecDepth 4000 in
theorem cd_X9_tear : Cond.code yX9_tear cX9_tear 2 (some .int) ∈ TT := tt_6 125 rfl rfl
set_option maxRecDepth 4000 in
theorem ml_L_182 : Cond.methodLink RL 182 yX9_count ∈ TT := tt_6 126 rfl rfl
set_option maxRecDepth 4000 in
theorem im_X9_count : Cond.instanceMethod yX9_count ∈ TT := tt_6 127 rfl rfl
set_option maxRecDepth 4000 in
theorem sl_X9_count : Cond.selects RX9 yX9_count yX9_count ∈ TT := tt_6 128 rfl rfl
set_option maxRecDepth 4000 in
theorem cd_X9_count : Cond.code yX9_count cX9_count 2 (some .int) ∈ TT := tt_6 129 rfl rfl
set_option maxRecDepth 4000 in
theorem ml_L_186 : Cond.methodLink RL 186 yX9_status ∈ TT := tt_6 130 rfl rfl
set_option maxRecDepth 4000 in
theorem im_X9_status : Cond.instanceMethod yX9_status ∈ TT := tt_6 131 rfl rfl
set_option maxRecDepth 4000 in
theorem sl_X9_status : Cond.selects RX9 yX9_status yX9_status ∈ TT := tt_6 132 rfl rfl
set_option maxRecDepth 4000 in
theorem cd_X9_status : Cond.code yX9_status cX9_status 2 (some .int) ∈ TT := tt_6 133 rfl rfl
set_option maxRecDepth 4000 in
theorem kl_X9_271 : Cond.constantLong RX9 271 (-1) ∈ TT := tt_6 134 rfl rfl
set_option maxRecDepth 4000 in
theorem kl_X9_273 : Cond.constantLong RX9 273 (6) ∈ TT := tt_6 135 rfl rfl
set_option maxRecDepth 4000 in
theorem kl_L_147 : Cond.constantLong RL 147 (4294967295) ∈ TT := tt_6 136 rfl rfl
set_option maxRecDepth 4000 in
theorem fl_J0_15 : Cond.fieldLink RJ0 15 "java/lang/String" "coder" "B" ∈ TT := tt_6 137 rfl rfl
set_option maxRecDepth 4000 in
theorem fl_J0_9 : Cond.fieldLink RJ0 9 "java/lang/String" "value" "[B" ∈ TT := tt_6 138 rfl rfl
set_option maxRecDepth 4000 in
theorem sl_X8_tell : Cond.selects RX8 yX8_tell yX8_tell ∈ TT := tt_p 0 rfl rfl
set_option maxRecDepth 4000 in
theorem sl_X8_isPeople : Cond.selects RX8 yX8_isPeople yX8_isPeople ∈ TT := tt_p 1 rfl rfl
set_option maxRecDepth 4000 in
theorem sl_X2_named : Cond.selects RX2 yX2_named yX2_named ∈ TT := tt_p 2 rfl rfl
set_option maxRecDepth 4000 in
theorem sl_X2_act : Cond.selects RX2 yX2_act yX2_act ∈ TT := tt_p 3 rfl rfl
set_option maxRecDepth 4000 in
theorem sl_X0_likeAll : Cond.selects RX0 yX0_likeAll yX0_likeAll ∈ TT := tt_p 4 rfl rfl
set_option maxRecDepth 4000 in
theorem sl_X0_addCrosses : Cond.selects RX0 yX0_addCrosses yX0_addCrosses ∈ TT := tt_p 5 rfl rfl
set_option maxRecDepth 4000 in
theorem sl_X1_readSum : Cond.selects RX1 yX1_readSum yX1_readSum ∈ TT := tt_p 6 rfl rfl
set_option maxRecDepth 4000 in
theorem sl_X1_readProduct : Cond.selects RX1 yX1_readProduct yX1_readProduct ∈ TT := tt_p 7 rfl rfl
set_option maxRecDepth 4000 in
theorem sl_X1_readFactor : Cond.selects RX1 yX1_readFactor yX1_readFactor ∈ TT := tt_p 8 rfl rfl
set_option maxRecDepth 4000 in
theorem sl_X1_digit : Cond.selects RX1 yX1_digit yX1_digit ∈ TT := tt_p 9 rfl rfl
set_option maxRecDepth 4000 in
theorem sl_X1_readNumber : Cond.selects RX1 yX1_readNumber yX1_readNumber ∈ TT := tt_p 10 rfl rfl
set_option maxRecDepth 4000 in
theorem sl_X1_put : Cond.selects RX1 yX1_put yX1_put ∈ TT := tt_p 11 rfl rfl
set_option maxRecDepth 4000 in
theorem sl_X1_nameHere : Cond.selects RX1 yX1_nameHere yX1_nameHere ∈ TT := tt_p 12 rfl rfl
set_option maxRecDepth 4000 in
theorem sl_X1_sees : Cond.selects RX1 yX1_sees yX1_sees ∈ TT := tt_p 13 rfl rfl
set_option maxRecDepth 4000 in
theorem sl_X1_readBracket : Cond.selects RX1 yX1_readBracket yX1_readBracket ∈ TT := tt_p 14 rfl rfl
set_option maxRecDepth 4000 in
theorem sl_X1_pass : Cond.selects RX1 yX1_pass yX1_pass ∈ TT := tt_p 15 rfl rfl
set_option maxRecDepth 4000 in
theorem sl_X8_drawByLots : Cond.selects RX8 yX8_drawByLots yX8_drawByLots ∈ TT := tt_p 16 rfl rfl
set_option maxRecDepth 4000 in
theorem sl_X8_holdWeek : Cond.selects RX8 yX8_holdWeek yX8_holdWeek ∈ TT := tt_p 17 rfl rfl
set_option maxRecDepth 4000 in
theorem sl_X3_mark : Cond.selects RX3 yX3_mark yX3_mark ∈ TT := tt_p 18 rfl rfl
set_option maxRecDepth 4000 in
theorem sl_X7_oneGets : Cond.selects RX7 yX7_oneGets yX7_oneGets ∈ TT := tt_p 19 rfl rfl
set_option maxRecDepth 4000 in
theorem sl_X7_takeLeastCrossed : Cond.selects RX7 yX7_takeLeastCrossed yX7_takeLeastCrossed ∈ TT := tt_p 20 rfl rfl
set_option maxRecDepth 4000 in
theorem sl_X7_leastBound : Cond.selects RX7 yX7_leastBound yX7_leastBound ∈ TT := tt_p 21 rfl rfl
set_option maxRecDepth 4000 in
theorem sl_X7_countUpTo : Cond.selects RX7 yX7_countUpTo yX7_countUpTo ∈ TT := tt_p 22 rfl rfl
set_option maxRecDepth 4000 in
theorem sl_X7_leastTaken : Cond.selects RX7 yX7_leastTaken yX7_leastTaken ∈ TT := tt_p 23 rfl rfl
set_option maxRecDepth 4000 in
theorem sl_X9_looksAt : Cond.selects RX9 yX9_looksAt yX9_looksAt ∈ TT := tt_p 24 rfl rfl
set_option maxRecDepth 4000 in
theorem sl_X9_finds : Cond.selects RX9 yX9_finds yX9_finds ∈ TT := tt_p 25 rfl rfl
set_option maxRecDepth 4000 in
theorem sl_X9_isPeople : Cond.selects RX9 yX9_isPeople yX9_isPeople ∈ TT := tt_p 26 rfl rfl
set_option maxRecDepth 4000 in
theorem sl_X9_says : Cond.selects RX9 yX9_says yX9_says ∈ TT := tt_p 27 rfl rfl
set_option maxRecDepth 4000 in
theorem sl_X9_sum : Cond.selects RX9 yX9_sum yX9_sum ∈ TT := tt_p 28 rfl rfl
set_option maxRecDepth 4000 in
theorem sl_X9_term : Cond.selects RX9 yX9_term yX9_term ∈ TT := tt_p 29 rfl rfl
set_option maxRecDepth 4000 in
theorem sl_X9_factor : Cond.selects RX9 yX9_factor yX9_factor ∈ TT := tt_p 30 rfl rfl
set_option maxRecDepth 4000 in
theorem sl_X9_byteHere : Cond.selects RX9 yX9_byteHere yX9_byteHere ∈ TT := tt_p 31 rfl rfl
set_option maxRecDepth 4000 in
theorem sl_X9_end : Cond.selects RX9 yX9_end yX9_end ∈ TT := tt_p 32 rfl rfl
set_option maxRecDepth 4000 in
theorem sl_X9_number : Cond.selects RX9 yX9_number yX9_number ∈ TT := tt_p 33 rfl rfl
set_option maxRecDepth 4000 in
theorem sl_X9_choice : Cond.selects RX9 yX9_choice yX9_choice ∈ TT := tt_p 34 rfl rfl
set_option maxRecDepth 4000 in
theorem sl_X9_takes : Cond.selects RX9 yX9_takes yX9_takes ∈ TT := tt_p 35 rfl rfl
set_option maxRecDepth 4000 in
theorem sl_X9_must : Cond.selects RX9 yX9_must yX9_must ∈ TT := tt_p 36 rfl rfl
set_option maxRecDepth 4000 in
theorem sl_X9_named : Cond.selects RX9 yX9_named yX9_named ∈ TT := tt_p 37 rfl rfl
set_option maxRecDepth 4000 in
theorem sl_X9_latest : Cond.selects RX9 yX9_latest yX9_latest ∈ TT := tt_p 38 rfl rfl
set_option maxRecDepth 4000 in
theorem sl_X9_ones : Cond.selects RX9 yX9_ones yX9_ones ∈ TT := tt_p 39 rfl rfl
set_option maxRecDepth 4000 in
theorem sl_X9_works : Cond.selects RX9 yX9_works yX9_works ∈ TT := tt_p 40 rfl rfl
set_option maxRecDepth 4000 in
theorem sl_X9_likesBy : Cond.selects RX9 yX9_likesBy yX9_likesBy ∈ TT := tt_p 41 rfl rfl
set_option maxRecDepth 4000 in
theorem sl_X9_fancied : Cond.selects RX9 yX9_fancied yX9_fancied ∈ TT := tt_p 42 rfl rfl
set_option maxRecDepth 4000 in
theorem sl_X9_isThreeUp : Cond.selects RX9 yX9_isThreeUp yX9_isThreeUp ∈ TT := tt_p 43 rfl rfl
set_option maxRecDepth 4000 in
theorem sl_X9_crossedBy : Cond.selects RX9 yX9_crossedBy yX9_crossedBy ∈ TT := tt_p 44 rfl rfl
set_option maxRecDepth 4000 in
theorem sl_X9_goes : Cond.selects RX9 yX9_goes yX9_goes ∈ TT := tt_p 45 rfl rfl
set_option maxRecDepth 4000 in
theorem sl_X9_potWith : Cond.selects RX9 yX9_potWith yX9_potWith ∈ TT := tt_p 46 rfl rfl
set_option maxRecDepth 4000 in
theorem sl_X9_shareOf : Cond.selects RX9 yX9_shareOf yX9_shareOf ∈ TT := tt_p 47 rfl rfl
set_option maxRecDepth 4000 in
theorem sl_X9_worthOf : Cond.selects RX9 yX9_worthOf yX9_worthOf ∈ TT := tt_p 48 rfl rfl
set_option maxRecDepth 4000 in
theorem sl_X9_getsAll : Cond.selects RX9 yX9_getsAll yX9_getsAll ∈ TT := tt_p 49 rfl rfl
set_option maxRecDepth 4000 in
theorem sl_X9_counts : Cond.selects RX9 yX9_counts yX9_counts ∈ TT := tt_p 50 rfl rfl
set_option maxRecDepth 4000 in
theorem sl_X9_taxed : Cond.selects RX9 yX9_taxed yX9_taxed ∈ TT := tt_p 51 rfl rfl
set_option maxRecDepth 4000 in
theorem sl_X9_begins : Cond.selects RX9 yX9_begins yX9_begins ∈ TT := tt_p 52 rfl rfl
set_option maxRecDepth 4000 in
theorem sl_X9_rarest : Cond.selects RX9 yX9_rarest yX9_rarest ∈ TT := tt_p 53 rfl rfl
set_option maxRecDepth 4000 in
theorem sl_X9_drawAt : Cond.selects RX9 yX9_drawAt yX9_drawAt ∈ TT := tt_p 54 rfl rfl
set_option maxRecDepth 4000 in
theorem sl_X9_timesOf : Cond.selects RX9 yX9_timesOf yX9_timesOf ∈ TT := tt_p 55 rfl rfl
theorem inX0 : ∀ w ∈ wsX00, w ∈ TT := by
  show ∀ w ∈ [u_lay RX0 TX0 0, u_lay RX0 TX0 1, u_lay RX0 TX0 2, u_lay RX0 TX0 3, u_lay RX0 TX0 4, u_lay RX0 TX0 5, u_lay RX0 TX0 6, u_lay RX0 TX0 7, u_lay RX0 TX0 8, u_lay RX0 TX0 9, u_lay RX0 TX0 10, u_lay RX0 TX0 11, u_lay RX0 TX0 12, u_lay RX0 TX0 13], w ∈ TT
  exact List.forall_mem_cons.mpr ⟨ly_X0_state, List.forall_mem_cons.mpr ⟨ly_X0_slip, List.forall_mem_cons.mpr ⟨ly_X0_voice, List.forall_mem_cons.mpr ⟨ly_X0_overlaps, List.forall_mem_cons.mpr ⟨ly_X0_said, List.forall_mem_cons.mpr ⟨ly_X0_liked, List.forall_mem_cons.mpr ⟨ly_X0_threes, List.forall_mem_cons.mpr ⟨ly_X0_twos, List.forall_mem_cons.mpr ⟨ly_X0_crosses, List.forall_mem_cons.mpr ⟨ly_X0_byRank, List.forall_mem_cons.mpr ⟨ly_X0_total, List.forall_mem_cons.mpr ⟨ly_X0_latest, List.forall_mem_cons.mpr ⟨ly_X0_settled, List.forall_mem_cons.mpr ⟨ly_X0_winnersSettled, fun _ h => absurd h List.not_mem_nil⟩⟩⟩⟩⟩⟩⟩⟩⟩⟩⟩⟩⟩⟩
theorem inX1 : ∀ w ∈ wsX10, w ∈ TT := by
  show ∀ w ∈ [u_lay RX1 TX1 0, u_lay RX1 TX1 1, u_lay RX1 TX1 2, u_lay RX1 TX1 3, u_lay RX1 TX1 4, u_lay RX1 TX1 5], w ∈ TT
  exact List.forall_mem_cons.mpr ⟨ly_X1_text, List.forall_mem_cons.mpr ⟨ly_X1_code, List.forall_mem_cons.mpr ⟨ly_X1_size, List.forall_mem_cons.mpr ⟨ly_X1_codeSize, List.forall_mem_cons.mpr ⟨ly_X1_at, List.forall_mem_cons.mpr ⟨ly_X1_fault, fun _ h => absurd h List.not_mem_nil⟩⟩⟩⟩⟩⟩
theorem inX2 : ∀ w ∈ wsX20, w ∈ TT := by
  show ∀ w ∈ [u_lay RX2 TX2 0, u_lay RX2 TX2 1], w ∈ TT
  exact List.forall_mem_cons.mpr ⟨ly_X2_state, List.forall_mem_cons.mpr ⟨ly_X2_stack, fun _ h => absurd h List.not_mem_nil⟩⟩
theorem inX3 : ∀ w ∈ wsX30, w ∈ TT := by
  show ∀ w ∈ [u_lay RX3 TX3 0, u_lay RX3 TX3 1, u_lay RX3 TX3 2, u_lay RX3 TX3 3], w ∈ TT
  exact List.forall_mem_cons.mpr ⟨ly_X3_values, List.forall_mem_cons.mpr ⟨ly_X3_sums, List.forall_mem_cons.mpr ⟨ly_X3_marks, List.forall_mem_cons.mpr ⟨ly_X3_slip, fun _ h => absurd h List.not_mem_nil⟩⟩⟩⟩
theorem inX4 : ∀ w ∈ wsX40, w ∈ TT := by
  show ∀ w ∈ [u_lay RX4 TX4 0, u_lay RX4 TX4 1, u_lay RX4 TX4 2], w ∈ TT
  exact List.forall_mem_cons.mpr ⟨ly_X4_numbers, List.forall_mem_cons.mpr ⟨ly_X4_bits, List.forall_mem_cons.mpr ⟨ly_X4_size, fun _ h => absurd h List.not_mem_nil⟩⟩⟩
theorem inX5 : ∀ w ∈ wsX50, w ∈ TT := by
  show ∀ w ∈ [u_lay RX5 TX5 0, u_lay RX5 TX5 1], w ∈ TT
  exact List.forall_mem_cons.mpr ⟨ly_X5_bits, List.forall_mem_cons.mpr ⟨ly_X5_packed, fun _ h => absurd h List.not_mem_nil⟩⟩
theorem inX6 : ∀ w ∈ wsX60, w ∈ TT := by
  show ∀ w ∈ [u_lay RX6 TX6 0, u_lay RX6 TX6 1, u_lay RX6 TX6 2, u_lay RX6 TX6 3, u_lay RX6 TX6 4, u_lay RX6 TX6 5, u_lay RX6 TX6 6, u_lay RX6 TX6 7, u_lay RX6 TX6 8, u_lay RX6 TX6 9, u_lay RX6 TX6 10, u_lay RX6 TX6 11], w ∈ TT
  exact List.forall_mem_cons.mpr ⟨ly_X6_kinds, List.forall_mem_cons.mpr ⟨ly_X6_manys, List.forall_mem_cons.mpr ⟨ly_X6_boughtPlaces, List.forall_mem_cons.mpr ⟨ly_X6_boughtTimes, List.forall_mem_cons.mpr ⟨ly_X6_code, List.forall_mem_cons.mpr ⟨ly_X6_rule, List.forall_mem_cons.mpr ⟨ly_X6_cells, List.forall_mem_cons.mpr ⟨ly_X6_groups, List.forall_mem_cons.mpr ⟨ly_X6_boughtRows, List.forall_mem_cons.mpr ⟨ly_X6_codeSize, List.forall_mem_cons.mpr ⟨ly_X6_weekCount, List.forall_mem_cons.mpr ⟨ly_X6_z, fun _ h => absurd h List.not_mem_nil⟩⟩⟩⟩⟩⟩⟩⟩⟩⟩⟩⟩
theorem inX7 : ∀ w ∈ wsX70, w ∈ TT := by
  show ∀ w ∈ [u_lay RX7 TX7 0, u_lay RX7 TX7 1, u_lay RX7 TX7 2, u_lay RX7 TX7 3, u_lay RX7 TX7 4, u_lay RX7 TX7 5], w ∈ TT
  exact List.forall_mem_cons.mpr ⟨ly_X7_state, List.forall_mem_cons.mpr ⟨ly_X7_slip, List.forall_mem_cons.mpr ⟨ly_X7_crowd, List.forall_mem_cons.mpr ⟨ly_X7_overlaps, List.forall_mem_cons.mpr ⟨ly_X7_sums, List.forall_mem_cons.mpr ⟨ly_X7_taken, fun _ h => absurd h List.not_mem_nil⟩⟩⟩⟩⟩⟩
theorem inX8 : ∀ w ∈ wsX80, w ∈ TT := by
  show ∀ w ∈ [u_lay RX8 TX8 0, u_lay RX8 TX8 1, u_lay RX8 TX8 2, u_lay RX8 TX8 3, u_lay RX8 TX8 4, u_lay RX8 TX8 5, u_lay RX8 TX8 6, u_lay RX8 TX8 7, u_lay RX8 TX8 8, u_lay RX8 TX8 9, u_lay RX8 TX8 10], w ∈ TT
  exact List.forall_mem_cons.mpr ⟨ly_X8_state, List.forall_mem_cons.mpr ⟨ly_X8_kept, List.forall_mem_cons.mpr ⟨ly_X8_slip, List.forall_mem_cons.mpr ⟨ly_X8_crowd, List.forall_mem_cons.mpr ⟨ly_X8_worths, List.forall_mem_cons.mpr ⟨ly_X8_reader, List.forall_mem_cons.mpr ⟨ly_X8_tape, List.forall_mem_cons.mpr ⟨ly_X8_sheets, List.forall_mem_cons.mpr ⟨ly_X8_findings, List.forall_mem_cons.mpr ⟨ly_X8_tapeSize, List.forall_mem_cons.mpr ⟨ly_X8_keeps, fun _ h => absurd h List.not_mem_nil⟩⟩⟩⟩⟩⟩⟩⟩⟩⟩⟩
theorem inX9 : ∀ w ∈ wsX90, w ∈ TT := by
  show ∀ w ∈ [u_lay RX9 TX9 0, u_lay RX9 TX9 1, u_lay RX9 TX9 2, u_lay RX9 TX9 3, u_lay RX9 TX9 4, u_lay RX9 TX9 5, u_lay RX9 TX9 6, u_lay RX9 TX9 7, u_lay RX9 TX9 8, u_lay RX9 TX9 9, u_lay RX9 TX9 10, u_lay RX9 TX9 11, u_lay RX9 TX9 12, u_lay RX9 TX9 13, u_lay RX9 TX9 14, u_lay RX9 TX9 15, u_lay RX9 TX9 16, u_lay RX9 TX9 17, u_lay RX9 TX9 18, u_lay RX9 TX9 19, u_lay RX9 TX9 20, u_lay RX9 TX9 21, u_lay RX9 TX9 22, u_lay RX9 TX9 23, u_lay RX9 TX9 24, u_lay RX9 TX9 25, u_lay RX9 TX9 26, u_lay RX9 TX9 27, u_lay RX9 TX9 28, u_lay RX9 TX9 29], w ∈ TT
  exact List.forall_mem_cons.mpr ⟨ly_X9_s, List.forall_mem_cons.mpr ⟨ly_X9_kept, List.forall_mem_cons.mpr ⟨ly_X9_isKept, List.forall_mem_cons.mpr ⟨ly_X9_findings, List.forall_mem_cons.mpr ⟨ly_X9_rowAt, List.forall_mem_cons.mpr ⟨ly_X9_placeAt, List.forall_mem_cons.mpr ⟨ly_X9_bitsIn, List.forall_mem_cons.mpr ⟨ly_X9_factOf, List.forall_mem_cons.mpr ⟨ly_X9_tape, List.forall_mem_cons.mpr ⟨ly_X9_taped, List.forall_mem_cons.mpr ⟨ly_X9_bitsOf, List.forall_mem_cons.mpr ⟨ly_X9_sizes, List.forall_mem_cons.mpr ⟨ly_X9_numbers, List.forall_mem_cons.mpr ⟨ly_X9_at, List.forall_mem_cons.mpr ⟨ly_X9_open, List.forall_mem_cons.mpr ⟨ly_X9_isBad, List.forall_mem_cons.mpr ⟨ly_X9_isTaped, List.forall_mem_cons.mpr ⟨ly_X9_placeRead, List.forall_mem_cons.mpr ⟨ly_X9_isNew, List.forall_mem_cons.mpr ⟨ly_X9_isSaidNew, List.forall_mem_cons.mpr ⟨ly_X9_isWinnerNew, List.forall_mem_cons.mpr ⟨ly_X9_liked, List.forall_mem_cons.mpr ⟨ly_X9_all, List.forall_mem_cons.mpr ⟨ly_X9_likesOf, List.forall_mem_cons.mpr ⟨ly_X9_allCrossed, List.forall_mem_cons.mpr ⟨ly_X9_winners, List.forall_mem_cons.mpr ⟨ly_X9_tried, List.forall_mem_cons.mpr ⟨ly_X9_isTaken, List.forall_mem_cons.mpr ⟨ly_X9_bought, List.forall_mem_cons.mpr ⟨ly_X9_own, fun _ h => absurd h List.not_mem_nil⟩⟩⟩⟩⟩⟩⟩⟩⟩⟩⟩⟩⟩⟩⟩⟩⟩⟩⟩⟩⟩⟩⟩⟩⟩⟩⟩⟩⟩⟩
