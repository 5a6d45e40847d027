/-- the good words of the tables -/
def zWS : List Cond := lw_tbl.filter goodWord
theorem zWS_of {w : Cond} (i : Nat) (h : lw_tbl[i]? = some w) (hg : goodWord w = true) : w ∈ zWS := List.mem_filter.mpr ⟨List.mem_of_getElem? h, hg⟩
theorem zWS_all {ws : List Cond} (ps : List Nat) (hp : ws = ps.filterMap (fun i => lw_tbl[i]?)) (h : ws.all goodWord = true) : ∀ w ∈ ws, w ∈ zWS := by
  intro w hw
  have h1 := List.all_eq_true.mp h w hw
  rw [hp] at hw
  obtain ⟨i, -, hi⟩ := List.mem_filterMap.mp hw
  exact zWS_of i hi h1
theorem in_L : Cond.initialized "SilenceHoursLaw" ∈ zWS := zWS_of 53 (by decide +kernel) rfl
theorem in_X4 : Cond.initialized "SilenceHours" ∈ zWS := zWS_of 54 (by decide +kernel) rfl
theorem in_X3 : Cond.initialized "SilenceHours$State" ∈ zWS := zWS_of 55 (by decide +kernel) rfl
theorem in_X0 : Cond.initialized "SilenceHours$History" ∈ zWS := zWS_of 56 (by decide +kernel) rfl
theorem in_X2 : Cond.initialized "SilenceHours$Plan" ∈ zWS := zWS_of 57 (by decide +kernel) rfl
theorem in_X1 : Cond.initialized "SilenceHours$Part" ∈ zWS := zWS_of 58 (by decide +kernel) rfl
theorem in_X5 : Cond.initialized "SilenceHoursModel" ∈ zWS := zWS_of 59 (by decide +kernel) rfl
theorem in_J10 : Cond.initialized "java/lang/System" ∈ zWS := zWS_of 60 (by decide +kernel) rfl
theorem in_J9 : Cond.initialized "java/lang/Math" ∈ zWS := zWS_of 61 (by decide +kernel) rfl
theorem in_J7 : Cond.initialized "java/util/Arrays" ∈ zWS := zWS_of 62 (by decide +kernel) rfl
theorem in_J6 : Cond.initialized "java/lang/Integer" ∈ zWS := zWS_of 63 (by decide +kernel) rfl
theorem cl_L_7 : Cond.classLink "SilenceHoursLaw" 7 "SilenceHours" ∈ zWS := zWS_of 64 (by decide +kernel) rfl
theorem it_X4 : Cond.instantiable "SilenceHours" 5 ∈ zWS := zWS_of 65 (by decide +kernel) rfl
theorem ml_L_9 : Cond.methodLink "SilenceHoursLaw" 9 yX4_init ∈ zWS := zWS_of 66 (by decide +kernel) rfl
theorem im_yX4_init : Cond.instanceMethod yX4_init ∈ zWS := zWS_of 67 (by decide +kernel) rfl
set_option maxRecDepth 100000 in
theorem co_yX4_init : Cond.code yX4_init prog_1_method_1_code 1 none ∈ zWS := zWS_of 68 rfl rfl
theorem ml_X4_3 : Cond.methodLink "SilenceHours" 3 objectInit ∈ zWS := zWS_of 69 (by decide +kernel) rfl
theorem im_objectInit : Cond.instanceMethod objectInit ∈ zWS := zWS_of 70 (by decide +kernel) rfl
set_option maxRecDepth 100000 in
theorem co_objectInit : Cond.code objectInit object_method_1_code 1 none ∈ zWS := zWS_of 71 rfl rfl
theorem cl_X4_9 : Cond.classLink "SilenceHours" 9 "SilenceHours$State" ∈ zWS := zWS_of 72 (by decide +kernel) rfl
theorem it_X3 : Cond.instantiable "SilenceHours$State" 19 ∈ zWS := zWS_of 73 (by decide +kernel) rfl
theorem im_yX3_init : Cond.instanceMethod yX3_init ∈ zWS := zWS_of 75 (by decide +kernel) rfl
set_option maxRecDepth 100000 in
theorem co_yX3_init : Cond.code yX3_init prog_5_method_1_code 1 none ∈ zWS := zWS_of 76 rfl rfl
theorem ml_X3_3 : Cond.methodLink "SilenceHours$State" 3 objectInit ∈ zWS := zWS_of 77 (by decide +kernel) rfl
theorem fl_X3_61 : Cond.fieldLink "SilenceHours$State" 61 "SilenceHours$State" "day" "I" ∈ zWS := zWS_of 78 (by decide +kernel) rfl
theorem fl_X4_87 : Cond.fieldLink "SilenceHours" 87 "SilenceHours$State" "day" "I" ∈ zWS := zWS_of 79 (by decide +kernel) rfl
theorem fl_X3_9 : Cond.fieldLink "SilenceHours$State" 9 "SilenceHours$State" "fine" "I" ∈ zWS := zWS_of 80 (by decide +kernel) rfl
theorem fl_X4_84 : Cond.fieldLink "SilenceHours" 84 "SilenceHours$State" "fine" "I" ∈ zWS := zWS_of 81 (by decide +kernel) rfl
theorem fl_X3_64 : Cond.fieldLink "SilenceHours$State" 64 "SilenceHours$State" "breaches" "I" ∈ zWS := zWS_of 82 (by decide +kernel) rfl
theorem fl_X4_169 : Cond.fieldLink "SilenceHours" 169 "SilenceHours$State" "breaches" "I" ∈ zWS := zWS_of 83 (by decide +kernel) rfl
theorem fl_X4_42 : Cond.fieldLink "SilenceHours" 42 "SilenceHours$State" "people" "I" ∈ zWS := zWS_of 84 (by decide +kernel) rfl
theorem fl_X3_67 : Cond.fieldLink "SilenceHours$State" 67 "SilenceHours$State" "people" "I" ∈ zWS := zWS_of 85 (by decide +kernel) rfl
theorem fl_X3_15 : Cond.fieldLink "SilenceHours$State" 15 "SilenceHours$State" "purses" "[I" ∈ zWS := zWS_of 86 (by decide +kernel) rfl
theorem fl_X4_50 : Cond.fieldLink "SilenceHours" 50 "SilenceHours$State" "purses" "[I" ∈ zWS := zWS_of 87 (by decide +kernel) rfl
theorem fl_X3_19 : Cond.fieldLink "SilenceHours$State" 19 "SilenceHours$State" "heldForBids" "[I" ∈ zWS := zWS_of 88 (by decide +kernel) rfl
theorem fl_X3_22 : Cond.fieldLink "SilenceHours$State" 22 "SilenceHours$State" "debts" "[I" ∈ zWS := zWS_of 89 (by decide +kernel) rfl
theorem fl_X4_176 : Cond.fieldLink "SilenceHours" 176 "SilenceHours$State" "debts" "[I" ∈ zWS := zWS_of 90 (by decide +kernel) rfl
theorem fl_X3_25 : Cond.fieldLink "SilenceHours$State" 25 "SilenceHours$State" "breachStreets" "[I" ∈ zWS := zWS_of 91 (by decide +kernel) rfl
theorem fl_X3_28 : Cond.fieldLink "SilenceHours$State" 28 "SilenceHours$State" "bidsWon" "[I" ∈ zWS := zWS_of 92 (by decide +kernel) rfl
theorem fl_X4_182 : Cond.fieldLink "SilenceHours" 182 "SilenceHours$State" "bidsWon" "[I" ∈ zWS := zWS_of 93 (by decide +kernel) rfl
theorem fl_X3_31 : Cond.fieldLink "SilenceHours$State" 31 "SilenceHours$State" "paidForWon" "[I" ∈ zWS := zWS_of 94 (by decide +kernel) rfl
theorem fl_X4_185 : Cond.fieldLink "SilenceHours" 185 "SilenceHours$State" "paidForWon" "[I" ∈ zWS := zWS_of 95 (by decide +kernel) rfl
theorem fl_X3_34 : Cond.fieldLink "SilenceHours$State" 34 "SilenceHours$State" "sharedOut" "[I" ∈ zWS := zWS_of 96 (by decide +kernel) rfl
theorem fl_X4_188 : Cond.fieldLink "SilenceHours" 188 "SilenceHours$State" "sharedOut" "[I" ∈ zWS := zWS_of 97 (by decide +kernel) rfl
theorem fl_X3_37 : Cond.fieldLink "SilenceHours$State" 37 "SilenceHours$State" "breachesBy" "[I" ∈ zWS := zWS_of 98 (by decide +kernel) rfl
theorem fl_X4_191 : Cond.fieldLink "SilenceHours" 191 "SilenceHours$State" "breachesBy" "[I" ∈ zWS := zWS_of 99 (by decide +kernel) rfl
theorem fl_X3_40 : Cond.fieldLink "SilenceHours$State" 40 "SilenceHours$State" "bids" "[I" ∈ zWS := zWS_of 100 (by decide +kernel) rfl
theorem fl_X3_43 : Cond.fieldLink "SilenceHours$State" 43 "SilenceHours$State" "owners" "[I" ∈ zWS := zWS_of 101 (by decide +kernel) rfl
theorem fl_X4_97 : Cond.fieldLink "SilenceHours" 97 "SilenceHours$State" "owners" "[I" ∈ zWS := zWS_of 102 (by decide +kernel) rfl
theorem fl_X3_46 : Cond.fieldLink "SilenceHours$State" 46 "SilenceHours$State" "carried" "[I" ∈ zWS := zWS_of 103 (by decide +kernel) rfl
theorem fl_X4_197 : Cond.fieldLink "SilenceHours" 197 "SilenceHours$State" "carried" "[I" ∈ zWS := zWS_of 104 (by decide +kernel) rfl
theorem fl_X3_49 : Cond.fieldLink "SilenceHours$State" 49 "SilenceHours$State" "tieSides" "[I" ∈ zWS := zWS_of 105 (by decide +kernel) rfl
theorem fl_X3_52 : Cond.fieldLink "SilenceHours$State" 52 "SilenceHours$State" "quietWinners" "[I" ∈ zWS := zWS_of 106 (by decide +kernel) rfl
theorem fl_X3_55 : Cond.fieldLink "SilenceHours$State" 55 "SilenceHours$State" "lastPaid" "[I" ∈ zWS := zWS_of 107 (by decide +kernel) rfl
theorem fl_X4_203 : Cond.fieldLink "SilenceHours" 203 "SilenceHours$State" "lastPaid" "[I" ∈ zWS := zWS_of 108 (by decide +kernel) rfl
theorem fl_X3_58 : Cond.fieldLink "SilenceHours$State" 58 "SilenceHours$State" "funds" "[I" ∈ zWS := zWS_of 109 (by decide +kernel) rfl
theorem fl_X4_212 : Cond.fieldLink "SilenceHours" 212 "SilenceHours$State" "funds" "[I" ∈ zWS := zWS_of 110 (by decide +kernel) rfl
theorem ac_int : Cond.arrayClass FieldType.int ∈ zWS := zWS_of 150 (by decide +kernel) rfl
theorem cl_X4_19 : Cond.classLink "SilenceHours" 19 "SilenceHours$History" ∈ zWS := zWS_of 151 (by decide +kernel) rfl
theorem it_X0 : Cond.instantiable "SilenceHours$History" 3 ∈ zWS := zWS_of 152 (by decide +kernel) rfl
theorem ml_X4_21 : Cond.methodLink "SilenceHours" 21 yX0_init ∈ zWS := zWS_of 153 (by decide +kernel) rfl
theorem im_yX0_init : Cond.instanceMethod yX0_init ∈ zWS := zWS_of 154 (by decide +kernel) rfl
set_option maxRecDepth 100000 in
theorem co_yX0_init : Cond.code yX0_init prog_2_method_1_code 2 none ∈ zWS := zWS_of 155 rfl rfl
theorem ml_X0_3 : Cond.methodLink "SilenceHours$History" 3 objectInit ∈ zWS := zWS_of 156 (by decide +kernel) rfl
theorem cl_X0_9 : Cond.classLink "SilenceHours$History" 9 "SilenceHours$State" ∈ zWS := zWS_of 157 (by decide +kernel) rfl
theorem fl_X0_11 : Cond.fieldLink "SilenceHours$History" 11 "SilenceHours$History" "rows" "[LSilenceHours$State;" ∈ zWS := zWS_of 160 (by decide +kernel) rfl
theorem fl_X0_18 : Cond.fieldLink "SilenceHours$History" 18 "SilenceHours$History" "oldest" "I" ∈ zWS := zWS_of 161 (by decide +kernel) rfl
theorem fl_X0_22 : Cond.fieldLink "SilenceHours$History" 22 "SilenceHours$History" "size" "I" ∈ zWS := zWS_of 162 (by decide +kernel) rfl
theorem fl_X4_103 : Cond.fieldLink "SilenceHours" 103 "SilenceHours$History" "size" "I" ∈ zWS := zWS_of 163 (by decide +kernel) rfl
theorem cl_X4_26 : Cond.classLink "SilenceHours" 26 "SilenceHours$Plan" ∈ zWS := zWS_of 171 (by decide +kernel) rfl
theorem it_X2 : Cond.instantiable "SilenceHours$Plan" 8 ∈ zWS := zWS_of 172 (by decide +kernel) rfl
theorem ml_X4_28 : Cond.methodLink "SilenceHours" 28 yX2_init ∈ zWS := zWS_of 173 (by decide +kernel) rfl
theorem im_yX2_init : Cond.instanceMethod yX2_init ∈ zWS := zWS_of 174 (by decide +kernel) rfl
set_option maxRecDepth 100000 in
theorem co_yX2_init : Cond.code yX2_init prog_4_method_1_code 2 none ∈ zWS := zWS_of 175 rfl rfl
theorem ml_X2_3 : Cond.methodLink "SilenceHours$Plan" 3 objectInit ∈ zWS := zWS_of 176 (by decide +kernel) rfl
theorem cl_X2_15 : Cond.classLink "SilenceHours$Plan" 15 "SilenceHours$Part" ∈ zWS := zWS_of 177 (by decide +kernel) rfl
theorem it_X1 : Cond.instantiable "SilenceHours$Part" 7 ∈ zWS := zWS_of 179 (by decide +kernel) rfl
theorem im_yX1_init : Cond.instanceMethod yX1_init ∈ zWS := zWS_of 181 (by decide +kernel) rfl
set_option maxRecDepth 100000 in
theorem co_yX1_init : Cond.code yX1_init prog_3_method_1_code 1 none ∈ zWS := zWS_of 182 rfl rfl
theorem ml_X1_1 : Cond.methodLink "SilenceHours$Part" 1 objectInit ∈ zWS := zWS_of 183 (by decide +kernel) rfl
theorem fl_X2_84 : Cond.fieldLink "SilenceHours$Plan" 84 "SilenceHours$Part" "place" "I" ∈ zWS := zWS_of 184 (by decide +kernel) rfl
theorem fl_X4_153 : Cond.fieldLink "SilenceHours" 153 "SilenceHours$Part" "place" "I" ∈ zWS := zWS_of 185 (by decide +kernel) rfl
theorem fl_X2_87 : Cond.fieldLink "SilenceHours$Plan" 87 "SilenceHours$Part" "depth" "I" ∈ zWS := zWS_of 186 (by decide +kernel) rfl
theorem fl_X4_156 : Cond.fieldLink "SilenceHours" 156 "SilenceHours$Part" "depth" "I" ∈ zWS := zWS_of 187 (by decide +kernel) rfl
theorem fl_X2_88 : Cond.fieldLink "SilenceHours$Plan" 88 "SilenceHours$Part" "side" "I" ∈ zWS := zWS_of 188 (by decide +kernel) rfl
theorem fl_X4_157 : Cond.fieldLink "SilenceHours" 157 "SilenceHours$Part" "side" "I" ∈ zWS := zWS_of 189 (by decide +kernel) rfl
theorem fl_X2_91 : Cond.fieldLink "SilenceHours$Plan" 91 "SilenceHours$Part" "street" "I" ∈ zWS := zWS_of 190 (by decide +kernel) rfl
theorem fl_X4_147 : Cond.fieldLink "SilenceHours" 147 "SilenceHours$Part" "street" "I" ∈ zWS := zWS_of 191 (by decide +kernel) rfl
theorem fl_X2_94 : Cond.fieldLink "SilenceHours$Plan" 94 "SilenceHours$Part" "firstHour" "I" ∈ zWS := zWS_of 192 (by decide +kernel) rfl
theorem fl_X4_139 : Cond.fieldLink "SilenceHours" 139 "SilenceHours$Part" "firstHour" "I" ∈ zWS := zWS_of 193 (by decide +kernel) rfl
theorem fl_X2_97 : Cond.fieldLink "SilenceHours$Plan" 97 "SilenceHours$Part" "lastHour" "I" ∈ zWS := zWS_of 194 (by decide +kernel) rfl
theorem fl_X4_144 : Cond.fieldLink "SilenceHours" 144 "SilenceHours$Part" "lastHour" "I" ∈ zWS := zWS_of 195 (by decide +kernel) rfl
theorem fl_X2_100 : Cond.fieldLink "SilenceHours$Plan" 100 "SilenceHours$Part" "amount" "I" ∈ zWS := zWS_of 196 (by decide +kernel) rfl
theorem fl_X4_150 : Cond.fieldLink "SilenceHours" 150 "SilenceHours$Part" "amount" "I" ∈ zWS := zWS_of 197 (by decide +kernel) rfl
theorem fl_X2_9 : Cond.fieldLink "SilenceHours$Plan" 9 "SilenceHours$Plan" "text" "[I" ∈ zWS := zWS_of 213 (by decide +kernel) rfl
theorem fl_X4_112 : Cond.fieldLink "SilenceHours" 112 "SilenceHours$Plan" "text" "[I" ∈ zWS := zWS_of 214 (by decide +kernel) rfl
theorem fl_X2_38 : Cond.fieldLink "SilenceHours$Plan" 38 "SilenceHours$Plan" "length" "I" ∈ zWS := zWS_of 215 (by decide +kernel) rfl
theorem fl_X4_109 : Cond.fieldLink "SilenceHours" 109 "SilenceHours$Plan" "length" "I" ∈ zWS := zWS_of 216 (by decide +kernel) rfl
theorem fl_X2_17 : Cond.fieldLink "SilenceHours$Plan" 17 "SilenceHours$Plan" "parts" "[LSilenceHours$Part;" ∈ zWS := zWS_of 217 (by decide +kernel) rfl
theorem fl_X4_135 : Cond.fieldLink "SilenceHours" 135 "SilenceHours$Plan" "parts" "[LSilenceHours$Part;" ∈ zWS := zWS_of 218 (by decide +kernel) rfl
theorem fl_X2_35 : Cond.fieldLink "SilenceHours$Plan" 35 "SilenceHours$Plan" "partCount" "I" ∈ zWS := zWS_of 219 (by decide +kernel) rfl
theorem fl_X4_132 : Cond.fieldLink "SilenceHours" 132 "SilenceHours$Plan" "partCount" "I" ∈ zWS := zWS_of 220 (by decide +kernel) rfl
theorem fl_X2_21 : Cond.fieldLink "SilenceHours$Plan" 21 "SilenceHours$Plan" "failedAt" "I" ∈ zWS := zWS_of 221 (by decide +kernel) rfl
theorem fl_X4_119 : Cond.fieldLink "SilenceHours" 119 "SilenceHours$Plan" "failedAt" "I" ∈ zWS := zWS_of 222 (by decide +kernel) rfl
theorem fl_X2_32 : Cond.fieldLink "SilenceHours$Plan" 32 "SilenceHours$Plan" "depth" "I" ∈ zWS := zWS_of 223 (by decide +kernel) rfl
theorem fl_X4_122 : Cond.fieldLink "SilenceHours" 122 "SilenceHours$Plan" "depth" "I" ∈ zWS := zWS_of 224 (by decide +kernel) rfl
theorem fl_X2_29 : Cond.fieldLink "SilenceHours$Plan" 29 "SilenceHours$Plan" "position" "I" ∈ zWS := zWS_of 225 (by decide +kernel) rfl
theorem fl_X2_25 : Cond.fieldLink "SilenceHours$Plan" 25 "SilenceHours$Plan" "factors" "[I" ∈ zWS := zWS_of 226 (by decide +kernel) rfl
theorem fl_X4_12 : Cond.fieldLink "SilenceHours" 12 "SilenceHours" "state" "LSilenceHours$State;" ∈ zWS := zWS_of 244 (by decide +kernel) rfl
theorem fl_X4_16 : Cond.fieldLink "SilenceHours" 16 "SilenceHours" "spare" "LSilenceHours$State;" ∈ zWS := zWS_of 245 (by decide +kernel) rfl
theorem fl_X4_22 : Cond.fieldLink "SilenceHours" 22 "SilenceHours" "history" "LSilenceHours$History;" ∈ zWS := zWS_of 246 (by decide +kernel) rfl
theorem fl_X4_29 : Cond.fieldLink "SilenceHours" 29 "SilenceHours" "plan" "LSilenceHours$Plan;" ∈ zWS := zWS_of 247 (by decide +kernel) rfl
theorem fl_X4_33 : Cond.fieldLink "SilenceHours" 33 "SilenceHours" "failureParts" "[I" ∈ zWS := zWS_of 248 (by decide +kernel) rfl
theorem ml_L_13 : Cond.methodLink "SilenceHoursLaw" 13 yX4_join ∈ zWS := zWS_of 260 (by decide +kernel) rfl
theorem im_yX4_join : Cond.instanceMethod yX4_join ∈ zWS := zWS_of 261 (by decide +kernel) rfl
theorem se_yX4_join : Cond.selects "SilenceHours" yX4_join yX4_join ∈ zWS := zWS_of 262 (by decide +kernel) rfl
set_option maxRecDepth 100000 in
theorem co_yX4_join : Cond.code yX4_join prog_1_method_2_code 2 (Option.some FieldType.int) ∈ zWS := zWS_of 263 rfl rfl
theorem cs_X4_37 : Cond.constant "SilenceHours" 37 (100000) ∈ zWS := zWS_of 264 (by decide +kernel) rfl
theorem ml_X4_38 : Cond.methodLink "SilenceHours" 38 yX4_isWithin ∈ zWS := zWS_of 265 (by decide +kernel) rfl
theorem st_yX4_isWithin : Cond.static yX4_isWithin ∈ zWS := zWS_of 266 (by decide +kernel) rfl
set_option maxRecDepth 100000 in
theorem co_yX4_isWithin : Cond.code yX4_isWithin prog_1_method_27_code 3 (Option.some FieldType.boolean) ∈ zWS := zWS_of 267 rfl rfl
theorem ml_X4_46 : Cond.methodLink "SilenceHours" 46 yX0_record ∈ zWS := zWS_of 268 (by decide +kernel) rfl
theorem im_yX0_record : Cond.instanceMethod yX0_record ∈ zWS := zWS_of 269 (by decide +kernel) rfl
theorem se_yX0_record : Cond.selects "SilenceHours$History" yX0_record yX0_record ∈ zWS := zWS_of 270 (by decide +kernel) rfl
set_option maxRecDepth 100000 in
theorem co_yX0_record : Cond.code yX0_record prog_2_method_2_code 2 none ∈ zWS := zWS_of 271 rfl rfl
theorem ml_X0_25 : Cond.methodLink "SilenceHours$History" 25 yX3_copyFrom ∈ zWS := zWS_of 272 (by decide +kernel) rfl
theorem im_yX3_copyFrom : Cond.instanceMethod yX3_copyFrom ∈ zWS := zWS_of 273 (by decide +kernel) rfl
theorem se_yX3_copyFrom : Cond.selects "SilenceHours$State" yX3_copyFrom yX3_copyFrom ∈ zWS := zWS_of 274 (by decide +kernel) rfl
set_option maxRecDepth 100000 in
theorem co_yX3_copyFrom : Cond.code yX3_copyFrom prog_5_method_2_code 2 none ∈ zWS := zWS_of 275 rfl rfl
theorem ml_X3_70 : Cond.methodLink "SilenceHours$State" 70 arraycopyName ∈ zWS := zWS_of 276 (by decide +kernel) rfl
theorem st_arraycopyName : Cond.static arraycopyName ∈ zWS := zWS_of 277 (by decide +kernel) rfl
theorem na_arraycopyName : Cond.native arraycopyName ∈ zWS := zWS_of 278 (by decide +kernel) rfl
theorem ml_L_18 : Cond.methodLink "SilenceHoursLaw" 18 yX4_pay ∈ zWS := zWS_of 279 (by decide +kernel) rfl
theorem im_yX4_pay : Cond.instanceMethod yX4_pay ∈ zWS := zWS_of 280 (by decide +kernel) rfl
theorem se_yX4_pay : Cond.selects "SilenceHours" yX4_pay yX4_pay ∈ zWS := zWS_of 281 (by decide +kernel) rfl
set_option maxRecDepth 100000 in
theorem co_yX4_pay : Cond.code yX4_pay prog_1_method_3_code 3 (Option.some FieldType.int) ∈ zWS := zWS_of 282 rfl rfl
theorem ml_X4_53 : Cond.methodLink "SilenceHours" 53 yX4_isPerson ∈ zWS := zWS_of 283 (by decide +kernel) rfl
theorem im_yX4_isPerson : Cond.instanceMethod yX4_isPerson ∈ zWS := zWS_of 285 (by decide +kernel) rfl
set_option maxRecDepth 100000 in
theorem co_yX4_isPerson : Cond.code yX4_isPerson prog_1_method_23_code 2 (Option.some FieldType.boolean) ∈ zWS := zWS_of 286 rfl rfl
theorem cs_X4_57 : Cond.constant "SilenceHours" 57 (-100000) ∈ zWS := zWS_of 287 (by decide +kernel) rfl
theorem ml_X4_58 : Cond.methodLink "SilenceHours" 58 yX3_canBePaid ∈ zWS := zWS_of 288 (by decide +kernel) rfl
theorem im_yX3_canBePaid : Cond.instanceMethod yX3_canBePaid ∈ zWS := zWS_of 289 (by decide +kernel) rfl
theorem se_yX3_canBePaid : Cond.selects "SilenceHours$State" yX3_canBePaid yX3_canBePaid ∈ zWS := zWS_of 290 (by decide +kernel) rfl
set_option maxRecDepth 100000 in
theorem co_yX3_canBePaid : Cond.code yX3_canBePaid prog_5_method_13_code 4 (Option.some FieldType.boolean) ∈ zWS := zWS_of 291 rfl rfl
theorem ml_X3_84 : Cond.methodLink "SilenceHours$State" 84 yX3_freeMoney ∈ zWS := zWS_of 292 (by decide +kernel) rfl
theorem im_yX3_freeMoney : Cond.instanceMethod yX3_freeMoney ∈ zWS := zWS_of 293 (by decide +kernel) rfl
theorem se_yX3_freeMoney : Cond.selects "SilenceHours$State" yX3_freeMoney yX3_freeMoney ∈ zWS := zWS_of 294 (by decide +kernel) rfl
set_option maxRecDepth 100000 in
theorem co_yX3_freeMoney : Cond.code yX3_freeMoney prog_5_method_6_code 2 (Option.some FieldType.int) ∈ zWS := zWS_of 295 rfl rfl
theorem ml_X3_95 : Cond.methodLink "SilenceHours$State" 95 Lib.Math.min.name ∈ zWS := zWS_of 296 (by decide +kernel) rfl
theorem st_Lib_Math_min_name : Cond.static Lib.Math.min.name ∈ zWS := zWS_of 297 (by decide +kernel) rfl
set_option maxRecDepth 100000 in
theorem co_Lib_Math_min_name : Cond.code Lib.Math.min.name prog_9_method_69_code 2 (Option.some FieldType.int) ∈ zWS := zWS_of 298 rfl rfl
theorem cs_X3_100 : Cond.constant "SilenceHours$State" 100 (10000000) ∈ zWS := zWS_of 299 (by decide +kernel) rfl
theorem ml_X4_62 : Cond.methodLink "SilenceHours" 62 yX3_receive ∈ zWS := zWS_of 300 (by decide +kernel) rfl
theorem im_yX3_receive : Cond.instanceMethod yX3_receive ∈ zWS := zWS_of 301 (by decide +kernel) rfl
theorem se_yX3_receive : Cond.selects "SilenceHours$State" yX3_receive yX3_receive ∈ zWS := zWS_of 302 (by decide +kernel) rfl
set_option maxRecDepth 100000 in
theorem co_yX3_receive : Cond.code yX3_receive prog_5_method_12_code 4 none ∈ zWS := zWS_of 303 rfl rfl
theorem ml_L_23 : Cond.methodLink "SilenceHoursLaw" 23 yX4_bid ∈ zWS := zWS_of 304 (by decide +kernel) rfl
theorem im_yX4_bid : Cond.instanceMethod yX4_bid ∈ zWS := zWS_of 305 (by decide +kernel) rfl
theorem se_yX4_bid : Cond.selects "SilenceHours" yX4_bid yX4_bid ∈ zWS := zWS_of 306 (by decide +kernel) rfl
set_option maxRecDepth 100000 in
theorem co_yX4_bid : Cond.code yX4_bid prog_1_method_4_code 8 (Option.some FieldType.int) ∈ zWS := zWS_of 307 rfl rfl
theorem ml_X4_66 : Cond.methodLink "SilenceHours" 66 yX4_isSlot ∈ zWS := zWS_of 308 (by decide +kernel) rfl
theorem st_yX4_isSlot : Cond.static yX4_isSlot ∈ zWS := zWS_of 309 (by decide +kernel) rfl
set_option maxRecDepth 100000 in
theorem co_yX4_isSlot : Cond.code yX4_isSlot prog_1_method_25_code 2 (Option.some FieldType.boolean) ∈ zWS := zWS_of 310 rfl rfl
theorem ml_X4_209 : Cond.methodLink "SilenceHours" 209 yX4_isStreet ∈ zWS := zWS_of 311 (by decide +kernel) rfl
theorem st_yX4_isStreet : Cond.static yX4_isStreet ∈ zWS := zWS_of 312 (by decide +kernel) rfl
set_option maxRecDepth 100000 in
theorem co_yX4_isStreet : Cond.code yX4_isStreet prog_1_method_24_code 1 (Option.some FieldType.boolean) ∈ zWS := zWS_of 313 rfl rfl
theorem ml_X4_69 : Cond.methodLink "SilenceHours" 69 yX4_isSide ∈ zWS := zWS_of 314 (by decide +kernel) rfl
theorem st_yX4_isSide : Cond.static yX4_isSide ∈ zWS := zWS_of 315 (by decide +kernel) rfl
set_option maxRecDepth 100000 in
theorem co_yX4_isSide : Cond.code yX4_isSide prog_1_method_26_code 1 (Option.some FieldType.boolean) ∈ zWS := zWS_of 316 rfl rfl
theorem ml_X4_72 : Cond.methodLink "SilenceHours" 72 yX4_slotAt ∈ zWS := zWS_of 317 (by decide +kernel) rfl
theorem st_yX4_slotAt : Cond.static yX4_slotAt ∈ zWS := zWS_of 318 (by decide +kernel) rfl
set_option maxRecDepth 100000 in
theorem co_yX4_slotAt : Cond.code yX4_slotAt prog_1_method_28_code 2 (Option.some FieldType.int) ∈ zWS := zWS_of 319 rfl rfl
theorem ml_X4_76 : Cond.methodLink "SilenceHours" 76 yX3_bidError ∈ zWS := zWS_of 320 (by decide +kernel) rfl
theorem im_yX3_bidError : Cond.instanceMethod yX3_bidError ∈ zWS := zWS_of 321 (by decide +kernel) rfl
theorem se_yX3_bidError : Cond.selects "SilenceHours$State" yX3_bidError yX3_bidError ∈ zWS := zWS_of 322 (by decide +kernel) rfl
set_option maxRecDepth 100000 in
theorem co_yX3_bidError : Cond.code yX3_bidError prog_5_method_7_code 5 (Option.some FieldType.int) ∈ zWS := zWS_of 323 rfl rfl
theorem ml_X3_88 : Cond.methodLink "SilenceHours$State" 88 yX3_bidAmount ∈ zWS := zWS_of 325 (by decide +kernel) rfl
theorem im_yX3_bidAmount : Cond.instanceMethod yX3_bidAmount ∈ zWS := zWS_of 326 (by decide +kernel) rfl
theorem se_yX3_bidAmount : Cond.selects "SilenceHours$State" yX3_bidAmount yX3_bidAmount ∈ zWS := zWS_of 327 (by decide +kernel) rfl
set_option maxRecDepth 100000 in
theorem co_yX3_bidAmount : Cond.code yX3_bidAmount prog_5_method_5_code 3 (Option.some FieldType.int) ∈ zWS := zWS_of 328 rfl rfl
theorem ml_X3_76 : Cond.methodLink "SilenceHours$State" 76 yX3_bidFor ∈ zWS := zWS_of 329 (by decide +kernel) rfl
theorem im_yX3_bidFor : Cond.instanceMethod yX3_bidFor ∈ zWS := zWS_of 330 (by decide +kernel) rfl
theorem se_yX3_bidFor : Cond.selects "SilenceHours$State" yX3_bidFor yX3_bidFor ∈ zWS := zWS_of 331 (by decide +kernel) rfl
set_option maxRecDepth 100000 in
theorem co_yX3_bidFor : Cond.code yX3_bidFor prog_5_method_4_code 6 (Option.some FieldType.int) ∈ zWS := zWS_of 332 rfl rfl
theorem ml_X4_80 : Cond.methodLink "SilenceHours" 80 yX3_placeBid ∈ zWS := zWS_of 333 (by decide +kernel) rfl
theorem im_yX3_placeBid : Cond.instanceMethod yX3_placeBid ∈ zWS := zWS_of 334 (by decide +kernel) rfl
theorem se_yX3_placeBid : Cond.selects "SilenceHours$State" yX3_placeBid yX3_placeBid ∈ zWS := zWS_of 335 (by decide +kernel) rfl
set_option maxRecDepth 100000 in
theorem co_yX3_placeBid : Cond.code yX3_placeBid prog_5_method_8_code 6 (Option.some FieldType.int) ∈ zWS := zWS_of 336 rfl rfl
theorem ml_L_28 : Cond.methodLink "SilenceHoursLaw" 28 yX4_setFine ∈ zWS := zWS_of 337 (by decide +kernel) rfl
theorem im_yX4_setFine : Cond.instanceMethod yX4_setFine ∈ zWS := zWS_of 338 (by decide +kernel) rfl
theorem se_yX4_setFine : Cond.selects "SilenceHours" yX4_setFine yX4_setFine ∈ zWS := zWS_of 339 (by decide +kernel) rfl
set_option maxRecDepth 100000 in
theorem co_yX4_setFine : Cond.code yX4_setFine prog_1_method_5_code 3 (Option.some FieldType.int) ∈ zWS := zWS_of 340 rfl rfl
theorem ml_L_32 : Cond.methodLink "SilenceHoursLaw" 32 yX4_settle ∈ zWS := zWS_of 341 (by decide +kernel) rfl
theorem im_yX4_settle : Cond.instanceMethod yX4_settle ∈ zWS := zWS_of 342 (by decide +kernel) rfl
theorem se_yX4_settle : Cond.selects "SilenceHours" yX4_settle yX4_settle ∈ zWS := zWS_of 343 (by decide +kernel) rfl
set_option maxRecDepth 100000 in
theorem co_yX4_settle : Cond.code yX4_settle prog_1_method_6_code 1 (Option.some FieldType.int) ∈ zWS := zWS_of 344 rfl rfl
theorem ml_X4_90 : Cond.methodLink "SilenceHours" 90 yX3_settleDay ∈ zWS := zWS_of 345 (by decide +kernel) rfl
theorem im_yX3_settleDay : Cond.instanceMethod yX3_settleDay ∈ zWS := zWS_of 346 (by decide +kernel) rfl
theorem se_yX3_settleDay : Cond.selects "SilenceHours$State" yX3_settleDay yX3_settleDay ∈ zWS := zWS_of 347 (by decide +kernel) rfl
set_option maxRecDepth 100000 in
theorem co_yX3_settleDay : Cond.code yX3_settleDay prog_5_method_20_code 2 none ∈ zWS := zWS_of 348 rfl rfl
theorem ml_X3_107 : Cond.methodLink "SilenceHours$State" 107 yX3_bidsFor ∈ zWS := zWS_of 349 (by decide +kernel) rfl
theorem im_yX3_bidsFor : Cond.instanceMethod yX3_bidsFor ∈ zWS := zWS_of 350 (by decide +kernel) rfl
theorem se_yX3_bidsFor : Cond.selects "SilenceHours$State" yX3_bidsFor yX3_bidsFor ∈ zWS := zWS_of 351 (by decide +kernel) rfl
set_option maxRecDepth 100000 in
theorem co_yX3_bidsFor : Cond.code yX3_bidsFor prog_5_method_10_code 4 (Option.some FieldType.int) ∈ zWS := zWS_of 352 rfl rfl
theorem ml_X3_92 : Cond.methodLink "SilenceHours$State" 92 yX3_markedBid ∈ zWS := zWS_of 353 (by decide +kernel) rfl
theorem im_yX3_markedBid : Cond.instanceMethod yX3_markedBid ∈ zWS := zWS_of 354 (by decide +kernel) rfl
theorem se_yX3_markedBid : Cond.selects "SilenceHours$State" yX3_markedBid yX3_markedBid ∈ zWS := zWS_of 355 (by decide +kernel) rfl
set_option maxRecDepth 100000 in
theorem co_yX3_markedBid : Cond.code yX3_markedBid prog_5_method_3_code 3 (Option.some FieldType.int) ∈ zWS := zWS_of 356 rfl rfl
theorem ml_X3_122 : Cond.methodLink "SilenceHours$State" 122 yX3_settleBids ∈ zWS := zWS_of 357 (by decide +kernel) rfl
theorem im_yX3_settleBids : Cond.instanceMethod yX3_settleBids ∈ zWS := zWS_of 359 (by decide +kernel) rfl
set_option maxRecDepth 100000 in
theorem co_yX3_settleBids : Cond.code yX3_settleBids prog_5_method_21_code 6 none ∈ zWS := zWS_of 360 rfl rfl
theorem ml_X3_113 : Cond.methodLink "SilenceHours$State" 113 yX3_ownerThen ∈ zWS := zWS_of 361 (by decide +kernel) rfl
theorem im_yX3_ownerThen : Cond.instanceMethod yX3_ownerThen ∈ zWS := zWS_of 362 (by decide +kernel) rfl
theorem se_yX3_ownerThen : Cond.selects "SilenceHours$State" yX3_ownerThen yX3_ownerThen ∈ zWS := zWS_of 363 (by decide +kernel) rfl
set_option maxRecDepth 100000 in
theorem co_yX3_ownerThen : Cond.code yX3_ownerThen prog_5_method_18_code 4 (Option.some FieldType.int) ∈ zWS := zWS_of 364 rfl rfl
theorem ml_X3_110 : Cond.methodLink "SilenceHours$State" 110 yX3_strength ∈ zWS := zWS_of 365 (by decide +kernel) rfl
theorem im_yX3_strength : Cond.instanceMethod yX3_strength ∈ zWS := zWS_of 366 (by decide +kernel) rfl
theorem se_yX3_strength : Cond.selects "SilenceHours$State" yX3_strength yX3_strength ∈ zWS := zWS_of 367 (by decide +kernel) rfl
set_option maxRecDepth 100000 in
theorem co_yX3_strength : Cond.code yX3_strength prog_5_method_17_code 3 (Option.some FieldType.int) ∈ zWS := zWS_of 368 rfl rfl
theorem ml_X3_104 : Cond.methodLink "SilenceHours$State" 104 yX3_sumOfBids ∈ zWS := zWS_of 369 (by decide +kernel) rfl
theorem im_yX3_sumOfBids : Cond.instanceMethod yX3_sumOfBids ∈ zWS := zWS_of 370 (by decide +kernel) rfl
theorem se_yX3_sumOfBids : Cond.selects "SilenceHours$State" yX3_sumOfBids yX3_sumOfBids ∈ zWS := zWS_of 371 (by decide +kernel) rfl
set_option maxRecDepth 100000 in
theorem co_yX3_sumOfBids : Cond.code yX3_sumOfBids prog_5_method_11_code 5 (Option.some FieldType.int) ∈ zWS := zWS_of 372 rfl rfl
theorem ml_X3_132 : Cond.methodLink "SilenceHours$State" 132 yX3_collectFrom ∈ zWS := zWS_of 373 (by decide +kernel) rfl
theorem im_yX3_collectFrom : Cond.instanceMethod yX3_collectFrom ∈ zWS := zWS_of 375 (by decide +kernel) rfl
set_option maxRecDepth 100000 in
theorem co_yX3_collectFrom : Cond.code yX3_collectFrom prog_5_method_22_code 6 (Option.some FieldType.int) ∈ zWS := zWS_of 376 rfl rfl
theorem st_yX4_otherSide : Cond.static yX4_otherSide ∈ zWS := zWS_of 378 (by decide +kernel) rfl
set_option maxRecDepth 100000 in
theorem co_yX4_otherSide : Cond.code yX4_otherSide prog_1_method_29_code 1 (Option.some FieldType.int) ∈ zWS := zWS_of 379 rfl rfl
theorem ml_X3_135 : Cond.methodLink "SilenceHours$State" 135 yX3_shareOut ∈ zWS := zWS_of 380 (by decide +kernel) rfl
theorem im_yX3_shareOut : Cond.instanceMethod yX3_shareOut ∈ zWS := zWS_of 382 (by decide +kernel) rfl
set_option maxRecDepth 100000 in
theorem co_yX3_shareOut : Cond.code yX3_shareOut prog_5_method_23_code 8 (Option.some FieldType.int) ∈ zWS := zWS_of 383 rfl rfl
theorem ml_X3_141 : Cond.methodLink "SilenceHours$State" 141 yX3_receive ∈ zWS := zWS_of 384 (by decide +kernel) rfl
theorem ml_X3_138 : Cond.methodLink "SilenceHours$State" 138 yX3_biddersForQuiet ∈ zWS := zWS_of 385 (by decide +kernel) rfl
theorem im_yX3_biddersForQuiet : Cond.instanceMethod yX3_biddersForQuiet ∈ zWS := zWS_of 387 (by decide +kernel) rfl
set_option maxRecDepth 100000 in
theorem co_yX3_biddersForQuiet : Cond.code yX3_biddersForQuiet prog_5_method_24_code 4 (Option.some FieldType.int) ∈ zWS := zWS_of 388 rfl rfl
theorem ml_X3_126 : Cond.methodLink "SilenceHours$State" 126 yJ7_fill_53178 ∈ zWS := zWS_of 389 (by decide +kernel) rfl
theorem st_yJ7_fill_53178 : Cond.static yJ7_fill_53178 ∈ zWS := zWS_of 390 (by decide +kernel) rfl
set_option maxRecDepth 100000 in
theorem co_yJ7_fill_53178 : Cond.code yJ7_fill_53178 prog_11_method_103_code 4 none ∈ zWS := zWS_of 391 rfl rfl
theorem ml_X4_93 : Cond.methodLink "SilenceHours" 93 yX3_noisySlots ∈ zWS := zWS_of 392 (by decide +kernel) rfl
theorem im_yX3_noisySlots : Cond.instanceMethod yX3_noisySlots ∈ zWS := zWS_of 393 (by decide +kernel) rfl
theorem se_yX3_noisySlots : Cond.selects "SilenceHours$State" yX3_noisySlots yX3_noisySlots ∈ zWS := zWS_of 394 (by decide +kernel) rfl
set_option maxRecDepth 100000 in
theorem co_yX3_noisySlots : Cond.code yX3_noisySlots prog_5_method_27_code 3 (Option.some FieldType.int) ∈ zWS := zWS_of 395 rfl rfl
theorem ml_X3_153 : Cond.methodLink "SilenceHours$State" 153 yX3_quietHours ∈ zWS := zWS_of 396 (by decide +kernel) rfl
theorem im_yX3_quietHours : Cond.instanceMethod yX3_quietHours ∈ zWS := zWS_of 397 (by decide +kernel) rfl
theorem se_yX3_quietHours : Cond.selects "SilenceHours$State" yX3_quietHours yX3_quietHours ∈ zWS := zWS_of 398 (by decide +kernel) rfl
set_option maxRecDepth 100000 in
theorem co_yX3_quietHours : Cond.code yX3_quietHours prog_5_method_28_code 4 (Option.some FieldType.int) ∈ zWS := zWS_of 399 rfl rfl
theorem ml_L_37 : Cond.methodLink "SilenceHoursLaw" 37 yX4_breach ∈ zWS := zWS_of 401 (by decide +kernel) rfl
theorem im_yX4_breach : Cond.instanceMethod yX4_breach ∈ zWS := zWS_of 402 (by decide +kernel) rfl
theorem se_yX4_breach : Cond.selects "SilenceHours" yX4_breach yX4_breach ∈ zWS := zWS_of 403 (by decide +kernel) rfl
set_option maxRecDepth 100000 in
theorem co_yX4_breach : Cond.code yX4_breach prog_1_method_7_code 5 (Option.some FieldType.int) ∈ zWS := zWS_of 404 rfl rfl
theorem ml_X4_100 : Cond.methodLink "SilenceHours" 100 yX3_noteBreach ∈ zWS := zWS_of 405 (by decide +kernel) rfl
theorem im_yX3_noteBreach : Cond.instanceMethod yX3_noteBreach ∈ zWS := zWS_of 406 (by decide +kernel) rfl
theorem se_yX3_noteBreach : Cond.selects "SilenceHours$State" yX3_noteBreach yX3_noteBreach ∈ zWS := zWS_of 407 (by decide +kernel) rfl
set_option maxRecDepth 100000 in
theorem co_yX3_noteBreach : Cond.code yX3_noteBreach prog_5_method_25_code 6 (Option.some FieldType.int) ∈ zWS := zWS_of 408 rfl rfl
theorem ml_X3_145 : Cond.methodLink "SilenceHours$State" 145 yX3_shareFine ∈ zWS := zWS_of 409 (by decide +kernel) rfl
theorem im_yX3_shareFine : Cond.instanceMethod yX3_shareFine ∈ zWS := zWS_of 411 (by decide +kernel) rfl
set_option maxRecDepth 100000 in
theorem co_yX3_shareFine : Cond.code yX3_shareFine prog_5_method_26_code 6 (Option.some FieldType.int) ∈ zWS := zWS_of 412 rfl rfl
theorem ml_X3_148 : Cond.methodLink "SilenceHours$State" 148 yJ6_bitCount_0f7a4 ∈ zWS := zWS_of 413 (by decide +kernel) rfl
theorem st_yJ6_bitCount_0f7a4 : Cond.static yJ6_bitCount_0f7a4 ∈ zWS := zWS_of 414 (by decide +kernel) rfl
set_option maxRecDepth 100000 in
theorem co_yJ6_bitCount_0f7a4 : Cond.code yJ6_bitCount_0f7a4 prog_8_method_49_code 1 (Option.some FieldType.int) ∈ zWS := zWS_of 415 rfl rfl
theorem cs_J6_265 : Cond.constant "java/lang/Integer" 265 (1431655765) ∈ zWS := zWS_of 416 (by decide +kernel) rfl
theorem cs_J6_266 : Cond.constant "java/lang/Integer" 266 (858993459) ∈ zWS := zWS_of 417 (by decide +kernel) rfl
theorem cs_J6_267 : Cond.constant "java/lang/Integer" 267 (252645135) ∈ zWS := zWS_of 418 (by decide +kernel) rfl
theorem ml_L_42 : Cond.methodLink "SilenceHoursLaw" 42 yX4_undo ∈ zWS := zWS_of 419 (by decide +kernel) rfl
theorem im_yX4_undo : Cond.instanceMethod yX4_undo ∈ zWS := zWS_of 420 (by decide +kernel) rfl
theorem se_yX4_undo : Cond.selects "SilenceHours" yX4_undo yX4_undo ∈ zWS := zWS_of 421 (by decide +kernel) rfl
set_option maxRecDepth 100000 in
theorem co_yX4_undo : Cond.code yX4_undo prog_1_method_8_code 1 (Option.some FieldType.int) ∈ zWS := zWS_of 422 rfl rfl
theorem ml_X4_106 : Cond.methodLink "SilenceHours" 106 yX0_restoreLatest ∈ zWS := zWS_of 423 (by decide +kernel) rfl
theorem im_yX0_restoreLatest : Cond.instanceMethod yX0_restoreLatest ∈ zWS := zWS_of 424 (by decide +kernel) rfl
theorem se_yX0_restoreLatest : Cond.selects "SilenceHours$History" yX0_restoreLatest yX0_restoreLatest ∈ zWS := zWS_of 425 (by decide +kernel) rfl
set_option maxRecDepth 100000 in
theorem co_yX0_restoreLatest : Cond.code yX0_restoreLatest prog_2_method_3_code 2 none ∈ zWS := zWS_of 426 rfl rfl
theorem ml_L_46 : Cond.methodLink "SilenceHoursLaw" 46 yX4_append ∈ zWS := zWS_of 427 (by decide +kernel) rfl
theorem im_yX4_append : Cond.instanceMethod yX4_append ∈ zWS := zWS_of 428 (by decide +kernel) rfl
theorem se_yX4_append : Cond.selects "SilenceHours" yX4_append yX4_append ∈ zWS := zWS_of 429 (by decide +kernel) rfl
set_option maxRecDepth 100000 in
theorem co_yX4_append : Cond.code yX4_append prog_1_method_9_code 2 (Option.some FieldType.int) ∈ zWS := zWS_of 430 rfl rfl
theorem ml_L_50 : Cond.methodLink "SilenceHoursLaw" 50 yX4_clearText ∈ zWS := zWS_of 431 (by decide +kernel) rfl
theorem im_yX4_clearText : Cond.instanceMethod yX4_clearText ∈ zWS := zWS_of 432 (by decide +kernel) rfl
theorem se_yX4_clearText : Cond.selects "SilenceHours" yX4_clearText yX4_clearText ∈ zWS := zWS_of 433 (by decide +kernel) rfl
set_option maxRecDepth 100000 in
theorem co_yX4_clearText : Cond.code yX4_clearText prog_1_method_10_code 2 (Option.some FieldType.int) ∈ zWS := zWS_of 434 rfl rfl
theorem ml_L_54 : Cond.methodLink "SilenceHoursLaw" 54 yX4_run ∈ zWS := zWS_of 435 (by decide +kernel) rfl
theorem im_yX4_run : Cond.instanceMethod yX4_run ∈ zWS := zWS_of 436 (by decide +kernel) rfl
theorem se_yX4_run : Cond.selects "SilenceHours" yX4_run yX4_run ∈ zWS := zWS_of 437 (by decide +kernel) rfl
set_option maxRecDepth 100000 in
theorem co_yX4_run : Cond.code yX4_run prog_1_method_11_code 8 (Option.some FieldType.int) ∈ zWS := zWS_of 438 rfl rfl
theorem ml_X4_115 : Cond.methodLink "SilenceHours" 115 yX2_readText ∈ zWS := zWS_of 439 (by decide +kernel) rfl
theorem im_yX2_readText : Cond.instanceMethod yX2_readText ∈ zWS := zWS_of 440 (by decide +kernel) rfl
theorem se_yX2_readText : Cond.selects "SilenceHours$Plan" yX2_readText yX2_readText ∈ zWS := zWS_of 441 (by decide +kernel) rfl
set_option maxRecDepth 100000 in
theorem co_yX2_readText : Cond.code yX2_readText prog_4_method_2_code 2 (Option.some FieldType.boolean) ∈ zWS := zWS_of 442 rfl rfl
theorem ml_X2_41 : Cond.methodLink "SilenceHours$Plan" 41 yX2_hasFailed ∈ zWS := zWS_of 443 (by decide +kernel) rfl
theorem im_yX2_hasFailed : Cond.instanceMethod yX2_hasFailed ∈ zWS := zWS_of 445 (by decide +kernel) rfl
set_option maxRecDepth 100000 in
theorem co_yX2_hasFailed : Cond.code yX2_hasFailed prog_4_method_15_code 1 (Option.some FieldType.boolean) ∈ zWS := zWS_of 446 rfl rfl
theorem ml_X2_45 : Cond.methodLink "SilenceHours$Plan" 45 yX2_readPiece ∈ zWS := zWS_of 447 (by decide +kernel) rfl
theorem im_yX2_readPiece : Cond.instanceMethod yX2_readPiece ∈ zWS := zWS_of 449 (by decide +kernel) rfl
set_option maxRecDepth 100000 in
theorem co_yX2_readPiece : Cond.code yX2_readPiece prog_4_method_3_code 2 none ∈ zWS := zWS_of 450 rfl rfl
theorem ml_X2_52 : Cond.methodLink "SilenceHours$Plan" 52 yX2_sign ∈ zWS := zWS_of 451 (by decide +kernel) rfl
theorem im_yX2_sign : Cond.instanceMethod yX2_sign ∈ zWS := zWS_of 453 (by decide +kernel) rfl
set_option maxRecDepth 100000 in
theorem co_yX2_sign : Cond.code yX2_sign prog_4_method_12_code 1 (Option.some FieldType.int) ∈ zWS := zWS_of 454 rfl rfl
theorem ml_X2_56 : Cond.methodLink "SilenceHours$Plan" 56 yX2_closeGroup ∈ zWS := zWS_of 455 (by decide +kernel) rfl
theorem im_yX2_closeGroup : Cond.instanceMethod yX2_closeGroup ∈ zWS := zWS_of 457 (by decide +kernel) rfl
set_option maxRecDepth 100000 in
theorem co_yX2_closeGroup : Cond.code yX2_closeGroup prog_4_method_5_code 1 none ∈ zWS := zWS_of 458 rfl rfl
theorem ml_X2_70 : Cond.methodLink "SilenceHours$Plan" 70 yX2_take ∈ zWS := zWS_of 459 (by decide +kernel) rfl
theorem im_yX2_take : Cond.instanceMethod yX2_take ∈ zWS := zWS_of 461 (by decide +kernel) rfl
set_option maxRecDepth 100000 in
theorem co_yX2_take : Cond.code yX2_take prog_4_method_9_code 2 none ∈ zWS := zWS_of 462 rfl rfl
theorem ml_X2_77 : Cond.methodLink "SilenceHours$Plan" 77 yX2_takeIf ∈ zWS := zWS_of 463 (by decide +kernel) rfl
theorem im_yX2_takeIf : Cond.instanceMethod yX2_takeIf ∈ zWS := zWS_of 465 (by decide +kernel) rfl
set_option maxRecDepth 100000 in
theorem co_yX2_takeIf : Cond.code yX2_takeIf prog_4_method_10_code 3 (Option.some FieldType.boolean) ∈ zWS := zWS_of 466 rfl rfl
theorem ml_X2_48 : Cond.methodLink "SilenceHours$Plan" 48 yX2_failAt ∈ zWS := zWS_of 467 (by decide +kernel) rfl
theorem im_yX2_failAt : Cond.instanceMethod yX2_failAt ∈ zWS := zWS_of 469 (by decide +kernel) rfl
set_option maxRecDepth 100000 in
theorem co_yX2_failAt : Cond.code yX2_failAt prog_4_method_14_code 2 none ∈ zWS := zWS_of 470 rfl rfl
theorem ml_X2_59 : Cond.methodLink "SilenceHours$Plan" 59 yX2_openGroup ∈ zWS := zWS_of 471 (by decide +kernel) rfl
theorem im_yX2_openGroup : Cond.instanceMethod yX2_openGroup ∈ zWS := zWS_of 473 (by decide +kernel) rfl
set_option maxRecDepth 100000 in
theorem co_yX2_openGroup : Cond.code yX2_openGroup prog_4_method_4_code 2 none ∈ zWS := zWS_of 474 rfl rfl
theorem ml_X2_62 : Cond.methodLink "SilenceHours$Plan" 62 yX2_isDigit ∈ zWS := zWS_of 475 (by decide +kernel) rfl
theorem st_yX2_isDigit : Cond.static yX2_isDigit ∈ zWS := zWS_of 476 (by decide +kernel) rfl
set_option maxRecDepth 100000 in
theorem co_yX2_isDigit : Cond.code yX2_isDigit prog_4_method_13_code 1 (Option.some FieldType.boolean) ∈ zWS := zWS_of 477 rfl rfl
theorem ml_X2_66 : Cond.methodLink "SilenceHours$Plan" 66 yX2_takeNumber ∈ zWS := zWS_of 479 (by decide +kernel) rfl
theorem im_yX2_takeNumber : Cond.instanceMethod yX2_takeNumber ∈ zWS := zWS_of 481 (by decide +kernel) rfl
set_option maxRecDepth 100000 in
theorem co_yX2_takeNumber : Cond.code yX2_takeNumber prog_4_method_8_code 8 (Option.some FieldType.int) ∈ zWS := zWS_of 482 rfl rfl
theorem ml_X2_106 : Cond.methodLink "SilenceHours$Plan" 106 yX2_skip ∈ zWS := zWS_of 483 (by decide +kernel) rfl
theorem im_yX2_skip : Cond.instanceMethod yX2_skip ∈ zWS := zWS_of 485 (by decide +kernel) rfl
set_option maxRecDepth 100000 in
theorem co_yX2_skip : Cond.code yX2_skip prog_4_method_11_code 1 none ∈ zWS := zWS_of 486 rfl rfl
theorem ml_X2_74 : Cond.methodLink "SilenceHours$Plan" 74 yX2_readBids ∈ zWS := zWS_of 487 (by decide +kernel) rfl
theorem im_yX2_readBids : Cond.instanceMethod yX2_readBids ∈ zWS := zWS_of 489 (by decide +kernel) rfl
set_option maxRecDepth 100000 in
theorem co_yX2_readBids : Cond.code yX2_readBids prog_4_method_6_code 8 none ∈ zWS := zWS_of 490 rfl rfl
theorem ml_X2_81 : Cond.methodLink "SilenceHours$Plan" 81 yX2_takeStreet ∈ zWS := zWS_of 491 (by decide +kernel) rfl
theorem im_yX2_takeStreet : Cond.instanceMethod yX2_takeStreet ∈ zWS := zWS_of 493 (by decide +kernel) rfl
set_option maxRecDepth 100000 in
theorem co_yX2_takeStreet : Cond.code yX2_takeStreet prog_4_method_7_code 2 (Option.some FieldType.int) ∈ zWS := zWS_of 494 rfl rfl
theorem ml_X4_125 : Cond.methodLink "SilenceHours" 125 yX4_failPlan ∈ zWS := zWS_of 496 (by decide +kernel) rfl
theorem im_yX4_failPlan : Cond.instanceMethod yX4_failPlan ∈ zWS := zWS_of 498 (by decide +kernel) rfl
set_option maxRecDepth 100000 in
theorem co_yX4_failPlan : Cond.code yX4_failPlan prog_1_method_22_code 6 (Option.some FieldType.int) ∈ zWS := zWS_of 499 rfl rfl
theorem ml_X4_129 : Cond.methodLink "SilenceHours" 129 yX3_copyFrom ∈ zWS := zWS_of 500 (by decide +kernel) rfl
theorem ml_L_58 : Cond.methodLink "SilenceHoursLaw" 58 yX4_failure ∈ zWS := zWS_of 501 (by decide +kernel) rfl
theorem im_yX4_failure : Cond.instanceMethod yX4_failure ∈ zWS := zWS_of 502 (by decide +kernel) rfl
theorem se_yX4_failure : Cond.selects "SilenceHours" yX4_failure yX4_failure ∈ zWS := zWS_of 503 (by decide +kernel) rfl
set_option maxRecDepth 100000 in
theorem co_yX4_failure : Cond.code yX4_failure prog_1_method_12_code 3 (Option.some FieldType.int) ∈ zWS := zWS_of 504 rfl rfl
theorem ml_L_62 : Cond.methodLink "SilenceHoursLaw" 62 yX4_count ∈ zWS := zWS_of 505 (by decide +kernel) rfl
theorem im_yX4_count : Cond.instanceMethod yX4_count ∈ zWS := zWS_of 506 (by decide +kernel) rfl
theorem se_yX4_count : Cond.selects "SilenceHours" yX4_count yX4_count ∈ zWS := zWS_of 507 (by decide +kernel) rfl
set_option maxRecDepth 100000 in
theorem co_yX4_count : Cond.code yX4_count prog_1_method_13_code 2 (Option.some FieldType.int) ∈ zWS := zWS_of 508 rfl rfl
theorem ml_X4_160 : Cond.methodLink "SilenceHours" 160 yX3_allBids ∈ zWS := zWS_of 509 (by decide +kernel) rfl
theorem im_yX3_allBids : Cond.instanceMethod yX3_allBids ∈ zWS := zWS_of 510 (by decide +kernel) rfl
theorem se_yX3_allBids : Cond.selects "SilenceHours$State" yX3_allBids yX3_allBids ∈ zWS := zWS_of 511 (by decide +kernel) rfl
set_option maxRecDepth 100000 in
theorem co_yX3_allBids : Cond.code yX3_allBids prog_5_method_16_code 3 (Option.some FieldType.int) ∈ zWS := zWS_of 512 rfl rfl
theorem ml_X3_101 : Cond.methodLink "SilenceHours$State" 101 yX3_bidsBy ∈ zWS := zWS_of 513 (by decide +kernel) rfl
theorem im_yX3_bidsBy : Cond.instanceMethod yX3_bidsBy ∈ zWS := zWS_of 514 (by decide +kernel) rfl
theorem se_yX3_bidsBy : Cond.selects "SilenceHours$State" yX3_bidsBy yX3_bidsBy ∈ zWS := zWS_of 515 (by decide +kernel) rfl
set_option maxRecDepth 100000 in
theorem co_yX3_bidsBy : Cond.code yX3_bidsBy prog_5_method_9_code 4 (Option.some FieldType.int) ∈ zWS := zWS_of 516 rfl rfl
theorem ml_X4_163 : Cond.methodLink "SilenceHours" 163 yX3_allMoney ∈ zWS := zWS_of 517 (by decide +kernel) rfl
theorem im_yX3_allMoney : Cond.instanceMethod yX3_allMoney ∈ zWS := zWS_of 518 (by decide +kernel) rfl
theorem se_yX3_allMoney : Cond.selects "SilenceHours$State" yX3_allMoney yX3_allMoney ∈ zWS := zWS_of 519 (by decide +kernel) rfl
set_option maxRecDepth 100000 in
theorem co_yX3_allMoney : Cond.code yX3_allMoney prog_5_method_14_code 3 (Option.some FieldType.int) ∈ zWS := zWS_of 520 rfl rfl
theorem ml_X4_166 : Cond.methodLink "SilenceHours" 166 yX3_allDebts ∈ zWS := zWS_of 521 (by decide +kernel) rfl
theorem im_yX3_allDebts : Cond.instanceMethod yX3_allDebts ∈ zWS := zWS_of 522 (by decide +kernel) rfl
theorem se_yX3_allDebts : Cond.selects "SilenceHours$State" yX3_allDebts yX3_allDebts ∈ zWS := zWS_of 523 (by decide +kernel) rfl
set_option maxRecDepth 100000 in
theorem co_yX3_allDebts : Cond.code yX3_allDebts prog_5_method_15_code 3 (Option.some FieldType.int) ∈ zWS := zWS_of 524 rfl rfl
theorem ml_L_66 : Cond.methodLink "SilenceHoursLaw" 66 yX4_person ∈ zWS := zWS_of 525 (by decide +kernel) rfl
theorem im_yX4_person : Cond.instanceMethod yX4_person ∈ zWS := zWS_of 526 (by decide +kernel) rfl
theorem se_yX4_person : Cond.selects "SilenceHours" yX4_person yX4_person ∈ zWS := zWS_of 527 (by decide +kernel) rfl
set_option maxRecDepth 100000 in
theorem co_yX4_person : Cond.code yX4_person prog_1_method_14_code 3 (Option.some FieldType.int) ∈ zWS := zWS_of 528 rfl rfl
theorem ml_X4_172 : Cond.methodLink "SilenceHours" 172 yX3_freeMoney ∈ zWS := zWS_of 529 (by decide +kernel) rfl
theorem ml_X4_179 : Cond.methodLink "SilenceHours" 179 yX3_bidsBy ∈ zWS := zWS_of 530 (by decide +kernel) rfl
theorem ml_L_70 : Cond.methodLink "SilenceHoursLaw" 70 yX4_slot ∈ zWS := zWS_of 531 (by decide +kernel) rfl
theorem im_yX4_slot : Cond.instanceMethod yX4_slot ∈ zWS := zWS_of 532 (by decide +kernel) rfl
theorem se_yX4_slot : Cond.selects "SilenceHours" yX4_slot yX4_slot ∈ zWS := zWS_of 533 (by decide +kernel) rfl
set_option maxRecDepth 100000 in
theorem co_yX4_slot : Cond.code yX4_slot prog_1_method_15_code 5 (Option.some FieldType.int) ∈ zWS := zWS_of 534 rfl rfl
theorem ml_X4_194 : Cond.methodLink "SilenceHours" 194 yX3_sumOfBids ∈ zWS := zWS_of 535 (by decide +kernel) rfl
theorem ml_X4_200 : Cond.methodLink "SilenceHours" 200 yX3_bidsFor ∈ zWS := zWS_of 536 (by decide +kernel) rfl
theorem ml_L_74 : Cond.methodLink "SilenceHoursLaw" 74 yX4_bidOf ∈ zWS := zWS_of 537 (by decide +kernel) rfl
theorem im_yX4_bidOf : Cond.instanceMethod yX4_bidOf ∈ zWS := zWS_of 538 (by decide +kernel) rfl
theorem se_yX4_bidOf : Cond.selects "SilenceHours" yX4_bidOf yX4_bidOf ∈ zWS := zWS_of 539 (by decide +kernel) rfl
set_option maxRecDepth 100000 in
theorem co_yX4_bidOf : Cond.code yX4_bidOf prog_1_method_16_code 5 (Option.some FieldType.int) ∈ zWS := zWS_of 540 rfl rfl
theorem ml_X4_206 : Cond.methodLink "SilenceHours" 206 yX3_markedBid ∈ zWS := zWS_of 541 (by decide +kernel) rfl
theorem ml_L_78 : Cond.methodLink "SilenceHoursLaw" 78 yX4_fund ∈ zWS := zWS_of 542 (by decide +kernel) rfl
theorem im_yX4_fund : Cond.instanceMethod yX4_fund ∈ zWS := zWS_of 543 (by decide +kernel) rfl
theorem se_yX4_fund : Cond.selects "SilenceHours" yX4_fund yX4_fund ∈ zWS := zWS_of 544 (by decide +kernel) rfl
set_option maxRecDepth 100000 in
theorem co_yX4_fund : Cond.code yX4_fund prog_1_method_17_code 2 (Option.some FieldType.int) ∈ zWS := zWS_of 545 rfl rfl
theorem ml_L_82 : Cond.methodLink "SilenceHoursLaw" 82 yX4_winner ∈ zWS := zWS_of 546 (by decide +kernel) rfl
theorem im_yX4_winner : Cond.instanceMethod yX4_winner ∈ zWS := zWS_of 547 (by decide +kernel) rfl
theorem se_yX4_winner : Cond.selects "SilenceHours" yX4_winner yX4_winner ∈ zWS := zWS_of 548 (by decide +kernel) rfl
set_option maxRecDepth 100000 in
theorem co_yX4_winner : Cond.code yX4_winner prog_1_method_18_code 3 (Option.some FieldType.int) ∈ zWS := zWS_of 549 rfl rfl
theorem ml_X4_215 : Cond.methodLink "SilenceHours" 215 yX3_ownerThen ∈ zWS := zWS_of 550 (by decide +kernel) rfl
theorem ml_L_86 : Cond.methodLink "SilenceHoursLaw" 86 yX4_needed ∈ zWS := zWS_of 551 (by decide +kernel) rfl
theorem im_yX4_needed : Cond.instanceMethod yX4_needed ∈ zWS := zWS_of 552 (by decide +kernel) rfl
theorem se_yX4_needed : Cond.selects "SilenceHours" yX4_needed yX4_needed ∈ zWS := zWS_of 553 (by decide +kernel) rfl
set_option maxRecDepth 100000 in
theorem co_yX4_needed : Cond.code yX4_needed prog_1_method_19_code 4 (Option.some FieldType.int) ∈ zWS := zWS_of 554 rfl rfl
theorem ml_X4_218 : Cond.methodLink "SilenceHours" 218 yX3_missingFor ∈ zWS := zWS_of 555 (by decide +kernel) rfl
theorem im_yX3_missingFor : Cond.instanceMethod yX3_missingFor ∈ zWS := zWS_of 556 (by decide +kernel) rfl
theorem se_yX3_missingFor : Cond.selects "SilenceHours$State" yX3_missingFor yX3_missingFor ∈ zWS := zWS_of 557 (by decide +kernel) rfl
set_option maxRecDepth 100000 in
theorem co_yX3_missingFor : Cond.code yX3_missingFor prog_5_method_19_code 5 (Option.some FieldType.int) ∈ zWS := zWS_of 558 rfl rfl
theorem ml_X3_119 : Cond.methodLink "SilenceHours$State" 119 Lib.Math.max.name ∈ zWS := zWS_of 559 (by decide +kernel) rfl
theorem st_Lib_Math_max_name : Cond.static Lib.Math.max.name ∈ zWS := zWS_of 560 (by decide +kernel) rfl
set_option maxRecDepth 100000 in
theorem co_Lib_Math_max_name : Cond.code Lib.Math.max.name prog_9_method_65_code 2 (Option.some FieldType.int) ∈ zWS := zWS_of 561 rfl rfl
theorem ml_L_90 : Cond.methodLink "SilenceHoursLaw" 90 yX4_quiet ∈ zWS := zWS_of 562 (by decide +kernel) rfl
theorem im_yX4_quiet : Cond.instanceMethod yX4_quiet ∈ zWS := zWS_of 563 (by decide +kernel) rfl
theorem se_yX4_quiet : Cond.selects "SilenceHours" yX4_quiet yX4_quiet ∈ zWS := zWS_of 564 (by decide +kernel) rfl
set_option maxRecDepth 100000 in
theorem co_yX4_quiet : Cond.code yX4_quiet prog_1_method_20_code 3 (Option.some FieldType.int) ∈ zWS := zWS_of 565 rfl rfl
theorem ml_X4_221 : Cond.methodLink "SilenceHours" 221 yX3_quietHours ∈ zWS := zWS_of 566 (by decide +kernel) rfl
theorem ml_X4_224 : Cond.methodLink "SilenceHours" 224 yX3_longestQuiet ∈ zWS := zWS_of 567 (by decide +kernel) rfl
theorem im_yX3_longestQuiet : Cond.instanceMethod yX3_longestQuiet ∈ zWS := zWS_of 568 (by decide +kernel) rfl
theorem se_yX3_longestQuiet : Cond.selects "SilenceHours$State" yX3_longestQuiet yX3_longestQuiet ∈ zWS := zWS_of 569 (by decide +kernel) rfl
set_option maxRecDepth 100000 in
theorem co_yX3_longestQuiet : Cond.code yX3_longestQuiet prog_5_method_29_code 4 (Option.some FieldType.int) ∈ zWS := zWS_of 570 rfl rfl
theorem ml_X3_159 : Cond.methodLink "SilenceHours$State" 159 yX3_quietFrom ∈ zWS := zWS_of 571 (by decide +kernel) rfl
theorem im_yX3_quietFrom : Cond.instanceMethod yX3_quietFrom ∈ zWS := zWS_of 573 (by decide +kernel) rfl
set_option maxRecDepth 100000 in
theorem co_yX3_quietFrom : Cond.code yX3_quietFrom prog_5_method_31_code 4 (Option.some FieldType.int) ∈ zWS := zWS_of 574 rfl rfl
theorem ml_X4_227 : Cond.methodLink "SilenceHours" 227 yX3_longestQuietStart ∈ zWS := zWS_of 575 (by decide +kernel) rfl
theorem im_yX3_longestQuietStart : Cond.instanceMethod yX3_longestQuietStart ∈ zWS := zWS_of 576 (by decide +kernel) rfl
theorem se_yX3_longestQuietStart : Cond.selects "SilenceHours$State" yX3_longestQuietStart yX3_longestQuietStart ∈ zWS := zWS_of 577 (by decide +kernel) rfl
set_option maxRecDepth 100000 in
theorem co_yX3_longestQuietStart : Cond.code yX3_longestQuietStart prog_5_method_30_code 6 (Option.some FieldType.int) ∈ zWS := zWS_of 578 rfl rfl
theorem ml_L_94 : Cond.methodLink "SilenceHoursLaw" 94 yX4_purseThen ∈ zWS := zWS_of 579 (by decide +kernel) rfl
theorem im_yX4_purseThen : Cond.instanceMethod yX4_purseThen ∈ zWS := zWS_of 580 (by decide +kernel) rfl
theorem se_yX4_purseThen : Cond.selects "SilenceHours" yX4_purseThen yX4_purseThen ∈ zWS := zWS_of 581 (by decide +kernel) rfl
set_option maxRecDepth 100000 in
theorem co_yX4_purseThen : Cond.code yX4_purseThen prog_1_method_21_code 2 (Option.some FieldType.int) ∈ zWS := zWS_of 582 rfl rfl
theorem cl_L_10 : Cond.classLink "SilenceHoursLaw" 10 "SilenceHoursModel" ∈ zWS := zWS_of 583 (by decide +kernel) rfl
theorem it_X5 : Cond.instantiable "SilenceHoursModel" 14 ∈ zWS := zWS_of 584 (by decide +kernel) rfl
theorem ml_L_12 : Cond.methodLink "SilenceHoursLaw" 12 yX5_init ∈ zWS := zWS_of 585 (by decide +kernel) rfl
theorem im_yX5_init : Cond.instanceMethod yX5_init ∈ zWS := zWS_of 586 (by decide +kernel) rfl
set_option maxRecDepth 100000 in
theorem co_yX5_init : Cond.code yX5_init prog_7_method_1_code 1 none ∈ zWS := zWS_of 587 rfl rfl
theorem ml_X5_1 : Cond.methodLink "SilenceHoursModel" 1 objectInit ∈ zWS := zWS_of 588 (by decide +kernel) rfl
theorem fl_X5_7 : Cond.fieldLink "SilenceHoursModel" 7 "SilenceHoursModel" "now" "[I" ∈ zWS := zWS_of 589 (by decide +kernel) rfl
theorem fl_X5_13 : Cond.fieldLink "SilenceHoursModel" 13 "SilenceHoursModel" "kept" "[I" ∈ zWS := zWS_of 590 (by decide +kernel) rfl
theorem fl_X5_49 : Cond.fieldLink "SilenceHoursModel" 49 "SilenceHoursModel" "states" "I" ∈ zWS := zWS_of 591 (by decide +kernel) rfl
theorem fl_X5_16 : Cond.fieldLink "SilenceHoursModel" 16 "SilenceHoursModel" "aside" "[I" ∈ zWS := zWS_of 592 (by decide +kernel) rfl
theorem fl_X5_19 : Cond.fieldLink "SilenceHoursModel" 19 "SilenceHoursModel" "text" "[I" ∈ zWS := zWS_of 593 (by decide +kernel) rfl
theorem fl_X5_135 : Cond.fieldLink "SilenceHoursModel" 135 "SilenceHoursModel" "length" "I" ∈ zWS := zWS_of 594 (by decide +kernel) rfl
theorem fl_X5_132 : Cond.fieldLink "SilenceHoursModel" 132 "SilenceHoursModel" "at" "I" ∈ zWS := zWS_of 595 (by decide +kernel) rfl
theorem fl_X5_122 : Cond.fieldLink "SilenceHoursModel" 122 "SilenceHoursModel" "depth" "I" ∈ zWS := zWS_of 596 (by decide +kernel) rfl
theorem fl_X5_22 : Cond.fieldLink "SilenceHoursModel" 22 "SilenceHoursModel" "times" "[I" ∈ zWS := zWS_of 597 (by decide +kernel) rfl
theorem fl_X5_118 : Cond.fieldLink "SilenceHoursModel" 118 "SilenceHoursModel" "isFailed" "Z" ∈ zWS := zWS_of 598 (by decide +kernel) rfl
theorem fl_X5_129 : Cond.fieldLink "SilenceHoursModel" 129 "SilenceHoursModel" "hasFailure" "Z" ∈ zWS := zWS_of 599 (by decide +kernel) rfl
theorem fl_X5_25 : Cond.fieldLink "SilenceHoursModel" 25 "SilenceHoursModel" "failed" "[I" ∈ zWS := zWS_of 600 (by decide +kernel) rfl
theorem fl_X5_28 : Cond.fieldLink "SilenceHoursModel" 28 "SilenceHoursModel" "parts" "[I" ∈ zWS := zWS_of 601 (by decide +kernel) rfl
theorem fl_X5_144 : Cond.fieldLink "SilenceHoursModel" 144 "SilenceHoursModel" "many" "I" ∈ zWS := zWS_of 602 (by decide +kernel) rfl
theorem ml_L_45 : Cond.methodLink "SilenceHoursLaw" 45 yX5_undo ∈ zWS := zWS_of 632 (by decide +kernel) rfl
theorem im_yX5_undo : Cond.instanceMethod yX5_undo ∈ zWS := zWS_of 633 (by decide +kernel) rfl
theorem se_yX5_undo : Cond.selects "SilenceHoursModel" yX5_undo yX5_undo ∈ zWS := zWS_of 634 (by decide +kernel) rfl
set_option maxRecDepth 100000 in
theorem co_yX5_undo : Cond.code yX5_undo prog_7_method_20_code 2 (Option.some FieldType.int) ∈ zWS := zWS_of 635 rfl rfl
theorem ml_L_17 : Cond.methodLink "SilenceHoursLaw" 17 yX5_join ∈ zWS := zWS_of 636 (by decide +kernel) rfl
theorem im_yX5_join : Cond.instanceMethod yX5_join ∈ zWS := zWS_of 637 (by decide +kernel) rfl
theorem se_yX5_join : Cond.selects "SilenceHoursModel" yX5_join yX5_join ∈ zWS := zWS_of 638 (by decide +kernel) rfl
set_option maxRecDepth 100000 in
theorem co_yX5_join : Cond.code yX5_join prog_7_method_22_code 4 (Option.some FieldType.int) ∈ zWS := zWS_of 639 rfl rfl
theorem cs_X5_57 : Cond.constant "SilenceHoursModel" 57 (100000) ∈ zWS := zWS_of 640 (by decide +kernel) rfl
theorem ml_X5_31 : Cond.methodLink "SilenceHoursModel" 31 yX5_in ∈ zWS := zWS_of 641 (by decide +kernel) rfl
theorem st_yX5_in : Cond.static yX5_in ∈ zWS := zWS_of 642 (by decide +kernel) rfl
set_option maxRecDepth 100000 in
theorem co_yX5_in : Cond.code yX5_in prog_7_method_2_code 3 (Option.some FieldType.boolean) ∈ zWS := zWS_of 643 rfl rfl
theorem ml_X5_58 : Cond.methodLink "SilenceHoursModel" 58 yX5_notes ∈ zWS := zWS_of 644 (by decide +kernel) rfl
theorem im_yX5_notes : Cond.instanceMethod yX5_notes ∈ zWS := zWS_of 646 (by decide +kernel) rfl
set_option maxRecDepth 100000 in
theorem co_yX5_notes : Cond.code yX5_notes prog_7_method_16_code 2 none ∈ zWS := zWS_of 647 rfl rfl
theorem ml_L_22 : Cond.methodLink "SilenceHoursLaw" 22 yX5_pay ∈ zWS := zWS_of 648 (by decide +kernel) rfl
theorem im_yX5_pay : Cond.instanceMethod yX5_pay ∈ zWS := zWS_of 649 (by decide +kernel) rfl
theorem se_yX5_pay : Cond.selects "SilenceHoursModel" yX5_pay yX5_pay ∈ zWS := zWS_of 650 (by decide +kernel) rfl
set_option maxRecDepth 100000 in
theorem co_yX5_pay : Cond.code yX5_pay prog_7_method_23_code 5 (Option.some FieldType.int) ∈ zWS := zWS_of 651 rfl rfl
theorem ml_X5_61 : Cond.methodLink "SilenceHoursModel" 61 yX5_isPerson ∈ zWS := zWS_of 652 (by decide +kernel) rfl
theorem im_yX5_isPerson : Cond.instanceMethod yX5_isPerson ∈ zWS := zWS_of 654 (by decide +kernel) rfl
set_option maxRecDepth 100000 in
theorem co_yX5_isPerson : Cond.code yX5_isPerson prog_7_method_3_code 2 (Option.some FieldType.boolean) ∈ zWS := zWS_of 655 rfl rfl
theorem cs_X5_65 : Cond.constant "SilenceHoursModel" 65 (-100000) ∈ zWS := zWS_of 656 (by decide +kernel) rfl
theorem ml_X5_43 : Cond.methodLink "SilenceHoursModel" 43 yX5_of ∈ zWS := zWS_of 657 (by decide +kernel) rfl
theorem im_yX5_of : Cond.instanceMethod yX5_of ∈ zWS := zWS_of 659 (by decide +kernel) rfl
set_option maxRecDepth 100000 in
theorem co_yX5_of : Cond.code yX5_of prog_7_method_5_code 3 (Option.some FieldType.int) ∈ zWS := zWS_of 660 rfl rfl
theorem ml_X5_66 : Cond.methodLink "SilenceHoursModel" 66 yX5_free ∈ zWS := zWS_of 661 (by decide +kernel) rfl
theorem im_yX5_free : Cond.instanceMethod yX5_free ∈ zWS := zWS_of 663 (by decide +kernel) rfl
set_option maxRecDepth 100000 in
theorem co_yX5_free : Cond.code yX5_free prog_7_method_14_code 4 (Option.some FieldType.int) ∈ zWS := zWS_of 664 rfl rfl
theorem ml_X5_39 : Cond.methodLink "SilenceHoursModel" 39 yX5_amount ∈ zWS := zWS_of 665 (by decide +kernel) rfl
theorem im_yX5_amount : Cond.instanceMethod yX5_amount ∈ zWS := zWS_of 667 (by decide +kernel) rfl
set_option maxRecDepth 100000 in
theorem co_yX5_amount : Cond.code yX5_amount prog_7_method_10_code 5 (Option.some FieldType.int) ∈ zWS := zWS_of 668 rfl rfl
theorem ml_X5_35 : Cond.methodLink "SilenceHoursModel" 35 yX5_bidAt ∈ zWS := zWS_of 669 (by decide +kernel) rfl
theorem im_yX5_bidAt : Cond.instanceMethod yX5_bidAt ∈ zWS := zWS_of 671 (by decide +kernel) rfl
set_option maxRecDepth 100000 in
theorem co_yX5_bidAt : Cond.code yX5_bidAt prog_7_method_9_code 3 (Option.some FieldType.int) ∈ zWS := zWS_of 672 rfl rfl
theorem cs_X5_70 : Cond.constant "SilenceHoursModel" 70 (10000000) ∈ zWS := zWS_of 673 (by decide +kernel) rfl
theorem ml_X5_53 : Cond.methodLink "SilenceHoursModel" 53 yX5_adds ∈ zWS := zWS_of 674 (by decide +kernel) rfl
theorem im_yX5_adds : Cond.instanceMethod yX5_adds ∈ zWS := zWS_of 676 (by decide +kernel) rfl
set_option maxRecDepth 100000 in
theorem co_yX5_adds : Cond.code yX5_adds prog_7_method_6_code 4 none ∈ zWS := zWS_of 677 rfl rfl
theorem ml_X5_71 : Cond.methodLink "SilenceHoursModel" 71 yX5_receives ∈ zWS := zWS_of 678 (by decide +kernel) rfl
theorem im_yX5_receives : Cond.instanceMethod yX5_receives ∈ zWS := zWS_of 680 (by decide +kernel) rfl
set_option maxRecDepth 100000 in
theorem co_yX5_receives : Cond.code yX5_receives prog_7_method_21_code 4 none ∈ zWS := zWS_of 681 rfl rfl
theorem ml_L_27 : Cond.methodLink "SilenceHoursLaw" 27 yX5_bid ∈ zWS := zWS_of 682 (by decide +kernel) rfl
theorem im_yX5_bid : Cond.instanceMethod yX5_bid ∈ zWS := zWS_of 683 (by decide +kernel) rfl
theorem se_yX5_bid : Cond.selects "SilenceHoursModel" yX5_bid yX5_bid ∈ zWS := zWS_of 684 (by decide +kernel) rfl
set_option maxRecDepth 100000 in
theorem co_yX5_bid : Cond.code yX5_bid prog_7_method_25_code 7 (Option.some FieldType.int) ∈ zWS := zWS_of 685 rfl rfl
theorem ml_X5_79 : Cond.methodLink "SilenceHoursModel" 79 yX5_asides ∈ zWS := zWS_of 686 (by decide +kernel) rfl
theorem im_yX5_asides : Cond.instanceMethod yX5_asides ∈ zWS := zWS_of 688 (by decide +kernel) rfl
set_option maxRecDepth 100000 in
theorem co_yX5_asides : Cond.code yX5_asides prog_7_method_17_code 2 none ∈ zWS := zWS_of 689 rfl rfl
theorem ml_X5_82 : Cond.methodLink "SilenceHoursModel" 82 yX5_bids ∈ zWS := zWS_of 690 (by decide +kernel) rfl
theorem im_yX5_bids : Cond.instanceMethod yX5_bids ∈ zWS := zWS_of 692 (by decide +kernel) rfl
set_option maxRecDepth 100000 in
theorem co_yX5_bids : Cond.code yX5_bids prog_7_method_24_code 8 (Option.some FieldType.int) ∈ zWS := zWS_of 693 rfl rfl
theorem ml_X5_75 : Cond.methodLink "SilenceHoursModel" 75 yX5_isSlot ∈ zWS := zWS_of 694 (by decide +kernel) rfl
theorem st_yX5_isSlot : Cond.static yX5_isSlot ∈ zWS := zWS_of 695 (by decide +kernel) rfl
set_option maxRecDepth 100000 in
theorem co_yX5_isSlot : Cond.code yX5_isSlot prog_7_method_4_code 2 (Option.some FieldType.boolean) ∈ zWS := zWS_of 696 rfl rfl
theorem ml_X5_86 : Cond.methodLink "SilenceHoursModel" 86 yX5_swaps ∈ zWS := zWS_of 697 (by decide +kernel) rfl
theorem im_yX5_swaps : Cond.instanceMethod yX5_swaps ∈ zWS := zWS_of 699 (by decide +kernel) rfl
set_option maxRecDepth 100000 in
theorem co_yX5_swaps : Cond.code yX5_swaps prog_7_method_19_code 3 none ∈ zWS := zWS_of 700 rfl rfl
theorem ml_X5_89 : Cond.methodLink "SilenceHoursModel" 89 yX5_backs ∈ zWS := zWS_of 701 (by decide +kernel) rfl
theorem im_yX5_backs : Cond.instanceMethod yX5_backs ∈ zWS := zWS_of 703 (by decide +kernel) rfl
set_option maxRecDepth 100000 in
theorem co_yX5_backs : Cond.code yX5_backs prog_7_method_18_code 2 none ∈ zWS := zWS_of 704 rfl rfl
theorem ml_L_31 : Cond.methodLink "SilenceHoursLaw" 31 yX5_setFine ∈ zWS := zWS_of 705 (by decide +kernel) rfl
theorem im_yX5_setFine : Cond.instanceMethod yX5_setFine ∈ zWS := zWS_of 706 (by decide +kernel) rfl
theorem se_yX5_setFine : Cond.selects "SilenceHoursModel" yX5_setFine yX5_setFine ∈ zWS := zWS_of 707 (by decide +kernel) rfl
set_option maxRecDepth 100000 in
theorem co_yX5_setFine : Cond.code yX5_setFine prog_7_method_26_code 3 (Option.some FieldType.int) ∈ zWS := zWS_of 708 rfl rfl
theorem ml_L_36 : Cond.methodLink "SilenceHoursLaw" 36 yX5_settle ∈ zWS := zWS_of 709 (by decide +kernel) rfl
theorem im_yX5_settle : Cond.instanceMethod yX5_settle ∈ zWS := zWS_of 710 (by decide +kernel) rfl
theorem se_yX5_settle : Cond.selects "SilenceHoursModel" yX5_settle yX5_settle ∈ zWS := zWS_of 711 (by decide +kernel) rfl
set_option maxRecDepth 100000 in
theorem co_yX5_settle : Cond.code yX5_settle prog_7_method_31_code 1 (Option.some FieldType.int) ∈ zWS := zWS_of 712 rfl rfl
theorem ml_X5_111 : Cond.methodLink "SilenceHoursModel" 111 yX5_settlesAll ∈ zWS := zWS_of 713 (by decide +kernel) rfl
theorem im_yX5_settlesAll : Cond.instanceMethod yX5_settlesAll ∈ zWS := zWS_of 715 (by decide +kernel) rfl
set_option maxRecDepth 100000 in
theorem co_yX5_settlesAll : Cond.code yX5_settlesAll prog_7_method_30_code 2 none ∈ zWS := zWS_of 716 rfl rfl
theorem ml_X5_107 : Cond.methodLink "SilenceHoursModel" 107 yX5_settles ∈ zWS := zWS_of 717 (by decide +kernel) rfl
theorem im_yX5_settles : Cond.instanceMethod yX5_settles ∈ zWS := zWS_of 719 (by decide +kernel) rfl
set_option maxRecDepth 100000 in
theorem co_yX5_settles : Cond.code yX5_settles prog_7_method_29_code 11 none ∈ zWS := zWS_of 720 rfl rfl
theorem ml_X5_92 : Cond.methodLink "SilenceHoursModel" 92 yX5_bidsFor ∈ zWS := zWS_of 721 (by decide +kernel) rfl
theorem im_yX5_bidsFor : Cond.instanceMethod yX5_bidsFor ∈ zWS := zWS_of 723 (by decide +kernel) rfl
set_option maxRecDepth 100000 in
theorem co_yX5_bidsFor : Cond.code yX5_bidsFor prog_7_method_12_code 4 (Option.some FieldType.int) ∈ zWS := zWS_of 724 rfl rfl
theorem ml_X5_46 : Cond.methodLink "SilenceHoursModel" 46 yX5_slotOf ∈ zWS := zWS_of 725 (by decide +kernel) rfl
theorem im_yX5_slotOf : Cond.instanceMethod yX5_slotOf ∈ zWS := zWS_of 727 (by decide +kernel) rfl
set_option maxRecDepth 100000 in
theorem co_yX5_slotOf : Cond.code yX5_slotOf prog_7_method_7_code 3 (Option.some FieldType.int) ∈ zWS := zWS_of 728 rfl rfl
theorem ml_X5_101 : Cond.methodLink "SilenceHoursModel" 101 yX5_puts ∈ zWS := zWS_of 729 (by decide +kernel) rfl
theorem im_yX5_puts : Cond.instanceMethod yX5_puts ∈ zWS := zWS_of 731 (by decide +kernel) rfl
set_option maxRecDepth 100000 in
theorem co_yX5_puts : Cond.code yX5_puts prog_7_method_8_code 4 none ∈ zWS := zWS_of 732 rfl rfl
theorem ml_X5_104 : Cond.methodLink "SilenceHoursModel" 104 yX5_winnerOf ∈ zWS := zWS_of 733 (by decide +kernel) rfl
theorem im_yX5_winnerOf : Cond.instanceMethod yX5_winnerOf ∈ zWS := zWS_of 735 (by decide +kernel) rfl
set_option maxRecDepth 100000 in
theorem co_yX5_winnerOf : Cond.code yX5_winnerOf prog_7_method_28_code 4 (Option.some FieldType.int) ∈ zWS := zWS_of 736 rfl rfl
theorem ml_X5_95 : Cond.methodLink "SilenceHoursModel" 95 yX5_sumOf ∈ zWS := zWS_of 737 (by decide +kernel) rfl
theorem im_yX5_sumOf : Cond.instanceMethod yX5_sumOf ∈ zWS := zWS_of 739 (by decide +kernel) rfl
set_option maxRecDepth 100000 in
theorem co_yX5_sumOf : Cond.code yX5_sumOf prog_7_method_11_code 5 (Option.some FieldType.int) ∈ zWS := zWS_of 740 rfl rfl
theorem ml_X5_98 : Cond.methodLink "SilenceHoursModel" 98 yX5_tied ∈ zWS := zWS_of 741 (by decide +kernel) rfl
theorem im_yX5_tied : Cond.instanceMethod yX5_tied ∈ zWS := zWS_of 743 (by decide +kernel) rfl
set_option maxRecDepth 100000 in
theorem co_yX5_tied : Cond.code yX5_tied prog_7_method_27_code 2 (Option.some FieldType.int) ∈ zWS := zWS_of 744 rfl rfl
theorem ml_X5_114 : Cond.methodLink "SilenceHoursModel" 114 yX5_noisy ∈ zWS := zWS_of 745 (by decide +kernel) rfl
theorem im_yX5_noisy : Cond.instanceMethod yX5_noisy ∈ zWS := zWS_of 747 (by decide +kernel) rfl
set_option maxRecDepth 100000 in
theorem co_yX5_noisy : Cond.code yX5_noisy prog_7_method_15_code 3 (Option.some FieldType.int) ∈ zWS := zWS_of 748 rfl rfl
theorem ml_L_41 : Cond.methodLink "SilenceHoursLaw" 41 yX5_breach ∈ zWS := zWS_of 749 (by decide +kernel) rfl
theorem im_yX5_breach : Cond.instanceMethod yX5_breach ∈ zWS := zWS_of 750 (by decide +kernel) rfl
theorem se_yX5_breach : Cond.selects "SilenceHoursModel" yX5_breach yX5_breach ∈ zWS := zWS_of 751 (by decide +kernel) rfl
set_option maxRecDepth 100000 in
theorem co_yX5_breach : Cond.code yX5_breach prog_7_method_32_code 10 (Option.some FieldType.int) ∈ zWS := zWS_of 752 rfl rfl
theorem ml_L_49 : Cond.methodLink "SilenceHoursLaw" 49 yX5_append ∈ zWS := zWS_of 753 (by decide +kernel) rfl
theorem im_yX5_append : Cond.instanceMethod yX5_append ∈ zWS := zWS_of 754 (by decide +kernel) rfl
theorem se_yX5_append : Cond.selects "SilenceHoursModel" yX5_append yX5_append ∈ zWS := zWS_of 755 (by decide +kernel) rfl
set_option maxRecDepth 100000 in
theorem co_yX5_append : Cond.code yX5_append prog_7_method_41_code 2 (Option.some FieldType.int) ∈ zWS := zWS_of 756 rfl rfl
theorem ml_L_53 : Cond.methodLink "SilenceHoursLaw" 53 yX5_clearText ∈ zWS := zWS_of 757 (by decide +kernel) rfl
theorem im_yX5_clearText : Cond.instanceMethod yX5_clearText ∈ zWS := zWS_of 758 (by decide +kernel) rfl
theorem se_yX5_clearText : Cond.selects "SilenceHoursModel" yX5_clearText yX5_clearText ∈ zWS := zWS_of 759 (by decide +kernel) rfl
set_option maxRecDepth 100000 in
theorem co_yX5_clearText : Cond.code yX5_clearText prog_7_method_42_code 2 (Option.some FieldType.int) ∈ zWS := zWS_of 760 rfl rfl
theorem ml_L_57 : Cond.methodLink "SilenceHoursLaw" 57 yX5_run ∈ zWS := zWS_of 761 (by decide +kernel) rfl
theorem im_yX5_run : Cond.instanceMethod yX5_run ∈ zWS := zWS_of 762 (by decide +kernel) rfl
theorem se_yX5_run : Cond.selects "SilenceHoursModel" yX5_run yX5_run ∈ zWS := zWS_of 763 (by decide +kernel) rfl
set_option maxRecDepth 100000 in
theorem co_yX5_run : Cond.code yX5_run prog_7_method_43_code 6 (Option.some FieldType.int) ∈ zWS := zWS_of 764 rfl rfl
theorem ml_X5_159 : Cond.methodLink "SilenceHoursModel" 159 yX5_reads ∈ zWS := zWS_of 765 (by decide +kernel) rfl
theorem im_yX5_reads : Cond.instanceMethod yX5_reads ∈ zWS := zWS_of 767 (by decide +kernel) rfl
set_option maxRecDepth 100000 in
theorem co_yX5_reads : Cond.code yX5_reads prog_7_method_40_code 3 none ∈ zWS := zWS_of 768 rfl rfl
theorem ml_X5_138 : Cond.methodLink "SilenceHoursModel" 138 yX5_here ∈ zWS := zWS_of 769 (by decide +kernel) rfl
theorem im_yX5_here : Cond.instanceMethod yX5_here ∈ zWS := zWS_of 771 (by decide +kernel) rfl
set_option maxRecDepth 100000 in
theorem co_yX5_here : Cond.code yX5_here prog_7_method_35_code 1 (Option.some FieldType.int) ∈ zWS := zWS_of 772 rfl rfl
theorem ml_X5_153 : Cond.methodLink "SilenceHoursModel" 153 yX5_opens ∈ zWS := zWS_of 773 (by decide +kernel) rfl
theorem im_yX5_opens : Cond.instanceMethod yX5_opens ∈ zWS := zWS_of 775 (by decide +kernel) rfl
set_option maxRecDepth 100000 in
theorem co_yX5_opens : Cond.code yX5_opens prog_7_method_38_code 2 none ∈ zWS := zWS_of 776 rfl rfl
theorem ml_X5_141 : Cond.methodLink "SilenceHoursModel" 141 yX5_fails ∈ zWS := zWS_of 777 (by decide +kernel) rfl
theorem im_yX5_fails : Cond.instanceMethod yX5_fails ∈ zWS := zWS_of 779 (by decide +kernel) rfl
set_option maxRecDepth 100000 in
theorem co_yX5_fails : Cond.code yX5_fails prog_7_method_33_code 2 none ∈ zWS := zWS_of 780 rfl rfl
theorem ml_X5_125 : Cond.methodLink "SilenceHoursModel" 125 yX5_failedBy ∈ zWS := zWS_of 781 (by decide +kernel) rfl
theorem im_yX5_failedBy : Cond.instanceMethod yX5_failedBy ∈ zWS := zWS_of 783 (by decide +kernel) rfl
set_option maxRecDepth 100000 in
theorem co_yX5_failedBy : Cond.code yX5_failedBy prog_7_method_34_code 6 none ∈ zWS := zWS_of 784 rfl rfl
theorem ml_X5_150 : Cond.methodLink "SilenceHoursModel" 150 yX5_number ∈ zWS := zWS_of 785 (by decide +kernel) rfl
theorem im_yX5_number : Cond.instanceMethod yX5_number ∈ zWS := zWS_of 787 (by decide +kernel) rfl
set_option maxRecDepth 100000 in
theorem co_yX5_number : Cond.code yX5_number prog_7_method_37_code 5 (Option.some FieldType.int) ∈ zWS := zWS_of 788 rfl rfl
theorem ml_X5_147 : Cond.methodLink "SilenceHoursModel" 147 yX5_sign ∈ zWS := zWS_of 789 (by decide +kernel) rfl
theorem im_yX5_sign : Cond.instanceMethod yX5_sign ∈ zWS := zWS_of 791 (by decide +kernel) rfl
set_option maxRecDepth 100000 in
theorem co_yX5_sign : Cond.code yX5_sign prog_7_method_36_code 2 none ∈ zWS := zWS_of 792 rfl rfl
theorem ml_X5_156 : Cond.methodLink "SilenceHoursModel" 156 yX5_readPart ∈ zWS := zWS_of 793 (by decide +kernel) rfl
theorem im_yX5_readPart : Cond.instanceMethod yX5_readPart ∈ zWS := zWS_of 795 (by decide +kernel) rfl
set_option maxRecDepth 100000 in
theorem co_yX5_readPart : Cond.code yX5_readPart prog_7_method_39_code 4 none ∈ zWS := zWS_of 796 rfl rfl
theorem ml_L_61 : Cond.methodLink "SilenceHoursLaw" 61 yX5_failure ∈ zWS := zWS_of 797 (by decide +kernel) rfl
theorem im_yX5_failure : Cond.instanceMethod yX5_failure ∈ zWS := zWS_of 798 (by decide +kernel) rfl
theorem se_yX5_failure : Cond.selects "SilenceHoursModel" yX5_failure yX5_failure ∈ zWS := zWS_of 799 (by decide +kernel) rfl
set_option maxRecDepth 100000 in
theorem co_yX5_failure : Cond.code yX5_failure prog_7_method_44_code 2 (Option.some FieldType.int) ∈ zWS := zWS_of 800 rfl rfl
theorem ml_L_65 : Cond.methodLink "SilenceHoursLaw" 65 yX5_count ∈ zWS := zWS_of 801 (by decide +kernel) rfl
theorem im_yX5_count : Cond.instanceMethod yX5_count ∈ zWS := zWS_of 802 (by decide +kernel) rfl
theorem se_yX5_count : Cond.selects "SilenceHoursModel" yX5_count yX5_count ∈ zWS := zWS_of 803 (by decide +kernel) rfl
set_option maxRecDepth 100000 in
theorem co_yX5_count : Cond.code yX5_count prog_7_method_48_code 2 (Option.some FieldType.int) ∈ zWS := zWS_of 804 rfl rfl
theorem ml_X5_165 : Cond.methodLink "SilenceHoursModel" 165 yX5_allBids ∈ zWS := zWS_of 805 (by decide +kernel) rfl
theorem im_yX5_allBids : Cond.instanceMethod yX5_allBids ∈ zWS := zWS_of 807 (by decide +kernel) rfl
set_option maxRecDepth 100000 in
theorem co_yX5_allBids : Cond.code yX5_allBids prog_7_method_47_code 3 (Option.some FieldType.int) ∈ zWS := zWS_of 808 rfl rfl
theorem ml_X5_162 : Cond.methodLink "SilenceHoursModel" 162 yX5_bidsBy ∈ zWS := zWS_of 809 (by decide +kernel) rfl
theorem im_yX5_bidsBy : Cond.instanceMethod yX5_bidsBy ∈ zWS := zWS_of 811 (by decide +kernel) rfl
set_option maxRecDepth 100000 in
theorem co_yX5_bidsBy : Cond.code yX5_bidsBy prog_7_method_13_code 4 (Option.some FieldType.int) ∈ zWS := zWS_of 812 rfl rfl
theorem ml_X5_168 : Cond.methodLink "SilenceHoursModel" 168 yX5_money ∈ zWS := zWS_of 813 (by decide +kernel) rfl
theorem im_yX5_money : Cond.instanceMethod yX5_money ∈ zWS := zWS_of 815 (by decide +kernel) rfl
set_option maxRecDepth 100000 in
theorem co_yX5_money : Cond.code yX5_money prog_7_method_45_code 3 (Option.some FieldType.int) ∈ zWS := zWS_of 816 rfl rfl
theorem ml_X5_171 : Cond.methodLink "SilenceHoursModel" 171 yX5_debts ∈ zWS := zWS_of 817 (by decide +kernel) rfl
theorem im_yX5_debts : Cond.instanceMethod yX5_debts ∈ zWS := zWS_of 819 (by decide +kernel) rfl
set_option maxRecDepth 100000 in
theorem co_yX5_debts : Cond.code yX5_debts prog_7_method_46_code 3 (Option.some FieldType.int) ∈ zWS := zWS_of 820 rfl rfl
theorem ml_L_69 : Cond.methodLink "SilenceHoursLaw" 69 yX5_person ∈ zWS := zWS_of 821 (by decide +kernel) rfl
theorem im_yX5_person : Cond.instanceMethod yX5_person ∈ zWS := zWS_of 822 (by decide +kernel) rfl
theorem se_yX5_person : Cond.selects "SilenceHoursModel" yX5_person yX5_person ∈ zWS := zWS_of 823 (by decide +kernel) rfl
set_option maxRecDepth 100000 in
theorem co_yX5_person : Cond.code yX5_person prog_7_method_49_code 3 (Option.some FieldType.int) ∈ zWS := zWS_of 824 rfl rfl
theorem ml_L_73 : Cond.methodLink "SilenceHoursLaw" 73 yX5_slot ∈ zWS := zWS_of 825 (by decide +kernel) rfl
theorem im_yX5_slot : Cond.instanceMethod yX5_slot ∈ zWS := zWS_of 826 (by decide +kernel) rfl
theorem se_yX5_slot : Cond.selects "SilenceHoursModel" yX5_slot yX5_slot ∈ zWS := zWS_of 827 (by decide +kernel) rfl
set_option maxRecDepth 100000 in
theorem co_yX5_slot : Cond.code yX5_slot prog_7_method_50_code 5 (Option.some FieldType.int) ∈ zWS := zWS_of 828 rfl rfl
theorem ml_L_77 : Cond.methodLink "SilenceHoursLaw" 77 yX5_bidOf ∈ zWS := zWS_of 829 (by decide +kernel) rfl
theorem im_yX5_bidOf : Cond.instanceMethod yX5_bidOf ∈ zWS := zWS_of 830 (by decide +kernel) rfl
theorem se_yX5_bidOf : Cond.selects "SilenceHoursModel" yX5_bidOf yX5_bidOf ∈ zWS := zWS_of 831 (by decide +kernel) rfl
set_option maxRecDepth 100000 in
theorem co_yX5_bidOf : Cond.code yX5_bidOf prog_7_method_51_code 5 (Option.some FieldType.int) ∈ zWS := zWS_of 832 rfl rfl
theorem ml_L_81 : Cond.methodLink "SilenceHoursLaw" 81 yX5_fund ∈ zWS := zWS_of 833 (by decide +kernel) rfl
theorem im_yX5_fund : Cond.instanceMethod yX5_fund ∈ zWS := zWS_of 834 (by decide +kernel) rfl
theorem se_yX5_fund : Cond.selects "SilenceHoursModel" yX5_fund yX5_fund ∈ zWS := zWS_of 835 (by decide +kernel) rfl
set_option maxRecDepth 100000 in
theorem co_yX5_fund : Cond.code yX5_fund prog_7_method_52_code 2 (Option.some FieldType.int) ∈ zWS := zWS_of 836 rfl rfl
theorem ml_L_85 : Cond.methodLink "SilenceHoursLaw" 85 yX5_winner ∈ zWS := zWS_of 837 (by decide +kernel) rfl
theorem im_yX5_winner : Cond.instanceMethod yX5_winner ∈ zWS := zWS_of 838 (by decide +kernel) rfl
theorem se_yX5_winner : Cond.selects "SilenceHoursModel" yX5_winner yX5_winner ∈ zWS := zWS_of 839 (by decide +kernel) rfl
set_option maxRecDepth 100000 in
theorem co_yX5_winner : Cond.code yX5_winner prog_7_method_53_code 3 (Option.some FieldType.int) ∈ zWS := zWS_of 840 rfl rfl
theorem ml_L_89 : Cond.methodLink "SilenceHoursLaw" 89 yX5_needed ∈ zWS := zWS_of 841 (by decide +kernel) rfl
theorem im_yX5_needed : Cond.instanceMethod yX5_needed ∈ zWS := zWS_of 842 (by decide +kernel) rfl
theorem se_yX5_needed : Cond.selects "SilenceHoursModel" yX5_needed yX5_needed ∈ zWS := zWS_of 843 (by decide +kernel) rfl
set_option maxRecDepth 100000 in
theorem co_yX5_needed : Cond.code yX5_needed prog_7_method_54_code 8 (Option.some FieldType.int) ∈ zWS := zWS_of 844 rfl rfl
theorem ml_L_93 : Cond.methodLink "SilenceHoursLaw" 93 yX5_quiet ∈ zWS := zWS_of 845 (by decide +kernel) rfl
theorem im_yX5_quiet : Cond.instanceMethod yX5_quiet ∈ zWS := zWS_of 846 (by decide +kernel) rfl
theorem se_yX5_quiet : Cond.selects "SilenceHoursModel" yX5_quiet yX5_quiet ∈ zWS := zWS_of 847 (by decide +kernel) rfl
set_option maxRecDepth 100000 in
theorem co_yX5_quiet : Cond.code yX5_quiet prog_7_method_55_code 9 (Option.some FieldType.int) ∈ zWS := zWS_of 848 rfl rfl
theorem ml_L_97 : Cond.methodLink "SilenceHoursLaw" 97 yX5_purseThen ∈ zWS := zWS_of 849 (by decide +kernel) rfl
theorem im_yX5_purseThen : Cond.instanceMethod yX5_purseThen ∈ zWS := zWS_of 850 (by decide +kernel) rfl
theorem se_yX5_purseThen : Cond.selects "SilenceHoursModel" yX5_purseThen yX5_purseThen ∈ zWS := zWS_of 851 (by decide +kernel) rfl
set_option maxRecDepth 100000 in
theorem co_yX5_purseThen : Cond.code yX5_purseThen prog_7_method_56_code 3 (Option.some FieldType.int) ∈ zWS := zWS_of 852 rfl rfl
theorem se_yX4_isPerson : Cond.selects RX4 yX4_isPerson yX4_isPerson ∈ zWS := zWS_of 0 (by decide +kernel) rfl
theorem se_yX3_settleBids : Cond.selects RX3 yX3_settleBids yX3_settleBids ∈ zWS := zWS_of 1 (by decide +kernel) rfl
theorem se_yX3_collectFrom : Cond.selects RX3 yX3_collectFrom yX3_collectFrom ∈ zWS := zWS_of 2 (by decide +kernel) rfl
theorem se_yX3_shareOut : Cond.selects RX3 yX3_shareOut yX3_shareOut ∈ zWS := zWS_of 3 (by decide +kernel) rfl
theorem se_yX3_biddersForQuiet : Cond.selects RX3 yX3_biddersForQuiet yX3_biddersForQuiet ∈ zWS := zWS_of 4 (by decide +kernel) rfl
theorem se_yX3_shareFine : Cond.selects RX3 yX3_shareFine yX3_shareFine ∈ zWS := zWS_of 5 (by decide +kernel) rfl
theorem se_yX2_hasFailed : Cond.selects RX2 yX2_hasFailed yX2_hasFailed ∈ zWS := zWS_of 6 (by decide +kernel) rfl
theorem se_yX2_readPiece : Cond.selects RX2 yX2_readPiece yX2_readPiece ∈ zWS := zWS_of 7 (by decide +kernel) rfl
theorem se_yX2_sign : Cond.selects RX2 yX2_sign yX2_sign ∈ zWS := zWS_of 8 (by decide +kernel) rfl
theorem se_yX2_closeGroup : Cond.selects RX2 yX2_closeGroup yX2_closeGroup ∈ zWS := zWS_of 9 (by decide +kernel) rfl
theorem se_yX2_take : Cond.selects RX2 yX2_take yX2_take ∈ zWS := zWS_of 10 (by decide +kernel) rfl
theorem se_yX2_takeIf : Cond.selects RX2 yX2_takeIf yX2_takeIf ∈ zWS := zWS_of 11 (by decide +kernel) rfl
theorem se_yX2_failAt : Cond.selects RX2 yX2_failAt yX2_failAt ∈ zWS := zWS_of 12 (by decide +kernel) rfl
theorem se_yX2_openGroup : Cond.selects RX2 yX2_openGroup yX2_openGroup ∈ zWS := zWS_of 13 (by decide +kernel) rfl
theorem se_yX2_takeNumber : Cond.selects RX2 yX2_takeNumber yX2_takeNumber ∈ zWS := zWS_of 14 (by decide +kernel) rfl
theorem se_yX2_skip : Cond.selects RX2 yX2_skip yX2_skip ∈ zWS := zWS_of 15 (by decide +kernel) rfl
theorem se_yX2_readBids : Cond.selects RX2 yX2_readBids yX2_readBids ∈ zWS := zWS_of 16 (by decide +kernel) rfl
theorem se_yX2_takeStreet : Cond.selects RX2 yX2_takeStreet yX2_takeStreet ∈ zWS := zWS_of 17 (by decide +kernel) rfl
theorem se_yX4_failPlan : Cond.selects RX4 yX4_failPlan yX4_failPlan ∈ zWS := zWS_of 18 (by decide +kernel) rfl
theorem se_yX3_quietFrom : Cond.selects RX3 yX3_quietFrom yX3_quietFrom ∈ zWS := zWS_of 19 (by decide +kernel) rfl
theorem se_yX5_notes : Cond.selects RX5 yX5_notes yX5_notes ∈ zWS := zWS_of 20 (by decide +kernel) rfl
theorem se_yX5_isPerson : Cond.selects RX5 yX5_isPerson yX5_isPerson ∈ zWS := zWS_of 21 (by decide +kernel) rfl
theorem se_yX5_of : Cond.selects RX5 yX5_of yX5_of ∈ zWS := zWS_of 22 (by decide +kernel) rfl
theorem se_yX5_free : Cond.selects RX5 yX5_free yX5_free ∈ zWS := zWS_of 23 (by decide +kernel) rfl
theorem se_yX5_amount : Cond.selects RX5 yX5_amount yX5_amount ∈ zWS := zWS_of 24 (by decide +kernel) rfl
theorem se_yX5_bidAt : Cond.selects RX5 yX5_bidAt yX5_bidAt ∈ zWS := zWS_of 25 (by decide +kernel) rfl
theorem se_yX5_adds : Cond.selects RX5 yX5_adds yX5_adds ∈ zWS := zWS_of 26 (by decide +kernel) rfl
theorem se_yX5_receives : Cond.selects RX5 yX5_receives yX5_receives ∈ zWS := zWS_of 27 (by decide +kernel) rfl
theorem se_yX5_asides : Cond.selects RX5 yX5_asides yX5_asides ∈ zWS := zWS_of 28 (by decide +kernel) rfl
theorem se_yX5_bids : Cond.selects RX5 yX5_bids yX5_bids ∈ zWS := zWS_of 29 (by decide +kernel) rfl
theorem se_yX5_swaps : Cond.selects RX5 yX5_swaps yX5_swaps ∈ zWS := zWS_of 30 (by decide +kernel) rfl
theorem se_yX5_backs : Cond.selects RX5 yX5_backs yX5_backs ∈ zWS := zWS_of 31 (by decide +kernel) rfl
theorem se_yX5_settlesAll : Cond.selects RX5 yX5_settlesAll yX5_settlesAll ∈ zWS := zWS_of 32 (by decide +kernel) rfl
theorem se_yX5_settles : Cond.selects RX5 yX5_settles yX5_settles ∈ zWS := zWS_of 33 (by decide +kernel) rfl
theorem se_yX5_bidsFor : Cond.selects RX5 yX5_bidsFor yX5_bidsFor ∈ zWS := zWS_of 34 (by decide +kernel) rfl
theorem se_yX5_slotOf : Cond.selects RX5 yX5_slotOf yX5_slotOf ∈ zWS := zWS_of 35 (by decide +kernel) rfl
theorem se_yX5_puts : Cond.selects RX5 yX5_puts yX5_puts ∈ zWS := zWS_of 36 (by decide +kernel) rfl
theorem se_yX5_winnerOf : Cond.selects RX5 yX5_winnerOf yX5_winnerOf ∈ zWS := zWS_of 37 (by decide +kernel) rfl
theorem se_yX5_sumOf : Cond.selects RX5 yX5_sumOf yX5_sumOf ∈ zWS := zWS_of 38 (by decide +kernel) rfl
theorem se_yX5_tied : Cond.selects RX5 yX5_tied yX5_tied ∈ zWS := zWS_of 39 (by decide +kernel) rfl
theorem se_yX5_noisy : Cond.selects RX5 yX5_noisy yX5_noisy ∈ zWS := zWS_of 40 (by decide +kernel) rfl
theorem se_yX5_reads : Cond.selects RX5 yX5_reads yX5_reads ∈ zWS := zWS_of 41 (by decide +kernel) rfl
theorem se_yX5_here : Cond.selects RX5 yX5_here yX5_here ∈ zWS := zWS_of 42 (by decide +kernel) rfl
theorem se_yX5_opens : Cond.selects RX5 yX5_opens yX5_opens ∈ zWS := zWS_of 43 (by decide +kernel) rfl
theorem se_yX5_fails : Cond.selects RX5 yX5_fails yX5_fails ∈ zWS := zWS_of 44 (by decide +kernel) rfl
theorem se_yX5_failedBy : Cond.selects RX5 yX5_failedBy yX5_failedBy ∈ zWS := zWS_of 45 (by decide +kernel) rfl
theorem se_yX5_number : Cond.selects RX5 yX5_number yX5_number ∈ zWS := zWS_of 46 (by decide +kernel) rfl
theorem se_yX5_sign : Cond.selects RX5 yX5_sign yX5_sign ∈ zWS := zWS_of 47 (by decide +kernel) rfl
theorem se_yX5_readPart : Cond.selects RX5 yX5_readPart yX5_readPart ∈ zWS := zWS_of 48 (by decide +kernel) rfl
theorem se_yX5_allBids : Cond.selects RX5 yX5_allBids yX5_allBids ∈ zWS := zWS_of 49 (by decide +kernel) rfl
theorem se_yX5_bidsBy : Cond.selects RX5 yX5_bidsBy yX5_bidsBy ∈ zWS := zWS_of 50 (by decide +kernel) rfl
theorem se_yX5_money : Cond.selects RX5 yX5_money yX5_money ∈ zWS := zWS_of 51 (by decide +kernel) rfl
theorem se_yX5_debts : Cond.selects RX5 yX5_debts yX5_debts ∈ zWS := zWS_of 52 (by decide +kernel) rfl
theorem zinX0 : ∀ w ∈ wsX00, w ∈ zWS := zWS_all [164, 166, 168] (by decide +kernel) (by decide +kernel)
theorem zinX1 : ∀ w ∈ wsX10, w ∈ zWS := zWS_all [198, 200, 202, 204, 206, 208, 210] (by decide +kernel) (by decide +kernel)
theorem zinX2 : ∀ w ∈ wsX20, w ∈ zWS := zWS_all [227, 229, 231, 233, 235, 237, 239, 241] (by decide +kernel) (by decide +kernel)
theorem zinX3 : ∀ w ∈ wsX30, w ∈ zWS := zWS_all [111, 113, 115, 117, 119, 121, 123, 125, 127, 129, 131, 133, 135, 137, 139, 141, 143, 145, 147] (by decide +kernel) (by decide +kernel)
theorem zinX4 : ∀ w ∈ wsX40, w ∈ zWS := zWS_all [249, 251, 253, 255, 257] (by decide +kernel) (by decide +kernel)
theorem zinX5 : ∀ w ∈ wsX50, w ∈ zWS := zWS_all [603, 605, 607, 609, 611, 613, 615, 617, 619, 621, 623, 625, 627, 629] (by decide +kernel) (by decide +kernel)
