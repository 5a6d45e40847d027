/-- the good words of the tables -/
def zWS : List Cond := lw_tbl.filter goodWord
theorem zWS_of {w : Cond} (i : Nat) (h : lw_tbl[i]? = some w) (hg : goodWord w = true) : w ∈ zWS := List.mem_filter.mpr ⟨List.mem_of_getElem? h, hg⟩
theorem zWS_all {ws : List Cond} (ps : List Nat) (hp : ws = ps.filterMap (fun i => lw_tbl[i]?)) (h : ws.all goodWord = true) : ∀ w ∈ ws, w ∈ zWS := by
  intro w hw
  have h1 := List.all_eq_true.mp h w hw
  rw [hp] at hw
  obtain ⟨i, -, hi⟩ := List.mem_filterMap.mp hw
  exact zWS_of i hi h1
theorem in_L : Cond.initialized "SilenceHoursLaw" ∈ zWS := zWS_of 20 (by decide +kernel) rfl
theorem in_X4 : Cond.initialized "SilenceHours" ∈ zWS := zWS_of 21 (by decide +kernel) rfl
theorem in_X3 : Cond.initialized "SilenceHours$State" ∈ zWS := zWS_of 22 (by decide +kernel) rfl
theorem in_X0 : Cond.initialized "SilenceHours$History" ∈ zWS := zWS_of 23 (by decide +kernel) rfl
theorem in_X2 : Cond.initialized "SilenceHours$Plan" ∈ zWS := zWS_of 24 (by decide +kernel) rfl
theorem in_X1 : Cond.initialized "SilenceHours$Part" ∈ zWS := zWS_of 25 (by decide +kernel) rfl
theorem in_J10 : Cond.initialized "java/lang/System" ∈ zWS := zWS_of 26 (by decide +kernel) rfl
theorem in_J9 : Cond.initialized "java/lang/Math" ∈ zWS := zWS_of 27 (by decide +kernel) rfl
theorem in_J6 : Cond.initialized "java/lang/Integer" ∈ zWS := zWS_of 28 (by decide +kernel) rfl
theorem in_J7 : Cond.initialized "java/util/Arrays" ∈ zWS := zWS_of 29 (by decide +kernel) rfl
theorem cl_L_10 : Cond.classLink "SilenceHoursLaw" 10 "SilenceHours" ∈ zWS := zWS_of 30 (by decide +kernel) rfl
theorem it_X4 : Cond.instantiable "SilenceHours" 5 ∈ zWS := zWS_of 31 (by decide +kernel) rfl
theorem ml_L_96 : Cond.methodLink "SilenceHoursLaw" 96 yX4_init ∈ zWS := zWS_of 32 (by decide +kernel) rfl
theorem im_yX4_init : Cond.instanceMethod yX4_init ∈ zWS := zWS_of 33 (by decide +kernel) rfl
set_option maxRecDepth 100000 in
theorem co_yX4_init : Cond.code yX4_init prog_1_method_1_code 1 none ∈ zWS := zWS_of 34 rfl rfl
theorem ml_X4_3 : Cond.methodLink "SilenceHours" 3 objectInit ∈ zWS := zWS_of 35 (by decide +kernel) rfl
theorem im_objectInit : Cond.instanceMethod objectInit ∈ zWS := zWS_of 36 (by decide +kernel) rfl
set_option maxRecDepth 100000 in
theorem co_objectInit : Cond.code objectInit object_method_1_code 1 none ∈ zWS := zWS_of 37 rfl rfl
theorem cl_X4_9 : Cond.classLink "SilenceHours" 9 "SilenceHours$State" ∈ zWS := zWS_of 38 (by decide +kernel) rfl
theorem it_X3 : Cond.instantiable "SilenceHours$State" 19 ∈ zWS := zWS_of 39 (by decide +kernel) rfl
theorem im_yX3_init : Cond.instanceMethod yX3_init ∈ zWS := zWS_of 41 (by decide +kernel) rfl
set_option maxRecDepth 100000 in
theorem co_yX3_init : Cond.code yX3_init prog_5_method_1_code 1 none ∈ zWS := zWS_of 42 rfl rfl
theorem ml_X3_3 : Cond.methodLink "SilenceHours$State" 3 objectInit ∈ zWS := zWS_of 43 (by decide +kernel) rfl
theorem fl_X3_61 : Cond.fieldLink "SilenceHours$State" 61 "SilenceHours$State" "day" "I" ∈ zWS := zWS_of 44 (by decide +kernel) rfl
theorem fl_X4_87 : Cond.fieldLink "SilenceHours" 87 "SilenceHours$State" "day" "I" ∈ zWS := zWS_of 45 (by decide +kernel) rfl
theorem fl_X3_9 : Cond.fieldLink "SilenceHours$State" 9 "SilenceHours$State" "fine" "I" ∈ zWS := zWS_of 46 (by decide +kernel) rfl
theorem fl_X4_84 : Cond.fieldLink "SilenceHours" 84 "SilenceHours$State" "fine" "I" ∈ zWS := zWS_of 47 (by decide +kernel) rfl
theorem fl_X3_64 : Cond.fieldLink "SilenceHours$State" 64 "SilenceHours$State" "breaches" "I" ∈ zWS := zWS_of 48 (by decide +kernel) rfl
theorem fl_X4_169 : Cond.fieldLink "SilenceHours" 169 "SilenceHours$State" "breaches" "I" ∈ zWS := zWS_of 49 (by decide +kernel) rfl
theorem fl_X4_42 : Cond.fieldLink "SilenceHours" 42 "SilenceHours$State" "people" "I" ∈ zWS := zWS_of 50 (by decide +kernel) rfl
theorem fl_X3_67 : Cond.fieldLink "SilenceHours$State" 67 "SilenceHours$State" "people" "I" ∈ zWS := zWS_of 51 (by decide +kernel) rfl
theorem fl_X3_15 : Cond.fieldLink "SilenceHours$State" 15 "SilenceHours$State" "purses" "[I" ∈ zWS := zWS_of 52 (by decide +kernel) rfl
theorem fl_X4_50 : Cond.fieldLink "SilenceHours" 50 "SilenceHours$State" "purses" "[I" ∈ zWS := zWS_of 53 (by decide +kernel) rfl
theorem fl_X3_19 : Cond.fieldLink "SilenceHours$State" 19 "SilenceHours$State" "heldForBids" "[I" ∈ zWS := zWS_of 54 (by decide +kernel) rfl
theorem fl_X3_22 : Cond.fieldLink "SilenceHours$State" 22 "SilenceHours$State" "debts" "[I" ∈ zWS := zWS_of 55 (by decide +kernel) rfl
theorem fl_X4_176 : Cond.fieldLink "SilenceHours" 176 "SilenceHours$State" "debts" "[I" ∈ zWS := zWS_of 56 (by decide +kernel) rfl
theorem fl_X3_25 : Cond.fieldLink "SilenceHours$State" 25 "SilenceHours$State" "breachStreets" "[I" ∈ zWS := zWS_of 57 (by decide +kernel) rfl
theorem fl_X3_28 : Cond.fieldLink "SilenceHours$State" 28 "SilenceHours$State" "bidsWon" "[I" ∈ zWS := zWS_of 58 (by decide +kernel) rfl
theorem fl_X4_182 : Cond.fieldLink "SilenceHours" 182 "SilenceHours$State" "bidsWon" "[I" ∈ zWS := zWS_of 59 (by decide +kernel) rfl
theorem fl_X3_31 : Cond.fieldLink "SilenceHours$State" 31 "SilenceHours$State" "paidForWon" "[I" ∈ zWS := zWS_of 60 (by decide +kernel) rfl
theorem fl_X4_185 : Cond.fieldLink "SilenceHours" 185 "SilenceHours$State" "paidForWon" "[I" ∈ zWS := zWS_of 61 (by decide +kernel) rfl
theorem fl_X3_34 : Cond.fieldLink "SilenceHours$State" 34 "SilenceHours$State" "sharedOut" "[I" ∈ zWS := zWS_of 62 (by decide +kernel) rfl
theorem fl_X4_188 : Cond.fieldLink "SilenceHours" 188 "SilenceHours$State" "sharedOut" "[I" ∈ zWS := zWS_of 63 (by decide +kernel) rfl
theorem fl_X3_37 : Cond.fieldLink "SilenceHours$State" 37 "SilenceHours$State" "breachesBy" "[I" ∈ zWS := zWS_of 64 (by decide +kernel) rfl
theorem fl_X4_191 : Cond.fieldLink "SilenceHours" 191 "SilenceHours$State" "breachesBy" "[I" ∈ zWS := zWS_of 65 (by decide +kernel) rfl
theorem fl_X3_40 : Cond.fieldLink "SilenceHours$State" 40 "SilenceHours$State" "bids" "[I" ∈ zWS := zWS_of 66 (by decide +kernel) rfl
theorem fl_X3_43 : Cond.fieldLink "SilenceHours$State" 43 "SilenceHours$State" "owners" "[I" ∈ zWS := zWS_of 67 (by decide +kernel) rfl
theorem fl_X4_97 : Cond.fieldLink "SilenceHours" 97 "SilenceHours$State" "owners" "[I" ∈ zWS := zWS_of 68 (by decide +kernel) rfl
theorem fl_X3_46 : Cond.fieldLink "SilenceHours$State" 46 "SilenceHours$State" "carried" "[I" ∈ zWS := zWS_of 69 (by decide +kernel) rfl
theorem fl_X4_197 : Cond.fieldLink "SilenceHours" 197 "SilenceHours$State" "carried" "[I" ∈ zWS := zWS_of 70 (by decide +kernel) rfl
theorem fl_X3_49 : Cond.fieldLink "SilenceHours$State" 49 "SilenceHours$State" "tieSides" "[I" ∈ zWS := zWS_of 71 (by decide +kernel) rfl
theorem fl_X3_52 : Cond.fieldLink "SilenceHours$State" 52 "SilenceHours$State" "quietWinners" "[I" ∈ zWS := zWS_of 72 (by decide +kernel) rfl
theorem fl_X3_55 : Cond.fieldLink "SilenceHours$State" 55 "SilenceHours$State" "lastPaid" "[I" ∈ zWS := zWS_of 73 (by decide +kernel) rfl
theorem fl_X4_203 : Cond.fieldLink "SilenceHours" 203 "SilenceHours$State" "lastPaid" "[I" ∈ zWS := zWS_of 74 (by decide +kernel) rfl
theorem fl_X3_58 : Cond.fieldLink "SilenceHours$State" 58 "SilenceHours$State" "funds" "[I" ∈ zWS := zWS_of 75 (by decide +kernel) rfl
theorem fl_X4_212 : Cond.fieldLink "SilenceHours" 212 "SilenceHours$State" "funds" "[I" ∈ zWS := zWS_of 76 (by decide +kernel) rfl
theorem ac_int : Cond.arrayClass FieldType.int ∈ zWS := zWS_of 116 (by decide +kernel) rfl
theorem cl_X4_19 : Cond.classLink "SilenceHours" 19 "SilenceHours$History" ∈ zWS := zWS_of 117 (by decide +kernel) rfl
theorem it_X0 : Cond.instantiable "SilenceHours$History" 3 ∈ zWS := zWS_of 118 (by decide +kernel) rfl
theorem ml_X4_21 : Cond.methodLink "SilenceHours" 21 yX0_init ∈ zWS := zWS_of 119 (by decide +kernel) rfl
theorem im_yX0_init : Cond.instanceMethod yX0_init ∈ zWS := zWS_of 120 (by decide +kernel) rfl
set_option maxRecDepth 100000 in
theorem co_yX0_init : Cond.code yX0_init prog_2_method_1_code 2 none ∈ zWS := zWS_of 121 rfl rfl
theorem ml_X0_3 : Cond.methodLink "SilenceHours$History" 3 objectInit ∈ zWS := zWS_of 122 (by decide +kernel) rfl
theorem cl_X0_9 : Cond.classLink "SilenceHours$History" 9 "SilenceHours$State" ∈ zWS := zWS_of 123 (by decide +kernel) rfl
theorem fl_X0_11 : Cond.fieldLink "SilenceHours$History" 11 "SilenceHours$History" "rows" "[LSilenceHours$State;" ∈ zWS := zWS_of 126 (by decide +kernel) rfl
theorem fl_X0_18 : Cond.fieldLink "SilenceHours$History" 18 "SilenceHours$History" "oldest" "I" ∈ zWS := zWS_of 127 (by decide +kernel) rfl
theorem fl_X0_22 : Cond.fieldLink "SilenceHours$History" 22 "SilenceHours$History" "size" "I" ∈ zWS := zWS_of 128 (by decide +kernel) rfl
theorem fl_X4_103 : Cond.fieldLink "SilenceHours" 103 "SilenceHours$History" "size" "I" ∈ zWS := zWS_of 129 (by decide +kernel) rfl
theorem cl_X4_26 : Cond.classLink "SilenceHours" 26 "SilenceHours$Plan" ∈ zWS := zWS_of 137 (by decide +kernel) rfl
theorem it_X2 : Cond.instantiable "SilenceHours$Plan" 8 ∈ zWS := zWS_of 138 (by decide +kernel) rfl
theorem ml_X4_28 : Cond.methodLink "SilenceHours" 28 yX2_init ∈ zWS := zWS_of 139 (by decide +kernel) rfl
theorem im_yX2_init : Cond.instanceMethod yX2_init ∈ zWS := zWS_of 140 (by decide +kernel) rfl
set_option maxRecDepth 100000 in
theorem co_yX2_init : Cond.code yX2_init prog_4_method_1_code 2 none ∈ zWS := zWS_of 141 rfl rfl
theorem ml_X2_3 : Cond.methodLink "SilenceHours$Plan" 3 objectInit ∈ zWS := zWS_of 142 (by decide +kernel) rfl
theorem cl_X2_15 : Cond.classLink "SilenceHours$Plan" 15 "SilenceHours$Part" ∈ zWS := zWS_of 143 (by decide +kernel) rfl
theorem it_X1 : Cond.instantiable "SilenceHours$Part" 7 ∈ zWS := zWS_of 145 (by decide +kernel) rfl
theorem im_yX1_init : Cond.instanceMethod yX1_init ∈ zWS := zWS_of 147 (by decide +kernel) rfl
set_option maxRecDepth 100000 in
theorem co_yX1_init : Cond.code yX1_init prog_3_method_1_code 1 none ∈ zWS := zWS_of 148 rfl rfl
theorem ml_X1_1 : Cond.methodLink "SilenceHours$Part" 1 objectInit ∈ zWS := zWS_of 149 (by decide +kernel) rfl
theorem fl_X2_84 : Cond.fieldLink "SilenceHours$Plan" 84 "SilenceHours$Part" "place" "I" ∈ zWS := zWS_of 150 (by decide +kernel) rfl
theorem fl_X4_153 : Cond.fieldLink "SilenceHours" 153 "SilenceHours$Part" "place" "I" ∈ zWS := zWS_of 151 (by decide +kernel) rfl
theorem fl_X2_87 : Cond.fieldLink "SilenceHours$Plan" 87 "SilenceHours$Part" "depth" "I" ∈ zWS := zWS_of 152 (by decide +kernel) rfl
theorem fl_X4_156 : Cond.fieldLink "SilenceHours" 156 "SilenceHours$Part" "depth" "I" ∈ zWS := zWS_of 153 (by decide +kernel) rfl
theorem fl_X2_88 : Cond.fieldLink "SilenceHours$Plan" 88 "SilenceHours$Part" "side" "I" ∈ zWS := zWS_of 154 (by decide +kernel) rfl
theorem fl_X4_157 : Cond.fieldLink "SilenceHours" 157 "SilenceHours$Part" "side" "I" ∈ zWS := zWS_of 155 (by decide +kernel) rfl
theorem fl_X2_91 : Cond.fieldLink "SilenceHours$Plan" 91 "SilenceHours$Part" "street" "I" ∈ zWS := zWS_of 156 (by decide +kernel) rfl
theorem fl_X4_147 : Cond.fieldLink "SilenceHours" 147 "SilenceHours$Part" "street" "I" ∈ zWS := zWS_of 157 (by decide +kernel) rfl
theorem fl_X2_94 : Cond.fieldLink "SilenceHours$Plan" 94 "SilenceHours$Part" "firstHour" "I" ∈ zWS := zWS_of 158 (by decide +kernel) rfl
theorem fl_X4_139 : Cond.fieldLink "SilenceHours" 139 "SilenceHours$Part" "firstHour" "I" ∈ zWS := zWS_of 159 (by decide +kernel) rfl
theorem fl_X2_97 : Cond.fieldLink "SilenceHours$Plan" 97 "SilenceHours$Part" "lastHour" "I" ∈ zWS := zWS_of 160 (by decide +kernel) rfl
theorem fl_X4_144 : Cond.fieldLink "SilenceHours" 144 "SilenceHours$Part" "lastHour" "I" ∈ zWS := zWS_of 161 (by decide +kernel) rfl
theorem fl_X2_100 : Cond.fieldLink "SilenceHours$Plan" 100 "SilenceHours$Part" "amount" "I" ∈ zWS := zWS_of 162 (by decide +kernel) rfl
theorem fl_X4_150 : Cond.fieldLink "SilenceHours" 150 "SilenceHours$Part" "amount" "I" ∈ zWS := zWS_of 163 (by decide +kernel) rfl
theorem fl_X2_9 : Cond.fieldLink "SilenceHours$Plan" 9 "SilenceHours$Plan" "text" "[I" ∈ zWS := zWS_of 179 (by decide +kernel) rfl
theorem fl_X4_112 : Cond.fieldLink "SilenceHours" 112 "SilenceHours$Plan" "text" "[I" ∈ zWS := zWS_of 180 (by decide +kernel) rfl
theorem fl_X2_38 : Cond.fieldLink "SilenceHours$Plan" 38 "SilenceHours$Plan" "length" "I" ∈ zWS := zWS_of 181 (by decide +kernel) rfl
theorem fl_X4_109 : Cond.fieldLink "SilenceHours" 109 "SilenceHours$Plan" "length" "I" ∈ zWS := zWS_of 182 (by decide +kernel) rfl
theorem fl_X2_17 : Cond.fieldLink "SilenceHours$Plan" 17 "SilenceHours$Plan" "parts" "[LSilenceHours$Part;" ∈ zWS := zWS_of 183 (by decide +kernel) rfl
theorem fl_X4_135 : Cond.fieldLink "SilenceHours" 135 "SilenceHours$Plan" "parts" "[LSilenceHours$Part;" ∈ zWS := zWS_of 184 (by decide +kernel) rfl
theorem fl_X2_35 : Cond.fieldLink "SilenceHours$Plan" 35 "SilenceHours$Plan" "partCount" "I" ∈ zWS := zWS_of 185 (by decide +kernel) rfl
theorem fl_X4_132 : Cond.fieldLink "SilenceHours" 132 "SilenceHours$Plan" "partCount" "I" ∈ zWS := zWS_of 186 (by decide +kernel) rfl
theorem fl_X2_21 : Cond.fieldLink "SilenceHours$Plan" 21 "SilenceHours$Plan" "failedAt" "I" ∈ zWS := zWS_of 187 (by decide +kernel) rfl
theorem fl_X4_119 : Cond.fieldLink "SilenceHours" 119 "SilenceHours$Plan" "failedAt" "I" ∈ zWS := zWS_of 188 (by decide +kernel) rfl
theorem fl_X2_32 : Cond.fieldLink "SilenceHours$Plan" 32 "SilenceHours$Plan" "depth" "I" ∈ zWS := zWS_of 189 (by decide +kernel) rfl
theorem fl_X4_122 : Cond.fieldLink "SilenceHours" 122 "SilenceHours$Plan" "depth" "I" ∈ zWS := zWS_of 190 (by decide +kernel) rfl
theorem fl_X2_29 : Cond.fieldLink "SilenceHours$Plan" 29 "SilenceHours$Plan" "position" "I" ∈ zWS := zWS_of 191 (by decide +kernel) rfl
theorem fl_X2_25 : Cond.fieldLink "SilenceHours$Plan" 25 "SilenceHours$Plan" "factors" "[I" ∈ zWS := zWS_of 192 (by decide +kernel) rfl
theorem fl_X4_12 : Cond.fieldLink "SilenceHours" 12 "SilenceHours" "state" "LSilenceHours$State;" ∈ zWS := zWS_of 210 (by decide +kernel) rfl
theorem fl_X4_16 : Cond.fieldLink "SilenceHours" 16 "SilenceHours" "spare" "LSilenceHours$State;" ∈ zWS := zWS_of 211 (by decide +kernel) rfl
theorem fl_X4_22 : Cond.fieldLink "SilenceHours" 22 "SilenceHours" "history" "LSilenceHours$History;" ∈ zWS := zWS_of 212 (by decide +kernel) rfl
theorem fl_X4_29 : Cond.fieldLink "SilenceHours" 29 "SilenceHours" "plan" "LSilenceHours$Plan;" ∈ zWS := zWS_of 213 (by decide +kernel) rfl
theorem fl_X4_33 : Cond.fieldLink "SilenceHours" 33 "SilenceHours" "failureParts" "[I" ∈ zWS := zWS_of 214 (by decide +kernel) rfl
theorem ml_L_39 : Cond.methodLink "SilenceHoursLaw" 39 yX4_join ∈ zWS := zWS_of 226 (by decide +kernel) rfl
theorem im_yX4_join : Cond.instanceMethod yX4_join ∈ zWS := zWS_of 227 (by decide +kernel) rfl
theorem se_yX4_join : Cond.selects "SilenceHours" yX4_join yX4_join ∈ zWS := zWS_of 228 (by decide +kernel) rfl
set_option maxRecDepth 100000 in
theorem co_yX4_join : Cond.code yX4_join prog_1_method_2_code 2 (Option.some FieldType.int) ∈ zWS := zWS_of 229 rfl rfl
theorem cs_X4_37 : Cond.constant "SilenceHours" 37 (100000) ∈ zWS := zWS_of 230 (by decide +kernel) rfl
theorem ml_X4_38 : Cond.methodLink "SilenceHours" 38 yX4_isWithin ∈ zWS := zWS_of 231 (by decide +kernel) rfl
theorem st_yX4_isWithin : Cond.static yX4_isWithin ∈ zWS := zWS_of 232 (by decide +kernel) rfl
set_option maxRecDepth 100000 in
theorem co_yX4_isWithin : Cond.code yX4_isWithin prog_1_method_27_code 3 (Option.some FieldType.boolean) ∈ zWS := zWS_of 233 rfl rfl
theorem ml_X4_46 : Cond.methodLink "SilenceHours" 46 yX0_record ∈ zWS := zWS_of 234 (by decide +kernel) rfl
theorem im_yX0_record : Cond.instanceMethod yX0_record ∈ zWS := zWS_of 235 (by decide +kernel) rfl
theorem se_yX0_record : Cond.selects "SilenceHours$History" yX0_record yX0_record ∈ zWS := zWS_of 236 (by decide +kernel) rfl
set_option maxRecDepth 100000 in
theorem co_yX0_record : Cond.code yX0_record prog_2_method_2_code 2 none ∈ zWS := zWS_of 237 rfl rfl
theorem ml_X0_25 : Cond.methodLink "SilenceHours$History" 25 yX3_copyFrom ∈ zWS := zWS_of 238 (by decide +kernel) rfl
theorem im_yX3_copyFrom : Cond.instanceMethod yX3_copyFrom ∈ zWS := zWS_of 239 (by decide +kernel) rfl
theorem se_yX3_copyFrom : Cond.selects "SilenceHours$State" yX3_copyFrom yX3_copyFrom ∈ zWS := zWS_of 240 (by decide +kernel) rfl
set_option maxRecDepth 100000 in
theorem co_yX3_copyFrom : Cond.code yX3_copyFrom prog_5_method_2_code 2 none ∈ zWS := zWS_of 241 rfl rfl
theorem ml_X3_70 : Cond.methodLink "SilenceHours$State" 70 arraycopyName ∈ zWS := zWS_of 242 (by decide +kernel) rfl
theorem st_arraycopyName : Cond.static arraycopyName ∈ zWS := zWS_of 243 (by decide +kernel) rfl
theorem na_arraycopyName : Cond.native arraycopyName ∈ zWS := zWS_of 244 (by decide +kernel) rfl
theorem ml_L_42 : Cond.methodLink "SilenceHoursLaw" 42 yX4_undo ∈ zWS := zWS_of 245 (by decide +kernel) rfl
theorem im_yX4_undo : Cond.instanceMethod yX4_undo ∈ zWS := zWS_of 246 (by decide +kernel) rfl
theorem se_yX4_undo : Cond.selects "SilenceHours" yX4_undo yX4_undo ∈ zWS := zWS_of 247 (by decide +kernel) rfl
set_option maxRecDepth 100000 in
theorem co_yX4_undo : Cond.code yX4_undo prog_1_method_8_code 1 (Option.some FieldType.int) ∈ zWS := zWS_of 248 rfl rfl
theorem ml_X4_106 : Cond.methodLink "SilenceHours" 106 yX0_restoreLatest ∈ zWS := zWS_of 249 (by decide +kernel) rfl
theorem im_yX0_restoreLatest : Cond.instanceMethod yX0_restoreLatest ∈ zWS := zWS_of 250 (by decide +kernel) rfl
theorem se_yX0_restoreLatest : Cond.selects "SilenceHours$History" yX0_restoreLatest yX0_restoreLatest ∈ zWS := zWS_of 251 (by decide +kernel) rfl
set_option maxRecDepth 100000 in
theorem co_yX0_restoreLatest : Cond.code yX0_restoreLatest prog_2_method_3_code 2 none ∈ zWS := zWS_of 252 rfl rfl
theorem ml_L_69 : Cond.methodLink "SilenceHoursLaw" 69 yX4_failure ∈ zWS := zWS_of 253 (by decide +kernel) rfl
theorem im_yX4_failure : Cond.instanceMethod yX4_failure ∈ zWS := zWS_of 254 (by decide +kernel) rfl
theorem se_yX4_failure : Cond.selects "SilenceHours" yX4_failure yX4_failure ∈ zWS := zWS_of 255 (by decide +kernel) rfl
set_option maxRecDepth 100000 in
theorem co_yX4_failure : Cond.code yX4_failure prog_1_method_12_code 3 (Option.some FieldType.int) ∈ zWS := zWS_of 256 rfl rfl
theorem ml_L_15 : Cond.methodLink "SilenceHoursLaw" 15 yX4_count ∈ zWS := zWS_of 257 (by decide +kernel) rfl
theorem im_yX4_count : Cond.instanceMethod yX4_count ∈ zWS := zWS_of 258 (by decide +kernel) rfl
theorem se_yX4_count : Cond.selects "SilenceHours" yX4_count yX4_count ∈ zWS := zWS_of 259 (by decide +kernel) rfl
set_option maxRecDepth 100000 in
theorem co_yX4_count : Cond.code yX4_count prog_1_method_13_code 2 (Option.some FieldType.int) ∈ zWS := zWS_of 260 rfl rfl
theorem ml_X4_160 : Cond.methodLink "SilenceHours" 160 yX3_allBids ∈ zWS := zWS_of 261 (by decide +kernel) rfl
theorem im_yX3_allBids : Cond.instanceMethod yX3_allBids ∈ zWS := zWS_of 262 (by decide +kernel) rfl
theorem se_yX3_allBids : Cond.selects "SilenceHours$State" yX3_allBids yX3_allBids ∈ zWS := zWS_of 263 (by decide +kernel) rfl
set_option maxRecDepth 100000 in
theorem co_yX3_allBids : Cond.code yX3_allBids prog_5_method_16_code 3 (Option.some FieldType.int) ∈ zWS := zWS_of 264 rfl rfl
theorem ml_X3_101 : Cond.methodLink "SilenceHours$State" 101 yX3_bidsBy ∈ zWS := zWS_of 265 (by decide +kernel) rfl
theorem im_yX3_bidsBy : Cond.instanceMethod yX3_bidsBy ∈ zWS := zWS_of 266 (by decide +kernel) rfl
theorem se_yX3_bidsBy : Cond.selects "SilenceHours$State" yX3_bidsBy yX3_bidsBy ∈ zWS := zWS_of 267 (by decide +kernel) rfl
set_option maxRecDepth 100000 in
theorem co_yX3_bidsBy : Cond.code yX3_bidsBy prog_5_method_9_code 4 (Option.some FieldType.int) ∈ zWS := zWS_of 268 rfl rfl
theorem ml_X3_92 : Cond.methodLink "SilenceHours$State" 92 yX3_markedBid ∈ zWS := zWS_of 269 (by decide +kernel) rfl
theorem im_yX3_markedBid : Cond.instanceMethod yX3_markedBid ∈ zWS := zWS_of 270 (by decide +kernel) rfl
theorem se_yX3_markedBid : Cond.selects "SilenceHours$State" yX3_markedBid yX3_markedBid ∈ zWS := zWS_of 271 (by decide +kernel) rfl
set_option maxRecDepth 100000 in
theorem co_yX3_markedBid : Cond.code yX3_markedBid prog_5_method_3_code 3 (Option.some FieldType.int) ∈ zWS := zWS_of 272 rfl rfl
theorem ml_X4_93 : Cond.methodLink "SilenceHours" 93 yX3_noisySlots ∈ zWS := zWS_of 273 (by decide +kernel) rfl
theorem im_yX3_noisySlots : Cond.instanceMethod yX3_noisySlots ∈ zWS := zWS_of 274 (by decide +kernel) rfl
theorem se_yX3_noisySlots : Cond.selects "SilenceHours$State" yX3_noisySlots yX3_noisySlots ∈ zWS := zWS_of 275 (by decide +kernel) rfl
set_option maxRecDepth 100000 in
theorem co_yX3_noisySlots : Cond.code yX3_noisySlots prog_5_method_27_code 3 (Option.some FieldType.int) ∈ zWS := zWS_of 276 rfl rfl
theorem ml_X3_153 : Cond.methodLink "SilenceHours$State" 153 yX3_quietHours ∈ zWS := zWS_of 277 (by decide +kernel) rfl
theorem im_yX3_quietHours : Cond.instanceMethod yX3_quietHours ∈ zWS := zWS_of 278 (by decide +kernel) rfl
theorem se_yX3_quietHours : Cond.selects "SilenceHours$State" yX3_quietHours yX3_quietHours ∈ zWS := zWS_of 279 (by decide +kernel) rfl
set_option maxRecDepth 100000 in
theorem co_yX3_quietHours : Cond.code yX3_quietHours prog_5_method_28_code 4 (Option.some FieldType.int) ∈ zWS := zWS_of 280 rfl rfl
theorem st_yX4_slotAt : Cond.static yX4_slotAt ∈ zWS := zWS_of 282 (by decide +kernel) rfl
set_option maxRecDepth 100000 in
theorem co_yX4_slotAt : Cond.code yX4_slotAt prog_1_method_28_code 2 (Option.some FieldType.int) ∈ zWS := zWS_of 283 rfl rfl
theorem ml_X4_163 : Cond.methodLink "SilenceHours" 163 yX3_allMoney ∈ zWS := zWS_of 284 (by decide +kernel) rfl
theorem im_yX3_allMoney : Cond.instanceMethod yX3_allMoney ∈ zWS := zWS_of 285 (by decide +kernel) rfl
theorem se_yX3_allMoney : Cond.selects "SilenceHours$State" yX3_allMoney yX3_allMoney ∈ zWS := zWS_of 286 (by decide +kernel) rfl
set_option maxRecDepth 100000 in
theorem co_yX3_allMoney : Cond.code yX3_allMoney prog_5_method_14_code 3 (Option.some FieldType.int) ∈ zWS := zWS_of 287 rfl rfl
theorem ml_X4_166 : Cond.methodLink "SilenceHours" 166 yX3_allDebts ∈ zWS := zWS_of 288 (by decide +kernel) rfl
theorem im_yX3_allDebts : Cond.instanceMethod yX3_allDebts ∈ zWS := zWS_of 289 (by decide +kernel) rfl
theorem se_yX3_allDebts : Cond.selects "SilenceHours$State" yX3_allDebts yX3_allDebts ∈ zWS := zWS_of 290 (by decide +kernel) rfl
set_option maxRecDepth 100000 in
theorem co_yX3_allDebts : Cond.code yX3_allDebts prog_5_method_15_code 3 (Option.some FieldType.int) ∈ zWS := zWS_of 291 rfl rfl
theorem ml_L_29 : Cond.methodLink "SilenceHoursLaw" 29 yX4_winner ∈ zWS := zWS_of 292 (by decide +kernel) rfl
theorem im_yX4_winner : Cond.instanceMethod yX4_winner ∈ zWS := zWS_of 293 (by decide +kernel) rfl
theorem se_yX4_winner : Cond.selects "SilenceHours" yX4_winner yX4_winner ∈ zWS := zWS_of 294 (by decide +kernel) rfl
set_option maxRecDepth 100000 in
theorem co_yX4_winner : Cond.code yX4_winner prog_1_method_18_code 3 (Option.some FieldType.int) ∈ zWS := zWS_of 295 rfl rfl
theorem ml_X4_66 : Cond.methodLink "SilenceHours" 66 yX4_isSlot ∈ zWS := zWS_of 296 (by decide +kernel) rfl
theorem st_yX4_isSlot : Cond.static yX4_isSlot ∈ zWS := zWS_of 297 (by decide +kernel) rfl
set_option maxRecDepth 100000 in
theorem co_yX4_isSlot : Cond.code yX4_isSlot prog_1_method_25_code 2 (Option.some FieldType.boolean) ∈ zWS := zWS_of 298 rfl rfl
theorem ml_X4_209 : Cond.methodLink "SilenceHours" 209 yX4_isStreet ∈ zWS := zWS_of 299 (by decide +kernel) rfl
theorem st_yX4_isStreet : Cond.static yX4_isStreet ∈ zWS := zWS_of 300 (by decide +kernel) rfl
set_option maxRecDepth 100000 in
theorem co_yX4_isStreet : Cond.code yX4_isStreet prog_1_method_24_code 1 (Option.some FieldType.boolean) ∈ zWS := zWS_of 301 rfl rfl
theorem ml_X4_72 : Cond.methodLink "SilenceHours" 72 yX4_slotAt ∈ zWS := zWS_of 302 (by decide +kernel) rfl
theorem ml_X4_215 : Cond.methodLink "SilenceHours" 215 yX3_ownerThen ∈ zWS := zWS_of 303 (by decide +kernel) rfl
theorem im_yX3_ownerThen : Cond.instanceMethod yX3_ownerThen ∈ zWS := zWS_of 304 (by decide +kernel) rfl
theorem se_yX3_ownerThen : Cond.selects "SilenceHours$State" yX3_ownerThen yX3_ownerThen ∈ zWS := zWS_of 305 (by decide +kernel) rfl
set_option maxRecDepth 100000 in
theorem co_yX3_ownerThen : Cond.code yX3_ownerThen prog_5_method_18_code 4 (Option.some FieldType.int) ∈ zWS := zWS_of 306 rfl rfl
theorem ml_X3_107 : Cond.methodLink "SilenceHours$State" 107 yX3_bidsFor ∈ zWS := zWS_of 307 (by decide +kernel) rfl
theorem im_yX3_bidsFor : Cond.instanceMethod yX3_bidsFor ∈ zWS := zWS_of 308 (by decide +kernel) rfl
theorem se_yX3_bidsFor : Cond.selects "SilenceHours$State" yX3_bidsFor yX3_bidsFor ∈ zWS := zWS_of 309 (by decide +kernel) rfl
set_option maxRecDepth 100000 in
theorem co_yX3_bidsFor : Cond.code yX3_bidsFor prog_5_method_10_code 4 (Option.some FieldType.int) ∈ zWS := zWS_of 310 rfl rfl
theorem ml_X3_110 : Cond.methodLink "SilenceHours$State" 110 yX3_strength ∈ zWS := zWS_of 311 (by decide +kernel) rfl
theorem im_yX3_strength : Cond.instanceMethod yX3_strength ∈ zWS := zWS_of 312 (by decide +kernel) rfl
theorem se_yX3_strength : Cond.selects "SilenceHours$State" yX3_strength yX3_strength ∈ zWS := zWS_of 313 (by decide +kernel) rfl
set_option maxRecDepth 100000 in
theorem co_yX3_strength : Cond.code yX3_strength prog_5_method_17_code 3 (Option.some FieldType.int) ∈ zWS := zWS_of 314 rfl rfl
theorem ml_X3_104 : Cond.methodLink "SilenceHours$State" 104 yX3_sumOfBids ∈ zWS := zWS_of 315 (by decide +kernel) rfl
theorem im_yX3_sumOfBids : Cond.instanceMethod yX3_sumOfBids ∈ zWS := zWS_of 316 (by decide +kernel) rfl
theorem se_yX3_sumOfBids : Cond.selects "SilenceHours$State" yX3_sumOfBids yX3_sumOfBids ∈ zWS := zWS_of 317 (by decide +kernel) rfl
set_option maxRecDepth 100000 in
theorem co_yX3_sumOfBids : Cond.code yX3_sumOfBids prog_5_method_11_code 5 (Option.some FieldType.int) ∈ zWS := zWS_of 318 rfl rfl
theorem ml_X3_76 : Cond.methodLink "SilenceHours$State" 76 yX3_bidFor ∈ zWS := zWS_of 319 (by decide +kernel) rfl
theorem im_yX3_bidFor : Cond.instanceMethod yX3_bidFor ∈ zWS := zWS_of 320 (by decide +kernel) rfl
theorem se_yX3_bidFor : Cond.selects "SilenceHours$State" yX3_bidFor yX3_bidFor ∈ zWS := zWS_of 321 (by decide +kernel) rfl
set_option maxRecDepth 100000 in
theorem co_yX3_bidFor : Cond.code yX3_bidFor prog_5_method_4_code 6 (Option.some FieldType.int) ∈ zWS := zWS_of 322 rfl rfl
theorem ml_L_18 : Cond.methodLink "SilenceHoursLaw" 18 yX4_quiet ∈ zWS := zWS_of 323 (by decide +kernel) rfl
theorem im_yX4_quiet : Cond.instanceMethod yX4_quiet ∈ zWS := zWS_of 324 (by decide +kernel) rfl
theorem se_yX4_quiet : Cond.selects "SilenceHours" yX4_quiet yX4_quiet ∈ zWS := zWS_of 325 (by decide +kernel) rfl
set_option maxRecDepth 100000 in
theorem co_yX4_quiet : Cond.code yX4_quiet prog_1_method_20_code 3 (Option.some FieldType.int) ∈ zWS := zWS_of 326 rfl rfl
theorem ml_X4_221 : Cond.methodLink "SilenceHours" 221 yX3_quietHours ∈ zWS := zWS_of 327 (by decide +kernel) rfl
theorem ml_X4_224 : Cond.methodLink "SilenceHours" 224 yX3_longestQuiet ∈ zWS := zWS_of 328 (by decide +kernel) rfl
theorem im_yX3_longestQuiet : Cond.instanceMethod yX3_longestQuiet ∈ zWS := zWS_of 329 (by decide +kernel) rfl
theorem se_yX3_longestQuiet : Cond.selects "SilenceHours$State" yX3_longestQuiet yX3_longestQuiet ∈ zWS := zWS_of 330 (by decide +kernel) rfl
set_option maxRecDepth 100000 in
theorem co_yX3_longestQuiet : Cond.code yX3_longestQuiet prog_5_method_29_code 4 (Option.some FieldType.int) ∈ zWS := zWS_of 331 rfl rfl
theorem ml_X3_159 : Cond.methodLink "SilenceHours$State" 159 yX3_quietFrom ∈ zWS := zWS_of 332 (by decide +kernel) rfl
theorem im_yX3_quietFrom : Cond.instanceMethod yX3_quietFrom ∈ zWS := zWS_of 334 (by decide +kernel) rfl
set_option maxRecDepth 100000 in
theorem co_yX3_quietFrom : Cond.code yX3_quietFrom prog_5_method_31_code 4 (Option.some FieldType.int) ∈ zWS := zWS_of 335 rfl rfl
theorem ml_X3_119 : Cond.methodLink "SilenceHours$State" 119 Lib.Math.max.name ∈ zWS := zWS_of 336 (by decide +kernel) rfl
theorem st_Lib_Math_max_name : Cond.static Lib.Math.max.name ∈ zWS := zWS_of 337 (by decide +kernel) rfl
set_option maxRecDepth 100000 in
theorem co_Lib_Math_max_name : Cond.code Lib.Math.max.name prog_9_method_65_code 2 (Option.some FieldType.int) ∈ zWS := zWS_of 338 rfl rfl
theorem ml_X4_227 : Cond.methodLink "SilenceHours" 227 yX3_longestQuietStart ∈ zWS := zWS_of 339 (by decide +kernel) rfl
theorem im_yX3_longestQuietStart : Cond.instanceMethod yX3_longestQuietStart ∈ zWS := zWS_of 340 (by decide +kernel) rfl
theorem se_yX3_longestQuietStart : Cond.selects "SilenceHours$State" yX3_longestQuietStart yX3_longestQuietStart ∈ zWS := zWS_of 341 (by decide +kernel) rfl
set_option maxRecDepth 100000 in
theorem co_yX3_longestQuietStart : Cond.code yX3_longestQuietStart prog_5_method_30_code 6 (Option.some FieldType.int) ∈ zWS := zWS_of 342 rfl rfl
theorem ml_L_97 : Cond.methodLink "SilenceHoursLaw" 97 yL_cell ∈ zWS := zWS_of 343 (by decide +kernel) rfl
theorem st_yL_cell : Cond.static yL_cell ∈ zWS := zWS_of 344 (by decide +kernel) rfl
set_option maxRecDepth 100000 in
theorem co_yL_cell : Cond.code yL_cell method_2_code 2 (Option.some FieldType.int) ∈ zWS := zWS_of 345 rfl rfl
theorem cs_L_7 : Cond.constant "SilenceHoursLaw" 7 (15485803) ∈ zWS := zWS_of 346 (by decide +kernel) rfl
theorem cs_L_8 : Cond.constant "SilenceHoursLaw" 8 (2147483647) ∈ zWS := zWS_of 347 (by decide +kernel) rfl
theorem ml_L_105 : Cond.methodLink "SilenceHoursLaw" 105 yL_isSound ∈ zWS := zWS_of 348 (by decide +kernel) rfl
theorem st_yL_isSound : Cond.static yL_isSound ∈ zWS := zWS_of 349 (by decide +kernel) rfl
set_option maxRecDepth 100000 in
theorem co_yL_isSound : Cond.code yL_isSound method_3_code 14 (Option.some FieldType.boolean) ∈ zWS := zWS_of 350 rfl rfl
theorem ml_L_9 : Cond.methodLink "SilenceHoursLaw" 9 yX4_fund ∈ zWS := zWS_of 351 (by decide +kernel) rfl
theorem im_yX4_fund : Cond.instanceMethod yX4_fund ∈ zWS := zWS_of 352 (by decide +kernel) rfl
theorem se_yX4_fund : Cond.selects "SilenceHours" yX4_fund yX4_fund ∈ zWS := zWS_of 353 (by decide +kernel) rfl
set_option maxRecDepth 100000 in
theorem co_yX4_fund : Cond.code yX4_fund prog_1_method_17_code 2 (Option.some FieldType.int) ∈ zWS := zWS_of 354 rfl rfl
theorem ml_L_22 : Cond.methodLink "SilenceHoursLaw" 22 yX4_person ∈ zWS := zWS_of 355 (by decide +kernel) rfl
theorem im_yX4_person : Cond.instanceMethod yX4_person ∈ zWS := zWS_of 356 (by decide +kernel) rfl
theorem se_yX4_person : Cond.selects "SilenceHours" yX4_person yX4_person ∈ zWS := zWS_of 357 (by decide +kernel) rfl
set_option maxRecDepth 100000 in
theorem co_yX4_person : Cond.code yX4_person prog_1_method_14_code 3 (Option.some FieldType.int) ∈ zWS := zWS_of 358 rfl rfl
theorem ml_X4_53 : Cond.methodLink "SilenceHours" 53 yX4_isPerson ∈ zWS := zWS_of 359 (by decide +kernel) rfl
theorem im_yX4_isPerson : Cond.instanceMethod yX4_isPerson ∈ zWS := zWS_of 361 (by decide +kernel) rfl
set_option maxRecDepth 100000 in
theorem co_yX4_isPerson : Cond.code yX4_isPerson prog_1_method_23_code 2 (Option.some FieldType.boolean) ∈ zWS := zWS_of 362 rfl rfl
theorem ml_X4_172 : Cond.methodLink "SilenceHours" 172 yX3_freeMoney ∈ zWS := zWS_of 363 (by decide +kernel) rfl
theorem im_yX3_freeMoney : Cond.instanceMethod yX3_freeMoney ∈ zWS := zWS_of 364 (by decide +kernel) rfl
theorem se_yX3_freeMoney : Cond.selects "SilenceHours$State" yX3_freeMoney yX3_freeMoney ∈ zWS := zWS_of 365 (by decide +kernel) rfl
set_option maxRecDepth 100000 in
theorem co_yX3_freeMoney : Cond.code yX3_freeMoney prog_5_method_6_code 2 (Option.some FieldType.int) ∈ zWS := zWS_of 366 rfl rfl
theorem ml_X4_179 : Cond.methodLink "SilenceHours" 179 yX3_bidsBy ∈ zWS := zWS_of 367 (by decide +kernel) rfl
theorem ml_L_25 : Cond.methodLink "SilenceHoursLaw" 25 yX4_bidOf ∈ zWS := zWS_of 368 (by decide +kernel) rfl
theorem im_yX4_bidOf : Cond.instanceMethod yX4_bidOf ∈ zWS := zWS_of 369 (by decide +kernel) rfl
theorem se_yX4_bidOf : Cond.selects "SilenceHours" yX4_bidOf yX4_bidOf ∈ zWS := zWS_of 370 (by decide +kernel) rfl
set_option maxRecDepth 100000 in
theorem co_yX4_bidOf : Cond.code yX4_bidOf prog_1_method_16_code 5 (Option.some FieldType.int) ∈ zWS := zWS_of 371 rfl rfl
theorem ml_X4_206 : Cond.methodLink "SilenceHours" 206 yX3_markedBid ∈ zWS := zWS_of 372 (by decide +kernel) rfl
theorem ml_L_32 : Cond.methodLink "SilenceHoursLaw" 32 yX4_slot ∈ zWS := zWS_of 373 (by decide +kernel) rfl
theorem im_yX4_slot : Cond.instanceMethod yX4_slot ∈ zWS := zWS_of 374 (by decide +kernel) rfl
theorem se_yX4_slot : Cond.selects "SilenceHours" yX4_slot yX4_slot ∈ zWS := zWS_of 375 (by decide +kernel) rfl
set_option maxRecDepth 100000 in
theorem co_yX4_slot : Cond.code yX4_slot prog_1_method_15_code 5 (Option.some FieldType.int) ∈ zWS := zWS_of 376 rfl rfl
theorem ml_X4_194 : Cond.methodLink "SilenceHours" 194 yX3_sumOfBids ∈ zWS := zWS_of 377 (by decide +kernel) rfl
theorem ml_X4_200 : Cond.methodLink "SilenceHours" 200 yX3_bidsFor ∈ zWS := zWS_of 378 (by decide +kernel) rfl
theorem ml_L_35 : Cond.methodLink "SilenceHoursLaw" 35 yX4_needed ∈ zWS := zWS_of 379 (by decide +kernel) rfl
theorem im_yX4_needed : Cond.instanceMethod yX4_needed ∈ zWS := zWS_of 380 (by decide +kernel) rfl
theorem se_yX4_needed : Cond.selects "SilenceHours" yX4_needed yX4_needed ∈ zWS := zWS_of 381 (by decide +kernel) rfl
set_option maxRecDepth 100000 in
theorem co_yX4_needed : Cond.code yX4_needed prog_1_method_19_code 4 (Option.some FieldType.int) ∈ zWS := zWS_of 382 rfl rfl
theorem ml_X4_69 : Cond.methodLink "SilenceHours" 69 yX4_isSide ∈ zWS := zWS_of 383 (by decide +kernel) rfl
theorem st_yX4_isSide : Cond.static yX4_isSide ∈ zWS := zWS_of 384 (by decide +kernel) rfl
set_option maxRecDepth 100000 in
theorem co_yX4_isSide : Cond.code yX4_isSide prog_1_method_26_code 1 (Option.some FieldType.boolean) ∈ zWS := zWS_of 385 rfl rfl
theorem ml_X4_218 : Cond.methodLink "SilenceHours" 218 yX3_missingFor ∈ zWS := zWS_of 386 (by decide +kernel) rfl
theorem im_yX3_missingFor : Cond.instanceMethod yX3_missingFor ∈ zWS := zWS_of 387 (by decide +kernel) rfl
theorem se_yX3_missingFor : Cond.selects "SilenceHours$State" yX3_missingFor yX3_missingFor ∈ zWS := zWS_of 388 (by decide +kernel) rfl
set_option maxRecDepth 100000 in
theorem co_yX3_missingFor : Cond.code yX3_missingFor prog_5_method_19_code 5 (Option.some FieldType.int) ∈ zWS := zWS_of 389 rfl rfl
theorem ml_X3_113 : Cond.methodLink "SilenceHours$State" 113 yX3_ownerThen ∈ zWS := zWS_of 390 (by decide +kernel) rfl
theorem st_yX4_otherSide : Cond.static yX4_otherSide ∈ zWS := zWS_of 392 (by decide +kernel) rfl
set_option maxRecDepth 100000 in
theorem co_yX4_otherSide : Cond.code yX4_otherSide prog_1_method_29_code 1 (Option.some FieldType.int) ∈ zWS := zWS_of 393 rfl rfl
theorem ml_L_85 : Cond.methodLink "SilenceHoursLaw" 85 yL_settles ∈ zWS := zWS_of 394 (by decide +kernel) rfl
theorem st_yL_settles : Cond.static yL_settles ∈ zWS := zWS_of 395 (by decide +kernel) rfl
set_option maxRecDepth 100000 in
theorem co_yL_settles : Cond.code yL_settles method_5_code 11 (Option.some FieldType.boolean) ∈ zWS := zWS_of 396 rfl rfl
theorem ml_L_51 : Cond.methodLink "SilenceHoursLaw" 51 yX4_purseThen ∈ zWS := zWS_of 397 (by decide +kernel) rfl
theorem im_yX4_purseThen : Cond.instanceMethod yX4_purseThen ∈ zWS := zWS_of 398 (by decide +kernel) rfl
theorem se_yX4_purseThen : Cond.selects "SilenceHours" yX4_purseThen yX4_purseThen ∈ zWS := zWS_of 399 (by decide +kernel) rfl
set_option maxRecDepth 100000 in
theorem co_yX4_purseThen : Cond.code yX4_purseThen prog_1_method_21_code 2 (Option.some FieldType.int) ∈ zWS := zWS_of 400 rfl rfl
theorem ml_X4_129 : Cond.methodLink "SilenceHours" 129 yX3_copyFrom ∈ zWS := zWS_of 401 (by decide +kernel) rfl
theorem ml_X4_90 : Cond.methodLink "SilenceHours" 90 yX3_settleDay ∈ zWS := zWS_of 402 (by decide +kernel) rfl
theorem im_yX3_settleDay : Cond.instanceMethod yX3_settleDay ∈ zWS := zWS_of 403 (by decide +kernel) rfl
theorem se_yX3_settleDay : Cond.selects "SilenceHours$State" yX3_settleDay yX3_settleDay ∈ zWS := zWS_of 404 (by decide +kernel) rfl
set_option maxRecDepth 100000 in
theorem co_yX3_settleDay : Cond.code yX3_settleDay prog_5_method_20_code 2 none ∈ zWS := zWS_of 405 rfl rfl
theorem ml_X3_122 : Cond.methodLink "SilenceHours$State" 122 yX3_settleBids ∈ zWS := zWS_of 406 (by decide +kernel) rfl
theorem im_yX3_settleBids : Cond.instanceMethod yX3_settleBids ∈ zWS := zWS_of 408 (by decide +kernel) rfl
set_option maxRecDepth 100000 in
theorem co_yX3_settleBids : Cond.code yX3_settleBids prog_5_method_21_code 6 none ∈ zWS := zWS_of 409 rfl rfl
theorem ml_X3_132 : Cond.methodLink "SilenceHours$State" 132 yX3_collectFrom ∈ zWS := zWS_of 410 (by decide +kernel) rfl
theorem im_yX3_collectFrom : Cond.instanceMethod yX3_collectFrom ∈ zWS := zWS_of 412 (by decide +kernel) rfl
set_option maxRecDepth 100000 in
theorem co_yX3_collectFrom : Cond.code yX3_collectFrom prog_5_method_22_code 6 (Option.some FieldType.int) ∈ zWS := zWS_of 413 rfl rfl
theorem ml_X3_135 : Cond.methodLink "SilenceHours$State" 135 yX3_shareOut ∈ zWS := zWS_of 414 (by decide +kernel) rfl
theorem im_yX3_shareOut : Cond.instanceMethod yX3_shareOut ∈ zWS := zWS_of 416 (by decide +kernel) rfl
set_option maxRecDepth 100000 in
theorem co_yX3_shareOut : Cond.code yX3_shareOut prog_5_method_23_code 8 (Option.some FieldType.int) ∈ zWS := zWS_of 417 rfl rfl
theorem ml_X3_141 : Cond.methodLink "SilenceHours$State" 141 yX3_receive ∈ zWS := zWS_of 418 (by decide +kernel) rfl
theorem im_yX3_receive : Cond.instanceMethod yX3_receive ∈ zWS := zWS_of 419 (by decide +kernel) rfl
theorem se_yX3_receive : Cond.selects "SilenceHours$State" yX3_receive yX3_receive ∈ zWS := zWS_of 420 (by decide +kernel) rfl
set_option maxRecDepth 100000 in
theorem co_yX3_receive : Cond.code yX3_receive prog_5_method_12_code 4 none ∈ zWS := zWS_of 421 rfl rfl
theorem ml_X3_95 : Cond.methodLink "SilenceHours$State" 95 Lib.Math.min.name ∈ zWS := zWS_of 422 (by decide +kernel) rfl
theorem st_Lib_Math_min_name : Cond.static Lib.Math.min.name ∈ zWS := zWS_of 423 (by decide +kernel) rfl
set_option maxRecDepth 100000 in
theorem co_Lib_Math_min_name : Cond.code Lib.Math.min.name prog_9_method_69_code 2 (Option.some FieldType.int) ∈ zWS := zWS_of 424 rfl rfl
theorem ml_X3_138 : Cond.methodLink "SilenceHours$State" 138 yX3_biddersForQuiet ∈ zWS := zWS_of 425 (by decide +kernel) rfl
theorem im_yX3_biddersForQuiet : Cond.instanceMethod yX3_biddersForQuiet ∈ zWS := zWS_of 427 (by decide +kernel) rfl
set_option maxRecDepth 100000 in
theorem co_yX3_biddersForQuiet : Cond.code yX3_biddersForQuiet prog_5_method_24_code 4 (Option.some FieldType.int) ∈ zWS := zWS_of 428 rfl rfl
theorem ml_X3_126 : Cond.methodLink "SilenceHours$State" 126 yJ7_fill_53178 ∈ zWS := zWS_of 429 (by decide +kernel) rfl
theorem st_yJ7_fill_53178 : Cond.static yJ7_fill_53178 ∈ zWS := zWS_of 430 (by decide +kernel) rfl
set_option maxRecDepth 100000 in
theorem co_yJ7_fill_53178 : Cond.code yJ7_fill_53178 prog_11_method_103_code 4 none ∈ zWS := zWS_of 431 rfl rfl
theorem ml_L_54 : Cond.methodLink "SilenceHoursLaw" 54 yX4_settle ∈ zWS := zWS_of 432 (by decide +kernel) rfl
theorem im_yX4_settle : Cond.instanceMethod yX4_settle ∈ zWS := zWS_of 433 (by decide +kernel) rfl
theorem se_yX4_settle : Cond.selects "SilenceHours" yX4_settle yX4_settle ∈ zWS := zWS_of 434 (by decide +kernel) rfl
set_option maxRecDepth 100000 in
theorem co_yX4_settle : Cond.code yX4_settle prog_1_method_6_code 1 (Option.some FieldType.int) ∈ zWS := zWS_of 435 rfl rfl
theorem ml_L_108 : Cond.methodLink "SilenceHoursLaw" 108 yL_refuses ∈ zWS := zWS_of 436 (by decide +kernel) rfl
theorem st_yL_refuses : Cond.static yL_refuses ∈ zWS := zWS_of 437 (by decide +kernel) rfl
set_option maxRecDepth 100000 in
theorem co_yL_refuses : Cond.code yL_refuses method_8_code 5 (Option.some FieldType.boolean) ∈ zWS := zWS_of 438 rfl rfl
theorem cs_L_50 : Cond.constant "SilenceHoursLaw" 50 (100001) ∈ zWS := zWS_of 439 (by decide +kernel) rfl
theorem ml_L_72 : Cond.methodLink "SilenceHoursLaw" 72 yX4_pay ∈ zWS := zWS_of 440 (by decide +kernel) rfl
theorem im_yX4_pay : Cond.instanceMethod yX4_pay ∈ zWS := zWS_of 441 (by decide +kernel) rfl
theorem se_yX4_pay : Cond.selects "SilenceHours" yX4_pay yX4_pay ∈ zWS := zWS_of 442 (by decide +kernel) rfl
set_option maxRecDepth 100000 in
theorem co_yX4_pay : Cond.code yX4_pay prog_1_method_3_code 3 (Option.some FieldType.int) ∈ zWS := zWS_of 443 rfl rfl
theorem cs_X4_57 : Cond.constant "SilenceHours" 57 (-100000) ∈ zWS := zWS_of 444 (by decide +kernel) rfl
theorem ml_X4_58 : Cond.methodLink "SilenceHours" 58 yX3_canBePaid ∈ zWS := zWS_of 445 (by decide +kernel) rfl
theorem im_yX3_canBePaid : Cond.instanceMethod yX3_canBePaid ∈ zWS := zWS_of 446 (by decide +kernel) rfl
theorem se_yX3_canBePaid : Cond.selects "SilenceHours$State" yX3_canBePaid yX3_canBePaid ∈ zWS := zWS_of 447 (by decide +kernel) rfl
set_option maxRecDepth 100000 in
theorem co_yX3_canBePaid : Cond.code yX3_canBePaid prog_5_method_13_code 4 (Option.some FieldType.boolean) ∈ zWS := zWS_of 448 rfl rfl
theorem ml_X3_84 : Cond.methodLink "SilenceHours$State" 84 yX3_freeMoney ∈ zWS := zWS_of 449 (by decide +kernel) rfl
theorem cs_X3_100 : Cond.constant "SilenceHours$State" 100 (10000000) ∈ zWS := zWS_of 450 (by decide +kernel) rfl
theorem ml_X4_62 : Cond.methodLink "SilenceHours" 62 yX3_receive ∈ zWS := zWS_of 451 (by decide +kernel) rfl
theorem cs_L_75 : Cond.constant "SilenceHoursLaw" 75 (-100001) ∈ zWS := zWS_of 452 (by decide +kernel) rfl
theorem ml_L_46 : Cond.methodLink "SilenceHoursLaw" 46 yX4_bid ∈ zWS := zWS_of 453 (by decide +kernel) rfl
theorem im_yX4_bid : Cond.instanceMethod yX4_bid ∈ zWS := zWS_of 454 (by decide +kernel) rfl
theorem se_yX4_bid : Cond.selects "SilenceHours" yX4_bid yX4_bid ∈ zWS := zWS_of 455 (by decide +kernel) rfl
set_option maxRecDepth 100000 in
theorem co_yX4_bid : Cond.code yX4_bid prog_1_method_4_code 8 (Option.some FieldType.int) ∈ zWS := zWS_of 456 rfl rfl
theorem ml_X4_76 : Cond.methodLink "SilenceHours" 76 yX3_bidError ∈ zWS := zWS_of 457 (by decide +kernel) rfl
theorem im_yX3_bidError : Cond.instanceMethod yX3_bidError ∈ zWS := zWS_of 458 (by decide +kernel) rfl
theorem se_yX3_bidError : Cond.selects "SilenceHours$State" yX3_bidError yX3_bidError ∈ zWS := zWS_of 459 (by decide +kernel) rfl
set_option maxRecDepth 100000 in
theorem co_yX3_bidError : Cond.code yX3_bidError prog_5_method_7_code 5 (Option.some FieldType.int) ∈ zWS := zWS_of 460 rfl rfl
theorem ml_X3_88 : Cond.methodLink "SilenceHours$State" 88 yX3_bidAmount ∈ zWS := zWS_of 462 (by decide +kernel) rfl
theorem im_yX3_bidAmount : Cond.instanceMethod yX3_bidAmount ∈ zWS := zWS_of 463 (by decide +kernel) rfl
theorem se_yX3_bidAmount : Cond.selects "SilenceHours$State" yX3_bidAmount yX3_bidAmount ∈ zWS := zWS_of 464 (by decide +kernel) rfl
set_option maxRecDepth 100000 in
theorem co_yX3_bidAmount : Cond.code yX3_bidAmount prog_5_method_5_code 3 (Option.some FieldType.int) ∈ zWS := zWS_of 465 rfl rfl
theorem ml_X4_80 : Cond.methodLink "SilenceHours" 80 yX3_placeBid ∈ zWS := zWS_of 466 (by decide +kernel) rfl
theorem im_yX3_placeBid : Cond.instanceMethod yX3_placeBid ∈ zWS := zWS_of 467 (by decide +kernel) rfl
theorem se_yX3_placeBid : Cond.selects "SilenceHours$State" yX3_placeBid yX3_placeBid ∈ zWS := zWS_of 468 (by decide +kernel) rfl
set_option maxRecDepth 100000 in
theorem co_yX3_placeBid : Cond.code yX3_placeBid prog_5_method_8_code 6 (Option.some FieldType.int) ∈ zWS := zWS_of 469 rfl rfl
theorem ml_L_76 : Cond.methodLink "SilenceHoursLaw" 76 yX4_setFine ∈ zWS := zWS_of 470 (by decide +kernel) rfl
theorem im_yX4_setFine : Cond.instanceMethod yX4_setFine ∈ zWS := zWS_of 471 (by decide +kernel) rfl
theorem se_yX4_setFine : Cond.selects "SilenceHours" yX4_setFine yX4_setFine ∈ zWS := zWS_of 472 (by decide +kernel) rfl
set_option maxRecDepth 100000 in
theorem co_yX4_setFine : Cond.code yX4_setFine prog_1_method_5_code 3 (Option.some FieldType.int) ∈ zWS := zWS_of 473 rfl rfl
theorem ml_L_57 : Cond.methodLink "SilenceHoursLaw" 57 yX4_breach ∈ zWS := zWS_of 474 (by decide +kernel) rfl
theorem im_yX4_breach : Cond.instanceMethod yX4_breach ∈ zWS := zWS_of 475 (by decide +kernel) rfl
theorem se_yX4_breach : Cond.selects "SilenceHours" yX4_breach yX4_breach ∈ zWS := zWS_of 476 (by decide +kernel) rfl
set_option maxRecDepth 100000 in
theorem co_yX4_breach : Cond.code yX4_breach prog_1_method_7_code 5 (Option.some FieldType.int) ∈ zWS := zWS_of 477 rfl rfl
theorem ml_X4_100 : Cond.methodLink "SilenceHours" 100 yX3_noteBreach ∈ zWS := zWS_of 478 (by decide +kernel) rfl
theorem im_yX3_noteBreach : Cond.instanceMethod yX3_noteBreach ∈ zWS := zWS_of 479 (by decide +kernel) rfl
theorem se_yX3_noteBreach : Cond.selects "SilenceHours$State" yX3_noteBreach yX3_noteBreach ∈ zWS := zWS_of 480 (by decide +kernel) rfl
set_option maxRecDepth 100000 in
theorem co_yX3_noteBreach : Cond.code yX3_noteBreach prog_5_method_25_code 6 (Option.some FieldType.int) ∈ zWS := zWS_of 481 rfl rfl
theorem ml_X3_145 : Cond.methodLink "SilenceHours$State" 145 yX3_shareFine ∈ zWS := zWS_of 482 (by decide +kernel) rfl
theorem im_yX3_shareFine : Cond.instanceMethod yX3_shareFine ∈ zWS := zWS_of 484 (by decide +kernel) rfl
set_option maxRecDepth 100000 in
theorem co_yX3_shareFine : Cond.code yX3_shareFine prog_5_method_26_code 6 (Option.some FieldType.int) ∈ zWS := zWS_of 485 rfl rfl
theorem ml_X3_148 : Cond.methodLink "SilenceHours$State" 148 yJ6_bitCount_0f7a4 ∈ zWS := zWS_of 486 (by decide +kernel) rfl
theorem st_yJ6_bitCount_0f7a4 : Cond.static yJ6_bitCount_0f7a4 ∈ zWS := zWS_of 487 (by decide +kernel) rfl
set_option maxRecDepth 100000 in
theorem co_yJ6_bitCount_0f7a4 : Cond.code yJ6_bitCount_0f7a4 prog_8_method_49_code 1 (Option.some FieldType.int) ∈ zWS := zWS_of 488 rfl rfl
theorem cs_J6_265 : Cond.constant "java/lang/Integer" 265 (1431655765) ∈ zWS := zWS_of 489 (by decide +kernel) rfl
theorem cs_J6_266 : Cond.constant "java/lang/Integer" 266 (858993459) ∈ zWS := zWS_of 490 (by decide +kernel) rfl
theorem cs_J6_267 : Cond.constant "java/lang/Integer" 267 (252645135) ∈ zWS := zWS_of 491 (by decide +kernel) rfl
theorem ml_L_63 : Cond.methodLink "SilenceHoursLaw" 63 yX4_append ∈ zWS := zWS_of 492 (by decide +kernel) rfl
theorem im_yX4_append : Cond.instanceMethod yX4_append ∈ zWS := zWS_of 493 (by decide +kernel) rfl
theorem se_yX4_append : Cond.selects "SilenceHours" yX4_append yX4_append ∈ zWS := zWS_of 494 (by decide +kernel) rfl
set_option maxRecDepth 100000 in
theorem co_yX4_append : Cond.code yX4_append prog_1_method_9_code 2 (Option.some FieldType.int) ∈ zWS := zWS_of 495 rfl rfl
theorem ml_L_66 : Cond.methodLink "SilenceHoursLaw" 66 yX4_run ∈ zWS := zWS_of 496 (by decide +kernel) rfl
theorem im_yX4_run : Cond.instanceMethod yX4_run ∈ zWS := zWS_of 497 (by decide +kernel) rfl
theorem se_yX4_run : Cond.selects "SilenceHours" yX4_run yX4_run ∈ zWS := zWS_of 498 (by decide +kernel) rfl
set_option maxRecDepth 100000 in
theorem co_yX4_run : Cond.code yX4_run prog_1_method_11_code 8 (Option.some FieldType.int) ∈ zWS := zWS_of 499 rfl rfl
theorem ml_X4_115 : Cond.methodLink "SilenceHours" 115 yX2_readText ∈ zWS := zWS_of 500 (by decide +kernel) rfl
theorem im_yX2_readText : Cond.instanceMethod yX2_readText ∈ zWS := zWS_of 501 (by decide +kernel) rfl
theorem se_yX2_readText : Cond.selects "SilenceHours$Plan" yX2_readText yX2_readText ∈ zWS := zWS_of 502 (by decide +kernel) rfl
set_option maxRecDepth 100000 in
theorem co_yX2_readText : Cond.code yX2_readText prog_4_method_2_code 2 (Option.some FieldType.boolean) ∈ zWS := zWS_of 503 rfl rfl
theorem ml_X2_41 : Cond.methodLink "SilenceHours$Plan" 41 yX2_hasFailed ∈ zWS := zWS_of 504 (by decide +kernel) rfl
theorem im_yX2_hasFailed : Cond.instanceMethod yX2_hasFailed ∈ zWS := zWS_of 506 (by decide +kernel) rfl
set_option maxRecDepth 100000 in
theorem co_yX2_hasFailed : Cond.code yX2_hasFailed prog_4_method_15_code 1 (Option.some FieldType.boolean) ∈ zWS := zWS_of 507 rfl rfl
theorem ml_X2_45 : Cond.methodLink "SilenceHours$Plan" 45 yX2_readPiece ∈ zWS := zWS_of 508 (by decide +kernel) rfl
theorem im_yX2_readPiece : Cond.instanceMethod yX2_readPiece ∈ zWS := zWS_of 510 (by decide +kernel) rfl
set_option maxRecDepth 100000 in
theorem co_yX2_readPiece : Cond.code yX2_readPiece prog_4_method_3_code 2 none ∈ zWS := zWS_of 511 rfl rfl
theorem ml_X2_52 : Cond.methodLink "SilenceHours$Plan" 52 yX2_sign ∈ zWS := zWS_of 512 (by decide +kernel) rfl
theorem im_yX2_sign : Cond.instanceMethod yX2_sign ∈ zWS := zWS_of 514 (by decide +kernel) rfl
set_option maxRecDepth 100000 in
theorem co_yX2_sign : Cond.code yX2_sign prog_4_method_12_code 1 (Option.some FieldType.int) ∈ zWS := zWS_of 515 rfl rfl
theorem ml_X2_56 : Cond.methodLink "SilenceHours$Plan" 56 yX2_closeGroup ∈ zWS := zWS_of 516 (by decide +kernel) rfl
theorem im_yX2_closeGroup : Cond.instanceMethod yX2_closeGroup ∈ zWS := zWS_of 518 (by decide +kernel) rfl
set_option maxRecDepth 100000 in
theorem co_yX2_closeGroup : Cond.code yX2_closeGroup prog_4_method_5_code 1 none ∈ zWS := zWS_of 519 rfl rfl
theorem ml_X2_70 : Cond.methodLink "SilenceHours$Plan" 70 yX2_take ∈ zWS := zWS_of 520 (by decide +kernel) rfl
theorem im_yX2_take : Cond.instanceMethod yX2_take ∈ zWS := zWS_of 522 (by decide +kernel) rfl
set_option maxRecDepth 100000 in
theorem co_yX2_take : Cond.code yX2_take prog_4_method_9_code 2 none ∈ zWS := zWS_of 523 rfl rfl
theorem ml_X2_77 : Cond.methodLink "SilenceHours$Plan" 77 yX2_takeIf ∈ zWS := zWS_of 524 (by decide +kernel) rfl
theorem im_yX2_takeIf : Cond.instanceMethod yX2_takeIf ∈ zWS := zWS_of 526 (by decide +kernel) rfl
set_option maxRecDepth 100000 in
theorem co_yX2_takeIf : Cond.code yX2_takeIf prog_4_method_10_code 3 (Option.some FieldType.boolean) ∈ zWS := zWS_of 527 rfl rfl
theorem ml_X2_48 : Cond.methodLink "SilenceHours$Plan" 48 yX2_failAt ∈ zWS := zWS_of 528 (by decide +kernel) rfl
theorem im_yX2_failAt : Cond.instanceMethod yX2_failAt ∈ zWS := zWS_of 530 (by decide +kernel) rfl
set_option maxRecDepth 100000 in
theorem co_yX2_failAt : Cond.code yX2_failAt prog_4_method_14_code 2 none ∈ zWS := zWS_of 531 rfl rfl
theorem ml_X2_59 : Cond.methodLink "SilenceHours$Plan" 59 yX2_openGroup ∈ zWS := zWS_of 532 (by decide +kernel) rfl
theorem im_yX2_openGroup : Cond.instanceMethod yX2_openGroup ∈ zWS := zWS_of 534 (by decide +kernel) rfl
set_option maxRecDepth 100000 in
theorem co_yX2_openGroup : Cond.code yX2_openGroup prog_4_method_4_code 2 none ∈ zWS := zWS_of 535 rfl rfl
theorem ml_X2_62 : Cond.methodLink "SilenceHours$Plan" 62 yX2_isDigit ∈ zWS := zWS_of 536 (by decide +kernel) rfl
theorem st_yX2_isDigit : Cond.static yX2_isDigit ∈ zWS := zWS_of 537 (by decide +kernel) rfl
set_option maxRecDepth 100000 in
theorem co_yX2_isDigit : Cond.code yX2_isDigit prog_4_method_13_code 1 (Option.some FieldType.boolean) ∈ zWS := zWS_of 538 rfl rfl
theorem ml_X2_66 : Cond.methodLink "SilenceHours$Plan" 66 yX2_takeNumber ∈ zWS := zWS_of 540 (by decide +kernel) rfl
theorem im_yX2_takeNumber : Cond.instanceMethod yX2_takeNumber ∈ zWS := zWS_of 542 (by decide +kernel) rfl
set_option maxRecDepth 100000 in
theorem co_yX2_takeNumber : Cond.code yX2_takeNumber prog_4_method_8_code 8 (Option.some FieldType.int) ∈ zWS := zWS_of 543 rfl rfl
theorem ml_X2_106 : Cond.methodLink "SilenceHours$Plan" 106 yX2_skip ∈ zWS := zWS_of 544 (by decide +kernel) rfl
theorem im_yX2_skip : Cond.instanceMethod yX2_skip ∈ zWS := zWS_of 546 (by decide +kernel) rfl
set_option maxRecDepth 100000 in
theorem co_yX2_skip : Cond.code yX2_skip prog_4_method_11_code 1 none ∈ zWS := zWS_of 547 rfl rfl
theorem ml_X2_74 : Cond.methodLink "SilenceHours$Plan" 74 yX2_readBids ∈ zWS := zWS_of 548 (by decide +kernel) rfl
theorem im_yX2_readBids : Cond.instanceMethod yX2_readBids ∈ zWS := zWS_of 550 (by decide +kernel) rfl
set_option maxRecDepth 100000 in
theorem co_yX2_readBids : Cond.code yX2_readBids prog_4_method_6_code 8 none ∈ zWS := zWS_of 551 rfl rfl
theorem ml_X2_81 : Cond.methodLink "SilenceHours$Plan" 81 yX2_takeStreet ∈ zWS := zWS_of 552 (by decide +kernel) rfl
theorem im_yX2_takeStreet : Cond.instanceMethod yX2_takeStreet ∈ zWS := zWS_of 554 (by decide +kernel) rfl
set_option maxRecDepth 100000 in
theorem co_yX2_takeStreet : Cond.code yX2_takeStreet prog_4_method_7_code 2 (Option.some FieldType.int) ∈ zWS := zWS_of 555 rfl rfl
theorem ml_X4_125 : Cond.methodLink "SilenceHours" 125 yX4_failPlan ∈ zWS := zWS_of 557 (by decide +kernel) rfl
theorem im_yX4_failPlan : Cond.instanceMethod yX4_failPlan ∈ zWS := zWS_of 559 (by decide +kernel) rfl
set_option maxRecDepth 100000 in
theorem co_yX4_failPlan : Cond.code yX4_failPlan prog_1_method_22_code 6 (Option.some FieldType.int) ∈ zWS := zWS_of 560 rfl rfl
theorem ml_L_101 : Cond.methodLink "SilenceHoursLaw" 101 yL_acts ∈ zWS := zWS_of 561 (by decide +kernel) rfl
theorem st_yL_acts : Cond.static yL_acts ∈ zWS := zWS_of 562 (by decide +kernel) rfl
set_option maxRecDepth 100000 in
theorem co_yL_acts : Cond.code yL_acts method_9_code 7 (Option.some FieldType.boolean) ∈ zWS := zWS_of 563 rfl rfl
theorem ml_L_79 : Cond.methodLink "SilenceHoursLaw" 79 yL_breaches ∈ zWS := zWS_of 564 (by decide +kernel) rfl
theorem st_yL_breaches : Cond.static yL_breaches ∈ zWS := zWS_of 565 (by decide +kernel) rfl
set_option maxRecDepth 100000 in
theorem co_yL_breaches : Cond.code yL_breaches method_6_code 9 (Option.some FieldType.boolean) ∈ zWS := zWS_of 566 rfl rfl
theorem ml_L_89 : Cond.methodLink "SilenceHoursLaw" 89 yL_turns ∈ zWS := zWS_of 567 (by decide +kernel) rfl
theorem st_yL_turns : Cond.static yL_turns ∈ zWS := zWS_of 568 (by decide +kernel) rfl
set_option maxRecDepth 100000 in
theorem co_yL_turns : Cond.code yL_turns method_4_code 7 (Option.some FieldType.boolean) ∈ zWS := zWS_of 569 rfl rfl
theorem cs_L_38 : Cond.constant "SilenceHoursLaw" 38 (100000) ∈ zWS := zWS_of 570 (by decide +kernel) rfl
theorem ml_L_92 : Cond.methodLink "SilenceHoursLaw" 92 yL_plans ∈ zWS := zWS_of 571 (by decide +kernel) rfl
theorem st_yL_plans : Cond.static yL_plans ∈ zWS := zWS_of 572 (by decide +kernel) rfl
set_option maxRecDepth 100000 in
theorem co_yL_plans : Cond.code yL_plans method_7_code 14 (Option.some FieldType.boolean) ∈ zWS := zWS_of 573 rfl rfl
theorem ml_L_60 : Cond.methodLink "SilenceHoursLaw" 60 yX4_clearText ∈ zWS := zWS_of 574 (by decide +kernel) rfl
theorem im_yX4_clearText : Cond.instanceMethod yX4_clearText ∈ zWS := zWS_of 575 (by decide +kernel) rfl
theorem se_yX4_clearText : Cond.selects "SilenceHours" yX4_clearText yX4_clearText ∈ zWS := zWS_of 576 (by decide +kernel) rfl
set_option maxRecDepth 100000 in
theorem co_yX4_clearText : Cond.code yX4_clearText prog_1_method_10_code 2 (Option.some FieldType.int) ∈ zWS := zWS_of 577 rfl rfl
theorem se_yX3_quietFrom : Cond.selects RX3 yX3_quietFrom yX3_quietFrom ∈ zWS := zWS_of 0 (by decide +kernel) rfl
theorem se_yX4_isPerson : Cond.selects RX4 yX4_isPerson yX4_isPerson ∈ zWS := zWS_of 1 (by decide +kernel) rfl
theorem se_yX3_settleBids : Cond.selects RX3 yX3_settleBids yX3_settleBids ∈ zWS := zWS_of 2 (by decide +kernel) rfl
theorem se_yX3_collectFrom : Cond.selects RX3 yX3_collectFrom yX3_collectFrom ∈ zWS := zWS_of 3 (by decide +kernel) rfl
theorem se_yX3_shareOut : Cond.selects RX3 yX3_shareOut yX3_shareOut ∈ zWS := zWS_of 4 (by decide +kernel) rfl
theorem se_yX3_biddersForQuiet : Cond.selects RX3 yX3_biddersForQuiet yX3_biddersForQuiet ∈ zWS := zWS_of 5 (by decide +kernel) rfl
theorem se_yX3_shareFine : Cond.selects RX3 yX3_shareFine yX3_shareFine ∈ zWS := zWS_of 6 (by decide +kernel) rfl
theorem se_yX2_hasFailed : Cond.selects RX2 yX2_hasFailed yX2_hasFailed ∈ zWS := zWS_of 7 (by decide +kernel) rfl
theorem se_yX2_readPiece : Cond.selects RX2 yX2_readPiece yX2_readPiece ∈ zWS := zWS_of 8 (by decide +kernel) rfl
theorem se_yX2_sign : Cond.selects RX2 yX2_sign yX2_sign ∈ zWS := zWS_of 9 (by decide +kernel) rfl
theorem se_yX2_closeGroup : Cond.selects RX2 yX2_closeGroup yX2_closeGroup ∈ zWS := zWS_of 10 (by decide +kernel) rfl
theorem se_yX2_take : Cond.selects RX2 yX2_take yX2_take ∈ zWS := zWS_of 11 (by decide +kernel) rfl
theorem se_yX2_takeIf : Cond.selects RX2 yX2_takeIf yX2_takeIf ∈ zWS := zWS_of 12 (by decide +kernel) rfl
theorem se_yX2_failAt : Cond.selects RX2 yX2_failAt yX2_failAt ∈ zWS := zWS_of 13 (by decide +kernel) rfl
theorem se_yX2_openGroup : Cond.selects RX2 yX2_openGroup yX2_openGroup ∈ zWS := zWS_of 14 (by decide +kernel) rfl
theorem se_yX2_takeNumber : Cond.selects RX2 yX2_takeNumber yX2_takeNumber ∈ zWS := zWS_of 15 (by decide +kernel) rfl
theorem se_yX2_skip : Cond.selects RX2 yX2_skip yX2_skip ∈ zWS := zWS_of 16 (by decide +kernel) rfl
theorem se_yX2_readBids : Cond.selects RX2 yX2_readBids yX2_readBids ∈ zWS := zWS_of 17 (by decide +kernel) rfl
theorem se_yX2_takeStreet : Cond.selects RX2 yX2_takeStreet yX2_takeStreet ∈ zWS := zWS_of 18 (by decide +kernel) rfl
theorem se_yX4_failPlan : Cond.selects RX4 yX4_failPlan yX4_failPlan ∈ zWS := zWS_of 19 (by decide +kernel) rfl
theorem zinX0 : ∀ w ∈ wsX00, w ∈ zWS := zWS_all [130, 132, 134] (by decide +kernel) (by decide +kernel)
theorem zinX1 : ∀ w ∈ wsX10, w ∈ zWS := zWS_all [164, 166, 168, 170, 172, 174, 176] (by decide +kernel) (by decide +kernel)
theorem zinX2 : ∀ w ∈ wsX20, w ∈ zWS := zWS_all [193, 195, 197, 199, 201, 203, 205, 207] (by decide +kernel) (by decide +kernel)
theorem zinX3 : ∀ w ∈ wsX30, w ∈ zWS := zWS_all [77, 79, 81, 83, 85, 87, 89, 91, 93, 95, 97, 99, 101, 103, 105, 107, 109, 111, 113] (by decide +kernel) (by decide +kernel)
theorem zinX4 : ∀ w ∈ wsX40, w ∈ zWS := zWS_all [215, 217, 219, 221, 223] (by decide +kernel) (by decide +kernel)
