abbrev y_Ac_init : MethodName := ⟨"VillagePay$Accounts", "<init>", "(LVillagePay$State;LVillagePay$Scale;)V"⟩
theorem k_Ac_init : Cond.code y_Ac_init prog_2_method_1_code 3 (none) ∈ wt := (wt_t2 167 rfl rfl)
abbrev y_Ac_hadIn : MethodName := ⟨"VillagePay$Accounts", "hadIn", "(III)I"⟩
theorem k_Ac_hadIn : Cond.code y_Ac_hadIn prog_2_method_2_code 9 (some .int) ∈ wt := (wt_t3 187 rfl rfl)
abbrev y_Ac_dueIn : MethodName := ⟨"VillagePay$Accounts", "dueIn", "(III)I"⟩
theorem k_Ac_dueIn : Cond.code y_Ac_dueIn prog_2_method_3_code 9 (some .int) ∈ wt := (wt_t4 101 rfl rfl)
abbrev y_Ac_balanceUpTo : MethodName := ⟨"VillagePay$Accounts", "balanceUpTo", "(III)I"⟩
theorem k_Ac_balanceUpTo : Cond.code y_Ac_balanceUpTo prog_2_method_4_code 6 (some .int) ∈ wt := (wt_t4 111 rfl rfl)
abbrev y_Ac_daysHeld : MethodName := ⟨"VillagePay$Accounts", "daysHeld", "(IIII)I"⟩
theorem k_Ac_daysHeld : Cond.code y_Ac_daysHeld prog_2_method_5_code 8 (some .int) ∈ wt := (wt_t3 201 rfl rfl)
abbrev y_Ac_markTurns : MethodName := ⟨"VillagePay$Accounts", "markTurns", "(II)V"⟩
theorem k_Ac_markTurns : Cond.code y_Ac_markTurns prog_2_method_6_code 5 (none) ∈ wt := (wt_t3 193 rfl rfl)
abbrev y_Ac_markTurn : MethodName := ⟨"VillagePay$Accounts", "markTurn", "(I)V"⟩
theorem k_Ac_markTurn : Cond.code y_Ac_markTurn prog_2_method_7_code 2 (none) ∈ wt := (wt_t3 197 rfl rfl)
abbrev y_Bo_init : MethodName := ⟨"VillagePay$Book", "<init>", "()V"⟩
theorem k_Bo_init : Cond.code y_Bo_init prog_3_method_1_code 1 (none) ∈ wt := (wt_t1 95 rfl rfl)
abbrev y_Bo_enlist : MethodName := ⟨"VillagePay$Book", "enlist", "(III)I"⟩
theorem k_Bo_enlist : Cond.code y_Bo_enlist prog_3_method_2_code 5 (some .int) ∈ wt := (wt_t3 137 rfl rfl)
abbrev y_Bo_write : MethodName := ⟨"VillagePay$Book", "write", "(IIIII)I"⟩
theorem k_Bo_write : Cond.code y_Bo_write prog_3_method_3_code 7 (some .int) ∈ wt := (wt_t3 156 rfl rfl)
abbrev y_Bo_serves : MethodName := ⟨"VillagePay$Book", "serves", "(II)Z"⟩
theorem k_Bo_serves : Cond.code y_Bo_serves prog_3_method_4_code 3 (some .boolean) ∈ wt := (wt_t3 85 rfl rfl)
abbrev y_Bo_holderOn : MethodName := ⟨"VillagePay$Book", "holderOn", "(III)I"⟩
theorem k_Bo_holderOn : Cond.code y_Bo_holderOn prog_3_method_5_code 6 (some .int) ∈ wt := (wt_t3 77 rfl rfl)
abbrev y_Bo_rankOn : MethodName := ⟨"VillagePay$Book", "rankOn", "(III)I"⟩
theorem k_Bo_rankOn : Cond.code y_Bo_rankOn prog_3_method_6_code 5 (some .int) ∈ wt := (wt_t3 105 rfl rfl)
abbrev y_Bo_latestOrder : MethodName := ⟨"VillagePay$Book", "latestOrder", "(IIII)I"⟩
theorem k_Bo_latestOrder : Cond.code y_Bo_latestOrder prog_3_method_7_code 8 (some .int) ∈ wt := (wt_t3 81 rfl rfl)
abbrev y_Bo_wasEverOfKin : MethodName := ⟨"VillagePay$Book", "wasEverOfKin", "(II)Z"⟩
theorem k_Bo_wasEverOfKin : Cond.code y_Bo_wasEverOfKin prog_3_method_8_code 5 (some .boolean) ∈ wt := (wt_t4 136 rfl rfl)
abbrev y_Bo_copyFrom : MethodName := ⟨"VillagePay$Book", "copyFrom", "(LVillagePay$Book;)V"⟩
theorem k_Bo_copyFrom : Cond.code y_Bo_copyFrom prog_3_method_9_code 2 (none) ∈ wt := (wt_t5 86 rfl rfl)
abbrev y_De_init : MethodName := ⟨"VillagePay$Dealer", "<init>", "(LVillagePay$State;LVillagePay$Scale;)V"⟩
theorem k_De_init : Cond.code y_De_init prog_4_method_1_code 3 (none) ∈ wt := (wt_t2 183 rfl rfl)
abbrev y_De_fitFor : MethodName := ⟨"VillagePay$Dealer", "fitFor", "(II)I"⟩
theorem k_De_fitFor : Cond.code y_De_fitFor prog_4_method_2_code 12 (some .int) ∈ wt := (wt_t4 125 rfl rfl)
abbrev y_De_openTo : MethodName := ⟨"VillagePay$Dealer", "openTo", "(I)I"⟩
theorem k_De_openTo : Cond.code y_De_openTo prog_4_method_3_code 5 (some .int) ∈ wt := (wt_t4 131 rfl rfl)
abbrev y_De_share : MethodName := ⟨"VillagePay$Dealer", "share", "(IZ)V"⟩
theorem k_De_share : Cond.code y_De_share prog_4_method_4_code 3 (none) ∈ wt := (wt_t4 165 rfl rfl)
abbrev y_De_receiverOf : MethodName := ⟨"VillagePay$Dealer", "receiverOf", "(I)I"⟩
theorem k_De_receiverOf : Cond.code y_De_receiverOf prog_4_method_5_code 3 (some .int) ∈ wt := (wt_t4 206 rfl rfl)
abbrev y_De_gatherPeople : MethodName := ⟨"VillagePay$Dealer", "gatherPeople", "(I)V"⟩
theorem k_De_gatherPeople : Cond.code y_De_gatherPeople prog_4_method_6_code 4 (none) ∈ wt := (wt_t4 169 rfl rfl)
abbrev y_De_gatherLots : MethodName := ⟨"VillagePay$Dealer", "gatherLots", "()V"⟩
theorem k_De_gatherLots : Cond.code y_De_gatherLots prog_4_method_7_code 2 (none) ∈ wt := (wt_t4 173 rfl rfl)
abbrev y_De_dealByRule : MethodName := ⟨"VillagePay$Dealer", "dealByRule", "()V"⟩
theorem k_De_dealByRule : Cond.code y_De_dealByRule prog_4_method_8_code 5 (none) ∈ wt := (wt_t4 193 rfl rfl)
abbrev y_De_greatestLotLeft : MethodName := ⟨"VillagePay$Dealer", "greatestLotLeft", "()I"⟩
theorem k_De_greatestLotLeft : Cond.code y_De_greatestLotLeft prog_4_method_9_code 4 (some .int) ∈ wt := (wt_t4 198 rfl rfl)
abbrev y_De_tryAllWays : MethodName := ⟨"VillagePay$Dealer", "tryAllWays", "()V"⟩
theorem k_De_tryAllWays : Cond.code y_De_tryAllWays prog_4_method_10_code 3 (none) ∈ wt := (wt_t4 178 rfl rfl)
abbrev y_De_goToNextWay : MethodName := ⟨"VillagePay$Dealer", "goToNextWay", "()Z"⟩
theorem k_De_goToNextWay : Cond.code y_De_goToNextWay prog_4_method_11_code 4 (some .boolean) ∈ wt := (wt_t4 189 rfl rfl)
abbrev y_De_keepIfLess : MethodName := ⟨"VillagePay$Dealer", "keepIfLess", "()V"⟩
theorem k_De_keepIfLess : Cond.code y_De_keepIfLess prog_4_method_12_code 3 (none) ∈ wt := (wt_t4 182 rfl rfl)
abbrev y_La_init : MethodName := ⟨"VillagePay$Land", "<init>", "()V"⟩
theorem k_La_init : Cond.code y_La_init prog_5_method_1_code 1 (none) ∈ wt := (wt_t1 39 rfl rfl)
abbrev y_La_settle : MethodName := ⟨"VillagePay$Land", "settle", "(III)I"⟩
theorem k_La_settle : Cond.code y_La_settle prog_5_method_2_code 5 (some .int) ∈ wt := (wt_t3 18 rfl rfl)
abbrev y_La_passDays : MethodName := ⟨"VillagePay$Land", "passDays", "(I)V"⟩
theorem k_La_passDays : Cond.code y_La_passDays prog_5_method_3_code 3 (none) ∈ wt := (wt_t3 45 rfl rfl)
abbrev y_La_endSeason : MethodName := ⟨"VillagePay$Land", "endSeason", "(I)V"⟩
theorem k_La_endSeason : Cond.code y_La_endSeason prog_5_method_4_code 3 (none) ∈ wt := (wt_t3 49 rfl rfl)
abbrev y_La_crop : MethodName := ⟨"VillagePay$Land", "crop", "(IIII)I"⟩
theorem k_La_crop : Cond.code y_La_crop prog_5_method_5_code 4 (some .int) ∈ wt := (wt_t3 52 rfl rfl)
abbrev y_La_healthAfter : MethodName := ⟨"VillagePay$Land", "healthAfter", "(II)I"⟩
theorem k_La_healthAfter : Cond.code y_La_healthAfter prog_5_method_6_code 3 (some .int) ∈ wt := (wt_t3 55 rfl rfl)
abbrev y_La_paperOf : MethodName := ⟨"VillagePay$Land", "paperOf", "(I)I"⟩
theorem k_La_paperOf : Cond.code y_La_paperOf prog_5_method_7_code 4 (some .int) ∈ wt := (wt_t4 140 rfl rfl)
abbrev y_La_nearOf : MethodName := ⟨"VillagePay$Land", "nearOf", "(I)I"⟩
theorem k_La_nearOf : Cond.code y_La_nearOf prog_5_method_8_code 5 (some .int) ∈ wt := (wt_t4 147 rfl rfl)
abbrev y_La_tryRule : MethodName := ⟨"VillagePay$Land", "tryRule", "(IIIII)I"⟩
theorem k_La_tryRule : Cond.code y_La_tryRule prog_5_method_9_code 13 (some .int) ∈ wt := (wt_t5 53 rfl rfl)
abbrev y_La_copyFrom : MethodName := ⟨"VillagePay$Land", "copyFrom", "(LVillagePay$Land;)V"⟩
theorem k_La_copyFrom : Cond.code y_La_copyFrom prog_5_method_10_code 2 (none) ∈ wt := (wt_t5 81 rfl rfl)
abbrev y_Lw_init : MethodName := ⟨"VillagePay$Laws", "<init>", "()V"⟩
theorem k_Lw_init : Cond.code y_Lw_init prog_6_method_1_code 1 (none) ∈ wt := (wt_t1 150 rfl rfl)
abbrev y_Lw_canBegin : MethodName := ⟨"VillagePay$Laws", "canBegin", "(I)Z"⟩
theorem k_Lw_canBegin : Cond.code y_Lw_canBegin prog_6_method_2_code 2 (some .boolean) ∈ wt := (wt_t3 226 rfl rfl)
abbrev y_Lw_reignOn : MethodName := ⟨"VillagePay$Laws", "reignOn", "(I)I"⟩
theorem k_Lw_reignOn : Cond.code y_Lw_reignOn prog_6_method_3_code 4 (some .int) ∈ wt := (wt_t3 97 rfl rfl)
abbrev y_Lw_copyFrom : MethodName := ⟨"VillagePay$Laws", "copyFrom", "(LVillagePay$Laws;)V"⟩
theorem k_Lw_copyFrom : Cond.code y_Lw_copyFrom prog_6_method_4_code 5 (none) ∈ wt := (wt_t5 91 rfl rfl)
abbrev y_Mo_init : MethodName := ⟨"VillagePay$Moves", "<init>", "()V"⟩
theorem k_Mo_init : Cond.code y_Mo_init prog_7_method_1_code 1 (none) ∈ wt := (wt_t2 25 rfl rfl)
abbrev y_Mo_hasEither : MethodName := ⟨"VillagePay$Moves", "hasEither", "(II)Z"⟩
theorem k_Mo_hasEither : Cond.code y_Mo_hasEither prog_7_method_2_code 4 (some .boolean) ∈ wt := (wt_t4 214 rfl rfl)
abbrev y_Mo_plan : MethodName := ⟨"VillagePay$Moves", "plan", "(II)I"⟩
theorem k_Mo_plan : Cond.code y_Mo_plan prog_7_method_3_code 4 (some .int) ∈ wt := (wt_t4 218 rfl rfl)
abbrev y_Mo_reckonRow : MethodName := ⟨"VillagePay$Moves", "reckonRow", "(LVillagePay$Book;II)V"⟩
theorem k_Mo_reckonRow : Cond.code y_Mo_reckonRow prog_7_method_4_code 7 (none) ∈ wt := (wt_t4 230 rfl rfl)
abbrev y_Mo_firstLeft : MethodName := ⟨"VillagePay$Moves", "firstLeft", "(Z)I"⟩
theorem k_Mo_firstLeft : Cond.code y_Mo_firstLeft prog_7_method_5_code 4 (some .int) ∈ wt := (wt_t4 235 rfl rfl)
abbrev y_Mo_doMove : MethodName := ⟨"VillagePay$Moves", "doMove", "(II)V"⟩
theorem k_Mo_doMove : Cond.code y_Mo_doMove prog_7_method_6_code 3 (none) ∈ wt := (wt_t4 239 rfl rfl)
abbrev y_Mo_takeAll : MethodName := ⟨"VillagePay$Moves", "takeAll", "(II)V"⟩
theorem k_Mo_takeAll : Cond.code y_Mo_takeAll prog_7_method_7_code 4 (none) ∈ wt := (wt_t5 3 rfl rfl)
abbrev y_Mo_copyFrom : MethodName := ⟨"VillagePay$Moves", "copyFrom", "(LVillagePay$Moves;)V"⟩
theorem k_Mo_copyFrom : Cond.code y_Mo_copyFrom prog_7_method_8_code 2 (none) ∈ wt := (wt_t5 106 rfl rfl)
abbrev y_Ne_init : MethodName := ⟨"VillagePay$News", "<init>", "(LVillagePay$Land;)V"⟩
theorem k_Ne_init : Cond.code y_Ne_init prog_8_method_1_code 2 (none) ∈ wt := (wt_t1 236 rfl rfl)
abbrev y_Ne_write : MethodName := ⟨"VillagePay$News", "write", "(IIIII)I"⟩
theorem k_Ne_write : Cond.code y_Ne_write prog_8_method_2_code 7 (some .int) ∈ wt := (wt_t5 18 rfl rfl)
abbrev y_Ne_trustIn : MethodName := ⟨"VillagePay$News", "trustIn", "(II)I"⟩
theorem k_Ne_trustIn : Cond.code y_Ne_trustIn prog_8_method_3_code 7 (some .int) ∈ wt := (wt_t5 26 rfl rfl)
abbrev y_Ne_valueOf : MethodName := ⟨"VillagePay$News", "valueOf", "(II)I"⟩
theorem k_Ne_valueOf : Cond.code y_Ne_valueOf prog_8_method_4_code 2 (some .int) ∈ wt := (wt_t5 29 rfl rfl)
abbrev y_Ne_weigh : MethodName := ⟨"VillagePay$News", "weigh", "(III)I"⟩
theorem k_Ne_weigh : Cond.code y_Ne_weigh prog_8_method_5_code 9 (some .int) ∈ wt := (wt_t5 39 rfl rfl)
abbrev y_Ne_lastWord : MethodName := ⟨"VillagePay$News", "lastWord", "(IIII)I"⟩
theorem k_Ne_lastWord : Cond.code y_Ne_lastWord prog_8_method_6_code 8 (some .int) ∈ wt := (wt_t3 114 rfl rfl)
abbrev y_Ne_isProven : MethodName := ⟨"VillagePay$News", "isProven", "(III)Z"⟩
theorem k_Ne_isProven : Cond.code y_Ne_isProven prog_8_method_7_code 7 (some .boolean) ∈ wt := (wt_t3 110 rfl rfl)
abbrev y_Ne_copyFrom : MethodName := ⟨"VillagePay$News", "copyFrom", "(LVillagePay$News;)V"⟩
theorem k_Ne_copyFrom : Cond.code y_Ne_copyFrom prog_8_method_8_code 2 (none) ∈ wt := (wt_t5 101 rfl rfl)
abbrev y_Re_init : MethodName := ⟨"VillagePay$Reader", "<init>", "(LVillagePay$Tape;LVillagePay$Laws;)V"⟩
theorem k_Re_init : Cond.code y_Re_init prog_9_method_1_code 3 (none) ∈ wt := (wt_t2 94 rfl rfl)
abbrev y_Re_readReign : MethodName := ⟨"VillagePay$Reader", "readReign", "(I)I"⟩
theorem k_Re_readReign : Cond.code y_Re_readReign prog_9_method_2_code 5 (some .int) ∈ wt := (wt_t3 230 rfl rfl)
abbrev y_Re_remark : MethodName := ⟨"VillagePay$Reader", "remark", "(I)V"⟩
theorem k_Re_remark : Cond.code y_Re_remark prog_9_method_3_code 2 (none) ∈ wt := (wt_t4 59 rfl rfl)
abbrev y_Re_readLine : MethodName := ⟨"VillagePay$Reader", "readLine", "(I)Z"⟩
theorem k_Re_readLine : Cond.code y_Re_readLine prog_9_method_4_code 3 (some .boolean) ∈ wt := (wt_t4 55 rfl rfl)
abbrev y_Re_readTests : MethodName := ⟨"VillagePay$Reader", "readTests", "(IZ)Z"⟩
theorem k_Re_readTests : Cond.code y_Re_readTests prog_9_method_5_code 5 (some .boolean) ∈ wt := (wt_t4 63 rfl rfl)
abbrev y_Re_readTest : MethodName := ⟨"VillagePay$Reader", "readTest", "(IZ)Z"⟩
theorem k_Re_readTest : Cond.code y_Re_readTest prog_9_method_6_code 6 (some .boolean) ∈ wt := (wt_t4 67 rfl rfl)
abbrev y_Re_readDeed : MethodName := ⟨"VillagePay$Reader", "readDeed", "(IZ)Z"⟩
theorem k_Re_readDeed : Cond.code y_Re_readDeed prog_9_method_7_code 4 (some .boolean) ∈ wt := (wt_t4 76 rfl rfl)
abbrev y_Re_isFitNumber : MethodName := ⟨"VillagePay$Reader", "isFitNumber", "(I)Z"⟩
theorem k_Re_isFitNumber : Cond.code y_Re_isFitNumber prog_9_method_8_code 2 (some .boolean) ∈ wt := (wt_t4 80 rfl rfl)
abbrev y_Re_pass : MethodName := ⟨"VillagePay$Reader", "pass", "(I)Z"⟩
theorem k_Re_pass : Cond.code y_Re_pass prog_9_method_9_code 2 (some .boolean) ∈ wt := (wt_t4 72 rfl rfl)
abbrev y_Re_readToken : MethodName := ⟨"VillagePay$Reader", "readToken", "()V"⟩
theorem k_Re_readToken : Cond.code y_Re_readToken prog_9_method_10_code 3 (none) ∈ wt := (wt_t3 234 rfl rfl)
abbrev y_Re_readNumber : MethodName := ⟨"VillagePay$Reader", "readNumber", "()V"⟩
theorem k_Re_readNumber : Cond.code y_Re_readNumber prog_9_method_11_code 1 (none) ∈ wt := (wt_t4 51 rfl rfl)
abbrev y_Re_readWord : MethodName := ⟨"VillagePay$Reader", "readWord", "()V"⟩
theorem k_Re_readWord : Cond.code y_Re_readWord prog_9_method_12_code 7 (none) ∈ wt := (wt_t3 238 rfl rfl)
abbrev y_Sc_init : MethodName := ⟨"VillagePay$Scale", "<init>", "(LVillagePay$State;)V"⟩
theorem k_Sc_init : Cond.code y_Sc_init prog_10_method_1_code 2 (none) ∈ wt := (wt_t2 122 rfl rfl)
abbrev y_Sc_reckon : MethodName := ⟨"VillagePay$Scale", "reckon", "(III)V"⟩
theorem k_Sc_reckon : Cond.code y_Sc_reckon prog_10_method_2_code 8 (none) ∈ wt := (wt_t3 93 rfl rfl)
abbrev y_Sc_yearly : MethodName := ⟨"VillagePay$Scale", "yearly", "()I"⟩
theorem k_Sc_yearly : Cond.code y_Sc_yearly prog_10_method_3_code 1 (some .int) ∈ wt := (wt_t4 93 rfl rfl)
abbrev y_Sc_lookAt : MethodName := ⟨"VillagePay$Scale", "lookAt", "(III)V"⟩
theorem k_Sc_lookAt : Cond.code y_Sc_lookAt prog_10_method_4_code 6 (none) ∈ wt := (wt_t3 101 rfl rfl)
abbrev y_Sc_allHold : MethodName := ⟨"VillagePay$Scale", "allHold", "(I)Z"⟩
theorem k_Sc_allHold : Cond.code y_Sc_allHold prog_10_method_5_code 6 (some .boolean) ∈ wt := (wt_t3 118 rfl rfl)
abbrev y_Sc_measure : MethodName := ⟨"VillagePay$Scale", "measure", "(I)I"⟩
theorem k_Sc_measure : Cond.code y_Sc_measure prog_10_method_6_code 2 (some .int) ∈ wt := (wt_t3 122 rfl rfl)
abbrev y_Sc_compares : MethodName := ⟨"VillagePay$Scale", "compares", "(III)Z"⟩
theorem k_Sc_compares : Cond.code y_Sc_compares prog_10_method_7_code 3 (some .boolean) ∈ wt := (wt_t3 125 rfl rfl)
abbrev y_Sc_obey : MethodName := ⟨"VillagePay$Scale", "obey", "(II)V"⟩
theorem k_Sc_obey : Cond.code y_Sc_obey prog_10_method_8_code 3 (none) ∈ wt := (wt_t3 129 rfl rfl)
abbrev y_St_init : MethodName := ⟨"VillagePay$State", "<init>", "()V"⟩
theorem k_St_init : Cond.code y_St_init prog_11_method_1_code 1 (none) ∈ wt := (wt_t1 33 rfl rfl)
abbrev y_St_holderToday : MethodName := ⟨"VillagePay$State", "holderToday", "(I)I"⟩
theorem k_St_holderToday : Cond.code y_St_holderToday prog_11_method_2_code 2 (some .int) ∈ wt := (wt_t3 73 rfl rfl)
abbrev y_St_copyFrom : MethodName := ⟨"VillagePay$State", "copyFrom", "(LVillagePay$State;)V"⟩
theorem k_St_copyFrom : Cond.code y_St_copyFrom prog_11_method_3_code 2 (none) ∈ wt := (wt_t5 77 rfl rfl)
abbrev y_Ta_init : MethodName := ⟨"VillagePay$Tape", "<init>", "()V"⟩
theorem k_Ta_init : Cond.code y_Ta_init prog_12_method_1_code 1 (none) ∈ wt := (wt_t1 209 rfl rfl)
abbrev y_Ta_putNumber : MethodName := ⟨"VillagePay$Tape", "putNumber", "(I)V"⟩
theorem k_Ta_putNumber : Cond.code y_Ta_putNumber prog_12_method_2_code 3 (none) ∈ wt := (wt_t3 210 rfl rfl)
abbrev y_Ta_clearFault : MethodName := ⟨"VillagePay$Tape", "clearFault", "()V"⟩
theorem k_Ta_clearFault : Cond.code y_Ta_clearFault prog_12_method_3_code 1 (none) ∈ wt := (wt_t3 222 rfl rfl)
abbrev y_Ta_copyFrom : MethodName := ⟨"VillagePay$Tape", "copyFrom", "(LVillagePay$Tape;)V"⟩
theorem k_Ta_copyFrom : Cond.code y_Ta_copyFrom prog_12_method_4_code 2 (none) ∈ wt := (wt_t5 96 rfl rfl)
abbrev y_V_init : MethodName := ⟨"VillagePay", "<init>", "()V"⟩
theorem k_V_init : Cond.code y_V_init prog_1_method_1_code 1 (none) ∈ wt := (wt_t1 25 rfl rfl)
abbrev y_V_village : MethodName := ⟨"VillagePay", "village", "(III)I"⟩
theorem k_V_village : Cond.code y_V_village prog_1_method_2_code 5 (some .int) ∈ wt := (wt_t3 11 rfl rfl)
abbrev y_V_weather : MethodName := ⟨"VillagePay", "weather", "(II)Z"⟩
theorem k_V_weather : Cond.code y_V_weather prog_1_method_3_code 4 (some .boolean) ∈ wt := (wt_t3 22 rfl rfl)
abbrev y_V_squeeze : MethodName := ⟨"VillagePay", "squeeze", "(II)Z"⟩
theorem k_V_squeeze : Cond.code y_V_squeeze prog_1_method_4_code 3 (some .boolean) ∈ wt := (wt_t3 33 rfl rfl)
abbrev y_V_days : MethodName := ⟨"VillagePay", "days", "(I)I"⟩
theorem k_V_days : Cond.code y_V_days prog_1_method_5_code 2 (some .int) ∈ wt := (wt_t3 41 rfl rfl)
abbrev y_V_come : MethodName := ⟨"VillagePay", "come", "(II)I"⟩
theorem k_V_come : Cond.code y_V_come prog_1_method_6_code 3 (some .int) ∈ wt := (wt_t3 65 rfl rfl)
abbrev y_V_about : MethodName := ⟨"VillagePay", "about", "(II)I"⟩
theorem k_V_about : Cond.code y_V_about prog_1_method_7_code 3 (some .int) ∈ wt := (wt_t3 69 rfl rfl)
abbrev y_V_officer : MethodName := ⟨"VillagePay", "officer", "(II)I"⟩
theorem k_V_officer : Cond.code y_V_officer prog_1_method_8_code 4 (some .int) ∈ wt := (wt_t3 133 rfl rfl)
abbrev y_V_dies : MethodName := ⟨"VillagePay", "dies", "(I)Z"⟩
theorem k_V_dies : Cond.code y_V_dies prog_1_method_9_code 2 (some .boolean) ∈ wt := (wt_t3 141 rfl rfl)
abbrev y_V_give : MethodName := ⟨"VillagePay", "give", "(III)I"⟩
theorem k_V_give : Cond.code y_V_give prog_1_method_10_code 5 (some .int) ∈ wt := (wt_t3 149 rfl rfl)
abbrev y_V_raise : MethodName := ⟨"VillagePay", "raise", "(III)I"⟩
theorem k_V_raise : Cond.code y_V_raise prog_1_method_11_code 5 (some .int) ∈ wt := (wt_t3 160 rfl rfl)
abbrev y_V_order : MethodName := ⟨"VillagePay", "order", "(II)I"⟩
theorem k_V_order : Cond.code y_V_order prog_1_method_12_code 3 (some .int) ∈ wt := (wt_t3 164 rfl rfl)
abbrev y_V_holder : MethodName := ⟨"VillagePay", "holder", "(III)I"⟩
theorem k_V_holder : Cond.code y_V_holder prog_1_method_13_code 4 (some .int) ∈ wt := (wt_t3 168 rfl rfl)
abbrev y_V_rank : MethodName := ⟨"VillagePay", "rank", "(III)I"⟩
theorem k_V_rank : Cond.code y_V_rank prog_1_method_14_code 4 (some .int) ∈ wt := (wt_t3 177 rfl rfl)
abbrev y_V_had : MethodName := ⟨"VillagePay", "had", "(III)I"⟩
theorem k_V_had : Cond.code y_V_had prog_1_method_15_code 4 (some .int) ∈ wt := (wt_t3 183 rfl rfl)
abbrev y_V_feed : MethodName := ⟨"VillagePay", "feed", "(IIIII)I"⟩
theorem k_V_feed : Cond.code y_V_feed prog_1_method_16_code 6 (some .int) ∈ wt := (wt_t3 206 rfl rfl)
abbrev y_V_end : MethodName := ⟨"VillagePay", "end", "(I)I"⟩
theorem k_V_end : Cond.code y_V_end prog_1_method_17_code 2 (some .int) ∈ wt := (wt_t3 214 rfl rfl)
abbrev y_V_reign : MethodName := ⟨"VillagePay", "reign", "(I)I"⟩
theorem k_V_reign : Cond.code y_V_reign prog_1_method_18_code 3 (some .int) ∈ wt := (wt_t3 218 rfl rfl)
abbrev y_V_fault : MethodName := ⟨"VillagePay", "fault", "(I)I"⟩
theorem k_V_fault : Cond.code y_V_fault prog_1_method_19_code 2 (some .int) ∈ wt := (wt_t4 85 rfl rfl)
abbrev y_V_scale : MethodName := ⟨"VillagePay", "scale", "(IIII)I"⟩
theorem k_V_scale : Cond.code y_V_scale prog_1_method_20_code 5 (some .int) ∈ wt := (wt_t4 89 rfl rfl)
abbrev y_V_due : MethodName := ⟨"VillagePay", "due", "(III)I"⟩
theorem k_V_due : Cond.code y_V_due prog_1_method_21_code 4 (some .int) ∈ wt := (wt_t4 97 rfl rfl)
abbrev y_V_balance : MethodName := ⟨"VillagePay", "balance", "(III)I"⟩
theorem k_V_balance : Cond.code y_V_balance prog_1_method_22_code 4 (some .int) ∈ wt := (wt_t4 106 rfl rfl)
abbrev y_V_fit : MethodName := ⟨"VillagePay", "fit", "(II)I"⟩
theorem k_V_fit : Cond.code y_V_fit prog_1_method_23_code 3 (some .int) ∈ wt := (wt_t4 117 rfl rfl)
abbrev y_V_near : MethodName := ⟨"VillagePay", "near", "(I)I"⟩
theorem k_V_near : Cond.code y_V_near prog_1_method_24_code 2 (some .int) ∈ wt := (wt_t4 152 rfl rfl)
abbrev y_V_deal : MethodName := ⟨"VillagePay", "deal", "(IZ)I"⟩
theorem k_V_deal : Cond.code y_V_deal prog_1_method_25_code 3 (some .int) ∈ wt := (wt_t4 157 rfl rfl)
abbrev y_V_dealt : MethodName := ⟨"VillagePay", "dealt", "(IZI)I"⟩
theorem k_V_dealt : Cond.code y_V_dealt prog_1_method_26_code 4 (some .int) ∈ wt := (wt_t4 202 rfl rfl)
abbrev y_V_move : MethodName := ⟨"VillagePay", "move", "(II)I"⟩
theorem k_V_move : Cond.code y_V_move prog_1_method_27_code 4 (some .int) ∈ wt := (wt_t4 210 rfl rfl)
abbrev y_V_stay : MethodName := ⟨"VillagePay", "stay", "()V"⟩
theorem k_V_stay : Cond.code y_V_stay prog_1_method_28_code 1 (none) ∈ wt := (wt_t4 222 rfl rfl)
abbrev y_V_idle : MethodName := ⟨"VillagePay", "idle", "()I"⟩
theorem k_V_idle : Cond.code y_V_idle prog_1_method_29_code 1 (some .int) ∈ wt := (wt_t4 226 rfl rfl)
abbrev y_V_moved : MethodName := ⟨"VillagePay", "moved", "(I)I"⟩
theorem k_V_moved : Cond.code y_V_moved prog_1_method_30_code 2 (some .int) ∈ wt := (wt_t5 7 rfl rfl)
abbrev y_V_say : MethodName := ⟨"VillagePay", "say", "(IIII)I"⟩
theorem k_V_say : Cond.code y_V_say prog_1_method_31_code 6 (some .int) ∈ wt := (wt_t5 11 rfl rfl)
abbrev y_V_trust : MethodName := ⟨"VillagePay", "trust", "(II)I"⟩
theorem k_V_trust : Cond.code y_V_trust prog_1_method_32_code 3 (some .int) ∈ wt := (wt_t5 22 rfl rfl)
abbrev y_V_weighed : MethodName := ⟨"VillagePay", "weighed", "(III)I"⟩
theorem k_V_weighed : Cond.code y_V_weighed prog_1_method_33_code 4 (some .int) ∈ wt := (wt_t5 35 rfl rfl)
abbrev y_V_famine : MethodName := ⟨"VillagePay", "famine", "(III)Z"⟩
theorem k_V_famine : Cond.code y_V_famine prog_1_method_34_code 4 (some .boolean) ∈ wt := (wt_t5 44 rfl rfl)
abbrev y_V_tried : MethodName := ⟨"VillagePay", "tried", "(IIIII)I"⟩
theorem k_V_tried : Cond.code y_V_tried prog_1_method_35_code 7 (some .int) ∈ wt := (wt_t5 49 rfl rfl)
abbrev y_V_count : MethodName := ⟨"VillagePay", "count", "(I)I"⟩
theorem k_V_count : Cond.code y_V_count prog_1_method_36_code 2 (some .int) ∈ wt := (wt_t5 57 rfl rfl)
abbrev y_V_image : MethodName := ⟨"VillagePay", "image", "(I)Z"⟩
theorem k_V_image : Cond.code y_V_image prog_1_method_37_code 2 (some .boolean) ∈ wt := (wt_t5 73 rfl rfl)
abbrev y_V_again : MethodName := ⟨"VillagePay", "again", "(I)Z"⟩
theorem k_V_again : Cond.code y_V_again prog_1_method_38_code 2 (some .boolean) ∈ wt := (wt_t5 111 rfl rfl)
abbrev y_V_isWithin : MethodName := ⟨"VillagePay", "isWithin", "(III)Z"⟩
theorem k_V_isWithin : Cond.code y_V_isWithin prog_1_method_39_code 3 (some .boolean) ∈ wt := (wt_t3 14 rfl rfl)
abbrev y_V_isDay : MethodName := ⟨"VillagePay", "isDay", "(I)Z"⟩
theorem k_V_isDay : Cond.code y_V_isDay prog_1_method_40_code 1 (some .boolean) ∈ wt := (wt_t3 152 rfl rfl)
abbrev y_V_isSeason : MethodName := ⟨"VillagePay", "isSeason", "(I)Z"⟩
theorem k_V_isSeason : Cond.code y_V_isSeason prog_1_method_41_code 1 (some .boolean) ∈ wt := (wt_t3 25 rfl rfl)
abbrev y_V_isWriter : MethodName := ⟨"VillagePay", "isWriter", "(I)Z"⟩
theorem k_V_isWriter : Cond.code y_V_isWriter prog_1_method_42_code 1 (some .boolean) ∈ wt := (wt_t5 14 rfl rfl)
abbrev y_V_isVillage : MethodName := ⟨"VillagePay", "isVillage", "(I)Z"⟩
theorem k_V_isVillage : Cond.code y_V_isVillage prog_1_method_43_code 2 (some .boolean) ∈ wt := (wt_t3 37 rfl rfl)
abbrev y_V_isOfficer : MethodName := ⟨"VillagePay", "isOfficer", "(I)Z"⟩
theorem k_V_isOfficer : Cond.code y_V_isOfficer prog_1_method_44_code 2 (some .boolean) ∈ wt := (wt_t3 145 rfl rfl)
abbrev y_V_isKnownDay : MethodName := ⟨"VillagePay", "isKnownDay", "(I)Z"⟩
theorem k_V_isKnownDay : Cond.code y_V_isKnownDay prog_1_method_45_code 2 (some .boolean) ∈ wt := (wt_t3 172 rfl rfl)
abbrev y_V_hasEnded : MethodName := ⟨"VillagePay", "hasEnded", "(I)Z"⟩
theorem k_V_hasEnded : Cond.code y_V_hasEnded prog_1_method_46_code 2 (some .boolean) ∈ wt := (wt_t3 29 rfl rfl)
abbrev y_V_servesToday : MethodName := ⟨"VillagePay", "servesToday", "(I)Z"⟩
theorem k_V_servesToday : Cond.code y_V_servesToday prog_1_method_47_code 2 (some .boolean) ∈ wt := (wt_t4 121 rfl rfl)
abbrev y_V_canBeDealtTo : MethodName := ⟨"VillagePay", "canBeDealtTo", "(I)Z"⟩
theorem k_V_canBeDealtTo : Cond.code y_V_canBeDealtTo prog_1_method_48_code 4 (some .boolean) ∈ wt := (wt_t4 161 rfl rfl)
abbrev y_V_isOver : MethodName := ⟨"VillagePay", "isOver", "(I)Z"⟩
theorem k_V_isOver : Cond.code y_V_isOver prog_1_method_49_code 3 (some .boolean) ∈ wt := (wt_t3 89 rfl rfl)
abbrev y_V_countServing : MethodName := ⟨"VillagePay", "countServing", "()I"⟩
theorem k_V_countServing : Cond.code y_V_countServing prog_1_method_50_code 3 (some .int) ∈ wt := (wt_t5 61 rfl rfl)
abbrev y_V_countOfCrown : MethodName := ⟨"VillagePay", "countOfCrown", "()I"⟩
theorem k_V_countOfCrown : Cond.code y_V_countOfCrown prog_1_method_51_code 3 (some .int) ∈ wt := (wt_t5 65 rfl rfl)
abbrev y_V_countOver : MethodName := ⟨"VillagePay", "countOver", "()I"⟩
theorem k_V_countOver : Cond.code y_V_countOver prog_1_method_52_code 3 (some .int) ∈ wt := (wt_t5 69 rfl rfl)
abbrev y_M_init : MethodName := ⟨"VillagePayModel", "<init>", "()V"⟩
theorem k_M_init : Cond.code y_M_init prog_14_method_1_code 2 (none) ∈ wt := (wt_t5 116 rfl rfl)
abbrev y_M_isIn : MethodName := ⟨"VillagePayModel", "isIn", "(III)Z"⟩
theorem k_M_isIn : Cond.code y_M_isIn prog_14_method_2_code 3 (some .boolean) ∈ wt := (wt_t5 203 rfl rfl)
abbrev y_M_isOf : MethodName := ⟨"VillagePayModel", "isOf", "(II)Z"⟩
theorem k_M_isOf : Cond.code y_M_isOf prog_14_method_3_code 3 (some .boolean) ∈ wt := (wt_t5 219 rfl rfl)
abbrev y_M_isDay : MethodName := ⟨"VillagePayModel", "isDay", "(I)Z"⟩
theorem k_M_isDay : Cond.code y_M_isDay prog_14_method_4_code 1 (some .boolean) ∈ wt := (wt_t6 89 rfl rfl)
abbrev y_M_isKnown : MethodName := ⟨"VillagePayModel", "isKnown", "(I)Z"⟩
theorem k_M_isKnown : Cond.code y_M_isKnown prog_14_method_5_code 2 (some .boolean) ∈ wt := (wt_t6 109 rfl rfl)
abbrev y_M_isSeason : MethodName := ⟨"VillagePayModel", "isSeason", "(I)Z"⟩
theorem k_M_isSeason : Cond.code y_M_isSeason prog_14_method_6_code 1 (some .boolean) ∈ wt := (wt_t6 225 rfl rfl)
abbrev y_M_ended : MethodName := ⟨"VillagePayModel", "ended", "()I"⟩
theorem k_M_ended : Cond.code y_M_ended prog_14_method_7_code 1 (some .int) ∈ wt := (wt_t5 211 rfl rfl)
abbrev y_M_far : MethodName := ⟨"VillagePayModel", "far", "(II)I"⟩
theorem k_M_far : Cond.code y_M_far prog_14_method_8_code 2 (some .int) ∈ wt := (wt_t7 1 rfl rfl)
abbrev y_M_its : MethodName := ⟨"VillagePayModel", "its", "(II)I"⟩
theorem k_M_its : Cond.code y_M_its prog_14_method_9_code 3 (some .int) ∈ wt := (wt_t6 10 rfl rfl)
abbrev y_M_village : MethodName := ⟨"VillagePayModel", "village", "(III)I"⟩
theorem k_M_village : Cond.code y_M_village prog_14_method_10_code 6 (some .int) ∈ wt := (wt_t5 200 rfl rfl)
abbrev y_M_weather : MethodName := ⟨"VillagePayModel", "weather", "(II)Z"⟩
theorem k_M_weather : Cond.code y_M_weather prog_14_method_11_code 3 (some .boolean) ∈ wt := (wt_t5 207 rfl rfl)
abbrev y_M_squeeze : MethodName := ⟨"VillagePayModel", "squeeze", "(II)Z"⟩
theorem k_M_squeeze : Cond.code y_M_squeeze prog_14_method_12_code 3 (some .boolean) ∈ wt := (wt_t5 215 rfl rfl)
abbrev y_M_gives : MethodName := ⟨"VillagePayModel", "gives", "(IIII)I"⟩
theorem k_M_gives : Cond.code y_M_gives prog_14_method_13_code 5 (some .int) ∈ wt := (wt_t5 231 rfl rfl)
abbrev y_M_healthAfter : MethodName := ⟨"VillagePayModel", "healthAfter", "(II)I"⟩
theorem k_M_healthAfter : Cond.code y_M_healthAfter prog_14_method_14_code 3 (some .int) ∈ wt := (wt_t5 234 rfl rfl)
abbrev y_M_ends : MethodName := ⟨"VillagePayModel", "ends", "(I)V"⟩
theorem k_M_ends : Cond.code y_M_ends prog_14_method_15_code 4 (none) ∈ wt := (wt_t5 227 rfl rfl)
abbrev y_M_days : MethodName := ⟨"VillagePayModel", "days", "(I)I"⟩
theorem k_M_days : Cond.code y_M_days prog_14_method_16_code 3 (some .int) ∈ wt := (wt_t5 223 rfl rfl)
abbrev y_M_comeOf : MethodName := ⟨"VillagePayModel", "comeOf", "(II)I"⟩
theorem k_M_comeOf : Cond.code y_M_comeOf prog_14_method_17_code 3 (some .int) ∈ wt := (wt_t6 2 rfl rfl)
abbrev y_M_come : MethodName := ⟨"VillagePayModel", "come", "(II)I"⟩
theorem k_M_come : Cond.code y_M_come prog_14_method_18_code 3 (some .int) ∈ wt := (wt_t5 238 rfl rfl)
abbrev y_M_about : MethodName := ⟨"VillagePayModel", "about", "(II)I"⟩
theorem k_M_about : Cond.code y_M_about prog_14_method_19_code 3 (some .int) ∈ wt := (wt_t6 6 rfl rfl)
abbrev y_M_isOver : MethodName := ⟨"VillagePayModel", "isOver", "(I)Z"⟩
theorem k_M_isOver : Cond.code y_M_isOver prog_14_method_20_code 3 (some .boolean) ∈ wt := (wt_t6 34 rfl rfl)
abbrev y_M_officer0 : MethodName := ⟨"VillagePayModel", "officer0", "(II)I"⟩
theorem k_M_officer0 : Cond.code y_M_officer0 prog_14_method_21_code 3 (some .int) ∈ wt := (wt_t6 30 rfl rfl)
abbrev y_M_officer : MethodName := ⟨"VillagePayModel", "officer", "(II)I"⟩
theorem k_M_officer : Cond.code y_M_officer prog_14_method_22_code 4 (some .int) ∈ wt := (wt_t6 78 rfl rfl)
abbrev y_M_dies : MethodName := ⟨"VillagePayModel", "dies", "(I)Z"⟩
theorem k_M_dies : Cond.code y_M_dies prog_14_method_23_code 2 (some .boolean) ∈ wt := (wt_t6 82 rfl rfl)
abbrev y_M_serves : MethodName := ⟨"VillagePayModel", "serves", "(II)Z"⟩
theorem k_M_serves : Cond.code y_M_serves prog_14_method_24_code 3 (some .boolean) ∈ wt := (wt_t6 26 rfl rfl)
abbrev y_M_orders : MethodName := ⟨"VillagePayModel", "orders", "(IIII)I"⟩
theorem k_M_orders : Cond.code y_M_orders prog_14_method_25_code 6 (some .int) ∈ wt := (wt_t6 93 rfl rfl)
abbrev y_M_give : MethodName := ⟨"VillagePayModel", "give", "(III)I"⟩
theorem k_M_give : Cond.code y_M_give prog_14_method_26_code 4 (some .int) ∈ wt := (wt_t6 86 rfl rfl)
abbrev y_M_raise : MethodName := ⟨"VillagePayModel", "raise", "(III)I"⟩
theorem k_M_raise : Cond.code y_M_raise prog_14_method_27_code 4 (some .int) ∈ wt := (wt_t6 97 rfl rfl)
abbrev y_M_written : MethodName := ⟨"VillagePayModel", "written", "(II)I"⟩
theorem k_M_written : Cond.code y_M_written prog_14_method_28_code 3 (some .int) ∈ wt := (wt_t6 22 rfl rfl)
abbrev y_M_order : MethodName := ⟨"VillagePayModel", "order", "(II)I"⟩
theorem k_M_order : Cond.code y_M_order prog_14_method_29_code 3 (some .int) ∈ wt := (wt_t6 101 rfl rfl)
abbrev y_M_latest : MethodName := ⟨"VillagePayModel", "latest", "(IIII)I"⟩
theorem k_M_latest : Cond.code y_M_latest prog_14_method_30_code 7 (some .int) ∈ wt := (wt_t6 18 rfl rfl)
abbrev y_M_held : MethodName := ⟨"VillagePayModel", "held", "(III)I"⟩
theorem k_M_held : Cond.code y_M_held prog_14_method_31_code 6 (some .int) ∈ wt := (wt_t6 14 rfl rfl)
abbrev y_M_holder : MethodName := ⟨"VillagePayModel", "holder", "(III)I"⟩
theorem k_M_holder : Cond.code y_M_holder prog_14_method_32_code 4 (some .int) ∈ wt := (wt_t6 105 rfl rfl)
abbrev y_M_rankOf : MethodName := ⟨"VillagePayModel", "rankOf", "(III)I"⟩
theorem k_M_rankOf : Cond.code y_M_rankOf prog_14_method_33_code 5 (some .int) ∈ wt := (wt_t6 70 rfl rfl)
abbrev y_M_rank : MethodName := ⟨"VillagePayModel", "rank", "(III)I"⟩
theorem k_M_rank : Cond.code y_M_rank prog_14_method_34_code 4 (some .int) ∈ wt := (wt_t6 113 rfl rfl)
abbrev y_M_changes : MethodName := ⟨"VillagePayModel", "changes", "(II)Z"⟩
theorem k_M_changes : Cond.code y_M_changes prog_14_method_35_code 5 (some .boolean) ∈ wt := (wt_t6 125 rfl rfl)
abbrev y_M_hadOf : MethodName := ⟨"VillagePayModel", "hadOf", "(III)I"⟩
theorem k_M_hadOf : Cond.code y_M_hadOf prog_14_method_36_code 9 (some .int) ∈ wt := (wt_t6 121 rfl rfl)
abbrev y_M_bitsOf : MethodName := ⟨"VillagePayModel", "bitsOf", "(III)I"⟩
theorem k_M_bitsOf : Cond.code y_M_bitsOf prog_14_method_37_code 6 (some .int) ∈ wt := (wt_t6 129 rfl rfl)
abbrev y_M_had : MethodName := ⟨"VillagePayModel", "had", "(III)I"⟩
theorem k_M_had : Cond.code y_M_had prog_14_method_38_code 4 (some .int) ∈ wt := (wt_t6 117 rfl rfl)
abbrev y_M_feed : MethodName := ⟨"VillagePayModel", "feed", "(IIIII)I"⟩
theorem k_M_feed : Cond.code y_M_feed prog_14_method_39_code 8 (some .int) ∈ wt := (wt_t6 133 rfl rfl)
abbrev y_M_end : MethodName := ⟨"VillagePayModel", "end", "(I)I"⟩
theorem k_M_end : Cond.code y_M_end prog_14_method_40_code 2 (some .int) ∈ wt := (wt_t6 137 rfl rfl)
abbrev y_M_byteAt : MethodName := ⟨"VillagePayModel", "byteAt", "(I)I"⟩
theorem k_M_byteAt : Cond.code y_M_byteAt prog_14_method_41_code 2 (some .int) ∈ wt := (wt_t6 149 rfl rfl)
abbrev y_M_isLetter : MethodName := ⟨"VillagePayModel", "isLetter", "(I)Z"⟩
theorem k_M_isLetter : Cond.code y_M_isLetter prog_14_method_42_code 1 (some .boolean) ∈ wt := (wt_t6 152 rfl rfl)
abbrev y_M_isDigit : MethodName := ⟨"VillagePayModel", "isDigit", "(I)Z"⟩
theorem k_M_isDigit : Cond.code y_M_isDigit prog_14_method_43_code 1 (some .boolean) ∈ wt := (wt_t6 172 rfl rfl)
abbrev y_M_three : MethodName := ⟨"VillagePayModel", "three", "(III)J"⟩
theorem k_M_three : Cond.code y_M_three prog_14_method_44_code 3 (some .long) ∈ wt := (wt_t6 160 rfl rfl)
abbrev y_M_four : MethodName := ⟨"VillagePayModel", "four", "(IIII)J"⟩
theorem k_M_four : Cond.code y_M_four prog_14_method_45_code 4 (some .long) ∈ wt := (wt_t6 163 rfl rfl)
abbrev y_M_askedOf : MethodName := ⟨"VillagePayModel", "askedOf", "(J)I"⟩
theorem k_M_askedOf : Cond.code y_M_askedOf prog_14_method_46_code 2 (some .int) ∈ wt := (wt_t6 169 rfl rfl)
abbrev y_M_wordOf : MethodName := ⟨"VillagePayModel", "wordOf", "(J)I"⟩
theorem k_M_wordOf : Cond.code y_M_wordOf prog_14_method_47_code 2 (some .int) ∈ wt := (wt_t6 157 rfl rfl)
abbrev y_M_isSignByte : MethodName := ⟨"VillagePayModel", "isSignByte", "(I)Z"⟩
theorem k_M_isSignByte : Cond.code y_M_isSignByte prog_14_method_48_code 1 (some .boolean) ∈ wt := (wt_t6 175 rfl rfl)
abbrev y_M_advance : MethodName := ⟨"VillagePayModel", "advance", "()V"⟩
theorem k_M_advance : Cond.code y_M_advance prog_14_method_49_code 4 (none) ∈ wt := (wt_t6 145 rfl rfl)
abbrev y_M_stops : MethodName := ⟨"VillagePayModel", "stops", "()V"⟩
theorem k_M_stops : Cond.code y_M_stops prog_14_method_50_code 1 (none) ∈ wt := (wt_t6 195 rfl rfl)
abbrev y_M_also : MethodName := ⟨"VillagePayModel", "also", "(II)V"⟩
theorem k_M_also : Cond.code y_M_also prog_14_method_51_code 3 (none) ∈ wt := (wt_t6 183 rfl rfl)
abbrev y_M_takes : MethodName := ⟨"VillagePayModel", "takes", "(I)Z"⟩
theorem k_M_takes : Cond.code y_M_takes prog_14_method_52_code 2 (some .boolean) ∈ wt := (wt_t6 187 rfl rfl)
abbrev y_M_must : MethodName := ⟨"VillagePayModel", "must", "(I)V"⟩
theorem k_M_must : Cond.code y_M_must prog_14_method_53_code 2 (none) ∈ wt := (wt_t6 207 rfl rfl)
abbrev y_M_numbered : MethodName := ⟨"VillagePayModel", "numbered", "()I"⟩
theorem k_M_numbered : Cond.code y_M_numbered prog_14_method_54_code 2 (some .int) ∈ wt := (wt_t6 199 rfl rfl)
abbrev y_M_aTest : MethodName := ⟨"VillagePayModel", "aTest", "()V"⟩
theorem k_M_aTest : Cond.code y_M_aTest prog_14_method_55_code 1 (none) ∈ wt := (wt_t6 191 rfl rfl)
abbrev y_M_puts : MethodName := ⟨"VillagePayModel", "puts", "(II)V"⟩
theorem k_M_puts : Cond.code y_M_puts prog_14_method_56_code 3 (none) ∈ wt := (wt_t6 203 rfl rfl)
abbrev y_M_mayBe : MethodName := ⟨"VillagePayModel", "mayBe", "(II)Z"⟩
theorem k_M_mayBe : Cond.code y_M_mayBe prog_14_method_57_code 2 (some .boolean) ∈ wt := (wt_t6 210 rfl rfl)
abbrev y_M_aLine : MethodName := ⟨"VillagePayModel", "aLine", "()V"⟩
theorem k_M_aLine : Cond.code y_M_aLine prog_14_method_58_code 5 (none) ∈ wt := (wt_t6 179 rfl rfl)
abbrev y_M_reign : MethodName := ⟨"VillagePayModel", "reign", "(I)I"⟩
theorem k_M_reign : Cond.code y_M_reign prog_14_method_59_code 3 (some .int) ∈ wt := (wt_t6 141 rfl rfl)
abbrev y_M_fault : MethodName := ⟨"VillagePayModel", "fault", "(I)I"⟩
theorem k_M_fault : Cond.code y_M_fault prog_14_method_60_code 2 (some .int) ∈ wt := (wt_t6 214 rfl rfl)
abbrev y_M_isFamished : MethodName := ⟨"VillagePayModel", "isFamished", "(III)Z"⟩
theorem k_M_isFamished : Cond.code y_M_isFamished prog_14_method_61_code 6 (some .boolean) ∈ wt := (wt_t6 54 rfl rfl)
abbrev y_M_asked : MethodName := ⟨"VillagePayModel", "asked", "(IIII)I"⟩
theorem k_M_asked : Cond.code y_M_asked prog_14_method_62_code 7 (some .int) ∈ wt := (wt_t6 50 rfl rfl)
abbrev y_M_holds : MethodName := ⟨"VillagePayModel", "holds", "(IIII)Z"⟩
theorem k_M_holds : Cond.code y_M_holds prog_14_method_63_code 11 (some .boolean) ∈ wt := (wt_t6 46 rfl rfl)
abbrev y_M_reignOf : MethodName := ⟨"VillagePayModel", "reignOf", "(I)I"⟩
theorem k_M_reignOf : Cond.code y_M_reignOf prog_14_method_64_code 4 (some .int) ∈ wt := (wt_t6 42 rfl rfl)
abbrev y_M_does : MethodName := ⟨"VillagePayModel", "does", "(II)V"⟩
theorem k_M_does : Cond.code y_M_does prog_14_method_65_code 3 (none) ∈ wt := (wt_t6 74 rfl rfl)
abbrev y_M_scales : MethodName := ⟨"VillagePayModel", "scales", "(III)V"⟩
theorem k_M_scales : Cond.code y_M_scales prog_14_method_66_code 8 (none) ∈ wt := (wt_t6 38 rfl rfl)
abbrev y_M_scale : MethodName := ⟨"VillagePayModel", "scale", "(IIII)I"⟩
theorem k_M_scale : Cond.code y_M_scale prog_14_method_67_code 5 (some .int) ∈ wt := (wt_t6 218 rfl rfl)
abbrev y_M_dueOf : MethodName := ⟨"VillagePayModel", "dueOf", "(III)I"⟩
theorem k_M_dueOf : Cond.code y_M_dueOf prog_14_method_68_code 7 (some .int) ∈ wt := (wt_t6 229 rfl rfl)
abbrev y_M_due : MethodName := ⟨"VillagePayModel", "due", "(III)I"⟩
theorem k_M_due : Cond.code y_M_due prog_14_method_69_code 4 (some .int) ∈ wt := (wt_t6 222 rfl rfl)
abbrev y_M_balance : MethodName := ⟨"VillagePayModel", "balance", "(III)I"⟩
theorem k_M_balance : Cond.code y_M_balance prog_14_method_70_code 6 (some .int) ∈ wt := (wt_t6 233 rfl rfl)
abbrev y_M_near : MethodName := ⟨"VillagePayModel", "near", "(I)I"⟩
theorem k_M_near : Cond.code y_M_near prog_14_method_71_code 5 (some .int) ∈ wt := (wt_t6 238 rfl rfl)
abbrev y_M_isCrowns : MethodName := ⟨"VillagePayModel", "isCrowns", "(I)Z"⟩
theorem k_M_isCrowns : Cond.code y_M_isCrowns prog_14_method_72_code 2 (some .boolean) ∈ wt := (wt_t7 13 rfl rfl)
abbrev y_M_hadByKin : MethodName := ⟨"VillagePayModel", "hadByKin", "(II)Z"⟩
theorem k_M_hadByKin : Cond.code y_M_hadByKin prog_14_method_73_code 5 (some .boolean) ∈ wt := (wt_t7 17 rfl rfl)
abbrev y_M_paperOf : MethodName := ⟨"VillagePayModel", "paperOf", "(I)I"⟩
theorem k_M_paperOf : Cond.code y_M_paperOf prog_14_method_74_code 4 (some .int) ∈ wt := (wt_t7 25 rfl rfl)
abbrev y_M_dueNow : MethodName := ⟨"VillagePayModel", "dueNow", "(I)I"⟩
theorem k_M_dueNow : Cond.code y_M_dueNow prog_14_method_75_code 2 (some .int) ∈ wt := (wt_t7 21 rfl rfl)
abbrev y_M_servesNow : MethodName := ⟨"VillagePayModel", "servesNow", "(I)Z"⟩
theorem k_M_servesNow : Cond.code y_M_servesNow prog_14_method_76_code 2 (some .boolean) ∈ wt := (wt_t7 9 rfl rfl)
abbrev y_M_fit : MethodName := ⟨"VillagePayModel", "fit", "(II)I"⟩
theorem k_M_fit : Cond.code y_M_fit prog_14_method_77_code 9 (some .int) ∈ wt := (wt_t7 5 rfl rfl)
abbrev y_M_begins : MethodName := ⟨"VillagePayModel", "begins", "(I)Z"⟩
theorem k_M_begins : Cond.code y_M_begins prog_14_method_78_code 3 (some .boolean) ∈ wt := (wt_t7 34 rfl rfl)
abbrev y_M_gapNow : MethodName := ⟨"VillagePayModel", "gapNow", "()I"⟩
theorem k_M_gapNow : Cond.code y_M_gapNow prog_14_method_79_code 3 (some .int) ∈ wt := (wt_t7 42 rfl rfl)
abbrev y_M_byRule : MethodName := ⟨"VillagePayModel", "byRule", "()I"⟩
theorem k_M_byRule : Cond.code y_M_byRule prog_14_method_80_code 6 (some .int) ∈ wt := (wt_t7 50 rfl rfl)
abbrev y_M_goesOn : MethodName := ⟨"VillagePayModel", "goesOn", "()Z"⟩
theorem k_M_goesOn : Cond.code y_M_goesOn prog_14_method_81_code 2 (some .boolean) ∈ wt := (wt_t7 46 rfl rfl)
abbrev y_M_byBest : MethodName := ⟨"VillagePayModel", "byBest", "()I"⟩
theorem k_M_byBest : Cond.code y_M_byBest prog_14_method_82_code 5 (some .int) ∈ wt := (wt_t7 38 rfl rfl)
abbrev y_M_deal : MethodName := ⟨"VillagePayModel", "deal", "(IZ)I"⟩
theorem k_M_deal : Cond.code y_M_deal prog_14_method_83_code 3 (some .int) ∈ wt := (wt_t7 30 rfl rfl)
abbrev y_M_dealt : MethodName := ⟨"VillagePayModel", "dealt", "(IZI)I"⟩
theorem k_M_dealt : Cond.code y_M_dealt prog_14_method_84_code 5 (some .int) ∈ wt := (wt_t7 54 rfl rfl)
abbrev y_M_move : MethodName := ⟨"VillagePayModel", "move", "(II)I"⟩
theorem k_M_move : Cond.code y_M_move prog_14_method_85_code 4 (some .int) ∈ wt := (wt_t7 59 rfl rfl)
abbrev y_M_stay : MethodName := ⟨"VillagePayModel", "stay", "()V"⟩
theorem k_M_stay : Cond.code y_M_stay prog_14_method_86_code 1 (none) ∈ wt := (wt_t7 63 rfl rfl)
abbrev y_M_losesAll : MethodName := ⟨"VillagePayModel", "losesAll", "(I)V"⟩
theorem k_M_losesAll : Cond.code y_M_losesAll prog_14_method_87_code 3 (none) ∈ wt := (wt_t7 79 rfl rfl)
abbrev y_M_first : MethodName := ⟨"VillagePayModel", "first", "(Z)I"⟩
theorem k_M_first : Cond.code y_M_first prog_14_method_88_code 4 (some .int) ∈ wt := (wt_t7 75 rfl rfl)
abbrev y_M_moves : MethodName := ⟨"VillagePayModel", "moves", "()I"⟩
theorem k_M_moves : Cond.code y_M_moves prog_14_method_89_code 4 (some .int) ∈ wt := (wt_t7 71 rfl rfl)
abbrev y_M_idle : MethodName := ⟨"VillagePayModel", "idle", "()I"⟩
theorem k_M_idle : Cond.code y_M_idle prog_14_method_90_code 1 (some .int) ∈ wt := (wt_t7 67 rfl rfl)
abbrev y_M_moved : MethodName := ⟨"VillagePayModel", "moved", "(I)I"⟩
theorem k_M_moved : Cond.code y_M_moved prog_14_method_91_code 3 (some .int) ∈ wt := (wt_t7 83 rfl rfl)
abbrev y_M_said : MethodName := ⟨"VillagePayModel", "said", "(II)I"⟩
theorem k_M_said : Cond.code y_M_said prog_14_method_92_code 3 (some .int) ∈ wt := (wt_t6 66 rfl rfl)
abbrev y_M_say : MethodName := ⟨"VillagePayModel", "say", "(IIII)I"⟩
theorem k_M_say : Cond.code y_M_say prog_14_method_93_code 6 (some .int) ∈ wt := (wt_t7 87 rfl rfl)
abbrev y_M_worthOf : MethodName := ⟨"VillagePayModel", "worthOf", "(I)I"⟩
theorem k_M_worthOf : Cond.code y_M_worthOf prog_14_method_94_code 4 (some .int) ∈ wt := (wt_t7 99 rfl rfl)
abbrev y_M_trustOf : MethodName := ⟨"VillagePayModel", "trustOf", "(II)I"⟩
theorem k_M_trustOf : Cond.code y_M_trustOf prog_14_method_95_code 6 (some .int) ∈ wt := (wt_t7 95 rfl rfl)
abbrev y_M_trust : MethodName := ⟨"VillagePayModel", "trust", "(II)I"⟩
theorem k_M_trust : Cond.code y_M_trust prog_14_method_96_code 3 (some .int) ∈ wt := (wt_t7 91 rfl rfl)
abbrev y_M_last : MethodName := ⟨"VillagePayModel", "last", "(IIII)I"⟩
theorem k_M_last : Cond.code y_M_last prog_14_method_97_code 7 (some .int) ∈ wt := (wt_t6 62 rfl rfl)
abbrev y_M_isAsked : MethodName := ⟨"VillagePayModel", "isAsked", "(III)Z"⟩
theorem k_M_isAsked : Cond.code y_M_isAsked prog_14_method_98_code 4 (some .boolean) ∈ wt := (wt_t7 107 rfl rfl)
abbrev y_M_weighed : MethodName := ⟨"VillagePayModel", "weighed", "(III)I"⟩
theorem k_M_weighed : Cond.code y_M_weighed prog_14_method_99_code 8 (some .int) ∈ wt := (wt_t7 103 rfl rfl)
abbrev y_M_isFamine : MethodName := ⟨"VillagePayModel", "isFamine", "(III)Z"⟩
theorem k_M_isFamine : Cond.code y_M_isFamine prog_14_method_100_code 7 (some .boolean) ∈ wt := (wt_t6 58 rfl rfl)
abbrev y_M_famine : MethodName := ⟨"VillagePayModel", "famine", "(III)Z"⟩
theorem k_M_famine : Cond.code y_M_famine prog_14_method_101_code 4 (some .boolean) ∈ wt := (wt_t7 111 rfl rfl)
abbrev y_M_tried : MethodName := ⟨"VillagePayModel", "tried", "(IIIII)I"⟩
theorem k_M_tried : Cond.code y_M_tried prog_14_method_102_code 13 (some .int) ∈ wt := (wt_t7 115 rfl rfl)
abbrev y_M_count : MethodName := ⟨"VillagePayModel", "count", "(I)I"⟩
theorem k_M_count : Cond.code y_M_count prog_14_method_103_code 6 (some .int) ∈ wt := (wt_t7 119 rfl rfl)
abbrev y_M_image : MethodName := ⟨"VillagePayModel", "image", "(I)Z"⟩
theorem k_M_image : Cond.code y_M_image prog_14_method_104_code 3 (some .boolean) ∈ wt := (wt_t7 123 rfl rfl)
abbrev y_M_again : MethodName := ⟨"VillagePayModel", "again", "(I)Z"⟩
theorem k_M_again : Cond.code y_M_again prog_14_method_105_code 3 (some .boolean) ∈ wt := (wt_t7 127 rfl rfl)
abbrev y_JArr_fill : MethodName := ⟨"java/util/Arrays", "fill", "([II)V"⟩
theorem k_JArr_fill : Cond.code y_JArr_fill prog_20_method_103_code 4 (none) ∈ wt := (wt_t1 43 rfl rfl)
theorem vHy (y : MethodName) (n : Nat) (h : (decide (y.cls ≠ "java/lang/invoke/MethodHandle") && decide (y.cls ≠ "java/lang/invoke/VarHandle") && decide ((parseMethodDescriptor y.desc).map (fun d => d.parameters.length) = some n)) = true) : y.cls ≠ "java/lang/invoke/MethodHandle" ∧ y.cls ≠ "java/lang/invoke/VarHandle" ∧ (parseMethodDescriptor y.desc).map (fun d => d.parameters.length) = some n := by
  simp only [Bool.and_eq_true, decide_eq_true_eq] at h
  exact ⟨h.1.1, h.1.2, h.2⟩
theorem hy_V_init : y_V_init.cls ≠ "java/lang/invoke/MethodHandle" ∧ y_V_init.cls ≠ "java/lang/invoke/VarHandle" ∧ (parseMethodDescriptor y_V_init.desc).map (fun d => d.parameters.length) = some 0 := vHy _ _ (by decide +kernel)
theorem im_V_init : Cond.instanceMethod y_V_init ∈ wt := (wt_t1 24 rfl rfl)
theorem l_L_9 : vIl "VillagePayLaw" 9 y_V_init 0 := ⟨(wt_t1 23 rfl rfl), im_V_init, (wt_t1 1 rfl rfl), rfl, hy_V_init⟩
theorem lo_V_1 : Cond.methodLink "VillagePay" 1 Lib.objectInit ∈ wt := (wt_t1 26 rfl rfl)
theorem lo_St_1 : Cond.methodLink "VillagePay$State" 1 Lib.objectInit ∈ wt := (wt_t1 34 rfl rfl)
theorem hy_La_init : y_La_init.cls ≠ "java/lang/invoke/MethodHandle" ∧ y_La_init.cls ≠ "java/lang/invoke/VarHandle" ∧ (parseMethodDescriptor y_La_init.desc).map (fun d => d.parameters.length) = some 0 := vHy _ _ (by decide +kernel)
theorem im_La_init : Cond.instanceMethod y_La_init ∈ wt := (wt_t1 38 rfl rfl)
theorem l_St_9 : vIl "VillagePay$State" 9 y_La_init 0 := ⟨(wt_t1 37 rfl rfl), im_La_init, (wt_t1 3 rfl rfl), rfl, hy_La_init⟩
theorem lo_La_3 : Cond.methodLink "VillagePay$Land" 3 Lib.objectInit ∈ wt := (wt_t1 40 rfl rfl)
theorem hy_JArr_fill : y_JArr_fill.cls ≠ "java/lang/invoke/MethodHandle" ∧ y_JArr_fill.cls ≠ "java/lang/invoke/VarHandle" ∧ (parseMethodDescriptor y_JArr_fill.desc).map (fun d => d.parameters.length) = some 2 := vHy _ _ (by decide +kernel)
theorem st_JArr_fill : Cond.static y_JArr_fill ∈ wt := (wt_t1 42 rfl rfl)
theorem l_La_33 : vSl "VillagePay$Land" 33 y_JArr_fill 2 := ⟨(wt_t1 41 rfl rfl), st_JArr_fill, (wt_t1 4 rfl rfl), hy_JArr_fill⟩
theorem lo_Bo_3 : Cond.methodLink "VillagePay$Book" 3 Lib.objectInit ∈ wt := (wt_t1 96 rfl rfl)
theorem lo_Lw_3 : Cond.methodLink "VillagePay$Laws" 3 Lib.objectInit ∈ wt := (wt_t1 151 rfl rfl)
theorem lo_Ta_3 : Cond.methodLink "VillagePay$Tape" 3 Lib.objectInit ∈ wt := (wt_t1 210 rfl rfl)
theorem hy_Ne_init : y_Ne_init.cls ≠ "java/lang/invoke/MethodHandle" ∧ y_Ne_init.cls ≠ "java/lang/invoke/VarHandle" ∧ (parseMethodDescriptor y_Ne_init.desc).map (fun d => d.parameters.length) = some 1 := vHy _ _ (by decide +kernel)
theorem im_Ne_init : Cond.instanceMethod y_Ne_init ∈ wt := (wt_t1 235 rfl rfl)
theorem l_St_39 : vIl "VillagePay$State" 39 y_Ne_init 1 := ⟨(wt_t1 234 rfl rfl), im_Ne_init, (wt_t1 8 rfl rfl), rfl, hy_Ne_init⟩
theorem lo_Ne_3 : Cond.methodLink "VillagePay$News" 3 Lib.objectInit ∈ wt := (wt_t1 237 rfl rfl)
theorem lo_Mo_3 : Cond.methodLink "VillagePay$Moves" 3 Lib.objectInit ∈ wt := (wt_t2 26 rfl rfl)
theorem hy_Re_init : y_Re_init.cls ≠ "java/lang/invoke/MethodHandle" ∧ y_Re_init.cls ≠ "java/lang/invoke/VarHandle" ∧ (parseMethodDescriptor y_Re_init.desc).map (fun d => d.parameters.length) = some 2 := vHy _ _ (by decide +kernel)
theorem im_Re_init : Cond.instanceMethod y_Re_init ∈ wt := (wt_t2 93 rfl rfl)
theorem l_V_30 : vIl "VillagePay" 30 y_Re_init 2 := ⟨(wt_t2 92 rfl rfl), im_Re_init, (wt_t1 10 rfl rfl), rfl, hy_Re_init⟩
theorem lo_Re_3 : Cond.methodLink "VillagePay$Reader" 3 Lib.objectInit ∈ wt := (wt_t2 95 rfl rfl)
theorem hy_Sc_init : y_Sc_init.cls ≠ "java/lang/invoke/MethodHandle" ∧ y_Sc_init.cls ≠ "java/lang/invoke/VarHandle" ∧ (parseMethodDescriptor y_Sc_init.desc).map (fun d => d.parameters.length) = some 1 := vHy _ _ (by decide +kernel)
theorem im_Sc_init : Cond.instanceMethod y_Sc_init ∈ wt := (wt_t2 121 rfl rfl)
theorem l_V_39 : vIl "VillagePay" 39 y_Sc_init 1 := ⟨(wt_t2 120 rfl rfl), im_Sc_init, (wt_t1 11 rfl rfl), rfl, hy_Sc_init⟩
theorem lo_Sc_3 : Cond.methodLink "VillagePay$Scale" 3 Lib.objectInit ∈ wt := (wt_t2 123 rfl rfl)
theorem hy_Ac_init : y_Ac_init.cls ≠ "java/lang/invoke/MethodHandle" ∧ y_Ac_init.cls ≠ "java/lang/invoke/VarHandle" ∧ (parseMethodDescriptor y_Ac_init.desc).map (fun d => d.parameters.length) = some 2 := vHy _ _ (by decide +kernel)
theorem im_Ac_init : Cond.instanceMethod y_Ac_init ∈ wt := (wt_t2 166 rfl rfl)
theorem l_V_48 : vIl "VillagePay" 48 y_Ac_init 2 := ⟨(wt_t2 165 rfl rfl), im_Ac_init, (wt_t1 12 rfl rfl), rfl, hy_Ac_init⟩
theorem lo_Ac_3 : Cond.methodLink "VillagePay$Accounts" 3 Lib.objectInit ∈ wt := (wt_t2 168 rfl rfl)
theorem hy_De_init : y_De_init.cls ≠ "java/lang/invoke/MethodHandle" ∧ y_De_init.cls ≠ "java/lang/invoke/VarHandle" ∧ (parseMethodDescriptor y_De_init.desc).map (fun d => d.parameters.length) = some 2 := vHy _ _ (by decide +kernel)
theorem im_De_init : Cond.instanceMethod y_De_init ∈ wt := (wt_t2 182 rfl rfl)
theorem l_V_57 : vIl "VillagePay" 57 y_De_init 2 := ⟨(wt_t2 181 rfl rfl), im_De_init, (wt_t1 13 rfl rfl), rfl, hy_De_init⟩
theorem lo_De_3 : Cond.methodLink "VillagePay$Dealer" 3 Lib.objectInit ∈ wt := (wt_t2 184 rfl rfl)
theorem hy_V_village : y_V_village.cls ≠ "java/lang/invoke/MethodHandle" ∧ y_V_village.cls ≠ "java/lang/invoke/VarHandle" ∧ (parseMethodDescriptor y_V_village.desc).map (fun d => d.parameters.length) = some 3 := vHy _ _ (by decide +kernel)
theorem im_V_village : Cond.instanceMethod y_V_village ∈ wt := (wt_t3 9 rfl rfl)
theorem sl_V_village : Cond.selects y_V_village.cls y_V_village y_V_village ∈ wt := (wt_t3 10 rfl rfl)
theorem l_L_13 : vMl "VillagePayLaw" 13 y_V_village 3 := ⟨(wt_t3 8 rfl rfl), im_V_village, sl_V_village, (wt_t1 1 rfl rfl), hy_V_village⟩
theorem hy_V_isWithin : y_V_isWithin.cls ≠ "java/lang/invoke/MethodHandle" ∧ y_V_isWithin.cls ≠ "java/lang/invoke/VarHandle" ∧ (parseMethodDescriptor y_V_isWithin.desc).map (fun d => d.parameters.length) = some 3 := vHy _ _ (by decide +kernel)
theorem st_V_isWithin : Cond.static y_V_isWithin ∈ wt := (wt_t3 13 rfl rfl)
theorem l_V_82 : vSl "VillagePay" 82 y_V_isWithin 3 := ⟨(wt_t3 12 rfl rfl), st_V_isWithin, (wt_t1 1 rfl rfl), hy_V_isWithin⟩
theorem hy_La_settle : y_La_settle.cls ≠ "java/lang/invoke/MethodHandle" ∧ y_La_settle.cls ≠ "java/lang/invoke/VarHandle" ∧ (parseMethodDescriptor y_La_settle.desc).map (fun d => d.parameters.length) = some 3 := vHy _ _ (by decide +kernel)
theorem im_La_settle : Cond.instanceMethod y_La_settle ∈ wt := (wt_t3 16 rfl rfl)
theorem sl_La_settle : Cond.selects y_La_settle.cls y_La_settle y_La_settle ∈ wt := (wt_t3 17 rfl rfl)
theorem l_V_92 : vMl "VillagePay" 92 y_La_settle 3 := ⟨(wt_t3 15 rfl rfl), im_La_settle, sl_La_settle, (wt_t1 3 rfl rfl), hy_La_settle⟩
theorem hy_V_weather : y_V_weather.cls ≠ "java/lang/invoke/MethodHandle" ∧ y_V_weather.cls ≠ "java/lang/invoke/VarHandle" ∧ (parseMethodDescriptor y_V_weather.desc).map (fun d => d.parameters.length) = some 2 := vHy _ _ (by decide +kernel)
theorem im_V_weather : Cond.instanceMethod y_V_weather ∈ wt := (wt_t3 20 rfl rfl)
theorem sl_V_weather : Cond.selects y_V_weather.cls y_V_weather y_V_weather ∈ wt := (wt_t3 21 rfl rfl)
theorem l_L_18 : vMl "VillagePayLaw" 18 y_V_weather 2 := ⟨(wt_t3 19 rfl rfl), im_V_weather, sl_V_weather, (wt_t1 1 rfl rfl), hy_V_weather⟩
theorem hy_V_isSeason : y_V_isSeason.cls ≠ "java/lang/invoke/MethodHandle" ∧ y_V_isSeason.cls ≠ "java/lang/invoke/VarHandle" ∧ (parseMethodDescriptor y_V_isSeason.desc).map (fun d => d.parameters.length) = some 1 := vHy _ _ (by decide +kernel)
theorem st_V_isSeason : Cond.static y_V_isSeason ∈ wt := (wt_t3 24 rfl rfl)
theorem l_V_96 : vSl "VillagePay" 96 y_V_isSeason 1 := ⟨(wt_t3 23 rfl rfl), st_V_isSeason, (wt_t1 1 rfl rfl), hy_V_isSeason⟩
theorem hy_V_hasEnded : y_V_hasEnded.cls ≠ "java/lang/invoke/MethodHandle" ∧ y_V_hasEnded.cls ≠ "java/lang/invoke/VarHandle" ∧ (parseMethodDescriptor y_V_hasEnded.desc).map (fun d => d.parameters.length) = some 1 := vHy _ _ (by decide +kernel)
theorem im_V_hasEnded : Cond.instanceMethod y_V_hasEnded ∈ wt := (wt_t3 28 rfl rfl)
theorem sl_V_hasEnded : Cond.selects y_V_hasEnded.cls y_V_hasEnded y_V_hasEnded ∈ wt := wt_p (q := (y_V_hasEnded, 10)) 0 (by decide +kernel)
theorem l_V_100 : vMl "VillagePay" 100 y_V_hasEnded 1 := ⟨(wt_t3 26 rfl rfl), im_V_hasEnded, sl_V_hasEnded, (wt_t1 1 rfl rfl), hy_V_hasEnded⟩
theorem hy_V_squeeze : y_V_squeeze.cls ≠ "java/lang/invoke/MethodHandle" ∧ y_V_squeeze.cls ≠ "java/lang/invoke/VarHandle" ∧ (parseMethodDescriptor y_V_squeeze.desc).map (fun d => d.parameters.length) = some 2 := vHy _ _ (by decide +kernel)
theorem im_V_squeeze : Cond.instanceMethod y_V_squeeze ∈ wt := (wt_t3 31 rfl rfl)
theorem sl_V_squeeze : Cond.selects y_V_squeeze.cls y_V_squeeze y_V_squeeze ∈ wt := (wt_t3 32 rfl rfl)
theorem l_L_23 : vMl "VillagePayLaw" 23 y_V_squeeze 2 := ⟨(wt_t3 30 rfl rfl), im_V_squeeze, sl_V_squeeze, (wt_t1 1 rfl rfl), hy_V_squeeze⟩
theorem hy_V_isVillage : y_V_isVillage.cls ≠ "java/lang/invoke/MethodHandle" ∧ y_V_isVillage.cls ≠ "java/lang/invoke/VarHandle" ∧ (parseMethodDescriptor y_V_isVillage.desc).map (fun d => d.parameters.length) = some 1 := vHy _ _ (by decide +kernel)
theorem im_V_isVillage : Cond.instanceMethod y_V_isVillage ∈ wt := (wt_t3 36 rfl rfl)
theorem sl_V_isVillage : Cond.selects y_V_isVillage.cls y_V_isVillage y_V_isVillage ∈ wt := wt_p (q := (y_V_isVillage, 10)) 1 (by decide +kernel)
theorem l_V_107 : vMl "VillagePay" 107 y_V_isVillage 1 := ⟨(wt_t3 34 rfl rfl), im_V_isVillage, sl_V_isVillage, (wt_t1 1 rfl rfl), hy_V_isVillage⟩
theorem hy_V_days : y_V_days.cls ≠ "java/lang/invoke/MethodHandle" ∧ y_V_days.cls ≠ "java/lang/invoke/VarHandle" ∧ (parseMethodDescriptor y_V_days.desc).map (fun d => d.parameters.length) = some 1 := vHy _ _ (by decide +kernel)
theorem im_V_days : Cond.instanceMethod y_V_days ∈ wt := (wt_t3 39 rfl rfl)
theorem sl_V_days : Cond.selects y_V_days.cls y_V_days y_V_days ∈ wt := (wt_t3 40 rfl rfl)
theorem l_L_27 : vMl "VillagePayLaw" 27 y_V_days 1 := ⟨(wt_t3 38 rfl rfl), im_V_days, sl_V_days, (wt_t1 1 rfl rfl), hy_V_days⟩
theorem hy_La_passDays : y_La_passDays.cls ≠ "java/lang/invoke/MethodHandle" ∧ y_La_passDays.cls ≠ "java/lang/invoke/VarHandle" ∧ (parseMethodDescriptor y_La_passDays.desc).map (fun d => d.parameters.length) = some 1 := vHy _ _ (by decide +kernel)
theorem im_La_passDays : Cond.instanceMethod y_La_passDays ∈ wt := (wt_t3 43 rfl rfl)
theorem sl_La_passDays : Cond.selects y_La_passDays.cls y_La_passDays y_La_passDays ∈ wt := (wt_t3 44 rfl rfl)
theorem l_V_116 : vMl "VillagePay" 116 y_La_passDays 1 := ⟨(wt_t3 42 rfl rfl), im_La_passDays, sl_La_passDays, (wt_t1 3 rfl rfl), hy_La_passDays⟩
theorem hy_La_endSeason : y_La_endSeason.cls ≠ "java/lang/invoke/MethodHandle" ∧ y_La_endSeason.cls ≠ "java/lang/invoke/VarHandle" ∧ (parseMethodDescriptor y_La_endSeason.desc).map (fun d => d.parameters.length) = some 1 := vHy _ _ (by decide +kernel)
theorem im_La_endSeason : Cond.instanceMethod y_La_endSeason ∈ wt := (wt_t3 48 rfl rfl)
theorem sl_La_endSeason : Cond.selects y_La_endSeason.cls y_La_endSeason y_La_endSeason ∈ wt := wt_p (q := (y_La_endSeason, 9)) 2 (by decide +kernel)
theorem l_La_46 : vMl "VillagePay$Land" 46 y_La_endSeason 1 := ⟨(wt_t3 46 rfl rfl), im_La_endSeason, sl_La_endSeason, (wt_t1 3 rfl rfl), hy_La_endSeason⟩
theorem hy_La_crop : y_La_crop.cls ≠ "java/lang/invoke/MethodHandle" ∧ y_La_crop.cls ≠ "java/lang/invoke/VarHandle" ∧ (parseMethodDescriptor y_La_crop.desc).map (fun d => d.parameters.length) = some 4 := vHy _ _ (by decide +kernel)
theorem st_La_crop : Cond.static y_La_crop ∈ wt := (wt_t3 51 rfl rfl)
theorem l_La_50 : vSl "VillagePay$Land" 50 y_La_crop 4 := ⟨(wt_t3 50 rfl rfl), st_La_crop, (wt_t1 3 rfl rfl), hy_La_crop⟩
theorem hy_La_healthAfter : y_La_healthAfter.cls ≠ "java/lang/invoke/MethodHandle" ∧ y_La_healthAfter.cls ≠ "java/lang/invoke/VarHandle" ∧ (parseMethodDescriptor y_La_healthAfter.desc).map (fun d => d.parameters.length) = some 2 := vHy _ _ (by decide +kernel)
theorem st_La_healthAfter : Cond.static y_La_healthAfter ∈ wt := (wt_t3 54 rfl rfl)
theorem l_La_54 : vSl "VillagePay$Land" 54 y_La_healthAfter 2 := ⟨(wt_t3 53 rfl rfl), st_La_healthAfter, (wt_t1 3 rfl rfl), hy_La_healthAfter⟩
theorem lx_La_58 : Cond.methodLink "VillagePay$Land" 58 Lib.Math.min.name ∈ wt := (wt_t3 56 rfl rfl)
theorem lx_La_63 : Cond.methodLink "VillagePay$Land" 63 Lib.Math.max.name ∈ wt := (wt_t3 59 rfl rfl)
theorem hy_V_come : y_V_come.cls ≠ "java/lang/invoke/MethodHandle" ∧ y_V_come.cls ≠ "java/lang/invoke/VarHandle" ∧ (parseMethodDescriptor y_V_come.desc).map (fun d => d.parameters.length) = some 2 := vHy _ _ (by decide +kernel)
theorem im_V_come : Cond.instanceMethod y_V_come ∈ wt := (wt_t3 63 rfl rfl)
theorem sl_V_come : Cond.selects y_V_come.cls y_V_come y_V_come ∈ wt := (wt_t3 64 rfl rfl)
theorem l_L_32 : vMl "VillagePayLaw" 32 y_V_come 2 := ⟨(wt_t3 62 rfl rfl), im_V_come, sl_V_come, (wt_t1 1 rfl rfl), hy_V_come⟩
theorem hy_V_about : y_V_about.cls ≠ "java/lang/invoke/MethodHandle" ∧ y_V_about.cls ≠ "java/lang/invoke/VarHandle" ∧ (parseMethodDescriptor y_V_about.desc).map (fun d => d.parameters.length) = some 2 := vHy _ _ (by decide +kernel)
theorem im_V_about : Cond.instanceMethod y_V_about ∈ wt := (wt_t3 67 rfl rfl)
theorem sl_V_about : Cond.selects y_V_about.cls y_V_about y_V_about ∈ wt := (wt_t3 68 rfl rfl)
theorem l_L_37 : vMl "VillagePayLaw" 37 y_V_about 2 := ⟨(wt_t3 66 rfl rfl), im_V_about, sl_V_about, (wt_t1 1 rfl rfl), hy_V_about⟩
theorem hy_St_holderToday : y_St_holderToday.cls ≠ "java/lang/invoke/MethodHandle" ∧ y_St_holderToday.cls ≠ "java/lang/invoke/VarHandle" ∧ (parseMethodDescriptor y_St_holderToday.desc).map (fun d => d.parameters.length) = some 1 := vHy _ _ (by decide +kernel)
theorem im_St_holderToday : Cond.instanceMethod y_St_holderToday ∈ wt := (wt_t3 71 rfl rfl)
theorem sl_St_holderToday : Cond.selects y_St_holderToday.cls y_St_holderToday y_St_holderToday ∈ wt := (wt_t3 72 rfl rfl)
theorem l_V_135 : vMl "VillagePay" 135 y_St_holderToday 1 := ⟨(wt_t3 70 rfl rfl), im_St_holderToday, sl_St_holderToday, (wt_t1 2 rfl rfl), hy_St_holderToday⟩
theorem hy_Bo_holderOn : y_Bo_holderOn.cls ≠ "java/lang/invoke/MethodHandle" ∧ y_Bo_holderOn.cls ≠ "java/lang/invoke/VarHandle" ∧ (parseMethodDescriptor y_Bo_holderOn.desc).map (fun d => d.parameters.length) = some 3 := vHy _ _ (by decide +kernel)
theorem im_Bo_holderOn : Cond.instanceMethod y_Bo_holderOn ∈ wt := (wt_t3 75 rfl rfl)
theorem sl_Bo_holderOn : Cond.selects y_Bo_holderOn.cls y_Bo_holderOn y_Bo_holderOn ∈ wt := (wt_t3 76 rfl rfl)
theorem l_St_57 : vMl "VillagePay$State" 57 y_Bo_holderOn 3 := ⟨(wt_t3 74 rfl rfl), im_Bo_holderOn, sl_Bo_holderOn, (wt_t1 5 rfl rfl), hy_Bo_holderOn⟩
theorem hy_Bo_latestOrder : y_Bo_latestOrder.cls ≠ "java/lang/invoke/MethodHandle" ∧ y_Bo_latestOrder.cls ≠ "java/lang/invoke/VarHandle" ∧ (parseMethodDescriptor y_Bo_latestOrder.desc).map (fun d => d.parameters.length) = some 4 := vHy _ _ (by decide +kernel)
theorem im_Bo_latestOrder : Cond.instanceMethod y_Bo_latestOrder ∈ wt := (wt_t3 80 rfl rfl)
theorem sl_Bo_latestOrder : Cond.selects y_Bo_latestOrder.cls y_Bo_latestOrder y_Bo_latestOrder ∈ wt := wt_p (q := (y_Bo_latestOrder, 11)) 3 (by decide +kernel)
theorem l_Bo_46 : vMl "VillagePay$Book" 46 y_Bo_latestOrder 4 := ⟨(wt_t3 78 rfl rfl), im_Bo_latestOrder, sl_Bo_latestOrder, (wt_t1 5 rfl rfl), hy_Bo_latestOrder⟩
theorem hy_Bo_serves : y_Bo_serves.cls ≠ "java/lang/invoke/MethodHandle" ∧ y_Bo_serves.cls ≠ "java/lang/invoke/VarHandle" ∧ (parseMethodDescriptor y_Bo_serves.desc).map (fun d => d.parameters.length) = some 2 := vHy _ _ (by decide +kernel)
theorem im_Bo_serves : Cond.instanceMethod y_Bo_serves ∈ wt := (wt_t3 83 rfl rfl)
theorem sl_Bo_serves : Cond.selects y_Bo_serves.cls y_Bo_serves y_Bo_serves ∈ wt := (wt_t3 84 rfl rfl)
theorem l_Bo_50 : vMl "VillagePay$Book" 50 y_Bo_serves 2 := ⟨(wt_t3 82 rfl rfl), im_Bo_serves, sl_Bo_serves, (wt_t1 5 rfl rfl), hy_Bo_serves⟩
theorem hy_V_isOver : y_V_isOver.cls ≠ "java/lang/invoke/MethodHandle" ∧ y_V_isOver.cls ≠ "java/lang/invoke/VarHandle" ∧ (parseMethodDescriptor y_V_isOver.desc).map (fun d => d.parameters.length) = some 1 := vHy _ _ (by decide +kernel)
theorem im_V_isOver : Cond.instanceMethod y_V_isOver ∈ wt := (wt_t3 88 rfl rfl)
theorem sl_V_isOver : Cond.selects y_V_isOver.cls y_V_isOver y_V_isOver ∈ wt := wt_p (q := (y_V_isOver, 10)) 4 (by decide +kernel)
theorem l_V_139 : vMl "VillagePay" 139 y_V_isOver 1 := ⟨(wt_t3 86 rfl rfl), im_V_isOver, sl_V_isOver, (wt_t1 1 rfl rfl), hy_V_isOver⟩
theorem hy_Sc_reckon : y_Sc_reckon.cls ≠ "java/lang/invoke/MethodHandle" ∧ y_Sc_reckon.cls ≠ "java/lang/invoke/VarHandle" ∧ (parseMethodDescriptor y_Sc_reckon.desc).map (fun d => d.parameters.length) = some 3 := vHy _ _ (by decide +kernel)
theorem im_Sc_reckon : Cond.instanceMethod y_Sc_reckon ∈ wt := (wt_t3 91 rfl rfl)
theorem sl_Sc_reckon : Cond.selects y_Sc_reckon.cls y_Sc_reckon y_Sc_reckon ∈ wt := (wt_t3 92 rfl rfl)
theorem l_V_222 : vMl "VillagePay" 222 y_Sc_reckon 3 := ⟨(wt_t3 90 rfl rfl), im_Sc_reckon, sl_Sc_reckon, (wt_t1 11 rfl rfl), hy_Sc_reckon⟩
theorem hy_Lw_reignOn : y_Lw_reignOn.cls ≠ "java/lang/invoke/MethodHandle" ∧ y_Lw_reignOn.cls ≠ "java/lang/invoke/VarHandle" ∧ (parseMethodDescriptor y_Lw_reignOn.desc).map (fun d => d.parameters.length) = some 1 := vHy _ _ (by decide +kernel)
theorem im_Lw_reignOn : Cond.instanceMethod y_Lw_reignOn ∈ wt := (wt_t3 95 rfl rfl)
theorem sl_Lw_reignOn : Cond.selects y_Lw_reignOn.cls y_Lw_reignOn y_Lw_reignOn ∈ wt := (wt_t3 96 rfl rfl)
theorem l_Sc_34 : vMl "VillagePay$Scale" 34 y_Lw_reignOn 1 := ⟨(wt_t3 94 rfl rfl), im_Lw_reignOn, sl_Lw_reignOn, (wt_t1 6 rfl rfl), hy_Lw_reignOn⟩
theorem hy_Sc_lookAt : y_Sc_lookAt.cls ≠ "java/lang/invoke/MethodHandle" ∧ y_Sc_lookAt.cls ≠ "java/lang/invoke/VarHandle" ∧ (parseMethodDescriptor y_Sc_lookAt.desc).map (fun d => d.parameters.length) = some 3 := vHy _ _ (by decide +kernel)
theorem im_Sc_lookAt : Cond.instanceMethod y_Sc_lookAt ∈ wt := (wt_t3 100 rfl rfl)
theorem sl_Sc_lookAt : Cond.selects y_Sc_lookAt.cls y_Sc_lookAt y_Sc_lookAt ∈ wt := wt_p (q := (y_Sc_lookAt, 11)) 5 (by decide +kernel)
theorem l_Sc_40 : vMl "VillagePay$Scale" 40 y_Sc_lookAt 3 := ⟨(wt_t3 98 rfl rfl), im_Sc_lookAt, sl_Sc_lookAt, (wt_t1 11 rfl rfl), hy_Sc_lookAt⟩
theorem hy_Bo_rankOn : y_Bo_rankOn.cls ≠ "java/lang/invoke/MethodHandle" ∧ y_Bo_rankOn.cls ≠ "java/lang/invoke/VarHandle" ∧ (parseMethodDescriptor y_Bo_rankOn.desc).map (fun d => d.parameters.length) = some 3 := vHy _ _ (by decide +kernel)
theorem im_Bo_rankOn : Cond.instanceMethod y_Bo_rankOn ∈ wt := (wt_t3 103 rfl rfl)
theorem sl_Bo_rankOn : Cond.selects y_Bo_rankOn.cls y_Bo_rankOn y_Bo_rankOn ∈ wt := (wt_t3 104 rfl rfl)
theorem l_Sc_66 : vMl "VillagePay$Scale" 66 y_Bo_rankOn 3 := ⟨(wt_t3 102 rfl rfl), im_Bo_rankOn, sl_Bo_rankOn, (wt_t1 5 rfl rfl), hy_Bo_rankOn⟩
theorem l_Sc_106 : vMl "VillagePay$Scale" 106 y_Bo_holderOn 3 := ⟨(wt_t3 106 rfl rfl), im_Bo_holderOn, sl_Bo_holderOn, (wt_t1 5 rfl rfl), hy_Bo_holderOn⟩
theorem hy_Ne_isProven : y_Ne_isProven.cls ≠ "java/lang/invoke/MethodHandle" ∧ y_Ne_isProven.cls ≠ "java/lang/invoke/VarHandle" ∧ (parseMethodDescriptor y_Ne_isProven.desc).map (fun d => d.parameters.length) = some 3 := vHy _ _ (by decide +kernel)
theorem im_Ne_isProven : Cond.instanceMethod y_Ne_isProven ∈ wt := (wt_t3 108 rfl rfl)
theorem sl_Ne_isProven : Cond.selects y_Ne_isProven.cls y_Ne_isProven y_Ne_isProven ∈ wt := (wt_t3 109 rfl rfl)
theorem l_Sc_113 : vMl "VillagePay$Scale" 113 y_Ne_isProven 3 := ⟨(wt_t3 107 rfl rfl), im_Ne_isProven, sl_Ne_isProven, (wt_t1 8 rfl rfl), hy_Ne_isProven⟩
theorem hy_Ne_lastWord : y_Ne_lastWord.cls ≠ "java/lang/invoke/MethodHandle" ∧ y_Ne_lastWord.cls ≠ "java/lang/invoke/VarHandle" ∧ (parseMethodDescriptor y_Ne_lastWord.desc).map (fun d => d.parameters.length) = some 4 := vHy _ _ (by decide +kernel)
theorem im_Ne_lastWord : Cond.instanceMethod y_Ne_lastWord ∈ wt := (wt_t3 113 rfl rfl)
theorem sl_Ne_lastWord : Cond.selects y_Ne_lastWord.cls y_Ne_lastWord y_Ne_lastWord ∈ wt := wt_p (q := (y_Ne_lastWord, 7)) 6 (by decide +kernel)
theorem l_Ne_51 : vMl "VillagePay$News" 51 y_Ne_lastWord 4 := ⟨(wt_t3 111 rfl rfl), im_Ne_lastWord, sl_Ne_lastWord, (wt_t1 8 rfl rfl), hy_Ne_lastWord⟩
theorem hy_Sc_allHold : y_Sc_allHold.cls ≠ "java/lang/invoke/MethodHandle" ∧ y_Sc_allHold.cls ≠ "java/lang/invoke/VarHandle" ∧ (parseMethodDescriptor y_Sc_allHold.desc).map (fun d => d.parameters.length) = some 1 := vHy _ _ (by decide +kernel)
theorem im_Sc_allHold : Cond.instanceMethod y_Sc_allHold ∈ wt := (wt_t3 117 rfl rfl)
theorem sl_Sc_allHold : Cond.selects y_Sc_allHold.cls y_Sc_allHold y_Sc_allHold ∈ wt := wt_p (q := (y_Sc_allHold, 11)) 7 (by decide +kernel)
theorem l_Sc_48 : vMl "VillagePay$Scale" 48 y_Sc_allHold 1 := ⟨(wt_t3 115 rfl rfl), im_Sc_allHold, sl_Sc_allHold, (wt_t1 11 rfl rfl), hy_Sc_allHold⟩
theorem hy_Sc_measure : y_Sc_measure.cls ≠ "java/lang/invoke/MethodHandle" ∧ y_Sc_measure.cls ≠ "java/lang/invoke/VarHandle" ∧ (parseMethodDescriptor y_Sc_measure.desc).map (fun d => d.parameters.length) = some 1 := vHy _ _ (by decide +kernel)
theorem im_Sc_measure : Cond.instanceMethod y_Sc_measure ∈ wt := (wt_t3 121 rfl rfl)
theorem sl_Sc_measure : Cond.selects y_Sc_measure.cls y_Sc_measure y_Sc_measure ∈ wt := wt_p (q := (y_Sc_measure, 11)) 8 (by decide +kernel)
theorem l_Sc_125 : vMl "VillagePay$Scale" 125 y_Sc_measure 1 := ⟨(wt_t3 119 rfl rfl), im_Sc_measure, sl_Sc_measure, (wt_t1 11 rfl rfl), hy_Sc_measure⟩
theorem hy_Sc_compares : y_Sc_compares.cls ≠ "java/lang/invoke/MethodHandle" ∧ y_Sc_compares.cls ≠ "java/lang/invoke/VarHandle" ∧ (parseMethodDescriptor y_Sc_compares.desc).map (fun d => d.parameters.length) = some 3 := vHy _ _ (by decide +kernel)
theorem st_Sc_compares : Cond.static y_Sc_compares ∈ wt := (wt_t3 124 rfl rfl)
theorem l_Sc_134 : vSl "VillagePay$Scale" 134 y_Sc_compares 3 := ⟨(wt_t3 123 rfl rfl), st_Sc_compares, (wt_t1 11 rfl rfl), hy_Sc_compares⟩
theorem hy_Sc_obey : y_Sc_obey.cls ≠ "java/lang/invoke/MethodHandle" ∧ y_Sc_obey.cls ≠ "java/lang/invoke/VarHandle" ∧ (parseMethodDescriptor y_Sc_obey.desc).map (fun d => d.parameters.length) = some 2 := vHy _ _ (by decide +kernel)
theorem im_Sc_obey : Cond.instanceMethod y_Sc_obey ∈ wt := (wt_t3 128 rfl rfl)
theorem sl_Sc_obey : Cond.selects y_Sc_obey.cls y_Sc_obey y_Sc_obey ∈ wt := wt_p (q := (y_Sc_obey, 11)) 9 (by decide +kernel)
theorem l_Sc_58 : vMl "VillagePay$Scale" 58 y_Sc_obey 2 := ⟨(wt_t3 126 rfl rfl), im_Sc_obey, sl_Sc_obey, (wt_t1 11 rfl rfl), hy_Sc_obey⟩
theorem hy_V_officer : y_V_officer.cls ≠ "java/lang/invoke/MethodHandle" ∧ y_V_officer.cls ≠ "java/lang/invoke/VarHandle" ∧ (parseMethodDescriptor y_V_officer.desc).map (fun d => d.parameters.length) = some 2 := vHy _ _ (by decide +kernel)
theorem im_V_officer : Cond.instanceMethod y_V_officer ∈ wt := (wt_t3 131 rfl rfl)
theorem sl_V_officer : Cond.selects y_V_officer.cls y_V_officer y_V_officer ∈ wt := (wt_t3 132 rfl rfl)
theorem l_L_41 : vMl "VillagePayLaw" 41 y_V_officer 2 := ⟨(wt_t3 130 rfl rfl), im_V_officer, sl_V_officer, (wt_t1 1 rfl rfl), hy_V_officer⟩
theorem hy_Bo_enlist : y_Bo_enlist.cls ≠ "java/lang/invoke/MethodHandle" ∧ y_Bo_enlist.cls ≠ "java/lang/invoke/VarHandle" ∧ (parseMethodDescriptor y_Bo_enlist.desc).map (fun d => d.parameters.length) = some 3 := vHy _ _ (by decide +kernel)
theorem im_Bo_enlist : Cond.instanceMethod y_Bo_enlist ∈ wt := (wt_t3 135 rfl rfl)
theorem sl_Bo_enlist : Cond.selects y_Bo_enlist.cls y_Bo_enlist y_Bo_enlist ∈ wt := (wt_t3 136 rfl rfl)
theorem l_V_147 : vMl "VillagePay" 147 y_Bo_enlist 3 := ⟨(wt_t3 134 rfl rfl), im_Bo_enlist, sl_Bo_enlist, (wt_t1 5 rfl rfl), hy_Bo_enlist⟩
theorem hy_V_dies : y_V_dies.cls ≠ "java/lang/invoke/MethodHandle" ∧ y_V_dies.cls ≠ "java/lang/invoke/VarHandle" ∧ (parseMethodDescriptor y_V_dies.desc).map (fun d => d.parameters.length) = some 1 := vHy _ _ (by decide +kernel)
theorem im_V_dies : Cond.instanceMethod y_V_dies ∈ wt := (wt_t3 139 rfl rfl)
theorem sl_V_dies : Cond.selects y_V_dies.cls y_V_dies y_V_dies ∈ wt := (wt_t3 140 rfl rfl)
theorem l_L_45 : vMl "VillagePayLaw" 45 y_V_dies 1 := ⟨(wt_t3 138 rfl rfl), im_V_dies, sl_V_dies, (wt_t1 1 rfl rfl), hy_V_dies⟩
theorem hy_V_isOfficer : y_V_isOfficer.cls ≠ "java/lang/invoke/MethodHandle" ∧ y_V_isOfficer.cls ≠ "java/lang/invoke/VarHandle" ∧ (parseMethodDescriptor y_V_isOfficer.desc).map (fun d => d.parameters.length) = some 1 := vHy _ _ (by decide +kernel)
theorem im_V_isOfficer : Cond.instanceMethod y_V_isOfficer ∈ wt := (wt_t3 144 rfl rfl)
theorem sl_V_isOfficer : Cond.selects y_V_isOfficer.cls y_V_isOfficer y_V_isOfficer ∈ wt := wt_p (q := (y_V_isOfficer, 10)) 10 (by decide +kernel)
theorem l_V_150 : vMl "VillagePay" 150 y_V_isOfficer 1 := ⟨(wt_t3 142 rfl rfl), im_V_isOfficer, sl_V_isOfficer, (wt_t1 1 rfl rfl), hy_V_isOfficer⟩
theorem hy_V_give : y_V_give.cls ≠ "java/lang/invoke/MethodHandle" ∧ y_V_give.cls ≠ "java/lang/invoke/VarHandle" ∧ (parseMethodDescriptor y_V_give.desc).map (fun d => d.parameters.length) = some 3 := vHy _ _ (by decide +kernel)
theorem im_V_give : Cond.instanceMethod y_V_give ∈ wt := (wt_t3 147 rfl rfl)
theorem sl_V_give : Cond.selects y_V_give.cls y_V_give y_V_give ∈ wt := (wt_t3 148 rfl rfl)
theorem l_L_50 : vMl "VillagePayLaw" 50 y_V_give 3 := ⟨(wt_t3 146 rfl rfl), im_V_give, sl_V_give, (wt_t1 1 rfl rfl), hy_V_give⟩
theorem hy_V_isDay : y_V_isDay.cls ≠ "java/lang/invoke/MethodHandle" ∧ y_V_isDay.cls ≠ "java/lang/invoke/VarHandle" ∧ (parseMethodDescriptor y_V_isDay.desc).map (fun d => d.parameters.length) = some 1 := vHy _ _ (by decide +kernel)
theorem st_V_isDay : Cond.static y_V_isDay ∈ wt := (wt_t3 151 rfl rfl)
theorem l_V_156 : vSl "VillagePay" 156 y_V_isDay 1 := ⟨(wt_t3 150 rfl rfl), st_V_isDay, (wt_t1 1 rfl rfl), hy_V_isDay⟩
theorem hy_Bo_write : y_Bo_write.cls ≠ "java/lang/invoke/MethodHandle" ∧ y_Bo_write.cls ≠ "java/lang/invoke/VarHandle" ∧ (parseMethodDescriptor y_Bo_write.desc).map (fun d => d.parameters.length) = some 5 := vHy _ _ (by decide +kernel)
theorem im_Bo_write : Cond.instanceMethod y_Bo_write ∈ wt := (wt_t3 154 rfl rfl)
theorem sl_Bo_write : Cond.selects y_Bo_write.cls y_Bo_write y_Bo_write ∈ wt := (wt_t3 155 rfl rfl)
theorem l_V_162 : vMl "VillagePay" 162 y_Bo_write 5 := ⟨(wt_t3 153 rfl rfl), im_Bo_write, sl_Bo_write, (wt_t1 5 rfl rfl), hy_Bo_write⟩
theorem hy_V_raise : y_V_raise.cls ≠ "java/lang/invoke/MethodHandle" ∧ y_V_raise.cls ≠ "java/lang/invoke/VarHandle" ∧ (parseMethodDescriptor y_V_raise.desc).map (fun d => d.parameters.length) = some 3 := vHy _ _ (by decide +kernel)
theorem im_V_raise : Cond.instanceMethod y_V_raise ∈ wt := (wt_t3 158 rfl rfl)
theorem sl_V_raise : Cond.selects y_V_raise.cls y_V_raise y_V_raise ∈ wt := (wt_t3 159 rfl rfl)
theorem l_L_54 : vMl "VillagePayLaw" 54 y_V_raise 3 := ⟨(wt_t3 157 rfl rfl), im_V_raise, sl_V_raise, (wt_t1 1 rfl rfl), hy_V_raise⟩
theorem hy_V_order : y_V_order.cls ≠ "java/lang/invoke/MethodHandle" ∧ y_V_order.cls ≠ "java/lang/invoke/VarHandle" ∧ (parseMethodDescriptor y_V_order.desc).map (fun d => d.parameters.length) = some 2 := vHy _ _ (by decide +kernel)
theorem im_V_order : Cond.instanceMethod y_V_order ∈ wt := (wt_t3 162 rfl rfl)
theorem sl_V_order : Cond.selects y_V_order.cls y_V_order y_V_order ∈ wt := (wt_t3 163 rfl rfl)
theorem l_L_58 : vMl "VillagePayLaw" 58 y_V_order 2 := ⟨(wt_t3 161 rfl rfl), im_V_order, sl_V_order, (wt_t1 1 rfl rfl), hy_V_order⟩
theorem hy_V_holder : y_V_holder.cls ≠ "java/lang/invoke/MethodHandle" ∧ y_V_holder.cls ≠ "java/lang/invoke/VarHandle" ∧ (parseMethodDescriptor y_V_holder.desc).map (fun d => d.parameters.length) = some 3 := vHy _ _ (by decide +kernel)
theorem im_V_holder : Cond.instanceMethod y_V_holder ∈ wt := (wt_t3 166 rfl rfl)
theorem sl_V_holder : Cond.selects y_V_holder.cls y_V_holder y_V_holder ∈ wt := (wt_t3 167 rfl rfl)
theorem l_L_62 : vMl "VillagePayLaw" 62 y_V_holder 3 := ⟨(wt_t3 165 rfl rfl), im_V_holder, sl_V_holder, (wt_t1 1 rfl rfl), hy_V_holder⟩
theorem hy_V_isKnownDay : y_V_isKnownDay.cls ≠ "java/lang/invoke/MethodHandle" ∧ y_V_isKnownDay.cls ≠ "java/lang/invoke/VarHandle" ∧ (parseMethodDescriptor y_V_isKnownDay.desc).map (fun d => d.parameters.length) = some 1 := vHy _ _ (by decide +kernel)
theorem im_V_isKnownDay : Cond.instanceMethod y_V_isKnownDay ∈ wt := (wt_t3 171 rfl rfl)
theorem sl_V_isKnownDay : Cond.selects y_V_isKnownDay.cls y_V_isKnownDay y_V_isKnownDay ∈ wt := wt_p (q := (y_V_isKnownDay, 10)) 11 (by decide +kernel)
theorem l_V_181 : vMl "VillagePay" 181 y_V_isKnownDay 1 := ⟨(wt_t3 169 rfl rfl), im_V_isKnownDay, sl_V_isKnownDay, (wt_t1 1 rfl rfl), hy_V_isKnownDay⟩
theorem l_V_184 : vMl "VillagePay" 184 y_Bo_holderOn 3 := ⟨(wt_t3 173 rfl rfl), im_Bo_holderOn, sl_Bo_holderOn, (wt_t1 5 rfl rfl), hy_Bo_holderOn⟩
theorem hy_V_rank : y_V_rank.cls ≠ "java/lang/invoke/MethodHandle" ∧ y_V_rank.cls ≠ "java/lang/invoke/VarHandle" ∧ (parseMethodDescriptor y_V_rank.desc).map (fun d => d.parameters.length) = some 3 := vHy _ _ (by decide +kernel)
theorem im_V_rank : Cond.instanceMethod y_V_rank ∈ wt := (wt_t3 175 rfl rfl)
theorem sl_V_rank : Cond.selects y_V_rank.cls y_V_rank y_V_rank ∈ wt := (wt_t3 176 rfl rfl)
theorem l_L_66 : vMl "VillagePayLaw" 66 y_V_rank 3 := ⟨(wt_t3 174 rfl rfl), im_V_rank, sl_V_rank, (wt_t1 1 rfl rfl), hy_V_rank⟩
theorem l_V_187 : vMl "VillagePay" 187 y_Bo_serves 2 := ⟨(wt_t3 178 rfl rfl), im_Bo_serves, sl_Bo_serves, (wt_t1 5 rfl rfl), hy_Bo_serves⟩
theorem l_V_191 : vMl "VillagePay" 191 y_Bo_rankOn 3 := ⟨(wt_t3 179 rfl rfl), im_Bo_rankOn, sl_Bo_rankOn, (wt_t1 5 rfl rfl), hy_Bo_rankOn⟩
theorem hy_V_had : y_V_had.cls ≠ "java/lang/invoke/MethodHandle" ∧ y_V_had.cls ≠ "java/lang/invoke/VarHandle" ∧ (parseMethodDescriptor y_V_had.desc).map (fun d => d.parameters.length) = some 3 := vHy _ _ (by decide +kernel)
theorem im_V_had : Cond.instanceMethod y_V_had ∈ wt := (wt_t3 181 rfl rfl)
theorem sl_V_had : Cond.selects y_V_had.cls y_V_had y_V_had ∈ wt := (wt_t3 182 rfl rfl)
theorem l_L_70 : vMl "VillagePayLaw" 70 y_V_had 3 := ⟨(wt_t3 180 rfl rfl), im_V_had, sl_V_had, (wt_t1 1 rfl rfl), hy_V_had⟩
theorem hy_Ac_hadIn : y_Ac_hadIn.cls ≠ "java/lang/invoke/MethodHandle" ∧ y_Ac_hadIn.cls ≠ "java/lang/invoke/VarHandle" ∧ (parseMethodDescriptor y_Ac_hadIn.desc).map (fun d => d.parameters.length) = some 3 := vHy _ _ (by decide +kernel)
theorem im_Ac_hadIn : Cond.instanceMethod y_Ac_hadIn ∈ wt := (wt_t3 185 rfl rfl)
theorem sl_Ac_hadIn : Cond.selects y_Ac_hadIn.cls y_Ac_hadIn y_Ac_hadIn ∈ wt := (wt_t3 186 rfl rfl)
theorem l_V_194 : vMl "VillagePay" 194 y_Ac_hadIn 3 := ⟨(wt_t3 184 rfl rfl), im_Ac_hadIn, sl_Ac_hadIn, (wt_t1 12 rfl rfl), hy_Ac_hadIn⟩
theorem l_Ac_29 : vMl "VillagePay$Accounts" 29 y_Bo_serves 2 := ⟨(wt_t3 188 rfl rfl), im_Bo_serves, sl_Bo_serves, (wt_t1 5 rfl rfl), hy_Bo_serves⟩
theorem l_Ac_35 : vMl "VillagePay$Accounts" 35 y_Sc_reckon 3 := ⟨(wt_t3 189 rfl rfl), im_Sc_reckon, sl_Sc_reckon, (wt_t1 11 rfl rfl), hy_Sc_reckon⟩
theorem hy_Ac_markTurns : y_Ac_markTurns.cls ≠ "java/lang/invoke/MethodHandle" ∧ y_Ac_markTurns.cls ≠ "java/lang/invoke/VarHandle" ∧ (parseMethodDescriptor y_Ac_markTurns.desc).map (fun d => d.parameters.length) = some 2 := vHy _ _ (by decide +kernel)
theorem im_Ac_markTurns : Cond.instanceMethod y_Ac_markTurns ∈ wt := (wt_t3 192 rfl rfl)
theorem sl_Ac_markTurns : Cond.selects y_Ac_markTurns.cls y_Ac_markTurns y_Ac_markTurns ∈ wt := wt_p (q := (y_Ac_markTurns, 3)) 12 (by decide +kernel)
theorem l_Ac_45 : vMl "VillagePay$Accounts" 45 y_Ac_markTurns 2 := ⟨(wt_t3 190 rfl rfl), im_Ac_markTurns, sl_Ac_markTurns, (wt_t1 12 rfl rfl), hy_Ac_markTurns⟩
theorem hy_Ac_markTurn : y_Ac_markTurn.cls ≠ "java/lang/invoke/MethodHandle" ∧ y_Ac_markTurn.cls ≠ "java/lang/invoke/VarHandle" ∧ (parseMethodDescriptor y_Ac_markTurn.desc).map (fun d => d.parameters.length) = some 1 := vHy _ _ (by decide +kernel)
theorem im_Ac_markTurn : Cond.instanceMethod y_Ac_markTurn ∈ wt := (wt_t3 196 rfl rfl)
theorem sl_Ac_markTurn : Cond.selects y_Ac_markTurn.cls y_Ac_markTurn y_Ac_markTurn ∈ wt := wt_p (q := (y_Ac_markTurn, 3)) 13 (by decide +kernel)
theorem l_Ac_89 : vMl "VillagePay$Accounts" 89 y_Ac_markTurn 1 := ⟨(wt_t3 194 rfl rfl), im_Ac_markTurn, sl_Ac_markTurn, (wt_t1 12 rfl rfl), hy_Ac_markTurn⟩
theorem hy_Ac_daysHeld : y_Ac_daysHeld.cls ≠ "java/lang/invoke/MethodHandle" ∧ y_Ac_daysHeld.cls ≠ "java/lang/invoke/VarHandle" ∧ (parseMethodDescriptor y_Ac_daysHeld.desc).map (fun d => d.parameters.length) = some 4 := vHy _ _ (by decide +kernel)
theorem im_Ac_daysHeld : Cond.instanceMethod y_Ac_daysHeld ∈ wt := (wt_t3 200 rfl rfl)
theorem sl_Ac_daysHeld : Cond.selects y_Ac_daysHeld.cls y_Ac_daysHeld y_Ac_daysHeld ∈ wt := wt_p (q := (y_Ac_daysHeld, 3)) 14 (by decide +kernel)
theorem l_Ac_62 : vMl "VillagePay$Accounts" 62 y_Ac_daysHeld 4 := ⟨(wt_t3 198 rfl rfl), im_Ac_daysHeld, sl_Ac_daysHeld, (wt_t1 12 rfl rfl), hy_Ac_daysHeld⟩
theorem l_Ac_77 : vMl "VillagePay$Accounts" 77 y_Bo_holderOn 3 := ⟨(wt_t3 202 rfl rfl), im_Bo_holderOn, sl_Bo_holderOn, (wt_t1 5 rfl rfl), hy_Bo_holderOn⟩
theorem hy_V_feed : y_V_feed.cls ≠ "java/lang/invoke/MethodHandle" ∧ y_V_feed.cls ≠ "java/lang/invoke/VarHandle" ∧ (parseMethodDescriptor y_V_feed.desc).map (fun d => d.parameters.length) = some 5 := vHy _ _ (by decide +kernel)
theorem im_V_feed : Cond.instanceMethod y_V_feed ∈ wt := (wt_t3 204 rfl rfl)
theorem sl_V_feed : Cond.selects y_V_feed.cls y_V_feed y_V_feed ∈ wt := (wt_t3 205 rfl rfl)
theorem l_L_74 : vMl "VillagePayLaw" 74 y_V_feed 5 := ⟨(wt_t3 203 rfl rfl), im_V_feed, sl_V_feed, (wt_t1 1 rfl rfl), hy_V_feed⟩
theorem hy_Ta_putNumber : y_Ta_putNumber.cls ≠ "java/lang/invoke/MethodHandle" ∧ y_Ta_putNumber.cls ≠ "java/lang/invoke/VarHandle" ∧ (parseMethodDescriptor y_Ta_putNumber.desc).map (fun d => d.parameters.length) = some 1 := vHy _ _ (by decide +kernel)
theorem im_Ta_putNumber : Cond.instanceMethod y_Ta_putNumber ∈ wt := (wt_t3 208 rfl rfl)
theorem sl_Ta_putNumber : Cond.selects y_Ta_putNumber.cls y_Ta_putNumber y_Ta_putNumber ∈ wt := (wt_t3 209 rfl rfl)
theorem l_V_202 : vMl "VillagePay" 202 y_Ta_putNumber 1 := ⟨(wt_t3 207 rfl rfl), im_Ta_putNumber, sl_Ta_putNumber, (wt_t1 7 rfl rfl), hy_Ta_putNumber⟩
theorem hy_V_end : y_V_end.cls ≠ "java/lang/invoke/MethodHandle" ∧ y_V_end.cls ≠ "java/lang/invoke/VarHandle" ∧ (parseMethodDescriptor y_V_end.desc).map (fun d => d.parameters.length) = some 1 := vHy _ _ (by decide +kernel)
theorem im_V_end : Cond.instanceMethod y_V_end ∈ wt := (wt_t3 212 rfl rfl)
theorem sl_V_end : Cond.selects y_V_end.cls y_V_end y_V_end ∈ wt := (wt_t3 213 rfl rfl)
theorem l_L_79 : vMl "VillagePayLaw" 79 y_V_end 1 := ⟨(wt_t3 211 rfl rfl), im_V_end, sl_V_end, (wt_t1 1 rfl rfl), hy_V_end⟩
theorem hy_V_reign : y_V_reign.cls ≠ "java/lang/invoke/MethodHandle" ∧ y_V_reign.cls ≠ "java/lang/invoke/VarHandle" ∧ (parseMethodDescriptor y_V_reign.desc).map (fun d => d.parameters.length) = some 1 := vHy _ _ (by decide +kernel)
theorem im_V_reign : Cond.instanceMethod y_V_reign ∈ wt := (wt_t3 216 rfl rfl)
theorem sl_V_reign : Cond.selects y_V_reign.cls y_V_reign y_V_reign ∈ wt := (wt_t3 217 rfl rfl)
theorem l_L_83 : vMl "VillagePayLaw" 83 y_V_reign 1 := ⟨(wt_t3 215 rfl rfl), im_V_reign, sl_V_reign, (wt_t1 1 rfl rfl), hy_V_reign⟩
theorem hy_Ta_clearFault : y_Ta_clearFault.cls ≠ "java/lang/invoke/MethodHandle" ∧ y_Ta_clearFault.cls ≠ "java/lang/invoke/VarHandle" ∧ (parseMethodDescriptor y_Ta_clearFault.desc).map (fun d => d.parameters.length) = some 0 := vHy _ _ (by decide +kernel)
theorem im_Ta_clearFault : Cond.instanceMethod y_Ta_clearFault ∈ wt := (wt_t3 220 rfl rfl)
theorem sl_Ta_clearFault : Cond.selects y_Ta_clearFault.cls y_Ta_clearFault y_Ta_clearFault ∈ wt := (wt_t3 221 rfl rfl)
theorem l_V_205 : vMl "VillagePay" 205 y_Ta_clearFault 0 := ⟨(wt_t3 219 rfl rfl), im_Ta_clearFault, sl_Ta_clearFault, (wt_t1 7 rfl rfl), hy_Ta_clearFault⟩
theorem hy_Lw_canBegin : y_Lw_canBegin.cls ≠ "java/lang/invoke/MethodHandle" ∧ y_Lw_canBegin.cls ≠ "java/lang/invoke/VarHandle" ∧ (parseMethodDescriptor y_Lw_canBegin.desc).map (fun d => d.parameters.length) = some 1 := vHy _ _ (by decide +kernel)
theorem im_Lw_canBegin : Cond.instanceMethod y_Lw_canBegin ∈ wt := (wt_t3 224 rfl rfl)
theorem sl_Lw_canBegin : Cond.selects y_Lw_canBegin.cls y_Lw_canBegin y_Lw_canBegin ∈ wt := (wt_t3 225 rfl rfl)
theorem l_V_208 : vMl "VillagePay" 208 y_Lw_canBegin 1 := ⟨(wt_t3 223 rfl rfl), im_Lw_canBegin, sl_Lw_canBegin, (wt_t1 6 rfl rfl), hy_Lw_canBegin⟩
theorem hy_Re_readReign : y_Re_readReign.cls ≠ "java/lang/invoke/MethodHandle" ∧ y_Re_readReign.cls ≠ "java/lang/invoke/VarHandle" ∧ (parseMethodDescriptor y_Re_readReign.desc).map (fun d => d.parameters.length) = some 1 := vHy _ _ (by decide +kernel)
theorem im_Re_readReign : Cond.instanceMethod y_Re_readReign ∈ wt := (wt_t3 228 rfl rfl)
theorem sl_Re_readReign : Cond.selects y_Re_readReign.cls y_Re_readReign y_Re_readReign ∈ wt := (wt_t3 229 rfl rfl)
theorem l_V_213 : vMl "VillagePay" 213 y_Re_readReign 1 := ⟨(wt_t3 227 rfl rfl), im_Re_readReign, sl_Re_readReign, (wt_t1 10 rfl rfl), hy_Re_readReign⟩
theorem hy_Re_readToken : y_Re_readToken.cls ≠ "java/lang/invoke/MethodHandle" ∧ y_Re_readToken.cls ≠ "java/lang/invoke/VarHandle" ∧ (parseMethodDescriptor y_Re_readToken.desc).map (fun d => d.parameters.length) = some 0 := vHy _ _ (by decide +kernel)
theorem im_Re_readToken : Cond.instanceMethod y_Re_readToken ∈ wt := (wt_t3 233 rfl rfl)
theorem sl_Re_readToken : Cond.selects y_Re_readToken.cls y_Re_readToken y_Re_readToken ∈ wt := wt_p (q := (y_Re_readToken, 7)) 15 (by decide +kernel)
theorem l_Re_31 : vMl "VillagePay$Reader" 31 y_Re_readToken 0 := ⟨(wt_t3 231 rfl rfl), im_Re_readToken, sl_Re_readToken, (wt_t1 10 rfl rfl), hy_Re_readToken⟩
theorem hy_Re_readWord : y_Re_readWord.cls ≠ "java/lang/invoke/MethodHandle" ∧ y_Re_readWord.cls ≠ "java/lang/invoke/VarHandle" ∧ (parseMethodDescriptor y_Re_readWord.desc).map (fun d => d.parameters.length) = some 0 := vHy _ _ (by decide +kernel)
theorem im_Re_readWord : Cond.instanceMethod y_Re_readWord ∈ wt := (wt_t3 237 rfl rfl)
theorem sl_Re_readWord : Cond.selects y_Re_readWord.cls y_Re_readWord y_Re_readWord ∈ wt := wt_p (q := (y_Re_readWord, 7)) 16 (by decide +kernel)
theorem l_Re_120 : vMl "VillagePay$Reader" 120 y_Re_readWord 0 := ⟨(wt_t3 235 rfl rfl), im_Re_readWord, sl_Re_readWord, (wt_t1 10 rfl rfl), hy_Re_readWord⟩
theorem hy_Re_readNumber : y_Re_readNumber.cls ≠ "java/lang/invoke/MethodHandle" ∧ y_Re_readNumber.cls ≠ "java/lang/invoke/VarHandle" ∧ (parseMethodDescriptor y_Re_readNumber.desc).map (fun d => d.parameters.length) = some 0 := vHy _ _ (by decide +kernel)
theorem im_Re_readNumber : Cond.instanceMethod y_Re_readNumber ∈ wt := (wt_t4 50 rfl rfl)
theorem sl_Re_readNumber : Cond.selects y_Re_readNumber.cls y_Re_readNumber y_Re_readNumber ∈ wt := wt_p (q := (y_Re_readNumber, 7)) 17 (by decide +kernel)
theorem l_Re_123 : vMl "VillagePay$Reader" 123 y_Re_readNumber 0 := ⟨(wt_t4 48 rfl rfl), im_Re_readNumber, sl_Re_readNumber, (wt_t1 10 rfl rfl), hy_Re_readNumber⟩
theorem hy_Re_readLine : y_Re_readLine.cls ≠ "java/lang/invoke/MethodHandle" ∧ y_Re_readLine.cls ≠ "java/lang/invoke/VarHandle" ∧ (parseMethodDescriptor y_Re_readLine.desc).map (fun d => d.parameters.length) = some 1 := vHy _ _ (by decide +kernel)
theorem im_Re_readLine : Cond.instanceMethod y_Re_readLine ∈ wt := (wt_t4 54 rfl rfl)
theorem sl_Re_readLine : Cond.selects y_Re_readLine.cls y_Re_readLine y_Re_readLine ∈ wt := wt_p (q := (y_Re_readLine, 7)) 18 (by decide +kernel)
theorem l_Re_37 : vMl "VillagePay$Reader" 37 y_Re_readLine 1 := ⟨(wt_t4 52 rfl rfl), im_Re_readLine, sl_Re_readLine, (wt_t1 10 rfl rfl), hy_Re_readLine⟩
theorem hy_Re_remark : y_Re_remark.cls ≠ "java/lang/invoke/MethodHandle" ∧ y_Re_remark.cls ≠ "java/lang/invoke/VarHandle" ∧ (parseMethodDescriptor y_Re_remark.desc).map (fun d => d.parameters.length) = some 1 := vHy _ _ (by decide +kernel)
theorem im_Re_remark : Cond.instanceMethod y_Re_remark ∈ wt := (wt_t4 58 rfl rfl)
theorem sl_Re_remark : Cond.selects y_Re_remark.cls y_Re_remark y_Re_remark ∈ wt := wt_p (q := (y_Re_remark, 7)) 19 (by decide +kernel)
theorem l_Re_46 : vMl "VillagePay$Reader" 46 y_Re_remark 1 := ⟨(wt_t4 56 rfl rfl), im_Re_remark, sl_Re_remark, (wt_t1 10 rfl rfl), hy_Re_remark⟩
theorem hy_Re_readTests : y_Re_readTests.cls ≠ "java/lang/invoke/MethodHandle" ∧ y_Re_readTests.cls ≠ "java/lang/invoke/VarHandle" ∧ (parseMethodDescriptor y_Re_readTests.desc).map (fun d => d.parameters.length) = some 2 := vHy _ _ (by decide +kernel)
theorem im_Re_readTests : Cond.instanceMethod y_Re_readTests ∈ wt := (wt_t4 62 rfl rfl)
theorem sl_Re_readTests : Cond.selects y_Re_readTests.cls y_Re_readTests y_Re_readTests ∈ wt := wt_p (q := (y_Re_readTests, 7)) 20 (by decide +kernel)
theorem l_Re_69 : vMl "VillagePay$Reader" 69 y_Re_readTests 2 := ⟨(wt_t4 60 rfl rfl), im_Re_readTests, sl_Re_readTests, (wt_t1 10 rfl rfl), hy_Re_readTests⟩
theorem hy_Re_readTest : y_Re_readTest.cls ≠ "java/lang/invoke/MethodHandle" ∧ y_Re_readTest.cls ≠ "java/lang/invoke/VarHandle" ∧ (parseMethodDescriptor y_Re_readTest.desc).map (fun d => d.parameters.length) = some 2 := vHy _ _ (by decide +kernel)
theorem im_Re_readTest : Cond.instanceMethod y_Re_readTest ∈ wt := (wt_t4 66 rfl rfl)
theorem sl_Re_readTest : Cond.selects y_Re_readTest.cls y_Re_readTest y_Re_readTest ∈ wt := wt_p (q := (y_Re_readTest, 7)) 21 (by decide +kernel)
theorem l_Re_79 : vMl "VillagePay$Reader" 79 y_Re_readTest 2 := ⟨(wt_t4 64 rfl rfl), im_Re_readTest, sl_Re_readTest, (wt_t1 10 rfl rfl), hy_Re_readTest⟩
theorem lx_Re_82 : Cond.methodLink "VillagePay$Reader" 82 Lib.Math.min.name ∈ wt := (wt_t4 68 rfl rfl)
theorem hy_Re_pass : y_Re_pass.cls ≠ "java/lang/invoke/MethodHandle" ∧ y_Re_pass.cls ≠ "java/lang/invoke/VarHandle" ∧ (parseMethodDescriptor y_Re_pass.desc).map (fun d => d.parameters.length) = some 1 := vHy _ _ (by decide +kernel)
theorem im_Re_pass : Cond.instanceMethod y_Re_pass ∈ wt := (wt_t4 71 rfl rfl)
theorem sl_Re_pass : Cond.selects y_Re_pass.cls y_Re_pass y_Re_pass ∈ wt := wt_p (q := (y_Re_pass, 7)) 22 (by decide +kernel)
theorem l_Re_76 : vMl "VillagePay$Reader" 76 y_Re_pass 1 := ⟨(wt_t4 69 rfl rfl), im_Re_pass, sl_Re_pass, (wt_t1 10 rfl rfl), hy_Re_pass⟩
theorem hy_Re_readDeed : y_Re_readDeed.cls ≠ "java/lang/invoke/MethodHandle" ∧ y_Re_readDeed.cls ≠ "java/lang/invoke/VarHandle" ∧ (parseMethodDescriptor y_Re_readDeed.desc).map (fun d => d.parameters.length) = some 2 := vHy _ _ (by decide +kernel)
theorem im_Re_readDeed : Cond.instanceMethod y_Re_readDeed ∈ wt := (wt_t4 75 rfl rfl)
theorem sl_Re_readDeed : Cond.selects y_Re_readDeed.cls y_Re_readDeed y_Re_readDeed ∈ wt := wt_p (q := (y_Re_readDeed, 7)) 23 (by decide +kernel)
theorem l_Re_73 : vMl "VillagePay$Reader" 73 y_Re_readDeed 2 := ⟨(wt_t4 73 rfl rfl), im_Re_readDeed, sl_Re_readDeed, (wt_t1 10 rfl rfl), hy_Re_readDeed⟩
theorem hy_Re_isFitNumber : y_Re_isFitNumber.cls ≠ "java/lang/invoke/MethodHandle" ∧ y_Re_isFitNumber.cls ≠ "java/lang/invoke/VarHandle" ∧ (parseMethodDescriptor y_Re_isFitNumber.desc).map (fun d => d.parameters.length) = some 1 := vHy _ _ (by decide +kernel)
theorem im_Re_isFitNumber : Cond.instanceMethod y_Re_isFitNumber ∈ wt := (wt_t4 79 rfl rfl)
theorem sl_Re_isFitNumber : Cond.selects y_Re_isFitNumber.cls y_Re_isFitNumber y_Re_isFitNumber ∈ wt := wt_p (q := (y_Re_isFitNumber, 7)) 24 (by decide +kernel)
theorem l_Re_107 : vMl "VillagePay$Reader" 107 y_Re_isFitNumber 1 := ⟨(wt_t4 77 rfl rfl), im_Re_isFitNumber, sl_Re_isFitNumber, (wt_t1 10 rfl rfl), hy_Re_isFitNumber⟩
theorem l_Re_41 : vMl "VillagePay$Reader" 41 y_Ta_clearFault 0 := ⟨(wt_t4 81 rfl rfl), im_Ta_clearFault, sl_Ta_clearFault, (wt_t1 7 rfl rfl), hy_Ta_clearFault⟩
theorem hy_V_fault : y_V_fault.cls ≠ "java/lang/invoke/MethodHandle" ∧ y_V_fault.cls ≠ "java/lang/invoke/VarHandle" ∧ (parseMethodDescriptor y_V_fault.desc).map (fun d => d.parameters.length) = some 1 := vHy _ _ (by decide +kernel)
theorem im_V_fault : Cond.instanceMethod y_V_fault ∈ wt := (wt_t4 83 rfl rfl)
theorem sl_V_fault : Cond.selects y_V_fault.cls y_V_fault y_V_fault ∈ wt := (wt_t4 84 rfl rfl)
theorem l_L_87 : vMl "VillagePayLaw" 87 y_V_fault 1 := ⟨(wt_t4 82 rfl rfl), im_V_fault, sl_V_fault, (wt_t1 1 rfl rfl), hy_V_fault⟩
theorem hy_V_scale : y_V_scale.cls ≠ "java/lang/invoke/MethodHandle" ∧ y_V_scale.cls ≠ "java/lang/invoke/VarHandle" ∧ (parseMethodDescriptor y_V_scale.desc).map (fun d => d.parameters.length) = some 4 := vHy _ _ (by decide +kernel)
theorem im_V_scale : Cond.instanceMethod y_V_scale ∈ wt := (wt_t4 87 rfl rfl)
theorem sl_V_scale : Cond.selects y_V_scale.cls y_V_scale y_V_scale ∈ wt := (wt_t4 88 rfl rfl)
theorem l_L_91 : vMl "VillagePayLaw" 91 y_V_scale 4 := ⟨(wt_t4 86 rfl rfl), im_V_scale, sl_V_scale, (wt_t1 1 rfl rfl), hy_V_scale⟩
theorem hy_Sc_yearly : y_Sc_yearly.cls ≠ "java/lang/invoke/MethodHandle" ∧ y_Sc_yearly.cls ≠ "java/lang/invoke/VarHandle" ∧ (parseMethodDescriptor y_Sc_yearly.desc).map (fun d => d.parameters.length) = some 0 := vHy _ _ (by decide +kernel)
theorem im_Sc_yearly : Cond.instanceMethod y_Sc_yearly ∈ wt := (wt_t4 91 rfl rfl)
theorem sl_Sc_yearly : Cond.selects y_Sc_yearly.cls y_Sc_yearly y_Sc_yearly ∈ wt := (wt_t4 92 rfl rfl)
theorem l_V_238 : vMl "VillagePay" 238 y_Sc_yearly 0 := ⟨(wt_t4 90 rfl rfl), im_Sc_yearly, sl_Sc_yearly, (wt_t1 11 rfl rfl), hy_Sc_yearly⟩
theorem hy_V_due : y_V_due.cls ≠ "java/lang/invoke/MethodHandle" ∧ y_V_due.cls ≠ "java/lang/invoke/VarHandle" ∧ (parseMethodDescriptor y_V_due.desc).map (fun d => d.parameters.length) = some 3 := vHy _ _ (by decide +kernel)
theorem im_V_due : Cond.instanceMethod y_V_due ∈ wt := (wt_t4 95 rfl rfl)
theorem sl_V_due : Cond.selects y_V_due.cls y_V_due y_V_due ∈ wt := (wt_t4 96 rfl rfl)
theorem l_L_96 : vMl "VillagePayLaw" 96 y_V_due 3 := ⟨(wt_t4 94 rfl rfl), im_V_due, sl_V_due, (wt_t1 1 rfl rfl), hy_V_due⟩
theorem hy_Ac_dueIn : y_Ac_dueIn.cls ≠ "java/lang/invoke/MethodHandle" ∧ y_Ac_dueIn.cls ≠ "java/lang/invoke/VarHandle" ∧ (parseMethodDescriptor y_Ac_dueIn.desc).map (fun d => d.parameters.length) = some 3 := vHy _ _ (by decide +kernel)
theorem im_Ac_dueIn : Cond.instanceMethod y_Ac_dueIn ∈ wt := (wt_t4 99 rfl rfl)
theorem sl_Ac_dueIn : Cond.selects y_Ac_dueIn.cls y_Ac_dueIn y_Ac_dueIn ∈ wt := (wt_t4 100 rfl rfl)
theorem l_V_242 : vMl "VillagePay" 242 y_Ac_dueIn 3 := ⟨(wt_t4 98 rfl rfl), im_Ac_dueIn, sl_Ac_dueIn, (wt_t1 12 rfl rfl), hy_Ac_dueIn⟩
theorem l_Ac_66 : vMl "VillagePay$Accounts" 66 y_Sc_yearly 0 := ⟨(wt_t4 102 rfl rfl), im_Sc_yearly, sl_Sc_yearly, (wt_t1 11 rfl rfl), hy_Sc_yearly⟩
theorem hy_V_balance : y_V_balance.cls ≠ "java/lang/invoke/MethodHandle" ∧ y_V_balance.cls ≠ "java/lang/invoke/VarHandle" ∧ (parseMethodDescriptor y_V_balance.desc).map (fun d => d.parameters.length) = some 3 := vHy _ _ (by decide +kernel)
theorem im_V_balance : Cond.instanceMethod y_V_balance ∈ wt := (wt_t4 104 rfl rfl)
theorem sl_V_balance : Cond.selects y_V_balance.cls y_V_balance y_V_balance ∈ wt := (wt_t4 105 rfl rfl)
theorem l_L_100 : vMl "VillagePayLaw" 100 y_V_balance 3 := ⟨(wt_t4 103 rfl rfl), im_V_balance, sl_V_balance, (wt_t1 1 rfl rfl), hy_V_balance⟩
theorem hy_Ac_balanceUpTo : y_Ac_balanceUpTo.cls ≠ "java/lang/invoke/MethodHandle" ∧ y_Ac_balanceUpTo.cls ≠ "java/lang/invoke/VarHandle" ∧ (parseMethodDescriptor y_Ac_balanceUpTo.desc).map (fun d => d.parameters.length) = some 3 := vHy _ _ (by decide +kernel)
theorem im_Ac_balanceUpTo : Cond.instanceMethod y_Ac_balanceUpTo ∈ wt := (wt_t4 109 rfl rfl)
theorem sl_Ac_balanceUpTo : Cond.selects y_Ac_balanceUpTo.cls y_Ac_balanceUpTo y_Ac_balanceUpTo ∈ wt := (wt_t4 110 rfl rfl)
theorem l_V_246 : vMl "VillagePay" 246 y_Ac_balanceUpTo 3 := ⟨(wt_t4 108 rfl rfl), im_Ac_balanceUpTo, sl_Ac_balanceUpTo, (wt_t1 12 rfl rfl), hy_Ac_balanceUpTo⟩
theorem l_Ac_70 : vMl "VillagePay$Accounts" 70 y_Ac_hadIn 3 := ⟨(wt_t4 112 rfl rfl), im_Ac_hadIn, sl_Ac_hadIn, (wt_t1 12 rfl rfl), hy_Ac_hadIn⟩
theorem l_Ac_74 : vMl "VillagePay$Accounts" 74 y_Ac_dueIn 3 := ⟨(wt_t4 113 rfl rfl), im_Ac_dueIn, sl_Ac_dueIn, (wt_t1 12 rfl rfl), hy_Ac_dueIn⟩
theorem hy_V_fit : y_V_fit.cls ≠ "java/lang/invoke/MethodHandle" ∧ y_V_fit.cls ≠ "java/lang/invoke/VarHandle" ∧ (parseMethodDescriptor y_V_fit.desc).map (fun d => d.parameters.length) = some 2 := vHy _ _ (by decide +kernel)
theorem im_V_fit : Cond.instanceMethod y_V_fit ∈ wt := (wt_t4 115 rfl rfl)
theorem sl_V_fit : Cond.selects y_V_fit.cls y_V_fit y_V_fit ∈ wt := (wt_t4 116 rfl rfl)
theorem l_L_104 : vMl "VillagePayLaw" 104 y_V_fit 2 := ⟨(wt_t4 114 rfl rfl), im_V_fit, sl_V_fit, (wt_t1 1 rfl rfl), hy_V_fit⟩
theorem hy_V_servesToday : y_V_servesToday.cls ≠ "java/lang/invoke/MethodHandle" ∧ y_V_servesToday.cls ≠ "java/lang/invoke/VarHandle" ∧ (parseMethodDescriptor y_V_servesToday.desc).map (fun d => d.parameters.length) = some 1 := vHy _ _ (by decide +kernel)
theorem im_V_servesToday : Cond.instanceMethod y_V_servesToday ∈ wt := (wt_t4 120 rfl rfl)
theorem sl_V_servesToday : Cond.selects y_V_servesToday.cls y_V_servesToday y_V_servesToday ∈ wt := wt_p (q := (y_V_servesToday, 10)) 25 (by decide +kernel)
theorem l_V_249 : vMl "VillagePay" 249 y_V_servesToday 1 := ⟨(wt_t4 118 rfl rfl), im_V_servesToday, sl_V_servesToday, (wt_t1 1 rfl rfl), hy_V_servesToday⟩
theorem hy_De_fitFor : y_De_fitFor.cls ≠ "java/lang/invoke/MethodHandle" ∧ y_De_fitFor.cls ≠ "java/lang/invoke/VarHandle" ∧ (parseMethodDescriptor y_De_fitFor.desc).map (fun d => d.parameters.length) = some 2 := vHy _ _ (by decide +kernel)
theorem im_De_fitFor : Cond.instanceMethod y_De_fitFor ∈ wt := (wt_t4 123 rfl rfl)
theorem sl_De_fitFor : Cond.selects y_De_fitFor.cls y_De_fitFor y_De_fitFor ∈ wt := (wt_t4 124 rfl rfl)
theorem l_V_252 : vMl "VillagePay" 252 y_De_fitFor 2 := ⟨(wt_t4 122 rfl rfl), im_De_fitFor, sl_De_fitFor, (wt_t1 13 rfl rfl), hy_De_fitFor⟩
theorem l_De_47 : vMl "VillagePay$Dealer" 47 y_Sc_reckon 3 := ⟨(wt_t4 126 rfl rfl), im_Sc_reckon, sl_Sc_reckon, (wt_t1 11 rfl rfl), hy_Sc_reckon⟩
theorem l_De_53 : vMl "VillagePay$Dealer" 53 y_Sc_yearly 0 := ⟨(wt_t4 127 rfl rfl), im_Sc_yearly, sl_Sc_yearly, (wt_t1 11 rfl rfl), hy_Sc_yearly⟩
theorem hy_De_openTo : y_De_openTo.cls ≠ "java/lang/invoke/MethodHandle" ∧ y_De_openTo.cls ≠ "java/lang/invoke/VarHandle" ∧ (parseMethodDescriptor y_De_openTo.desc).map (fun d => d.parameters.length) = some 1 := vHy _ _ (by decide +kernel)
theorem im_De_openTo : Cond.instanceMethod y_De_openTo ∈ wt := (wt_t4 130 rfl rfl)
theorem sl_De_openTo : Cond.selects y_De_openTo.cls y_De_openTo y_De_openTo ∈ wt := wt_p (q := (y_De_openTo, 10)) 26 (by decide +kernel)
theorem l_De_57 : vMl "VillagePay$Dealer" 57 y_De_openTo 1 := ⟨(wt_t4 128 rfl rfl), im_De_openTo, sl_De_openTo, (wt_t1 13 rfl rfl), hy_De_openTo⟩
theorem l_De_84 : vMl "VillagePay$Dealer" 84 y_St_holderToday 1 := ⟨(wt_t4 132 rfl rfl), im_St_holderToday, sl_St_holderToday, (wt_t1 2 rfl rfl), hy_St_holderToday⟩
theorem hy_Bo_wasEverOfKin : y_Bo_wasEverOfKin.cls ≠ "java/lang/invoke/MethodHandle" ∧ y_Bo_wasEverOfKin.cls ≠ "java/lang/invoke/VarHandle" ∧ (parseMethodDescriptor y_Bo_wasEverOfKin.desc).map (fun d => d.parameters.length) = some 2 := vHy _ _ (by decide +kernel)
theorem im_Bo_wasEverOfKin : Cond.instanceMethod y_Bo_wasEverOfKin ∈ wt := (wt_t4 134 rfl rfl)
theorem sl_Bo_wasEverOfKin : Cond.selects y_Bo_wasEverOfKin.cls y_Bo_wasEverOfKin y_Bo_wasEverOfKin ∈ wt := (wt_t4 135 rfl rfl)
theorem l_De_87 : vMl "VillagePay$Dealer" 87 y_Bo_wasEverOfKin 2 := ⟨(wt_t4 133 rfl rfl), im_Bo_wasEverOfKin, sl_Bo_wasEverOfKin, (wt_t1 5 rfl rfl), hy_Bo_wasEverOfKin⟩
theorem hy_La_paperOf : y_La_paperOf.cls ≠ "java/lang/invoke/MethodHandle" ∧ y_La_paperOf.cls ≠ "java/lang/invoke/VarHandle" ∧ (parseMethodDescriptor y_La_paperOf.desc).map (fun d => d.parameters.length) = some 1 := vHy _ _ (by decide +kernel)
theorem im_La_paperOf : Cond.instanceMethod y_La_paperOf ∈ wt := (wt_t4 138 rfl rfl)
theorem sl_La_paperOf : Cond.selects y_La_paperOf.cls y_La_paperOf y_La_paperOf ∈ wt := (wt_t4 139 rfl rfl)
theorem l_De_61 : vMl "VillagePay$Dealer" 61 y_La_paperOf 1 := ⟨(wt_t4 137 rfl rfl), im_La_paperOf, sl_La_paperOf, (wt_t1 3 rfl rfl), hy_La_paperOf⟩
theorem lx_De_64 : Cond.methodLink "VillagePay$Dealer" 64 Lib.Math.abs.name ∈ wt := (wt_t4 141 rfl rfl)
theorem hy_La_nearOf : y_La_nearOf.cls ≠ "java/lang/invoke/MethodHandle" ∧ y_La_nearOf.cls ≠ "java/lang/invoke/VarHandle" ∧ (parseMethodDescriptor y_La_nearOf.desc).map (fun d => d.parameters.length) = some 1 := vHy _ _ (by decide +kernel)
theorem im_La_nearOf : Cond.instanceMethod y_La_nearOf ∈ wt := (wt_t4 145 rfl rfl)
theorem sl_La_nearOf : Cond.selects y_La_nearOf.cls y_La_nearOf y_La_nearOf ∈ wt := (wt_t4 146 rfl rfl)
theorem l_De_69 : vMl "VillagePay$Dealer" 69 y_La_nearOf 1 := ⟨(wt_t4 144 rfl rfl), im_La_nearOf, sl_La_nearOf, (wt_t1 3 rfl rfl), hy_La_nearOf⟩
theorem lx_La_66 : Cond.methodLink "VillagePay$Land" 66 Lib.Math.abs.name ∈ wt := (wt_t4 148 rfl rfl)
theorem hy_V_near : y_V_near.cls ≠ "java/lang/invoke/MethodHandle" ∧ y_V_near.cls ≠ "java/lang/invoke/VarHandle" ∧ (parseMethodDescriptor y_V_near.desc).map (fun d => d.parameters.length) = some 1 := vHy _ _ (by decide +kernel)
theorem im_V_near : Cond.instanceMethod y_V_near ∈ wt := (wt_t4 150 rfl rfl)
theorem sl_V_near : Cond.selects y_V_near.cls y_V_near y_V_near ∈ wt := (wt_t4 151 rfl rfl)
theorem l_L_108 : vMl "VillagePayLaw" 108 y_V_near 1 := ⟨(wt_t4 149 rfl rfl), im_V_near, sl_V_near, (wt_t1 1 rfl rfl), hy_V_near⟩
theorem l_V_256 : vMl "VillagePay" 256 y_La_nearOf 1 := ⟨(wt_t4 153 rfl rfl), im_La_nearOf, sl_La_nearOf, (wt_t1 3 rfl rfl), hy_La_nearOf⟩
theorem hy_V_deal : y_V_deal.cls ≠ "java/lang/invoke/MethodHandle" ∧ y_V_deal.cls ≠ "java/lang/invoke/VarHandle" ∧ (parseMethodDescriptor y_V_deal.desc).map (fun d => d.parameters.length) = some 2 := vHy _ _ (by decide +kernel)
theorem im_V_deal : Cond.instanceMethod y_V_deal ∈ wt := (wt_t4 155 rfl rfl)
theorem sl_V_deal : Cond.selects y_V_deal.cls y_V_deal y_V_deal ∈ wt := (wt_t4 156 rfl rfl)
theorem l_L_112 : vMl "VillagePayLaw" 112 y_V_deal 2 := ⟨(wt_t4 154 rfl rfl), im_V_deal, sl_V_deal, (wt_t1 1 rfl rfl), hy_V_deal⟩
theorem hy_V_canBeDealtTo : y_V_canBeDealtTo.cls ≠ "java/lang/invoke/MethodHandle" ∧ y_V_canBeDealtTo.cls ≠ "java/lang/invoke/VarHandle" ∧ (parseMethodDescriptor y_V_canBeDealtTo.desc).map (fun d => d.parameters.length) = some 1 := vHy _ _ (by decide +kernel)
theorem im_V_canBeDealtTo : Cond.instanceMethod y_V_canBeDealtTo ∈ wt := (wt_t4 160 rfl rfl)
theorem sl_V_canBeDealtTo : Cond.selects y_V_canBeDealtTo.cls y_V_canBeDealtTo y_V_canBeDealtTo ∈ wt := wt_p (q := (y_V_canBeDealtTo, 10)) 27 (by decide +kernel)
theorem l_V_259 : vMl "VillagePay" 259 y_V_canBeDealtTo 1 := ⟨(wt_t4 158 rfl rfl), im_V_canBeDealtTo, sl_V_canBeDealtTo, (wt_t1 1 rfl rfl), hy_V_canBeDealtTo⟩
theorem hy_De_share : y_De_share.cls ≠ "java/lang/invoke/MethodHandle" ∧ y_De_share.cls ≠ "java/lang/invoke/VarHandle" ∧ (parseMethodDescriptor y_De_share.desc).map (fun d => d.parameters.length) = some 2 := vHy _ _ (by decide +kernel)
theorem im_De_share : Cond.instanceMethod y_De_share ∈ wt := (wt_t4 163 rfl rfl)
theorem sl_De_share : Cond.selects y_De_share.cls y_De_share y_De_share ∈ wt := (wt_t4 164 rfl rfl)
theorem l_V_262 : vMl "VillagePay" 262 y_De_share 2 := ⟨(wt_t4 162 rfl rfl), im_De_share, sl_De_share, (wt_t1 13 rfl rfl), hy_De_share⟩
theorem hy_De_gatherPeople : y_De_gatherPeople.cls ≠ "java/lang/invoke/MethodHandle" ∧ y_De_gatherPeople.cls ≠ "java/lang/invoke/VarHandle" ∧ (parseMethodDescriptor y_De_gatherPeople.desc).map (fun d => d.parameters.length) = some 1 := vHy _ _ (by decide +kernel)
theorem im_De_gatherPeople : Cond.instanceMethod y_De_gatherPeople ∈ wt := (wt_t4 168 rfl rfl)
theorem sl_De_gatherPeople : Cond.selects y_De_gatherPeople.cls y_De_gatherPeople y_De_gatherPeople ∈ wt := wt_p (q := (y_De_gatherPeople, 10)) 28 (by decide +kernel)
theorem l_De_91 : vMl "VillagePay$Dealer" 91 y_De_gatherPeople 1 := ⟨(wt_t4 166 rfl rfl), im_De_gatherPeople, sl_De_gatherPeople, (wt_t1 13 rfl rfl), hy_De_gatherPeople⟩
theorem hy_De_gatherLots : y_De_gatherLots.cls ≠ "java/lang/invoke/MethodHandle" ∧ y_De_gatherLots.cls ≠ "java/lang/invoke/VarHandle" ∧ (parseMethodDescriptor y_De_gatherLots.desc).map (fun d => d.parameters.length) = some 0 := vHy _ _ (by decide +kernel)
theorem im_De_gatherLots : Cond.instanceMethod y_De_gatherLots ∈ wt := (wt_t4 172 rfl rfl)
theorem sl_De_gatherLots : Cond.selects y_De_gatherLots.cls y_De_gatherLots y_De_gatherLots ∈ wt := wt_p (q := (y_De_gatherLots, 10)) 29 (by decide +kernel)
theorem l_De_95 : vMl "VillagePay$Dealer" 95 y_De_gatherLots 0 := ⟨(wt_t4 170 rfl rfl), im_De_gatherLots, sl_De_gatherLots, (wt_t1 13 rfl rfl), hy_De_gatherLots⟩
theorem hy_De_tryAllWays : y_De_tryAllWays.cls ≠ "java/lang/invoke/MethodHandle" ∧ y_De_tryAllWays.cls ≠ "java/lang/invoke/VarHandle" ∧ (parseMethodDescriptor y_De_tryAllWays.desc).map (fun d => d.parameters.length) = some 0 := vHy _ _ (by decide +kernel)
theorem im_De_tryAllWays : Cond.instanceMethod y_De_tryAllWays ∈ wt := (wt_t4 177 rfl rfl)
theorem sl_De_tryAllWays : Cond.selects y_De_tryAllWays.cls y_De_tryAllWays y_De_tryAllWays ∈ wt := wt_p (q := (y_De_tryAllWays, 10)) 30 (by decide +kernel)
theorem l_De_102 : vMl "VillagePay$Dealer" 102 y_De_tryAllWays 0 := ⟨(wt_t4 175 rfl rfl), im_De_tryAllWays, sl_De_tryAllWays, (wt_t1 13 rfl rfl), hy_De_tryAllWays⟩
theorem hy_De_keepIfLess : y_De_keepIfLess.cls ≠ "java/lang/invoke/MethodHandle" ∧ y_De_keepIfLess.cls ≠ "java/lang/invoke/VarHandle" ∧ (parseMethodDescriptor y_De_keepIfLess.desc).map (fun d => d.parameters.length) = some 0 := vHy _ _ (by decide +kernel)
theorem im_De_keepIfLess : Cond.instanceMethod y_De_keepIfLess ∈ wt := (wt_t4 181 rfl rfl)
theorem sl_De_keepIfLess : Cond.selects y_De_keepIfLess.cls y_De_keepIfLess y_De_keepIfLess ∈ wt := wt_p (q := (y_De_keepIfLess, 10)) 31 (by decide +kernel)
theorem l_De_108 : vMl "VillagePay$Dealer" 108 y_De_keepIfLess 0 := ⟨(wt_t4 179 rfl rfl), im_De_keepIfLess, sl_De_keepIfLess, (wt_t1 13 rfl rfl), hy_De_keepIfLess⟩
theorem lx_De_133 : Cond.methodLink "VillagePay$Dealer" 133 arraycopyName ∈ wt := (wt_t4 183 rfl rfl)
theorem hy_De_goToNextWay : y_De_goToNextWay.cls ≠ "java/lang/invoke/MethodHandle" ∧ y_De_goToNextWay.cls ≠ "java/lang/invoke/VarHandle" ∧ (parseMethodDescriptor y_De_goToNextWay.desc).map (fun d => d.parameters.length) = some 0 := vHy _ _ (by decide +kernel)
theorem im_De_goToNextWay : Cond.instanceMethod y_De_goToNextWay ∈ wt := (wt_t4 188 rfl rfl)
theorem sl_De_goToNextWay : Cond.selects y_De_goToNextWay.cls y_De_goToNextWay y_De_goToNextWay ∈ wt := wt_p (q := (y_De_goToNextWay, 10)) 32 (by decide +kernel)
theorem l_De_129 : vMl "VillagePay$Dealer" 129 y_De_goToNextWay 0 := ⟨(wt_t4 186 rfl rfl), im_De_goToNextWay, sl_De_goToNextWay, (wt_t1 13 rfl rfl), hy_De_goToNextWay⟩
theorem hy_De_dealByRule : y_De_dealByRule.cls ≠ "java/lang/invoke/MethodHandle" ∧ y_De_dealByRule.cls ≠ "java/lang/invoke/VarHandle" ∧ (parseMethodDescriptor y_De_dealByRule.desc).map (fun d => d.parameters.length) = some 0 := vHy _ _ (by decide +kernel)
theorem im_De_dealByRule : Cond.instanceMethod y_De_dealByRule ∈ wt := (wt_t4 192 rfl rfl)
theorem sl_De_dealByRule : Cond.selects y_De_dealByRule.cls y_De_dealByRule y_De_dealByRule ∈ wt := wt_p (q := (y_De_dealByRule, 10)) 33 (by decide +kernel)
theorem l_De_105 : vMl "VillagePay$Dealer" 105 y_De_dealByRule 0 := ⟨(wt_t4 190 rfl rfl), im_De_dealByRule, sl_De_dealByRule, (wt_t1 13 rfl rfl), hy_De_dealByRule⟩
theorem l_De_117 : vSl "VillagePay$Dealer" 117 y_JArr_fill 2 := ⟨(wt_t4 194 rfl rfl), st_JArr_fill, (wt_t1 4 rfl rfl), hy_JArr_fill⟩
theorem hy_De_greatestLotLeft : y_De_greatestLotLeft.cls ≠ "java/lang/invoke/MethodHandle" ∧ y_De_greatestLotLeft.cls ≠ "java/lang/invoke/VarHandle" ∧ (parseMethodDescriptor y_De_greatestLotLeft.desc).map (fun d => d.parameters.length) = some 0 := vHy _ _ (by decide +kernel)
theorem im_De_greatestLotLeft : Cond.instanceMethod y_De_greatestLotLeft ∈ wt := (wt_t4 197 rfl rfl)
theorem sl_De_greatestLotLeft : Cond.selects y_De_greatestLotLeft.cls y_De_greatestLotLeft y_De_greatestLotLeft ∈ wt := wt_p (q := (y_De_greatestLotLeft, 10)) 34 (by decide +kernel)
theorem l_De_123 : vMl "VillagePay$Dealer" 123 y_De_greatestLotLeft 0 := ⟨(wt_t4 195 rfl rfl), im_De_greatestLotLeft, sl_De_greatestLotLeft, (wt_t1 13 rfl rfl), hy_De_greatestLotLeft⟩
theorem hy_V_dealt : y_V_dealt.cls ≠ "java/lang/invoke/MethodHandle" ∧ y_V_dealt.cls ≠ "java/lang/invoke/VarHandle" ∧ (parseMethodDescriptor y_V_dealt.desc).map (fun d => d.parameters.length) = some 3 := vHy _ _ (by decide +kernel)
theorem im_V_dealt : Cond.instanceMethod y_V_dealt ∈ wt := (wt_t4 200 rfl rfl)
theorem sl_V_dealt : Cond.selects y_V_dealt.cls y_V_dealt y_V_dealt ∈ wt := (wt_t4 201 rfl rfl)
theorem l_L_117 : vMl "VillagePayLaw" 117 y_V_dealt 3 := ⟨(wt_t4 199 rfl rfl), im_V_dealt, sl_V_dealt, (wt_t1 1 rfl rfl), hy_V_dealt⟩
theorem hy_De_receiverOf : y_De_receiverOf.cls ≠ "java/lang/invoke/MethodHandle" ∧ y_De_receiverOf.cls ≠ "java/lang/invoke/VarHandle" ∧ (parseMethodDescriptor y_De_receiverOf.desc).map (fun d => d.parameters.length) = some 1 := vHy _ _ (by decide +kernel)
theorem im_De_receiverOf : Cond.instanceMethod y_De_receiverOf ∈ wt := (wt_t4 204 rfl rfl)
theorem sl_De_receiverOf : Cond.selects y_De_receiverOf.cls y_De_receiverOf y_De_receiverOf ∈ wt := (wt_t4 205 rfl rfl)
theorem l_V_269 : vMl "VillagePay" 269 y_De_receiverOf 1 := ⟨(wt_t4 203 rfl rfl), im_De_receiverOf, sl_De_receiverOf, (wt_t1 13 rfl rfl), hy_De_receiverOf⟩
theorem hy_V_move : y_V_move.cls ≠ "java/lang/invoke/MethodHandle" ∧ y_V_move.cls ≠ "java/lang/invoke/VarHandle" ∧ (parseMethodDescriptor y_V_move.desc).map (fun d => d.parameters.length) = some 2 := vHy _ _ (by decide +kernel)
theorem im_V_move : Cond.instanceMethod y_V_move ∈ wt := (wt_t4 208 rfl rfl)
theorem sl_V_move : Cond.selects y_V_move.cls y_V_move y_V_move ∈ wt := (wt_t4 209 rfl rfl)
theorem l_L_122 : vMl "VillagePayLaw" 122 y_V_move 2 := ⟨(wt_t4 207 rfl rfl), im_V_move, sl_V_move, (wt_t1 1 rfl rfl), hy_V_move⟩
theorem hy_Mo_hasEither : y_Mo_hasEither.cls ≠ "java/lang/invoke/MethodHandle" ∧ y_Mo_hasEither.cls ≠ "java/lang/invoke/VarHandle" ∧ (parseMethodDescriptor y_Mo_hasEither.desc).map (fun d => d.parameters.length) = some 2 := vHy _ _ (by decide +kernel)
theorem im_Mo_hasEither : Cond.instanceMethod y_Mo_hasEither ∈ wt := (wt_t4 212 rfl rfl)
theorem sl_Mo_hasEither : Cond.selects y_Mo_hasEither.cls y_Mo_hasEither y_Mo_hasEither ∈ wt := (wt_t4 213 rfl rfl)
theorem l_V_277 : vMl "VillagePay" 277 y_Mo_hasEither 2 := ⟨(wt_t4 211 rfl rfl), im_Mo_hasEither, sl_Mo_hasEither, (wt_t1 9 rfl rfl), hy_Mo_hasEither⟩
theorem hy_Mo_plan : y_Mo_plan.cls ≠ "java/lang/invoke/MethodHandle" ∧ y_Mo_plan.cls ≠ "java/lang/invoke/VarHandle" ∧ (parseMethodDescriptor y_Mo_plan.desc).map (fun d => d.parameters.length) = some 2 := vHy _ _ (by decide +kernel)
theorem im_Mo_plan : Cond.instanceMethod y_Mo_plan ∈ wt := (wt_t4 216 rfl rfl)
theorem sl_Mo_plan : Cond.selects y_Mo_plan.cls y_Mo_plan y_Mo_plan ∈ wt := (wt_t4 217 rfl rfl)
theorem l_V_280 : vMl "VillagePay" 280 y_Mo_plan 2 := ⟨(wt_t4 215 rfl rfl), im_Mo_plan, sl_Mo_plan, (wt_t1 9 rfl rfl), hy_Mo_plan⟩
theorem hy_V_stay : y_V_stay.cls ≠ "java/lang/invoke/MethodHandle" ∧ y_V_stay.cls ≠ "java/lang/invoke/VarHandle" ∧ (parseMethodDescriptor y_V_stay.desc).map (fun d => d.parameters.length) = some 0 := vHy _ _ (by decide +kernel)
theorem im_V_stay : Cond.instanceMethod y_V_stay ∈ wt := (wt_t4 220 rfl rfl)
theorem sl_V_stay : Cond.selects y_V_stay.cls y_V_stay y_V_stay ∈ wt := (wt_t4 221 rfl rfl)
theorem l_L_126 : vMl "VillagePayLaw" 126 y_V_stay 0 := ⟨(wt_t4 219 rfl rfl), im_V_stay, sl_V_stay, (wt_t1 1 rfl rfl), hy_V_stay⟩
theorem hy_V_idle : y_V_idle.cls ≠ "java/lang/invoke/MethodHandle" ∧ y_V_idle.cls ≠ "java/lang/invoke/VarHandle" ∧ (parseMethodDescriptor y_V_idle.desc).map (fun d => d.parameters.length) = some 0 := vHy _ _ (by decide +kernel)
theorem im_V_idle : Cond.instanceMethod y_V_idle ∈ wt := (wt_t4 224 rfl rfl)
theorem sl_V_idle : Cond.selects y_V_idle.cls y_V_idle y_V_idle ∈ wt := (wt_t4 225 rfl rfl)
theorem l_L_130 : vMl "VillagePayLaw" 130 y_V_idle 0 := ⟨(wt_t4 223 rfl rfl), im_V_idle, sl_V_idle, (wt_t1 1 rfl rfl), hy_V_idle⟩
theorem hy_Mo_reckonRow : y_Mo_reckonRow.cls ≠ "java/lang/invoke/MethodHandle" ∧ y_Mo_reckonRow.cls ≠ "java/lang/invoke/VarHandle" ∧ (parseMethodDescriptor y_Mo_reckonRow.desc).map (fun d => d.parameters.length) = some 3 := vHy _ _ (by decide +kernel)
theorem im_Mo_reckonRow : Cond.instanceMethod y_Mo_reckonRow ∈ wt := (wt_t4 228 rfl rfl)
theorem sl_Mo_reckonRow : Cond.selects y_Mo_reckonRow.cls y_Mo_reckonRow y_Mo_reckonRow ∈ wt := (wt_t4 229 rfl rfl)
theorem l_V_283 : vMl "VillagePay" 283 y_Mo_reckonRow 3 := ⟨(wt_t4 227 rfl rfl), im_Mo_reckonRow, sl_Mo_reckonRow, (wt_t1 9 rfl rfl), hy_Mo_reckonRow⟩
theorem l_Mo_32 : vMl "VillagePay$Moves" 32 y_Bo_holderOn 3 := ⟨(wt_t4 231 rfl rfl), im_Bo_holderOn, sl_Bo_holderOn, (wt_t1 5 rfl rfl), hy_Bo_holderOn⟩
theorem hy_Mo_firstLeft : y_Mo_firstLeft.cls ≠ "java/lang/invoke/MethodHandle" ∧ y_Mo_firstLeft.cls ≠ "java/lang/invoke/VarHandle" ∧ (parseMethodDescriptor y_Mo_firstLeft.desc).map (fun d => d.parameters.length) = some 1 := vHy _ _ (by decide +kernel)
theorem im_Mo_firstLeft : Cond.instanceMethod y_Mo_firstLeft ∈ wt := (wt_t4 234 rfl rfl)
theorem sl_Mo_firstLeft : Cond.selects y_Mo_firstLeft.cls y_Mo_firstLeft y_Mo_firstLeft ∈ wt := wt_p (q := (y_Mo_firstLeft, 8)) 35 (by decide +kernel)
theorem l_Mo_44 : vMl "VillagePay$Moves" 44 y_Mo_firstLeft 1 := ⟨(wt_t4 232 rfl rfl), im_Mo_firstLeft, sl_Mo_firstLeft, (wt_t1 9 rfl rfl), hy_Mo_firstLeft⟩
theorem hy_Mo_doMove : y_Mo_doMove.cls ≠ "java/lang/invoke/MethodHandle" ∧ y_Mo_doMove.cls ≠ "java/lang/invoke/VarHandle" ∧ (parseMethodDescriptor y_Mo_doMove.desc).map (fun d => d.parameters.length) = some 2 := vHy _ _ (by decide +kernel)
theorem im_Mo_doMove : Cond.instanceMethod y_Mo_doMove ∈ wt := (wt_t4 238 rfl rfl)
theorem sl_Mo_doMove : Cond.selects y_Mo_doMove.cls y_Mo_doMove y_Mo_doMove ∈ wt := wt_p (q := (y_Mo_doMove, 8)) 36 (by decide +kernel)
theorem l_Mo_48 : vMl "VillagePay$Moves" 48 y_Mo_doMove 2 := ⟨(wt_t4 236 rfl rfl), im_Mo_doMove, sl_Mo_doMove, (wt_t1 9 rfl rfl), hy_Mo_doMove⟩
theorem hy_Mo_takeAll : y_Mo_takeAll.cls ≠ "java/lang/invoke/MethodHandle" ∧ y_Mo_takeAll.cls ≠ "java/lang/invoke/VarHandle" ∧ (parseMethodDescriptor y_Mo_takeAll.desc).map (fun d => d.parameters.length) = some 2 := vHy _ _ (by decide +kernel)
theorem im_Mo_takeAll : Cond.instanceMethod y_Mo_takeAll ∈ wt := (wt_t5 2 rfl rfl)
theorem sl_Mo_takeAll : Cond.selects y_Mo_takeAll.cls y_Mo_takeAll y_Mo_takeAll ∈ wt := wt_p (q := (y_Mo_takeAll, 8)) 37 (by decide +kernel)
theorem l_Mo_52 : vMl "VillagePay$Moves" 52 y_Mo_takeAll 2 := ⟨(wt_t5 0 rfl rfl), im_Mo_takeAll, sl_Mo_takeAll, (wt_t1 9 rfl rfl), hy_Mo_takeAll⟩
theorem hy_V_moved : y_V_moved.cls ≠ "java/lang/invoke/MethodHandle" ∧ y_V_moved.cls ≠ "java/lang/invoke/VarHandle" ∧ (parseMethodDescriptor y_V_moved.desc).map (fun d => d.parameters.length) = some 1 := vHy _ _ (by decide +kernel)
theorem im_V_moved : Cond.instanceMethod y_V_moved ∈ wt := (wt_t5 5 rfl rfl)
theorem sl_V_moved : Cond.selects y_V_moved.cls y_V_moved y_V_moved ∈ wt := (wt_t5 6 rfl rfl)
theorem l_L_135 : vMl "VillagePayLaw" 135 y_V_moved 1 := ⟨(wt_t5 4 rfl rfl), im_V_moved, sl_V_moved, (wt_t1 1 rfl rfl), hy_V_moved⟩
theorem hy_V_say : y_V_say.cls ≠ "java/lang/invoke/MethodHandle" ∧ y_V_say.cls ≠ "java/lang/invoke/VarHandle" ∧ (parseMethodDescriptor y_V_say.desc).map (fun d => d.parameters.length) = some 4 := vHy _ _ (by decide +kernel)
theorem im_V_say : Cond.instanceMethod y_V_say ∈ wt := (wt_t5 9 rfl rfl)
theorem sl_V_say : Cond.selects y_V_say.cls y_V_say y_V_say ∈ wt := (wt_t5 10 rfl rfl)
theorem l_L_139 : vMl "VillagePayLaw" 139 y_V_say 4 := ⟨(wt_t5 8 rfl rfl), im_V_say, sl_V_say, (wt_t1 1 rfl rfl), hy_V_say⟩
theorem hy_V_isWriter : y_V_isWriter.cls ≠ "java/lang/invoke/MethodHandle" ∧ y_V_isWriter.cls ≠ "java/lang/invoke/VarHandle" ∧ (parseMethodDescriptor y_V_isWriter.desc).map (fun d => d.parameters.length) = some 1 := vHy _ _ (by decide +kernel)
theorem st_V_isWriter : Cond.static y_V_isWriter ∈ wt := (wt_t5 13 rfl rfl)
theorem l_V_293 : vSl "VillagePay" 293 y_V_isWriter 1 := ⟨(wt_t5 12 rfl rfl), st_V_isWriter, (wt_t1 1 rfl rfl), hy_V_isWriter⟩
theorem hy_Ne_write : y_Ne_write.cls ≠ "java/lang/invoke/MethodHandle" ∧ y_Ne_write.cls ≠ "java/lang/invoke/VarHandle" ∧ (parseMethodDescriptor y_Ne_write.desc).map (fun d => d.parameters.length) = some 5 := vHy _ _ (by decide +kernel)
theorem im_Ne_write : Cond.instanceMethod y_Ne_write ∈ wt := (wt_t5 16 rfl rfl)
theorem sl_Ne_write : Cond.selects y_Ne_write.cls y_Ne_write y_Ne_write ∈ wt := (wt_t5 17 rfl rfl)
theorem l_V_301 : vMl "VillagePay" 301 y_Ne_write 5 := ⟨(wt_t5 15 rfl rfl), im_Ne_write, sl_Ne_write, (wt_t1 8 rfl rfl), hy_Ne_write⟩
theorem hy_V_trust : y_V_trust.cls ≠ "java/lang/invoke/MethodHandle" ∧ y_V_trust.cls ≠ "java/lang/invoke/VarHandle" ∧ (parseMethodDescriptor y_V_trust.desc).map (fun d => d.parameters.length) = some 2 := vHy _ _ (by decide +kernel)
theorem im_V_trust : Cond.instanceMethod y_V_trust ∈ wt := (wt_t5 20 rfl rfl)
theorem sl_V_trust : Cond.selects y_V_trust.cls y_V_trust y_V_trust ∈ wt := (wt_t5 21 rfl rfl)
theorem l_L_143 : vMl "VillagePayLaw" 143 y_V_trust 2 := ⟨(wt_t5 19 rfl rfl), im_V_trust, sl_V_trust, (wt_t1 1 rfl rfl), hy_V_trust⟩
theorem hy_Ne_trustIn : y_Ne_trustIn.cls ≠ "java/lang/invoke/MethodHandle" ∧ y_Ne_trustIn.cls ≠ "java/lang/invoke/VarHandle" ∧ (parseMethodDescriptor y_Ne_trustIn.desc).map (fun d => d.parameters.length) = some 2 := vHy _ _ (by decide +kernel)
theorem im_Ne_trustIn : Cond.instanceMethod y_Ne_trustIn ∈ wt := (wt_t5 24 rfl rfl)
theorem sl_Ne_trustIn : Cond.selects y_Ne_trustIn.cls y_Ne_trustIn y_Ne_trustIn ∈ wt := (wt_t5 25 rfl rfl)
theorem l_V_302 : vMl "VillagePay" 302 y_Ne_trustIn 2 := ⟨(wt_t5 23 rfl rfl), im_Ne_trustIn, sl_Ne_trustIn, (wt_t1 8 rfl rfl), hy_Ne_trustIn⟩
theorem hy_Ne_valueOf : y_Ne_valueOf.cls ≠ "java/lang/invoke/MethodHandle" ∧ y_Ne_valueOf.cls ≠ "java/lang/invoke/VarHandle" ∧ (parseMethodDescriptor y_Ne_valueOf.desc).map (fun d => d.parameters.length) = some 2 := vHy _ _ (by decide +kernel)
theorem st_Ne_valueOf : Cond.static y_Ne_valueOf ∈ wt := (wt_t5 28 rfl rfl)
theorem l_Ne_38 : vSl "VillagePay$News" 38 y_Ne_valueOf 2 := ⟨(wt_t5 27 rfl rfl), st_Ne_valueOf, (wt_t1 8 rfl rfl), hy_Ne_valueOf⟩
theorem lx_Ne_42 : Cond.methodLink "VillagePay$News" 42 Lib.Math.abs.name ∈ wt := (wt_t5 30 rfl rfl)
theorem lx_Ne_48 : Cond.methodLink "VillagePay$News" 48 Lib.Math.max.name ∈ wt := (wt_t5 31 rfl rfl)
theorem hy_V_weighed : y_V_weighed.cls ≠ "java/lang/invoke/MethodHandle" ∧ y_V_weighed.cls ≠ "java/lang/invoke/VarHandle" ∧ (parseMethodDescriptor y_V_weighed.desc).map (fun d => d.parameters.length) = some 3 := vHy _ _ (by decide +kernel)
theorem im_V_weighed : Cond.instanceMethod y_V_weighed ∈ wt := (wt_t5 33 rfl rfl)
theorem sl_V_weighed : Cond.selects y_V_weighed.cls y_V_weighed y_V_weighed ∈ wt := (wt_t5 34 rfl rfl)
theorem l_L_147 : vMl "VillagePayLaw" 147 y_V_weighed 3 := ⟨(wt_t5 32 rfl rfl), im_V_weighed, sl_V_weighed, (wt_t1 1 rfl rfl), hy_V_weighed⟩
theorem hy_Ne_weigh : y_Ne_weigh.cls ≠ "java/lang/invoke/MethodHandle" ∧ y_Ne_weigh.cls ≠ "java/lang/invoke/VarHandle" ∧ (parseMethodDescriptor y_Ne_weigh.desc).map (fun d => d.parameters.length) = some 3 := vHy _ _ (by decide +kernel)
theorem im_Ne_weigh : Cond.instanceMethod y_Ne_weigh ∈ wt := (wt_t5 37 rfl rfl)
theorem sl_Ne_weigh : Cond.selects y_Ne_weigh.cls y_Ne_weigh y_Ne_weigh ∈ wt := (wt_t5 38 rfl rfl)
theorem l_V_305 : vMl "VillagePay" 305 y_Ne_weigh 3 := ⟨(wt_t5 36 rfl rfl), im_Ne_weigh, sl_Ne_weigh, (wt_t1 8 rfl rfl), hy_Ne_weigh⟩
theorem l_Ne_55 : vMl "VillagePay$News" 55 y_Ne_trustIn 2 := ⟨(wt_t5 40 rfl rfl), im_Ne_trustIn, sl_Ne_trustIn, (wt_t1 8 rfl rfl), hy_Ne_trustIn⟩
theorem hy_V_famine : y_V_famine.cls ≠ "java/lang/invoke/MethodHandle" ∧ y_V_famine.cls ≠ "java/lang/invoke/VarHandle" ∧ (parseMethodDescriptor y_V_famine.desc).map (fun d => d.parameters.length) = some 3 := vHy _ _ (by decide +kernel)
theorem im_V_famine : Cond.instanceMethod y_V_famine ∈ wt := (wt_t5 42 rfl rfl)
theorem sl_V_famine : Cond.selects y_V_famine.cls y_V_famine y_V_famine ∈ wt := (wt_t5 43 rfl rfl)
theorem l_L_151 : vMl "VillagePayLaw" 151 y_V_famine 3 := ⟨(wt_t5 41 rfl rfl), im_V_famine, sl_V_famine, (wt_t1 1 rfl rfl), hy_V_famine⟩
theorem l_V_308 : vMl "VillagePay" 308 y_Ne_isProven 3 := ⟨(wt_t5 45 rfl rfl), im_Ne_isProven, sl_Ne_isProven, (wt_t1 8 rfl rfl), hy_Ne_isProven⟩
theorem hy_V_tried : y_V_tried.cls ≠ "java/lang/invoke/MethodHandle" ∧ y_V_tried.cls ≠ "java/lang/invoke/VarHandle" ∧ (parseMethodDescriptor y_V_tried.desc).map (fun d => d.parameters.length) = some 5 := vHy _ _ (by decide +kernel)
theorem im_V_tried : Cond.instanceMethod y_V_tried ∈ wt := (wt_t5 47 rfl rfl)
theorem sl_V_tried : Cond.selects y_V_tried.cls y_V_tried y_V_tried ∈ wt := (wt_t5 48 rfl rfl)
theorem l_L_156 : vMl "VillagePayLaw" 156 y_V_tried 5 := ⟨(wt_t5 46 rfl rfl), im_V_tried, sl_V_tried, (wt_t1 1 rfl rfl), hy_V_tried⟩
theorem hy_La_tryRule : y_La_tryRule.cls ≠ "java/lang/invoke/MethodHandle" ∧ y_La_tryRule.cls ≠ "java/lang/invoke/VarHandle" ∧ (parseMethodDescriptor y_La_tryRule.desc).map (fun d => d.parameters.length) = some 5 := vHy _ _ (by decide +kernel)
theorem im_La_tryRule : Cond.instanceMethod y_La_tryRule ∈ wt := (wt_t5 51 rfl rfl)
theorem sl_La_tryRule : Cond.selects y_La_tryRule.cls y_La_tryRule y_La_tryRule ∈ wt := (wt_t5 52 rfl rfl)
theorem l_V_311 : vMl "VillagePay" 311 y_La_tryRule 5 := ⟨(wt_t5 50 rfl rfl), im_La_tryRule, sl_La_tryRule, (wt_t1 3 rfl rfl), hy_La_tryRule⟩
theorem hy_V_count : y_V_count.cls ≠ "java/lang/invoke/MethodHandle" ∧ y_V_count.cls ≠ "java/lang/invoke/VarHandle" ∧ (parseMethodDescriptor y_V_count.desc).map (fun d => d.parameters.length) = some 1 := vHy _ _ (by decide +kernel)
theorem im_V_count : Cond.instanceMethod y_V_count ∈ wt := (wt_t5 55 rfl rfl)
theorem sl_V_count : Cond.selects y_V_count.cls y_V_count y_V_count ∈ wt := (wt_t5 56 rfl rfl)
theorem l_L_160 : vMl "VillagePayLaw" 160 y_V_count 1 := ⟨(wt_t5 54 rfl rfl), im_V_count, sl_V_count, (wt_t1 1 rfl rfl), hy_V_count⟩
theorem hy_V_countServing : y_V_countServing.cls ≠ "java/lang/invoke/MethodHandle" ∧ y_V_countServing.cls ≠ "java/lang/invoke/VarHandle" ∧ (parseMethodDescriptor y_V_countServing.desc).map (fun d => d.parameters.length) = some 0 := vHy _ _ (by decide +kernel)
theorem im_V_countServing : Cond.instanceMethod y_V_countServing ∈ wt := (wt_t5 60 rfl rfl)
theorem sl_V_countServing : Cond.selects y_V_countServing.cls y_V_countServing y_V_countServing ∈ wt := wt_p (q := (y_V_countServing, 10)) 38 (by decide +kernel)
theorem l_V_317 : vMl "VillagePay" 317 y_V_countServing 0 := ⟨(wt_t5 58 rfl rfl), im_V_countServing, sl_V_countServing, (wt_t1 1 rfl rfl), hy_V_countServing⟩
theorem hy_V_countOfCrown : y_V_countOfCrown.cls ≠ "java/lang/invoke/MethodHandle" ∧ y_V_countOfCrown.cls ≠ "java/lang/invoke/VarHandle" ∧ (parseMethodDescriptor y_V_countOfCrown.desc).map (fun d => d.parameters.length) = some 0 := vHy _ _ (by decide +kernel)
theorem im_V_countOfCrown : Cond.instanceMethod y_V_countOfCrown ∈ wt := (wt_t5 64 rfl rfl)
theorem sl_V_countOfCrown : Cond.selects y_V_countOfCrown.cls y_V_countOfCrown y_V_countOfCrown ∈ wt := wt_p (q := (y_V_countOfCrown, 10)) 39 (by decide +kernel)
theorem l_V_320 : vMl "VillagePay" 320 y_V_countOfCrown 0 := ⟨(wt_t5 62 rfl rfl), im_V_countOfCrown, sl_V_countOfCrown, (wt_t1 1 rfl rfl), hy_V_countOfCrown⟩
theorem hy_V_countOver : y_V_countOver.cls ≠ "java/lang/invoke/MethodHandle" ∧ y_V_countOver.cls ≠ "java/lang/invoke/VarHandle" ∧ (parseMethodDescriptor y_V_countOver.desc).map (fun d => d.parameters.length) = some 0 := vHy _ _ (by decide +kernel)
theorem im_V_countOver : Cond.instanceMethod y_V_countOver ∈ wt := (wt_t5 68 rfl rfl)
theorem sl_V_countOver : Cond.selects y_V_countOver.cls y_V_countOver y_V_countOver ∈ wt := wt_p (q := (y_V_countOver, 10)) 40 (by decide +kernel)
theorem l_V_323 : vMl "VillagePay" 323 y_V_countOver 0 := ⟨(wt_t5 66 rfl rfl), im_V_countOver, sl_V_countOver, (wt_t1 1 rfl rfl), hy_V_countOver⟩
theorem hy_V_image : y_V_image.cls ≠ "java/lang/invoke/MethodHandle" ∧ y_V_image.cls ≠ "java/lang/invoke/VarHandle" ∧ (parseMethodDescriptor y_V_image.desc).map (fun d => d.parameters.length) = some 1 := vHy _ _ (by decide +kernel)
theorem im_V_image : Cond.instanceMethod y_V_image ∈ wt := (wt_t5 71 rfl rfl)
theorem sl_V_image : Cond.selects y_V_image.cls y_V_image y_V_image ∈ wt := (wt_t5 72 rfl rfl)
theorem l_L_164 : vMl "VillagePayLaw" 164 y_V_image 1 := ⟨(wt_t5 70 rfl rfl), im_V_image, sl_V_image, (wt_t1 1 rfl rfl), hy_V_image⟩
theorem hy_St_copyFrom : y_St_copyFrom.cls ≠ "java/lang/invoke/MethodHandle" ∧ y_St_copyFrom.cls ≠ "java/lang/invoke/VarHandle" ∧ (parseMethodDescriptor y_St_copyFrom.desc).map (fun d => d.parameters.length) = some 1 := vHy _ _ (by decide +kernel)
theorem im_St_copyFrom : Cond.instanceMethod y_St_copyFrom ∈ wt := (wt_t5 75 rfl rfl)
theorem sl_St_copyFrom : Cond.selects y_St_copyFrom.cls y_St_copyFrom y_St_copyFrom ∈ wt := (wt_t5 76 rfl rfl)
theorem l_V_326 : vMl "VillagePay" 326 y_St_copyFrom 1 := ⟨(wt_t5 74 rfl rfl), im_St_copyFrom, sl_St_copyFrom, (wt_t1 2 rfl rfl), hy_St_copyFrom⟩
theorem hy_La_copyFrom : y_La_copyFrom.cls ≠ "java/lang/invoke/MethodHandle" ∧ y_La_copyFrom.cls ≠ "java/lang/invoke/VarHandle" ∧ (parseMethodDescriptor y_La_copyFrom.desc).map (fun d => d.parameters.length) = some 1 := vHy _ _ (by decide +kernel)
theorem im_La_copyFrom : Cond.instanceMethod y_La_copyFrom ∈ wt := (wt_t5 79 rfl rfl)
theorem sl_La_copyFrom : Cond.selects y_La_copyFrom.cls y_La_copyFrom y_La_copyFrom ∈ wt := (wt_t5 80 rfl rfl)
theorem l_St_61 : vMl "VillagePay$State" 61 y_La_copyFrom 1 := ⟨(wt_t5 78 rfl rfl), im_La_copyFrom, sl_La_copyFrom, (wt_t1 3 rfl rfl), hy_La_copyFrom⟩
theorem lx_La_70 : Cond.methodLink "VillagePay$Land" 70 arraycopyName ∈ wt := (wt_t5 82 rfl rfl)
theorem hy_Bo_copyFrom : y_Bo_copyFrom.cls ≠ "java/lang/invoke/MethodHandle" ∧ y_Bo_copyFrom.cls ≠ "java/lang/invoke/VarHandle" ∧ (parseMethodDescriptor y_Bo_copyFrom.desc).map (fun d => d.parameters.length) = some 1 := vHy _ _ (by decide +kernel)
theorem im_Bo_copyFrom : Cond.instanceMethod y_Bo_copyFrom ∈ wt := (wt_t5 84 rfl rfl)
theorem sl_Bo_copyFrom : Cond.selects y_Bo_copyFrom.cls y_Bo_copyFrom y_Bo_copyFrom ∈ wt := (wt_t5 85 rfl rfl)
theorem l_St_64 : vMl "VillagePay$State" 64 y_Bo_copyFrom 1 := ⟨(wt_t5 83 rfl rfl), im_Bo_copyFrom, sl_Bo_copyFrom, (wt_t1 5 rfl rfl), hy_Bo_copyFrom⟩
theorem lx_Bo_54 : Cond.methodLink "VillagePay$Book" 54 arraycopyName ∈ wt := (wt_t5 87 rfl rfl)
theorem hy_Lw_copyFrom : y_Lw_copyFrom.cls ≠ "java/lang/invoke/MethodHandle" ∧ y_Lw_copyFrom.cls ≠ "java/lang/invoke/VarHandle" ∧ (parseMethodDescriptor y_Lw_copyFrom.desc).map (fun d => d.parameters.length) = some 1 := vHy _ _ (by decide +kernel)
theorem im_Lw_copyFrom : Cond.instanceMethod y_Lw_copyFrom ∈ wt := (wt_t5 89 rfl rfl)
theorem sl_Lw_copyFrom : Cond.selects y_Lw_copyFrom.cls y_Lw_copyFrom y_Lw_copyFrom ∈ wt := (wt_t5 90 rfl rfl)
theorem l_St_67 : vMl "VillagePay$State" 67 y_Lw_copyFrom 1 := ⟨(wt_t5 88 rfl rfl), im_Lw_copyFrom, sl_Lw_copyFrom, (wt_t1 6 rfl rfl), hy_Lw_copyFrom⟩
theorem lx_Lw_44 : Cond.methodLink "VillagePay$Laws" 44 arraycopyName ∈ wt := (wt_t5 92 rfl rfl)
theorem hy_Ta_copyFrom : y_Ta_copyFrom.cls ≠ "java/lang/invoke/MethodHandle" ∧ y_Ta_copyFrom.cls ≠ "java/lang/invoke/VarHandle" ∧ (parseMethodDescriptor y_Ta_copyFrom.desc).map (fun d => d.parameters.length) = some 1 := vHy _ _ (by decide +kernel)
theorem im_Ta_copyFrom : Cond.instanceMethod y_Ta_copyFrom ∈ wt := (wt_t5 94 rfl rfl)
theorem sl_Ta_copyFrom : Cond.selects y_Ta_copyFrom.cls y_Ta_copyFrom y_Ta_copyFrom ∈ wt := (wt_t5 95 rfl rfl)
theorem l_St_70 : vMl "VillagePay$State" 70 y_Ta_copyFrom 1 := ⟨(wt_t5 93 rfl rfl), im_Ta_copyFrom, sl_Ta_copyFrom, (wt_t1 7 rfl rfl), hy_Ta_copyFrom⟩
theorem lx_Ta_25 : Cond.methodLink "VillagePay$Tape" 25 arraycopyName ∈ wt := (wt_t5 97 rfl rfl)
theorem hy_Ne_copyFrom : y_Ne_copyFrom.cls ≠ "java/lang/invoke/MethodHandle" ∧ y_Ne_copyFrom.cls ≠ "java/lang/invoke/VarHandle" ∧ (parseMethodDescriptor y_Ne_copyFrom.desc).map (fun d => d.parameters.length) = some 1 := vHy _ _ (by decide +kernel)
theorem im_Ne_copyFrom : Cond.instanceMethod y_Ne_copyFrom ∈ wt := (wt_t5 99 rfl rfl)
theorem sl_Ne_copyFrom : Cond.selects y_Ne_copyFrom.cls y_Ne_copyFrom y_Ne_copyFrom ∈ wt := (wt_t5 100 rfl rfl)
theorem l_St_73 : vMl "VillagePay$State" 73 y_Ne_copyFrom 1 := ⟨(wt_t5 98 rfl rfl), im_Ne_copyFrom, sl_Ne_copyFrom, (wt_t1 8 rfl rfl), hy_Ne_copyFrom⟩
theorem lx_Ne_61 : Cond.methodLink "VillagePay$News" 61 arraycopyName ∈ wt := (wt_t5 102 rfl rfl)
theorem hy_Mo_copyFrom : y_Mo_copyFrom.cls ≠ "java/lang/invoke/MethodHandle" ∧ y_Mo_copyFrom.cls ≠ "java/lang/invoke/VarHandle" ∧ (parseMethodDescriptor y_Mo_copyFrom.desc).map (fun d => d.parameters.length) = some 1 := vHy _ _ (by decide +kernel)
theorem im_Mo_copyFrom : Cond.instanceMethod y_Mo_copyFrom ∈ wt := (wt_t5 104 rfl rfl)
theorem sl_Mo_copyFrom : Cond.selects y_Mo_copyFrom.cls y_Mo_copyFrom y_Mo_copyFrom ∈ wt := (wt_t5 105 rfl rfl)
theorem l_St_76 : vMl "VillagePay$State" 76 y_Mo_copyFrom 1 := ⟨(wt_t5 103 rfl rfl), im_Mo_copyFrom, sl_Mo_copyFrom, (wt_t1 9 rfl rfl), hy_Mo_copyFrom⟩
theorem lx_Mo_55 : Cond.methodLink "VillagePay$Moves" 55 arraycopyName ∈ wt := (wt_t5 107 rfl rfl)
theorem hy_V_again : y_V_again.cls ≠ "java/lang/invoke/MethodHandle" ∧ y_V_again.cls ≠ "java/lang/invoke/VarHandle" ∧ (parseMethodDescriptor y_V_again.desc).map (fun d => d.parameters.length) = some 1 := vHy _ _ (by decide +kernel)
theorem im_V_again : Cond.instanceMethod y_V_again ∈ wt := (wt_t5 109 rfl rfl)
theorem sl_V_again : Cond.selects y_V_again.cls y_V_again y_V_again ∈ wt := (wt_t5 110 rfl rfl)
theorem l_L_168 : vMl "VillagePayLaw" 168 y_V_again 1 := ⟨(wt_t5 108 rfl rfl), im_V_again, sl_V_again, (wt_t1 1 rfl rfl), hy_V_again⟩
theorem hy_M_init : y_M_init.cls ≠ "java/lang/invoke/MethodHandle" ∧ y_M_init.cls ≠ "java/lang/invoke/VarHandle" ∧ (parseMethodDescriptor y_M_init.desc).map (fun d => d.parameters.length) = some 0 := vHy _ _ (by decide +kernel)
theorem im_M_init : Cond.instanceMethod y_M_init ∈ wt := (wt_t5 115 rfl rfl)
theorem l_L_12 : vIl "VillagePayLaw" 12 y_M_init 0 := ⟨(wt_t5 114 rfl rfl), im_M_init, (wt_t1 14 rfl rfl), rfl, hy_M_init⟩
theorem lo_M_1 : Cond.methodLink "VillagePayModel" 1 Lib.objectInit ∈ wt := (wt_t5 117 rfl rfl)
theorem hy_M_village : y_M_village.cls ≠ "java/lang/invoke/MethodHandle" ∧ y_M_village.cls ≠ "java/lang/invoke/VarHandle" ∧ (parseMethodDescriptor y_M_village.desc).map (fun d => d.parameters.length) = some 3 := vHy _ _ (by decide +kernel)
theorem im_M_village : Cond.instanceMethod y_M_village ∈ wt := (wt_t5 198 rfl rfl)
theorem sl_M_village : Cond.selects y_M_village.cls y_M_village y_M_village ∈ wt := (wt_t5 199 rfl rfl)
theorem l_L_17 : vMl "VillagePayLaw" 17 y_M_village 3 := ⟨(wt_t5 197 rfl rfl), im_M_village, sl_M_village, (wt_t1 14 rfl rfl), hy_M_village⟩
theorem hy_M_isIn : y_M_isIn.cls ≠ "java/lang/invoke/MethodHandle" ∧ y_M_isIn.cls ≠ "java/lang/invoke/VarHandle" ∧ (parseMethodDescriptor y_M_isIn.desc).map (fun d => d.parameters.length) = some 3 := vHy _ _ (by decide +kernel)
theorem st_M_isIn : Cond.static y_M_isIn ∈ wt := (wt_t5 202 rfl rfl)
theorem l_M_56 : vSl "VillagePayModel" 56 y_M_isIn 3 := ⟨(wt_t5 201 rfl rfl), st_M_isIn, (wt_t1 14 rfl rfl), hy_M_isIn⟩
theorem hy_M_weather : y_M_weather.cls ≠ "java/lang/invoke/MethodHandle" ∧ y_M_weather.cls ≠ "java/lang/invoke/VarHandle" ∧ (parseMethodDescriptor y_M_weather.desc).map (fun d => d.parameters.length) = some 2 := vHy _ _ (by decide +kernel)
theorem im_M_weather : Cond.instanceMethod y_M_weather ∈ wt := (wt_t5 205 rfl rfl)
theorem sl_M_weather : Cond.selects y_M_weather.cls y_M_weather y_M_weather ∈ wt := (wt_t5 206 rfl rfl)
theorem l_L_22 : vMl "VillagePayLaw" 22 y_M_weather 2 := ⟨(wt_t5 204 rfl rfl), im_M_weather, sl_M_weather, (wt_t1 14 rfl rfl), hy_M_weather⟩
theorem hy_M_ended : y_M_ended.cls ≠ "java/lang/invoke/MethodHandle" ∧ y_M_ended.cls ≠ "java/lang/invoke/VarHandle" ∧ (parseMethodDescriptor y_M_ended.desc).map (fun d => d.parameters.length) = some 0 := vHy _ _ (by decide +kernel)
theorem im_M_ended : Cond.instanceMethod y_M_ended ∈ wt := (wt_t5 210 rfl rfl)
theorem sl_M_ended : Cond.selects y_M_ended.cls y_M_ended y_M_ended ∈ wt := wt_p (q := (y_M_ended, 26)) 41 (by decide +kernel)
theorem l_M_60 : vMl "VillagePayModel" 60 y_M_ended 0 := ⟨(wt_t5 208 rfl rfl), im_M_ended, sl_M_ended, (wt_t1 14 rfl rfl), hy_M_ended⟩
theorem hy_M_squeeze : y_M_squeeze.cls ≠ "java/lang/invoke/MethodHandle" ∧ y_M_squeeze.cls ≠ "java/lang/invoke/VarHandle" ∧ (parseMethodDescriptor y_M_squeeze.desc).map (fun d => d.parameters.length) = some 2 := vHy _ _ (by decide +kernel)
theorem im_M_squeeze : Cond.instanceMethod y_M_squeeze ∈ wt := (wt_t5 213 rfl rfl)
theorem sl_M_squeeze : Cond.selects y_M_squeeze.cls y_M_squeeze y_M_squeeze ∈ wt := (wt_t5 214 rfl rfl)
theorem l_L_26 : vMl "VillagePayLaw" 26 y_M_squeeze 2 := ⟨(wt_t5 212 rfl rfl), im_M_squeeze, sl_M_squeeze, (wt_t1 14 rfl rfl), hy_M_squeeze⟩
theorem hy_M_isOf : y_M_isOf.cls ≠ "java/lang/invoke/MethodHandle" ∧ y_M_isOf.cls ≠ "java/lang/invoke/VarHandle" ∧ (parseMethodDescriptor y_M_isOf.desc).map (fun d => d.parameters.length) = some 2 := vHy _ _ (by decide +kernel)
theorem im_M_isOf : Cond.instanceMethod y_M_isOf ∈ wt := (wt_t5 218 rfl rfl)
theorem sl_M_isOf : Cond.selects y_M_isOf.cls y_M_isOf y_M_isOf ∈ wt := wt_p (q := (y_M_isOf, 26)) 42 (by decide +kernel)
theorem l_M_64 : vMl "VillagePayModel" 64 y_M_isOf 2 := ⟨(wt_t5 216 rfl rfl), im_M_isOf, sl_M_isOf, (wt_t1 14 rfl rfl), hy_M_isOf⟩
theorem hy_M_days : y_M_days.cls ≠ "java/lang/invoke/MethodHandle" ∧ y_M_days.cls ≠ "java/lang/invoke/VarHandle" ∧ (parseMethodDescriptor y_M_days.desc).map (fun d => d.parameters.length) = some 1 := vHy _ _ (by decide +kernel)
theorem im_M_days : Cond.instanceMethod y_M_days ∈ wt := (wt_t5 221 rfl rfl)
theorem sl_M_days : Cond.selects y_M_days.cls y_M_days y_M_days ∈ wt := (wt_t5 222 rfl rfl)
theorem l_L_31 : vMl "VillagePayLaw" 31 y_M_days 1 := ⟨(wt_t5 220 rfl rfl), im_M_days, sl_M_days, (wt_t1 14 rfl rfl), hy_M_days⟩
theorem hy_M_ends : y_M_ends.cls ≠ "java/lang/invoke/MethodHandle" ∧ y_M_ends.cls ≠ "java/lang/invoke/VarHandle" ∧ (parseMethodDescriptor y_M_ends.desc).map (fun d => d.parameters.length) = some 1 := vHy _ _ (by decide +kernel)
theorem im_M_ends : Cond.instanceMethod y_M_ends ∈ wt := (wt_t5 226 rfl rfl)
theorem sl_M_ends : Cond.selects y_M_ends.cls y_M_ends y_M_ends ∈ wt := wt_p (q := (y_M_ends, 26)) 43 (by decide +kernel)
theorem l_M_76 : vMl "VillagePayModel" 76 y_M_ends 1 := ⟨(wt_t5 224 rfl rfl), im_M_ends, sl_M_ends, (wt_t1 14 rfl rfl), hy_M_ends⟩
theorem hy_M_gives : y_M_gives.cls ≠ "java/lang/invoke/MethodHandle" ∧ y_M_gives.cls ≠ "java/lang/invoke/VarHandle" ∧ (parseMethodDescriptor y_M_gives.desc).map (fun d => d.parameters.length) = some 4 := vHy _ _ (by decide +kernel)
theorem im_M_gives : Cond.instanceMethod y_M_gives ∈ wt := (wt_t5 230 rfl rfl)
theorem sl_M_gives : Cond.selects y_M_gives.cls y_M_gives y_M_gives ∈ wt := wt_p (q := (y_M_gives, 26)) 44 (by decide +kernel)
theorem l_M_68 : vMl "VillagePayModel" 68 y_M_gives 4 := ⟨(wt_t5 228 rfl rfl), im_M_gives, sl_M_gives, (wt_t1 14 rfl rfl), hy_M_gives⟩
theorem hy_M_healthAfter : y_M_healthAfter.cls ≠ "java/lang/invoke/MethodHandle" ∧ y_M_healthAfter.cls ≠ "java/lang/invoke/VarHandle" ∧ (parseMethodDescriptor y_M_healthAfter.desc).map (fun d => d.parameters.length) = some 2 := vHy _ _ (by decide +kernel)
theorem st_M_healthAfter : Cond.static y_M_healthAfter ∈ wt := (wt_t5 233 rfl rfl)
theorem l_M_72 : vSl "VillagePayModel" 72 y_M_healthAfter 2 := ⟨(wt_t5 232 rfl rfl), st_M_healthAfter, (wt_t1 14 rfl rfl), hy_M_healthAfter⟩
theorem hy_M_come : y_M_come.cls ≠ "java/lang/invoke/MethodHandle" ∧ y_M_come.cls ≠ "java/lang/invoke/VarHandle" ∧ (parseMethodDescriptor y_M_come.desc).map (fun d => d.parameters.length) = some 2 := vHy _ _ (by decide +kernel)
theorem im_M_come : Cond.instanceMethod y_M_come ∈ wt := (wt_t5 236 rfl rfl)
theorem sl_M_come : Cond.selects y_M_come.cls y_M_come y_M_come ∈ wt := (wt_t5 237 rfl rfl)
theorem l_L_36 : vMl "VillagePayLaw" 36 y_M_come 2 := ⟨(wt_t5 235 rfl rfl), im_M_come, sl_M_come, (wt_t1 14 rfl rfl), hy_M_come⟩
theorem hy_M_comeOf : y_M_comeOf.cls ≠ "java/lang/invoke/MethodHandle" ∧ y_M_comeOf.cls ≠ "java/lang/invoke/VarHandle" ∧ (parseMethodDescriptor y_M_comeOf.desc).map (fun d => d.parameters.length) = some 2 := vHy _ _ (by decide +kernel)
theorem im_M_comeOf : Cond.instanceMethod y_M_comeOf ∈ wt := (wt_t6 1 rfl rfl)
theorem sl_M_comeOf : Cond.selects y_M_comeOf.cls y_M_comeOf y_M_comeOf ∈ wt := wt_p (q := (y_M_comeOf, 26)) 45 (by decide +kernel)
theorem l_M_80 : vMl "VillagePayModel" 80 y_M_comeOf 2 := ⟨(wt_t5 239 rfl rfl), im_M_comeOf, sl_M_comeOf, (wt_t1 14 rfl rfl), hy_M_comeOf⟩
theorem hy_M_about : y_M_about.cls ≠ "java/lang/invoke/MethodHandle" ∧ y_M_about.cls ≠ "java/lang/invoke/VarHandle" ∧ (parseMethodDescriptor y_M_about.desc).map (fun d => d.parameters.length) = some 2 := vHy _ _ (by decide +kernel)
theorem im_M_about : Cond.instanceMethod y_M_about ∈ wt := (wt_t6 4 rfl rfl)
theorem sl_M_about : Cond.selects y_M_about.cls y_M_about y_M_about ∈ wt := (wt_t6 5 rfl rfl)
theorem l_L_40 : vMl "VillagePayLaw" 40 y_M_about 2 := ⟨(wt_t6 3 rfl rfl), im_M_about, sl_M_about, (wt_t1 14 rfl rfl), hy_M_about⟩
theorem hy_M_its : y_M_its.cls ≠ "java/lang/invoke/MethodHandle" ∧ y_M_its.cls ≠ "java/lang/invoke/VarHandle" ∧ (parseMethodDescriptor y_M_its.desc).map (fun d => d.parameters.length) = some 2 := vHy _ _ (by decide +kernel)
theorem im_M_its : Cond.instanceMethod y_M_its ∈ wt := (wt_t6 9 rfl rfl)
theorem sl_M_its : Cond.selects y_M_its.cls y_M_its y_M_its ∈ wt := wt_p (q := (y_M_its, 26)) 46 (by decide +kernel)
theorem l_M_83 : vMl "VillagePayModel" 83 y_M_its 2 := ⟨(wt_t6 7 rfl rfl), im_M_its, sl_M_its, (wt_t1 14 rfl rfl), hy_M_its⟩
theorem hy_M_held : y_M_held.cls ≠ "java/lang/invoke/MethodHandle" ∧ y_M_held.cls ≠ "java/lang/invoke/VarHandle" ∧ (parseMethodDescriptor y_M_held.desc).map (fun d => d.parameters.length) = some 3 := vHy _ _ (by decide +kernel)
theorem im_M_held : Cond.instanceMethod y_M_held ∈ wt := (wt_t6 13 rfl rfl)
theorem sl_M_held : Cond.selects y_M_held.cls y_M_held y_M_held ∈ wt := wt_p (q := (y_M_held, 26)) 47 (by decide +kernel)
theorem l_M_86 : vMl "VillagePayModel" 86 y_M_held 3 := ⟨(wt_t6 11 rfl rfl), im_M_held, sl_M_held, (wt_t1 14 rfl rfl), hy_M_held⟩
theorem hy_M_latest : y_M_latest.cls ≠ "java/lang/invoke/MethodHandle" ∧ y_M_latest.cls ≠ "java/lang/invoke/VarHandle" ∧ (parseMethodDescriptor y_M_latest.desc).map (fun d => d.parameters.length) = some 4 := vHy _ _ (by decide +kernel)
theorem im_M_latest : Cond.instanceMethod y_M_latest ∈ wt := (wt_t6 17 rfl rfl)
theorem sl_M_latest : Cond.selects y_M_latest.cls y_M_latest y_M_latest ∈ wt := wt_p (q := (y_M_latest, 26)) 48 (by decide +kernel)
theorem l_M_110 : vMl "VillagePayModel" 110 y_M_latest 4 := ⟨(wt_t6 15 rfl rfl), im_M_latest, sl_M_latest, (wt_t1 14 rfl rfl), hy_M_latest⟩
theorem hy_M_written : y_M_written.cls ≠ "java/lang/invoke/MethodHandle" ∧ y_M_written.cls ≠ "java/lang/invoke/VarHandle" ∧ (parseMethodDescriptor y_M_written.desc).map (fun d => d.parameters.length) = some 2 := vHy _ _ (by decide +kernel)
theorem im_M_written : Cond.instanceMethod y_M_written ∈ wt := (wt_t6 21 rfl rfl)
theorem sl_M_written : Cond.selects y_M_written.cls y_M_written y_M_written ∈ wt := wt_p (q := (y_M_written, 26)) 49 (by decide +kernel)
theorem l_M_107 : vMl "VillagePayModel" 107 y_M_written 2 := ⟨(wt_t6 19 rfl rfl), im_M_written, sl_M_written, (wt_t1 14 rfl rfl), hy_M_written⟩
theorem hy_M_serves : y_M_serves.cls ≠ "java/lang/invoke/MethodHandle" ∧ y_M_serves.cls ≠ "java/lang/invoke/VarHandle" ∧ (parseMethodDescriptor y_M_serves.desc).map (fun d => d.parameters.length) = some 2 := vHy _ _ (by decide +kernel)
theorem im_M_serves : Cond.instanceMethod y_M_serves ∈ wt := (wt_t6 25 rfl rfl)
theorem sl_M_serves : Cond.selects y_M_serves.cls y_M_serves y_M_serves ∈ wt := wt_p (q := (y_M_serves, 26)) 50 (by decide +kernel)
theorem l_M_113 : vMl "VillagePayModel" 113 y_M_serves 2 := ⟨(wt_t6 23 rfl rfl), im_M_serves, sl_M_serves, (wt_t1 14 rfl rfl), hy_M_serves⟩
theorem hy_M_officer0 : y_M_officer0.cls ≠ "java/lang/invoke/MethodHandle" ∧ y_M_officer0.cls ≠ "java/lang/invoke/VarHandle" ∧ (parseMethodDescriptor y_M_officer0.desc).map (fun d => d.parameters.length) = some 2 := vHy _ _ (by decide +kernel)
theorem im_M_officer0 : Cond.instanceMethod y_M_officer0 ∈ wt := (wt_t6 29 rfl rfl)
theorem sl_M_officer0 : Cond.selects y_M_officer0.cls y_M_officer0 y_M_officer0 ∈ wt := wt_p (q := (y_M_officer0, 26)) 51 (by decide +kernel)
theorem l_M_98 : vMl "VillagePayModel" 98 y_M_officer0 2 := ⟨(wt_t6 27 rfl rfl), im_M_officer0, sl_M_officer0, (wt_t1 14 rfl rfl), hy_M_officer0⟩
theorem hy_M_isOver : y_M_isOver.cls ≠ "java/lang/invoke/MethodHandle" ∧ y_M_isOver.cls ≠ "java/lang/invoke/VarHandle" ∧ (parseMethodDescriptor y_M_isOver.desc).map (fun d => d.parameters.length) = some 1 := vHy _ _ (by decide +kernel)
theorem im_M_isOver : Cond.instanceMethod y_M_isOver ∈ wt := (wt_t6 33 rfl rfl)
theorem sl_M_isOver : Cond.selects y_M_isOver.cls y_M_isOver y_M_isOver ∈ wt := wt_p (q := (y_M_isOver, 26)) 52 (by decide +kernel)
theorem l_M_90 : vMl "VillagePayModel" 90 y_M_isOver 1 := ⟨(wt_t6 31 rfl rfl), im_M_isOver, sl_M_isOver, (wt_t1 14 rfl rfl), hy_M_isOver⟩
theorem hy_M_scales : y_M_scales.cls ≠ "java/lang/invoke/MethodHandle" ∧ y_M_scales.cls ≠ "java/lang/invoke/VarHandle" ∧ (parseMethodDescriptor y_M_scales.desc).map (fun d => d.parameters.length) = some 3 := vHy _ _ (by decide +kernel)
theorem im_M_scales : Cond.instanceMethod y_M_scales ∈ wt := (wt_t6 37 rfl rfl)
theorem sl_M_scales : Cond.selects y_M_scales.cls y_M_scales y_M_scales ∈ wt := wt_p (q := (y_M_scales, 26)) 53 (by decide +kernel)
theorem l_M_94 : vMl "VillagePayModel" 94 y_M_scales 3 := ⟨(wt_t6 35 rfl rfl), im_M_scales, sl_M_scales, (wt_t1 14 rfl rfl), hy_M_scales⟩
theorem hy_M_reignOf : y_M_reignOf.cls ≠ "java/lang/invoke/MethodHandle" ∧ y_M_reignOf.cls ≠ "java/lang/invoke/VarHandle" ∧ (parseMethodDescriptor y_M_reignOf.desc).map (fun d => d.parameters.length) = some 1 := vHy _ _ (by decide +kernel)
theorem im_M_reignOf : Cond.instanceMethod y_M_reignOf ∈ wt := (wt_t6 41 rfl rfl)
theorem sl_M_reignOf : Cond.selects y_M_reignOf.cls y_M_reignOf y_M_reignOf ∈ wt := wt_p (q := (y_M_reignOf, 26)) 54 (by decide +kernel)
theorem l_M_238 : vMl "VillagePayModel" 238 y_M_reignOf 1 := ⟨(wt_t6 39 rfl rfl), im_M_reignOf, sl_M_reignOf, (wt_t1 14 rfl rfl), hy_M_reignOf⟩
theorem hy_M_holds : y_M_holds.cls ≠ "java/lang/invoke/MethodHandle" ∧ y_M_holds.cls ≠ "java/lang/invoke/VarHandle" ∧ (parseMethodDescriptor y_M_holds.desc).map (fun d => d.parameters.length) = some 4 := vHy _ _ (by decide +kernel)
theorem im_M_holds : Cond.instanceMethod y_M_holds ∈ wt := (wt_t6 45 rfl rfl)
theorem sl_M_holds : Cond.selects y_M_holds.cls y_M_holds y_M_holds ∈ wt := wt_p (q := (y_M_holds, 26)) 55 (by decide +kernel)
theorem l_M_241 : vMl "VillagePayModel" 241 y_M_holds 4 := ⟨(wt_t6 43 rfl rfl), im_M_holds, sl_M_holds, (wt_t1 14 rfl rfl), hy_M_holds⟩
theorem hy_M_asked : y_M_asked.cls ≠ "java/lang/invoke/MethodHandle" ∧ y_M_asked.cls ≠ "java/lang/invoke/VarHandle" ∧ (parseMethodDescriptor y_M_asked.desc).map (fun d => d.parameters.length) = some 4 := vHy _ _ (by decide +kernel)
theorem im_M_asked : Cond.instanceMethod y_M_asked ∈ wt := (wt_t6 49 rfl rfl)
theorem sl_M_asked : Cond.selects y_M_asked.cls y_M_asked y_M_asked ∈ wt := wt_p (q := (y_M_asked, 26)) 56 (by decide +kernel)
theorem l_M_235 : vMl "VillagePayModel" 235 y_M_asked 4 := ⟨(wt_t6 47 rfl rfl), im_M_asked, sl_M_asked, (wt_t1 14 rfl rfl), hy_M_asked⟩
theorem hy_M_isFamished : y_M_isFamished.cls ≠ "java/lang/invoke/MethodHandle" ∧ y_M_isFamished.cls ≠ "java/lang/invoke/VarHandle" ∧ (parseMethodDescriptor y_M_isFamished.desc).map (fun d => d.parameters.length) = some 3 := vHy _ _ (by decide +kernel)
theorem im_M_isFamished : Cond.instanceMethod y_M_isFamished ∈ wt := (wt_t6 53 rfl rfl)
theorem sl_M_isFamished : Cond.selects y_M_isFamished.cls y_M_isFamished y_M_isFamished ∈ wt := wt_p (q := (y_M_isFamished, 26)) 57 (by decide +kernel)
theorem l_M_232 : vMl "VillagePayModel" 232 y_M_isFamished 3 := ⟨(wt_t6 51 rfl rfl), im_M_isFamished, sl_M_isFamished, (wt_t1 14 rfl rfl), hy_M_isFamished⟩
theorem hy_M_isFamine : y_M_isFamine.cls ≠ "java/lang/invoke/MethodHandle" ∧ y_M_isFamine.cls ≠ "java/lang/invoke/VarHandle" ∧ (parseMethodDescriptor y_M_isFamine.desc).map (fun d => d.parameters.length) = some 3 := vHy _ _ (by decide +kernel)
theorem im_M_isFamine : Cond.instanceMethod y_M_isFamine ∈ wt := (wt_t6 57 rfl rfl)
theorem sl_M_isFamine : Cond.selects y_M_isFamine.cls y_M_isFamine y_M_isFamine ∈ wt := wt_p (q := (y_M_isFamine, 26)) 58 (by decide +kernel)
theorem l_M_229 : vMl "VillagePayModel" 229 y_M_isFamine 3 := ⟨(wt_t6 55 rfl rfl), im_M_isFamine, sl_M_isFamine, (wt_t1 14 rfl rfl), hy_M_isFamine⟩
theorem hy_M_last : y_M_last.cls ≠ "java/lang/invoke/MethodHandle" ∧ y_M_last.cls ≠ "java/lang/invoke/VarHandle" ∧ (parseMethodDescriptor y_M_last.desc).map (fun d => d.parameters.length) = some 4 := vHy _ _ (by decide +kernel)
theorem im_M_last : Cond.instanceMethod y_M_last ∈ wt := (wt_t6 61 rfl rfl)
theorem sl_M_last : Cond.selects y_M_last.cls y_M_last y_M_last ∈ wt := wt_p (q := (y_M_last, 26)) 59 (by decide +kernel)
theorem l_M_323 : vMl "VillagePayModel" 323 y_M_last 4 := ⟨(wt_t6 59 rfl rfl), im_M_last, sl_M_last, (wt_t1 14 rfl rfl), hy_M_last⟩
theorem hy_M_said : y_M_said.cls ≠ "java/lang/invoke/MethodHandle" ∧ y_M_said.cls ≠ "java/lang/invoke/VarHandle" ∧ (parseMethodDescriptor y_M_said.desc).map (fun d => d.parameters.length) = some 2 := vHy _ _ (by decide +kernel)
theorem im_M_said : Cond.instanceMethod y_M_said ∈ wt := (wt_t6 65 rfl rfl)
theorem sl_M_said : Cond.selects y_M_said.cls y_M_said y_M_said ∈ wt := wt_p (q := (y_M_said, 26)) 60 (by decide +kernel)
theorem l_M_311 : vMl "VillagePayModel" 311 y_M_said 2 := ⟨(wt_t6 63 rfl rfl), im_M_said, sl_M_said, (wt_t1 14 rfl rfl), hy_M_said⟩
theorem hy_M_rankOf : y_M_rankOf.cls ≠ "java/lang/invoke/MethodHandle" ∧ y_M_rankOf.cls ≠ "java/lang/invoke/VarHandle" ∧ (parseMethodDescriptor y_M_rankOf.desc).map (fun d => d.parameters.length) = some 3 := vHy _ _ (by decide +kernel)
theorem im_M_rankOf : Cond.instanceMethod y_M_rankOf ∈ wt := (wt_t6 69 rfl rfl)
theorem sl_M_rankOf : Cond.selects y_M_rankOf.cls y_M_rankOf y_M_rankOf ∈ wt := wt_p (q := (y_M_rankOf, 26)) 61 (by decide +kernel)
theorem l_M_119 : vMl "VillagePayModel" 119 y_M_rankOf 3 := ⟨(wt_t6 67 rfl rfl), im_M_rankOf, sl_M_rankOf, (wt_t1 14 rfl rfl), hy_M_rankOf⟩
theorem hy_M_does : y_M_does.cls ≠ "java/lang/invoke/MethodHandle" ∧ y_M_does.cls ≠ "java/lang/invoke/VarHandle" ∧ (parseMethodDescriptor y_M_does.desc).map (fun d => d.parameters.length) = some 2 := vHy _ _ (by decide +kernel)
theorem im_M_does : Cond.instanceMethod y_M_does ∈ wt := (wt_t6 73 rfl rfl)
theorem sl_M_does : Cond.selects y_M_does.cls y_M_does y_M_does ∈ wt := wt_p (q := (y_M_does, 26)) 62 (by decide +kernel)
theorem l_M_245 : vMl "VillagePayModel" 245 y_M_does 2 := ⟨(wt_t6 71 rfl rfl), im_M_does, sl_M_does, (wt_t1 14 rfl rfl), hy_M_does⟩
theorem hy_M_officer : y_M_officer.cls ≠ "java/lang/invoke/MethodHandle" ∧ y_M_officer.cls ≠ "java/lang/invoke/VarHandle" ∧ (parseMethodDescriptor y_M_officer.desc).map (fun d => d.parameters.length) = some 2 := vHy _ _ (by decide +kernel)
theorem im_M_officer : Cond.instanceMethod y_M_officer ∈ wt := (wt_t6 76 rfl rfl)
theorem sl_M_officer : Cond.selects y_M_officer.cls y_M_officer y_M_officer ∈ wt := (wt_t6 77 rfl rfl)
theorem l_L_44 : vMl "VillagePayLaw" 44 y_M_officer 2 := ⟨(wt_t6 75 rfl rfl), im_M_officer, sl_M_officer, (wt_t1 14 rfl rfl), hy_M_officer⟩
theorem hy_M_dies : y_M_dies.cls ≠ "java/lang/invoke/MethodHandle" ∧ y_M_dies.cls ≠ "java/lang/invoke/VarHandle" ∧ (parseMethodDescriptor y_M_dies.desc).map (fun d => d.parameters.length) = some 1 := vHy _ _ (by decide +kernel)
theorem im_M_dies : Cond.instanceMethod y_M_dies ∈ wt := (wt_t6 80 rfl rfl)
theorem sl_M_dies : Cond.selects y_M_dies.cls y_M_dies y_M_dies ∈ wt := (wt_t6 81 rfl rfl)
theorem l_L_49 : vMl "VillagePayLaw" 49 y_M_dies 1 := ⟨(wt_t6 79 rfl rfl), im_M_dies, sl_M_dies, (wt_t1 14 rfl rfl), hy_M_dies⟩
theorem hy_M_give : y_M_give.cls ≠ "java/lang/invoke/MethodHandle" ∧ y_M_give.cls ≠ "java/lang/invoke/VarHandle" ∧ (parseMethodDescriptor y_M_give.desc).map (fun d => d.parameters.length) = some 3 := vHy _ _ (by decide +kernel)
theorem im_M_give : Cond.instanceMethod y_M_give ∈ wt := (wt_t6 84 rfl rfl)
theorem sl_M_give : Cond.selects y_M_give.cls y_M_give y_M_give ∈ wt := (wt_t6 85 rfl rfl)
theorem l_L_53 : vMl "VillagePayLaw" 53 y_M_give 3 := ⟨(wt_t6 83 rfl rfl), im_M_give, sl_M_give, (wt_t1 14 rfl rfl), hy_M_give⟩
theorem hy_M_isDay : y_M_isDay.cls ≠ "java/lang/invoke/MethodHandle" ∧ y_M_isDay.cls ≠ "java/lang/invoke/VarHandle" ∧ (parseMethodDescriptor y_M_isDay.desc).map (fun d => d.parameters.length) = some 1 := vHy _ _ (by decide +kernel)
theorem st_M_isDay : Cond.static y_M_isDay ∈ wt := (wt_t6 88 rfl rfl)
theorem l_M_101 : vSl "VillagePayModel" 101 y_M_isDay 1 := ⟨(wt_t6 87 rfl rfl), st_M_isDay, (wt_t1 14 rfl rfl), hy_M_isDay⟩
theorem hy_M_orders : y_M_orders.cls ≠ "java/lang/invoke/MethodHandle" ∧ y_M_orders.cls ≠ "java/lang/invoke/VarHandle" ∧ (parseMethodDescriptor y_M_orders.desc).map (fun d => d.parameters.length) = some 4 := vHy _ _ (by decide +kernel)
theorem im_M_orders : Cond.instanceMethod y_M_orders ∈ wt := (wt_t6 92 rfl rfl)
theorem sl_M_orders : Cond.selects y_M_orders.cls y_M_orders y_M_orders ∈ wt := wt_p (q := (y_M_orders, 26)) 63 (by decide +kernel)
theorem l_M_104 : vMl "VillagePayModel" 104 y_M_orders 4 := ⟨(wt_t6 90 rfl rfl), im_M_orders, sl_M_orders, (wt_t1 14 rfl rfl), hy_M_orders⟩
theorem hy_M_raise : y_M_raise.cls ≠ "java/lang/invoke/MethodHandle" ∧ y_M_raise.cls ≠ "java/lang/invoke/VarHandle" ∧ (parseMethodDescriptor y_M_raise.desc).map (fun d => d.parameters.length) = some 3 := vHy _ _ (by decide +kernel)
theorem im_M_raise : Cond.instanceMethod y_M_raise ∈ wt := (wt_t6 95 rfl rfl)
theorem sl_M_raise : Cond.selects y_M_raise.cls y_M_raise y_M_raise ∈ wt := (wt_t6 96 rfl rfl)
theorem l_L_57 : vMl "VillagePayLaw" 57 y_M_raise 3 := ⟨(wt_t6 94 rfl rfl), im_M_raise, sl_M_raise, (wt_t1 14 rfl rfl), hy_M_raise⟩
theorem hy_M_order : y_M_order.cls ≠ "java/lang/invoke/MethodHandle" ∧ y_M_order.cls ≠ "java/lang/invoke/VarHandle" ∧ (parseMethodDescriptor y_M_order.desc).map (fun d => d.parameters.length) = some 2 := vHy _ _ (by decide +kernel)
theorem im_M_order : Cond.instanceMethod y_M_order ∈ wt := (wt_t6 99 rfl rfl)
theorem sl_M_order : Cond.selects y_M_order.cls y_M_order y_M_order ∈ wt := (wt_t6 100 rfl rfl)
theorem l_L_61 : vMl "VillagePayLaw" 61 y_M_order 2 := ⟨(wt_t6 98 rfl rfl), im_M_order, sl_M_order, (wt_t1 14 rfl rfl), hy_M_order⟩
theorem hy_M_holder : y_M_holder.cls ≠ "java/lang/invoke/MethodHandle" ∧ y_M_holder.cls ≠ "java/lang/invoke/VarHandle" ∧ (parseMethodDescriptor y_M_holder.desc).map (fun d => d.parameters.length) = some 3 := vHy _ _ (by decide +kernel)
theorem im_M_holder : Cond.instanceMethod y_M_holder ∈ wt := (wt_t6 103 rfl rfl)
theorem sl_M_holder : Cond.selects y_M_holder.cls y_M_holder y_M_holder ∈ wt := (wt_t6 104 rfl rfl)
theorem l_L_65 : vMl "VillagePayLaw" 65 y_M_holder 3 := ⟨(wt_t6 102 rfl rfl), im_M_holder, sl_M_holder, (wt_t1 14 rfl rfl), hy_M_holder⟩
theorem hy_M_isKnown : y_M_isKnown.cls ≠ "java/lang/invoke/MethodHandle" ∧ y_M_isKnown.cls ≠ "java/lang/invoke/VarHandle" ∧ (parseMethodDescriptor y_M_isKnown.desc).map (fun d => d.parameters.length) = some 1 := vHy _ _ (by decide +kernel)
theorem im_M_isKnown : Cond.instanceMethod y_M_isKnown ∈ wt := (wt_t6 108 rfl rfl)
theorem sl_M_isKnown : Cond.selects y_M_isKnown.cls y_M_isKnown y_M_isKnown ∈ wt := wt_p (q := (y_M_isKnown, 26)) 64 (by decide +kernel)
theorem l_M_116 : vMl "VillagePayModel" 116 y_M_isKnown 1 := ⟨(wt_t6 106 rfl rfl), im_M_isKnown, sl_M_isKnown, (wt_t1 14 rfl rfl), hy_M_isKnown⟩
theorem hy_M_rank : y_M_rank.cls ≠ "java/lang/invoke/MethodHandle" ∧ y_M_rank.cls ≠ "java/lang/invoke/VarHandle" ∧ (parseMethodDescriptor y_M_rank.desc).map (fun d => d.parameters.length) = some 3 := vHy _ _ (by decide +kernel)
theorem im_M_rank : Cond.instanceMethod y_M_rank ∈ wt := (wt_t6 111 rfl rfl)
theorem sl_M_rank : Cond.selects y_M_rank.cls y_M_rank y_M_rank ∈ wt := (wt_t6 112 rfl rfl)
theorem l_L_69 : vMl "VillagePayLaw" 69 y_M_rank 3 := ⟨(wt_t6 110 rfl rfl), im_M_rank, sl_M_rank, (wt_t1 14 rfl rfl), hy_M_rank⟩
theorem hy_M_had : y_M_had.cls ≠ "java/lang/invoke/MethodHandle" ∧ y_M_had.cls ≠ "java/lang/invoke/VarHandle" ∧ (parseMethodDescriptor y_M_had.desc).map (fun d => d.parameters.length) = some 3 := vHy _ _ (by decide +kernel)
theorem im_M_had : Cond.instanceMethod y_M_had ∈ wt := (wt_t6 115 rfl rfl)
theorem sl_M_had : Cond.selects y_M_had.cls y_M_had y_M_had ∈ wt := (wt_t6 116 rfl rfl)
theorem l_L_73 : vMl "VillagePayLaw" 73 y_M_had 3 := ⟨(wt_t6 114 rfl rfl), im_M_had, sl_M_had, (wt_t1 14 rfl rfl), hy_M_had⟩
theorem hy_M_hadOf : y_M_hadOf.cls ≠ "java/lang/invoke/MethodHandle" ∧ y_M_hadOf.cls ≠ "java/lang/invoke/VarHandle" ∧ (parseMethodDescriptor y_M_hadOf.desc).map (fun d => d.parameters.length) = some 3 := vHy _ _ (by decide +kernel)
theorem im_M_hadOf : Cond.instanceMethod y_M_hadOf ∈ wt := (wt_t6 120 rfl rfl)
theorem sl_M_hadOf : Cond.selects y_M_hadOf.cls y_M_hadOf y_M_hadOf ∈ wt := wt_p (q := (y_M_hadOf, 26)) 65 (by decide +kernel)
theorem l_M_128 : vMl "VillagePayModel" 128 y_M_hadOf 3 := ⟨(wt_t6 118 rfl rfl), im_M_hadOf, sl_M_hadOf, (wt_t1 14 rfl rfl), hy_M_hadOf⟩
theorem hy_M_changes : y_M_changes.cls ≠ "java/lang/invoke/MethodHandle" ∧ y_M_changes.cls ≠ "java/lang/invoke/VarHandle" ∧ (parseMethodDescriptor y_M_changes.desc).map (fun d => d.parameters.length) = some 2 := vHy _ _ (by decide +kernel)
theorem im_M_changes : Cond.instanceMethod y_M_changes ∈ wt := (wt_t6 124 rfl rfl)
theorem sl_M_changes : Cond.selects y_M_changes.cls y_M_changes y_M_changes ∈ wt := wt_p (q := (y_M_changes, 26)) 66 (by decide +kernel)
theorem l_M_122 : vMl "VillagePayModel" 122 y_M_changes 2 := ⟨(wt_t6 122 rfl rfl), im_M_changes, sl_M_changes, (wt_t1 14 rfl rfl), hy_M_changes⟩
theorem hy_M_bitsOf : y_M_bitsOf.cls ≠ "java/lang/invoke/MethodHandle" ∧ y_M_bitsOf.cls ≠ "java/lang/invoke/VarHandle" ∧ (parseMethodDescriptor y_M_bitsOf.desc).map (fun d => d.parameters.length) = some 3 := vHy _ _ (by decide +kernel)
theorem im_M_bitsOf : Cond.instanceMethod y_M_bitsOf ∈ wt := (wt_t6 128 rfl rfl)
theorem sl_M_bitsOf : Cond.selects y_M_bitsOf.cls y_M_bitsOf y_M_bitsOf ∈ wt := wt_p (q := (y_M_bitsOf, 26)) 67 (by decide +kernel)
theorem l_M_125 : vMl "VillagePayModel" 125 y_M_bitsOf 3 := ⟨(wt_t6 126 rfl rfl), im_M_bitsOf, sl_M_bitsOf, (wt_t1 14 rfl rfl), hy_M_bitsOf⟩
theorem hy_M_feed : y_M_feed.cls ≠ "java/lang/invoke/MethodHandle" ∧ y_M_feed.cls ≠ "java/lang/invoke/VarHandle" ∧ (parseMethodDescriptor y_M_feed.desc).map (fun d => d.parameters.length) = some 5 := vHy _ _ (by decide +kernel)
theorem im_M_feed : Cond.instanceMethod y_M_feed ∈ wt := (wt_t6 131 rfl rfl)
theorem sl_M_feed : Cond.selects y_M_feed.cls y_M_feed y_M_feed ∈ wt := (wt_t6 132 rfl rfl)
theorem l_L_78 : vMl "VillagePayLaw" 78 y_M_feed 5 := ⟨(wt_t6 130 rfl rfl), im_M_feed, sl_M_feed, (wt_t1 14 rfl rfl), hy_M_feed⟩
theorem hy_M_end : y_M_end.cls ≠ "java/lang/invoke/MethodHandle" ∧ y_M_end.cls ≠ "java/lang/invoke/VarHandle" ∧ (parseMethodDescriptor y_M_end.desc).map (fun d => d.parameters.length) = some 1 := vHy _ _ (by decide +kernel)
theorem im_M_end : Cond.instanceMethod y_M_end ∈ wt := (wt_t6 135 rfl rfl)
theorem sl_M_end : Cond.selects y_M_end.cls y_M_end y_M_end ∈ wt := (wt_t6 136 rfl rfl)
theorem l_L_82 : vMl "VillagePayLaw" 82 y_M_end 1 := ⟨(wt_t6 134 rfl rfl), im_M_end, sl_M_end, (wt_t1 14 rfl rfl), hy_M_end⟩
theorem hy_M_reign : y_M_reign.cls ≠ "java/lang/invoke/MethodHandle" ∧ y_M_reign.cls ≠ "java/lang/invoke/VarHandle" ∧ (parseMethodDescriptor y_M_reign.desc).map (fun d => d.parameters.length) = some 1 := vHy _ _ (by decide +kernel)
theorem im_M_reign : Cond.instanceMethod y_M_reign ∈ wt := (wt_t6 139 rfl rfl)
theorem sl_M_reign : Cond.selects y_M_reign.cls y_M_reign y_M_reign ∈ wt := (wt_t6 140 rfl rfl)
theorem l_L_86 : vMl "VillagePayLaw" 86 y_M_reign 1 := ⟨(wt_t6 138 rfl rfl), im_M_reign, sl_M_reign, (wt_t1 14 rfl rfl), hy_M_reign⟩
theorem hy_M_advance : y_M_advance.cls ≠ "java/lang/invoke/MethodHandle" ∧ y_M_advance.cls ≠ "java/lang/invoke/VarHandle" ∧ (parseMethodDescriptor y_M_advance.desc).map (fun d => d.parameters.length) = some 0 := vHy _ _ (by decide +kernel)
theorem im_M_advance : Cond.instanceMethod y_M_advance ∈ wt := (wt_t6 144 rfl rfl)
theorem sl_M_advance : Cond.selects y_M_advance.cls y_M_advance y_M_advance ∈ wt := wt_p (q := (y_M_advance, 26)) 68 (by decide +kernel)
theorem l_M_195 : vMl "VillagePayModel" 195 y_M_advance 0 := ⟨(wt_t6 142 rfl rfl), im_M_advance, sl_M_advance, (wt_t1 14 rfl rfl), hy_M_advance⟩
theorem hy_M_byteAt : y_M_byteAt.cls ≠ "java/lang/invoke/MethodHandle" ∧ y_M_byteAt.cls ≠ "java/lang/invoke/VarHandle" ∧ (parseMethodDescriptor y_M_byteAt.desc).map (fun d => d.parameters.length) = some 1 := vHy _ _ (by decide +kernel)
theorem im_M_byteAt : Cond.instanceMethod y_M_byteAt ∈ wt := (wt_t6 148 rfl rfl)
theorem sl_M_byteAt : Cond.selects y_M_byteAt.cls y_M_byteAt y_M_byteAt ∈ wt := wt_p (q := (y_M_byteAt, 26)) 69 (by decide +kernel)
theorem l_M_160 : vMl "VillagePayModel" 160 y_M_byteAt 1 := ⟨(wt_t6 146 rfl rfl), im_M_byteAt, sl_M_byteAt, (wt_t1 14 rfl rfl), hy_M_byteAt⟩
theorem hy_M_isLetter : y_M_isLetter.cls ≠ "java/lang/invoke/MethodHandle" ∧ y_M_isLetter.cls ≠ "java/lang/invoke/VarHandle" ∧ (parseMethodDescriptor y_M_isLetter.desc).map (fun d => d.parameters.length) = some 1 := vHy _ _ (by decide +kernel)
theorem st_M_isLetter : Cond.static y_M_isLetter ∈ wt := (wt_t6 151 rfl rfl)
theorem l_M_170 : vSl "VillagePayModel" 170 y_M_isLetter 1 := ⟨(wt_t6 150 rfl rfl), st_M_isLetter, (wt_t1 14 rfl rfl), hy_M_isLetter⟩
theorem hy_M_wordOf : y_M_wordOf.cls ≠ "java/lang/invoke/MethodHandle" ∧ y_M_wordOf.cls ≠ "java/lang/invoke/VarHandle" ∧ (parseMethodDescriptor y_M_wordOf.desc).map (fun d => d.parameters.length) = some 1 := vHy _ _ (by decide +kernel)
theorem st_M_wordOf : Cond.static y_M_wordOf ∈ wt := (wt_t6 156 rfl rfl)
theorem l_M_173 : vSl "VillagePayModel" 173 y_M_wordOf 1 := ⟨(wt_t6 155 rfl rfl), st_M_wordOf, (wt_t1 14 rfl rfl), hy_M_wordOf⟩
theorem hy_M_three : y_M_three.cls ≠ "java/lang/invoke/MethodHandle" ∧ y_M_three.cls ≠ "java/lang/invoke/VarHandle" ∧ (parseMethodDescriptor y_M_three.desc).map (fun d => d.parameters.length) = some 3 := vHy _ _ (by decide +kernel)
theorem st_M_three : Cond.static y_M_three ∈ wt := (wt_t6 159 rfl rfl)
theorem l_M_139 : vSl "VillagePayModel" 139 y_M_three 3 := ⟨(wt_t6 158 rfl rfl), st_M_three, (wt_t1 14 rfl rfl), hy_M_three⟩
theorem hy_M_four : y_M_four.cls ≠ "java/lang/invoke/MethodHandle" ∧ y_M_four.cls ≠ "java/lang/invoke/VarHandle" ∧ (parseMethodDescriptor y_M_four.desc).map (fun d => d.parameters.length) = some 4 := vHy _ _ (by decide +kernel)
theorem st_M_four : Cond.static y_M_four ∈ wt := (wt_t6 162 rfl rfl)
theorem l_M_145 : vSl "VillagePayModel" 145 y_M_four 4 := ⟨(wt_t6 161 rfl rfl), st_M_four, (wt_t1 14 rfl rfl), hy_M_four⟩
theorem hy_M_askedOf : y_M_askedOf.cls ≠ "java/lang/invoke/MethodHandle" ∧ y_M_askedOf.cls ≠ "java/lang/invoke/VarHandle" ∧ (parseMethodDescriptor y_M_askedOf.desc).map (fun d => d.parameters.length) = some 1 := vHy _ _ (by decide +kernel)
theorem st_M_askedOf : Cond.static y_M_askedOf ∈ wt := (wt_t6 168 rfl rfl)
theorem l_M_153 : vSl "VillagePayModel" 153 y_M_askedOf 1 := ⟨(wt_t6 167 rfl rfl), st_M_askedOf, (wt_t1 14 rfl rfl), hy_M_askedOf⟩
theorem hy_M_isDigit : y_M_isDigit.cls ≠ "java/lang/invoke/MethodHandle" ∧ y_M_isDigit.cls ≠ "java/lang/invoke/VarHandle" ∧ (parseMethodDescriptor y_M_isDigit.desc).map (fun d => d.parameters.length) = some 1 := vHy _ _ (by decide +kernel)
theorem st_M_isDigit : Cond.static y_M_isDigit ∈ wt := (wt_t6 171 rfl rfl)
theorem l_M_179 : vSl "VillagePayModel" 179 y_M_isDigit 1 := ⟨(wt_t6 170 rfl rfl), st_M_isDigit, (wt_t1 14 rfl rfl), hy_M_isDigit⟩
theorem hy_M_isSignByte : y_M_isSignByte.cls ≠ "java/lang/invoke/MethodHandle" ∧ y_M_isSignByte.cls ≠ "java/lang/invoke/VarHandle" ∧ (parseMethodDescriptor y_M_isSignByte.desc).map (fun d => d.parameters.length) = some 1 := vHy _ _ (by decide +kernel)
theorem st_M_isSignByte : Cond.static y_M_isSignByte ∈ wt := (wt_t6 174 rfl rfl)
theorem l_M_188 : vSl "VillagePayModel" 188 y_M_isSignByte 1 := ⟨(wt_t6 173 rfl rfl), st_M_isSignByte, (wt_t1 14 rfl rfl), hy_M_isSignByte⟩
theorem hy_M_aLine : y_M_aLine.cls ≠ "java/lang/invoke/MethodHandle" ∧ y_M_aLine.cls ≠ "java/lang/invoke/VarHandle" ∧ (parseMethodDescriptor y_M_aLine.desc).map (fun d => d.parameters.length) = some 0 := vHy _ _ (by decide +kernel)
theorem im_M_aLine : Cond.instanceMethod y_M_aLine ∈ wt := (wt_t6 178 rfl rfl)
theorem sl_M_aLine : Cond.selects y_M_aLine.cls y_M_aLine y_M_aLine ∈ wt := wt_p (q := (y_M_aLine, 26)) 70 (by decide +kernel)
theorem l_M_226 : vMl "VillagePayModel" 226 y_M_aLine 0 := ⟨(wt_t6 176 rfl rfl), im_M_aLine, sl_M_aLine, (wt_t1 14 rfl rfl), hy_M_aLine⟩
theorem hy_M_also : y_M_also.cls ≠ "java/lang/invoke/MethodHandle" ∧ y_M_also.cls ≠ "java/lang/invoke/VarHandle" ∧ (parseMethodDescriptor y_M_also.desc).map (fun d => d.parameters.length) = some 2 := vHy _ _ (by decide +kernel)
theorem im_M_also : Cond.instanceMethod y_M_also ∈ wt := (wt_t6 182 rfl rfl)
theorem sl_M_also : Cond.selects y_M_also.cls y_M_also y_M_also ∈ wt := wt_p (q := (y_M_also, 26)) 71 (by decide +kernel)
theorem l_M_210 : vMl "VillagePayModel" 210 y_M_also 2 := ⟨(wt_t6 180 rfl rfl), im_M_also, sl_M_also, (wt_t1 14 rfl rfl), hy_M_also⟩
theorem hy_M_takes : y_M_takes.cls ≠ "java/lang/invoke/MethodHandle" ∧ y_M_takes.cls ≠ "java/lang/invoke/VarHandle" ∧ (parseMethodDescriptor y_M_takes.desc).map (fun d => d.parameters.length) = some 1 := vHy _ _ (by decide +kernel)
theorem im_M_takes : Cond.instanceMethod y_M_takes ∈ wt := (wt_t6 186 rfl rfl)
theorem sl_M_takes : Cond.selects y_M_takes.cls y_M_takes y_M_takes ∈ wt := wt_p (q := (y_M_takes, 26)) 72 (by decide +kernel)
theorem l_M_201 : vMl "VillagePayModel" 201 y_M_takes 1 := ⟨(wt_t6 184 rfl rfl), im_M_takes, sl_M_takes, (wt_t1 14 rfl rfl), hy_M_takes⟩
theorem hy_M_aTest : y_M_aTest.cls ≠ "java/lang/invoke/MethodHandle" ∧ y_M_aTest.cls ≠ "java/lang/invoke/VarHandle" ∧ (parseMethodDescriptor y_M_aTest.desc).map (fun d => d.parameters.length) = some 0 := vHy _ _ (by decide +kernel)
theorem im_M_aTest : Cond.instanceMethod y_M_aTest ∈ wt := (wt_t6 190 rfl rfl)
theorem sl_M_aTest : Cond.selects y_M_aTest.cls y_M_aTest y_M_aTest ∈ wt := wt_p (q := (y_M_aTest, 26)) 73 (by decide +kernel)
theorem l_M_214 : vMl "VillagePayModel" 214 y_M_aTest 0 := ⟨(wt_t6 188 rfl rfl), im_M_aTest, sl_M_aTest, (wt_t1 14 rfl rfl), hy_M_aTest⟩
theorem hy_M_stops : y_M_stops.cls ≠ "java/lang/invoke/MethodHandle" ∧ y_M_stops.cls ≠ "java/lang/invoke/VarHandle" ∧ (parseMethodDescriptor y_M_stops.desc).map (fun d => d.parameters.length) = some 0 := vHy _ _ (by decide +kernel)
theorem im_M_stops : Cond.instanceMethod y_M_stops ∈ wt := (wt_t6 194 rfl rfl)
theorem sl_M_stops : Cond.selects y_M_stops.cls y_M_stops y_M_stops ∈ wt := wt_p (q := (y_M_stops, 26)) 74 (by decide +kernel)
theorem l_M_198 : vMl "VillagePayModel" 198 y_M_stops 0 := ⟨(wt_t6 192 rfl rfl), im_M_stops, sl_M_stops, (wt_t1 14 rfl rfl), hy_M_stops⟩
theorem hy_M_numbered : y_M_numbered.cls ≠ "java/lang/invoke/MethodHandle" ∧ y_M_numbered.cls ≠ "java/lang/invoke/VarHandle" ∧ (parseMethodDescriptor y_M_numbered.desc).map (fun d => d.parameters.length) = some 0 := vHy _ _ (by decide +kernel)
theorem im_M_numbered : Cond.instanceMethod y_M_numbered ∈ wt := (wt_t6 198 rfl rfl)
theorem sl_M_numbered : Cond.selects y_M_numbered.cls y_M_numbered y_M_numbered ∈ wt := wt_p (q := (y_M_numbered, 26)) 75 (by decide +kernel)
theorem l_M_204 : vMl "VillagePayModel" 204 y_M_numbered 0 := ⟨(wt_t6 196 rfl rfl), im_M_numbered, sl_M_numbered, (wt_t1 14 rfl rfl), hy_M_numbered⟩
theorem hy_M_puts : y_M_puts.cls ≠ "java/lang/invoke/MethodHandle" ∧ y_M_puts.cls ≠ "java/lang/invoke/VarHandle" ∧ (parseMethodDescriptor y_M_puts.desc).map (fun d => d.parameters.length) = some 2 := vHy _ _ (by decide +kernel)
theorem im_M_puts : Cond.instanceMethod y_M_puts ∈ wt := (wt_t6 202 rfl rfl)
theorem sl_M_puts : Cond.selects y_M_puts.cls y_M_puts y_M_puts ∈ wt := wt_p (q := (y_M_puts, 26)) 76 (by decide +kernel)
theorem l_M_217 : vMl "VillagePayModel" 217 y_M_puts 2 := ⟨(wt_t6 200 rfl rfl), im_M_puts, sl_M_puts, (wt_t1 14 rfl rfl), hy_M_puts⟩
theorem hy_M_must : y_M_must.cls ≠ "java/lang/invoke/MethodHandle" ∧ y_M_must.cls ≠ "java/lang/invoke/VarHandle" ∧ (parseMethodDescriptor y_M_must.desc).map (fun d => d.parameters.length) = some 1 := vHy _ _ (by decide +kernel)
theorem im_M_must : Cond.instanceMethod y_M_must ∈ wt := (wt_t6 206 rfl rfl)
theorem sl_M_must : Cond.selects y_M_must.cls y_M_must y_M_must ∈ wt := wt_p (q := (y_M_must, 26)) 77 (by decide +kernel)
theorem l_M_220 : vMl "VillagePayModel" 220 y_M_must 1 := ⟨(wt_t6 204 rfl rfl), im_M_must, sl_M_must, (wt_t1 14 rfl rfl), hy_M_must⟩
theorem hy_M_mayBe : y_M_mayBe.cls ≠ "java/lang/invoke/MethodHandle" ∧ y_M_mayBe.cls ≠ "java/lang/invoke/VarHandle" ∧ (parseMethodDescriptor y_M_mayBe.desc).map (fun d => d.parameters.length) = some 2 := vHy _ _ (by decide +kernel)
theorem st_M_mayBe : Cond.static y_M_mayBe ∈ wt := (wt_t6 209 rfl rfl)
theorem l_M_223 : vSl "VillagePayModel" 223 y_M_mayBe 2 := ⟨(wt_t6 208 rfl rfl), st_M_mayBe, (wt_t1 14 rfl rfl), hy_M_mayBe⟩
theorem hy_M_fault : y_M_fault.cls ≠ "java/lang/invoke/MethodHandle" ∧ y_M_fault.cls ≠ "java/lang/invoke/VarHandle" ∧ (parseMethodDescriptor y_M_fault.desc).map (fun d => d.parameters.length) = some 1 := vHy _ _ (by decide +kernel)
theorem im_M_fault : Cond.instanceMethod y_M_fault ∈ wt := (wt_t6 212 rfl rfl)
theorem sl_M_fault : Cond.selects y_M_fault.cls y_M_fault y_M_fault ∈ wt := (wt_t6 213 rfl rfl)
theorem l_L_90 : vMl "VillagePayLaw" 90 y_M_fault 1 := ⟨(wt_t6 211 rfl rfl), im_M_fault, sl_M_fault, (wt_t1 14 rfl rfl), hy_M_fault⟩
theorem hy_M_scale : y_M_scale.cls ≠ "java/lang/invoke/MethodHandle" ∧ y_M_scale.cls ≠ "java/lang/invoke/VarHandle" ∧ (parseMethodDescriptor y_M_scale.desc).map (fun d => d.parameters.length) = some 4 := vHy _ _ (by decide +kernel)
theorem im_M_scale : Cond.instanceMethod y_M_scale ∈ wt := (wt_t6 216 rfl rfl)
theorem sl_M_scale : Cond.selects y_M_scale.cls y_M_scale y_M_scale ∈ wt := (wt_t6 217 rfl rfl)
theorem l_L_95 : vMl "VillagePayLaw" 95 y_M_scale 4 := ⟨(wt_t6 215 rfl rfl), im_M_scale, sl_M_scale, (wt_t1 14 rfl rfl), hy_M_scale⟩
theorem hy_M_due : y_M_due.cls ≠ "java/lang/invoke/MethodHandle" ∧ y_M_due.cls ≠ "java/lang/invoke/VarHandle" ∧ (parseMethodDescriptor y_M_due.desc).map (fun d => d.parameters.length) = some 3 := vHy _ _ (by decide +kernel)
theorem im_M_due : Cond.instanceMethod y_M_due ∈ wt := (wt_t6 220 rfl rfl)
theorem sl_M_due : Cond.selects y_M_due.cls y_M_due y_M_due ∈ wt := (wt_t6 221 rfl rfl)
theorem l_L_99 : vMl "VillagePayLaw" 99 y_M_due 3 := ⟨(wt_t6 219 rfl rfl), im_M_due, sl_M_due, (wt_t1 14 rfl rfl), hy_M_due⟩
theorem hy_M_isSeason : y_M_isSeason.cls ≠ "java/lang/invoke/MethodHandle" ∧ y_M_isSeason.cls ≠ "java/lang/invoke/VarHandle" ∧ (parseMethodDescriptor y_M_isSeason.desc).map (fun d => d.parameters.length) = some 1 := vHy _ _ (by decide +kernel)
theorem st_M_isSeason : Cond.static y_M_isSeason ∈ wt := (wt_t6 224 rfl rfl)
theorem l_M_248 : vSl "VillagePayModel" 248 y_M_isSeason 1 := ⟨(wt_t6 223 rfl rfl), st_M_isSeason, (wt_t1 14 rfl rfl), hy_M_isSeason⟩
theorem hy_M_dueOf : y_M_dueOf.cls ≠ "java/lang/invoke/MethodHandle" ∧ y_M_dueOf.cls ≠ "java/lang/invoke/VarHandle" ∧ (parseMethodDescriptor y_M_dueOf.desc).map (fun d => d.parameters.length) = some 3 := vHy _ _ (by decide +kernel)
theorem im_M_dueOf : Cond.instanceMethod y_M_dueOf ∈ wt := (wt_t6 228 rfl rfl)
theorem sl_M_dueOf : Cond.selects y_M_dueOf.cls y_M_dueOf y_M_dueOf ∈ wt := wt_p (q := (y_M_dueOf, 26)) 78 (by decide +kernel)
theorem l_M_251 : vMl "VillagePayModel" 251 y_M_dueOf 3 := ⟨(wt_t6 226 rfl rfl), im_M_dueOf, sl_M_dueOf, (wt_t1 14 rfl rfl), hy_M_dueOf⟩
theorem hy_M_balance : y_M_balance.cls ≠ "java/lang/invoke/MethodHandle" ∧ y_M_balance.cls ≠ "java/lang/invoke/VarHandle" ∧ (parseMethodDescriptor y_M_balance.desc).map (fun d => d.parameters.length) = some 3 := vHy _ _ (by decide +kernel)
theorem im_M_balance : Cond.instanceMethod y_M_balance ∈ wt := (wt_t6 231 rfl rfl)
theorem sl_M_balance : Cond.selects y_M_balance.cls y_M_balance y_M_balance ∈ wt := (wt_t6 232 rfl rfl)
theorem l_L_103 : vMl "VillagePayLaw" 103 y_M_balance 3 := ⟨(wt_t6 230 rfl rfl), im_M_balance, sl_M_balance, (wt_t1 14 rfl rfl), hy_M_balance⟩
theorem hy_M_near : y_M_near.cls ≠ "java/lang/invoke/MethodHandle" ∧ y_M_near.cls ≠ "java/lang/invoke/VarHandle" ∧ (parseMethodDescriptor y_M_near.desc).map (fun d => d.parameters.length) = some 1 := vHy _ _ (by decide +kernel)
theorem im_M_near : Cond.instanceMethod y_M_near ∈ wt := (wt_t6 236 rfl rfl)
theorem sl_M_near : Cond.selects y_M_near.cls y_M_near y_M_near ∈ wt := (wt_t6 237 rfl rfl)
theorem l_L_111 : vMl "VillagePayLaw" 111 y_M_near 1 := ⟨(wt_t6 235 rfl rfl), im_M_near, sl_M_near, (wt_t1 14 rfl rfl), hy_M_near⟩
theorem hy_M_far : y_M_far.cls ≠ "java/lang/invoke/MethodHandle" ∧ y_M_far.cls ≠ "java/lang/invoke/VarHandle" ∧ (parseMethodDescriptor y_M_far.desc).map (fun d => d.parameters.length) = some 2 := vHy _ _ (by decide +kernel)
theorem st_M_far : Cond.static y_M_far ∈ wt := (wt_t7 0 rfl rfl)
theorem l_M_255 : vSl "VillagePayModel" 255 y_M_far 2 := ⟨(wt_t6 239 rfl rfl), st_M_far, (wt_t1 14 rfl rfl), hy_M_far⟩
theorem hy_M_fit : y_M_fit.cls ≠ "java/lang/invoke/MethodHandle" ∧ y_M_fit.cls ≠ "java/lang/invoke/VarHandle" ∧ (parseMethodDescriptor y_M_fit.desc).map (fun d => d.parameters.length) = some 2 := vHy _ _ (by decide +kernel)
theorem im_M_fit : Cond.instanceMethod y_M_fit ∈ wt := (wt_t7 3 rfl rfl)
theorem sl_M_fit : Cond.selects y_M_fit.cls y_M_fit y_M_fit ∈ wt := (wt_t7 4 rfl rfl)
theorem l_L_107 : vMl "VillagePayLaw" 107 y_M_fit 2 := ⟨(wt_t7 2 rfl rfl), im_M_fit, sl_M_fit, (wt_t1 14 rfl rfl), hy_M_fit⟩
theorem hy_M_servesNow : y_M_servesNow.cls ≠ "java/lang/invoke/MethodHandle" ∧ y_M_servesNow.cls ≠ "java/lang/invoke/VarHandle" ∧ (parseMethodDescriptor y_M_servesNow.desc).map (fun d => d.parameters.length) = some 1 := vHy _ _ (by decide +kernel)
theorem im_M_servesNow : Cond.instanceMethod y_M_servesNow ∈ wt := (wt_t7 8 rfl rfl)
theorem sl_M_servesNow : Cond.selects y_M_servesNow.cls y_M_servesNow y_M_servesNow ∈ wt := wt_p (q := (y_M_servesNow, 26)) 79 (by decide +kernel)
theorem l_M_258 : vMl "VillagePayModel" 258 y_M_servesNow 1 := ⟨(wt_t7 6 rfl rfl), im_M_servesNow, sl_M_servesNow, (wt_t1 14 rfl rfl), hy_M_servesNow⟩
theorem hy_M_isCrowns : y_M_isCrowns.cls ≠ "java/lang/invoke/MethodHandle" ∧ y_M_isCrowns.cls ≠ "java/lang/invoke/VarHandle" ∧ (parseMethodDescriptor y_M_isCrowns.desc).map (fun d => d.parameters.length) = some 1 := vHy _ _ (by decide +kernel)
theorem im_M_isCrowns : Cond.instanceMethod y_M_isCrowns ∈ wt := (wt_t7 12 rfl rfl)
theorem sl_M_isCrowns : Cond.selects y_M_isCrowns.cls y_M_isCrowns y_M_isCrowns ∈ wt := wt_p (q := (y_M_isCrowns, 26)) 80 (by decide +kernel)
theorem l_M_261 : vMl "VillagePayModel" 261 y_M_isCrowns 1 := ⟨(wt_t7 10 rfl rfl), im_M_isCrowns, sl_M_isCrowns, (wt_t1 14 rfl rfl), hy_M_isCrowns⟩
theorem hy_M_hadByKin : y_M_hadByKin.cls ≠ "java/lang/invoke/MethodHandle" ∧ y_M_hadByKin.cls ≠ "java/lang/invoke/VarHandle" ∧ (parseMethodDescriptor y_M_hadByKin.desc).map (fun d => d.parameters.length) = some 2 := vHy _ _ (by decide +kernel)
theorem im_M_hadByKin : Cond.instanceMethod y_M_hadByKin ∈ wt := (wt_t7 16 rfl rfl)
theorem sl_M_hadByKin : Cond.selects y_M_hadByKin.cls y_M_hadByKin y_M_hadByKin ∈ wt := wt_p (q := (y_M_hadByKin, 26)) 81 (by decide +kernel)
theorem l_M_264 : vMl "VillagePayModel" 264 y_M_hadByKin 2 := ⟨(wt_t7 14 rfl rfl), im_M_hadByKin, sl_M_hadByKin, (wt_t1 14 rfl rfl), hy_M_hadByKin⟩
theorem hy_M_dueNow : y_M_dueNow.cls ≠ "java/lang/invoke/MethodHandle" ∧ y_M_dueNow.cls ≠ "java/lang/invoke/VarHandle" ∧ (parseMethodDescriptor y_M_dueNow.desc).map (fun d => d.parameters.length) = some 1 := vHy _ _ (by decide +kernel)
theorem im_M_dueNow : Cond.instanceMethod y_M_dueNow ∈ wt := (wt_t7 20 rfl rfl)
theorem sl_M_dueNow : Cond.selects y_M_dueNow.cls y_M_dueNow y_M_dueNow ∈ wt := wt_p (q := (y_M_dueNow, 26)) 82 (by decide +kernel)
theorem l_M_267 : vMl "VillagePayModel" 267 y_M_dueNow 1 := ⟨(wt_t7 18 rfl rfl), im_M_dueNow, sl_M_dueNow, (wt_t1 14 rfl rfl), hy_M_dueNow⟩
theorem hy_M_paperOf : y_M_paperOf.cls ≠ "java/lang/invoke/MethodHandle" ∧ y_M_paperOf.cls ≠ "java/lang/invoke/VarHandle" ∧ (parseMethodDescriptor y_M_paperOf.desc).map (fun d => d.parameters.length) = some 1 := vHy _ _ (by decide +kernel)
theorem im_M_paperOf : Cond.instanceMethod y_M_paperOf ∈ wt := (wt_t7 24 rfl rfl)
theorem sl_M_paperOf : Cond.selects y_M_paperOf.cls y_M_paperOf y_M_paperOf ∈ wt := wt_p (q := (y_M_paperOf, 26)) 83 (by decide +kernel)
theorem l_M_270 : vMl "VillagePayModel" 270 y_M_paperOf 1 := ⟨(wt_t7 22 rfl rfl), im_M_paperOf, sl_M_paperOf, (wt_t1 14 rfl rfl), hy_M_paperOf⟩
theorem l_M_273 : vMl "VillagePayModel" 273 y_M_near 1 := ⟨(wt_t7 26 rfl rfl), im_M_near, sl_M_near, (wt_t1 14 rfl rfl), hy_M_near⟩
theorem hy_M_deal : y_M_deal.cls ≠ "java/lang/invoke/MethodHandle" ∧ y_M_deal.cls ≠ "java/lang/invoke/VarHandle" ∧ (parseMethodDescriptor y_M_deal.desc).map (fun d => d.parameters.length) = some 2 := vHy _ _ (by decide +kernel)
theorem im_M_deal : Cond.instanceMethod y_M_deal ∈ wt := (wt_t7 28 rfl rfl)
theorem sl_M_deal : Cond.selects y_M_deal.cls y_M_deal y_M_deal ∈ wt := (wt_t7 29 rfl rfl)
theorem l_L_116 : vMl "VillagePayLaw" 116 y_M_deal 2 := ⟨(wt_t7 27 rfl rfl), im_M_deal, sl_M_deal, (wt_t1 14 rfl rfl), hy_M_deal⟩
theorem hy_M_begins : y_M_begins.cls ≠ "java/lang/invoke/MethodHandle" ∧ y_M_begins.cls ≠ "java/lang/invoke/VarHandle" ∧ (parseMethodDescriptor y_M_begins.desc).map (fun d => d.parameters.length) = some 1 := vHy _ _ (by decide +kernel)
theorem im_M_begins : Cond.instanceMethod y_M_begins ∈ wt := (wt_t7 33 rfl rfl)
theorem sl_M_begins : Cond.selects y_M_begins.cls y_M_begins y_M_begins ∈ wt := wt_p (q := (y_M_begins, 26)) 84 (by decide +kernel)
theorem l_M_289 : vMl "VillagePayModel" 289 y_M_begins 1 := ⟨(wt_t7 31 rfl rfl), im_M_begins, sl_M_begins, (wt_t1 14 rfl rfl), hy_M_begins⟩
theorem hy_M_byBest : y_M_byBest.cls ≠ "java/lang/invoke/MethodHandle" ∧ y_M_byBest.cls ≠ "java/lang/invoke/VarHandle" ∧ (parseMethodDescriptor y_M_byBest.desc).map (fun d => d.parameters.length) = some 0 := vHy _ _ (by decide +kernel)
theorem im_M_byBest : Cond.instanceMethod y_M_byBest ∈ wt := (wt_t7 37 rfl rfl)
theorem sl_M_byBest : Cond.selects y_M_byBest.cls y_M_byBest y_M_byBest ∈ wt := wt_p (q := (y_M_byBest, 26)) 85 (by decide +kernel)
theorem l_M_292 : vMl "VillagePayModel" 292 y_M_byBest 0 := ⟨(wt_t7 35 rfl rfl), im_M_byBest, sl_M_byBest, (wt_t1 14 rfl rfl), hy_M_byBest⟩
theorem hy_M_gapNow : y_M_gapNow.cls ≠ "java/lang/invoke/MethodHandle" ∧ y_M_gapNow.cls ≠ "java/lang/invoke/VarHandle" ∧ (parseMethodDescriptor y_M_gapNow.desc).map (fun d => d.parameters.length) = some 0 := vHy _ _ (by decide +kernel)
theorem im_M_gapNow : Cond.instanceMethod y_M_gapNow ∈ wt := (wt_t7 41 rfl rfl)
theorem sl_M_gapNow : Cond.selects y_M_gapNow.cls y_M_gapNow y_M_gapNow ∈ wt := wt_p (q := (y_M_gapNow, 26)) 86 (by decide +kernel)
theorem l_M_282 : vMl "VillagePayModel" 282 y_M_gapNow 0 := ⟨(wt_t7 39 rfl rfl), im_M_gapNow, sl_M_gapNow, (wt_t1 14 rfl rfl), hy_M_gapNow⟩
theorem hy_M_goesOn : y_M_goesOn.cls ≠ "java/lang/invoke/MethodHandle" ∧ y_M_goesOn.cls ≠ "java/lang/invoke/VarHandle" ∧ (parseMethodDescriptor y_M_goesOn.desc).map (fun d => d.parameters.length) = some 0 := vHy _ _ (by decide +kernel)
theorem im_M_goesOn : Cond.instanceMethod y_M_goesOn ∈ wt := (wt_t7 45 rfl rfl)
theorem sl_M_goesOn : Cond.selects y_M_goesOn.cls y_M_goesOn y_M_goesOn ∈ wt := wt_p (q := (y_M_goesOn, 26)) 87 (by decide +kernel)
theorem l_M_285 : vMl "VillagePayModel" 285 y_M_goesOn 0 := ⟨(wt_t7 43 rfl rfl), im_M_goesOn, sl_M_goesOn, (wt_t1 14 rfl rfl), hy_M_goesOn⟩
theorem hy_M_byRule : y_M_byRule.cls ≠ "java/lang/invoke/MethodHandle" ∧ y_M_byRule.cls ≠ "java/lang/invoke/VarHandle" ∧ (parseMethodDescriptor y_M_byRule.desc).map (fun d => d.parameters.length) = some 0 := vHy _ _ (by decide +kernel)
theorem im_M_byRule : Cond.instanceMethod y_M_byRule ∈ wt := (wt_t7 49 rfl rfl)
theorem sl_M_byRule : Cond.selects y_M_byRule.cls y_M_byRule y_M_byRule ∈ wt := wt_p (q := (y_M_byRule, 26)) 88 (by decide +kernel)
theorem l_M_295 : vMl "VillagePayModel" 295 y_M_byRule 0 := ⟨(wt_t7 47 rfl rfl), im_M_byRule, sl_M_byRule, (wt_t1 14 rfl rfl), hy_M_byRule⟩
theorem hy_M_dealt : y_M_dealt.cls ≠ "java/lang/invoke/MethodHandle" ∧ y_M_dealt.cls ≠ "java/lang/invoke/VarHandle" ∧ (parseMethodDescriptor y_M_dealt.desc).map (fun d => d.parameters.length) = some 3 := vHy _ _ (by decide +kernel)
theorem im_M_dealt : Cond.instanceMethod y_M_dealt ∈ wt := (wt_t7 52 rfl rfl)
theorem sl_M_dealt : Cond.selects y_M_dealt.cls y_M_dealt y_M_dealt ∈ wt := (wt_t7 53 rfl rfl)
theorem l_L_121 : vMl "VillagePayLaw" 121 y_M_dealt 3 := ⟨(wt_t7 51 rfl rfl), im_M_dealt, sl_M_dealt, (wt_t1 14 rfl rfl), hy_M_dealt⟩
theorem l_M_298 : vMl "VillagePayModel" 298 y_M_deal 2 := ⟨(wt_t7 55 rfl rfl), im_M_deal, sl_M_deal, (wt_t1 14 rfl rfl), hy_M_deal⟩
theorem hy_M_move : y_M_move.cls ≠ "java/lang/invoke/MethodHandle" ∧ y_M_move.cls ≠ "java/lang/invoke/VarHandle" ∧ (parseMethodDescriptor y_M_move.desc).map (fun d => d.parameters.length) = some 2 := vHy _ _ (by decide +kernel)
theorem im_M_move : Cond.instanceMethod y_M_move ∈ wt := (wt_t7 57 rfl rfl)
theorem sl_M_move : Cond.selects y_M_move.cls y_M_move y_M_move ∈ wt := (wt_t7 58 rfl rfl)
theorem l_L_125 : vMl "VillagePayLaw" 125 y_M_move 2 := ⟨(wt_t7 56 rfl rfl), im_M_move, sl_M_move, (wt_t1 14 rfl rfl), hy_M_move⟩
theorem hy_M_stay : y_M_stay.cls ≠ "java/lang/invoke/MethodHandle" ∧ y_M_stay.cls ≠ "java/lang/invoke/VarHandle" ∧ (parseMethodDescriptor y_M_stay.desc).map (fun d => d.parameters.length) = some 0 := vHy _ _ (by decide +kernel)
theorem im_M_stay : Cond.instanceMethod y_M_stay ∈ wt := (wt_t7 61 rfl rfl)
theorem sl_M_stay : Cond.selects y_M_stay.cls y_M_stay y_M_stay ∈ wt := (wt_t7 62 rfl rfl)
theorem l_L_129 : vMl "VillagePayLaw" 129 y_M_stay 0 := ⟨(wt_t7 60 rfl rfl), im_M_stay, sl_M_stay, (wt_t1 14 rfl rfl), hy_M_stay⟩
theorem hy_M_idle : y_M_idle.cls ≠ "java/lang/invoke/MethodHandle" ∧ y_M_idle.cls ≠ "java/lang/invoke/VarHandle" ∧ (parseMethodDescriptor y_M_idle.desc).map (fun d => d.parameters.length) = some 0 := vHy _ _ (by decide +kernel)
theorem im_M_idle : Cond.instanceMethod y_M_idle ∈ wt := (wt_t7 65 rfl rfl)
theorem sl_M_idle : Cond.selects y_M_idle.cls y_M_idle y_M_idle ∈ wt := (wt_t7 66 rfl rfl)
theorem l_L_134 : vMl "VillagePayLaw" 134 y_M_idle 0 := ⟨(wt_t7 64 rfl rfl), im_M_idle, sl_M_idle, (wt_t1 14 rfl rfl), hy_M_idle⟩
theorem hy_M_moves : y_M_moves.cls ≠ "java/lang/invoke/MethodHandle" ∧ y_M_moves.cls ≠ "java/lang/invoke/VarHandle" ∧ (parseMethodDescriptor y_M_moves.desc).map (fun d => d.parameters.length) = some 0 := vHy _ _ (by decide +kernel)
theorem im_M_moves : Cond.instanceMethod y_M_moves ∈ wt := (wt_t7 70 rfl rfl)
theorem sl_M_moves : Cond.selects y_M_moves.cls y_M_moves y_M_moves ∈ wt := wt_p (q := (y_M_moves, 26)) 89 (by decide +kernel)
theorem l_M_308 : vMl "VillagePayModel" 308 y_M_moves 0 := ⟨(wt_t7 68 rfl rfl), im_M_moves, sl_M_moves, (wt_t1 14 rfl rfl), hy_M_moves⟩
theorem hy_M_first : y_M_first.cls ≠ "java/lang/invoke/MethodHandle" ∧ y_M_first.cls ≠ "java/lang/invoke/VarHandle" ∧ (parseMethodDescriptor y_M_first.desc).map (fun d => d.parameters.length) = some 1 := vHy _ _ (by decide +kernel)
theorem im_M_first : Cond.instanceMethod y_M_first ∈ wt := (wt_t7 74 rfl rfl)
theorem sl_M_first : Cond.selects y_M_first.cls y_M_first y_M_first ∈ wt := wt_p (q := (y_M_first, 26)) 90 (by decide +kernel)
theorem l_M_301 : vMl "VillagePayModel" 301 y_M_first 1 := ⟨(wt_t7 72 rfl rfl), im_M_first, sl_M_first, (wt_t1 14 rfl rfl), hy_M_first⟩
theorem hy_M_losesAll : y_M_losesAll.cls ≠ "java/lang/invoke/MethodHandle" ∧ y_M_losesAll.cls ≠ "java/lang/invoke/VarHandle" ∧ (parseMethodDescriptor y_M_losesAll.desc).map (fun d => d.parameters.length) = some 1 := vHy _ _ (by decide +kernel)
theorem im_M_losesAll : Cond.instanceMethod y_M_losesAll ∈ wt := (wt_t7 78 rfl rfl)
theorem sl_M_losesAll : Cond.selects y_M_losesAll.cls y_M_losesAll y_M_losesAll ∈ wt := wt_p (q := (y_M_losesAll, 26)) 91 (by decide +kernel)
theorem l_M_305 : vMl "VillagePayModel" 305 y_M_losesAll 1 := ⟨(wt_t7 76 rfl rfl), im_M_losesAll, sl_M_losesAll, (wt_t1 14 rfl rfl), hy_M_losesAll⟩
theorem hy_M_moved : y_M_moved.cls ≠ "java/lang/invoke/MethodHandle" ∧ y_M_moved.cls ≠ "java/lang/invoke/VarHandle" ∧ (parseMethodDescriptor y_M_moved.desc).map (fun d => d.parameters.length) = some 1 := vHy _ _ (by decide +kernel)
theorem im_M_moved : Cond.instanceMethod y_M_moved ∈ wt := (wt_t7 81 rfl rfl)
theorem sl_M_moved : Cond.selects y_M_moved.cls y_M_moved y_M_moved ∈ wt := (wt_t7 82 rfl rfl)
theorem l_L_138 : vMl "VillagePayLaw" 138 y_M_moved 1 := ⟨(wt_t7 80 rfl rfl), im_M_moved, sl_M_moved, (wt_t1 14 rfl rfl), hy_M_moved⟩
theorem hy_M_say : y_M_say.cls ≠ "java/lang/invoke/MethodHandle" ∧ y_M_say.cls ≠ "java/lang/invoke/VarHandle" ∧ (parseMethodDescriptor y_M_say.desc).map (fun d => d.parameters.length) = some 4 := vHy _ _ (by decide +kernel)
theorem im_M_say : Cond.instanceMethod y_M_say ∈ wt := (wt_t7 85 rfl rfl)
theorem sl_M_say : Cond.selects y_M_say.cls y_M_say y_M_say ∈ wt := (wt_t7 86 rfl rfl)
theorem l_L_142 : vMl "VillagePayLaw" 142 y_M_say 4 := ⟨(wt_t7 84 rfl rfl), im_M_say, sl_M_say, (wt_t1 14 rfl rfl), hy_M_say⟩
theorem hy_M_trust : y_M_trust.cls ≠ "java/lang/invoke/MethodHandle" ∧ y_M_trust.cls ≠ "java/lang/invoke/VarHandle" ∧ (parseMethodDescriptor y_M_trust.desc).map (fun d => d.parameters.length) = some 2 := vHy _ _ (by decide +kernel)
theorem im_M_trust : Cond.instanceMethod y_M_trust ∈ wt := (wt_t7 89 rfl rfl)
theorem sl_M_trust : Cond.selects y_M_trust.cls y_M_trust y_M_trust ∈ wt := (wt_t7 90 rfl rfl)
theorem l_L_146 : vMl "VillagePayLaw" 146 y_M_trust 2 := ⟨(wt_t7 88 rfl rfl), im_M_trust, sl_M_trust, (wt_t1 14 rfl rfl), hy_M_trust⟩
theorem hy_M_trustOf : y_M_trustOf.cls ≠ "java/lang/invoke/MethodHandle" ∧ y_M_trustOf.cls ≠ "java/lang/invoke/VarHandle" ∧ (parseMethodDescriptor y_M_trustOf.desc).map (fun d => d.parameters.length) = some 2 := vHy _ _ (by decide +kernel)
theorem im_M_trustOf : Cond.instanceMethod y_M_trustOf ∈ wt := (wt_t7 94 rfl rfl)
theorem sl_M_trustOf : Cond.selects y_M_trustOf.cls y_M_trustOf y_M_trustOf ∈ wt := wt_p (q := (y_M_trustOf, 26)) 92 (by decide +kernel)
theorem l_M_317 : vMl "VillagePayModel" 317 y_M_trustOf 2 := ⟨(wt_t7 92 rfl rfl), im_M_trustOf, sl_M_trustOf, (wt_t1 14 rfl rfl), hy_M_trustOf⟩
theorem hy_M_worthOf : y_M_worthOf.cls ≠ "java/lang/invoke/MethodHandle" ∧ y_M_worthOf.cls ≠ "java/lang/invoke/VarHandle" ∧ (parseMethodDescriptor y_M_worthOf.desc).map (fun d => d.parameters.length) = some 1 := vHy _ _ (by decide +kernel)
theorem im_M_worthOf : Cond.instanceMethod y_M_worthOf ∈ wt := (wt_t7 98 rfl rfl)
theorem sl_M_worthOf : Cond.selects y_M_worthOf.cls y_M_worthOf y_M_worthOf ∈ wt := wt_p (q := (y_M_worthOf, 26)) 93 (by decide +kernel)
theorem l_M_314 : vMl "VillagePayModel" 314 y_M_worthOf 1 := ⟨(wt_t7 96 rfl rfl), im_M_worthOf, sl_M_worthOf, (wt_t1 14 rfl rfl), hy_M_worthOf⟩
theorem hy_M_weighed : y_M_weighed.cls ≠ "java/lang/invoke/MethodHandle" ∧ y_M_weighed.cls ≠ "java/lang/invoke/VarHandle" ∧ (parseMethodDescriptor y_M_weighed.desc).map (fun d => d.parameters.length) = some 3 := vHy _ _ (by decide +kernel)
theorem im_M_weighed : Cond.instanceMethod y_M_weighed ∈ wt := (wt_t7 101 rfl rfl)
theorem sl_M_weighed : Cond.selects y_M_weighed.cls y_M_weighed y_M_weighed ∈ wt := (wt_t7 102 rfl rfl)
theorem l_L_150 : vMl "VillagePayLaw" 150 y_M_weighed 3 := ⟨(wt_t7 100 rfl rfl), im_M_weighed, sl_M_weighed, (wt_t1 14 rfl rfl), hy_M_weighed⟩
theorem hy_M_isAsked : y_M_isAsked.cls ≠ "java/lang/invoke/MethodHandle" ∧ y_M_isAsked.cls ≠ "java/lang/invoke/VarHandle" ∧ (parseMethodDescriptor y_M_isAsked.desc).map (fun d => d.parameters.length) = some 3 := vHy _ _ (by decide +kernel)
theorem im_M_isAsked : Cond.instanceMethod y_M_isAsked ∈ wt := (wt_t7 106 rfl rfl)
theorem sl_M_isAsked : Cond.selects y_M_isAsked.cls y_M_isAsked y_M_isAsked ∈ wt := wt_p (q := (y_M_isAsked, 26)) 94 (by decide +kernel)
theorem l_M_320 : vMl "VillagePayModel" 320 y_M_isAsked 3 := ⟨(wt_t7 104 rfl rfl), im_M_isAsked, sl_M_isAsked, (wt_t1 14 rfl rfl), hy_M_isAsked⟩
theorem hy_M_famine : y_M_famine.cls ≠ "java/lang/invoke/MethodHandle" ∧ y_M_famine.cls ≠ "java/lang/invoke/VarHandle" ∧ (parseMethodDescriptor y_M_famine.desc).map (fun d => d.parameters.length) = some 3 := vHy _ _ (by decide +kernel)
theorem im_M_famine : Cond.instanceMethod y_M_famine ∈ wt := (wt_t7 109 rfl rfl)
theorem sl_M_famine : Cond.selects y_M_famine.cls y_M_famine y_M_famine ∈ wt := (wt_t7 110 rfl rfl)
theorem l_L_155 : vMl "VillagePayLaw" 155 y_M_famine 3 := ⟨(wt_t7 108 rfl rfl), im_M_famine, sl_M_famine, (wt_t1 14 rfl rfl), hy_M_famine⟩
theorem hy_M_tried : y_M_tried.cls ≠ "java/lang/invoke/MethodHandle" ∧ y_M_tried.cls ≠ "java/lang/invoke/VarHandle" ∧ (parseMethodDescriptor y_M_tried.desc).map (fun d => d.parameters.length) = some 5 := vHy _ _ (by decide +kernel)
theorem im_M_tried : Cond.instanceMethod y_M_tried ∈ wt := (wt_t7 113 rfl rfl)
theorem sl_M_tried : Cond.selects y_M_tried.cls y_M_tried y_M_tried ∈ wt := (wt_t7 114 rfl rfl)
theorem l_L_159 : vMl "VillagePayLaw" 159 y_M_tried 5 := ⟨(wt_t7 112 rfl rfl), im_M_tried, sl_M_tried, (wt_t1 14 rfl rfl), hy_M_tried⟩
theorem hy_M_count : y_M_count.cls ≠ "java/lang/invoke/MethodHandle" ∧ y_M_count.cls ≠ "java/lang/invoke/VarHandle" ∧ (parseMethodDescriptor y_M_count.desc).map (fun d => d.parameters.length) = some 1 := vHy _ _ (by decide +kernel)
theorem im_M_count : Cond.instanceMethod y_M_count ∈ wt := (wt_t7 117 rfl rfl)
theorem sl_M_count : Cond.selects y_M_count.cls y_M_count y_M_count ∈ wt := (wt_t7 118 rfl rfl)
theorem l_L_163 : vMl "VillagePayLaw" 163 y_M_count 1 := ⟨(wt_t7 116 rfl rfl), im_M_count, sl_M_count, (wt_t1 14 rfl rfl), hy_M_count⟩
theorem hy_M_image : y_M_image.cls ≠ "java/lang/invoke/MethodHandle" ∧ y_M_image.cls ≠ "java/lang/invoke/VarHandle" ∧ (parseMethodDescriptor y_M_image.desc).map (fun d => d.parameters.length) = some 1 := vHy _ _ (by decide +kernel)
theorem im_M_image : Cond.instanceMethod y_M_image ∈ wt := (wt_t7 121 rfl rfl)
theorem sl_M_image : Cond.selects y_M_image.cls y_M_image y_M_image ∈ wt := (wt_t7 122 rfl rfl)
theorem l_L_167 : vMl "VillagePayLaw" 167 y_M_image 1 := ⟨(wt_t7 120 rfl rfl), im_M_image, sl_M_image, (wt_t1 14 rfl rfl), hy_M_image⟩
theorem hy_M_again : y_M_again.cls ≠ "java/lang/invoke/MethodHandle" ∧ y_M_again.cls ≠ "java/lang/invoke/VarHandle" ∧ (parseMethodDescriptor y_M_again.desc).map (fun d => d.parameters.length) = some 1 := vHy _ _ (by decide +kernel)
theorem im_M_again : Cond.instanceMethod y_M_again ∈ wt := (wt_t7 125 rfl rfl)
theorem sl_M_again : Cond.selects y_M_again.cls y_M_again y_M_again ∈ wt := (wt_t7 126 rfl rfl)
theorem l_L_171 : vMl "VillagePayLaw" 171 y_M_again 1 := ⟨(wt_t7 124 rfl rfl), im_M_again, sl_M_again, (wt_t1 14 rfl rfl), hy_M_again⟩
theorem hy_St_init : y_St_init.cls ≠ "java/lang/invoke/MethodHandle" ∧ y_St_init.cls ≠ "java/lang/invoke/VarHandle" ∧ (parseMethodDescriptor y_St_init.desc).map (fun d => d.parameters.length) = some 0 := vHy _ _ (by decide +kernel)
theorem im_St_init : Cond.instanceMethod y_St_init ∈ wt := (wt_t1 32 rfl rfl)
theorem l_V_9 : vNl "VillagePay" 9 y_St_init 0 := ⟨by decide +kernel, im_St_init, (wt_t1 2 rfl rfl), rfl, hy_St_init⟩
theorem hy_Bo_init : y_Bo_init.cls ≠ "java/lang/invoke/MethodHandle" ∧ y_Bo_init.cls ≠ "java/lang/invoke/VarHandle" ∧ (parseMethodDescriptor y_Bo_init.desc).map (fun d => d.parameters.length) = some 0 := vHy _ _ (by decide +kernel)
theorem im_Bo_init : Cond.instanceMethod y_Bo_init ∈ wt := (wt_t1 94 rfl rfl)
theorem l_St_18 : vNl "VillagePay$State" 18 y_Bo_init 0 := ⟨by decide +kernel, im_Bo_init, (wt_t1 5 rfl rfl), rfl, hy_Bo_init⟩
theorem hy_Lw_init : y_Lw_init.cls ≠ "java/lang/invoke/MethodHandle" ∧ y_Lw_init.cls ≠ "java/lang/invoke/VarHandle" ∧ (parseMethodDescriptor y_Lw_init.desc).map (fun d => d.parameters.length) = some 0 := vHy _ _ (by decide +kernel)
theorem im_Lw_init : Cond.instanceMethod y_Lw_init ∈ wt := (wt_t1 149 rfl rfl)
theorem l_St_25 : vNl "VillagePay$State" 25 y_Lw_init 0 := ⟨by decide +kernel, im_Lw_init, (wt_t1 6 rfl rfl), rfl, hy_Lw_init⟩
theorem hy_Ta_init : y_Ta_init.cls ≠ "java/lang/invoke/MethodHandle" ∧ y_Ta_init.cls ≠ "java/lang/invoke/VarHandle" ∧ (parseMethodDescriptor y_Ta_init.desc).map (fun d => d.parameters.length) = some 0 := vHy _ _ (by decide +kernel)
theorem im_Ta_init : Cond.instanceMethod y_Ta_init ∈ wt := (wt_t1 208 rfl rfl)
theorem l_St_32 : vNl "VillagePay$State" 32 y_Ta_init 0 := ⟨by decide +kernel, im_Ta_init, (wt_t1 7 rfl rfl), rfl, hy_Ta_init⟩
theorem hy_Mo_init : y_Mo_init.cls ≠ "java/lang/invoke/MethodHandle" ∧ y_Mo_init.cls ≠ "java/lang/invoke/VarHandle" ∧ (parseMethodDescriptor y_Mo_init.desc).map (fun d => d.parameters.length) = some 0 := vHy _ _ (by decide +kernel)
theorem im_Mo_init : Cond.instanceMethod y_Mo_init ∈ wt := (wt_t2 24 rfl rfl)
theorem l_St_48 : vNl "VillagePay$State" 48 y_Mo_init 0 := ⟨by decide +kernel, im_Mo_init, (wt_t1 9 rfl rfl), rfl, hy_Mo_init⟩
theorem f_St_53 : vFl "VillagePay$State" 53 2 0 := ⟨vC2, vT2, 9, rfl, by decide, vI2, (wt_t1 44 rfl rfl)⟩
theorem p_St_53 : vPt "VillagePay$State" 53 2 0 false (.int) := ⟨vC2, vT2, 9, vY2, rfl, by decide, vI2, (wt_t1 44 rfl rfl), vY2_ok, vN2, rfl, by decide +kernel, fun h => by cases h⟩
theorem f_De_41 : vFl "VillagePay$Dealer" 41 2 0 := ⟨vC2, vT2, 9, rfl, by decide, vI2, (wt_t1 45 rfl rfl)⟩
theorem p_De_41 : vPt "VillagePay$Dealer" 41 2 0 false (.int) := ⟨vC2, vT2, 9, vY2, rfl, by decide, vI2, (wt_t1 45 rfl rfl), vY2_ok, vN2, rfl, by decide +kernel, fun h => by cases h⟩
theorem f_La_43 : vFl "VillagePay$Land" 43 2 0 := ⟨vC2, vT2, 9, rfl, by decide, vI2, (wt_t1 46 rfl rfl)⟩
theorem p_La_43 : vPt "VillagePay$Land" 43 2 0 false (.int) := ⟨vC2, vT2, 9, vY2, rfl, by decide, vI2, (wt_t1 46 rfl rfl), vY2_ok, vN2, rfl, by decide +kernel, fun _ => rfl⟩
theorem f_V_113 : vFl "VillagePay" 113 2 0 := ⟨vC2, vT2, 9, rfl, by decide, vI2, (wt_t1 47 rfl rfl)⟩
theorem p_V_113 : vPt "VillagePay" 113 2 0 false (.int) := ⟨vC2, vT2, 9, vY2, rfl, by decide, vI2, (wt_t1 47 rfl rfl), vY2_ok, vN2, rfl, by decide +kernel, fun h => by cases h⟩
theorem f_La_39 : vFl "VillagePay$Land" 39 2 1 := ⟨vC2, vT2, 9, rfl, by decide, vI2, (wt_t1 48 rfl rfl)⟩
theorem p_La_39 : vPt "VillagePay$Land" 39 2 1 false (.int) := ⟨vC2, vT2, 9, vY2, rfl, by decide, vI2, (wt_t1 48 rfl rfl), vY2_ok, vN2, rfl, by decide +kernel, fun _ => rfl⟩
theorem f_V_86 : vFl "VillagePay" 86 2 1 := ⟨vC2, vT2, 9, rfl, by decide, vI2, (wt_t1 49 rfl rfl)⟩
theorem p_V_86 : vPt "VillagePay" 86 2 1 false (.int) := ⟨vC2, vT2, 9, vY2, rfl, by decide, vI2, (wt_t1 49 rfl rfl), vY2_ok, vN2, rfl, by decide +kernel, fun h => by cases h⟩
theorem f_Ac_53 : vFl "VillagePay$Accounts" 53 2 1 := ⟨vC2, vT2, 9, rfl, by decide, vI2, (wt_t1 50 rfl rfl)⟩
theorem p_Ac_53 : vPt "VillagePay$Accounts" 53 2 1 false (.int) := ⟨vC2, vT2, 9, vY2, rfl, by decide, vI2, (wt_t1 50 rfl rfl), vY2_ok, vN2, rfl, by decide +kernel, fun h => by cases h⟩
theorem f_De_81 : vFl "VillagePay$Dealer" 81 2 1 := ⟨vC2, vT2, 9, rfl, by decide, vI2, (wt_t1 51 rfl rfl)⟩
theorem p_De_81 : vPt "VillagePay$Dealer" 81 2 1 false (.int) := ⟨vC2, vT2, 9, vY2, rfl, by decide, vI2, (wt_t1 51 rfl rfl), vY2_ok, vN2, rfl, by decide +kernel, fun h => by cases h⟩
theorem f_Sc_101 : vFl "VillagePay$Scale" 101 2 1 := ⟨vC2, vT2, 9, rfl, by decide, vI2, (wt_t1 52 rfl rfl)⟩
theorem p_Sc_101 : vPt "VillagePay$Scale" 101 2 1 false (.int) := ⟨vC2, vT2, 9, vY2, rfl, by decide, vI2, (wt_t1 52 rfl rfl), vY2_ok, vN2, rfl, by decide +kernel, fun h => by cases h⟩
theorem f_La_9 : vFl "VillagePay$Land" 9 2 2 := ⟨vC2, vT2, 9, rfl, by decide, vI2, (wt_t1 53 rfl rfl)⟩
theorem p_La_9 : vPt "VillagePay$Land" 9 2 2 true (.array .int) := ⟨vC2, vT2, 9, vY2, rfl, by decide, vI2, (wt_t1 53 rfl rfl), vY2_ok, vN2, rfl, by decide +kernel, fun _ => rfl⟩
theorem f_Ne_58 : vFl "VillagePay$News" 58 2 2 := ⟨vC2, vT2, 9, rfl, by decide, vI2, (wt_t1 54 rfl rfl)⟩
theorem f_V_123 : vFl "VillagePay" 123 2 2 := ⟨vC2, vT2, 9, rfl, by decide, vI2, (wt_t1 55 rfl rfl)⟩
theorem f_De_126 : vFl "VillagePay$Dealer" 126 2 2 := ⟨vC2, vT2, 9, rfl, by decide, vI2, (wt_t1 56 rfl rfl)⟩
theorem f_La_15 : vFl "VillagePay$Land" 15 2 3 := ⟨vC2, vT2, 9, rfl, by decide, vI2, (wt_t1 57 rfl rfl)⟩
theorem p_La_15 : vPt "VillagePay$Land" 15 2 3 true (.array .int) := ⟨vC2, vT2, 9, vY2, rfl, by decide, vI2, (wt_t1 57 rfl rfl), vY2_ok, vN2, rfl, by decide +kernel, fun _ => rfl⟩
theorem f_V_126 : vFl "VillagePay" 126 2 3 := ⟨vC2, vT2, 9, rfl, by decide, vI2, (wt_t1 58 rfl rfl)⟩
theorem f_La_18 : vFl "VillagePay$Land" 18 2 4 := ⟨vC2, vT2, 9, rfl, by decide, vI2, (wt_t1 59 rfl rfl)⟩
theorem p_La_18 : vPt "VillagePay$Land" 18 2 4 true (.array .int) := ⟨vC2, vT2, 9, vY2, rfl, by decide, vI2, (wt_t1 59 rfl rfl), vY2_ok, vN2, rfl, by decide +kernel, fun _ => rfl⟩
theorem f_V_129 : vFl "VillagePay" 129 2 4 := ⟨vC2, vT2, 9, rfl, by decide, vI2, (wt_t1 60 rfl rfl)⟩
theorem f_La_21 : vFl "VillagePay$Land" 21 2 5 := ⟨vC2, vT2, 9, rfl, by decide, vI2, (wt_t1 61 rfl rfl)⟩
theorem p_La_21 : vPt "VillagePay$Land" 21 2 5 true (.array .int) := ⟨vC2, vT2, 9, vY2, rfl, by decide, vI2, (wt_t1 61 rfl rfl), vY2_ok, vN2, rfl, by decide +kernel, fun _ => rfl⟩
theorem f_V_132 : vFl "VillagePay" 132 2 5 := ⟨vC2, vT2, 9, rfl, by decide, vI2, (wt_t1 62 rfl rfl)⟩
theorem f_La_24 : vFl "VillagePay$Land" 24 2 6 := ⟨vC2, vT2, 9, rfl, by decide, vI2, (wt_t1 63 rfl rfl)⟩
theorem p_La_24 : vPt "VillagePay$Land" 24 2 6 true (.array .int) := ⟨vC2, vT2, 9, vY2, rfl, by decide, vI2, (wt_t1 63 rfl rfl), vY2_ok, vN2, rfl, by decide +kernel, fun _ => rfl⟩
theorem f_V_110 : vFl "VillagePay" 110 2 6 := ⟨vC2, vT2, 9, rfl, by decide, vI2, (wt_t1 64 rfl rfl)⟩
theorem f_La_27 : vFl "VillagePay$Land" 27 2 7 := ⟨vC2, vT2, 9, rfl, by decide, vI2, (wt_t1 65 rfl rfl)⟩
theorem p_La_27 : vPt "VillagePay$Land" 27 2 7 true (.array .int) := ⟨vC2, vT2, 9, vY2, rfl, by decide, vI2, (wt_t1 65 rfl rfl), vY2_ok, vN2, rfl, by decide +kernel, fun _ => rfl⟩
theorem f_Ac_58 : vFl "VillagePay$Accounts" 58 2 7 := ⟨vC2, vT2, 9, rfl, by decide, vI2, (wt_t1 66 rfl rfl)⟩
theorem f_Ne_35 : vFl "VillagePay$News" 35 2 7 := ⟨vC2, vT2, 9, rfl, by decide, vI2, (wt_t1 67 rfl rfl)⟩
theorem f_V_120 : vFl "VillagePay" 120 2 7 := ⟨vC2, vT2, 9, rfl, by decide, vI2, (wt_t1 68 rfl rfl)⟩
theorem f_La_30 : vFl "VillagePay$Land" 30 2 8 := ⟨vC2, vT2, 9, rfl, by decide, vI2, (wt_t1 69 rfl rfl)⟩
theorem p_La_30 : vPt "VillagePay$Land" 30 2 8 true (.array .int) := ⟨vC2, vT2, 9, vY2, rfl, by decide, vI2, (wt_t1 69 rfl rfl), vY2_ok, vN2, rfl, by decide +kernel, fun _ => rfl⟩
theorem f_V_103 : vFl "VillagePay" 103 2 8 := ⟨vC2, vT2, 9, rfl, by decide, vI2, (wt_t1 70 rfl rfl)⟩
theorem f_Bo_39 : vFl "VillagePay$Book" 39 3 0 := ⟨vC3, vT3, 11, rfl, by decide, vI3, (wt_t1 97 rfl rfl)⟩
theorem p_Bo_39 : vPt "VillagePay$Book" 39 3 0 false (.int) := ⟨vC3, vT3, 11, vY3, rfl, by decide, vI3, (wt_t1 97 rfl rfl), vY3_ok, vN3, rfl, by decide +kernel, fun _ => rfl⟩
theorem f_V_142 : vFl "VillagePay" 142 3 0 := ⟨vC3, vT3, 11, rfl, by decide, vI3, (wt_t1 98 rfl rfl)⟩
theorem p_V_142 : vPt "VillagePay" 142 3 0 false (.int) := ⟨vC3, vT3, 11, vY3, rfl, by decide, vI3, (wt_t1 98 rfl rfl), vY3_ok, vN3, rfl, by decide +kernel, fun h => by cases h⟩
theorem f_Bo_9 : vFl "VillagePay$Book" 9 3 1 := ⟨vC3, vT3, 11, rfl, by decide, vI3, (wt_t1 99 rfl rfl)⟩
theorem p_Bo_9 : vPt "VillagePay$Book" 9 3 1 true (.array .int) := ⟨vC3, vT3, 11, vY3, rfl, by decide, vI3, (wt_t1 99 rfl rfl), vY3_ok, vN3, rfl, by decide +kernel, fun _ => rfl⟩
theorem f_Bo_15 : vFl "VillagePay$Book" 15 3 2 := ⟨vC3, vT3, 11, rfl, by decide, vI3, (wt_t1 100 rfl rfl)⟩
theorem p_Bo_15 : vPt "VillagePay$Book" 15 3 2 true (.array .int) := ⟨vC3, vT3, 11, vY3, rfl, by decide, vI3, (wt_t1 100 rfl rfl), vY3_ok, vN3, rfl, by decide +kernel, fun _ => rfl⟩
theorem f_De_76 : vFl "VillagePay$Dealer" 76 3 2 := ⟨vC3, vT3, 11, rfl, by decide, vI3, (wt_t1 101 rfl rfl)⟩
theorem f_Sc_81 : vFl "VillagePay$Scale" 81 3 2 := ⟨vC3, vT3, 11, rfl, by decide, vI3, (wt_t1 102 rfl rfl)⟩
theorem f_Bo_18 : vFl "VillagePay$Book" 18 3 3 := ⟨vC3, vT3, 11, rfl, by decide, vI3, (wt_t1 103 rfl rfl)⟩
theorem p_Bo_18 : vPt "VillagePay$Book" 18 3 3 true (.array .int) := ⟨vC3, vT3, 11, vY3, rfl, by decide, vI3, (wt_t1 103 rfl rfl), vY3_ok, vN3, rfl, by decide +kernel, fun _ => rfl⟩
theorem f_Sc_75 : vFl "VillagePay$Scale" 75 3 3 := ⟨vC3, vT3, 11, rfl, by decide, vI3, (wt_t1 104 rfl rfl)⟩
theorem f_Ac_80 : vFl "VillagePay$Accounts" 80 3 3 := ⟨vC3, vT3, 11, rfl, by decide, vI3, (wt_t1 105 rfl rfl)⟩
theorem f_Bo_21 : vFl "VillagePay$Book" 21 3 4 := ⟨vC3, vT3, 11, rfl, by decide, vI3, (wt_t1 106 rfl rfl)⟩
theorem p_Bo_21 : vPt "VillagePay$Book" 21 3 4 true (.array .int) := ⟨vC3, vT3, 11, vY3, rfl, by decide, vI3, (wt_t1 106 rfl rfl), vY3_ok, vN3, rfl, by decide +kernel, fun _ => rfl⟩
theorem f_Ac_105 : vFl "VillagePay$Accounts" 105 3 4 := ⟨vC3, vT3, 11, rfl, by decide, vI3, (wt_t1 107 rfl rfl)⟩
theorem f_V_153 : vFl "VillagePay" 153 3 4 := ⟨vC3, vT3, 11, rfl, by decide, vI3, (wt_t1 108 rfl rfl)⟩
theorem f_Bo_43 : vFl "VillagePay$Book" 43 3 5 := ⟨vC3, vT3, 11, rfl, by decide, vI3, (wt_t1 109 rfl rfl)⟩
theorem p_Bo_43 : vPt "VillagePay$Book" 43 3 5 false (.int) := ⟨vC3, vT3, 11, vY3, rfl, by decide, vI3, (wt_t1 109 rfl rfl), vY3_ok, vN3, rfl, by decide +kernel, fun _ => rfl⟩
theorem f_Ac_83 : vFl "VillagePay$Accounts" 83 3 5 := ⟨vC3, vT3, 11, rfl, by decide, vI3, (wt_t1 110 rfl rfl)⟩
theorem p_Ac_83 : vPt "VillagePay$Accounts" 83 3 5 false (.int) := ⟨vC3, vT3, 11, vY3, rfl, by decide, vI3, (wt_t1 110 rfl rfl), vY3_ok, vN3, rfl, by decide +kernel, fun h => by cases h⟩
theorem f_V_159 : vFl "VillagePay" 159 3 5 := ⟨vC3, vT3, 11, rfl, by decide, vI3, (wt_t1 111 rfl rfl)⟩
theorem p_V_159 : vPt "VillagePay" 159 3 5 false (.int) := ⟨vC3, vT3, 11, vY3, rfl, by decide, vI3, (wt_t1 111 rfl rfl), vY3_ok, vN3, rfl, by decide +kernel, fun h => by cases h⟩
theorem f_Bo_24 : vFl "VillagePay$Book" 24 3 6 := ⟨vC3, vT3, 11, rfl, by decide, vI3, (wt_t1 112 rfl rfl)⟩
theorem p_Bo_24 : vPt "VillagePay$Book" 24 3 6 true (.array .int) := ⟨vC3, vT3, 11, vY3, rfl, by decide, vI3, (wt_t1 112 rfl rfl), vY3_ok, vN3, rfl, by decide +kernel, fun _ => rfl⟩
theorem f_V_166 : vFl "VillagePay" 166 3 6 := ⟨vC3, vT3, 11, rfl, by decide, vI3, (wt_t1 113 rfl rfl)⟩
theorem f_Bo_27 : vFl "VillagePay$Book" 27 3 7 := ⟨vC3, vT3, 11, rfl, by decide, vI3, (wt_t1 114 rfl rfl)⟩
theorem p_Bo_27 : vPt "VillagePay$Book" 27 3 7 true (.array .int) := ⟨vC3, vT3, 11, vY3, rfl, by decide, vI3, (wt_t1 114 rfl rfl), vY3_ok, vN3, rfl, by decide +kernel, fun _ => rfl⟩
theorem f_V_169 : vFl "VillagePay" 169 3 7 := ⟨vC3, vT3, 11, rfl, by decide, vI3, (wt_t1 115 rfl rfl)⟩
theorem f_Bo_30 : vFl "VillagePay$Book" 30 3 8 := ⟨vC3, vT3, 11, rfl, by decide, vI3, (wt_t1 116 rfl rfl)⟩
theorem p_Bo_30 : vPt "VillagePay$Book" 30 3 8 true (.array .int) := ⟨vC3, vT3, 11, vY3, rfl, by decide, vI3, (wt_t1 116 rfl rfl), vY3_ok, vN3, rfl, by decide +kernel, fun _ => rfl⟩
theorem f_V_172 : vFl "VillagePay" 172 3 8 := ⟨vC3, vT3, 11, rfl, by decide, vI3, (wt_t1 117 rfl rfl)⟩
theorem f_Bo_33 : vFl "VillagePay$Book" 33 3 9 := ⟨vC3, vT3, 11, rfl, by decide, vI3, (wt_t1 118 rfl rfl)⟩
theorem p_Bo_33 : vPt "VillagePay$Book" 33 3 9 true (.array .int) := ⟨vC3, vT3, 11, vY3, rfl, by decide, vI3, (wt_t1 118 rfl rfl), vY3_ok, vN3, rfl, by decide +kernel, fun _ => rfl⟩
theorem f_Ac_86 : vFl "VillagePay$Accounts" 86 3 9 := ⟨vC3, vT3, 11, rfl, by decide, vI3, (wt_t1 119 rfl rfl)⟩
theorem f_V_175 : vFl "VillagePay" 175 3 9 := ⟨vC3, vT3, 11, rfl, by decide, vI3, (wt_t1 120 rfl rfl)⟩
theorem f_Bo_36 : vFl "VillagePay$Book" 36 3 10 := ⟨vC3, vT3, 11, rfl, by decide, vI3, (wt_t1 121 rfl rfl)⟩
theorem p_Bo_36 : vPt "VillagePay$Book" 36 3 10 true (.array .int) := ⟨vC3, vT3, 11, vY3, rfl, by decide, vI3, (wt_t1 121 rfl rfl), vY3_ok, vN3, rfl, by decide +kernel, fun _ => rfl⟩
theorem f_V_178 : vFl "VillagePay" 178 3 10 := ⟨vC3, vT3, 11, rfl, by decide, vI3, (wt_t1 122 rfl rfl)⟩
theorem f_Lw_40 : vFl "VillagePay$Laws" 40 4 0 := ⟨vC4, vT4, 10, rfl, by decide, vI4, (wt_t1 152 rfl rfl)⟩
theorem p_Lw_40 : vPt "VillagePay$Laws" 40 4 0 false (.int) := ⟨vC4, vT4, 10, vY4, rfl, by decide, vI4, (wt_t1 152 rfl rfl), vY4_ok, vN4, rfl, by decide +kernel, fun _ => rfl⟩
theorem f_Re_19 : vFl "VillagePay$Reader" 19 4 0 := ⟨vC4, vT4, 10, rfl, by decide, vI4, (wt_t1 153 rfl rfl)⟩
theorem p_Re_19 : vPt "VillagePay$Reader" 19 4 0 false (.int) := ⟨vC4, vT4, 10, vY4, rfl, by decide, vI4, (wt_t1 153 rfl rfl), vY4_ok, vN4, rfl, by decide +kernel, fun h => by cases h⟩
theorem f_Ac_97 : vFl "VillagePay$Accounts" 97 4 0 := ⟨vC4, vT4, 10, rfl, by decide, vI4, (wt_t1 154 rfl rfl)⟩
theorem p_Ac_97 : vPt "VillagePay$Accounts" 97 4 0 false (.int) := ⟨vC4, vT4, 10, vY4, rfl, by decide, vI4, (wt_t1 154 rfl rfl), vY4_ok, vN4, rfl, by decide +kernel, fun h => by cases h⟩
theorem f_V_314 : vFl "VillagePay" 314 4 0 := ⟨vC4, vT4, 10, rfl, by decide, vI4, (wt_t1 155 rfl rfl)⟩
theorem p_V_314 : vPt "VillagePay" 314 4 0 false (.int) := ⟨vC4, vT4, 10, vY4, rfl, by decide, vI4, (wt_t1 155 rfl rfl), vY4_ok, vN4, rfl, by decide +kernel, fun h => by cases h⟩
theorem f_Lw_9 : vFl "VillagePay$Laws" 9 4 1 := ⟨vC4, vT4, 10, rfl, by decide, vI4, (wt_t1 156 rfl rfl)⟩
theorem p_Lw_9 : vPt "VillagePay$Laws" 9 4 1 true (.array .int) := ⟨vC4, vT4, 10, vY4, rfl, by decide, vI4, (wt_t1 156 rfl rfl), vY4_ok, vN4, rfl, by decide +kernel, fun _ => rfl⟩
theorem f_Re_53 : vFl "VillagePay$Reader" 53 4 1 := ⟨vC4, vT4, 10, rfl, by decide, vI4, (wt_t1 157 rfl rfl)⟩
theorem f_Ac_102 : vFl "VillagePay$Accounts" 102 4 1 := ⟨vC4, vT4, 10, rfl, by decide, vI4, (wt_t1 158 rfl rfl)⟩
theorem f_Lw_15 : vFl "VillagePay$Laws" 15 4 2 := ⟨vC4, vT4, 10, rfl, by decide, vI4, (wt_t1 159 rfl rfl)⟩
theorem p_Lw_15 : vPt "VillagePay$Laws" 15 4 2 true (.array .int) := ⟨vC4, vT4, 10, vY4, rfl, by decide, vI4, (wt_t1 159 rfl rfl), vY4_ok, vN4, rfl, by decide +kernel, fun _ => rfl⟩
theorem f_Sc_44 : vFl "VillagePay$Scale" 44 4 2 := ⟨vC4, vT4, 10, rfl, by decide, vI4, (wt_t1 160 rfl rfl)⟩
theorem f_Re_57 : vFl "VillagePay$Reader" 57 4 2 := ⟨vC4, vT4, 10, rfl, by decide, vI4, (wt_t1 161 rfl rfl)⟩
theorem f_Lw_18 : vFl "VillagePay$Laws" 18 4 3 := ⟨vC4, vT4, 10, rfl, by decide, vI4, (wt_t1 162 rfl rfl)⟩
theorem p_Lw_18 : vPt "VillagePay$Laws" 18 4 3 true (.array .int) := ⟨vC4, vT4, 10, vY4, rfl, by decide, vI4, (wt_t1 162 rfl rfl), vY4_ok, vN4, rfl, by decide +kernel, fun _ => rfl⟩
theorem f_Sc_52 : vFl "VillagePay$Scale" 52 4 3 := ⟨vC4, vT4, 10, rfl, by decide, vI4, (wt_t1 163 rfl rfl)⟩
theorem f_Re_104 : vFl "VillagePay$Reader" 104 4 3 := ⟨vC4, vT4, 10, rfl, by decide, vI4, (wt_t1 164 rfl rfl)⟩
theorem f_Lw_21 : vFl "VillagePay$Laws" 21 4 4 := ⟨vC4, vT4, 10, rfl, by decide, vI4, (wt_t1 165 rfl rfl)⟩
theorem p_Lw_21 : vPt "VillagePay$Laws" 21 4 4 true (.array .int) := ⟨vC4, vT4, 10, vY4, rfl, by decide, vI4, (wt_t1 165 rfl rfl), vY4_ok, vN4, rfl, by decide +kernel, fun _ => rfl⟩
theorem f_Sc_55 : vFl "VillagePay$Scale" 55 4 4 := ⟨vC4, vT4, 10, rfl, by decide, vI4, (wt_t1 166 rfl rfl)⟩
theorem f_Re_110 : vFl "VillagePay$Reader" 110 4 4 := ⟨vC4, vT4, 10, rfl, by decide, vI4, (wt_t1 167 rfl rfl)⟩
theorem f_Lw_24 : vFl "VillagePay$Laws" 24 4 5 := ⟨vC4, vT4, 10, rfl, by decide, vI4, (wt_t1 168 rfl rfl)⟩
theorem p_Lw_24 : vPt "VillagePay$Laws" 24 4 5 true (.array .int) := ⟨vC4, vT4, 10, vY4, rfl, by decide, vI4, (wt_t1 168 rfl rfl), vY4_ok, vN4, rfl, by decide +kernel, fun _ => rfl⟩
theorem f_Re_66 : vFl "VillagePay$Reader" 66 4 5 := ⟨vC4, vT4, 10, rfl, by decide, vI4, (wt_t1 169 rfl rfl)⟩
theorem f_Sc_119 : vFl "VillagePay$Scale" 119 4 5 := ⟨vC4, vT4, 10, rfl, by decide, vI4, (wt_t1 170 rfl rfl)⟩
theorem f_Lw_27 : vFl "VillagePay$Laws" 27 4 6 := ⟨vC4, vT4, 10, rfl, by decide, vI4, (wt_t1 171 rfl rfl)⟩
theorem p_Lw_27 : vPt "VillagePay$Laws" 27 4 6 true (.array .int) := ⟨vC4, vT4, 10, vY4, rfl, by decide, vI4, (wt_t1 171 rfl rfl), vY4_ok, vN4, rfl, by decide +kernel, fun _ => rfl⟩
theorem f_Sc_122 : vFl "VillagePay$Scale" 122 4 6 := ⟨vC4, vT4, 10, rfl, by decide, vI4, (wt_t1 172 rfl rfl)⟩
theorem f_Re_92 : vFl "VillagePay$Reader" 92 4 6 := ⟨vC4, vT4, 10, rfl, by decide, vI4, (wt_t1 173 rfl rfl)⟩
theorem f_Lw_30 : vFl "VillagePay$Laws" 30 4 7 := ⟨vC4, vT4, 10, rfl, by decide, vI4, (wt_t1 174 rfl rfl)⟩
theorem p_Lw_30 : vPt "VillagePay$Laws" 30 4 7 true (.array .int) := ⟨vC4, vT4, 10, vY4, rfl, by decide, vI4, (wt_t1 174 rfl rfl), vY4_ok, vN4, rfl, by decide +kernel, fun _ => rfl⟩
theorem f_Sc_128 : vFl "VillagePay$Scale" 128 4 7 := ⟨vC4, vT4, 10, rfl, by decide, vI4, (wt_t1 175 rfl rfl)⟩
theorem f_Re_95 : vFl "VillagePay$Reader" 95 4 7 := ⟨vC4, vT4, 10, rfl, by decide, vI4, (wt_t1 176 rfl rfl)⟩
theorem f_Lw_33 : vFl "VillagePay$Laws" 33 4 8 := ⟨vC4, vT4, 10, rfl, by decide, vI4, (wt_t1 177 rfl rfl)⟩
theorem p_Lw_33 : vPt "VillagePay$Laws" 33 4 8 true (.array .int) := ⟨vC4, vT4, 10, vY4, rfl, by decide, vI4, (wt_t1 177 rfl rfl), vY4_ok, vN4, rfl, by decide +kernel, fun _ => rfl⟩
theorem f_Sc_131 : vFl "VillagePay$Scale" 131 4 8 := ⟨vC4, vT4, 10, rfl, by decide, vI4, (wt_t1 178 rfl rfl)⟩
theorem f_Re_98 : vFl "VillagePay$Reader" 98 4 8 := ⟨vC4, vT4, 10, rfl, by decide, vI4, (wt_t1 179 rfl rfl)⟩
theorem f_Lw_36 : vFl "VillagePay$Laws" 36 4 9 := ⟨vC4, vT4, 10, rfl, by decide, vI4, (wt_t1 180 rfl rfl)⟩
theorem p_Lw_36 : vPt "VillagePay$Laws" 36 4 9 true (.array .boolean) := ⟨vC4, vT4, 10, vY4, rfl, by decide, vI4, (wt_t1 180 rfl rfl), vY4_ok, vN4, rfl, by decide +kernel, fun _ => rfl⟩
theorem f_Sc_137 : vFl "VillagePay$Scale" 137 4 9 := ⟨vC4, vT4, 10, rfl, by decide, vI4, (wt_t1 181 rfl rfl)⟩
theorem f_Re_88 : vFl "VillagePay$Reader" 88 4 9 := ⟨vC4, vT4, 10, rfl, by decide, vI4, (wt_t1 182 rfl rfl)⟩
theorem f_Ta_9 : vFl "VillagePay$Tape" 9 5 0 := ⟨vC5, vT5, 4, rfl, by decide, vI5, (wt_t1 211 rfl rfl)⟩
theorem p_Ta_9 : vPt "VillagePay$Tape" 9 5 0 true (.array .byte) := ⟨vC5, vT5, 4, vY5, rfl, by decide, vI5, (wt_t1 211 rfl rfl), vY5_ok, vN5, rfl, by decide +kernel, fun _ => rfl⟩
theorem f_Re_116 : vFl "VillagePay$Reader" 116 5 0 := ⟨vC5, vT5, 4, rfl, by decide, vI5, (wt_t1 212 rfl rfl)⟩
theorem f_Ta_19 : vFl "VillagePay$Tape" 19 5 1 := ⟨vC5, vT5, 4, rfl, by decide, vI5, (wt_t1 213 rfl rfl)⟩
theorem p_Ta_19 : vPt "VillagePay$Tape" 19 5 1 false (.int) := ⟨vC5, vT5, 4, vY5, rfl, by decide, vI5, (wt_t1 213 rfl rfl), vY5_ok, vN5, rfl, by decide +kernel, fun _ => rfl⟩
theorem f_Re_113 : vFl "VillagePay$Reader" 113 5 1 := ⟨vC5, vT5, 4, rfl, by decide, vI5, (wt_t1 214 rfl rfl)⟩
theorem p_Re_113 : vPt "VillagePay$Reader" 113 5 1 false (.int) := ⟨vC5, vT5, 4, vY5, rfl, by decide, vI5, (wt_t1 214 rfl rfl), vY5_ok, vN5, rfl, by decide +kernel, fun h => by cases h⟩
theorem f_V_197 : vFl "VillagePay" 197 5 1 := ⟨vC5, vT5, 4, rfl, by decide, vI5, (wt_t1 215 rfl rfl)⟩
theorem p_V_197 : vPt "VillagePay" 197 5 1 false (.int) := ⟨vC5, vT5, 4, vY5, rfl, by decide, vI5, (wt_t1 215 rfl rfl), vY5_ok, vN5, rfl, by decide +kernel, fun h => by cases h⟩
theorem f_Re_50 : vFl "VillagePay$Reader" 50 5 2 := ⟨vC5, vT5, 4, rfl, by decide, vI5, (wt_t1 216 rfl rfl)⟩
theorem p_Re_50 : vPt "VillagePay$Reader" 50 5 2 false (.int) := ⟨vC5, vT5, 4, vY5, rfl, by decide, vI5, (wt_t1 216 rfl rfl), vY5_ok, vN5, rfl, by decide +kernel, fun h => by cases h⟩
theorem f_Ta_22 : vFl "VillagePay$Tape" 22 5 2 := ⟨vC5, vT5, 4, rfl, by decide, vI5, (wt_t1 217 rfl rfl)⟩
theorem p_Ta_22 : vPt "VillagePay$Tape" 22 5 2 false (.int) := ⟨vC5, vT5, 4, vY5, rfl, by decide, vI5, (wt_t1 217 rfl rfl), vY5_ok, vN5, rfl, by decide +kernel, fun _ => rfl⟩
theorem f_V_216 : vFl "VillagePay" 216 5 2 := ⟨vC5, vT5, 4, rfl, by decide, vI5, (wt_t1 218 rfl rfl)⟩
theorem p_V_216 : vPt "VillagePay" 216 5 2 false (.int) := ⟨vC5, vT5, 4, vY5, rfl, by decide, vI5, (wt_t1 218 rfl rfl), vY5_ok, vN5, rfl, by decide +kernel, fun h => by cases h⟩
theorem f_Ta_15 : vFl "VillagePay$Tape" 15 5 3 := ⟨vC5, vT5, 4, rfl, by decide, vI5, (wt_t1 219 rfl rfl)⟩
theorem p_Ta_15 : vPt "VillagePay$Tape" 15 5 3 false (.int) := ⟨vC5, vT5, 4, vY5, rfl, by decide, vI5, (wt_t1 219 rfl rfl), vY5_ok, vN5, rfl, by decide +kernel, fun _ => rfl⟩
theorem f_Re_63 : vFl "VillagePay$Reader" 63 5 3 := ⟨vC5, vT5, 4, rfl, by decide, vI5, (wt_t1 220 rfl rfl)⟩
theorem p_Re_63 : vPt "VillagePay$Reader" 63 5 3 false (.int) := ⟨vC5, vT5, 4, vY5, rfl, by decide, vI5, (wt_t1 220 rfl rfl), vY5_ok, vN5, rfl, by decide +kernel, fun h => by cases h⟩
theorem f_V_219 : vFl "VillagePay" 219 5 3 := ⟨vC5, vT5, 4, rfl, by decide, vI5, (wt_t1 221 rfl rfl)⟩
theorem p_V_219 : vPt "VillagePay" 219 5 3 false (.int) := ⟨vC5, vT5, 4, vY5, rfl, by decide, vI5, (wt_t1 221 rfl rfl), vY5_ok, vN5, rfl, by decide +kernel, fun h => by cases h⟩
theorem f_Ne_27 : vFl "VillagePay$News" 27 6 0 := ⟨vC6, vT6, 7, rfl, by decide, vI6, (wt_t1 238 rfl rfl)⟩
theorem p_Ne_27 : vPt "VillagePay$News" 27 6 0 true (.object "VillagePay$Land") := ⟨vC6, vT6, 7, vY6, rfl, by decide, vI6, (wt_t1 238 rfl rfl), vY6_ok, vN6, rfl, by decide +kernel, fun _ => rfl⟩
theorem f_Ne_31 : vFl "VillagePay$News" 31 6 1 := ⟨vC6, vT6, 7, rfl, by decide, vI6, (wt_t1 239 rfl rfl)⟩
theorem p_Ne_31 : vPt "VillagePay$News" 31 6 1 false (.int) := ⟨vC6, vT6, 7, vY6, rfl, by decide, vI6, (wt_t1 239 rfl rfl), vY6_ok, vN6, rfl, by decide +kernel, fun _ => rfl⟩
theorem f_V_296 : vFl "VillagePay" 296 6 1 := ⟨vC6, vT6, 7, rfl, by decide, vI6, (wt_t2 0 rfl rfl)⟩
theorem p_V_296 : vPt "VillagePay" 296 6 1 false (.int) := ⟨vC6, vT6, 7, vY6, rfl, by decide, vI6, (wt_t2 0 rfl rfl), vY6_ok, vN6, rfl, by decide +kernel, fun h => by cases h⟩
theorem f_Ne_9 : vFl "VillagePay$News" 9 6 2 := ⟨vC6, vT6, 7, rfl, by decide, vI6, (wt_t2 1 rfl rfl)⟩
theorem p_Ne_9 : vPt "VillagePay$News" 9 6 2 true (.array .int) := ⟨vC6, vT6, 7, vY6, rfl, by decide, vI6, (wt_t2 1 rfl rfl), vY6_ok, vN6, rfl, by decide +kernel, fun _ => rfl⟩
theorem f_Ne_15 : vFl "VillagePay$News" 15 6 3 := ⟨vC6, vT6, 7, rfl, by decide, vI6, (wt_t2 2 rfl rfl)⟩
theorem p_Ne_15 : vPt "VillagePay$News" 15 6 3 true (.array .int) := ⟨vC6, vT6, 7, vY6, rfl, by decide, vI6, (wt_t2 2 rfl rfl), vY6_ok, vN6, rfl, by decide +kernel, fun _ => rfl⟩
theorem f_Ne_18 : vFl "VillagePay$News" 18 6 4 := ⟨vC6, vT6, 7, rfl, by decide, vI6, (wt_t2 3 rfl rfl)⟩
theorem p_Ne_18 : vPt "VillagePay$News" 18 6 4 true (.array .int) := ⟨vC6, vT6, 7, vY6, rfl, by decide, vI6, (wt_t2 3 rfl rfl), vY6_ok, vN6, rfl, by decide +kernel, fun _ => rfl⟩
theorem f_Ne_21 : vFl "VillagePay$News" 21 6 5 := ⟨vC6, vT6, 7, rfl, by decide, vI6, (wt_t2 4 rfl rfl)⟩
theorem p_Ne_21 : vPt "VillagePay$News" 21 6 5 true (.array .int) := ⟨vC6, vT6, 7, vY6, rfl, by decide, vI6, (wt_t2 4 rfl rfl), vY6_ok, vN6, rfl, by decide +kernel, fun _ => rfl⟩
theorem f_Ne_24 : vFl "VillagePay$News" 24 6 6 := ⟨vC6, vT6, 7, rfl, by decide, vI6, (wt_t2 5 rfl rfl)⟩
theorem p_Ne_24 : vPt "VillagePay$News" 24 6 6 true (.array .int) := ⟨vC6, vT6, 7, vY6, rfl, by decide, vI6, (wt_t2 5 rfl rfl), vY6_ok, vN6, rfl, by decide +kernel, fun _ => rfl⟩
theorem f_Mo_28 : vFl "VillagePay$Moves" 28 7 0 := ⟨vC7, vT7, 8, rfl, by decide, vI7, (wt_t2 27 rfl rfl)⟩
theorem p_Mo_28 : vPt "VillagePay$Moves" 28 7 0 false (.int) := ⟨vC7, vT7, 8, vY7, rfl, by decide, vI7, (wt_t2 27 rfl rfl), vY7_ok, vN7, rfl, by decide +kernel, fun _ => rfl⟩
theorem f_V_272 : vFl "VillagePay" 272 7 0 := ⟨vC7, vT7, 8, rfl, by decide, vI7, (wt_t2 28 rfl rfl)⟩
theorem p_V_272 : vPt "VillagePay" 272 7 0 false (.int) := ⟨vC7, vT7, 8, vY7, rfl, by decide, vI7, (wt_t2 28 rfl rfl), vY7_ok, vN7, rfl, by decide +kernel, fun h => by cases h⟩
theorem f_Mo_9 : vFl "VillagePay$Moves" 9 7 1 := ⟨vC7, vT7, 8, rfl, by decide, vI7, (wt_t2 29 rfl rfl)⟩
theorem p_Mo_9 : vPt "VillagePay$Moves" 9 7 1 true (.array .int) := ⟨vC7, vT7, 8, vY7, rfl, by decide, vI7, (wt_t2 29 rfl rfl), vY7_ok, vN7, rfl, by decide +kernel, fun _ => rfl⟩
theorem f_Mo_15 : vFl "VillagePay$Moves" 15 7 2 := ⟨vC7, vT7, 8, rfl, by decide, vI7, (wt_t2 30 rfl rfl)⟩
theorem p_Mo_15 : vPt "VillagePay$Moves" 15 7 2 true (.array .int) := ⟨vC7, vT7, 8, vY7, rfl, by decide, vI7, (wt_t2 30 rfl rfl), vY7_ok, vN7, rfl, by decide +kernel, fun _ => rfl⟩
theorem f_Mo_38 : vFl "VillagePay$Moves" 38 7 3 := ⟨vC7, vT7, 8, rfl, by decide, vI7, (wt_t2 31 rfl rfl)⟩
theorem p_Mo_38 : vPt "VillagePay$Moves" 38 7 3 false (.int) := ⟨vC7, vT7, 8, vY7, rfl, by decide, vI7, (wt_t2 31 rfl rfl), vY7_ok, vN7, rfl, by decide +kernel, fun _ => rfl⟩
theorem f_V_287 : vFl "VillagePay" 287 7 3 := ⟨vC7, vT7, 8, rfl, by decide, vI7, (wt_t2 32 rfl rfl)⟩
theorem p_V_287 : vPt "VillagePay" 287 7 3 false (.int) := ⟨vC7, vT7, 8, vY7, rfl, by decide, vI7, (wt_t2 32 rfl rfl), vY7_ok, vN7, rfl, by decide +kernel, fun h => by cases h⟩
theorem f_Mo_18 : vFl "VillagePay$Moves" 18 7 4 := ⟨vC7, vT7, 8, rfl, by decide, vI7, (wt_t2 33 rfl rfl)⟩
theorem p_Mo_18 : vPt "VillagePay$Moves" 18 7 4 true (.array .int) := ⟨vC7, vT7, 8, vY7, rfl, by decide, vI7, (wt_t2 33 rfl rfl), vY7_ok, vN7, rfl, by decide +kernel, fun _ => rfl⟩
theorem f_V_290 : vFl "VillagePay" 290 7 4 := ⟨vC7, vT7, 8, rfl, by decide, vI7, (wt_t2 34 rfl rfl)⟩
theorem f_Mo_41 : vFl "VillagePay$Moves" 41 7 5 := ⟨vC7, vT7, 8, rfl, by decide, vI7, (wt_t2 35 rfl rfl)⟩
theorem p_Mo_41 : vPt "VillagePay$Moves" 41 7 5 false (.int) := ⟨vC7, vT7, 8, vY7, rfl, by decide, vI7, (wt_t2 35 rfl rfl), vY7_ok, vN7, rfl, by decide +kernel, fun _ => rfl⟩
theorem f_Mo_21 : vFl "VillagePay$Moves" 21 7 6 := ⟨vC7, vT7, 8, rfl, by decide, vI7, (wt_t2 36 rfl rfl)⟩
theorem p_Mo_21 : vPt "VillagePay$Moves" 21 7 6 true (.array .int) := ⟨vC7, vT7, 8, vY7, rfl, by decide, vI7, (wt_t2 36 rfl rfl), vY7_ok, vN7, rfl, by decide +kernel, fun _ => rfl⟩
theorem f_Mo_24 : vFl "VillagePay$Moves" 24 7 7 := ⟨vC7, vT7, 8, rfl, by decide, vI7, (wt_t2 37 rfl rfl)⟩
theorem p_Mo_24 : vPt "VillagePay$Moves" 24 7 7 true (.array .boolean) := ⟨vC7, vT7, 8, vY7, rfl, by decide, vI7, (wt_t2 37 rfl rfl), vY7_ok, vN7, rfl, by decide +kernel, fun _ => rfl⟩
theorem f_St_10 : vFl "VillagePay$State" 10 1 0 := ⟨vC1, vT1, 6, rfl, by decide, vI1, (wt_t2 55 rfl rfl)⟩
theorem p_St_10 : vPt "VillagePay$State" 10 1 0 true (.object "VillagePay$Land") := ⟨vC1, vT1, 6, vY1, rfl, by decide, vI1, (wt_t2 55 rfl rfl), vY1_ok, vN1, rfl, by decide +kernel, fun _ => rfl⟩
theorem f_V_62 : vFl "VillagePay" 62 1 0 := ⟨vC1, vT1, 6, rfl, by decide, vI1, (wt_t2 56 rfl rfl)⟩
theorem f_De_35 : vFl "VillagePay$Dealer" 35 1 0 := ⟨vC1, vT1, 6, rfl, by decide, vI1, (wt_t2 57 rfl rfl)⟩
theorem f_Ac_49 : vFl "VillagePay$Accounts" 49 1 0 := ⟨vC1, vT1, 6, rfl, by decide, vI1, (wt_t2 58 rfl rfl)⟩
theorem f_Sc_97 : vFl "VillagePay$Scale" 97 1 0 := ⟨vC1, vT1, 6, rfl, by decide, vI1, (wt_t2 59 rfl rfl)⟩
theorem f_St_19 : vFl "VillagePay$State" 19 1 1 := ⟨vC1, vT1, 6, rfl, by decide, vI1, (wt_t2 60 rfl rfl)⟩
theorem p_St_19 : vPt "VillagePay$State" 19 1 1 true (.object "VillagePay$Book") := ⟨vC1, vT1, 6, vY1, rfl, by decide, vI1, (wt_t2 60 rfl rfl), vY1_ok, vN1, rfl, by decide +kernel, fun _ => rfl⟩
theorem f_V_67 : vFl "VillagePay" 67 1 1 := ⟨vC1, vT1, 6, rfl, by decide, vI1, (wt_t2 61 rfl rfl)⟩
theorem f_Ac_23 : vFl "VillagePay$Accounts" 23 1 1 := ⟨vC1, vT1, 6, rfl, by decide, vI1, (wt_t2 62 rfl rfl)⟩
theorem f_De_72 : vFl "VillagePay$Dealer" 72 1 1 := ⟨vC1, vT1, 6, rfl, by decide, vI1, (wt_t2 63 rfl rfl)⟩
theorem f_Sc_62 : vFl "VillagePay$Scale" 62 1 1 := ⟨vC1, vT1, 6, rfl, by decide, vI1, (wt_t2 64 rfl rfl)⟩
theorem f_St_26 : vFl "VillagePay$State" 26 1 2 := ⟨vC1, vT1, 6, rfl, by decide, vI1, (wt_t2 65 rfl rfl)⟩
theorem p_St_26 : vPt "VillagePay$State" 26 1 2 true (.object "VillagePay$Laws") := ⟨vC1, vT1, 6, vY1, rfl, by decide, vI1, (wt_t2 65 rfl rfl), vY1_ok, vN1, rfl, by decide +kernel, fun _ => rfl⟩
theorem f_V_26 : vFl "VillagePay" 26 1 2 := ⟨vC1, vT1, 6, rfl, by decide, vI1, (wt_t2 66 rfl rfl)⟩
theorem f_Sc_28 : vFl "VillagePay$Scale" 28 1 2 := ⟨vC1, vT1, 6, rfl, by decide, vI1, (wt_t2 67 rfl rfl)⟩
theorem f_Ac_93 : vFl "VillagePay$Accounts" 93 1 2 := ⟨vC1, vT1, 6, rfl, by decide, vI1, (wt_t2 68 rfl rfl)⟩
theorem f_V_22 : vFl "VillagePay" 22 1 3 := ⟨vC1, vT1, 6, rfl, by decide, vI1, (wt_t2 69 rfl rfl)⟩
theorem f_St_33 : vFl "VillagePay$State" 33 1 3 := ⟨vC1, vT1, 6, rfl, by decide, vI1, (wt_t2 70 rfl rfl)⟩
theorem p_St_33 : vPt "VillagePay$State" 33 1 3 true (.object "VillagePay$Tape") := ⟨vC1, vT1, 6, vY1, rfl, by decide, vI1, (wt_t2 70 rfl rfl), vY1_ok, vN1, rfl, by decide +kernel, fun _ => rfl⟩
theorem f_St_42 : vFl "VillagePay$State" 42 1 4 := ⟨vC1, vT1, 6, rfl, by decide, vI1, (wt_t2 71 rfl rfl)⟩
theorem p_St_42 : vPt "VillagePay$State" 42 1 4 true (.object "VillagePay$News") := ⟨vC1, vT1, 6, vY1, rfl, by decide, vI1, (wt_t2 71 rfl rfl), vY1_ok, vN1, rfl, by decide +kernel, fun _ => rfl⟩
theorem f_V_72 : vFl "VillagePay" 72 1 4 := ⟨vC1, vT1, 6, rfl, by decide, vI1, (wt_t2 72 rfl rfl)⟩
theorem f_Sc_109 : vFl "VillagePay$Scale" 109 1 4 := ⟨vC1, vT1, 6, rfl, by decide, vI1, (wt_t2 73 rfl rfl)⟩
theorem f_St_49 : vFl "VillagePay$State" 49 1 5 := ⟨vC1, vT1, 6, rfl, by decide, vI1, (wt_t2 74 rfl rfl)⟩
theorem p_St_49 : vPt "VillagePay$State" 49 1 5 true (.object "VillagePay$Moves") := ⟨vC1, vT1, 6, vY1, rfl, by decide, vI1, (wt_t2 74 rfl rfl), vY1_ok, vN1, rfl, by decide +kernel, fun _ => rfl⟩
theorem f_V_77 : vFl "VillagePay" 77 1 5 := ⟨vC1, vT1, 6, rfl, by decide, vI1, (wt_t2 75 rfl rfl)⟩
theorem f_Re_9 : vFl "VillagePay$Reader" 9 8 0 := ⟨vC8, vT8, 7, rfl, by decide, vI8, (wt_t2 96 rfl rfl)⟩
theorem p_Re_9 : vPt "VillagePay$Reader" 9 8 0 true (.object "VillagePay$Tape") := ⟨vC8, vT8, 7, vY8, rfl, by decide, vI8, (wt_t2 96 rfl rfl), vY8_ok, vN8, rfl, by decide +kernel, fun _ => rfl⟩
theorem f_Re_15 : vFl "VillagePay$Reader" 15 8 1 := ⟨vC8, vT8, 7, rfl, by decide, vI8, (wt_t2 97 rfl rfl)⟩
theorem p_Re_15 : vPt "VillagePay$Reader" 15 8 1 true (.object "VillagePay$Laws") := ⟨vC8, vT8, 7, vY8, rfl, by decide, vI8, (wt_t2 97 rfl rfl), vY8_ok, vN8, rfl, by decide +kernel, fun _ => rfl⟩
theorem f_Re_25 : vFl "VillagePay$Reader" 25 8 2 := ⟨vC8, vT8, 7, rfl, by decide, vI8, (wt_t2 98 rfl rfl)⟩
theorem p_Re_25 : vPt "VillagePay$Reader" 25 8 2 false (.int) := ⟨vC8, vT8, 7, vY8, rfl, by decide, vI8, (wt_t2 98 rfl rfl), vY8_ok, vN8, rfl, by decide +kernel, fun _ => rfl⟩
theorem f_Re_34 : vFl "VillagePay$Reader" 34 8 3 := ⟨vC8, vT8, 7, rfl, by decide, vI8, (wt_t2 99 rfl rfl)⟩
theorem p_Re_34 : vPt "VillagePay$Reader" 34 8 3 false (.int) := ⟨vC8, vT8, 7, vY8, rfl, by decide, vI8, (wt_t2 99 rfl rfl), vY8_ok, vN8, rfl, by decide +kernel, fun _ => rfl⟩
theorem f_Re_60 : vFl "VillagePay$Reader" 60 8 4 := ⟨vC8, vT8, 7, rfl, by decide, vI8, (wt_t2 100 rfl rfl)⟩
theorem p_Re_60 : vPt "VillagePay$Reader" 60 8 4 false (.int) := ⟨vC8, vT8, 7, vY8, rfl, by decide, vI8, (wt_t2 100 rfl rfl), vY8_ok, vN8, rfl, by decide +kernel, fun _ => rfl⟩
theorem f_Re_101 : vFl "VillagePay$Reader" 101 8 5 := ⟨vC8, vT8, 7, rfl, by decide, vI8, (wt_t2 101 rfl rfl)⟩
theorem p_Re_101 : vPt "VillagePay$Reader" 101 8 5 false (.int) := ⟨vC8, vT8, 7, vY8, rfl, by decide, vI8, (wt_t2 101 rfl rfl), vY8_ok, vN8, rfl, by decide +kernel, fun _ => rfl⟩
theorem f_Re_28 : vFl "VillagePay$Reader" 28 8 6 := ⟨vC8, vT8, 7, rfl, by decide, vI8, (wt_t2 102 rfl rfl)⟩
theorem p_Re_28 : vPt "VillagePay$Reader" 28 8 6 false (.int) := ⟨vC8, vT8, 7, vY8, rfl, by decide, vI8, (wt_t2 102 rfl rfl), vY8_ok, vN8, rfl, by decide +kernel, fun _ => rfl⟩
theorem f_Sc_9 : vFl "VillagePay$Scale" 9 9 0 := ⟨vC9, vT9, 11, rfl, by decide, vI9, (wt_t2 124 rfl rfl)⟩
theorem p_Sc_9 : vPt "VillagePay$Scale" 9 9 0 true (.object "VillagePay$State") := ⟨vC9, vT9, 11, vY9, rfl, by decide, vI9, (wt_t2 124 rfl rfl), vY9_ok, vN9, rfl, by decide +kernel, fun _ => rfl⟩
theorem f_Sc_15 : vFl "VillagePay$Scale" 15 9 1 := ⟨vC9, vT9, 11, rfl, by decide, vI9, (wt_t2 125 rfl rfl)⟩
theorem p_Sc_15 : vPt "VillagePay$Scale" 15 9 1 false (.int) := ⟨vC9, vT9, 11, vY9, rfl, by decide, vI9, (wt_t2 125 rfl rfl), vY9_ok, vN9, rfl, by decide +kernel, fun _ => rfl⟩
theorem f_V_226 : vFl "VillagePay" 226 9 1 := ⟨vC9, vT9, 11, rfl, by decide, vI9, (wt_t2 126 rfl rfl)⟩
theorem p_V_226 : vPt "VillagePay" 226 9 1 false (.int) := ⟨vC9, vT9, 11, vY9, rfl, by decide, vI9, (wt_t2 126 rfl rfl), vY9_ok, vN9, rfl, by decide +kernel, fun h => by cases h⟩
theorem f_Sc_19 : vFl "VillagePay$Scale" 19 9 2 := ⟨vC9, vT9, 11, rfl, by decide, vI9, (wt_t2 127 rfl rfl)⟩
theorem p_Sc_19 : vPt "VillagePay$Scale" 19 9 2 false (.int) := ⟨vC9, vT9, 11, vY9, rfl, by decide, vI9, (wt_t2 127 rfl rfl), vY9_ok, vN9, rfl, by decide +kernel, fun _ => rfl⟩
theorem f_V_229 : vFl "VillagePay" 229 9 2 := ⟨vC9, vT9, 11, rfl, by decide, vI9, (wt_t2 128 rfl rfl)⟩
theorem p_V_229 : vPt "VillagePay" 229 9 2 false (.int) := ⟨vC9, vT9, 11, vY9, rfl, by decide, vI9, (wt_t2 128 rfl rfl), vY9_ok, vN9, rfl, by decide +kernel, fun h => by cases h⟩
theorem f_Sc_22 : vFl "VillagePay$Scale" 22 9 3 := ⟨vC9, vT9, 11, rfl, by decide, vI9, (wt_t2 129 rfl rfl)⟩
theorem p_Sc_22 : vPt "VillagePay$Scale" 22 9 3 false (.int) := ⟨vC9, vT9, 11, vY9, rfl, by decide, vI9, (wt_t2 129 rfl rfl), vY9_ok, vN9, rfl, by decide +kernel, fun _ => rfl⟩
theorem f_Ac_41 : vFl "VillagePay$Accounts" 41 9 3 := ⟨vC9, vT9, 11, rfl, by decide, vI9, (wt_t2 130 rfl rfl)⟩
theorem p_Ac_41 : vPt "VillagePay$Accounts" 41 9 3 false (.int) := ⟨vC9, vT9, 11, vY9, rfl, by decide, vI9, (wt_t2 130 rfl rfl), vY9_ok, vN9, rfl, by decide +kernel, fun h => by cases h⟩
theorem f_V_232 : vFl "VillagePay" 232 9 3 := ⟨vC9, vT9, 11, rfl, by decide, vI9, (wt_t2 131 rfl rfl)⟩
theorem p_V_232 : vPt "VillagePay" 232 9 3 false (.int) := ⟨vC9, vT9, 11, vY9, rfl, by decide, vI9, (wt_t2 131 rfl rfl), vY9_ok, vN9, rfl, by decide +kernel, fun h => by cases h⟩
theorem f_Sc_25 : vFl "VillagePay$Scale" 25 9 4 := ⟨vC9, vT9, 11, rfl, by decide, vI9, (wt_t2 132 rfl rfl)⟩
theorem p_Sc_25 : vPt "VillagePay$Scale" 25 9 4 false (.int) := ⟨vC9, vT9, 11, vY9, rfl, by decide, vI9, (wt_t2 132 rfl rfl), vY9_ok, vN9, rfl, by decide +kernel, fun _ => rfl⟩
theorem f_V_235 : vFl "VillagePay" 235 9 4 := ⟨vC9, vT9, 11, rfl, by decide, vI9, (wt_t2 133 rfl rfl)⟩
theorem p_V_235 : vPt "VillagePay" 235 9 4 false (.int) := ⟨vC9, vT9, 11, vY9, rfl, by decide, vI9, (wt_t2 133 rfl rfl), vY9_ok, vN9, rfl, by decide +kernel, fun h => by cases h⟩
theorem f_Sc_72 : vFl "VillagePay$Scale" 72 9 5 := ⟨vC9, vT9, 11, rfl, by decide, vI9, (wt_t2 134 rfl rfl)⟩
theorem p_Sc_72 : vPt "VillagePay$Scale" 72 9 5 false (.int) := ⟨vC9, vT9, 11, vY9, rfl, by decide, vI9, (wt_t2 134 rfl rfl), vY9_ok, vN9, rfl, by decide +kernel, fun _ => rfl⟩
theorem f_Sc_78 : vFl "VillagePay$Scale" 78 9 6 := ⟨vC9, vT9, 11, rfl, by decide, vI9, (wt_t2 135 rfl rfl)⟩
theorem p_Sc_78 : vPt "VillagePay$Scale" 78 9 6 false (.int) := ⟨vC9, vT9, 11, vY9, rfl, by decide, vI9, (wt_t2 135 rfl rfl), vY9_ok, vN9, rfl, by decide +kernel, fun _ => rfl⟩
theorem f_Sc_84 : vFl "VillagePay$Scale" 84 9 7 := ⟨vC9, vT9, 11, rfl, by decide, vI9, (wt_t2 136 rfl rfl)⟩
theorem p_Sc_84 : vPt "VillagePay$Scale" 84 9 7 false (.int) := ⟨vC9, vT9, 11, vY9, rfl, by decide, vI9, (wt_t2 136 rfl rfl), vY9_ok, vN9, rfl, by decide +kernel, fun _ => rfl⟩
theorem f_Sc_87 : vFl "VillagePay$Scale" 87 9 8 := ⟨vC9, vT9, 11, rfl, by decide, vI9, (wt_t2 137 rfl rfl)⟩
theorem p_Sc_87 : vPt "VillagePay$Scale" 87 9 8 false (.int) := ⟨vC9, vT9, 11, vY9, rfl, by decide, vI9, (wt_t2 137 rfl rfl), vY9_ok, vN9, rfl, by decide +kernel, fun _ => rfl⟩
theorem f_Sc_90 : vFl "VillagePay$Scale" 90 9 9 := ⟨vC9, vT9, 11, rfl, by decide, vI9, (wt_t2 138 rfl rfl)⟩
theorem p_Sc_90 : vPt "VillagePay$Scale" 90 9 9 false (.int) := ⟨vC9, vT9, 11, vY9, rfl, by decide, vI9, (wt_t2 138 rfl rfl), vY9_ok, vN9, rfl, by decide +kernel, fun _ => rfl⟩
theorem f_Sc_93 : vFl "VillagePay$Scale" 93 9 10 := ⟨vC9, vT9, 11, rfl, by decide, vI9, (wt_t2 139 rfl rfl)⟩
theorem p_Sc_93 : vPt "VillagePay$Scale" 93 9 10 false (.boolean) := ⟨vC9, vT9, 11, vY9, rfl, by decide, vI9, (wt_t2 139 rfl rfl), vY9_ok, vN9, rfl, by decide +kernel, fun _ => rfl⟩
theorem f_Ac_15 : vFl "VillagePay$Accounts" 15 10 0 := ⟨vC10, vT10, 3, rfl, by decide, vI10, (wt_t2 169 rfl rfl)⟩
theorem p_Ac_15 : vPt "VillagePay$Accounts" 15 10 0 true (.object "VillagePay$State") := ⟨vC10, vT10, 3, vY10, rfl, by decide, vI10, (wt_t2 169 rfl rfl), vY10_ok, vN10, rfl, by decide +kernel, fun _ => rfl⟩
theorem f_Ac_19 : vFl "VillagePay$Accounts" 19 10 1 := ⟨vC10, vT10, 3, rfl, by decide, vI10, (wt_t2 170 rfl rfl)⟩
theorem p_Ac_19 : vPt "VillagePay$Accounts" 19 10 1 true (.object "VillagePay$Scale") := ⟨vC10, vT10, 3, vY10, rfl, by decide, vI10, (wt_t2 170 rfl rfl), vY10_ok, vN10, rfl, by decide +kernel, fun _ => rfl⟩
theorem f_Ac_9 : vFl "VillagePay$Accounts" 9 10 2 := ⟨vC10, vT10, 3, rfl, by decide, vI10, (wt_t2 171 rfl rfl)⟩
theorem p_Ac_9 : vPt "VillagePay$Accounts" 9 10 2 true (.array .boolean) := ⟨vC10, vT10, 3, vY10, rfl, by decide, vI10, (wt_t2 171 rfl rfl), vY10_ok, vN10, rfl, by decide +kernel, fun _ => rfl⟩
theorem f_De_27 : vFl "VillagePay$Dealer" 27 11 0 := ⟨vC11, vT11, 10, rfl, by decide, vI11, (wt_t2 185 rfl rfl)⟩
theorem p_De_27 : vPt "VillagePay$Dealer" 27 11 0 true (.object "VillagePay$State") := ⟨vC11, vT11, 10, vY11, rfl, by decide, vI11, (wt_t2 185 rfl rfl), vY11_ok, vN11, rfl, by decide +kernel, fun _ => rfl⟩
theorem f_De_31 : vFl "VillagePay$Dealer" 31 11 1 := ⟨vC11, vT11, 10, rfl, by decide, vI11, (wt_t2 186 rfl rfl)⟩
theorem p_De_31 : vPt "VillagePay$Dealer" 31 11 1 true (.object "VillagePay$Scale") := ⟨vC11, vT11, 10, vY11, rfl, by decide, vI11, (wt_t2 186 rfl rfl), vY11_ok, vN11, rfl, by decide +kernel, fun _ => rfl⟩
theorem f_De_9 : vFl "VillagePay$Dealer" 9 11 2 := ⟨vC11, vT11, 10, rfl, by decide, vI11, (wt_t2 187 rfl rfl)⟩
theorem p_De_9 : vPt "VillagePay$Dealer" 9 11 2 true (.array .int) := ⟨vC11, vT11, 10, vY11, rfl, by decide, vI11, (wt_t2 187 rfl rfl), vY11_ok, vN11, rfl, by decide +kernel, fun _ => rfl⟩
theorem f_De_15 : vFl "VillagePay$Dealer" 15 11 3 := ⟨vC11, vT11, 10, rfl, by decide, vI11, (wt_t2 188 rfl rfl)⟩
theorem p_De_15 : vPt "VillagePay$Dealer" 15 11 3 true (.array .int) := ⟨vC11, vT11, 10, vY11, rfl, by decide, vI11, (wt_t2 188 rfl rfl), vY11_ok, vN11, rfl, by decide +kernel, fun _ => rfl⟩
theorem f_De_114 : vFl "VillagePay$Dealer" 114 11 4 := ⟨vC11, vT11, 10, rfl, by decide, vI11, (wt_t2 189 rfl rfl)⟩
theorem p_De_114 : vPt "VillagePay$Dealer" 114 11 4 false (.int) := ⟨vC11, vT11, 10, vY11, rfl, by decide, vI11, (wt_t2 189 rfl rfl), vY11_ok, vN11, rfl, by decide +kernel, fun _ => rfl⟩
theorem f_De_18 : vFl "VillagePay$Dealer" 18 11 5 := ⟨vC11, vT11, 10, rfl, by decide, vI11, (wt_t2 190 rfl rfl)⟩
theorem p_De_18 : vPt "VillagePay$Dealer" 18 11 5 true (.array .int) := ⟨vC11, vT11, 10, vY11, rfl, by decide, vI11, (wt_t2 190 rfl rfl), vY11_ok, vN11, rfl, by decide +kernel, fun _ => rfl⟩
theorem f_De_21 : vFl "VillagePay$Dealer" 21 11 6 := ⟨vC11, vT11, 10, rfl, by decide, vI11, (wt_t2 191 rfl rfl)⟩
theorem p_De_21 : vPt "VillagePay$Dealer" 21 11 6 true (.array .int) := ⟨vC11, vT11, 10, vY11, rfl, by decide, vI11, (wt_t2 191 rfl rfl), vY11_ok, vN11, rfl, by decide +kernel, fun _ => rfl⟩
theorem f_De_24 : vFl "VillagePay$Dealer" 24 11 7 := ⟨vC11, vT11, 10, rfl, by decide, vI11, (wt_t2 192 rfl rfl)⟩
theorem p_De_24 : vPt "VillagePay$Dealer" 24 11 7 true (.array .int) := ⟨vC11, vT11, 10, vY11, rfl, by decide, vI11, (wt_t2 192 rfl rfl), vY11_ok, vN11, rfl, by decide +kernel, fun _ => rfl⟩
theorem f_De_111 : vFl "VillagePay$Dealer" 111 11 8 := ⟨vC11, vT11, 10, rfl, by decide, vI11, (wt_t2 193 rfl rfl)⟩
theorem p_De_111 : vPt "VillagePay$Dealer" 111 11 8 false (.int) := ⟨vC11, vT11, 10, vY11, rfl, by decide, vI11, (wt_t2 193 rfl rfl), vY11_ok, vN11, rfl, by decide +kernel, fun _ => rfl⟩
theorem f_De_99 : vFl "VillagePay$Dealer" 99 11 9 := ⟨vC11, vT11, 10, rfl, by decide, vI11, (wt_t2 194 rfl rfl)⟩
theorem p_De_99 : vPt "VillagePay$Dealer" 99 11 9 false (.int) := ⟨vC11, vT11, 10, vY11, rfl, by decide, vI11, (wt_t2 194 rfl rfl), vY11_ok, vN11, rfl, by decide +kernel, fun _ => rfl⟩
theorem f_V_266 : vFl "VillagePay" 266 11 9 := ⟨vC11, vT11, 10, rfl, by decide, vI11, (wt_t2 195 rfl rfl)⟩
theorem p_V_266 : vPt "VillagePay" 266 11 9 false (.int) := ⟨vC11, vT11, 10, vY11, rfl, by decide, vI11, (wt_t2 195 rfl rfl), vY11_ok, vN11, rfl, by decide +kernel, fun h => by cases h⟩
theorem f_V_10 : vFl "VillagePay" 10 0 0 := ⟨vC0, vT0, 10, rfl, by decide, vI0, (wt_t2 217 rfl rfl)⟩
theorem p_V_10 : vPt "VillagePay" 10 0 0 true (.object "VillagePay$State") := ⟨vC0, vT0, 10, vY0, rfl, by decide, vI0, (wt_t2 217 rfl rfl), vY0_ok, vN0, rfl, by decide +kernel, fun _ => rfl⟩
theorem f_V_16 : vFl "VillagePay" 16 0 1 := ⟨vC0, vT0, 10, rfl, by decide, vI0, (wt_t2 218 rfl rfl)⟩
theorem p_V_16 : vPt "VillagePay" 16 0 1 true (.array (.object "VillagePay$State")) := ⟨vC0, vT0, 10, vY0, rfl, by decide, vI0, (wt_t2 218 rfl rfl), vY0_ok, vN0, rfl, by decide +kernel, fun _ => rfl⟩
theorem f_V_33 : vFl "VillagePay" 33 0 2 := ⟨vC0, vT0, 10, rfl, by decide, vI0, (wt_t2 219 rfl rfl)⟩
theorem p_V_33 : vPt "VillagePay" 33 0 2 true (.object "VillagePay$Reader") := ⟨vC0, vT0, 10, vY0, rfl, by decide, vI0, (wt_t2 219 rfl rfl), vY0_ok, vN0, rfl, by decide +kernel, fun _ => rfl⟩
theorem f_V_42 : vFl "VillagePay" 42 0 3 := ⟨vC0, vT0, 10, rfl, by decide, vI0, (wt_t2 220 rfl rfl)⟩
theorem p_V_42 : vPt "VillagePay" 42 0 3 true (.object "VillagePay$Scale") := ⟨vC0, vT0, 10, vY0, rfl, by decide, vI0, (wt_t2 220 rfl rfl), vY0_ok, vN0, rfl, by decide +kernel, fun _ => rfl⟩
theorem f_V_51 : vFl "VillagePay" 51 0 4 := ⟨vC0, vT0, 10, rfl, by decide, vI0, (wt_t2 221 rfl rfl)⟩
theorem p_V_51 : vPt "VillagePay" 51 0 4 true (.object "VillagePay$Accounts") := ⟨vC0, vT0, 10, vY0, rfl, by decide, vI0, (wt_t2 221 rfl rfl), vY0_ok, vN0, rfl, by decide +kernel, fun _ => rfl⟩
theorem f_V_58 : vFl "VillagePay" 58 0 5 := ⟨vC0, vT0, 10, rfl, by decide, vI0, (wt_t2 222 rfl rfl)⟩
theorem p_V_58 : vPt "VillagePay" 58 0 5 true (.object "VillagePay$Dealer") := ⟨vC0, vT0, 10, vY0, rfl, by decide, vI0, (wt_t2 222 rfl rfl), vY0_ok, vN0, rfl, by decide +kernel, fun _ => rfl⟩
theorem f_V_66 : vFl "VillagePay" 66 0 6 := ⟨vC0, vT0, 10, rfl, by decide, vI0, (wt_t2 223 rfl rfl)⟩
theorem p_V_66 : vPt "VillagePay" 66 0 6 true (.object "VillagePay$Land") := ⟨vC0, vT0, 10, vY0, rfl, by decide, vI0, (wt_t2 223 rfl rfl), vY0_ok, vN0, rfl, by decide +kernel, fun _ => rfl⟩
theorem f_V_71 : vFl "VillagePay" 71 0 7 := ⟨vC0, vT0, 10, rfl, by decide, vI0, (wt_t2 224 rfl rfl)⟩
theorem p_V_71 : vPt "VillagePay" 71 0 7 true (.object "VillagePay$Book") := ⟨vC0, vT0, 10, vY0, rfl, by decide, vI0, (wt_t2 224 rfl rfl), vY0_ok, vN0, rfl, by decide +kernel, fun _ => rfl⟩
theorem f_V_76 : vFl "VillagePay" 76 0 8 := ⟨vC0, vT0, 10, rfl, by decide, vI0, (wt_t2 225 rfl rfl)⟩
theorem p_V_76 : vPt "VillagePay" 76 0 8 true (.object "VillagePay$News") := ⟨vC0, vT0, 10, vY0, rfl, by decide, vI0, (wt_t2 225 rfl rfl), vY0_ok, vN0, rfl, by decide +kernel, fun _ => rfl⟩
theorem f_V_81 : vFl "VillagePay" 81 0 9 := ⟨vC0, vT0, 10, rfl, by decide, vI0, (wt_t2 226 rfl rfl)⟩
theorem p_V_81 : vPt "VillagePay" 81 0 9 true (.object "VillagePay$Moves") := ⟨vC0, vT0, 10, vY0, rfl, by decide, vI0, (wt_t2 226 rfl rfl), vY0_ok, vN0, rfl, by decide +kernel, fun _ => rfl⟩
theorem f_M_7 : vFl "VillagePayModel" 7 12 0 := ⟨vC12, vT12, 26, rfl, by decide, vI12, (wt_t5 118 rfl rfl)⟩
theorem p_M_7 : vPt "VillagePayModel" 7 12 0 true (.array .int) := ⟨vC12, vT12, 26, vY12, rfl, by decide, vI12, (wt_t5 118 rfl rfl), vY12_ok, vN12, rfl, by decide +kernel, fun _ => rfl⟩
theorem f_M_13 : vFl "VillagePayModel" 13 12 1 := ⟨vC12, vT12, 26, rfl, by decide, vI12, (wt_t5 119 rfl rfl)⟩
theorem p_M_13 : vPt "VillagePayModel" 13 12 1 true (.array .boolean) := ⟨vC12, vT12, 26, vY12, rfl, by decide, vI12, (wt_t5 119 rfl rfl), vY12_ok, vN12, rfl, by decide +kernel, fun _ => rfl⟩
theorem f_M_17 : vFl "VillagePayModel" 17 12 2 := ⟨vC12, vT12, 26, rfl, by decide, vI12, (wt_t5 120 rfl rfl)⟩
theorem p_M_17 : vPt "VillagePayModel" 17 12 2 true (.array .int) := ⟨vC12, vT12, 26, vY12, rfl, by decide, vI12, (wt_t5 120 rfl rfl), vY12_ok, vN12, rfl, by decide +kernel, fun _ => rfl⟩
theorem f_M_131 : vFl "VillagePayModel" 131 12 3 := ⟨vC12, vT12, 26, rfl, by decide, vI12, (wt_t5 121 rfl rfl)⟩
theorem p_M_131 : vPt "VillagePayModel" 131 12 3 false (.int) := ⟨vC12, vT12, 26, vY12, rfl, by decide, vI12, (wt_t5 121 rfl rfl), vY12_ok, vN12, rfl, by decide +kernel, fun _ => rfl⟩
theorem f_M_157 : vFl "VillagePayModel" 157 12 4 := ⟨vC12, vT12, 26, rfl, by decide, vI12, (wt_t5 122 rfl rfl)⟩
theorem p_M_157 : vPt "VillagePayModel" 157 12 4 false (.int) := ⟨vC12, vT12, 26, vY12, rfl, by decide, vI12, (wt_t5 122 rfl rfl), vY12_ok, vN12, rfl, by decide +kernel, fun _ => rfl⟩
theorem f_M_164 : vFl "VillagePayModel" 164 12 5 := ⟨vC12, vT12, 26, rfl, by decide, vI12, (wt_t5 123 rfl rfl)⟩
theorem p_M_164 : vPt "VillagePayModel" 164 12 5 false (.int) := ⟨vC12, vT12, 26, vY12, rfl, by decide, vI12, (wt_t5 123 rfl rfl), vY12_ok, vN12, rfl, by decide +kernel, fun _ => rfl⟩
theorem f_M_167 : vFl "VillagePayModel" 167 12 6 := ⟨vC12, vT12, 26, rfl, by decide, vI12, (wt_t5 124 rfl rfl)⟩
theorem p_M_167 : vPt "VillagePayModel" 167 12 6 false (.int) := ⟨vC12, vT12, 26, vY12, rfl, by decide, vI12, (wt_t5 124 rfl rfl), vY12_ok, vN12, rfl, by decide +kernel, fun _ => rfl⟩
theorem f_M_182 : vFl "VillagePayModel" 182 12 7 := ⟨vC12, vT12, 26, rfl, by decide, vI12, (wt_t5 125 rfl rfl)⟩
theorem p_M_182 : vPt "VillagePayModel" 182 12 7 false (.int) := ⟨vC12, vT12, 26, vY12, rfl, by decide, vI12, (wt_t5 125 rfl rfl), vY12_ok, vN12, rfl, by decide +kernel, fun _ => rfl⟩
theorem f_M_185 : vFl "VillagePayModel" 185 12 8 := ⟨vC12, vT12, 26, rfl, by decide, vI12, (wt_t5 126 rfl rfl)⟩
theorem p_M_185 : vPt "VillagePayModel" 185 12 8 false (.int) := ⟨vC12, vT12, 26, vY12, rfl, by decide, vI12, (wt_t5 126 rfl rfl), vY12_ok, vN12, rfl, by decide +kernel, fun _ => rfl⟩
theorem f_M_176 : vFl "VillagePayModel" 176 12 9 := ⟨vC12, vT12, 26, rfl, by decide, vI12, (wt_t5 127 rfl rfl)⟩
theorem p_M_176 : vPt "VillagePayModel" 176 12 9 false (.int) := ⟨vC12, vT12, 26, vY12, rfl, by decide, vI12, (wt_t5 127 rfl rfl), vY12_ok, vN12, rfl, by decide +kernel, fun _ => rfl⟩
theorem f_M_191 : vFl "VillagePayModel" 191 12 10 := ⟨vC12, vT12, 26, rfl, by decide, vI12, (wt_t5 128 rfl rfl)⟩
theorem p_M_191 : vPt "VillagePayModel" 191 12 10 false (.boolean) := ⟨vC12, vT12, 26, vY12, rfl, by decide, vI12, (wt_t5 128 rfl rfl), vY12_ok, vN12, rfl, by decide +kernel, fun _ => rfl⟩
theorem f_M_207 : vFl "VillagePayModel" 207 12 11 := ⟨vC12, vT12, 26, rfl, by decide, vI12, (wt_t5 129 rfl rfl)⟩
theorem p_M_207 : vPt "VillagePayModel" 207 12 11 false (.int) := ⟨vC12, vT12, 26, vY12, rfl, by decide, vI12, (wt_t5 129 rfl rfl), vY12_ok, vN12, rfl, by decide +kernel, fun _ => rfl⟩
theorem f_M_20 : vFl "VillagePayModel" 20 12 12 := ⟨vC12, vT12, 26, rfl, by decide, vI12, (wt_t5 130 rfl rfl)⟩
theorem p_M_20 : vPt "VillagePayModel" 20 12 12 true (.array .int) := ⟨vC12, vT12, 26, vY12, rfl, by decide, vI12, (wt_t5 130 rfl rfl), vY12_ok, vN12, rfl, by decide +kernel, fun _ => rfl⟩
theorem f_M_23 : vFl "VillagePayModel" 23 12 13 := ⟨vC12, vT12, 26, rfl, by decide, vI12, (wt_t5 131 rfl rfl)⟩
theorem p_M_23 : vPt "VillagePayModel" 23 12 13 true (.array .int) := ⟨vC12, vT12, 26, vY12, rfl, by decide, vI12, (wt_t5 131 rfl rfl), vY12_ok, vN12, rfl, by decide +kernel, fun _ => rfl⟩
theorem f_M_26 : vFl "VillagePayModel" 26 12 14 := ⟨vC12, vT12, 26, rfl, by decide, vI12, (wt_t5 132 rfl rfl)⟩
theorem p_M_26 : vPt "VillagePayModel" 26 12 14 true (.array .int) := ⟨vC12, vT12, 26, vY12, rfl, by decide, vI12, (wt_t5 132 rfl rfl), vY12_ok, vN12, rfl, by decide +kernel, fun _ => rfl⟩
theorem f_M_29 : vFl "VillagePayModel" 29 12 15 := ⟨vC12, vT12, 26, rfl, by decide, vI12, (wt_t5 133 rfl rfl)⟩
theorem p_M_29 : vPt "VillagePayModel" 29 12 15 true (.array .int) := ⟨vC12, vT12, 26, vY12, rfl, by decide, vI12, (wt_t5 133 rfl rfl), vY12_ok, vN12, rfl, by decide +kernel, fun _ => rfl⟩
theorem f_M_32 : vFl "VillagePayModel" 32 12 16 := ⟨vC12, vT12, 26, rfl, by decide, vI12, (wt_t5 134 rfl rfl)⟩
theorem p_M_32 : vPt "VillagePayModel" 32 12 16 true (.array .int) := ⟨vC12, vT12, 26, vY12, rfl, by decide, vI12, (wt_t5 134 rfl rfl), vY12_ok, vN12, rfl, by decide +kernel, fun _ => rfl⟩
theorem f_M_35 : vFl "VillagePayModel" 35 12 17 := ⟨vC12, vT12, 26, rfl, by decide, vI12, (wt_t5 135 rfl rfl)⟩
theorem p_M_35 : vPt "VillagePayModel" 35 12 17 true (.array .int) := ⟨vC12, vT12, 26, vY12, rfl, by decide, vI12, (wt_t5 135 rfl rfl), vY12_ok, vN12, rfl, by decide +kernel, fun _ => rfl⟩
theorem f_M_38 : vFl "VillagePayModel" 38 12 18 := ⟨vC12, vT12, 26, rfl, by decide, vI12, (wt_t5 136 rfl rfl)⟩
theorem p_M_38 : vPt "VillagePayModel" 38 12 18 true (.array .int) := ⟨vC12, vT12, 26, vY12, rfl, by decide, vI12, (wt_t5 136 rfl rfl), vY12_ok, vN12, rfl, by decide +kernel, fun _ => rfl⟩
theorem f_M_41 : vFl "VillagePayModel" 41 12 19 := ⟨vC12, vT12, 26, rfl, by decide, vI12, (wt_t5 137 rfl rfl)⟩
theorem p_M_41 : vPt "VillagePayModel" 41 12 19 true (.array .int) := ⟨vC12, vT12, 26, vY12, rfl, by decide, vI12, (wt_t5 137 rfl rfl), vY12_ok, vN12, rfl, by decide +kernel, fun _ => rfl⟩
theorem f_M_44 : vFl "VillagePayModel" 44 12 20 := ⟨vC12, vT12, 26, rfl, by decide, vI12, (wt_t5 138 rfl rfl)⟩
theorem p_M_44 : vPt "VillagePayModel" 44 12 20 true (.array .int) := ⟨vC12, vT12, 26, vY12, rfl, by decide, vI12, (wt_t5 138 rfl rfl), vY12_ok, vN12, rfl, by decide +kernel, fun _ => rfl⟩
theorem f_M_279 : vFl "VillagePayModel" 279 12 21 := ⟨vC12, vT12, 26, rfl, by decide, vI12, (wt_t5 139 rfl rfl)⟩
theorem p_M_279 : vPt "VillagePayModel" 279 12 21 false (.int) := ⟨vC12, vT12, 26, vY12, rfl, by decide, vI12, (wt_t5 139 rfl rfl), vY12_ok, vN12, rfl, by decide +kernel, fun _ => rfl⟩
theorem f_M_276 : vFl "VillagePayModel" 276 12 22 := ⟨vC12, vT12, 26, rfl, by decide, vI12, (wt_t5 140 rfl rfl)⟩
theorem p_M_276 : vPt "VillagePayModel" 276 12 22 false (.int) := ⟨vC12, vT12, 26, vY12, rfl, by decide, vI12, (wt_t5 140 rfl rfl), vY12_ok, vN12, rfl, by decide +kernel, fun _ => rfl⟩
theorem f_M_47 : vFl "VillagePayModel" 47 12 23 := ⟨vC12, vT12, 26, rfl, by decide, vI12, (wt_t5 141 rfl rfl)⟩
theorem p_M_47 : vPt "VillagePayModel" 47 12 23 true (.array .int) := ⟨vC12, vT12, 26, vY12, rfl, by decide, vI12, (wt_t5 141 rfl rfl), vY12_ok, vN12, rfl, by decide +kernel, fun _ => rfl⟩
theorem f_M_50 : vFl "VillagePayModel" 50 12 24 := ⟨vC12, vT12, 26, rfl, by decide, vI12, (wt_t5 142 rfl rfl)⟩
theorem p_M_50 : vPt "VillagePayModel" 50 12 24 true (.array .int) := ⟨vC12, vT12, 26, vY12, rfl, by decide, vI12, (wt_t5 142 rfl rfl), vY12_ok, vN12, rfl, by decide +kernel, fun _ => rfl⟩
theorem f_M_53 : vFl "VillagePayModel" 53 12 25 := ⟨vC12, vT12, 26, rfl, by decide, vI12, (wt_t5 143 rfl rfl)⟩
theorem p_M_53 : vPt "VillagePayModel" 53 12 25 true (.array .boolean) := ⟨vC12, vT12, 26, vY12, rfl, by decide, vI12, (wt_t5 143 rfl rfl), vY12_ok, vN12, rfl, by decide +kernel, fun _ => rfl⟩
theorem cw_oi : Cond.instanceMethod Lib.objectInit ∈ wt := (wt_t1 27 rfl rfl)
theorem cw_oc : Cond.code Lib.objectInit ⟨#[0xb1]⟩ 1 none ∈ wt := (wt_t1 28 rfl rfl)
theorem cw_maxs : Cond.static Lib.Math.max.name ∈ wt := (wt_t3 60 rfl rfl)
theorem cw_maxc : Cond.code Lib.Math.max.name Lib.Math.max.code 2 (some .int) ∈ wt := (wt_t3 61 rfl rfl)
theorem cw_mins : Cond.static Lib.Math.min.name ∈ wt := (wt_t3 57 rfl rfl)
theorem cw_minc : Cond.code Lib.Math.min.name Lib.Math.min.code 2 (some .int) ∈ wt := (wt_t3 58 rfl rfl)
theorem cw_abss : Cond.static Lib.Math.abs.name ∈ wt := (wt_t4 142 rfl rfl)
theorem cw_absc : Cond.code Lib.Math.abs.name Lib.Math.abs.code 1 (some .int) ∈ wt := (wt_t4 143 rfl rfl)
theorem cw_mi : Cond.initialized "java/lang/Math" ∈ wt := (wt_t1 15 rfl rfl)
theorem cw_acn : Cond.native arraycopyName ∈ wt := (wt_t4 185 rfl rfl)
theorem cw_acs : Cond.static arraycopyName ∈ wt := (wt_t4 184 rfl rfl)
theorem cw_aci : Cond.initialized "java/lang/System" ∈ wt := (wt_t1 20 rfl rfl)
theorem cw_aint : Cond.arrayClass .int ∈ wt := (wt_t1 90 rfl rfl)
theorem cw_abyte : Cond.arrayClass .byte ∈ wt := (wt_t1 231 rfl rfl)
theorem cw_aboolean : Cond.arrayClass .boolean ∈ wt := (wt_t1 204 rfl rfl)
theorem cl_L_7 : Cond.classLink "VillagePayLaw" 7 "VillagePay" ∈ wt := (wt_t1 21 rfl rfl)
theorem nw_L_7 : vNw "VillagePayLaw" 7 0 10 [some none, some none, some none, some none, some none, some none, some none, some none, some none, some none] := ⟨vC0, vT0, vY0, rfl, vI0, vY0_ok, cl_L_7, (wt_t1 22 rfl rfl), (wt_t1 1 rfl rfl), by decide, by decide⟩
theorem cl_V_7 : Cond.classLink "VillagePay" 7 "VillagePay$State" ∈ wt := (wt_t1 29 rfl rfl)
theorem nw_V_7 : vNw "VillagePay" 7 1 6 [some none, some none, some none, some none, some none, some none] := ⟨vC1, vT1, vY1, rfl, vI1, vY1_ok, cl_V_7, (wt_t1 30 rfl rfl), (wt_t1 2 rfl rfl), by decide, by decide⟩
theorem cl_St_7 : Cond.classLink "VillagePay$State" 7 "VillagePay$Land" ∈ wt := (wt_t1 35 rfl rfl)
theorem nw_St_7 : vNw "VillagePay$State" 7 2 9 [none, none, some none, some none, some none, some none, some none, some none, some none] := ⟨vC2, vT2, vY2, rfl, vI2, vY2_ok, cl_St_7, (wt_t1 36 rfl rfl), (wt_t1 3 rfl rfl), by decide, by decide⟩
theorem cl_St_16 : Cond.classLink "VillagePay$State" 16 "VillagePay$Book" ∈ wt := (wt_t1 91 rfl rfl)
theorem nw_St_16 : vNw "VillagePay$State" 16 3 11 [none, some none, some none, some none, some none, none, some none, some none, some none, some none, some none] := ⟨vC3, vT3, vY3, rfl, vI3, vY3_ok, cl_St_16, (wt_t1 92 rfl rfl), (wt_t1 5 rfl rfl), by decide, by decide⟩
theorem cl_St_23 : Cond.classLink "VillagePay$State" 23 "VillagePay$Laws" ∈ wt := (wt_t1 146 rfl rfl)
theorem nw_St_23 : vNw "VillagePay$State" 23 4 10 [none, some none, some none, some none, some none, some none, some none, some none, some none, some none] := ⟨vC4, vT4, vY4, rfl, vI4, vY4_ok, cl_St_23, (wt_t1 147 rfl rfl), (wt_t1 6 rfl rfl), by decide, by decide⟩
theorem cl_St_30 : Cond.classLink "VillagePay$State" 30 "VillagePay$Tape" ∈ wt := (wt_t1 205 rfl rfl)
theorem nw_St_30 : vNw "VillagePay$State" 30 5 4 [some none, none, none, none] := ⟨vC5, vT5, vY5, rfl, vI5, vY5_ok, cl_St_30, (wt_t1 206 rfl rfl), (wt_t1 7 rfl rfl), by decide, by decide⟩
theorem cl_St_37 : Cond.classLink "VillagePay$State" 37 "VillagePay$News" ∈ wt := (wt_t1 232 rfl rfl)
theorem nw_St_37 : vNw "VillagePay$State" 37 6 7 [some none, none, some none, some none, some none, some none, some none] := ⟨vC6, vT6, vY6, rfl, vI6, vY6_ok, cl_St_37, (wt_t1 233 rfl rfl), (wt_t1 8 rfl rfl), by decide, by decide⟩
theorem cl_St_46 : Cond.classLink "VillagePay$State" 46 "VillagePay$Moves" ∈ wt := (wt_t2 21 rfl rfl)
theorem nw_St_46 : vNw "VillagePay$State" 46 7 8 [none, some none, some none, none, some none, none, some none, some none] := ⟨vC7, vT7, vY7, rfl, vI7, vY7_ok, cl_St_46, (wt_t2 22 rfl rfl), (wt_t1 9 rfl rfl), by decide, by decide⟩
theorem cl_V_20 : Cond.classLink "VillagePay" 20 "VillagePay$Reader" ∈ wt := (wt_t2 90 rfl rfl)
theorem nw_V_20 : vNw "VillagePay" 20 8 7 [some none, some none, none, none, none, none, none] := ⟨vC8, vT8, vY8, rfl, vI8, vY8_ok, cl_V_20, (wt_t2 91 rfl rfl), (wt_t1 10 rfl rfl), by decide, by decide⟩
theorem cl_V_37 : Cond.classLink "VillagePay" 37 "VillagePay$Scale" ∈ wt := (wt_t2 118 rfl rfl)
theorem nw_V_37 : vNw "VillagePay" 37 9 11 [some none, none, none, none, none, none, none, none, none, none, none] := ⟨vC9, vT9, vY9, rfl, vI9, vY9_ok, cl_V_37, (wt_t2 119 rfl rfl), (wt_t1 11 rfl rfl), by decide, by decide⟩
theorem cl_V_46 : Cond.classLink "VillagePay" 46 "VillagePay$Accounts" ∈ wt := (wt_t2 163 rfl rfl)
theorem nw_V_46 : vNw "VillagePay" 46 10 3 [some none, some none, some none] := ⟨vC10, vT10, vY10, rfl, vI10, vY10_ok, cl_V_46, (wt_t2 164 rfl rfl), (wt_t1 12 rfl rfl), by decide, by decide⟩
theorem cl_V_55 : Cond.classLink "VillagePay" 55 "VillagePay$Dealer" ∈ wt := (wt_t2 179 rfl rfl)
theorem nw_V_55 : vNw "VillagePay" 55 11 10 [some none, some none, some none, some none, none, some none, some none, some none, none, none] := ⟨vC11, vT11, vY11, rfl, vI11, vY11_ok, cl_V_55, (wt_t2 180 rfl rfl), (wt_t1 13 rfl rfl), by decide, by decide⟩
theorem c_V_245 : Cond.constant "VillagePay" 245 (iI (-1000000000)) ∈ wt := (wt_t4 107 rfl rfl)
theorem c_De_98 : Cond.constant "VillagePay$Dealer" 98 (iI (1000000000)) ∈ wt := (wt_t4 174 rfl rfl)
theorem cl_L_10 : Cond.classLink "VillagePayLaw" 10 "VillagePayModel" ∈ wt := (wt_t5 112 rfl rfl)
theorem nw_L_10 : vNw "VillagePayLaw" 10 12 26 [some none, some none, some none, none, none, none, none, none, none, none, none, none, some none, some none, some none, some none, some none, some none, some none, some none, some none, none, none, some none, some none, some none] := ⟨vC12, vT12, vY12, rfl, vI12, vY12_ok, cl_L_10, (wt_t5 113 rfl rfl), (wt_t1 14 rfl rfl), by decide, by decide⟩
theorem c_M_135 : Cond.constantLong "VillagePayModel" 135 (lI (32)) ∈ wt := (wt_t6 153 rfl rfl)
theorem c_M_137 : Cond.constantLong "VillagePayModel" 137 (lI (96)) ∈ wt := (wt_t6 154 rfl rfl)
theorem c_M_143 : Cond.constantLong "VillagePayModel" 143 (lI (32768)) ∈ wt := (wt_t6 164 rfl rfl)
theorem c_M_149 : Cond.constantLong "VillagePayModel" 149 (lI (110)) ∈ wt := (wt_t6 165 rfl rfl)
theorem c_M_151 : Cond.constantLong "VillagePayModel" 151 (lI (294)) ∈ wt := (wt_t6 166 rfl rfl)
theorem c_M_254 : Cond.constant "VillagePayModel" 254 (iI (-1000000000)) ∈ wt := (wt_t6 234 rfl rfl)
