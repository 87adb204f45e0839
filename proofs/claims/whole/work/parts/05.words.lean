/-! the words that every contract asks: the tables' good ones -/
def WS : List Cond := lw_tbl.filter goodWord
theorem ws_of {w : Cond} (i : Nat) (h : lw_tbl[i]? = some w) (g : goodWord w = true) : w ∈ WS := List.mem_filter.mpr ⟨List.mem_of_getElem? h, g⟩
theorem mw0 : Cond.selects RX4 yX4_readLines yX4_readLines ∈ WS := ws_of 0 (by decide +kernel) (by decide +kernel)
theorem mw1 : Cond.selects RX4 yX4_nextToken yX4_nextToken ∈ WS := ws_of 1 (by decide +kernel) (by decide +kernel)
theorem mw2 : Cond.selects RX4 yX4_readLine yX4_readLine ∈ WS := ws_of 2 (by decide +kernel) (by decide +kernel)
theorem mw3 : Cond.selects RX4 yX4_verbOf yX4_verbOf ∈ WS := ws_of 3 (by decide +kernel) (by decide +kernel)
theorem mw4 : Cond.selects RX4 yX4_spells yX4_spells ∈ WS := ws_of 4 (by decide +kernel) (by decide +kernel)
theorem mw5 : Cond.selects RX4 yX4_kindOf yX4_kindOf ∈ WS := ws_of 5 (by decide +kernel) (by decide +kernel)
theorem mw6 : Cond.selects RX4 yX4_readNumbers yX4_readNumbers ∈ WS := ws_of 6 (by decide +kernel) (by decide +kernel)
theorem mw7 : Cond.selects RX4 yX4_tokenNumber yX4_tokenNumber ∈ WS := ws_of 7 (by decide +kernel) (by decide +kernel)
theorem mw8 : Cond.selects RX4 yX4_blame yX4_blame ∈ WS := ws_of 8 (by decide +kernel) (by decide +kernel)
theorem mw9 : Cond.selects RX4 yX4_checkLines yX4_checkLines ∈ WS := ws_of 9 (by decide +kernel) (by decide +kernel)
theorem mw10 : Cond.selects RX4 yX4_isTooMany yX4_isTooMany ∈ WS := ws_of 10 (by decide +kernel) (by decide +kernel)
theorem mw11 : Cond.selects RX4 yX4_mayBe yX4_mayBe ∈ WS := ws_of 11 (by decide +kernel) (by decide +kernel)
theorem mw12 : Cond.selects RX4 yX4_checkAllThere yX4_checkAllThere ∈ WS := ws_of 12 (by decide +kernel) (by decide +kernel)
theorem mw13 : Cond.selects RX9 yX9_takeText yX9_takeText ∈ WS := ws_of 13 (by decide +kernel) (by decide +kernel)
theorem mw14 : Cond.selects RX2 yX2_pieceDetail yX2_pieceDetail ∈ WS := ws_of 14 (by decide +kernel) (by decide +kernel)
theorem mw15 : Cond.selects RX2 yX2_secretDetail yX2_secretDetail ∈ WS := ws_of 15 (by decide +kernel) (by decide +kernel)
theorem mw16 : Cond.selects RX2 yX2_linkDetail yX2_linkDetail ∈ WS := ws_of 16 (by decide +kernel) (by decide +kernel)
theorem mw17 : Cond.selects RX0 yX0_begin yX0_begin ∈ WS := ws_of 17 (by decide +kernel) (by decide +kernel)
theorem mw18 : Cond.selects RX0 yX0_remember yX0_remember ∈ WS := ws_of 18 (by decide +kernel) (by decide +kernel)
theorem mw19 : Cond.selects RX0 yX0_brightest yX0_brightest ∈ WS := ws_of 19 (by decide +kernel) (by decide +kernel)
theorem mw20 : Cond.selects RX0 yX0_isDusk yX0_isDusk ∈ WS := ws_of 20 (by decide +kernel) (by decide +kernel)
theorem mw21 : Cond.selects RX0 yX0_perform yX0_perform ∈ WS := ws_of 21 (by decide +kernel) (by decide +kernel)
theorem mw22 : Cond.selects RX0 yX0_tellOne yX0_tellOne ∈ WS := ws_of 22 (by decide +kernel) (by decide +kernel)
theorem mw23 : Cond.selects RX0 yX0_isThere yX0_isThere ∈ WS := ws_of 23 (by decide +kernel) (by decide +kernel)
theorem mw24 : Cond.selects RX0 yX0_worthNow yX0_worthNow ∈ WS := ws_of 24 (by decide +kernel) (by decide +kernel)
theorem mw25 : Cond.selects RX0 yX0_give yX0_give ∈ WS := ws_of 25 (by decide +kernel) (by decide +kernel)
theorem mw26 : Cond.selects RX0 yX0_tellTwo yX0_tellTwo ∈ WS := ws_of 26 (by decide +kernel) (by decide +kernel)
theorem mw27 : Cond.selects RX0 yX0_polishOne yX0_polishOne ∈ WS := ws_of 27 (by decide +kernel) (by decide +kernel)
theorem mw28 : Cond.selects RX0 yX0_stealOne yX0_stealOne ∈ WS := ws_of 28 (by decide +kernel) (by decide +kernel)
theorem mw29 : Cond.selects RX0 yX0_bringBack yX0_bringBack ∈ WS := ws_of 29 (by decide +kernel) (by decide +kernel)
theorem mw30 : Cond.selects RX0 yX0_passHour yX0_passHour ∈ WS := ws_of 30 (by decide +kernel) (by decide +kernel)
theorem mw31 : Cond.selects RX0 yX0_lookAt yX0_lookAt ∈ WS := ws_of 31 (by decide +kernel) (by decide +kernel)
theorem mw32 : Cond.selects RX6 yX6_measure yX6_measure ∈ WS := ws_of 32 (by decide +kernel) (by decide +kernel)
theorem mw33 : Cond.selects RX6 yX6_startServing yX6_startServing ∈ WS := ws_of 33 (by decide +kernel) (by decide +kernel)
theorem mw34 : Cond.selects RX6 yX6_startOfRest yX6_startOfRest ∈ WS := ws_of 34 (by decide +kernel) (by decide +kernel)
theorem mw35 : Cond.selects RX2 yX2_makes yX2_makes ∈ WS := ws_of 35 (by decide +kernel) (by decide +kernel)
theorem mw36 : Cond.selects RX1 yX1_mostAlike yX1_mostAlike ∈ WS := ws_of 36 (by decide +kernel) (by decide +kernel)
theorem mw37 : Cond.selects RX0 yX0_drawDeed yX0_drawDeed ∈ WS := ws_of 37 (by decide +kernel) (by decide +kernel)
theorem mw38 : Cond.selects RX0 yX0_drawBelow yX0_drawBelow ∈ WS := ws_of 38 (by decide +kernel) (by decide +kernel)
theorem mw39 : Cond.selects RX0 yX0_drawTelling yX0_drawTelling ∈ WS := ws_of 39 (by decide +kernel) (by decide +kernel)
theorem mw40 : Cond.selects RX10 yX10_four yX10_four ∈ WS := ws_of 40 (by decide +kernel) (by decide +kernel)
theorem mw41 : Cond.selects RX10 yX10_is yX10_is ∈ WS := ws_of 41 (by decide +kernel) (by decide +kernel)
theorem mw42 : Cond.selects RX10 yX10_readText yX10_readText ∈ WS := ws_of 42 (by decide +kernel) (by decide +kernel)
theorem mw43 : Cond.selects RX10 yX10_token yX10_token ∈ WS := ws_of 43 (by decide +kernel) (by decide +kernel)
theorem mw44 : Cond.selects RX10 yX10_see yX10_see ∈ WS := ws_of 44 (by decide +kernel) (by decide +kernel)
theorem mw45 : Cond.selects RX10 yX10_lines yX10_lines ∈ WS := ws_of 45 (by decide +kernel) (by decide +kernel)
theorem mw46 : Cond.selects RX10 yX10_lineOf yX10_lineOf ∈ WS := ws_of 46 (by decide +kernel) (by decide +kernel)
theorem mw47 : Cond.selects RX10 yX10_houseLine yX10_houseLine ∈ WS := ws_of 47 (by decide +kernel) (by decide +kernel)
theorem mw48 : Cond.selects RX10 yX10_fails yX10_fails ∈ WS := ws_of 48 (by decide +kernel) (by decide +kernel)
theorem mw49 : Cond.selects RX10 yX10_full yX10_full ∈ WS := ws_of 49 (by decide +kernel) (by decide +kernel)
theorem mw50 : Cond.selects RX10 yX10_later yX10_later ∈ WS := ws_of 50 (by decide +kernel) (by decide +kernel)
theorem mw51 : Cond.selects RX10 yX10_knowsLine yX10_knowsLine ∈ WS := ws_of 51 (by decide +kernel) (by decide +kernel)
theorem mw52 : Cond.selects RX10 yX10_takePiece yX10_takePiece ∈ WS := ws_of 52 (by decide +kernel) (by decide +kernel)
theorem mw53 : Cond.selects RX10 yX10_takeBut yX10_takeBut ∈ WS := ws_of 53 (by decide +kernel) (by decide +kernel)
theorem mw54 : Cond.selects RX10 yX10_takeSecret yX10_takeSecret ∈ WS := ws_of 54 (by decide +kernel) (by decide +kernel)
theorem mw55 : Cond.selects RX10 yX10_kindLine yX10_kindLine ∈ WS := ws_of 55 (by decide +kernel) (by decide +kernel)
theorem mw56 : Cond.selects RX10 yX10_takeKind yX10_takeKind ∈ WS := ws_of 56 (by decide +kernel) (by decide +kernel)
theorem mw57 : Cond.selects RX10 yX10_take yX10_take ∈ WS := ws_of 57 (by decide +kernel) (by decide +kernel)
theorem mw58 : Cond.selects RX10 yX10_keep yX10_keep ∈ WS := ws_of 58 (by decide +kernel) (by decide +kernel)
theorem mw59 : Cond.selects RX10 yX10_monthLine yX10_monthLine ∈ WS := ws_of 59 (by decide +kernel) (by decide +kernel)
theorem mw60 : Cond.selects RX10 yX10_keepRow yX10_keepRow ∈ WS := ws_of 60 (by decide +kernel) (by decide +kernel)
theorem mw61 : Cond.selects RX10 yX10_dinnerLine yX10_dinnerLine ∈ WS := ws_of 61 (by decide +kernel) (by decide +kernel)
theorem mw62 : Cond.selects RX10 yX10_logLine yX10_logLine ∈ WS := ws_of 62 (by decide +kernel) (by decide +kernel)
theorem mw63 : Cond.selects RX10 yX10_storeAll yX10_storeAll ∈ WS := ws_of 63 (by decide +kernel) (by decide +kernel)
theorem mw64 : Cond.selects RX10 yX10_store yX10_store ∈ WS := ws_of 64 (by decide +kernel) (by decide +kernel)
theorem mw65 : Cond.selects RX10 yX10_hand yX10_hand ∈ WS := ws_of 65 (by decide +kernel) (by decide +kernel)
theorem mw66 : Cond.selects RX10 yX10_of yX10_of ∈ WS := ws_of 66 (by decide +kernel) (by decide +kernel)
theorem mw67 : Cond.selects RX10 yX10_isSecret yX10_isSecret ∈ WS := ws_of 67 (by decide +kernel) (by decide +kernel)
theorem mw68 : Cond.selects RX10 yX10_isPiece yX10_isPiece ∈ WS := ws_of 68 (by decide +kernel) (by decide +kernel)
theorem mw69 : Cond.selects RX10 yX10_worthNow yX10_worthNow ∈ WS := ws_of 69 (by decide +kernel) (by decide +kernel)
theorem mw70 : Cond.selects RX10 yX10_plain yX10_plain ∈ WS := ws_of 70 (by decide +kernel) (by decide +kernel)
theorem mw71 : Cond.selects RX10 yX10_hasMonth yX10_hasMonth ∈ WS := ws_of 71 (by decide +kernel) (by decide +kernel)
theorem mw72 : Cond.selects RX10 yX10_deeds yX10_deeds ∈ WS := ws_of 72 (by decide +kernel) (by decide +kernel)
theorem mw73 : Cond.selects RX10 yX10_deedOf yX10_deedOf ∈ WS := ws_of 73 (by decide +kernel) (by decide +kernel)
theorem mw74 : Cond.selects RX10 yX10_layAll yX10_layAll ∈ WS := ws_of 74 (by decide +kernel) (by decide +kernel)
theorem mw75 : Cond.selects RX10 yX10_play yX10_play ∈ WS := ws_of 75 (by decide +kernel) (by decide +kernel)
theorem mw76 : Cond.selects RX10 yX10_begin yX10_begin ∈ WS := ws_of 76 (by decide +kernel) (by decide +kernel)
theorem mw77 : Cond.selects RX10 yX10_doesDeed yX10_doesDeed ∈ WS := ws_of 77 (by decide +kernel) (by decide +kernel)
theorem mw78 : Cond.selects RX10 yX10_does yX10_does ∈ WS := ws_of 78 (by decide +kernel) (by decide +kernel)
theorem mw79 : Cond.selects RX10 yX10_tells yX10_tells ∈ WS := ws_of 79 (by decide +kernel) (by decide +kernel)
theorem mw80 : Cond.selects RX10 yX10_isThere yX10_isThere ∈ WS := ws_of 80 (by decide +kernel) (by decide +kernel)
theorem mw81 : Cond.selects RX10 yX10_tellsBoth yX10_tellsBoth ∈ WS := ws_of 81 (by decide +kernel) (by decide +kernel)
theorem mw82 : Cond.selects RX10 yX10_polishes yX10_polishes ∈ WS := ws_of 82 (by decide +kernel) (by decide +kernel)
theorem mw83 : Cond.selects RX10 yX10_goesOn yX10_goesOn ∈ WS := ws_of 83 (by decide +kernel) (by decide +kernel)
theorem mw84 : Cond.selects RX10 yX10_wear yX10_wear ∈ WS := ws_of 84 (by decide +kernel) (by decide +kernel)
theorem mw85 : Cond.selects RX10 yX10_takes yX10_takes ∈ WS := ws_of 85 (by decide +kernel) (by decide +kernel)
theorem mw86 : Cond.selects RX10 yX10_ofState yX10_ofState ∈ WS := ws_of 86 (by decide +kernel) (by decide +kernel)
theorem mw87 : Cond.selects RX10 yX10_bright yX10_bright ∈ WS := ws_of 87 (by decide +kernel) (by decide +kernel)
theorem mw88 : Cond.selects RX10 yX10_isDusk yX10_isDusk ∈ WS := ws_of 88 (by decide +kernel) (by decide +kernel)
theorem mw89 : Cond.selects RX10 yX10_hasTable yX10_hasTable ∈ WS := ws_of 89 (by decide +kernel) (by decide +kernel)
theorem mw90 : Cond.selects RX10 yX10_dinners yX10_dinners ∈ WS := ws_of 90 (by decide +kernel) (by decide +kernel)
theorem mw91 : Cond.selects RX10 yX10_dinnerOf yX10_dinnerOf ∈ WS := ws_of 91 (by decide +kernel) (by decide +kernel)
theorem mw92 : Cond.selects RX10 yX10_findTellings yX10_findTellings ∈ WS := ws_of 92 (by decide +kernel) (by decide +kernel)
theorem mw93 : Cond.selects RX10 yX10_serves yX10_serves ∈ WS := ws_of 93 (by decide +kernel) (by decide +kernel)
theorem mw94 : Cond.selects RX10 yX10_toldAhead yX10_toldAhead ∈ WS := ws_of 94 (by decide +kernel) (by decide +kernel)
theorem mw95 : Cond.selects RX10 yX10_everything yX10_everything ∈ WS := ws_of 95 (by decide +kernel) (by decide +kernel)
theorem mw96 : Cond.selects RX10 yX10_comesOf yX10_comesOf ∈ WS := ws_of 96 (by decide +kernel) (by decide +kernel)
theorem mw97 : Cond.selects RX10 yX10_round yX10_round ∈ WS := ws_of 97 (by decide +kernel) (by decide +kernel)
theorem mw98 : Cond.selects RX10 yX10_makes yX10_makes ∈ WS := ws_of 98 (by decide +kernel) (by decide +kernel)
theorem mw99 : Cond.selects RX10 yX10_linkOf yX10_linkOf ∈ WS := ws_of 99 (by decide +kernel) (by decide +kernel)
theorem mw100 : Cond.selects RX10 yX10_findLoot yX10_findLoot ∈ WS := ws_of 100 (by decide +kernel) (by decide +kernel)
theorem mw101 : Cond.selects RX10 yX10_weightOf yX10_weightOf ∈ WS := ws_of 101 (by decide +kernel) (by decide +kernel)
theorem mw102 : Cond.selects RX10 yX10_bestLoot yX10_bestLoot ∈ WS := ws_of 102 (by decide +kernel) (by decide +kernel)
theorem mw103 : Cond.selects RX10 yX10_fewest yX10_fewest ∈ WS := ws_of 103 (by decide +kernel) (by decide +kernel)
theorem mw104 : Cond.selects RX10 yX10_fill yX10_fill ∈ WS := ws_of 104 (by decide +kernel) (by decide +kernel)
theorem mw105 : Cond.selects RX10 yX10_hasLog yX10_hasLog ∈ WS := ws_of 105 (by decide +kernel) (by decide +kernel)
theorem mw106 : Cond.selects RX10 yX10_factOf yX10_factOf ∈ WS := ws_of 106 (by decide +kernel) (by decide +kernel)
theorem mw107 : Cond.selects RX10 yX10_layLog yX10_layLog ∈ WS := ws_of 107 (by decide +kernel) (by decide +kernel)
theorem mw108 : Cond.selects RX10 yX10_shinesBy yX10_shinesBy ∈ WS := ws_of 108 (by decide +kernel) (by decide +kernel)
theorem mw109 : Cond.selects RX10 yX10_lastsFor yX10_lastsFor ∈ WS := ws_of 109 (by decide +kernel) (by decide +kernel)
theorem mw110 : Cond.selects RX10 yX10_sureOf yX10_sureOf ∈ WS := ws_of 110 (by decide +kernel) (by decide +kernel)
theorem mw111 : Cond.selects RX10 yX10_which yX10_which ∈ WS := ws_of 111 (by decide +kernel) (by decide +kernel)
theorem mw112 : Cond.selects RX10 yX10_ask yX10_ask ∈ WS := ws_of 112 (by decide +kernel) (by decide +kernel)
theorem mw113 : Cond.selects RX10 yX10_drawDeed yX10_drawDeed ∈ WS := ws_of 113 (by decide +kernel) (by decide +kernel)
theorem mw114 : Cond.selects RX10 yX10_draw yX10_draw ∈ WS := ws_of 114 (by decide +kernel) (by decide +kernel)
theorem mw115 : Cond.selects RX10 yX10_allWorth yX10_allWorth ∈ WS := ws_of 115 (by decide +kernel) (by decide +kernel)
theorem mw116 : Cond.selects RX10 yX10_copyAll yX10_copyAll ∈ WS := ws_of 116 (by decide +kernel) (by decide +kernel)
theorem mw117 : Cond.initialized RL ∈ WS := ws_of 117 (by decide +kernel) (by decide +kernel)
theorem mw118 : Cond.initialized RX9 ∈ WS := ws_of 118 (by decide +kernel) (by decide +kernel)
theorem mw119 : Cond.initialized RX8 ∈ WS := ws_of 119 (by decide +kernel) (by decide +kernel)
theorem mw120 : Cond.initialized RX2 ∈ WS := ws_of 120 (by decide +kernel) (by decide +kernel)
theorem mw121 : Cond.initialized RX5 ∈ WS := ws_of 121 (by decide +kernel) (by decide +kernel)
theorem mw122 : Cond.initialized RJ9 ∈ WS := ws_of 122 (by decide +kernel) (by decide +kernel)
theorem mw123 : Cond.initialized RX4 ∈ WS := ws_of 123 (by decide +kernel) (by decide +kernel)
theorem mw124 : Cond.initialized RX0 ∈ WS := ws_of 124 (by decide +kernel) (by decide +kernel)
theorem mw125 : Cond.initialized RX6 ∈ WS := ws_of 125 (by decide +kernel) (by decide +kernel)
theorem mw126 : Cond.initialized RX3 ∈ WS := ws_of 126 (by decide +kernel) (by decide +kernel)
theorem mw127 : Cond.initialized RX1 ∈ WS := ws_of 127 (by decide +kernel) (by decide +kernel)
theorem mw128 : Cond.initialized RX7 ∈ WS := ws_of 128 (by decide +kernel) (by decide +kernel)
theorem mw129 : Cond.initialized RX10 ∈ WS := ws_of 129 (by decide +kernel) (by decide +kernel)
theorem mw130 : Cond.initialized RJ10 ∈ WS := ws_of 130 (by decide +kernel) (by decide +kernel)
theorem mw131 : Cond.initialized RJ0 ∈ WS := ws_of 131 (by decide +kernel) (by decide +kernel)
theorem mw132 : Cond.initialized RJ1 ∈ WS := ws_of 132 (by decide +kernel) (by decide +kernel)
theorem mw133 : Cond.initialized RJ3 ∈ WS := ws_of 133 (by decide +kernel) (by decide +kernel)
theorem mw134 : Cond.initialized RJ2 ∈ WS := ws_of 134 (by decide +kernel) (by decide +kernel)
theorem mw135 : Cond.initialized RJ7 ∈ WS := ws_of 135 (by decide +kernel) (by decide +kernel)
theorem mw136 : Cond.initialized RJ6 ∈ WS := ws_of 136 (by decide +kernel) (by decide +kernel)
theorem mw139 : Cond.methodLink RL 9 yX9_init ∈ WS := ws_of 139 (by decide +kernel) (by decide +kernel)
theorem mw140 : Cond.instanceMethod yX9_init ∈ WS := ws_of 140 (by decide +kernel) (by decide +kernel)
set_option maxRecDepth 100000 in
theorem mw141 : Cond.code yX9_init cX9_init 1 none ∈ WS := ws_of 141 rfl (by decide +kernel)
theorem mw147 : Cond.methodLink RX9 9 yX8_init ∈ WS := ws_of 147 (by decide +kernel) (by decide +kernel)
theorem mw148 : Cond.instanceMethod yX8_init ∈ WS := ws_of 148 (by decide +kernel) (by decide +kernel)
set_option maxRecDepth 100000 in
theorem mw149 : Cond.code yX8_init cX8_init 2 none ∈ WS := ws_of 149 rfl (by decide +kernel)
theorem mw157 : Cond.instanceMethod yX2_init ∈ WS := ws_of 157 (by decide +kernel) (by decide +kernel)
set_option maxRecDepth 100000 in
theorem mw158 : Cond.code yX2_init cX2_init 1 none ∈ WS := ws_of 158 rfl (by decide +kernel)
theorem mw160 : Cond.fieldLink RX2 9 "TarnishTurns$House" "pieces" "I" ∈ WS := ws_of 160 (by decide +kernel) (by decide +kernel)
theorem mw161 : Cond.fieldLink RX7 21 "TarnishTurns$House" "pieces" "I" ∈ WS := ws_of 161 (by decide +kernel) (by decide +kernel)
theorem mw162 : Cond.fieldLink RX0 100 "TarnishTurns$House" "pieces" "I" ∈ WS := ws_of 162 (by decide +kernel) (by decide +kernel)
theorem mw163 : Cond.fieldLink RX9 110 "TarnishTurns$House" "pieces" "I" ∈ WS := ws_of 163 (by decide +kernel) (by decide +kernel)
theorem mw164 : Cond.fieldLink RX1 54 "TarnishTurns$House" "pieces" "I" ∈ WS := ws_of 164 (by decide +kernel) (by decide +kernel)
theorem mw165 : Cond.fieldLink RX2 15 "TarnishTurns$House" "secrets" "I" ∈ WS := ws_of 165 (by decide +kernel) (by decide +kernel)
theorem mw166 : Cond.fieldLink RX6 18 "TarnishTurns$House" "secrets" "I" ∈ WS := ws_of 166 (by decide +kernel) (by decide +kernel)
theorem mw167 : Cond.fieldLink RX3 27 "TarnishTurns$House" "secrets" "I" ∈ WS := ws_of 167 (by decide +kernel) (by decide +kernel)
theorem mw168 : Cond.fieldLink RX1 45 "TarnishTurns$House" "secrets" "I" ∈ WS := ws_of 168 (by decide +kernel) (by decide +kernel)
theorem mw169 : Cond.fieldLink RX9 115 "TarnishTurns$House" "secrets" "I" ∈ WS := ws_of 169 (by decide +kernel) (by decide +kernel)
theorem mw170 : Cond.fieldLink RX0 173 "TarnishTurns$House" "secrets" "I" ∈ WS := ws_of 170 (by decide +kernel) (by decide +kernel)
theorem mw171 : Cond.fieldLink RX2 18 "TarnishTurns$House" "links" "I" ∈ WS := ws_of 171 (by decide +kernel) (by decide +kernel)
theorem mw172 : Cond.fieldLink RX9 118 "TarnishTurns$House" "links" "I" ∈ WS := ws_of 172 (by decide +kernel) (by decide +kernel)
theorem mw173 : Cond.fieldLink RX2 21 "TarnishTurns$House" "taste" "[I" ∈ WS := ws_of 173 (by decide +kernel) (by decide +kernel)
theorem mw174 : Cond.fieldLink RX0 139 "TarnishTurns$House" "taste" "[I" ∈ WS := ws_of 174 (by decide +kernel) (by decide +kernel)
theorem mw175 : Cond.fieldLink RX2 25 "TarnishTurns$House" "wear" "[I" ∈ WS := ws_of 175 (by decide +kernel) (by decide +kernel)
theorem mw176 : Cond.fieldLink RX6 44 "TarnishTurns$House" "wear" "[I" ∈ WS := ws_of 176 (by decide +kernel) (by decide +kernel)
theorem mw177 : Cond.fieldLink RX0 159 "TarnishTurns$House" "wear" "[I" ∈ WS := ws_of 177 (by decide +kernel) (by decide +kernel)
theorem mw178 : Cond.fieldLink RX2 28 "TarnishTurns$House" "knows" "[I" ∈ WS := ws_of 178 (by decide +kernel) (by decide +kernel)
theorem mw179 : Cond.fieldLink RX0 59 "TarnishTurns$House" "knows" "[I" ∈ WS := ws_of 179 (by decide +kernel) (by decide +kernel)
theorem mw180 : Cond.fieldLink RX7 29 "TarnishTurns$House" "knows" "[I" ∈ WS := ws_of 180 (by decide +kernel) (by decide +kernel)
theorem mw181 : Cond.fieldLink RX2 31 "TarnishTurns$House" "kind" "[I" ∈ WS := ws_of 181 (by decide +kernel) (by decide +kernel)
theorem mw182 : Cond.fieldLink RX1 48 "TarnishTurns$House" "kind" "[I" ∈ WS := ws_of 182 (by decide +kernel) (by decide +kernel)
theorem mw183 : Cond.fieldLink RX0 136 "TarnishTurns$House" "kind" "[I" ∈ WS := ws_of 183 (by decide +kernel) (by decide +kernel)
theorem mw184 : Cond.fieldLink RX2 34 "TarnishTurns$House" "weight" "[I" ∈ WS := ws_of 184 (by decide +kernel) (by decide +kernel)
theorem mw185 : Cond.fieldLink RX3 35 "TarnishTurns$House" "weight" "[I" ∈ WS := ws_of 185 (by decide +kernel) (by decide +kernel)
theorem mw186 : Cond.fieldLink RX1 51 "TarnishTurns$House" "weight" "[I" ∈ WS := ws_of 186 (by decide +kernel) (by decide +kernel)
theorem mw187 : Cond.fieldLink RX0 133 "TarnishTurns$House" "weight" "[I" ∈ WS := ws_of 187 (by decide +kernel) (by decide +kernel)
theorem mw188 : Cond.fieldLink RX2 37 "TarnishTurns$House" "first" "[I" ∈ WS := ws_of 188 (by decide +kernel) (by decide +kernel)
theorem mw189 : Cond.fieldLink RX2 40 "TarnishTurns$House" "second" "[I" ∈ WS := ws_of 189 (by decide +kernel) (by decide +kernel)
theorem mw190 : Cond.fieldLink RX2 43 "TarnishTurns$House" "third" "[I" ∈ WS := ws_of 190 (by decide +kernel) (by decide +kernel)
theorem mw217 : Cond.methodLink RX8 48 yX5_init ∈ WS := ws_of 217 (by decide +kernel) (by decide +kernel)
theorem mw218 : Cond.instanceMethod yX5_init ∈ WS := ws_of 218 (by decide +kernel) (by decide +kernel)
set_option maxRecDepth 100000 in
theorem mw219 : Cond.code yX5_init cX5_init 2 none ∈ WS := ws_of 219 rfl (by decide +kernel)
theorem mw221 : Cond.methodLink RX5 15 Lib.Math.min.name ∈ WS := ws_of 221 (by decide +kernel) (by decide +kernel)
theorem mw222 : Cond.static Lib.Math.min.name ∈ WS := ws_of 222 (by decide +kernel) (by decide +kernel)
set_option maxRecDepth 100000 in
theorem mw223 : Cond.code Lib.Math.min.name Lib.Math.min.code 2 (some .int) ∈ WS := ws_of 223 rfl (by decide +kernel)
theorem mw224 : Cond.methodLink RX5 21 Lib.Math.max.name ∈ WS := ws_of 224 (by decide +kernel) (by decide +kernel)
theorem mw225 : Cond.static Lib.Math.max.name ∈ WS := ws_of 225 (by decide +kernel) (by decide +kernel)
set_option maxRecDepth 100000 in
theorem mw226 : Cond.code Lib.Math.max.name Lib.Math.max.code 2 (some .int) ∈ WS := ws_of 226 rfl (by decide +kernel)
theorem mw227 : Cond.fieldLink RX5 24 "TarnishTurns$Rows" "limit" "I" ∈ WS := ws_of 227 (by decide +kernel) (by decide +kernel)
theorem mw228 : Cond.fieldLink RX5 27 "TarnishTurns$Rows" "cells" "[I" ∈ WS := ws_of 228 (by decide +kernel) (by decide +kernel)
theorem mw229 : Cond.fieldLink RX5 9 "TarnishTurns$Rows" "size" "I" ∈ WS := ws_of 229 (by decide +kernel) (by decide +kernel)
theorem mw230 : Cond.fieldLink RX6 24 "TarnishTurns$Rows" "size" "I" ∈ WS := ws_of 230 (by decide +kernel) (by decide +kernel)
theorem mw231 : Cond.fieldLink RX1 26 "TarnishTurns$Rows" "size" "I" ∈ WS := ws_of 231 (by decide +kernel) (by decide +kernel)
theorem mw232 : Cond.fieldLink RX0 74 "TarnishTurns$Rows" "size" "I" ∈ WS := ws_of 232 (by decide +kernel) (by decide +kernel)
theorem mw233 : Cond.fieldLink RX9 135 "TarnishTurns$Rows" "size" "I" ∈ WS := ws_of 233 (by decide +kernel) (by decide +kernel)
theorem mw234 : Cond.fieldLink RX2 62 "TarnishTurns$Rows" "size" "I" ∈ WS := ws_of 234 (by decide +kernel) (by decide +kernel)
theorem mw235 : Cond.fieldLink RX4 211 "TarnishTurns$Rows" "size" "I" ∈ WS := ws_of 235 (by decide +kernel) (by decide +kernel)
theorem mw243 : Cond.fieldLink RX8 9 "TarnishTurns$Told" "tape" "[B" ∈ WS := ws_of 243 (by decide +kernel) (by decide +kernel)
theorem mw244 : Cond.fieldLink RX9 80 "TarnishTurns$Told" "tape" "[B" ∈ WS := ws_of 244 (by decide +kernel) (by decide +kernel)
theorem mw245 : Cond.fieldLink RX8 15 "TarnishTurns$Told" "length" "I" ∈ WS := ws_of 245 (by decide +kernel) (by decide +kernel)
theorem mw246 : Cond.fieldLink RX9 62 "TarnishTurns$Told" "length" "I" ∈ WS := ws_of 246 (by decide +kernel) (by decide +kernel)
theorem mw247 : Cond.fieldLink RX8 19 "TarnishTurns$Told" "fault" "I" ∈ WS := ws_of 247 (by decide +kernel) (by decide +kernel)
theorem mw248 : Cond.fieldLink RX9 70 "TarnishTurns$Told" "fault" "I" ∈ WS := ws_of 248 (by decide +kernel) (by decide +kernel)
theorem mw249 : Cond.fieldLink RX8 22 "TarnishTurns$Told" "place" "I" ∈ WS := ws_of 249 (by decide +kernel) (by decide +kernel)
theorem mw250 : Cond.fieldLink RX9 73 "TarnishTurns$Told" "place" "I" ∈ WS := ws_of 250 (by decide +kernel) (by decide +kernel)
theorem mw251 : Cond.fieldLink RX8 25 "TarnishTurns$Told" "counts" "[I" ∈ WS := ws_of 251 (by decide +kernel) (by decide +kernel)
theorem mw252 : Cond.fieldLink RX9 76 "TarnishTurns$Told" "counts" "[I" ∈ WS := ws_of 252 (by decide +kernel) (by decide +kernel)
theorem mw253 : Cond.fieldLink RX8 31 "TarnishTurns$Told" "houses" "[LTarnishTurns$House;" ∈ WS := ws_of 253 (by decide +kernel) (by decide +kernel)
theorem mw254 : Cond.fieldLink RX8 37 "TarnishTurns$Told" "months" "[LTarnishTurns$Rows;" ∈ WS := ws_of 254 (by decide +kernel) (by decide +kernel)
theorem mw255 : Cond.fieldLink RX8 41 "TarnishTurns$Told" "dinners" "[LTarnishTurns$Rows;" ∈ WS := ws_of 255 (by decide +kernel) (by decide +kernel)
theorem mw256 : Cond.fieldLink RX8 44 "TarnishTurns$Told" "logs" "[LTarnishTurns$Rows;" ∈ WS := ws_of 256 (by decide +kernel) (by decide +kernel)
theorem mw280 : Cond.instanceMethod yX4_init ∈ WS := ws_of 280 (by decide +kernel) (by decide +kernel)
set_option maxRecDepth 100000 in
theorem mw281 : Cond.code yX4_init cX4_init 1 none ∈ WS := ws_of 281 rfl (by decide +kernel)
theorem mw283 : Cond.fieldLink RX4 9 "TarnishTurns$Reader" "tape" "[B" ∈ WS := ws_of 283 (by decide +kernel) (by decide +kernel)
theorem mw284 : Cond.fieldLink RX4 15 "TarnishTurns$Reader" "length" "I" ∈ WS := ws_of 284 (by decide +kernel) (by decide +kernel)
theorem mw285 : Cond.fieldLink RX4 19 "TarnishTurns$Reader" "token" "I" ∈ WS := ws_of 285 (by decide +kernel) (by decide +kernel)
theorem mw286 : Cond.fieldLink RX4 22 "TarnishTurns$Reader" "start" "I" ∈ WS := ws_of 286 (by decide +kernel) (by decide +kernel)
theorem mw287 : Cond.fieldLink RX4 25 "TarnishTurns$Reader" "behind" "I" ∈ WS := ws_of 287 (by decide +kernel) (by decide +kernel)
theorem mw288 : Cond.fieldLink RX4 28 "TarnishTurns$Reader" "lines" "I" ∈ WS := ws_of 288 (by decide +kernel) (by decide +kernel)
theorem mw289 : Cond.fieldLink RX4 31 "TarnishTurns$Reader" "verbs" "[I" ∈ WS := ws_of 289 (by decide +kernel) (by decide +kernel)
theorem mw290 : Cond.fieldLink RX4 35 "TarnishTurns$Reader" "kinds" "[I" ∈ WS := ws_of 290 (by decide +kernel) (by decide +kernel)
theorem mw291 : Cond.fieldLink RX4 38 "TarnishTurns$Reader" "starts" "[I" ∈ WS := ws_of 291 (by decide +kernel) (by decide +kernel)
theorem mw292 : Cond.fieldLink RX4 41 "TarnishTurns$Reader" "numbers" "[I" ∈ WS := ws_of 292 (by decide +kernel) (by decide +kernel)
theorem mw293 : Cond.fieldLink RX4 44 "TarnishTurns$Reader" "places" "[I" ∈ WS := ws_of 293 (by decide +kernel) (by decide +kernel)
theorem mw294 : Cond.fieldLink RX4 47 "TarnishTurns$Reader" "tally" "[I" ∈ WS := ws_of 294 (by decide +kernel) (by decide +kernel)
theorem mw295 : Cond.fieldLink RX4 50 "TarnishTurns$Reader" "fault" "I" ∈ WS := ws_of 295 (by decide +kernel) (by decide +kernel)
theorem mw296 : Cond.fieldLink RX9 88 "TarnishTurns$Reader" "fault" "I" ∈ WS := ws_of 296 (by decide +kernel) (by decide +kernel)
theorem mw297 : Cond.fieldLink RX4 53 "TarnishTurns$Reader" "place" "I" ∈ WS := ws_of 297 (by decide +kernel) (by decide +kernel)
theorem mw298 : Cond.fieldLink RX9 89 "TarnishTurns$Reader" "place" "I" ∈ WS := ws_of 298 (by decide +kernel) (by decide +kernel)
theorem mw331 : Cond.instanceMethod yX0_init ∈ WS := ws_of 331 (by decide +kernel) (by decide +kernel)
set_option maxRecDepth 100000 in
theorem mw332 : Cond.code yX0_init cX0_init 1 none ∈ WS := ws_of 332 rfl (by decide +kernel)
theorem mw336 : Cond.fieldLink RX0 12 "TarnishTurns$Course" "home" "LTarnishTurns$House;" ∈ WS := ws_of 336 (by decide +kernel) (by decide +kernel)
theorem mw337 : Cond.fieldLink RX0 18 "TarnishTurns$Course" "shine" "[I" ∈ WS := ws_of 337 (by decide +kernel) (by decide +kernel)
theorem mw338 : Cond.fieldLink RX0 22 "TarnishTurns$Course" "gloss" "[I" ∈ WS := ws_of 338 (by decide +kernel) (by decide +kernel)
theorem mw339 : Cond.fieldLink RX0 25 "TarnishTurns$Course" "knows" "[I" ∈ WS := ws_of 339 (by decide +kernel) (by decide +kernel)
theorem mw340 : Cond.fieldLink RX0 28 "TarnishTurns$Course" "brightStates" "[I" ∈ WS := ws_of 340 (by decide +kernel) (by decide +kernel)
theorem mw341 : Cond.fieldLink RX0 31 "TarnishTurns$Course" "stolen" "I" ∈ WS := ws_of 341 (by decide +kernel) (by decide +kernel)
theorem mw342 : Cond.fieldLink RX0 35 "TarnishTurns$Course" "hour" "I" ∈ WS := ws_of 342 (by decide +kernel) (by decide +kernel)
theorem mw343 : Cond.fieldLink RX0 38 "TarnishTurns$Course" "given" "I" ∈ WS := ws_of 343 (by decide +kernel) (by decide +kernel)
theorem mw344 : Cond.fieldLink RX0 41 "TarnishTurns$Course" "draws" "I" ∈ WS := ws_of 344 (by decide +kernel) (by decide +kernel)
theorem mw345 : Cond.fieldLink RX0 44 "TarnishTurns$Course" "dark" "I" ∈ WS := ws_of 345 (by decide +kernel) (by decide +kernel)
theorem mw346 : Cond.fieldLink RX9 306 "TarnishTurns$Course" "dark" "I" ∈ WS := ws_of 346 (by decide +kernel) (by decide +kernel)
theorem mw347 : Cond.fieldLink RX0 47 "TarnishTurns$Course" "dusked" "I" ∈ WS := ws_of 347 (by decide +kernel) (by decide +kernel)
theorem mw348 : Cond.fieldLink RX9 309 "TarnishTurns$Course" "dusked" "I" ∈ WS := ws_of 348 (by decide +kernel) (by decide +kernel)
theorem mw349 : Cond.fieldLink RX0 50 "TarnishTurns$Course" "greatest" "I" ∈ WS := ws_of 349 (by decide +kernel) (by decide +kernel)
theorem mw350 : Cond.fieldLink RX9 312 "TarnishTurns$Course" "greatest" "I" ∈ WS := ws_of 350 (by decide +kernel) (by decide +kernel)
theorem mw379 : Cond.instanceMethod yX6_init ∈ WS := ws_of 379 (by decide +kernel) (by decide +kernel)
set_option maxRecDepth 100000 in
theorem mw380 : Cond.code yX6_init cX6_init 1 none ∈ WS := ws_of 380 rfl (by decide +kernel)
theorem mw382 : Cond.fieldLink RX6 9 "TarnishTurns$Table" "reach" "[I" ∈ WS := ws_of 382 (by decide +kernel) (by decide +kernel)
theorem mw383 : Cond.fieldLink RX6 15 "TarnishTurns$Table" "spans" "[I" ∈ WS := ws_of 383 (by decide +kernel) (by decide +kernel)
theorem mw392 : Cond.instanceMethod yX3_init ∈ WS := ws_of 392 (by decide +kernel) (by decide +kernel)
set_option maxRecDepth 100000 in
theorem mw393 : Cond.code yX3_init cX3_init 1 none ∈ WS := ws_of 393 rfl (by decide +kernel)
theorem mw395 : Cond.fieldLink RX3 9 "TarnishTurns$Nights" "packed" "[I" ∈ WS := ws_of 395 (by decide +kernel) (by decide +kernel)
theorem mw396 : Cond.fieldLink RX3 15 "TarnishTurns$Nights" "loads" "[I" ∈ WS := ws_of 396 (by decide +kernel) (by decide +kernel)
theorem mw397 : Cond.fieldLink RX3 18 "TarnishTurns$Nights" "row" "[I" ∈ WS := ws_of 397 (by decide +kernel) (by decide +kernel)
theorem mw408 : Cond.instanceMethod yX1_init ∈ WS := ws_of 408 (by decide +kernel) (by decide +kernel)
set_option maxRecDepth 100000 in
theorem mw409 : Cond.code yX1_init cX1_init 1 none ∈ WS := ws_of 409 rfl (by decide +kernel)
theorem mw411 : Cond.fieldLink RX1 11 "TarnishTurns$Guess" "codes" "[I" ∈ WS := ws_of 411 (by decide +kernel) (by decide +kernel)
theorem mw412 : Cond.fieldLink RX9 244 "TarnishTurns$Guess" "codes" "[I" ∈ WS := ws_of 412 (by decide +kernel) (by decide +kernel)
theorem mw413 : Cond.fieldLink RX1 15 "TarnishTurns$Guess" "size" "I" ∈ WS := ws_of 413 (by decide +kernel) (by decide +kernel)
theorem mw414 : Cond.fieldLink RX9 227 "TarnishTurns$Guess" "size" "I" ∈ WS := ws_of 414 (by decide +kernel) (by decide +kernel)
theorem mw415 : Cond.fieldLink RX1 19 "TarnishTurns$Guess" "tally" "[I" ∈ WS := ws_of 415 (by decide +kernel) (by decide +kernel)
theorem mw426 : Cond.instanceMethod yX7_init ∈ WS := ws_of 426 (by decide +kernel) (by decide +kernel)
set_option maxRecDepth 100000 in
theorem mw427 : Cond.code yX7_init cX7_init 1 none ∈ WS := ws_of 427 rfl (by decide +kernel)
theorem mw429 : Cond.fieldLink RX7 9 "TarnishTurns$Thieves" "spoils" "[I" ∈ WS := ws_of 429 (by decide +kernel) (by decide +kernel)
theorem mw433 : Cond.fieldLink RX9 10 "TarnishTurns" "told" "LTarnishTurns$Told;" ∈ WS := ws_of 433 (by decide +kernel) (by decide +kernel)
theorem mw434 : Cond.fieldLink RX9 16 "TarnishTurns" "images" "[LTarnishTurns$Told;" ∈ WS := ws_of 434 (by decide +kernel) (by decide +kernel)
theorem mw435 : Cond.fieldLink RX9 23 "TarnishTurns" "reader" "LTarnishTurns$Reader;" ∈ WS := ws_of 435 (by decide +kernel) (by decide +kernel)
theorem mw436 : Cond.fieldLink RX9 30 "TarnishTurns" "course" "LTarnishTurns$Course;" ∈ WS := ws_of 436 (by decide +kernel) (by decide +kernel)
theorem mw437 : Cond.fieldLink RX9 37 "TarnishTurns" "table" "LTarnishTurns$Table;" ∈ WS := ws_of 437 (by decide +kernel) (by decide +kernel)
theorem mw438 : Cond.fieldLink RX9 44 "TarnishTurns" "nights" "LTarnishTurns$Nights;" ∈ WS := ws_of 438 (by decide +kernel) (by decide +kernel)
theorem mw439 : Cond.fieldLink RX9 51 "TarnishTurns" "guess" "LTarnishTurns$Guess;" ∈ WS := ws_of 439 (by decide +kernel) (by decide +kernel)
theorem mw440 : Cond.fieldLink RX9 58 "TarnishTurns" "thieves" "LTarnishTurns$Thieves;" ∈ WS := ws_of 440 (by decide +kernel) (by decide +kernel)
theorem mw458 : Cond.methodLink RL 13 yX9_feed ∈ WS := ws_of 458 (by decide +kernel) (by decide +kernel)
theorem mw459 : Cond.instanceMethod yX9_feed ∈ WS := ws_of 459 (by decide +kernel) (by decide +kernel)
theorem mw460 : Cond.selects RX9 yX9_feed yX9_feed ∈ WS := ws_of 460 (by decide +kernel) (by decide +kernel)
set_option maxRecDepth 100000 in
theorem mw461 : Cond.code yX9_feed cX9_feed 6 (some .int) ∈ WS := ws_of 461 rfl (by decide +kernel)
theorem mw462 : Cond.methodLink RX9 66 yX8_append ∈ WS := ws_of 462 (by decide +kernel) (by decide +kernel)
theorem mw463 : Cond.instanceMethod yX8_append ∈ WS := ws_of 463 (by decide +kernel) (by decide +kernel)
theorem mw464 : Cond.selects RX8 yX8_append yX8_append ∈ WS := ws_of 464 (by decide +kernel) (by decide +kernel)
set_option maxRecDepth 100000 in
theorem mw465 : Cond.code yX8_append cX8_append 3 none ∈ WS := ws_of 465 rfl (by decide +kernel)
theorem mw466 : Cond.methodLink RL 18 yX9_end ∈ WS := ws_of 466 (by decide +kernel) (by decide +kernel)
theorem mw467 : Cond.instanceMethod yX9_end ∈ WS := ws_of 467 (by decide +kernel) (by decide +kernel)
theorem mw468 : Cond.selects RX9 yX9_end yX9_end ∈ WS := ws_of 468 (by decide +kernel) (by decide +kernel)
set_option maxRecDepth 100000 in
theorem mw469 : Cond.code yX9_end cX9_end 2 (some .int) ∈ WS := ws_of 469 rfl (by decide +kernel)
theorem mw470 : Cond.methodLink RL 23 yX9_text ∈ WS := ws_of 470 (by decide +kernel) (by decide +kernel)
theorem mw471 : Cond.instanceMethod yX9_text ∈ WS := ws_of 471 (by decide +kernel) (by decide +kernel)
theorem mw472 : Cond.selects RX9 yX9_text yX9_text ∈ WS := ws_of 472 (by decide +kernel) (by decide +kernel)
set_option maxRecDepth 100000 in
theorem mw473 : Cond.code yX9_text cX9_text 6 (some .int) ∈ WS := ws_of 473 rfl (by decide +kernel)
theorem mw474 : Cond.methodLink RX9 84 yX4_read ∈ WS := ws_of 474 (by decide +kernel) (by decide +kernel)
theorem mw475 : Cond.instanceMethod yX4_read ∈ WS := ws_of 475 (by decide +kernel) (by decide +kernel)
theorem mw476 : Cond.selects RX4 yX4_read yX4_read ∈ WS := ws_of 476 (by decide +kernel) (by decide +kernel)
set_option maxRecDepth 100000 in
theorem mw477 : Cond.code yX4_read cX4_read 4 none ∈ WS := ws_of 477 rfl (by decide +kernel)
theorem mw478 : Cond.methodLink RX4 56 Lib.Math.min.name ∈ WS := ws_of 478 (by decide +kernel) (by decide +kernel)
theorem mw479 : Cond.methodLink RX4 62 Lib.Math.max.name ∈ WS := ws_of 479 (by decide +kernel) (by decide +kernel)
theorem mw480 : Cond.methodLink RX4 65 arraycopyName ∈ WS := ws_of 480 (by decide +kernel) (by decide +kernel)
theorem mw481 : Cond.static arraycopyName ∈ WS := ws_of 481 (by decide +kernel) (by decide +kernel)
theorem mw482 : Cond.native arraycopyName ∈ WS := ws_of 482 (by decide +kernel) (by decide +kernel)
theorem mw483 : Cond.methodLink RX4 71 yX4_readLines ∈ WS := ws_of 483 (by decide +kernel) (by decide +kernel)
theorem mw485 : Cond.instanceMethod yX4_readLines ∈ WS := ws_of 485 (by decide +kernel) (by decide +kernel)
set_option maxRecDepth 100000 in
theorem mw486 : Cond.code yX4_readLines cX4_readLines 3 none ∈ WS := ws_of 486 rfl (by decide +kernel)
theorem mw487 : Cond.methodLink RX4 145 yX4_nextToken ∈ WS := ws_of 487 (by decide +kernel) (by decide +kernel)
theorem mw489 : Cond.instanceMethod yX4_nextToken ∈ WS := ws_of 489 (by decide +kernel) (by decide +kernel)
set_option maxRecDepth 100000 in
theorem mw490 : Cond.code yX4_nextToken cX4_nextToken 2 none ∈ WS := ws_of 490 rfl (by decide +kernel)
theorem mw491 : Cond.methodLink RX4 81 yX4_isBlank ∈ WS := ws_of 491 (by decide +kernel) (by decide +kernel)
theorem mw492 : Cond.static yX4_isBlank ∈ WS := ws_of 492 (by decide +kernel) (by decide +kernel)
set_option maxRecDepth 100000 in
theorem mw493 : Cond.code yX4_isBlank cX4_isBlank 1 (some .boolean) ∈ WS := ws_of 493 rfl (by decide +kernel)
theorem mw494 : Cond.methodLink RX4 85 yX4_isLetter ∈ WS := ws_of 494 (by decide +kernel) (by decide +kernel)
theorem mw495 : Cond.static yX4_isLetter ∈ WS := ws_of 495 (by decide +kernel) (by decide +kernel)
set_option maxRecDepth 100000 in
theorem mw496 : Cond.code yX4_isLetter cX4_isLetter 1 (some .boolean) ∈ WS := ws_of 496 rfl (by decide +kernel)
theorem mw497 : Cond.methodLink RX4 88 yX4_isDigit ∈ WS := ws_of 497 (by decide +kernel) (by decide +kernel)
theorem mw498 : Cond.static yX4_isDigit ∈ WS := ws_of 498 (by decide +kernel) (by decide +kernel)
set_option maxRecDepth 100000 in
theorem mw499 : Cond.code yX4_isDigit cX4_isDigit 1 (some .boolean) ∈ WS := ws_of 499 rfl (by decide +kernel)
theorem mw500 : Cond.methodLink RX4 148 yX4_readLine ∈ WS := ws_of 500 (by decide +kernel) (by decide +kernel)
theorem mw502 : Cond.instanceMethod yX4_readLine ∈ WS := ws_of 502 (by decide +kernel) (by decide +kernel)
set_option maxRecDepth 100000 in
theorem mw503 : Cond.code yX4_readLine cX4_readLine 3 (some .boolean) ∈ WS := ws_of 503 rfl (by decide +kernel)
theorem mw504 : Cond.methodLink RX4 155 yX4_verbOf ∈ WS := ws_of 504 (by decide +kernel) (by decide +kernel)
theorem mw506 : Cond.instanceMethod yX4_verbOf ∈ WS := ws_of 506 (by decide +kernel) (by decide +kernel)
set_option maxRecDepth 100000 in
theorem mw507 : Cond.code yX4_verbOf cX4_verbOf 3 (some .int) ∈ WS := ws_of 507 rfl (by decide +kernel)
theorem mw510 : Cond.methodLink RX4 129 yX4_wordOf ∈ WS := ws_of 510 (by decide +kernel) (by decide +kernel)
theorem mw511 : Cond.static yX4_wordOf ∈ WS := ws_of 511 (by decide +kernel) (by decide +kernel)
set_option maxRecDepth 100000 in
theorem mw512 : Cond.code yX4_wordOf cX4_wordOf 1 (some (.object "java/lang/String")) ∈ WS := ws_of 512 rfl (by decide +kernel)
theorem mw526 : Cond.methodLink RX4 133 yX4_spells ∈ WS := ws_of 526 (by decide +kernel) (by decide +kernel)
theorem mw528 : Cond.instanceMethod yX4_spells ∈ WS := ws_of 528 (by decide +kernel) (by decide +kernel)
set_option maxRecDepth 100000 in
theorem mw529 : Cond.code yX4_spells cX4_spells 3 (some .boolean) ∈ WS := ws_of 529 rfl (by decide +kernel)
theorem mw530 : Cond.methodLink RX4 91 yJ0_length_8abf5 ∈ WS := ws_of 530 (by decide +kernel) (by decide +kernel)
theorem mw531 : Cond.instanceMethod yJ0_length_8abf5 ∈ WS := ws_of 531 (by decide +kernel) (by decide +kernel)
theorem mw532 : Cond.selects RJ0 yJ0_length_8abf5 yJ0_length_8abf5 ∈ WS := ws_of 532 (by decide +kernel) (by decide +kernel)
set_option maxRecDepth 100000 in
theorem mw533 : Cond.code yJ0_length_8abf5 cJ0_length_8abf5 1 (some .int) ∈ WS := ws_of 533 rfl (by decide +kernel)
theorem mw534 : Cond.methodLink RJ0 335 yJ0_coder_7d493 ∈ WS := ws_of 534 (by decide +kernel) (by decide +kernel)
theorem mw535 : Cond.instanceMethod yJ0_coder_7d493 ∈ WS := ws_of 535 (by decide +kernel) (by decide +kernel)
theorem mw536 : Cond.selects RJ0 yJ0_coder_7d493 yJ0_coder_7d493 ∈ WS := ws_of 536 (by decide +kernel) (by decide +kernel)
set_option maxRecDepth 100000 in
theorem mw537 : Cond.code yJ0_coder_7d493 cJ0_coder_7d493 1 (some .byte) ∈ WS := ws_of 537 rfl (by decide +kernel)
theorem mw538 : Cond.fieldLink RJ0 38 "java/lang/String" "COMPACT_STRINGS" "Z" ∈ WS := ws_of 538 (by decide +kernel) (by decide +kernel)
theorem mw540 : Cond.methodLink RX4 96 yJ0_charAt_5068e ∈ WS := ws_of 540 (by decide +kernel) (by decide +kernel)
theorem mw541 : Cond.instanceMethod yJ0_charAt_5068e ∈ WS := ws_of 541 (by decide +kernel) (by decide +kernel)
theorem mw542 : Cond.selects RJ0 yJ0_charAt_5068e yJ0_charAt_5068e ∈ WS := ws_of 542 (by decide +kernel) (by decide +kernel)
set_option maxRecDepth 100000 in
theorem mw543 : Cond.code yJ0_charAt_5068e cJ0_charAt_5068e 2 (some .char) ∈ WS := ws_of 543 rfl (by decide +kernel)
theorem mw544 : Cond.methodLink RJ0 492 yJ0_isLatin1_aae02 ∈ WS := ws_of 544 (by decide +kernel) (by decide +kernel)
theorem mw545 : Cond.instanceMethod yJ0_isLatin1_aae02 ∈ WS := ws_of 545 (by decide +kernel) (by decide +kernel)
theorem mw546 : Cond.selects RJ0 yJ0_isLatin1_aae02 yJ0_isLatin1_aae02 ∈ WS := ws_of 546 (by decide +kernel) (by decide +kernel)
set_option maxRecDepth 100000 in
theorem mw547 : Cond.code yJ0_isLatin1_aae02 cJ0_isLatin1_aae02 1 (some .boolean) ∈ WS := ws_of 547 rfl (by decide +kernel)
theorem mw548 : Cond.methodLink RJ0 495 yJ1_charAt_3b067 ∈ WS := ws_of 548 (by decide +kernel) (by decide +kernel)
theorem mw549 : Cond.static yJ1_charAt_3b067 ∈ WS := ws_of 549 (by decide +kernel) (by decide +kernel)
set_option maxRecDepth 100000 in
theorem mw550 : Cond.code yJ1_charAt_3b067 cJ1_charAt_3b067 2 (some .char) ∈ WS := ws_of 550 rfl (by decide +kernel)
theorem mw551 : Cond.methodLink RJ1 9 yJ0_checkIndex_df160 ∈ WS := ws_of 551 (by decide +kernel) (by decide +kernel)
theorem mw552 : Cond.static yJ0_checkIndex_df160 ∈ WS := ws_of 552 (by decide +kernel) (by decide +kernel)
set_option maxRecDepth 100000 in
theorem mw553 : Cond.code yJ0_checkIndex_df160 cJ0_checkIndex_df160 2 none ∈ WS := ws_of 553 rfl (by decide +kernel)
theorem mw554 : Cond.fieldLink RJ0 1053 "jdk/internal/util/Preconditions" "SIOOBE_FORMATTER" "Ljava/util/function/BiFunction;" ∈ WS := ws_of 554 (by decide +kernel) (by decide +kernel)
theorem mw556 : Cond.methodLink RJ0 1059 yJ3_checkIndex_8e157 ∈ WS := ws_of 556 (by decide +kernel) (by decide +kernel)
theorem mw557 : Cond.static yJ3_checkIndex_8e157 ∈ WS := ws_of 557 (by decide +kernel) (by decide +kernel)
set_option maxRecDepth 100000 in
theorem mw558 : Cond.code yJ3_checkIndex_8e157 cJ3_checkIndex_8e157 3 (some .int) ∈ WS := ws_of 558 rfl (by decide +kernel)
theorem mw559 : Cond.methodLink RJ0 498 yJ2_charAt_3b067 ∈ WS := ws_of 559 (by decide +kernel) (by decide +kernel)
theorem mw560 : Cond.static yJ2_charAt_3b067 ∈ WS := ws_of 560 (by decide +kernel) (by decide +kernel)
set_option maxRecDepth 100000 in
theorem mw561 : Cond.code yJ2_charAt_3b067 cJ2_charAt_3b067 2 (some .char) ∈ WS := ws_of 561 rfl (by decide +kernel)
theorem mw562 : Cond.methodLink RJ2 67 yJ2_checkIndex_2214a ∈ WS := ws_of 562 (by decide +kernel) (by decide +kernel)
theorem mw563 : Cond.static yJ2_checkIndex_2214a ∈ WS := ws_of 563 (by decide +kernel) (by decide +kernel)
set_option maxRecDepth 100000 in
theorem mw564 : Cond.code yJ2_checkIndex_2214a cJ2_checkIndex_2214a 2 none ∈ WS := ws_of 564 rfl (by decide +kernel)
theorem mw565 : Cond.methodLink RJ2 48 yJ2_length_9d52b ∈ WS := ws_of 565 (by decide +kernel) (by decide +kernel)
theorem mw566 : Cond.static yJ2_length_9d52b ∈ WS := ws_of 566 (by decide +kernel) (by decide +kernel)
set_option maxRecDepth 100000 in
theorem mw567 : Cond.code yJ2_length_9d52b cJ2_length_9d52b 1 (some .int) ∈ WS := ws_of 567 rfl (by decide +kernel)
theorem mw568 : Cond.methodLink RJ2 414 yJ0_checkIndex_df160 ∈ WS := ws_of 568 (by decide +kernel) (by decide +kernel)
theorem mw569 : Cond.methodLink RJ2 71 yJ2_getChar_3b067 ∈ WS := ws_of 569 (by decide +kernel) (by decide +kernel)
theorem mw570 : Cond.static yJ2_getChar_3b067 ∈ WS := ws_of 570 (by decide +kernel) (by decide +kernel)
set_option maxRecDepth 100000 in
theorem mw571 : Cond.code yJ2_getChar_3b067 cJ2_getChar_3b067 2 (some .char) ∈ WS := ws_of 571 rfl (by decide +kernel)
theorem mw572 : Cond.fieldLink RJ2 44 "java/lang/StringUTF16" "$assertionsDisabled" "Z" ∈ WS := ws_of 572 (by decide +kernel) (by decide +kernel)
theorem mw574 : Cond.fieldLink RJ2 59 "java/lang/StringUTF16" "HI_BYTE_SHIFT" "I" ∈ WS := ws_of 574 (by decide +kernel) (by decide +kernel)
theorem mw576 : Cond.fieldLink RJ2 63 "java/lang/StringUTF16" "LO_BYTE_SHIFT" "I" ∈ WS := ws_of 576 (by decide +kernel) (by decide +kernel)
theorem mw578 : Cond.methodLink RX4 159 yX4_kindOf ∈ WS := ws_of 578 (by decide +kernel) (by decide +kernel)
theorem mw580 : Cond.instanceMethod yX4_kindOf ∈ WS := ws_of 580 (by decide +kernel) (by decide +kernel)
set_option maxRecDepth 100000 in
theorem mw581 : Cond.code yX4_kindOf cX4_kindOf 1 (some .int) ∈ WS := ws_of 581 rfl (by decide +kernel)
theorem mw586 : Cond.methodLink RX4 162 yX4_readNumbers ∈ WS := ws_of 586 (by decide +kernel) (by decide +kernel)
theorem mw588 : Cond.instanceMethod yX4_readNumbers ∈ WS := ws_of 588 (by decide +kernel) (by decide +kernel)
set_option maxRecDepth 100000 in
theorem mw589 : Cond.code yX4_readNumbers cX4_readNumbers 4 (some .boolean) ∈ WS := ws_of 589 rfl (by decide +kernel)
theorem mw592 : Cond.methodLink RX4 168 yX4_tokenNumber ∈ WS := ws_of 592 (by decide +kernel) (by decide +kernel)
theorem mw594 : Cond.instanceMethod yX4_tokenNumber ∈ WS := ws_of 594 (by decide +kernel) (by decide +kernel)
set_option maxRecDepth 100000 in
theorem mw595 : Cond.code yX4_tokenNumber cX4_tokenNumber 3 (some .int) ∈ WS := ws_of 595 rfl (by decide +kernel)
theorem mw596 : Cond.methodLink RX4 151 yX4_blame ∈ WS := ws_of 596 (by decide +kernel) (by decide +kernel)
theorem mw598 : Cond.instanceMethod yX4_blame ∈ WS := ws_of 598 (by decide +kernel) (by decide +kernel)
set_option maxRecDepth 100000 in
theorem mw599 : Cond.code yX4_blame cX4_blame 3 none ∈ WS := ws_of 599 rfl (by decide +kernel)
theorem mw600 : Cond.methodLink RX4 75 yX4_checkLines ∈ WS := ws_of 600 (by decide +kernel) (by decide +kernel)
theorem mw602 : Cond.instanceMethod yX4_checkLines ∈ WS := ws_of 602 (by decide +kernel) (by decide +kernel)
set_option maxRecDepth 100000 in
theorem mw603 : Cond.code yX4_checkLines cX4_checkLines 3 none ∈ WS := ws_of 603 rfl (by decide +kernel)
theorem mw604 : Cond.methodLink RX4 171 yJ7_fill_53178 ∈ WS := ws_of 604 (by decide +kernel) (by decide +kernel)
theorem mw605 : Cond.static yJ7_fill_53178 ∈ WS := ws_of 605 (by decide +kernel) (by decide +kernel)
set_option maxRecDepth 100000 in
theorem mw606 : Cond.code yJ7_fill_53178 cJ7_fill_53178 4 none ∈ WS := ws_of 606 rfl (by decide +kernel)
theorem mw607 : Cond.methodLink RX4 177 yX4_isTooMany ∈ WS := ws_of 607 (by decide +kernel) (by decide +kernel)
theorem mw609 : Cond.instanceMethod yX4_isTooMany ∈ WS := ws_of 609 (by decide +kernel) (by decide +kernel)
set_option maxRecDepth 100000 in
theorem mw610 : Cond.code yX4_isTooMany cX4_isTooMany 3 (some .boolean) ∈ WS := ws_of 610 rfl (by decide +kernel)
theorem mw613 : Cond.methodLink RX4 180 yX4_mayBe ∈ WS := ws_of 613 (by decide +kernel) (by decide +kernel)
theorem mw615 : Cond.instanceMethod yX4_mayBe ∈ WS := ws_of 615 (by decide +kernel) (by decide +kernel)
set_option maxRecDepth 100000 in
theorem mw616 : Cond.code yX4_mayBe cX4_mayBe 6 (some .boolean) ∈ WS := ws_of 616 rfl (by decide +kernel)
theorem mw621 : Cond.methodLink RX4 78 yX4_checkAllThere ∈ WS := ws_of 621 (by decide +kernel) (by decide +kernel)
theorem mw623 : Cond.instanceMethod yX4_checkAllThere ∈ WS := ws_of 623 (by decide +kernel) (by decide +kernel)
set_option maxRecDepth 100000 in
theorem mw624 : Cond.code yX4_checkAllThere cX4_checkAllThere 4 none ∈ WS := ws_of 624 rfl (by decide +kernel)
theorem mw625 : Cond.methodLink RX9 90 yX9_takeText ∈ WS := ws_of 625 (by decide +kernel) (by decide +kernel)
theorem mw627 : Cond.instanceMethod yX9_takeText ∈ WS := ws_of 627 (by decide +kernel) (by decide +kernel)
set_option maxRecDepth 100000 in
theorem mw628 : Cond.code yX9_takeText cX9_takeText 3 none ∈ WS := ws_of 628 rfl (by decide +kernel)
theorem mw629 : Cond.methodLink RX9 94 yX8_houseAt ∈ WS := ws_of 629 (by decide +kernel) (by decide +kernel)
theorem mw630 : Cond.instanceMethod yX8_houseAt ∈ WS := ws_of 630 (by decide +kernel) (by decide +kernel)
theorem mw631 : Cond.selects RX8 yX8_houseAt yX8_houseAt ∈ WS := ws_of 631 (by decide +kernel) (by decide +kernel)
set_option maxRecDepth 100000 in
theorem mw632 : Cond.code yX8_houseAt cX8_houseAt 2 (some (.object "TarnishTurns$House")) ∈ WS := ws_of 632 rfl (by decide +kernel)
theorem mw633 : Cond.methodLink RX9 98 yX4_fillHouse ∈ WS := ws_of 633 (by decide +kernel) (by decide +kernel)
theorem mw634 : Cond.instanceMethod yX4_fillHouse ∈ WS := ws_of 634 (by decide +kernel) (by decide +kernel)
theorem mw635 : Cond.selects RX4 yX4_fillHouse yX4_fillHouse ∈ WS := ws_of 635 (by decide +kernel) (by decide +kernel)
set_option maxRecDepth 100000 in
theorem mw636 : Cond.code yX4_fillHouse cX4_fillHouse 4 none ∈ WS := ws_of 636 rfl (by decide +kernel)
theorem mw637 : Cond.methodLink RX4 193 yX2_empty ∈ WS := ws_of 637 (by decide +kernel) (by decide +kernel)
theorem mw638 : Cond.instanceMethod yX2_empty ∈ WS := ws_of 638 (by decide +kernel) (by decide +kernel)
theorem mw639 : Cond.selects RX2 yX2_empty yX2_empty ∈ WS := ws_of 639 (by decide +kernel) (by decide +kernel)
set_option maxRecDepth 100000 in
theorem mw640 : Cond.code yX2_empty cX2_empty 1 none ∈ WS := ws_of 640 rfl (by decide +kernel)
theorem mw641 : Cond.methodLink RX2 46 yJ7_fill_53178 ∈ WS := ws_of 641 (by decide +kernel) (by decide +kernel)
theorem mw642 : Cond.methodLink RX4 198 yX2_addPiece ∈ WS := ws_of 642 (by decide +kernel) (by decide +kernel)
theorem mw643 : Cond.instanceMethod yX2_addPiece ∈ WS := ws_of 643 (by decide +kernel) (by decide +kernel)
theorem mw644 : Cond.selects RX2 yX2_addPiece yX2_addPiece ∈ WS := ws_of 644 (by decide +kernel) (by decide +kernel)
set_option maxRecDepth 100000 in
theorem mw645 : Cond.code yX2_addPiece cX2_addPiece 3 none ∈ WS := ws_of 645 rfl (by decide +kernel)
theorem mw646 : Cond.methodLink RX4 201 yX2_addSecret ∈ WS := ws_of 646 (by decide +kernel) (by decide +kernel)
theorem mw647 : Cond.instanceMethod yX2_addSecret ∈ WS := ws_of 647 (by decide +kernel) (by decide +kernel)
theorem mw648 : Cond.selects RX2 yX2_addSecret yX2_addSecret ∈ WS := ws_of 648 (by decide +kernel) (by decide +kernel)
set_option maxRecDepth 100000 in
theorem mw649 : Cond.code yX2_addSecret cX2_addSecret 3 none ∈ WS := ws_of 649 rfl (by decide +kernel)
theorem mw650 : Cond.methodLink RX4 204 yX2_addKnown ∈ WS := ws_of 650 (by decide +kernel) (by decide +kernel)
theorem mw651 : Cond.instanceMethod yX2_addKnown ∈ WS := ws_of 651 (by decide +kernel) (by decide +kernel)
theorem mw652 : Cond.selects RX2 yX2_addKnown yX2_addKnown ∈ WS := ws_of 652 (by decide +kernel) (by decide +kernel)
set_option maxRecDepth 100000 in
theorem mw653 : Cond.code yX2_addKnown cX2_addKnown 3 none ∈ WS := ws_of 653 rfl (by decide +kernel)
theorem mw654 : Cond.methodLink RX4 207 yX2_addLink ∈ WS := ws_of 654 (by decide +kernel) (by decide +kernel)
theorem mw655 : Cond.instanceMethod yX2_addLink ∈ WS := ws_of 655 (by decide +kernel) (by decide +kernel)
theorem mw656 : Cond.selects RX2 yX2_addLink yX2_addLink ∈ WS := ws_of 656 (by decide +kernel) (by decide +kernel)
set_option maxRecDepth 100000 in
theorem mw657 : Cond.code yX2_addLink cX2_addLink 4 none ∈ WS := ws_of 657 rfl (by decide +kernel)
theorem mw658 : Cond.methodLink RX9 102 yX8_rowsAt ∈ WS := ws_of 658 (by decide +kernel) (by decide +kernel)
theorem mw659 : Cond.instanceMethod yX8_rowsAt ∈ WS := ws_of 659 (by decide +kernel) (by decide +kernel)
theorem mw660 : Cond.selects RX8 yX8_rowsAt yX8_rowsAt ∈ WS := ws_of 660 (by decide +kernel) (by decide +kernel)
set_option maxRecDepth 100000 in
theorem mw661 : Cond.code yX8_rowsAt cX8_rowsAt 3 (some (.object "TarnishTurns$Rows")) ∈ WS := ws_of 661 rfl (by decide +kernel)
theorem mw662 : Cond.methodLink RX9 106 yX4_fillRows ∈ WS := ws_of 662 (by decide +kernel) (by decide +kernel)
theorem mw663 : Cond.instanceMethod yX4_fillRows ∈ WS := ws_of 663 (by decide +kernel) (by decide +kernel)
theorem mw664 : Cond.selects RX4 yX4_fillRows yX4_fillRows ∈ WS := ws_of 664 (by decide +kernel) (by decide +kernel)
set_option maxRecDepth 100000 in
theorem mw665 : Cond.code yX4_fillRows cX4_fillRows 4 none ∈ WS := ws_of 665 rfl (by decide +kernel)
theorem mw666 : Cond.methodLink RX4 216 yX5_add ∈ WS := ws_of 666 (by decide +kernel) (by decide +kernel)
theorem mw667 : Cond.instanceMethod yX5_add ∈ WS := ws_of 667 (by decide +kernel) (by decide +kernel)
theorem mw668 : Cond.selects RX5 yX5_add yX5_add ∈ WS := ws_of 668 (by decide +kernel) (by decide +kernel)
set_option maxRecDepth 100000 in
theorem mw669 : Cond.code yX5_add cX5_add 6 none ∈ WS := ws_of 669 rfl (by decide +kernel)
theorem mw670 : Cond.methodLink RL 28 yX9_fault ∈ WS := ws_of 670 (by decide +kernel) (by decide +kernel)
theorem mw671 : Cond.instanceMethod yX9_fault ∈ WS := ws_of 671 (by decide +kernel) (by decide +kernel)
theorem mw672 : Cond.selects RX9 yX9_fault yX9_fault ∈ WS := ws_of 672 (by decide +kernel) (by decide +kernel)
set_option maxRecDepth 100000 in
theorem mw673 : Cond.code yX9_fault cX9_fault 2 (some .int) ∈ WS := ws_of 673 rfl (by decide +kernel)
theorem mw674 : Cond.methodLink RL 32 yX9_house ∈ WS := ws_of 674 (by decide +kernel) (by decide +kernel)
theorem mw675 : Cond.instanceMethod yX9_house ∈ WS := ws_of 675 (by decide +kernel) (by decide +kernel)
theorem mw676 : Cond.selects RX9 yX9_house yX9_house ∈ WS := ws_of 676 (by decide +kernel) (by decide +kernel)
set_option maxRecDepth 100000 in
theorem mw677 : Cond.code yX9_house cX9_house 4 (some .int) ∈ WS := ws_of 677 rfl (by decide +kernel)
theorem mw678 : Cond.methodLink RX9 121 yX2_detail ∈ WS := ws_of 678 (by decide +kernel) (by decide +kernel)
theorem mw679 : Cond.instanceMethod yX2_detail ∈ WS := ws_of 679 (by decide +kernel) (by decide +kernel)
theorem mw680 : Cond.selects RX2 yX2_detail yX2_detail ∈ WS := ws_of 680 (by decide +kernel) (by decide +kernel)
set_option maxRecDepth 100000 in
theorem mw681 : Cond.code yX2_detail cX2_detail 3 (some .int) ∈ WS := ws_of 681 rfl (by decide +kernel)
theorem mw682 : Cond.methodLink RX2 71 yX2_hasPiece ∈ WS := ws_of 682 (by decide +kernel) (by decide +kernel)
theorem mw683 : Cond.instanceMethod yX2_hasPiece ∈ WS := ws_of 683 (by decide +kernel) (by decide +kernel)
theorem mw684 : Cond.selects RX2 yX2_hasPiece yX2_hasPiece ∈ WS := ws_of 684 (by decide +kernel) (by decide +kernel)
set_option maxRecDepth 100000 in
theorem mw685 : Cond.code yX2_hasPiece cX2_hasPiece 2 (some .boolean) ∈ WS := ws_of 685 rfl (by decide +kernel)
theorem mw686 : Cond.methodLink RX2 75 yX2_pieceDetail ∈ WS := ws_of 686 (by decide +kernel) (by decide +kernel)
theorem mw688 : Cond.instanceMethod yX2_pieceDetail ∈ WS := ws_of 688 (by decide +kernel) (by decide +kernel)
set_option maxRecDepth 100000 in
theorem mw689 : Cond.code yX2_pieceDetail cX2_pieceDetail 3 (some .int) ∈ WS := ws_of 689 rfl (by decide +kernel)
theorem mw690 : Cond.methodLink RX2 78 yX2_hasSecret ∈ WS := ws_of 690 (by decide +kernel) (by decide +kernel)
theorem mw691 : Cond.instanceMethod yX2_hasSecret ∈ WS := ws_of 691 (by decide +kernel) (by decide +kernel)
theorem mw692 : Cond.selects RX2 yX2_hasSecret yX2_hasSecret ∈ WS := ws_of 692 (by decide +kernel) (by decide +kernel)
set_option maxRecDepth 100000 in
theorem mw693 : Cond.code yX2_hasSecret cX2_hasSecret 2 (some .boolean) ∈ WS := ws_of 693 rfl (by decide +kernel)
theorem mw694 : Cond.methodLink RX2 81 yX2_secretDetail ∈ WS := ws_of 694 (by decide +kernel) (by decide +kernel)
theorem mw696 : Cond.instanceMethod yX2_secretDetail ∈ WS := ws_of 696 (by decide +kernel) (by decide +kernel)
set_option maxRecDepth 100000 in
theorem mw697 : Cond.code yX2_secretDetail cX2_secretDetail 3 (some .int) ∈ WS := ws_of 697 rfl (by decide +kernel)
theorem mw698 : Cond.methodLink RX2 84 yX2_linkDetail ∈ WS := ws_of 698 (by decide +kernel) (by decide +kernel)
theorem mw700 : Cond.instanceMethod yX2_linkDetail ∈ WS := ws_of 700 (by decide +kernel) (by decide +kernel)
set_option maxRecDepth 100000 in
theorem mw701 : Cond.code yX2_linkDetail cX2_linkDetail 3 (some .int) ∈ WS := ws_of 701 rfl (by decide +kernel)
theorem mw702 : Cond.methodLink RL 36 yX9_worth ∈ WS := ws_of 702 (by decide +kernel) (by decide +kernel)
theorem mw703 : Cond.instanceMethod yX9_worth ∈ WS := ws_of 703 (by decide +kernel) (by decide +kernel)
theorem mw704 : Cond.selects RX9 yX9_worth yX9_worth ∈ WS := ws_of 704 (by decide +kernel) (by decide +kernel)
set_option maxRecDepth 100000 in
theorem mw705 : Cond.code yX9_worth cX9_worth 5 (some .int) ∈ WS := ws_of 705 rfl (by decide +kernel)
theorem mw706 : Cond.methodLink RX9 125 yX2_hasSecret ∈ WS := ws_of 706 (by decide +kernel) (by decide +kernel)
theorem mw707 : Cond.methodLink RX9 129 yX2_hasPiece ∈ WS := ws_of 707 (by decide +kernel) (by decide +kernel)
theorem mw708 : Cond.methodLink RX9 132 yX2_worthTo ∈ WS := ws_of 708 (by decide +kernel) (by decide +kernel)
theorem mw709 : Cond.instanceMethod yX2_worthTo ∈ WS := ws_of 709 (by decide +kernel) (by decide +kernel)
theorem mw710 : Cond.selects RX2 yX2_worthTo yX2_worthTo ∈ WS := ws_of 710 (by decide +kernel) (by decide +kernel)
set_option maxRecDepth 100000 in
theorem mw711 : Cond.code yX2_worthTo cX2_worthTo 3 (some .int) ∈ WS := ws_of 711 rfl (by decide +kernel)
theorem mw712 : Cond.methodLink RX2 87 yX2_worthIfTaste ∈ WS := ws_of 712 (by decide +kernel) (by decide +kernel)
theorem mw713 : Cond.instanceMethod yX2_worthIfTaste ∈ WS := ws_of 713 (by decide +kernel) (by decide +kernel)
theorem mw714 : Cond.selects RX2 yX2_worthIfTaste yX2_worthIfTaste ∈ WS := ws_of 714 (by decide +kernel) (by decide +kernel)
set_option maxRecDepth 100000 in
theorem mw715 : Cond.code yX2_worthIfTaste cX2_worthIfTaste 4 (some .int) ∈ WS := ws_of 715 rfl (by decide +kernel)
theorem mw717 : Cond.static yX9_hasBit ∈ WS := ws_of 717 (by decide +kernel) (by decide +kernel)
set_option maxRecDepth 100000 in
theorem mw718 : Cond.code yX9_hasBit cX9_hasBit 2 (some .boolean) ∈ WS := ws_of 718 rfl (by decide +kernel)
theorem mw720 : Cond.static yX9_worthOf ∈ WS := ws_of 720 (by decide +kernel) (by decide +kernel)
set_option maxRecDepth 100000 in
theorem mw721 : Cond.code yX9_worthOf cX9_worthOf 4 (some .int) ∈ WS := ws_of 721 rfl (by decide +kernel)
theorem mw722 : Cond.methodLink RL 41 yX9_deed ∈ WS := ws_of 722 (by decide +kernel) (by decide +kernel)
theorem mw723 : Cond.instanceMethod yX9_deed ∈ WS := ws_of 723 (by decide +kernel) (by decide +kernel)
theorem mw724 : Cond.selects RX9 yX9_deed yX9_deed ∈ WS := ws_of 724 (by decide +kernel) (by decide +kernel)
set_option maxRecDepth 100000 in
theorem mw725 : Cond.code yX9_deed cX9_deed 6 (some .int) ∈ WS := ws_of 725 rfl (by decide +kernel)
theorem mw726 : Cond.methodLink RX9 140 yX5_hasRow ∈ WS := ws_of 726 (by decide +kernel) (by decide +kernel)
theorem mw727 : Cond.instanceMethod yX5_hasRow ∈ WS := ws_of 727 (by decide +kernel) (by decide +kernel)
theorem mw728 : Cond.selects RX5 yX5_hasRow yX5_hasRow ∈ WS := ws_of 728 (by decide +kernel) (by decide +kernel)
set_option maxRecDepth 100000 in
theorem mw729 : Cond.code yX5_hasRow cX5_hasRow 2 (some .boolean) ∈ WS := ws_of 729 rfl (by decide +kernel)
theorem mw730 : Cond.methodLink RX9 143 yX5_cell ∈ WS := ws_of 730 (by decide +kernel) (by decide +kernel)
theorem mw731 : Cond.instanceMethod yX5_cell ∈ WS := ws_of 731 (by decide +kernel) (by decide +kernel)
theorem mw732 : Cond.selects RX5 yX5_cell yX5_cell ∈ WS := ws_of 732 (by decide +kernel) (by decide +kernel)
set_option maxRecDepth 100000 in
theorem mw733 : Cond.code yX5_cell cX5_cell 3 (some .int) ∈ WS := ws_of 733 rfl (by decide +kernel)
theorem mw734 : Cond.methodLink RX5 31 yX5_hasRow ∈ WS := ws_of 734 (by decide +kernel) (by decide +kernel)
theorem mw735 : Cond.methodLink RL 45 yX9_till ∈ WS := ws_of 735 (by decide +kernel) (by decide +kernel)
theorem mw736 : Cond.instanceMethod yX9_till ∈ WS := ws_of 736 (by decide +kernel) (by decide +kernel)
theorem mw737 : Cond.selects RX9 yX9_till yX9_till ∈ WS := ws_of 737 (by decide +kernel) (by decide +kernel)
set_option maxRecDepth 100000 in
theorem mw738 : Cond.code yX9_till cX9_till 5 (some .int) ∈ WS := ws_of 738 rfl (by decide +kernel)
theorem mw739 : Cond.methodLink RX9 146 yX0_follow ∈ WS := ws_of 739 (by decide +kernel) (by decide +kernel)
theorem mw740 : Cond.instanceMethod yX0_follow ∈ WS := ws_of 740 (by decide +kernel) (by decide +kernel)
theorem mw741 : Cond.selects RX0 yX0_follow yX0_follow ∈ WS := ws_of 741 (by decide +kernel) (by decide +kernel)
set_option maxRecDepth 100000 in
theorem mw742 : Cond.code yX0_follow cX0_follow 5 (some .int) ∈ WS := ws_of 742 rfl (by decide +kernel)
theorem mw743 : Cond.methodLink RX0 66 yX0_begin ∈ WS := ws_of 743 (by decide +kernel) (by decide +kernel)
theorem mw745 : Cond.instanceMethod yX0_begin ∈ WS := ws_of 745 (by decide +kernel) (by decide +kernel)
set_option maxRecDepth 100000 in
theorem mw746 : Cond.code yX0_begin cX0_begin 2 none ∈ WS := ws_of 746 rfl (by decide +kernel)
theorem mw747 : Cond.methodLink RX0 53 yJ7_fill_53178 ∈ WS := ws_of 747 (by decide +kernel) (by decide +kernel)
theorem mw748 : Cond.methodLink RX0 60 arraycopyName ∈ WS := ws_of 748 (by decide +kernel) (by decide +kernel)
theorem mw749 : Cond.methodLink RX0 70 yX0_remember ∈ WS := ws_of 749 (by decide +kernel) (by decide +kernel)
theorem mw751 : Cond.instanceMethod yX0_remember ∈ WS := ws_of 751 (by decide +kernel) (by decide +kernel)
set_option maxRecDepth 100000 in
theorem mw752 : Cond.code yX0_remember cX0_remember 4 none ∈ WS := ws_of 752 rfl (by decide +kernel)
theorem mw753 : Cond.methodLink RX0 92 yX0_brightest ∈ WS := ws_of 753 (by decide +kernel) (by decide +kernel)
theorem mw755 : Cond.instanceMethod yX0_brightest ∈ WS := ws_of 755 (by decide +kernel) (by decide +kernel)
set_option maxRecDepth 100000 in
theorem mw756 : Cond.code yX0_brightest cX0_brightest 4 (some .int) ∈ WS := ws_of 756 rfl (by decide +kernel)
theorem mw757 : Cond.methodLink RX0 96 yX0_isDusk ∈ WS := ws_of 757 (by decide +kernel) (by decide +kernel)
theorem mw759 : Cond.instanceMethod yX0_isDusk ∈ WS := ws_of 759 (by decide +kernel) (by decide +kernel)
set_option maxRecDepth 100000 in
theorem mw760 : Cond.code yX0_isDusk cX0_isDusk 3 (some .boolean) ∈ WS := ws_of 760 rfl (by decide +kernel)
theorem mw761 : Cond.methodLink RX0 103 Lib.Math.max.name ∈ WS := ws_of 761 (by decide +kernel) (by decide +kernel)
theorem mw762 : Cond.methodLink RX0 79 yX5_cell ∈ WS := ws_of 762 (by decide +kernel) (by decide +kernel)
theorem mw763 : Cond.methodLink RX0 83 yX0_perform ∈ WS := ws_of 763 (by decide +kernel) (by decide +kernel)
theorem mw765 : Cond.instanceMethod yX0_perform ∈ WS := ws_of 765 (by decide +kernel) (by decide +kernel)
set_option maxRecDepth 100000 in
theorem mw766 : Cond.code yX0_perform cX0_perform 5 (some .boolean) ∈ WS := ws_of 766 rfl (by decide +kernel)
theorem mw767 : Cond.methodLink RX0 106 yX0_tellOne ∈ WS := ws_of 767 (by decide +kernel) (by decide +kernel)
theorem mw769 : Cond.instanceMethod yX0_tellOne ∈ WS := ws_of 769 (by decide +kernel) (by decide +kernel)
set_option maxRecDepth 100000 in
theorem mw770 : Cond.code yX0_tellOne cX0_tellOne 3 (some .boolean) ∈ WS := ws_of 770 rfl (by decide +kernel)
theorem mw771 : Cond.methodLink RX0 146 yX2_hasSecret ∈ WS := ws_of 771 (by decide +kernel) (by decide +kernel)
theorem mw772 : Cond.methodLink RX0 149 yX0_isThere ∈ WS := ws_of 772 (by decide +kernel) (by decide +kernel)
theorem mw774 : Cond.instanceMethod yX0_isThere ∈ WS := ws_of 774 (by decide +kernel) (by decide +kernel)
set_option maxRecDepth 100000 in
theorem mw775 : Cond.code yX0_isThere cX0_isThere 2 (some .boolean) ∈ WS := ws_of 775 rfl (by decide +kernel)
theorem mw776 : Cond.methodLink RX0 127 yX2_hasPiece ∈ WS := ws_of 776 (by decide +kernel) (by decide +kernel)
theorem mw778 : Cond.methodLink RX0 152 yX0_worthNow ∈ WS := ws_of 778 (by decide +kernel) (by decide +kernel)
theorem mw780 : Cond.instanceMethod yX0_worthNow ∈ WS := ws_of 780 (by decide +kernel) (by decide +kernel)
set_option maxRecDepth 100000 in
theorem mw781 : Cond.code yX0_worthNow cX0_worthNow 3 (some .int) ∈ WS := ws_of 781 rfl (by decide +kernel)
theorem mw783 : Cond.methodLink RX0 155 yX0_give ∈ WS := ws_of 783 (by decide +kernel) (by decide +kernel)
theorem mw785 : Cond.instanceMethod yX0_give ∈ WS := ws_of 785 (by decide +kernel) (by decide +kernel)
set_option maxRecDepth 100000 in
theorem mw786 : Cond.code yX0_give cX0_give 4 none ∈ WS := ws_of 786 rfl (by decide +kernel)
theorem mw787 : Cond.methodLink RX0 110 yX0_tellTwo ∈ WS := ws_of 787 (by decide +kernel) (by decide +kernel)
theorem mw789 : Cond.instanceMethod yX0_tellTwo ∈ WS := ws_of 789 (by decide +kernel) (by decide +kernel)
set_option maxRecDepth 100000 in
theorem mw790 : Cond.code yX0_tellTwo cX0_tellTwo 4 (some .boolean) ∈ WS := ws_of 790 rfl (by decide +kernel)
theorem mw791 : Cond.methodLink RX0 114 yX0_polishOne ∈ WS := ws_of 791 (by decide +kernel) (by decide +kernel)
theorem mw793 : Cond.instanceMethod yX0_polishOne ∈ WS := ws_of 793 (by decide +kernel) (by decide +kernel)
set_option maxRecDepth 100000 in
theorem mw794 : Cond.code yX0_polishOne cX0_polishOne 2 (some .boolean) ∈ WS := ws_of 794 rfl (by decide +kernel)
theorem mw795 : Cond.methodLink RX0 118 yX0_stealOne ∈ WS := ws_of 795 (by decide +kernel) (by decide +kernel)
theorem mw797 : Cond.instanceMethod yX0_stealOne ∈ WS := ws_of 797 (by decide +kernel) (by decide +kernel)
set_option maxRecDepth 100000 in
theorem mw798 : Cond.code yX0_stealOne cX0_stealOne 2 (some .boolean) ∈ WS := ws_of 798 rfl (by decide +kernel)
theorem mw799 : Cond.methodLink RX0 121 yX0_bringBack ∈ WS := ws_of 799 (by decide +kernel) (by decide +kernel)
theorem mw801 : Cond.instanceMethod yX0_bringBack ∈ WS := ws_of 801 (by decide +kernel) (by decide +kernel)
set_option maxRecDepth 100000 in
theorem mw802 : Cond.code yX0_bringBack cX0_bringBack 2 (some .boolean) ∈ WS := ws_of 802 rfl (by decide +kernel)
theorem mw803 : Cond.methodLink RX0 124 yX0_passHour ∈ WS := ws_of 803 (by decide +kernel) (by decide +kernel)
theorem mw805 : Cond.instanceMethod yX0_passHour ∈ WS := ws_of 805 (by decide +kernel) (by decide +kernel)
set_option maxRecDepth 100000 in
theorem mw806 : Cond.code yX0_passHour cX0_passHour 2 (some .boolean) ∈ WS := ws_of 806 rfl (by decide +kernel)
theorem mw807 : Cond.methodLink RX0 87 Lib.Math.min.name ∈ WS := ws_of 807 (by decide +kernel) (by decide +kernel)
theorem mw808 : Cond.methodLink RL 49 yX9_state ∈ WS := ws_of 808 (by decide +kernel) (by decide +kernel)
theorem mw809 : Cond.instanceMethod yX9_state ∈ WS := ws_of 809 (by decide +kernel) (by decide +kernel)
theorem mw810 : Cond.selects RX9 yX9_state yX9_state ∈ WS := ws_of 810 (by decide +kernel) (by decide +kernel)
set_option maxRecDepth 100000 in
theorem mw811 : Cond.code yX9_state cX9_state 7 (some .int) ∈ WS := ws_of 811 rfl (by decide +kernel)
theorem mw812 : Cond.methodLink RX9 150 yX0_look ∈ WS := ws_of 812 (by decide +kernel) (by decide +kernel)
theorem mw813 : Cond.instanceMethod yX0_look ∈ WS := ws_of 813 (by decide +kernel) (by decide +kernel)
theorem mw814 : Cond.selects RX0 yX0_look yX0_look ∈ WS := ws_of 814 (by decide +kernel) (by decide +kernel)
set_option maxRecDepth 100000 in
theorem mw815 : Cond.code yX0_look cX0_look 2 (some .int) ∈ WS := ws_of 815 rfl (by decide +kernel)
theorem mw816 : Cond.methodLink RX0 162 yX0_lookAt ∈ WS := ws_of 816 (by decide +kernel) (by decide +kernel)
theorem mw818 : Cond.instanceMethod yX0_lookAt ∈ WS := ws_of 818 (by decide +kernel) (by decide +kernel)
set_option maxRecDepth 100000 in
theorem mw819 : Cond.code yX0_lookAt cX0_lookAt 3 (some .int) ∈ WS := ws_of 819 rfl (by decide +kernel)
theorem mw820 : Cond.methodLink RL 54 yX9_dinner ∈ WS := ws_of 820 (by decide +kernel) (by decide +kernel)
theorem mw821 : Cond.instanceMethod yX9_dinner ∈ WS := ws_of 821 (by decide +kernel) (by decide +kernel)
theorem mw822 : Cond.selects RX9 yX9_dinner yX9_dinner ∈ WS := ws_of 822 (by decide +kernel) (by decide +kernel)
set_option maxRecDepth 100000 in
theorem mw823 : Cond.code yX9_dinner cX9_dinner 4 (some .int) ∈ WS := ws_of 823 rfl (by decide +kernel)
theorem mw824 : Cond.methodLink RX9 154 yX9_rowNumber ∈ WS := ws_of 824 (by decide +kernel) (by decide +kernel)
theorem mw825 : Cond.static yX9_rowNumber ∈ WS := ws_of 825 (by decide +kernel) (by decide +kernel)
set_option maxRecDepth 100000 in
theorem mw826 : Cond.code yX9_rowNumber cX9_rowNumber 4 (some .int) ∈ WS := ws_of 826 rfl (by decide +kernel)
theorem mw827 : Cond.methodLink RL 58 yX9_served ∈ WS := ws_of 827 (by decide +kernel) (by decide +kernel)
theorem mw828 : Cond.instanceMethod yX9_served ∈ WS := ws_of 828 (by decide +kernel) (by decide +kernel)
theorem mw829 : Cond.selects RX9 yX9_served yX9_served ∈ WS := ws_of 829 (by decide +kernel) (by decide +kernel)
set_option maxRecDepth 100000 in
theorem mw830 : Cond.code yX9_served cX9_served 7 (some .int) ∈ WS := ws_of 830 rfl (by decide +kernel)
theorem mw831 : Cond.methodLink RX9 158 yX2_hasPieces ∈ WS := ws_of 831 (by decide +kernel) (by decide +kernel)
theorem mw832 : Cond.instanceMethod yX2_hasPieces ∈ WS := ws_of 832 (by decide +kernel) (by decide +kernel)
theorem mw833 : Cond.selects RX2 yX2_hasPieces yX2_hasPieces ∈ WS := ws_of 833 (by decide +kernel) (by decide +kernel)
set_option maxRecDepth 100000 in
theorem mw834 : Cond.code yX2_hasPieces cX2_hasPieces 4 (some .boolean) ∈ WS := ws_of 834 rfl (by decide +kernel)
theorem mw835 : Cond.methodLink RX2 67 yX5_cell ∈ WS := ws_of 835 (by decide +kernel) (by decide +kernel)
theorem mw836 : Cond.methodLink RX9 162 yX6_longestServed ∈ WS := ws_of 836 (by decide +kernel) (by decide +kernel)
theorem mw837 : Cond.instanceMethod yX6_longestServed ∈ WS := ws_of 837 (by decide +kernel) (by decide +kernel)
theorem mw838 : Cond.selects RX6 yX6_longestServed yX6_longestServed ∈ WS := ws_of 838 (by decide +kernel) (by decide +kernel)
set_option maxRecDepth 100000 in
theorem mw839 : Cond.code yX6_longestServed cX6_longestServed 7 (some .int) ∈ WS := ws_of 839 rfl (by decide +kernel)
theorem mw840 : Cond.methodLink RX6 47 yX6_measure ∈ WS := ws_of 840 (by decide +kernel) (by decide +kernel)
theorem mw842 : Cond.instanceMethod yX6_measure ∈ WS := ws_of 842 (by decide +kernel) (by decide +kernel)
set_option maxRecDepth 100000 in
theorem mw843 : Cond.code yX6_measure cX6_measure 5 none ∈ WS := ws_of 843 rfl (by decide +kernel)
theorem mw844 : Cond.methodLink RX6 29 yX6_stretch ∈ WS := ws_of 844 (by decide +kernel) (by decide +kernel)
theorem mw845 : Cond.static yX6_stretch ∈ WS := ws_of 845 (by decide +kernel) (by decide +kernel)
set_option maxRecDepth 100000 in
theorem mw846 : Cond.code yX6_stretch cX6_stretch 8 (some .int) ∈ WS := ws_of 846 rfl (by decide +kernel)
theorem mw847 : Cond.methodLink RX6 33 yX5_cell ∈ WS := ws_of 847 (by decide +kernel) (by decide +kernel)
theorem mw848 : Cond.methodLink RX6 37 yX2_hasPiece ∈ WS := ws_of 848 (by decide +kernel) (by decide +kernel)
theorem mw849 : Cond.methodLink RX6 41 yX2_worthTo ∈ WS := ws_of 849 (by decide +kernel) (by decide +kernel)
theorem mw850 : Cond.methodLink RX6 51 yX2_secretSets ∈ WS := ws_of 850 (by decide +kernel) (by decide +kernel)
theorem mw851 : Cond.instanceMethod yX2_secretSets ∈ WS := ws_of 851 (by decide +kernel) (by decide +kernel)
theorem mw852 : Cond.selects RX2 yX2_secretSets yX2_secretSets ∈ WS := ws_of 852 (by decide +kernel) (by decide +kernel)
set_option maxRecDepth 100000 in
theorem mw853 : Cond.code yX2_secretSets cX2_secretSets 1 (some .int) ∈ WS := ws_of 853 rfl (by decide +kernel)
theorem mw855 : Cond.methodLink RX6 59 Lib.Math.max.name ∈ WS := ws_of 855 (by decide +kernel) (by decide +kernel)
theorem mw856 : Cond.methodLink RX6 64 yX2_allSecrets ∈ WS := ws_of 856 (by decide +kernel) (by decide +kernel)
theorem mw857 : Cond.instanceMethod yX2_allSecrets ∈ WS := ws_of 857 (by decide +kernel) (by decide +kernel)
theorem mw858 : Cond.selects RX2 yX2_allSecrets yX2_allSecrets ∈ WS := ws_of 858 (by decide +kernel) (by decide +kernel)
set_option maxRecDepth 100000 in
theorem mw859 : Cond.code yX2_allSecrets cX2_allSecrets 1 (some .int) ∈ WS := ws_of 859 rfl (by decide +kernel)
theorem mw860 : Cond.methodLink RX2 58 yX2_secretSets ∈ WS := ws_of 860 (by decide +kernel) (by decide +kernel)
theorem mw861 : Cond.methodLink RX9 166 yX6_fewestServing ∈ WS := ws_of 861 (by decide +kernel) (by decide +kernel)
theorem mw862 : Cond.instanceMethod yX6_fewestServing ∈ WS := ws_of 862 (by decide +kernel) (by decide +kernel)
theorem mw863 : Cond.selects RX6 yX6_fewestServing yX6_fewestServing ∈ WS := ws_of 863 (by decide +kernel) (by decide +kernel)
set_option maxRecDepth 100000 in
theorem mw864 : Cond.code yX6_fewestServing cX6_fewestServing 7 (some .int) ∈ WS := ws_of 864 rfl (by decide +kernel)
theorem mw865 : Cond.methodLink RX6 67 yX6_startServing ∈ WS := ws_of 865 (by decide +kernel) (by decide +kernel)
theorem mw867 : Cond.instanceMethod yX6_startServing ∈ WS := ws_of 867 (by decide +kernel) (by decide +kernel)
set_option maxRecDepth 100000 in
theorem mw868 : Cond.code yX6_startServing cX6_startServing 4 (some .int) ∈ WS := ws_of 868 rfl (by decide +kernel)
theorem mw869 : Cond.methodLink RX6 70 Lib.Math.min.name ∈ WS := ws_of 869 (by decide +kernel) (by decide +kernel)
theorem mw870 : Cond.methodLink RX6 73 yJ6_bitCount_0f7a4 ∈ WS := ws_of 870 (by decide +kernel) (by decide +kernel)
theorem mw871 : Cond.static yJ6_bitCount_0f7a4 ∈ WS := ws_of 871 (by decide +kernel) (by decide +kernel)
set_option maxRecDepth 100000 in
theorem mw872 : Cond.code yJ6_bitCount_0f7a4 cJ6_bitCount_0f7a4 1 (some .int) ∈ WS := ws_of 872 rfl (by decide +kernel)
theorem mw873 : Cond.constant RJ6 265 (1431655765) ∈ WS := ws_of 873 (by decide +kernel) (by decide +kernel)
theorem mw874 : Cond.constant RJ6 266 (858993459) ∈ WS := ws_of 874 (by decide +kernel) (by decide +kernel)
theorem mw875 : Cond.constant RJ6 267 (252645135) ∈ WS := ws_of 875 (by decide +kernel) (by decide +kernel)
theorem mw876 : Cond.methodLink RX9 169 yX6_toldAhead ∈ WS := ws_of 876 (by decide +kernel) (by decide +kernel)
theorem mw877 : Cond.instanceMethod yX6_toldAhead ∈ WS := ws_of 877 (by decide +kernel) (by decide +kernel)
theorem mw878 : Cond.selects RX6 yX6_toldAhead yX6_toldAhead ∈ WS := ws_of 878 (by decide +kernel) (by decide +kernel)
set_option maxRecDepth 100000 in
theorem mw879 : Cond.code yX6_toldAhead cX6_toldAhead 10 (some .int) ∈ WS := ws_of 879 rfl (by decide +kernel)
theorem mw880 : Cond.methodLink RX6 79 yX6_startOfRest ∈ WS := ws_of 880 (by decide +kernel) (by decide +kernel)
theorem mw882 : Cond.instanceMethod yX6_startOfRest ∈ WS := ws_of 882 (by decide +kernel) (by decide +kernel)
set_option maxRecDepth 100000 in
theorem mw883 : Cond.code yX6_startOfRest cX6_startOfRest 6 (some .int) ∈ WS := ws_of 883 rfl (by decide +kernel)
theorem mw884 : Cond.methodLink RL 62 yX9_comes ∈ WS := ws_of 884 (by decide +kernel) (by decide +kernel)
theorem mw885 : Cond.instanceMethod yX9_comes ∈ WS := ws_of 885 (by decide +kernel) (by decide +kernel)
theorem mw886 : Cond.selects RX9 yX9_comes yX9_comes ∈ WS := ws_of 886 (by decide +kernel) (by decide +kernel)
set_option maxRecDepth 100000 in
theorem mw887 : Cond.code yX9_comes cX9_comes 4 (some .int) ∈ WS := ws_of 887 rfl (by decide +kernel)
theorem mw888 : Cond.methodLink RX9 173 yX2_hasSecrets ∈ WS := ws_of 888 (by decide +kernel) (by decide +kernel)
theorem mw889 : Cond.instanceMethod yX2_hasSecrets ∈ WS := ws_of 889 (by decide +kernel) (by decide +kernel)
theorem mw890 : Cond.selects RX2 yX2_hasSecrets yX2_hasSecrets ∈ WS := ws_of 890 (by decide +kernel) (by decide +kernel)
set_option maxRecDepth 100000 in
theorem mw891 : Cond.code yX2_hasSecrets cX2_hasSecrets 2 (some .boolean) ∈ WS := ws_of 891 rfl (by decide +kernel)
theorem mw892 : Cond.methodLink RX9 176 yX2_closure ∈ WS := ws_of 892 (by decide +kernel) (by decide +kernel)
theorem mw893 : Cond.instanceMethod yX2_closure ∈ WS := ws_of 893 (by decide +kernel) (by decide +kernel)
theorem mw894 : Cond.selects RX2 yX2_closure yX2_closure ∈ WS := ws_of 894 (by decide +kernel) (by decide +kernel)
set_option maxRecDepth 100000 in
theorem mw895 : Cond.code yX2_closure cX2_closure 7 (some .int) ∈ WS := ws_of 895 rfl (by decide +kernel)
theorem mw896 : Cond.methodLink RX2 99 yX2_makes ∈ WS := ws_of 896 (by decide +kernel) (by decide +kernel)
theorem mw898 : Cond.instanceMethod yX2_makes ∈ WS := ws_of 898 (by decide +kernel) (by decide +kernel)
set_option maxRecDepth 100000 in
theorem mw899 : Cond.code yX2_makes cX2_makes 3 (some .boolean) ∈ WS := ws_of 899 rfl (by decide +kernel)
theorem mw900 : Cond.methodLink RL 66 yX9_keep ∈ WS := ws_of 900 (by decide +kernel) (by decide +kernel)
theorem mw901 : Cond.instanceMethod yX9_keep ∈ WS := ws_of 901 (by decide +kernel) (by decide +kernel)
theorem mw902 : Cond.selects RX9 yX9_keep yX9_keep ∈ WS := ws_of 902 (by decide +kernel) (by decide +kernel)
set_option maxRecDepth 100000 in
theorem mw903 : Cond.code yX9_keep cX9_keep 5 (some .int) ∈ WS := ws_of 903 rfl (by decide +kernel)
theorem mw904 : Cond.methodLink RX9 179 yX2_fewestGiving ∈ WS := ws_of 904 (by decide +kernel) (by decide +kernel)
theorem mw905 : Cond.instanceMethod yX2_fewestGiving ∈ WS := ws_of 905 (by decide +kernel) (by decide +kernel)
theorem mw906 : Cond.selects RX2 yX2_fewestGiving yX2_fewestGiving ∈ WS := ws_of 906 (by decide +kernel) (by decide +kernel)
set_option maxRecDepth 100000 in
theorem mw907 : Cond.code yX2_fewestGiving cX2_fewestGiving 6 (some .int) ∈ WS := ws_of 907 rfl (by decide +kernel)
theorem mw908 : Cond.methodLink RX2 105 yJ6_bitCount_0f7a4 ∈ WS := ws_of 908 (by decide +kernel) (by decide +kernel)
theorem mw909 : Cond.methodLink RX2 102 yX2_closure ∈ WS := ws_of 909 (by decide +kernel) (by decide +kernel)
theorem mw910 : Cond.methodLink RX9 182 yX2_fewestKept ∈ WS := ws_of 910 (by decide +kernel) (by decide +kernel)
theorem mw911 : Cond.instanceMethod yX2_fewestKept ∈ WS := ws_of 911 (by decide +kernel) (by decide +kernel)
theorem mw912 : Cond.selects RX2 yX2_fewestKept yX2_fewestKept ∈ WS := ws_of 912 (by decide +kernel) (by decide +kernel)
set_option maxRecDepth 100000 in
theorem mw913 : Cond.code yX2_fewestKept cX2_fewestKept 6 (some .int) ∈ WS := ws_of 913 rfl (by decide +kernel)
theorem mw914 : Cond.methodLink RX2 111 yX2_allSecrets ∈ WS := ws_of 914 (by decide +kernel) (by decide +kernel)
theorem mw915 : Cond.methodLink RL 71 yX9_theft ∈ WS := ws_of 915 (by decide +kernel) (by decide +kernel)
theorem mw916 : Cond.instanceMethod yX9_theft ∈ WS := ws_of 916 (by decide +kernel) (by decide +kernel)
theorem mw917 : Cond.selects RX9 yX9_theft yX9_theft ∈ WS := ws_of 917 (by decide +kernel) (by decide +kernel)
set_option maxRecDepth 100000 in
theorem mw918 : Cond.code yX9_theft cX9_theft 6 (some .int) ∈ WS := ws_of 918 rfl (by decide +kernel)
theorem mw919 : Cond.methodLink RX9 185 yX7_spoil ∈ WS := ws_of 919 (by decide +kernel) (by decide +kernel)
theorem mw920 : Cond.instanceMethod yX7_spoil ∈ WS := ws_of 920 (by decide +kernel) (by decide +kernel)
theorem mw921 : Cond.selects RX7 yX7_spoil yX7_spoil ∈ WS := ws_of 921 (by decide +kernel) (by decide +kernel)
set_option maxRecDepth 100000 in
theorem mw922 : Cond.code yX7_spoil cX7_spoil 5 none ∈ WS := ws_of 922 rfl (by decide +kernel)
theorem mw923 : Cond.methodLink RX7 15 yX2_allPieces ∈ WS := ws_of 923 (by decide +kernel) (by decide +kernel)
theorem mw924 : Cond.instanceMethod yX2_allPieces ∈ WS := ws_of 924 (by decide +kernel) (by decide +kernel)
theorem mw925 : Cond.selects RX2 yX2_allPieces yX2_allPieces ∈ WS := ws_of 925 (by decide +kernel) (by decide +kernel)
set_option maxRecDepth 100000 in
theorem mw926 : Cond.code yX2_allPieces cX2_allPieces 1 (some .int) ∈ WS := ws_of 926 rfl (by decide +kernel)
theorem mw928 : Cond.methodLink RX7 32 yX2_closure ∈ WS := ws_of 928 (by decide +kernel) (by decide +kernel)
theorem mw929 : Cond.methodLink RX7 36 yX2_weightOf ∈ WS := ws_of 929 (by decide +kernel) (by decide +kernel)
theorem mw930 : Cond.instanceMethod yX2_weightOf ∈ WS := ws_of 930 (by decide +kernel) (by decide +kernel)
theorem mw931 : Cond.selects RX2 yX2_weightOf yX2_weightOf ∈ WS := ws_of 931 (by decide +kernel) (by decide +kernel)
set_option maxRecDepth 100000 in
theorem mw932 : Cond.code yX2_weightOf cX2_weightOf 4 (some .int) ∈ WS := ws_of 932 rfl (by decide +kernel)
theorem mw933 : Cond.methodLink RX9 188 yX2_allPieces ∈ WS := ws_of 933 (by decide +kernel) (by decide +kernel)
theorem mw934 : Cond.methodLink RX9 192 yX7_bestPieces ∈ WS := ws_of 934 (by decide +kernel) (by decide +kernel)
theorem mw935 : Cond.instanceMethod yX7_bestPieces ∈ WS := ws_of 935 (by decide +kernel) (by decide +kernel)
theorem mw936 : Cond.selects RX7 yX7_bestPieces yX7_bestPieces ∈ WS := ws_of 936 (by decide +kernel) (by decide +kernel)
set_option maxRecDepth 100000 in
theorem mw937 : Cond.code yX7_bestPieces cX7_bestPieces 7 (some .int) ∈ WS := ws_of 937 rfl (by decide +kernel)
theorem mw938 : Cond.methodLink RX7 40 yJ6_bitCount_0f7a4 ∈ WS := ws_of 938 (by decide +kernel) (by decide +kernel)
theorem mw939 : Cond.methodLink RX7 45 yX7_got ∈ WS := ws_of 939 (by decide +kernel) (by decide +kernel)
theorem mw940 : Cond.instanceMethod yX7_got ∈ WS := ws_of 940 (by decide +kernel) (by decide +kernel)
theorem mw941 : Cond.selects RX7 yX7_got yX7_got ∈ WS := ws_of 941 (by decide +kernel) (by decide +kernel)
set_option maxRecDepth 100000 in
theorem mw942 : Cond.code yX7_got cX7_got 2 (some .int) ∈ WS := ws_of 942 rfl (by decide +kernel)
theorem mw943 : Cond.methodLink RX9 195 yX7_got ∈ WS := ws_of 943 (by decide +kernel) (by decide +kernel)
theorem mw944 : Cond.methodLink RL 75 yX9_evenings ∈ WS := ws_of 944 (by decide +kernel) (by decide +kernel)
theorem mw945 : Cond.instanceMethod yX9_evenings ∈ WS := ws_of 945 (by decide +kernel) (by decide +kernel)
theorem mw946 : Cond.selects RX9 yX9_evenings yX9_evenings ∈ WS := ws_of 946 (by decide +kernel) (by decide +kernel)
set_option maxRecDepth 100000 in
theorem mw947 : Cond.code yX9_evenings cX9_evenings 4 (some .int) ∈ WS := ws_of 947 rfl (by decide +kernel)
theorem mw948 : Cond.methodLink RX9 198 yX2_mayBeTold ∈ WS := ws_of 948 (by decide +kernel) (by decide +kernel)
theorem mw949 : Cond.instanceMethod yX2_mayBeTold ∈ WS := ws_of 949 (by decide +kernel) (by decide +kernel)
theorem mw950 : Cond.selects RX2 yX2_mayBeTold yX2_mayBeTold ∈ WS := ws_of 950 (by decide +kernel) (by decide +kernel)
set_option maxRecDepth 100000 in
theorem mw951 : Cond.code yX2_mayBeTold cX2_mayBeTold 3 (some .boolean) ∈ WS := ws_of 951 rfl (by decide +kernel)
theorem mw952 : Cond.methodLink RX9 201 yX3_fewest ∈ WS := ws_of 952 (by decide +kernel) (by decide +kernel)
theorem mw953 : Cond.instanceMethod yX3_fewest ∈ WS := ws_of 953 (by decide +kernel) (by decide +kernel)
theorem mw954 : Cond.selects RX3 yX3_fewest yX3_fewest ∈ WS := ws_of 954 (by decide +kernel) (by decide +kernel)
set_option maxRecDepth 100000 in
theorem mw955 : Cond.code yX3_fewest cX3_fewest 6 (some .int) ∈ WS := ws_of 955 rfl (by decide +kernel)
theorem mw956 : Cond.methodLink RX3 21 yX2_secretSets ∈ WS := ws_of 956 (by decide +kernel) (by decide +kernel)
theorem mw958 : Cond.methodLink RX3 38 yX3_addTo ∈ WS := ws_of 958 (by decide +kernel) (by decide +kernel)
theorem mw959 : Cond.static yX3_addTo ∈ WS := ws_of 959 (by decide +kernel) (by decide +kernel)
set_option maxRecDepth 100000 in
theorem mw960 : Cond.code yX3_addTo cX3_addTo 3 (some .int) ∈ WS := ws_of 960 rfl (by decide +kernel)
theorem mw961 : Cond.methodLink RX3 42 Lib.Math.min.name ∈ WS := ws_of 961 (by decide +kernel) (by decide +kernel)
theorem mw962 : Cond.methodLink RX3 48 yX2_allSecrets ∈ WS := ws_of 962 (by decide +kernel) (by decide +kernel)
theorem mw963 : Cond.methodLink RL 79 yX9_hidden ∈ WS := ws_of 963 (by decide +kernel) (by decide +kernel)
theorem mw964 : Cond.instanceMethod yX9_hidden ∈ WS := ws_of 964 (by decide +kernel) (by decide +kernel)
theorem mw965 : Cond.selects RX9 yX9_hidden yX9_hidden ∈ WS := ws_of 965 (by decide +kernel) (by decide +kernel)
set_option maxRecDepth 100000 in
theorem mw966 : Cond.code yX9_hidden cX9_hidden 6 (some .long) ∈ WS := ws_of 966 rfl (by decide +kernel)
theorem mw967 : Cond.constantLong RX9 205 (-1) ∈ WS := ws_of 967 (by decide +kernel) (by decide +kernel)
theorem mw968 : Cond.methodLink RX9 207 yX2_countHiding ∈ WS := ws_of 968 (by decide +kernel) (by decide +kernel)
theorem mw969 : Cond.instanceMethod yX2_countHiding ∈ WS := ws_of 969 (by decide +kernel) (by decide +kernel)
theorem mw970 : Cond.selects RX2 yX2_countHiding yX2_countHiding ∈ WS := ws_of 970 (by decide +kernel) (by decide +kernel)
set_option maxRecDepth 100000 in
theorem mw971 : Cond.code yX2_countHiding cX2_countHiding 5 (some .int) ∈ WS := ws_of 971 rfl (by decide +kernel)
theorem mw972 : Cond.methodLink RX9 210 yX2_countSets ∈ WS := ws_of 972 (by decide +kernel) (by decide +kernel)
theorem mw973 : Cond.instanceMethod yX2_countSets ∈ WS := ws_of 973 (by decide +kernel) (by decide +kernel)
theorem mw974 : Cond.selects RX2 yX2_countSets yX2_countSets ∈ WS := ws_of 974 (by decide +kernel) (by decide +kernel)
set_option maxRecDepth 100000 in
theorem mw975 : Cond.code yX2_countSets cX2_countSets 4 (some .int) ∈ WS := ws_of 975 rfl (by decide +kernel)
theorem mw976 : Cond.methodLink RX9 213 yX9_fractionPart ∈ WS := ws_of 976 (by decide +kernel) (by decide +kernel)
theorem mw977 : Cond.static yX9_fractionPart ∈ WS := ws_of 977 (by decide +kernel) (by decide +kernel)
set_option maxRecDepth 100000 in
theorem mw978 : Cond.code yX9_fractionPart cX9_fractionPart 12 (some .long) ∈ WS := ws_of 978 rfl (by decide +kernel)
theorem mw979 : Cond.methodLink RL 84 yX9_heirs ∈ WS := ws_of 979 (by decide +kernel) (by decide +kernel)
theorem mw980 : Cond.instanceMethod yX9_heirs ∈ WS := ws_of 980 (by decide +kernel) (by decide +kernel)
theorem mw981 : Cond.selects RX9 yX9_heirs yX9_heirs ∈ WS := ws_of 981 (by decide +kernel) (by decide +kernel)
set_option maxRecDepth 100000 in
theorem mw982 : Cond.code yX9_heirs cX9_heirs 5 (some .int) ∈ WS := ws_of 982 rfl (by decide +kernel)
theorem mw983 : Cond.methodLink RX9 217 yX2_evenestShare ∈ WS := ws_of 983 (by decide +kernel) (by decide +kernel)
theorem mw984 : Cond.instanceMethod yX2_evenestShare ∈ WS := ws_of 984 (by decide +kernel) (by decide +kernel)
theorem mw985 : Cond.selects RX2 yX2_evenestShare yX2_evenestShare ∈ WS := ws_of 985 (by decide +kernel) (by decide +kernel)
set_option maxRecDepth 100000 in
theorem mw986 : Cond.code yX2_evenestShare cX2_evenestShare 5 (some .int) ∈ WS := ws_of 986 rfl (by decide +kernel)
theorem mw987 : Cond.methodLink RX2 125 yX2_shareGap ∈ WS := ws_of 987 (by decide +kernel) (by decide +kernel)
theorem mw988 : Cond.instanceMethod yX2_shareGap ∈ WS := ws_of 988 (by decide +kernel) (by decide +kernel)
theorem mw989 : Cond.selects RX2 yX2_shareGap yX2_shareGap ∈ WS := ws_of 989 (by decide +kernel) (by decide +kernel)
set_option maxRecDepth 100000 in
theorem mw990 : Cond.code yX2_shareGap cX2_shareGap 5 (some .int) ∈ WS := ws_of 990 rfl (by decide +kernel)
theorem mw991 : Cond.methodLink RX2 114 yX2_weightOf ∈ WS := ws_of 991 (by decide +kernel) (by decide +kernel)
theorem mw992 : Cond.methodLink RX2 120 Lib.Math.abs.name ∈ WS := ws_of 992 (by decide +kernel) (by decide +kernel)
theorem mw993 : Cond.static Lib.Math.abs.name ∈ WS := ws_of 993 (by decide +kernel) (by decide +kernel)
set_option maxRecDepth 100000 in
theorem mw994 : Cond.code Lib.Math.abs.name Lib.Math.abs.code 1 (some .int) ∈ WS := ws_of 994 rfl (by decide +kernel)
theorem mw995 : Cond.methodLink RX2 128 yX2_allPieces ∈ WS := ws_of 995 (by decide +kernel) (by decide +kernel)
theorem mw996 : Cond.methodLink RX9 220 yX2_shareGap ∈ WS := ws_of 996 (by decide +kernel) (by decide +kernel)
theorem mw997 : Cond.methodLink RL 89 yX9_fact ∈ WS := ws_of 997 (by decide +kernel) (by decide +kernel)
theorem mw998 : Cond.instanceMethod yX9_fact ∈ WS := ws_of 998 (by decide +kernel) (by decide +kernel)
theorem mw999 : Cond.selects RX9 yX9_fact yX9_fact ∈ WS := ws_of 999 (by decide +kernel) (by decide +kernel)
set_option maxRecDepth 100000 in
theorem mw1000 : Cond.code yX9_fact cX9_fact 4 (some .int) ∈ WS := ws_of 1000 rfl (by decide +kernel)
theorem mw1001 : Cond.methodLink RL 93 yX9_fits ∈ WS := ws_of 1001 (by decide +kernel) (by decide +kernel)
theorem mw1002 : Cond.instanceMethod yX9_fits ∈ WS := ws_of 1002 (by decide +kernel) (by decide +kernel)
theorem mw1003 : Cond.selects RX9 yX9_fits yX9_fits ∈ WS := ws_of 1003 (by decide +kernel) (by decide +kernel)
set_option maxRecDepth 100000 in
theorem mw1004 : Cond.code yX9_fits cX9_fits 6 (some .int) ∈ WS := ws_of 1004 rfl (by decide +kernel)
theorem mw1005 : Cond.methodLink RX9 223 yX1_gather ∈ WS := ws_of 1005 (by decide +kernel) (by decide +kernel)
theorem mw1006 : Cond.instanceMethod yX1_gather ∈ WS := ws_of 1006 (by decide +kernel) (by decide +kernel)
theorem mw1007 : Cond.selects RX1 yX1_gather yX1_gather ∈ WS := ws_of 1007 (by decide +kernel) (by decide +kernel)
set_option maxRecDepth 100000 in
theorem mw1008 : Cond.code yX1_gather cX1_gather 4 none ∈ WS := ws_of 1008 rfl (by decide +kernel)
theorem mw1009 : Cond.methodLink RX1 22 yX1_isFit ∈ WS := ws_of 1009 (by decide +kernel) (by decide +kernel)
theorem mw1010 : Cond.static yX1_isFit ∈ WS := ws_of 1010 (by decide +kernel) (by decide +kernel)
set_option maxRecDepth 100000 in
theorem mw1011 : Cond.code yX1_isFit cX1_isFit 4 (some .boolean) ∈ WS := ws_of 1011 rfl (by decide +kernel)
theorem mw1012 : Cond.methodLink RX1 29 yX5_cell ∈ WS := ws_of 1012 (by decide +kernel) (by decide +kernel)
theorem mw1013 : Cond.methodLink RX1 33 yX2_hoursTold ∈ WS := ws_of 1013 (by decide +kernel) (by decide +kernel)
theorem mw1014 : Cond.instanceMethod yX2_hoursTold ∈ WS := ws_of 1014 (by decide +kernel) (by decide +kernel)
theorem mw1015 : Cond.selects RX2 yX2_hoursTold yX2_hoursTold ∈ WS := ws_of 1015 (by decide +kernel) (by decide +kernel)
set_option maxRecDepth 100000 in
theorem mw1016 : Cond.code yX2_hoursTold cX2_hoursTold 3 (some .int) ∈ WS := ws_of 1016 rfl (by decide +kernel)
theorem mw1018 : Cond.static yX9_weightOfCode ∈ WS := ws_of 1018 (by decide +kernel) (by decide +kernel)
set_option maxRecDepth 100000 in
theorem mw1019 : Cond.code yX9_weightOfCode cX9_weightOfCode 1 (some .int) ∈ WS := ws_of 1019 rfl (by decide +kernel)
theorem mw1021 : Cond.static yX9_kindOfCode ∈ WS := ws_of 1021 (by decide +kernel) (by decide +kernel)
set_option maxRecDepth 100000 in
theorem mw1022 : Cond.code yX9_kindOfCode cX9_kindOfCode 1 (some .int) ∈ WS := ws_of 1022 rfl (by decide +kernel)
theorem mw1024 : Cond.static yX9_hoursLeft ∈ WS := ws_of 1024 (by decide +kernel) (by decide +kernel)
set_option maxRecDepth 100000 in
theorem mw1025 : Cond.code yX9_hoursLeft cX9_hoursLeft 2 (some .int) ∈ WS := ws_of 1025 rfl (by decide +kernel)
theorem mw1026 : Cond.methodLink RX9 273 Lib.Math.min.name ∈ WS := ws_of 1026 (by decide +kernel) (by decide +kernel)
theorem mw1027 : Cond.methodLink RX9 228 yX1_sureKind ∈ WS := ws_of 1027 (by decide +kernel) (by decide +kernel)
theorem mw1028 : Cond.instanceMethod yX1_sureKind ∈ WS := ws_of 1028 (by decide +kernel) (by decide +kernel)
theorem mw1029 : Cond.selects RX1 yX1_sureKind yX1_sureKind ∈ WS := ws_of 1029 (by decide +kernel) (by decide +kernel)
set_option maxRecDepth 100000 in
theorem mw1030 : Cond.code yX1_sureKind cX1_sureKind 2 (some .int) ∈ WS := ws_of 1030 rfl (by decide +kernel)
theorem mw1032 : Cond.methodLink RX9 231 yX1_sureWeight ∈ WS := ws_of 1032 (by decide +kernel) (by decide +kernel)
theorem mw1033 : Cond.instanceMethod yX1_sureWeight ∈ WS := ws_of 1033 (by decide +kernel) (by decide +kernel)
theorem mw1034 : Cond.selects RX1 yX1_sureWeight yX1_sureWeight ∈ WS := ws_of 1034 (by decide +kernel) (by decide +kernel)
set_option maxRecDepth 100000 in
theorem mw1035 : Cond.code yX1_sureWeight cX1_sureWeight 2 (some .int) ∈ WS := ws_of 1035 rfl (by decide +kernel)
theorem mw1037 : Cond.methodLink RX9 234 yX1_fittingSecrets ∈ WS := ws_of 1037 (by decide +kernel) (by decide +kernel)
theorem mw1038 : Cond.instanceMethod yX1_fittingSecrets ∈ WS := ws_of 1038 (by decide +kernel) (by decide +kernel)
theorem mw1039 : Cond.selects RX1 yX1_fittingSecrets yX1_fittingSecrets ∈ WS := ws_of 1039 (by decide +kernel) (by decide +kernel)
set_option maxRecDepth 100000 in
theorem mw1040 : Cond.code yX1_fittingSecrets cX1_fittingSecrets 6 (some .int) ∈ WS := ws_of 1040 rfl (by decide +kernel)
theorem mw1041 : Cond.methodLink RX9 238 yX1_bestAsked ∈ WS := ws_of 1041 (by decide +kernel) (by decide +kernel)
theorem mw1042 : Cond.instanceMethod yX1_bestAsked ∈ WS := ws_of 1042 (by decide +kernel) (by decide +kernel)
theorem mw1043 : Cond.selects RX1 yX1_bestAsked yX1_bestAsked ∈ WS := ws_of 1043 (by decide +kernel) (by decide +kernel)
set_option maxRecDepth 100000 in
theorem mw1044 : Cond.code yX1_bestAsked cX1_bestAsked 6 (some .int) ∈ WS := ws_of 1044 rfl (by decide +kernel)
theorem mw1045 : Cond.methodLink RX1 57 yX1_mostAlike ∈ WS := ws_of 1045 (by decide +kernel) (by decide +kernel)
theorem mw1047 : Cond.instanceMethod yX1_mostAlike ∈ WS := ws_of 1047 (by decide +kernel) (by decide +kernel)
set_option maxRecDepth 100000 in
theorem mw1048 : Cond.code yX1_mostAlike cX1_mostAlike 6 (some .int) ∈ WS := ws_of 1048 rfl (by decide +kernel)
theorem mw1049 : Cond.methodLink RX1 61 yJ7_fill_53178 ∈ WS := ws_of 1049 (by decide +kernel) (by decide +kernel)
theorem mw1050 : Cond.methodLink RX1 67 Lib.Math.max.name ∈ WS := ws_of 1050 (by decide +kernel) (by decide +kernel)
theorem mw1051 : Cond.methodLink RX9 241 yX1_hasFit ∈ WS := ws_of 1051 (by decide +kernel) (by decide +kernel)
theorem mw1052 : Cond.instanceMethod yX1_hasFit ∈ WS := ws_of 1052 (by decide +kernel) (by decide +kernel)
theorem mw1053 : Cond.selects RX1 yX1_hasFit yX1_hasFit ∈ WS := ws_of 1053 (by decide +kernel) (by decide +kernel)
set_option maxRecDepth 100000 in
theorem mw1054 : Cond.code yX1_hasFit cX1_hasFit 2 (some .boolean) ∈ WS := ws_of 1054 rfl (by decide +kernel)
theorem mw1055 : Cond.methodLink RL 97 yX9_drawn ∈ WS := ws_of 1055 (by decide +kernel) (by decide +kernel)
theorem mw1056 : Cond.instanceMethod yX9_drawn ∈ WS := ws_of 1056 (by decide +kernel) (by decide +kernel)
theorem mw1057 : Cond.selects RX9 yX9_drawn yX9_drawn ∈ WS := ws_of 1057 (by decide +kernel) (by decide +kernel)
set_option maxRecDepth 100000 in
theorem mw1058 : Cond.code yX9_drawn cX9_drawn 6 (some .int) ∈ WS := ws_of 1058 rfl (by decide +kernel)
theorem mw1059 : Cond.methodLink RX9 247 yX0_draw ∈ WS := ws_of 1059 (by decide +kernel) (by decide +kernel)
theorem mw1060 : Cond.instanceMethod yX0_draw ∈ WS := ws_of 1060 (by decide +kernel) (by decide +kernel)
theorem mw1061 : Cond.selects RX0 yX0_draw yX0_draw ∈ WS := ws_of 1061 (by decide +kernel) (by decide +kernel)
set_option maxRecDepth 100000 in
theorem mw1062 : Cond.code yX0_draw cX0_draw 5 none ∈ WS := ws_of 1062 rfl (by decide +kernel)
theorem mw1063 : Cond.methodLink RX0 165 yX0_drawDeed ∈ WS := ws_of 1063 (by decide +kernel) (by decide +kernel)
theorem mw1065 : Cond.instanceMethod yX0_drawDeed ∈ WS := ws_of 1065 (by decide +kernel) (by decide +kernel)
set_option maxRecDepth 100000 in
theorem mw1066 : Cond.code yX0_drawDeed cX0_drawDeed 2 none ∈ WS := ws_of 1066 rfl (by decide +kernel)
theorem mw1067 : Cond.methodLink RX0 169 yX0_drawBelow ∈ WS := ws_of 1067 (by decide +kernel) (by decide +kernel)
theorem mw1069 : Cond.instanceMethod yX0_drawBelow ∈ WS := ws_of 1069 (by decide +kernel) (by decide +kernel)
set_option maxRecDepth 100000 in
theorem mw1070 : Cond.code yX0_drawBelow cX0_drawBelow 2 (some .int) ∈ WS := ws_of 1070 rfl (by decide +kernel)
theorem mw1071 : Cond.constant RX0 168 (1103515245) ∈ WS := ws_of 1071 (by decide +kernel) (by decide +kernel)
theorem mw1072 : Cond.methodLink RX0 176 yX0_drawTelling ∈ WS := ws_of 1072 (by decide +kernel) (by decide +kernel)
theorem mw1074 : Cond.instanceMethod yX0_drawTelling ∈ WS := ws_of 1074 (by decide +kernel) (by decide +kernel)
set_option maxRecDepth 100000 in
theorem mw1075 : Cond.code yX0_drawTelling cX0_drawTelling 4 none ∈ WS := ws_of 1075 rfl (by decide +kernel)
theorem mw1076 : Cond.methodLink RL 101 yX9_lasting ∈ WS := ws_of 1076 (by decide +kernel) (by decide +kernel)
theorem mw1077 : Cond.instanceMethod yX9_lasting ∈ WS := ws_of 1077 (by decide +kernel) (by decide +kernel)
theorem mw1078 : Cond.selects RX9 yX9_lasting yX9_lasting ∈ WS := ws_of 1078 (by decide +kernel) (by decide +kernel)
set_option maxRecDepth 100000 in
theorem mw1079 : Cond.code yX9_lasting cX9_lasting 7 (some .int) ∈ WS := ws_of 1079 rfl (by decide +kernel)
theorem mw1080 : Cond.methodLink RX9 251 yX2_longestShining ∈ WS := ws_of 1080 (by decide +kernel) (by decide +kernel)
theorem mw1081 : Cond.instanceMethod yX2_longestShining ∈ WS := ws_of 1081 (by decide +kernel) (by decide +kernel)
theorem mw1082 : Cond.selects RX2 yX2_longestShining yX2_longestShining ∈ WS := ws_of 1082 (by decide +kernel) (by decide +kernel)
set_option maxRecDepth 100000 in
theorem mw1083 : Cond.code yX2_longestShining cX2_longestShining 5 (some .int) ∈ WS := ws_of 1083 rfl (by decide +kernel)
theorem mw1084 : Cond.methodLink RX2 137 yX2_shineBehind ∈ WS := ws_of 1084 (by decide +kernel) (by decide +kernel)
theorem mw1085 : Cond.instanceMethod yX2_shineBehind ∈ WS := ws_of 1085 (by decide +kernel) (by decide +kernel)
theorem mw1086 : Cond.selects RX2 yX2_shineBehind yX2_shineBehind ∈ WS := ws_of 1086 (by decide +kernel) (by decide +kernel)
set_option maxRecDepth 100000 in
theorem mw1087 : Cond.code yX2_shineBehind cX2_shineBehind 4 (some .int) ∈ WS := ws_of 1087 rfl (by decide +kernel)
theorem mw1088 : Cond.methodLink RX2 131 yX2_worthTo ∈ WS := ws_of 1088 (by decide +kernel) (by decide +kernel)
theorem mw1089 : Cond.methodLink RX2 134 Lib.Math.max.name ∈ WS := ws_of 1089 (by decide +kernel) (by decide +kernel)
theorem mw1090 : Cond.methodLink RX9 254 yX2_shineBehind ∈ WS := ws_of 1090 (by decide +kernel) (by decide +kernel)
theorem mw1091 : Cond.methodLink RL 106 yX9_lit ∈ WS := ws_of 1091 (by decide +kernel) (by decide +kernel)
theorem mw1092 : Cond.instanceMethod yX9_lit ∈ WS := ws_of 1092 (by decide +kernel) (by decide +kernel)
theorem mw1093 : Cond.selects RX9 yX9_lit yX9_lit ∈ WS := ws_of 1093 (by decide +kernel) (by decide +kernel)
set_option maxRecDepth 100000 in
theorem mw1094 : Cond.code yX9_lit cX9_lit 6 (some .int) ∈ WS := ws_of 1094 rfl (by decide +kernel)
theorem mw1095 : Cond.methodLink RX9 258 yX2_longestLit ∈ WS := ws_of 1095 (by decide +kernel) (by decide +kernel)
theorem mw1096 : Cond.instanceMethod yX2_longestLit ∈ WS := ws_of 1096 (by decide +kernel) (by decide +kernel)
theorem mw1097 : Cond.selects RX2 yX2_longestLit yX2_longestLit ∈ WS := ws_of 1097 (by decide +kernel) (by decide +kernel)
set_option maxRecDepth 100000 in
theorem mw1098 : Cond.code yX2_longestLit cX2_longestLit 5 (some .int) ∈ WS := ws_of 1098 rfl (by decide +kernel)
theorem mw1099 : Cond.methodLink RL 110 yX9_dusky ∈ WS := ws_of 1099 (by decide +kernel) (by decide +kernel)
theorem mw1100 : Cond.instanceMethod yX9_dusky ∈ WS := ws_of 1100 (by decide +kernel) (by decide +kernel)
theorem mw1101 : Cond.selects RX9 yX9_dusky yX9_dusky ∈ WS := ws_of 1101 (by decide +kernel) (by decide +kernel)
set_option maxRecDepth 100000 in
theorem mw1102 : Cond.code yX9_dusky cX9_dusky 6 (some .int) ∈ WS := ws_of 1102 rfl (by decide +kernel)
theorem mw1103 : Cond.methodLink RX9 261 yX2_duskiestCouple ∈ WS := ws_of 1103 (by decide +kernel) (by decide +kernel)
theorem mw1104 : Cond.instanceMethod yX2_duskiestCouple ∈ WS := ws_of 1104 (by decide +kernel) (by decide +kernel)
theorem mw1105 : Cond.selects RX2 yX2_duskiestCouple yX2_duskiestCouple ∈ WS := ws_of 1105 (by decide +kernel) (by decide +kernel)
set_option maxRecDepth 100000 in
theorem mw1106 : Cond.code yX2_duskiestCouple cX2_duskiestCouple 7 (some .int) ∈ WS := ws_of 1106 rfl (by decide +kernel)
theorem mw1107 : Cond.methodLink RX2 146 yX2_duskHours ∈ WS := ws_of 1107 (by decide +kernel) (by decide +kernel)
theorem mw1108 : Cond.instanceMethod yX2_duskHours ∈ WS := ws_of 1108 (by decide +kernel) (by decide +kernel)
theorem mw1109 : Cond.selects RX2 yX2_duskHours yX2_duskHours ∈ WS := ws_of 1109 (by decide +kernel) (by decide +kernel)
set_option maxRecDepth 100000 in
theorem mw1110 : Cond.code yX2_duskHours cX2_duskHours 4 (some .int) ∈ WS := ws_of 1110 rfl (by decide +kernel)
theorem mw1111 : Cond.methodLink RX2 143 Lib.Math.min.name ∈ WS := ws_of 1111 (by decide +kernel) (by decide +kernel)
theorem mw1112 : Cond.methodLink RX9 264 yX2_duskHours ∈ WS := ws_of 1112 (by decide +kernel) (by decide +kernel)
theorem mw1113 : Cond.methodLink RL 114 yX9_fitter ∈ WS := ws_of 1113 (by decide +kernel) (by decide +kernel)
theorem mw1114 : Cond.instanceMethod yX9_fitter ∈ WS := ws_of 1114 (by decide +kernel) (by decide +kernel)
theorem mw1115 : Cond.selects RX9 yX9_fitter yX9_fitter ∈ WS := ws_of 1115 (by decide +kernel) (by decide +kernel)
set_option maxRecDepth 100000 in
theorem mw1116 : Cond.code yX9_fitter cX9_fitter 5 (some .int) ∈ WS := ws_of 1116 rfl (by decide +kernel)
theorem mw1117 : Cond.methodLink RX9 267 yX2_fittestTaste ∈ WS := ws_of 1117 (by decide +kernel) (by decide +kernel)
theorem mw1118 : Cond.instanceMethod yX2_fittestTaste ∈ WS := ws_of 1118 (by decide +kernel) (by decide +kernel)
theorem mw1119 : Cond.selects RX2 yX2_fittestTaste yX2_fittestTaste ∈ WS := ws_of 1119 (by decide +kernel) (by decide +kernel)
set_option maxRecDepth 100000 in
theorem mw1120 : Cond.code yX2_fittestTaste cX2_fittestTaste 6 (some .int) ∈ WS := ws_of 1120 rfl (by decide +kernel)
theorem mw1121 : Cond.methodLink RX2 149 yX2_worthOfAll ∈ WS := ws_of 1121 (by decide +kernel) (by decide +kernel)
theorem mw1122 : Cond.instanceMethod yX2_worthOfAll ∈ WS := ws_of 1122 (by decide +kernel) (by decide +kernel)
theorem mw1123 : Cond.selects RX2 yX2_worthOfAll yX2_worthOfAll ∈ WS := ws_of 1123 (by decide +kernel) (by decide +kernel)
set_option maxRecDepth 100000 in
theorem mw1124 : Cond.code yX2_worthOfAll cX2_worthOfAll 6 (some .int) ∈ WS := ws_of 1124 rfl (by decide +kernel)
theorem mw1125 : Cond.methodLink RX9 270 yX2_worthOfAll ∈ WS := ws_of 1125 (by decide +kernel) (by decide +kernel)
theorem mw1126 : Cond.methodLink RL 118 yX9_unlike ∈ WS := ws_of 1126 (by decide +kernel) (by decide +kernel)
theorem mw1127 : Cond.instanceMethod yX9_unlike ∈ WS := ws_of 1127 (by decide +kernel) (by decide +kernel)
theorem mw1128 : Cond.selects RX9 yX9_unlike yX9_unlike ∈ WS := ws_of 1128 (by decide +kernel) (by decide +kernel)
set_option maxRecDepth 100000 in
theorem mw1129 : Cond.code yX9_unlike cX9_unlike 10 (some .int) ∈ WS := ws_of 1129 rfl (by decide +kernel)
theorem mw1130 : Cond.methodLink RL 122 yX9_spread ∈ WS := ws_of 1130 (by decide +kernel) (by decide +kernel)
theorem mw1131 : Cond.instanceMethod yX9_spread ∈ WS := ws_of 1131 (by decide +kernel) (by decide +kernel)
theorem mw1132 : Cond.selects RX9 yX9_spread yX9_spread ∈ WS := ws_of 1132 (by decide +kernel) (by decide +kernel)
set_option maxRecDepth 100000 in
theorem mw1133 : Cond.code yX9_spread cX9_spread 4 (some .int) ∈ WS := ws_of 1133 rfl (by decide +kernel)
theorem mw1134 : Cond.methodLink RX9 278 yX2_knownBy ∈ WS := ws_of 1134 (by decide +kernel) (by decide +kernel)
theorem mw1135 : Cond.instanceMethod yX2_knownBy ∈ WS := ws_of 1135 (by decide +kernel) (by decide +kernel)
theorem mw1136 : Cond.selects RX2 yX2_knownBy yX2_knownBy ∈ WS := ws_of 1136 (by decide +kernel) (by decide +kernel)
set_option maxRecDepth 100000 in
theorem mw1137 : Cond.code yX2_knownBy cX2_knownBy 6 (some .int) ∈ WS := ws_of 1137 rfl (by decide +kernel)
theorem mw1138 : Cond.methodLink RL 126 yX9_depth ∈ WS := ws_of 1138 (by decide +kernel) (by decide +kernel)
theorem mw1139 : Cond.instanceMethod yX9_depth ∈ WS := ws_of 1139 (by decide +kernel) (by decide +kernel)
theorem mw1140 : Cond.selects RX9 yX9_depth yX9_depth ∈ WS := ws_of 1140 (by decide +kernel) (by decide +kernel)
set_option maxRecDepth 100000 in
theorem mw1141 : Cond.code yX9_depth cX9_depth 5 (some .int) ∈ WS := ws_of 1141 rfl (by decide +kernel)
theorem mw1142 : Cond.methodLink RX9 281 yX2_roundsTo ∈ WS := ws_of 1142 (by decide +kernel) (by decide +kernel)
theorem mw1143 : Cond.instanceMethod yX2_roundsTo ∈ WS := ws_of 1143 (by decide +kernel) (by decide +kernel)
theorem mw1144 : Cond.selects RX2 yX2_roundsTo yX2_roundsTo ∈ WS := ws_of 1144 (by decide +kernel) (by decide +kernel)
set_option maxRecDepth 100000 in
theorem mw1145 : Cond.code yX2_roundsTo cX2_roundsTo 7 (some .int) ∈ WS := ws_of 1145 rfl (by decide +kernel)
theorem mw1146 : Cond.methodLink RL 130 yX9_spare ∈ WS := ws_of 1146 (by decide +kernel) (by decide +kernel)
theorem mw1147 : Cond.instanceMethod yX9_spare ∈ WS := ws_of 1147 (by decide +kernel) (by decide +kernel)
theorem mw1148 : Cond.selects RX9 yX9_spare yX9_spare ∈ WS := ws_of 1148 (by decide +kernel) (by decide +kernel)
set_option maxRecDepth 100000 in
theorem mw1149 : Cond.code yX9_spare cX9_spare 3 (some .int) ∈ WS := ws_of 1149 rfl (by decide +kernel)
theorem mw1150 : Cond.methodLink RX9 284 yX2_spareLinks ∈ WS := ws_of 1150 (by decide +kernel) (by decide +kernel)
theorem mw1151 : Cond.instanceMethod yX2_spareLinks ∈ WS := ws_of 1151 (by decide +kernel) (by decide +kernel)
theorem mw1152 : Cond.selects RX2 yX2_spareLinks yX2_spareLinks ∈ WS := ws_of 1152 (by decide +kernel) (by decide +kernel)
set_option maxRecDepth 100000 in
theorem mw1153 : Cond.code yX2_spareLinks cX2_spareLinks 4 (some .int) ∈ WS := ws_of 1153 rfl (by decide +kernel)
theorem mw1154 : Cond.methodLink RL 134 yX9_guarded ∈ WS := ws_of 1154 (by decide +kernel) (by decide +kernel)
theorem mw1155 : Cond.instanceMethod yX9_guarded ∈ WS := ws_of 1155 (by decide +kernel) (by decide +kernel)
theorem mw1156 : Cond.selects RX9 yX9_guarded yX9_guarded ∈ WS := ws_of 1156 (by decide +kernel) (by decide +kernel)
set_option maxRecDepth 100000 in
theorem mw1157 : Cond.code yX9_guarded cX9_guarded 7 (some .int) ∈ WS := ws_of 1157 rfl (by decide +kernel)
theorem mw1158 : Cond.methodLink RX9 287 yX7_bestGuards ∈ WS := ws_of 1158 (by decide +kernel) (by decide +kernel)
theorem mw1159 : Cond.instanceMethod yX7_bestGuards ∈ WS := ws_of 1159 (by decide +kernel) (by decide +kernel)
theorem mw1160 : Cond.selects RX7 yX7_bestGuards yX7_bestGuards ∈ WS := ws_of 1160 (by decide +kernel) (by decide +kernel)
set_option maxRecDepth 100000 in
theorem mw1161 : Cond.code yX7_bestGuards cX7_bestGuards 9 (some .int) ∈ WS := ws_of 1161 rfl (by decide +kernel)
theorem mw1162 : Cond.methodLink RX7 48 yX7_bestPieces ∈ WS := ws_of 1162 (by decide +kernel) (by decide +kernel)
theorem mw1163 : Cond.methodLink RL 138 yX9_evening ∈ WS := ws_of 1163 (by decide +kernel) (by decide +kernel)
theorem mw1164 : Cond.instanceMethod yX9_evening ∈ WS := ws_of 1164 (by decide +kernel) (by decide +kernel)
theorem mw1165 : Cond.selects RX9 yX9_evening yX9_evening ∈ WS := ws_of 1165 (by decide +kernel) (by decide +kernel)
set_option maxRecDepth 100000 in
theorem mw1166 : Cond.code yX9_evening cX9_evening 5 (some .int) ∈ WS := ws_of 1166 rfl (by decide +kernel)
theorem mw1167 : Cond.methodLink RX9 290 yX3_whenTold ∈ WS := ws_of 1167 (by decide +kernel) (by decide +kernel)
theorem mw1168 : Cond.instanceMethod yX3_whenTold ∈ WS := ws_of 1168 (by decide +kernel) (by decide +kernel)
theorem mw1169 : Cond.selects RX3 yX3_whenTold yX3_whenTold ∈ WS := ws_of 1169 (by decide +kernel) (by decide +kernel)
set_option maxRecDepth 100000 in
theorem mw1170 : Cond.code yX3_whenTold cX3_whenTold 5 (some .int) ∈ WS := ws_of 1170 rfl (by decide +kernel)
theorem mw1171 : Cond.methodLink RX3 51 yX3_fewest ∈ WS := ws_of 1171 (by decide +kernel) (by decide +kernel)
theorem mw1172 : Cond.methodLink RX3 55 yJ7_fill_53178 ∈ WS := ws_of 1172 (by decide +kernel) (by decide +kernel)
theorem mw1173 : Cond.methodLink RX3 61 yX3_place ∈ WS := ws_of 1173 (by decide +kernel) (by decide +kernel)
theorem mw1174 : Cond.static yX3_place ∈ WS := ws_of 1174 (by decide +kernel) (by decide +kernel)
set_option maxRecDepth 100000 in
theorem mw1175 : Cond.code yX3_place cX3_place 8 (some .boolean) ∈ WS := ws_of 1175 rfl (by decide +kernel)
theorem mw1176 : Cond.methodLink RL 142 yX9_leaks ∈ WS := ws_of 1176 (by decide +kernel) (by decide +kernel)
theorem mw1177 : Cond.instanceMethod yX9_leaks ∈ WS := ws_of 1177 (by decide +kernel) (by decide +kernel)
theorem mw1178 : Cond.selects RX9 yX9_leaks yX9_leaks ∈ WS := ws_of 1178 (by decide +kernel) (by decide +kernel)
set_option maxRecDepth 100000 in
theorem mw1179 : Cond.code yX9_leaks cX9_leaks 5 (some .long) ∈ WS := ws_of 1179 rfl (by decide +kernel)
theorem mw1180 : Cond.methodLink RX9 294 yX2_weightLeaking ∈ WS := ws_of 1180 (by decide +kernel) (by decide +kernel)
theorem mw1181 : Cond.instanceMethod yX2_weightLeaking ∈ WS := ws_of 1181 (by decide +kernel) (by decide +kernel)
theorem mw1182 : Cond.selects RX2 yX2_weightLeaking yX2_weightLeaking ∈ WS := ws_of 1182 (by decide +kernel) (by decide +kernel)
set_option maxRecDepth 100000 in
theorem mw1183 : Cond.code yX2_weightLeaking cX2_weightLeaking 4 (some .int) ∈ WS := ws_of 1183 rfl (by decide +kernel)
theorem mw1184 : Cond.methodLink RL 147 yX9_cut ∈ WS := ws_of 1184 (by decide +kernel) (by decide +kernel)
theorem mw1185 : Cond.instanceMethod yX9_cut ∈ WS := ws_of 1185 (by decide +kernel) (by decide +kernel)
theorem mw1186 : Cond.selects RX9 yX9_cut yX9_cut ∈ WS := ws_of 1186 (by decide +kernel) (by decide +kernel)
set_option maxRecDepth 100000 in
theorem mw1187 : Cond.code yX9_cut cX9_cut 6 (some .int) ∈ WS := ws_of 1187 rfl (by decide +kernel)
theorem mw1188 : Cond.methodLink RX9 297 yX2_bestTakenAway ∈ WS := ws_of 1188 (by decide +kernel) (by decide +kernel)
theorem mw1189 : Cond.instanceMethod yX2_bestTakenAway ∈ WS := ws_of 1189 (by decide +kernel) (by decide +kernel)
theorem mw1190 : Cond.selects RX2 yX2_bestTakenAway yX2_bestTakenAway ∈ WS := ws_of 1190 (by decide +kernel) (by decide +kernel)
set_option maxRecDepth 100000 in
theorem mw1191 : Cond.code yX2_bestTakenAway cX2_bestTakenAway 7 (some .int) ∈ WS := ws_of 1191 rfl (by decide +kernel)
theorem mw1192 : Cond.methodLink RX2 117 yX2_weightKeptOut ∈ WS := ws_of 1192 (by decide +kernel) (by decide +kernel)
theorem mw1193 : Cond.instanceMethod yX2_weightKeptOut ∈ WS := ws_of 1193 (by decide +kernel) (by decide +kernel)
theorem mw1194 : Cond.selects RX2 yX2_weightKeptOut yX2_weightKeptOut ∈ WS := ws_of 1194 (by decide +kernel) (by decide +kernel)
set_option maxRecDepth 100000 in
theorem mw1195 : Cond.code yX2_weightKeptOut cX2_weightKeptOut 2 (some .int) ∈ WS := ws_of 1195 rfl (by decide +kernel)
theorem mw1196 : Cond.methodLink RX9 300 yX2_weightKeptOut ∈ WS := ws_of 1196 (by decide +kernel) (by decide +kernel)
theorem mw1197 : Cond.methodLink RL 151 yX9_after ∈ WS := ws_of 1197 (by decide +kernel) (by decide +kernel)
theorem mw1198 : Cond.instanceMethod yX9_after ∈ WS := ws_of 1198 (by decide +kernel) (by decide +kernel)
theorem mw1199 : Cond.selects RX9 yX9_after yX9_after ∈ WS := ws_of 1199 (by decide +kernel) (by decide +kernel)
set_option maxRecDepth 100000 in
theorem mw1200 : Cond.code yX9_after cX9_after 6 (some .int) ∈ WS := ws_of 1200 rfl (by decide +kernel)
theorem mw1201 : Cond.methodLink RX9 303 yX0_star ∈ WS := ws_of 1201 (by decide +kernel) (by decide +kernel)
theorem mw1202 : Cond.instanceMethod yX0_star ∈ WS := ws_of 1202 (by decide +kernel) (by decide +kernel)
theorem mw1203 : Cond.selects RX0 yX0_star yX0_star ∈ WS := ws_of 1203 (by decide +kernel) (by decide +kernel)
set_option maxRecDepth 100000 in
theorem mw1204 : Cond.code yX0_star cX0_star 4 (some .int) ∈ WS := ws_of 1204 rfl (by decide +kernel)
theorem mw1205 : Cond.methodLink RL 155 yX9_would ∈ WS := ws_of 1205 (by decide +kernel) (by decide +kernel)
theorem mw1206 : Cond.instanceMethod yX9_would ∈ WS := ws_of 1206 (by decide +kernel) (by decide +kernel)
theorem mw1207 : Cond.selects RX9 yX9_would yX9_would ∈ WS := ws_of 1207 (by decide +kernel) (by decide +kernel)
set_option maxRecDepth 100000 in
theorem mw1208 : Cond.code yX9_would cX9_would 7 (some .int) ∈ WS := ws_of 1208 rfl (by decide +kernel)
theorem mw1209 : Cond.methodLink RX9 315 yX2_hoursTold ∈ WS := ws_of 1209 (by decide +kernel) (by decide +kernel)
theorem mw1210 : Cond.methodLink RL 159 yX9_count ∈ WS := ws_of 1210 (by decide +kernel) (by decide +kernel)
theorem mw1211 : Cond.instanceMethod yX9_count ∈ WS := ws_of 1211 (by decide +kernel) (by decide +kernel)
theorem mw1212 : Cond.selects RX9 yX9_count yX9_count ∈ WS := ws_of 1212 (by decide +kernel) (by decide +kernel)
set_option maxRecDepth 100000 in
theorem mw1213 : Cond.code yX9_count cX9_count 2 (some .int) ∈ WS := ws_of 1213 rfl (by decide +kernel)
theorem mw1214 : Cond.methodLink RL 163 yX9_image ∈ WS := ws_of 1214 (by decide +kernel) (by decide +kernel)
theorem mw1215 : Cond.instanceMethod yX9_image ∈ WS := ws_of 1215 (by decide +kernel) (by decide +kernel)
theorem mw1216 : Cond.selects RX9 yX9_image yX9_image ∈ WS := ws_of 1216 (by decide +kernel) (by decide +kernel)
set_option maxRecDepth 100000 in
theorem mw1217 : Cond.code yX9_image cX9_image 2 (some .boolean) ∈ WS := ws_of 1217 rfl (by decide +kernel)
theorem mw1218 : Cond.methodLink RX9 318 yX8_copyFrom ∈ WS := ws_of 1218 (by decide +kernel) (by decide +kernel)
theorem mw1219 : Cond.instanceMethod yX8_copyFrom ∈ WS := ws_of 1219 (by decide +kernel) (by decide +kernel)
theorem mw1220 : Cond.selects RX8 yX8_copyFrom yX8_copyFrom ∈ WS := ws_of 1220 (by decide +kernel) (by decide +kernel)
set_option maxRecDepth 100000 in
theorem mw1221 : Cond.code yX8_copyFrom cX8_copyFrom 3 none ∈ WS := ws_of 1221 rfl (by decide +kernel)
theorem mw1222 : Cond.methodLink RX8 51 arraycopyName ∈ WS := ws_of 1222 (by decide +kernel) (by decide +kernel)
theorem mw1223 : Cond.methodLink RX8 57 yX2_copyFrom ∈ WS := ws_of 1223 (by decide +kernel) (by decide +kernel)
theorem mw1224 : Cond.instanceMethod yX2_copyFrom ∈ WS := ws_of 1224 (by decide +kernel) (by decide +kernel)
theorem mw1225 : Cond.selects RX2 yX2_copyFrom yX2_copyFrom ∈ WS := ws_of 1225 (by decide +kernel) (by decide +kernel)
set_option maxRecDepth 100000 in
theorem mw1226 : Cond.code yX2_copyFrom cX2_copyFrom 2 none ∈ WS := ws_of 1226 rfl (by decide +kernel)
theorem mw1227 : Cond.methodLink RX2 52 arraycopyName ∈ WS := ws_of 1227 (by decide +kernel) (by decide +kernel)
theorem mw1228 : Cond.methodLink RX8 61 yX5_copyFrom ∈ WS := ws_of 1228 (by decide +kernel) (by decide +kernel)
theorem mw1229 : Cond.instanceMethod yX5_copyFrom ∈ WS := ws_of 1229 (by decide +kernel) (by decide +kernel)
theorem mw1230 : Cond.selects RX5 yX5_copyFrom yX5_copyFrom ∈ WS := ws_of 1230 (by decide +kernel) (by decide +kernel)
set_option maxRecDepth 100000 in
theorem mw1231 : Cond.code yX5_copyFrom cX5_copyFrom 2 none ∈ WS := ws_of 1231 rfl (by decide +kernel)
theorem mw1232 : Cond.methodLink RX5 35 arraycopyName ∈ WS := ws_of 1232 (by decide +kernel) (by decide +kernel)
theorem mw1233 : Cond.methodLink RL 168 yX9_again ∈ WS := ws_of 1233 (by decide +kernel) (by decide +kernel)
theorem mw1234 : Cond.instanceMethod yX9_again ∈ WS := ws_of 1234 (by decide +kernel) (by decide +kernel)
theorem mw1235 : Cond.selects RX9 yX9_again yX9_again ∈ WS := ws_of 1235 (by decide +kernel) (by decide +kernel)
set_option maxRecDepth 100000 in
theorem mw1236 : Cond.code yX9_again cX9_again 2 (some .boolean) ∈ WS := ws_of 1236 rfl (by decide +kernel)
theorem mw1239 : Cond.methodLink RL 12 yX10_init ∈ WS := ws_of 1239 (by decide +kernel) (by decide +kernel)
theorem mw1240 : Cond.instanceMethod yX10_init ∈ WS := ws_of 1240 (by decide +kernel) (by decide +kernel)
set_option maxRecDepth 100000 in
theorem mw1241 : Cond.code yX10_init cX10_init 1 none ∈ WS := ws_of 1241 rfl (by decide +kernel)
theorem mw1243 : Cond.fieldLink RX10 84 "TarnishTurnsModel" "code" "I" ∈ WS := ws_of 1243 (by decide +kernel) (by decide +kernel)
theorem mw1244 : Cond.fieldLink RX10 7 "TarnishTurnsModel" "tape" "[B" ∈ WS := ws_of 1244 (by decide +kernel) (by decide +kernel)
theorem mw1245 : Cond.fieldLink RX10 13 "TarnishTurnsModel" "size" "[I" ∈ WS := ws_of 1245 (by decide +kernel) (by decide +kernel)
theorem mw1246 : Cond.fieldLink RX10 17 "TarnishTurnsModel" "fault" "[I" ∈ WS := ws_of 1246 (by decide +kernel) (by decide +kernel)
theorem mw1247 : Cond.fieldLink RX10 20 "TarnishTurnsModel" "faultPlace" "[I" ∈ WS := ws_of 1247 (by decide +kernel) (by decide +kernel)
theorem mw1248 : Cond.fieldLink RX10 23 "TarnishTurnsModel" "many" "[I" ∈ WS := ws_of 1248 (by decide +kernel) (by decide +kernel)
theorem mw1249 : Cond.fieldLink RX10 26 "TarnishTurnsModel" "houses" "[I" ∈ WS := ws_of 1249 (by decide +kernel) (by decide +kernel)
theorem mw1250 : Cond.fieldLink RX10 29 "TarnishTurnsModel" "months" "[I" ∈ WS := ws_of 1250 (by decide +kernel) (by decide +kernel)
theorem mw1251 : Cond.fieldLink RX10 32 "TarnishTurnsModel" "tables" "[I" ∈ WS := ws_of 1251 (by decide +kernel) (by decide +kernel)
theorem mw1252 : Cond.fieldLink RX10 35 "TarnishTurnsModel" "logs" "[I" ∈ WS := ws_of 1252 (by decide +kernel) (by decide +kernel)
theorem mw1253 : Cond.fieldLink RX10 104 "TarnishTurnsModel" "reached" "I" ∈ WS := ws_of 1253 (by decide +kernel) (by decide +kernel)
theorem mw1254 : Cond.fieldLink RX10 107 "TarnishTurnsModel" "length" "I" ∈ WS := ws_of 1254 (by decide +kernel) (by decide +kernel)
theorem mw1255 : Cond.fieldLink RX10 114 "TarnishTurnsModel" "begins" "I" ∈ WS := ws_of 1255 (by decide +kernel) (by decide +kernel)
theorem mw1256 : Cond.fieldLink RX10 121 "TarnishTurnsModel" "sort" "I" ∈ WS := ws_of 1256 (by decide +kernel) (by decide +kernel)
theorem mw1257 : Cond.fieldLink RX10 124 "TarnishTurnsModel" "value" "I" ∈ WS := ws_of 1257 (by decide +kernel) (by decide +kernel)
theorem mw1258 : Cond.fieldLink RX10 117 "TarnishTurnsModel" "word" "J" ∈ WS := ws_of 1258 (by decide +kernel) (by decide +kernel)
theorem mw1259 : Cond.fieldLink RX10 127 "TarnishTurnsModel" "wrongAt" "I" ∈ WS := ws_of 1259 (by decide +kernel) (by decide +kernel)
theorem mw1260 : Cond.fieldLink RX10 130 "TarnishTurnsModel" "laterFault" "I" ∈ WS := ws_of 1260 (by decide +kernel) (by decide +kernel)
theorem mw1261 : Cond.fieldLink RX10 133 "TarnishTurnsModel" "laterPlace" "I" ∈ WS := ws_of 1261 (by decide +kernel) (by decide +kernel)
theorem mw1262 : Cond.fieldLink RX10 38 "TarnishTurnsModel" "told" "[I" ∈ WS := ws_of 1262 (by decide +kernel) (by decide +kernel)
theorem mw1263 : Cond.fieldLink RX10 41 "TarnishTurnsModel" "read" "[I" ∈ WS := ws_of 1263 (by decide +kernel) (by decide +kernel)
theorem mw1264 : Cond.fieldLink RX10 155 "TarnishTurnsModel" "farPiece" "I" ∈ WS := ws_of 1264 (by decide +kernel) (by decide +kernel)
theorem mw1265 : Cond.fieldLink RX10 162 "TarnishTurnsModel" "farSecret" "I" ∈ WS := ws_of 1265 (by decide +kernel) (by decide +kernel)
theorem mw1266 : Cond.fieldLink RX10 230 "TarnishTurnsModel" "lastHour" "I" ∈ WS := ws_of 1266 (by decide +kernel) (by decide +kernel)
theorem mw1267 : Cond.fieldLink RX10 144 "TarnishTurnsModel" "good" "Z" ∈ WS := ws_of 1267 (by decide +kernel) (by decide +kernel)
theorem mw1268 : Cond.fieldLink RX10 268 "TarnishTurnsModel" "house" "I" ∈ WS := ws_of 1268 (by decide +kernel) (by decide +kernel)
theorem mw1269 : Cond.fieldLink RX10 275 "TarnishTurnsModel" "pieces" "I" ∈ WS := ws_of 1269 (by decide +kernel) (by decide +kernel)
theorem mw1270 : Cond.fieldLink RX10 278 "TarnishTurnsModel" "secrets" "I" ∈ WS := ws_of 1270 (by decide +kernel) (by decide +kernel)
theorem mw1271 : Cond.fieldLink RX10 44 "TarnishTurnsModel" "known" "[I" ∈ WS := ws_of 1271 (by decide +kernel) (by decide +kernel)
theorem mw1272 : Cond.fieldLink RX10 299 "TarnishTurnsModel" "month" "I" ∈ WS := ws_of 1272 (by decide +kernel) (by decide +kernel)
theorem mw1273 : Cond.fieldLink RX10 311 "TarnishTurnsModel" "hour" "I" ∈ WS := ws_of 1273 (by decide +kernel) (by decide +kernel)
theorem mw1274 : Cond.fieldLink RX10 314 "TarnishTurnsModel" "stolen" "I" ∈ WS := ws_of 1274 (by decide +kernel) (by decide +kernel)
theorem mw1275 : Cond.fieldLink RX10 317 "TarnishTurnsModel" "given" "I" ∈ WS := ws_of 1275 (by decide +kernel) (by decide +kernel)
theorem mw1276 : Cond.fieldLink RX10 47 "TarnishTurnsModel" "shine" "[I" ∈ WS := ws_of 1276 (by decide +kernel) (by decide +kernel)
theorem mw1277 : Cond.fieldLink RX10 50 "TarnishTurnsModel" "gloss" "[I" ∈ WS := ws_of 1277 (by decide +kernel) (by decide +kernel)
theorem mw1278 : Cond.fieldLink RX10 367 "TarnishTurnsModel" "table" "I" ∈ WS := ws_of 1278 (by decide +kernel) (by decide +kernel)
theorem mw1279 : Cond.fieldLink RX10 53 "TarnishTurnsModel" "tellings" "[I" ∈ WS := ws_of 1279 (by decide +kernel) (by decide +kernel)
theorem mw1280 : Cond.fieldLink RX10 56 "TarnishTurnsModel" "reaches" "[I" ∈ WS := ws_of 1280 (by decide +kernel) (by decide +kernel)
theorem mw1281 : Cond.fieldLink RX10 59 "TarnishTurnsModel" "loot" "[I" ∈ WS := ws_of 1281 (by decide +kernel) (by decide +kernel)
theorem mw1282 : Cond.fieldLink RX10 62 "TarnishTurnsModel" "filled" "[I" ∈ WS := ws_of 1282 (by decide +kernel) (by decide +kernel)
theorem mw1283 : Cond.fieldLink RX10 65 "TarnishTurnsModel" "burden" "[I" ∈ WS := ws_of 1283 (by decide +kernel) (by decide +kernel)
theorem mw1284 : Cond.fieldLink RX10 432 "TarnishTurnsModel" "log" "I" ∈ WS := ws_of 1284 (by decide +kernel) (by decide +kernel)
theorem mw1285 : Cond.fieldLink RX10 68 "TarnishTurnsModel" "fitting" "[I" ∈ WS := ws_of 1285 (by decide +kernel) (by decide +kernel)
theorem mw1286 : Cond.fieldLink RX10 444 "TarnishTurnsModel" "found" "I" ∈ WS := ws_of 1286 (by decide +kernel) (by decide +kernel)
theorem mw1287 : Cond.fieldLink RX10 71 "TarnishTurnsModel" "groups" "[I" ∈ WS := ws_of 1287 (by decide +kernel) (by decide +kernel)
theorem mw1288 : Cond.fieldLink RX10 463 "TarnishTurnsModel" "seed" "I" ∈ WS := ws_of 1288 (by decide +kernel) (by decide +kernel)
theorem mw1289 : Cond.fieldLink RX10 74 "TarnishTurnsModel" "firstWorth" "[I" ∈ WS := ws_of 1289 (by decide +kernel) (by decide +kernel)
theorem mw1290 : Cond.fieldLink RX10 77 "TarnishTurnsModel" "times" "[I" ∈ WS := ws_of 1290 (by decide +kernel) (by decide +kernel)
theorem mw1291 : Cond.fieldLink RX10 80 "TarnishTurnsModel" "kept" "[Z" ∈ WS := ws_of 1291 (by decide +kernel) (by decide +kernel)
theorem mw1392 : Cond.methodLink RL 17 yX10_feed ∈ WS := ws_of 1392 (by decide +kernel) (by decide +kernel)
theorem mw1393 : Cond.instanceMethod yX10_feed ∈ WS := ws_of 1393 (by decide +kernel) (by decide +kernel)
theorem mw1394 : Cond.selects RX10 yX10_feed yX10_feed ∈ WS := ws_of 1394 (by decide +kernel) (by decide +kernel)
set_option maxRecDepth 100000 in
theorem mw1395 : Cond.code yX10_feed cX10_feed 6 (some .int) ∈ WS := ws_of 1395 rfl (by decide +kernel)
theorem mw1396 : Cond.methodLink RX10 100 yX10_four ∈ WS := ws_of 1396 (by decide +kernel) (by decide +kernel)
theorem mw1398 : Cond.instanceMethod yX10_four ∈ WS := ws_of 1398 (by decide +kernel) (by decide +kernel)
set_option maxRecDepth 100000 in
theorem mw1399 : Cond.code yX10_four cX10_four 3 none ∈ WS := ws_of 1399 rfl (by decide +kernel)
theorem mw1400 : Cond.methodLink RL 22 yX10_end ∈ WS := ws_of 1400 (by decide +kernel) (by decide +kernel)
theorem mw1401 : Cond.instanceMethod yX10_end ∈ WS := ws_of 1401 (by decide +kernel) (by decide +kernel)
theorem mw1402 : Cond.selects RX10 yX10_end yX10_end ∈ WS := ws_of 1402 (by decide +kernel) (by decide +kernel)
set_option maxRecDepth 100000 in
theorem mw1403 : Cond.code yX10_end cX10_end 2 (some .int) ∈ WS := ws_of 1403 rfl (by decide +kernel)
theorem mw1404 : Cond.methodLink RX10 96 yX10_in ∈ WS := ws_of 1404 (by decide +kernel) (by decide +kernel)
theorem mw1405 : Cond.static yX10_in ∈ WS := ws_of 1405 (by decide +kernel) (by decide +kernel)
set_option maxRecDepth 100000 in
theorem mw1406 : Cond.code yX10_in cX10_in 3 (some .boolean) ∈ WS := ws_of 1406 rfl (by decide +kernel)
theorem mw1407 : Cond.methodLink RL 27 yX10_text ∈ WS := ws_of 1407 (by decide +kernel) (by decide +kernel)
theorem mw1408 : Cond.instanceMethod yX10_text ∈ WS := ws_of 1408 (by decide +kernel) (by decide +kernel)
theorem mw1409 : Cond.selects RX10 yX10_text yX10_text ∈ WS := ws_of 1409 (by decide +kernel) (by decide +kernel)
set_option maxRecDepth 100000 in
theorem mw1410 : Cond.code yX10_text cX10_text 4 (some .int) ∈ WS := ws_of 1410 rfl (by decide +kernel)
theorem mw1411 : Cond.methodLink RX10 259 yX10_is ∈ WS := ws_of 1411 (by decide +kernel) (by decide +kernel)
theorem mw1413 : Cond.instanceMethod yX10_is ∈ WS := ws_of 1413 (by decide +kernel) (by decide +kernel)
set_option maxRecDepth 100000 in
theorem mw1414 : Cond.code yX10_is cX10_is 3 (some .boolean) ∈ WS := ws_of 1414 rfl (by decide +kernel)
theorem mw1415 : Cond.methodLink RX10 262 yX10_readText ∈ WS := ws_of 1415 (by decide +kernel) (by decide +kernel)
theorem mw1417 : Cond.instanceMethod yX10_readText ∈ WS := ws_of 1417 (by decide +kernel) (by decide +kernel)
set_option maxRecDepth 100000 in
theorem mw1418 : Cond.code yX10_readText cX10_readText 3 (some .boolean) ∈ WS := ws_of 1418 rfl (by decide +kernel)
theorem mw1419 : Cond.methodLink RX10 148 yX10_token ∈ WS := ws_of 1419 (by decide +kernel) (by decide +kernel)
theorem mw1421 : Cond.instanceMethod yX10_token ∈ WS := ws_of 1421 (by decide +kernel) (by decide +kernel)
set_option maxRecDepth 100000 in
theorem mw1422 : Cond.code yX10_token cX10_token 3 none ∈ WS := ws_of 1422 rfl (by decide +kernel)
theorem mw1423 : Cond.methodLink RX10 110 yX10_see ∈ WS := ws_of 1423 (by decide +kernel) (by decide +kernel)
theorem mw1425 : Cond.instanceMethod yX10_see ∈ WS := ws_of 1425 (by decide +kernel) (by decide +kernel)
set_option maxRecDepth 100000 in
theorem mw1426 : Cond.code yX10_see cX10_see 1 (some .int) ∈ WS := ws_of 1426 rfl (by decide +kernel)
theorem mw1427 : Cond.methodLink RX10 252 yX10_lines ∈ WS := ws_of 1427 (by decide +kernel) (by decide +kernel)
theorem mw1429 : Cond.instanceMethod yX10_lines ∈ WS := ws_of 1429 (by decide +kernel) (by decide +kernel)
set_option maxRecDepth 100000 in
theorem mw1430 : Cond.code yX10_lines cX10_lines 4 (some .boolean) ∈ WS := ws_of 1430 rfl (by decide +kernel)
theorem mw1431 : Cond.methodLink RX10 248 yX10_lineOf ∈ WS := ws_of 1431 (by decide +kernel) (by decide +kernel)
theorem mw1433 : Cond.instanceMethod yX10_lineOf ∈ WS := ws_of 1433 (by decide +kernel) (by decide +kernel)
set_option maxRecDepth 100000 in
theorem mw1434 : Cond.code yX10_lineOf cX10_lineOf 5 (some .boolean) ∈ WS := ws_of 1434 rfl (by decide +kernel)
theorem mw1435 : Cond.methodLink RX10 235 yX10_houseLine ∈ WS := ws_of 1435 (by decide +kernel) (by decide +kernel)
theorem mw1437 : Cond.instanceMethod yX10_houseLine ∈ WS := ws_of 1437 (by decide +kernel) (by decide +kernel)
set_option maxRecDepth 100000 in
theorem mw1438 : Cond.code yX10_houseLine cX10_houseLine 4 (some .boolean) ∈ WS := ws_of 1438 rfl (by decide +kernel)
theorem mw1439 : Cond.constantLong RX10 190 (482804589413) ∈ WS := ws_of 1439 (by decide +kernel) (by decide +kernel)
theorem mw1440 : Cond.constantLong RX10 192 (126879297332596) ∈ WS := ws_of 1440 (by decide +kernel) (by decide +kernel)
theorem mw1441 : Cond.constantLong RX10 194 (461414299507) ∈ WS := ws_of 1441 (by decide +kernel) (by decide +kernel)
theorem mw1442 : Cond.constantLong RX10 196 (1818848875) ∈ WS := ws_of 1442 (by decide +kernel) (by decide +kernel)
theorem mw1443 : Cond.methodLink RX10 136 yX10_fails ∈ WS := ws_of 1443 (by decide +kernel) (by decide +kernel)
theorem mw1445 : Cond.instanceMethod yX10_fails ∈ WS := ws_of 1445 (by decide +kernel) (by decide +kernel)
set_option maxRecDepth 100000 in
theorem mw1446 : Cond.code yX10_fails cX10_fails 1 (some .boolean) ∈ WS := ws_of 1446 rfl (by decide +kernel)
theorem mw1447 : Cond.methodLink RX10 198 yX10_full ∈ WS := ws_of 1447 (by decide +kernel) (by decide +kernel)
theorem mw1449 : Cond.instanceMethod yX10_full ∈ WS := ws_of 1449 (by decide +kernel) (by decide +kernel)
set_option maxRecDepth 100000 in
theorem mw1450 : Cond.code yX10_full cX10_full 4 none ∈ WS := ws_of 1450 rfl (by decide +kernel)
theorem mw1451 : Cond.methodLink RX10 140 yX10_later ∈ WS := ws_of 1451 (by decide +kernel) (by decide +kernel)
theorem mw1453 : Cond.instanceMethod yX10_later ∈ WS := ws_of 1453 (by decide +kernel) (by decide +kernel)
set_option maxRecDepth 100000 in
theorem mw1454 : Cond.code yX10_later cX10_later 3 none ∈ WS := ws_of 1454 rfl (by decide +kernel)
theorem mw1455 : Cond.methodLink RX10 202 yX10_knowsLine ∈ WS := ws_of 1455 (by decide +kernel) (by decide +kernel)
theorem mw1457 : Cond.instanceMethod yX10_knowsLine ∈ WS := ws_of 1457 (by decide +kernel) (by decide +kernel)
set_option maxRecDepth 100000 in
theorem mw1458 : Cond.code yX10_knowsLine cX10_knowsLine 1 (some .boolean) ∈ WS := ws_of 1458 rfl (by decide +kernel)
theorem mw1459 : Cond.methodLink RX10 184 yX10_takePiece ∈ WS := ws_of 1459 (by decide +kernel) (by decide +kernel)
theorem mw1461 : Cond.instanceMethod yX10_takePiece ∈ WS := ws_of 1461 (by decide +kernel) (by decide +kernel)
set_option maxRecDepth 100000 in
theorem mw1462 : Cond.code yX10_takePiece cX10_takePiece 3 (some .boolean) ∈ WS := ws_of 1462 rfl (by decide +kernel)
theorem mw1463 : Cond.methodLink RX10 151 yX10_takeBut ∈ WS := ws_of 1463 (by decide +kernel) (by decide +kernel)
theorem mw1465 : Cond.instanceMethod yX10_takeBut ∈ WS := ws_of 1465 (by decide +kernel) (by decide +kernel)
set_option maxRecDepth 100000 in
theorem mw1466 : Cond.code yX10_takeBut cX10_takeBut 6 (some .boolean) ∈ WS := ws_of 1466 rfl (by decide +kernel)
theorem mw1467 : Cond.methodLink RX10 158 yX10_greater ∈ WS := ws_of 1467 (by decide +kernel) (by decide +kernel)
theorem mw1468 : Cond.static yX10_greater ∈ WS := ws_of 1468 (by decide +kernel) (by decide +kernel)
set_option maxRecDepth 100000 in
theorem mw1469 : Cond.code yX10_greater cX10_greater 2 (some .int) ∈ WS := ws_of 1469 rfl (by decide +kernel)
theorem mw1470 : Cond.methodLink RX10 187 yX10_takeSecret ∈ WS := ws_of 1470 (by decide +kernel) (by decide +kernel)
theorem mw1472 : Cond.instanceMethod yX10_takeSecret ∈ WS := ws_of 1472 (by decide +kernel) (by decide +kernel)
set_option maxRecDepth 100000 in
theorem mw1473 : Cond.code yX10_takeSecret cX10_takeSecret 4 (some .boolean) ∈ WS := ws_of 1473 rfl (by decide +kernel)
theorem mw1474 : Cond.methodLink RX10 205 yX10_kindLine ∈ WS := ws_of 1474 (by decide +kernel) (by decide +kernel)
theorem mw1476 : Cond.instanceMethod yX10_kindLine ∈ WS := ws_of 1476 (by decide +kernel) (by decide +kernel)
set_option maxRecDepth 100000 in
theorem mw1477 : Cond.code yX10_kindLine cX10_kindLine 2 (some .boolean) ∈ WS := ws_of 1477 rfl (by decide +kernel)
theorem mw1478 : Cond.methodLink RX10 173 yX10_takeKind ∈ WS := ws_of 1478 (by decide +kernel) (by decide +kernel)
theorem mw1480 : Cond.instanceMethod yX10_takeKind ∈ WS := ws_of 1480 (by decide +kernel) (by decide +kernel)
set_option maxRecDepth 100000 in
theorem mw1481 : Cond.code yX10_takeKind cX10_takeKind 3 (some .boolean) ∈ WS := ws_of 1481 rfl (by decide +kernel)
theorem mw1482 : Cond.constantLong RX10 165 (1819244133) ∈ WS := ws_of 1482 (by decide +kernel) (by decide +kernel)
theorem mw1483 : Cond.constantLong RX10 167 (1684365940) ∈ WS := ws_of 1483 (by decide +kernel) (by decide +kernel)
theorem mw1484 : Cond.constantLong RX10 169 (431197615208) ∈ WS := ws_of 1484 (by decide +kernel) (by decide +kernel)
theorem mw1485 : Cond.constantLong RX10 171 (2003397740) ∈ WS := ws_of 1485 (by decide +kernel) (by decide +kernel)
theorem mw1486 : Cond.methodLink RX10 177 yX10_take ∈ WS := ws_of 1486 (by decide +kernel) (by decide +kernel)
theorem mw1488 : Cond.instanceMethod yX10_take ∈ WS := ws_of 1488 (by decide +kernel) (by decide +kernel)
set_option maxRecDepth 100000 in
theorem mw1489 : Cond.code yX10_take cX10_take 4 (some .boolean) ∈ WS := ws_of 1489 rfl (by decide +kernel)
theorem mw1490 : Cond.methodLink RX10 180 yX10_keep ∈ WS := ws_of 1490 (by decide +kernel) (by decide +kernel)
theorem mw1492 : Cond.instanceMethod yX10_keep ∈ WS := ws_of 1492 (by decide +kernel) (by decide +kernel)
set_option maxRecDepth 100000 in
theorem mw1493 : Cond.code yX10_keep cX10_keep 8 none ∈ WS := ws_of 1493 rfl (by decide +kernel)
theorem mw1494 : Cond.methodLink RX10 239 yX10_monthLine ∈ WS := ws_of 1494 (by decide +kernel) (by decide +kernel)
theorem mw1496 : Cond.instanceMethod yX10_monthLine ∈ WS := ws_of 1496 (by decide +kernel) (by decide +kernel)
set_option maxRecDepth 100000 in
theorem mw1497 : Cond.code yX10_monthLine cX10_monthLine 6 (some .boolean) ∈ WS := ws_of 1497 rfl (by decide +kernel)
theorem mw1498 : Cond.methodLink RX10 221 yX10_deedBy ∈ WS := ws_of 1498 (by decide +kernel) (by decide +kernel)
theorem mw1499 : Cond.static yX10_deedBy ∈ WS := ws_of 1499 (by decide +kernel) (by decide +kernel)
set_option maxRecDepth 100000 in
theorem mw1500 : Cond.code yX10_deedBy cX10_deedBy 2 (some .int) ∈ WS := ws_of 1500 rfl (by decide +kernel)
theorem mw1501 : Cond.constantLong RX10 209 (1952803948) ∈ WS := ws_of 1501 (by decide +kernel) (by decide +kernel)
theorem mw1502 : Cond.constantLong RX10 211 (1651471464) ∈ WS := ws_of 1502 (by decide +kernel) (by decide +kernel)
theorem mw1503 : Cond.constantLong RX10 213 (123623862530920) ∈ WS := ws_of 1503 (by decide +kernel) (by decide +kernel)
theorem mw1504 : Cond.constantLong RX10 215 (495874040172) ∈ WS := ws_of 1504 (by decide +kernel) (by decide +kernel)
theorem mw1505 : Cond.constantLong RX10 217 (1650549611) ∈ WS := ws_of 1505 (by decide +kernel) (by decide +kernel)
theorem mw1506 : Cond.constantLong RX10 219 (1752135026) ∈ WS := ws_of 1506 (by decide +kernel) (by decide +kernel)
theorem mw1507 : Cond.methodLink RX10 225 yX10_keepRow ∈ WS := ws_of 1507 (by decide +kernel) (by decide +kernel)
theorem mw1509 : Cond.instanceMethod yX10_keepRow ∈ WS := ws_of 1509 (by decide +kernel) (by decide +kernel)
set_option maxRecDepth 100000 in
theorem mw1510 : Cond.code yX10_keepRow cX10_keepRow 5 none ∈ WS := ws_of 1510 rfl (by decide +kernel)
theorem mw1511 : Cond.methodLink RX10 242 yX10_dinnerLine ∈ WS := ws_of 1511 (by decide +kernel) (by decide +kernel)
theorem mw1513 : Cond.instanceMethod yX10_dinnerLine ∈ WS := ws_of 1513 (by decide +kernel) (by decide +kernel)
set_option maxRecDepth 100000 in
theorem mw1514 : Cond.code yX10_dinnerLine cX10_dinnerLine 4 (some .boolean) ∈ WS := ws_of 1514 rfl (by decide +kernel)
theorem mw1515 : Cond.constantLong RX10 228 (110403987072370) ∈ WS := ws_of 1515 (by decide +kernel) (by decide +kernel)
theorem mw1516 : Cond.methodLink RX10 245 yX10_logLine ∈ WS := ws_of 1516 (by decide +kernel) (by decide +kernel)
theorem mw1518 : Cond.instanceMethod yX10_logLine ∈ WS := ws_of 1518 (by decide +kernel) (by decide +kernel)
set_option maxRecDepth 100000 in
theorem mw1519 : Cond.code yX10_logLine cX10_logLine 4 (some .boolean) ∈ WS := ws_of 1519 rfl (by decide +kernel)
theorem mw1520 : Cond.constantLong RX10 233 (495673372261) ∈ WS := ws_of 1520 (by decide +kernel) (by decide +kernel)
theorem mw1521 : Cond.methodLink RX10 265 yX10_storeAll ∈ WS := ws_of 1521 (by decide +kernel) (by decide +kernel)
theorem mw1523 : Cond.instanceMethod yX10_storeAll ∈ WS := ws_of 1523 (by decide +kernel) (by decide +kernel)
set_option maxRecDepth 100000 in
theorem mw1524 : Cond.code yX10_storeAll cX10_storeAll 3 none ∈ WS := ws_of 1524 rfl (by decide +kernel)
theorem mw1525 : Cond.methodLink RX10 255 yX10_store ∈ WS := ws_of 1525 (by decide +kernel) (by decide +kernel)
theorem mw1527 : Cond.instanceMethod yX10_store ∈ WS := ws_of 1527 (by decide +kernel) (by decide +kernel)
set_option maxRecDepth 100000 in
theorem mw1528 : Cond.code yX10_store cX10_store 5 none ∈ WS := ws_of 1528 rfl (by decide +kernel)
theorem mw1529 : Cond.methodLink RL 31 yX10_fault ∈ WS := ws_of 1529 (by decide +kernel) (by decide +kernel)
theorem mw1530 : Cond.instanceMethod yX10_fault ∈ WS := ws_of 1530 (by decide +kernel) (by decide +kernel)
theorem mw1531 : Cond.selects RX10 yX10_fault yX10_fault ∈ WS := ws_of 1531 (by decide +kernel) (by decide +kernel)
set_option maxRecDepth 100000 in
theorem mw1532 : Cond.code yX10_fault cX10_fault 2 (some .int) ∈ WS := ws_of 1532 rfl (by decide +kernel)
theorem mw1533 : Cond.methodLink RL 35 yX10_house ∈ WS := ws_of 1533 (by decide +kernel) (by decide +kernel)
theorem mw1534 : Cond.instanceMethod yX10_house ∈ WS := ws_of 1534 (by decide +kernel) (by decide +kernel)
theorem mw1535 : Cond.selects RX10 yX10_house yX10_house ∈ WS := ws_of 1535 (by decide +kernel) (by decide +kernel)
set_option maxRecDepth 100000 in
theorem mw1536 : Cond.code yX10_house cX10_house 4 (some .int) ∈ WS := ws_of 1536 rfl (by decide +kernel)
theorem mw1537 : Cond.methodLink RX10 287 yX10_hand ∈ WS := ws_of 1537 (by decide +kernel) (by decide +kernel)
theorem mw1539 : Cond.instanceMethod yX10_hand ∈ WS := ws_of 1539 (by decide +kernel) (by decide +kernel)
set_option maxRecDepth 100000 in
theorem mw1540 : Cond.code yX10_hand cX10_hand 3 (some .boolean) ∈ WS := ws_of 1540 rfl (by decide +kernel)
theorem mw1541 : Cond.methodLink RX10 271 yX10_of ∈ WS := ws_of 1541 (by decide +kernel) (by decide +kernel)
theorem mw1543 : Cond.instanceMethod yX10_of ∈ WS := ws_of 1543 (by decide +kernel) (by decide +kernel)
set_option maxRecDepth 100000 in
theorem mw1544 : Cond.code yX10_of cX10_of 2 (some .int) ∈ WS := ws_of 1544 rfl (by decide +kernel)
theorem mw1545 : Cond.methodLink RL 40 yX10_worth ∈ WS := ws_of 1545 (by decide +kernel) (by decide +kernel)
theorem mw1546 : Cond.instanceMethod yX10_worth ∈ WS := ws_of 1546 (by decide +kernel) (by decide +kernel)
theorem mw1547 : Cond.selects RX10 yX10_worth yX10_worth ∈ WS := ws_of 1547 (by decide +kernel) (by decide +kernel)
set_option maxRecDepth 100000 in
theorem mw1548 : Cond.code yX10_worth cX10_worth 4 (some .int) ∈ WS := ws_of 1548 rfl (by decide +kernel)
theorem mw1549 : Cond.methodLink RX10 290 yX10_isSecret ∈ WS := ws_of 1549 (by decide +kernel) (by decide +kernel)
theorem mw1551 : Cond.instanceMethod yX10_isSecret ∈ WS := ws_of 1551 (by decide +kernel) (by decide +kernel)
set_option maxRecDepth 100000 in
theorem mw1552 : Cond.code yX10_isSecret cX10_isSecret 2 (some .boolean) ∈ WS := ws_of 1552 rfl (by decide +kernel)
theorem mw1553 : Cond.methodLink RX10 293 yX10_isPiece ∈ WS := ws_of 1553 (by decide +kernel) (by decide +kernel)
theorem mw1555 : Cond.instanceMethod yX10_isPiece ∈ WS := ws_of 1555 (by decide +kernel) (by decide +kernel)
set_option maxRecDepth 100000 in
theorem mw1556 : Cond.code yX10_isPiece cX10_isPiece 2 (some .boolean) ∈ WS := ws_of 1556 rfl (by decide +kernel)
theorem mw1557 : Cond.methodLink RX10 296 yX10_worthNow ∈ WS := ws_of 1557 (by decide +kernel) (by decide +kernel)
theorem mw1559 : Cond.instanceMethod yX10_worthNow ∈ WS := ws_of 1559 (by decide +kernel) (by decide +kernel)
set_option maxRecDepth 100000 in
theorem mw1560 : Cond.code yX10_worthNow cX10_worthNow 3 (some .int) ∈ WS := ws_of 1560 rfl (by decide +kernel)
theorem mw1561 : Cond.methodLink RX10 88 yX10_has ∈ WS := ws_of 1561 (by decide +kernel) (by decide +kernel)
theorem mw1562 : Cond.static yX10_has ∈ WS := ws_of 1562 (by decide +kernel) (by decide +kernel)
set_option maxRecDepth 100000 in
theorem mw1563 : Cond.code yX10_has cX10_has 2 (some .boolean) ∈ WS := ws_of 1563 rfl (by decide +kernel)
theorem mw1564 : Cond.methodLink RX10 281 yX10_plain ∈ WS := ws_of 1564 (by decide +kernel) (by decide +kernel)
theorem mw1566 : Cond.instanceMethod yX10_plain ∈ WS := ws_of 1566 (by decide +kernel) (by decide +kernel)
set_option maxRecDepth 100000 in
theorem mw1567 : Cond.code yX10_plain cX10_plain 3 (some .int) ∈ WS := ws_of 1567 rfl (by decide +kernel)
theorem mw1568 : Cond.methodLink RL 44 yX10_deed ∈ WS := ws_of 1568 (by decide +kernel) (by decide +kernel)
theorem mw1569 : Cond.instanceMethod yX10_deed ∈ WS := ws_of 1569 (by decide +kernel) (by decide +kernel)
theorem mw1570 : Cond.selects RX10 yX10_deed yX10_deed ∈ WS := ws_of 1570 (by decide +kernel) (by decide +kernel)
set_option maxRecDepth 100000 in
theorem mw1571 : Cond.code yX10_deed cX10_deed 4 (some .int) ∈ WS := ws_of 1571 rfl (by decide +kernel)
theorem mw1572 : Cond.methodLink RX10 302 yX10_hasMonth ∈ WS := ws_of 1572 (by decide +kernel) (by decide +kernel)
theorem mw1574 : Cond.instanceMethod yX10_hasMonth ∈ WS := ws_of 1574 (by decide +kernel) (by decide +kernel)
set_option maxRecDepth 100000 in
theorem mw1575 : Cond.code yX10_hasMonth cX10_hasMonth 2 (some .boolean) ∈ WS := ws_of 1575 rfl (by decide +kernel)
theorem mw1576 : Cond.methodLink RX10 305 yX10_deeds ∈ WS := ws_of 1576 (by decide +kernel) (by decide +kernel)
theorem mw1578 : Cond.instanceMethod yX10_deeds ∈ WS := ws_of 1578 (by decide +kernel) (by decide +kernel)
set_option maxRecDepth 100000 in
theorem mw1579 : Cond.code yX10_deeds cX10_deeds 1 (some .int) ∈ WS := ws_of 1579 rfl (by decide +kernel)
theorem mw1580 : Cond.methodLink RX10 308 yX10_deedOf ∈ WS := ws_of 1580 (by decide +kernel) (by decide +kernel)
theorem mw1582 : Cond.instanceMethod yX10_deedOf ∈ WS := ws_of 1582 (by decide +kernel) (by decide +kernel)
set_option maxRecDepth 100000 in
theorem mw1583 : Cond.code yX10_deedOf cX10_deedOf 3 (some .int) ∈ WS := ws_of 1583 rfl (by decide +kernel)
theorem mw1584 : Cond.methodLink RL 48 yX10_till ∈ WS := ws_of 1584 (by decide +kernel) (by decide +kernel)
theorem mw1585 : Cond.instanceMethod yX10_till ∈ WS := ws_of 1585 (by decide +kernel) (by decide +kernel)
theorem mw1586 : Cond.selects RX10 yX10_till yX10_till ∈ WS := ws_of 1586 (by decide +kernel) (by decide +kernel)
set_option maxRecDepth 100000 in
theorem mw1587 : Cond.code yX10_till cX10_till 3 (some .int) ∈ WS := ws_of 1587 rfl (by decide +kernel)
theorem mw1588 : Cond.methodLink RX10 352 yX10_layAll ∈ WS := ws_of 1588 (by decide +kernel) (by decide +kernel)
theorem mw1590 : Cond.instanceMethod yX10_layAll ∈ WS := ws_of 1590 (by decide +kernel) (by decide +kernel)
set_option maxRecDepth 100000 in
theorem mw1591 : Cond.code yX10_layAll cX10_layAll 3 (some .boolean) ∈ WS := ws_of 1591 rfl (by decide +kernel)
theorem mw1592 : Cond.methodLink RX10 355 yX10_play ∈ WS := ws_of 1592 (by decide +kernel) (by decide +kernel)
theorem mw1594 : Cond.instanceMethod yX10_play ∈ WS := ws_of 1594 (by decide +kernel) (by decide +kernel)
set_option maxRecDepth 100000 in
theorem mw1595 : Cond.code yX10_play cX10_play 3 (some .int) ∈ WS := ws_of 1595 rfl (by decide +kernel)
theorem mw1596 : Cond.methodLink RX10 346 yX10_begin ∈ WS := ws_of 1596 (by decide +kernel) (by decide +kernel)
theorem mw1598 : Cond.instanceMethod yX10_begin ∈ WS := ws_of 1598 (by decide +kernel) (by decide +kernel)
set_option maxRecDepth 100000 in
theorem mw1599 : Cond.code yX10_begin cX10_begin 2 none ∈ WS := ws_of 1599 rfl (by decide +kernel)
theorem mw1600 : Cond.methodLink RX10 349 yX10_doesDeed ∈ WS := ws_of 1600 (by decide +kernel) (by decide +kernel)
theorem mw1602 : Cond.instanceMethod yX10_doesDeed ∈ WS := ws_of 1602 (by decide +kernel) (by decide +kernel)
set_option maxRecDepth 100000 in
theorem mw1603 : Cond.code yX10_doesDeed cX10_doesDeed 2 (some .boolean) ∈ WS := ws_of 1603 rfl (by decide +kernel)
theorem mw1604 : Cond.methodLink RX10 342 yX10_does ∈ WS := ws_of 1604 (by decide +kernel) (by decide +kernel)
theorem mw1606 : Cond.instanceMethod yX10_does ∈ WS := ws_of 1606 (by decide +kernel) (by decide +kernel)
set_option maxRecDepth 100000 in
theorem mw1607 : Cond.code yX10_does cX10_does 5 (some .boolean) ∈ WS := ws_of 1607 rfl (by decide +kernel)
theorem mw1608 : Cond.methodLink RX10 326 yX10_tells ∈ WS := ws_of 1608 (by decide +kernel) (by decide +kernel)
theorem mw1610 : Cond.instanceMethod yX10_tells ∈ WS := ws_of 1610 (by decide +kernel) (by decide +kernel)
set_option maxRecDepth 100000 in
theorem mw1611 : Cond.code yX10_tells cX10_tells 4 (some .boolean) ∈ WS := ws_of 1611 rfl (by decide +kernel)
theorem mw1612 : Cond.methodLink RX10 320 yX10_isThere ∈ WS := ws_of 1612 (by decide +kernel) (by decide +kernel)
theorem mw1614 : Cond.instanceMethod yX10_isThere ∈ WS := ws_of 1614 (by decide +kernel) (by decide +kernel)
set_option maxRecDepth 100000 in
theorem mw1615 : Cond.code yX10_isThere cX10_isThere 2 (some .boolean) ∈ WS := ws_of 1615 rfl (by decide +kernel)
theorem mw1616 : Cond.methodLink RX10 329 yX10_tellsBoth ∈ WS := ws_of 1616 (by decide +kernel) (by decide +kernel)
theorem mw1618 : Cond.instanceMethod yX10_tellsBoth ∈ WS := ws_of 1618 (by decide +kernel) (by decide +kernel)
set_option maxRecDepth 100000 in
theorem mw1619 : Cond.code yX10_tellsBoth cX10_tellsBoth 5 (some .boolean) ∈ WS := ws_of 1619 rfl (by decide +kernel)
theorem mw1620 : Cond.methodLink RX10 332 yX10_polishes ∈ WS := ws_of 1620 (by decide +kernel) (by decide +kernel)
theorem mw1622 : Cond.instanceMethod yX10_polishes ∈ WS := ws_of 1622 (by decide +kernel) (by decide +kernel)
set_option maxRecDepth 100000 in
theorem mw1623 : Cond.code yX10_polishes cX10_polishes 3 (some .boolean) ∈ WS := ws_of 1623 rfl (by decide +kernel)
theorem mw1624 : Cond.methodLink RX10 335 yX10_goesOn ∈ WS := ws_of 1624 (by decide +kernel) (by decide +kernel)
theorem mw1626 : Cond.instanceMethod yX10_goesOn ∈ WS := ws_of 1626 (by decide +kernel) (by decide +kernel)
set_option maxRecDepth 100000 in
theorem mw1627 : Cond.code yX10_goesOn cX10_goesOn 2 (some .boolean) ∈ WS := ws_of 1627 rfl (by decide +kernel)
theorem mw1628 : Cond.methodLink RX10 323 yX10_wear ∈ WS := ws_of 1628 (by decide +kernel) (by decide +kernel)
theorem mw1630 : Cond.instanceMethod yX10_wear ∈ WS := ws_of 1630 (by decide +kernel) (by decide +kernel)
set_option maxRecDepth 100000 in
theorem mw1631 : Cond.code yX10_wear cX10_wear 2 (some .int) ∈ WS := ws_of 1631 rfl (by decide +kernel)
theorem mw1632 : Cond.methodLink RX10 338 yX10_takes ∈ WS := ws_of 1632 (by decide +kernel) (by decide +kernel)
theorem mw1634 : Cond.instanceMethod yX10_takes ∈ WS := ws_of 1634 (by decide +kernel) (by decide +kernel)
set_option maxRecDepth 100000 in
theorem mw1635 : Cond.code yX10_takes cX10_takes 3 (some .boolean) ∈ WS := ws_of 1635 rfl (by decide +kernel)
theorem mw1636 : Cond.methodLink RL 53 yX10_state ∈ WS := ws_of 1636 (by decide +kernel) (by decide +kernel)
theorem mw1637 : Cond.instanceMethod yX10_state ∈ WS := ws_of 1637 (by decide +kernel) (by decide +kernel)
theorem mw1638 : Cond.selects RX10 yX10_state yX10_state ∈ WS := ws_of 1638 (by decide +kernel) (by decide +kernel)
set_option maxRecDepth 100000 in
theorem mw1639 : Cond.code yX10_state cX10_state 5 (some .int) ∈ WS := ws_of 1639 rfl (by decide +kernel)
theorem mw1640 : Cond.methodLink RX10 364 yX10_ofState ∈ WS := ws_of 1640 (by decide +kernel) (by decide +kernel)
theorem mw1642 : Cond.instanceMethod yX10_ofState ∈ WS := ws_of 1642 (by decide +kernel) (by decide +kernel)
set_option maxRecDepth 100000 in
theorem mw1643 : Cond.code yX10_ofState cX10_ofState 3 (some .int) ∈ WS := ws_of 1643 rfl (by decide +kernel)
theorem mw1644 : Cond.methodLink RX10 358 yX10_bright ∈ WS := ws_of 1644 (by decide +kernel) (by decide +kernel)
theorem mw1646 : Cond.instanceMethod yX10_bright ∈ WS := ws_of 1646 (by decide +kernel) (by decide +kernel)
set_option maxRecDepth 100000 in
theorem mw1647 : Cond.code yX10_bright cX10_bright 3 (some .int) ∈ WS := ws_of 1647 rfl (by decide +kernel)
theorem mw1648 : Cond.methodLink RX10 361 yX10_isDusk ∈ WS := ws_of 1648 (by decide +kernel) (by decide +kernel)
theorem mw1650 : Cond.instanceMethod yX10_isDusk ∈ WS := ws_of 1650 (by decide +kernel) (by decide +kernel)
set_option maxRecDepth 100000 in
theorem mw1651 : Cond.code yX10_isDusk cX10_isDusk 3 (some .boolean) ∈ WS := ws_of 1651 rfl (by decide +kernel)
theorem mw1652 : Cond.methodLink RL 57 yX10_dinner ∈ WS := ws_of 1652 (by decide +kernel) (by decide +kernel)
theorem mw1653 : Cond.instanceMethod yX10_dinner ∈ WS := ws_of 1653 (by decide +kernel) (by decide +kernel)
theorem mw1654 : Cond.selects RX10 yX10_dinner yX10_dinner ∈ WS := ws_of 1654 (by decide +kernel) (by decide +kernel)
set_option maxRecDepth 100000 in
theorem mw1655 : Cond.code yX10_dinner cX10_dinner 4 (some .int) ∈ WS := ws_of 1655 rfl (by decide +kernel)
theorem mw1656 : Cond.methodLink RX10 370 yX10_hasTable ∈ WS := ws_of 1656 (by decide +kernel) (by decide +kernel)
theorem mw1658 : Cond.instanceMethod yX10_hasTable ∈ WS := ws_of 1658 (by decide +kernel) (by decide +kernel)
set_option maxRecDepth 100000 in
theorem mw1659 : Cond.code yX10_hasTable cX10_hasTable 2 (some .boolean) ∈ WS := ws_of 1659 rfl (by decide +kernel)
theorem mw1660 : Cond.methodLink RX10 373 yX10_dinners ∈ WS := ws_of 1660 (by decide +kernel) (by decide +kernel)
theorem mw1662 : Cond.instanceMethod yX10_dinners ∈ WS := ws_of 1662 (by decide +kernel) (by decide +kernel)
set_option maxRecDepth 100000 in
theorem mw1663 : Cond.code yX10_dinners cX10_dinners 1 (some .int) ∈ WS := ws_of 1663 rfl (by decide +kernel)
theorem mw1664 : Cond.methodLink RX10 376 yX10_dinnerOf ∈ WS := ws_of 1664 (by decide +kernel) (by decide +kernel)
theorem mw1666 : Cond.instanceMethod yX10_dinnerOf ∈ WS := ws_of 1666 (by decide +kernel) (by decide +kernel)
set_option maxRecDepth 100000 in
theorem mw1667 : Cond.code yX10_dinnerOf cX10_dinnerOf 3 (some .int) ∈ WS := ws_of 1667 rfl (by decide +kernel)
theorem mw1668 : Cond.methodLink RL 61 yX10_served ∈ WS := ws_of 1668 (by decide +kernel) (by decide +kernel)
theorem mw1669 : Cond.instanceMethod yX10_served ∈ WS := ws_of 1669 (by decide +kernel) (by decide +kernel)
theorem mw1670 : Cond.selects RX10 yX10_served yX10_served ∈ WS := ws_of 1670 (by decide +kernel) (by decide +kernel)
set_option maxRecDepth 100000 in
theorem mw1671 : Cond.code yX10_served cX10_served 5 (some .int) ∈ WS := ws_of 1671 rfl (by decide +kernel)
theorem mw1672 : Cond.methodLink RX10 383 yX10_findTellings ∈ WS := ws_of 1672 (by decide +kernel) (by decide +kernel)
theorem mw1674 : Cond.instanceMethod yX10_findTellings ∈ WS := ws_of 1674 (by decide +kernel) (by decide +kernel)
set_option maxRecDepth 100000 in
theorem mw1675 : Cond.code yX10_findTellings cX10_findTellings 9 none ∈ WS := ws_of 1675 rfl (by decide +kernel)
theorem mw1676 : Cond.constant RX10 379 (1000000) ∈ WS := ws_of 1676 (by decide +kernel) (by decide +kernel)
theorem mw1677 : Cond.methodLink RX10 380 yX10_serves ∈ WS := ws_of 1677 (by decide +kernel) (by decide +kernel)
theorem mw1679 : Cond.instanceMethod yX10_serves ∈ WS := ws_of 1679 (by decide +kernel) (by decide +kernel)
set_option maxRecDepth 100000 in
theorem mw1680 : Cond.code yX10_serves cX10_serves 7 (some .boolean) ∈ WS := ws_of 1680 rfl (by decide +kernel)
theorem mw1681 : Cond.methodLink RX10 284 yX10_lesser ∈ WS := ws_of 1681 (by decide +kernel) (by decide +kernel)
theorem mw1682 : Cond.static yX10_lesser ∈ WS := ws_of 1682 (by decide +kernel) (by decide +kernel)
set_option maxRecDepth 100000 in
theorem mw1683 : Cond.code yX10_lesser cX10_lesser 2 (some .int) ∈ WS := ws_of 1683 rfl (by decide +kernel)
theorem mw1684 : Cond.methodLink RX10 386 yX10_toldAhead ∈ WS := ws_of 1684 (by decide +kernel) (by decide +kernel)
theorem mw1686 : Cond.instanceMethod yX10_toldAhead ∈ WS := ws_of 1686 (by decide +kernel) (by decide +kernel)
set_option maxRecDepth 100000 in
theorem mw1687 : Cond.code yX10_toldAhead cX10_toldAhead 10 (some .int) ∈ WS := ws_of 1687 rfl (by decide +kernel)
theorem mw1688 : Cond.methodLink RL 65 yX10_comes ∈ WS := ws_of 1688 (by decide +kernel) (by decide +kernel)
theorem mw1689 : Cond.instanceMethod yX10_comes ∈ WS := ws_of 1689 (by decide +kernel) (by decide +kernel)
theorem mw1690 : Cond.selects RX10 yX10_comes yX10_comes ∈ WS := ws_of 1690 (by decide +kernel) (by decide +kernel)
set_option maxRecDepth 100000 in
theorem mw1691 : Cond.code yX10_comes cX10_comes 3 (some .int) ∈ WS := ws_of 1691 rfl (by decide +kernel)
theorem mw1692 : Cond.methodLink RX10 398 yX10_everything ∈ WS := ws_of 1692 (by decide +kernel) (by decide +kernel)
theorem mw1694 : Cond.instanceMethod yX10_everything ∈ WS := ws_of 1694 (by decide +kernel) (by decide +kernel)
set_option maxRecDepth 100000 in
theorem mw1695 : Cond.code yX10_everything cX10_everything 1 (some .int) ∈ WS := ws_of 1695 rfl (by decide +kernel)
theorem mw1696 : Cond.methodLink RX10 401 yX10_comesOf ∈ WS := ws_of 1696 (by decide +kernel) (by decide +kernel)
theorem mw1698 : Cond.instanceMethod yX10_comesOf ∈ WS := ws_of 1698 (by decide +kernel) (by decide +kernel)
set_option maxRecDepth 100000 in
theorem mw1699 : Cond.code yX10_comesOf cX10_comesOf 5 (some .int) ∈ WS := ws_of 1699 rfl (by decide +kernel)
theorem mw1700 : Cond.methodLink RX10 395 yX10_round ∈ WS := ws_of 1700 (by decide +kernel) (by decide +kernel)
theorem mw1702 : Cond.instanceMethod yX10_round ∈ WS := ws_of 1702 (by decide +kernel) (by decide +kernel)
set_option maxRecDepth 100000 in
theorem mw1703 : Cond.code yX10_round cX10_round 5 (some .int) ∈ WS := ws_of 1703 rfl (by decide +kernel)
theorem mw1704 : Cond.methodLink RX10 392 yX10_makes ∈ WS := ws_of 1704 (by decide +kernel) (by decide +kernel)
theorem mw1706 : Cond.instanceMethod yX10_makes ∈ WS := ws_of 1706 (by decide +kernel) (by decide +kernel)
set_option maxRecDepth 100000 in
theorem mw1707 : Cond.code yX10_makes cX10_makes 3 (some .boolean) ∈ WS := ws_of 1707 rfl (by decide +kernel)
theorem mw1708 : Cond.methodLink RX10 389 yX10_linkOf ∈ WS := ws_of 1708 (by decide +kernel) (by decide +kernel)
theorem mw1710 : Cond.instanceMethod yX10_linkOf ∈ WS := ws_of 1710 (by decide +kernel) (by decide +kernel)
set_option maxRecDepth 100000 in
theorem mw1711 : Cond.code yX10_linkOf cX10_linkOf 3 (some .int) ∈ WS := ws_of 1711 rfl (by decide +kernel)
theorem mw1712 : Cond.methodLink RL 70 yX10_keep_ ∈ WS := ws_of 1712 (by decide +kernel) (by decide +kernel)
theorem mw1713 : Cond.instanceMethod yX10_keep_ ∈ WS := ws_of 1713 (by decide +kernel) (by decide +kernel)
theorem mw1714 : Cond.selects RX10 yX10_keep_ yX10_keep_ ∈ WS := ws_of 1714 (by decide +kernel) (by decide +kernel)
set_option maxRecDepth 100000 in
theorem mw1715 : Cond.code yX10_keep_ cX10_keep_ 7 (some .int) ∈ WS := ws_of 1715 rfl (by decide +kernel)
theorem mw1716 : Cond.methodLink RX10 404 yX10_ones ∈ WS := ws_of 1716 (by decide +kernel) (by decide +kernel)
theorem mw1717 : Cond.static yX10_ones ∈ WS := ws_of 1717 (by decide +kernel) (by decide +kernel)
set_option maxRecDepth 100000 in
theorem mw1718 : Cond.code yX10_ones cX10_ones 3 (some .int) ∈ WS := ws_of 1718 rfl (by decide +kernel)
theorem mw1719 : Cond.methodLink RL 74 yX10_theft ∈ WS := ws_of 1719 (by decide +kernel) (by decide +kernel)
theorem mw1720 : Cond.instanceMethod yX10_theft ∈ WS := ws_of 1720 (by decide +kernel) (by decide +kernel)
theorem mw1721 : Cond.selects RX10 yX10_theft yX10_theft ∈ WS := ws_of 1721 (by decide +kernel) (by decide +kernel)
set_option maxRecDepth 100000 in
theorem mw1722 : Cond.code yX10_theft cX10_theft 5 (some .int) ∈ WS := ws_of 1722 rfl (by decide +kernel)
theorem mw1723 : Cond.methodLink RX10 410 yX10_findLoot ∈ WS := ws_of 1723 (by decide +kernel) (by decide +kernel)
theorem mw1725 : Cond.instanceMethod yX10_findLoot ∈ WS := ws_of 1725 (by decide +kernel) (by decide +kernel)
set_option maxRecDepth 100000 in
theorem mw1726 : Cond.code yX10_findLoot cX10_findLoot 4 none ∈ WS := ws_of 1726 rfl (by decide +kernel)
theorem mw1727 : Cond.methodLink RX10 407 yX10_weightOf ∈ WS := ws_of 1727 (by decide +kernel) (by decide +kernel)
theorem mw1729 : Cond.instanceMethod yX10_weightOf ∈ WS := ws_of 1729 (by decide +kernel) (by decide +kernel)
set_option maxRecDepth 100000 in
theorem mw1730 : Cond.code yX10_weightOf cX10_weightOf 4 (some .int) ∈ WS := ws_of 1730 rfl (by decide +kernel)
theorem mw1731 : Cond.methodLink RX10 413 yX10_bestLoot ∈ WS := ws_of 1731 (by decide +kernel) (by decide +kernel)
theorem mw1733 : Cond.instanceMethod yX10_bestLoot ∈ WS := ws_of 1733 (by decide +kernel) (by decide +kernel)
set_option maxRecDepth 100000 in
theorem mw1734 : Cond.code yX10_bestLoot cX10_bestLoot 7 (some .int) ∈ WS := ws_of 1734 rfl (by decide +kernel)
theorem mw1735 : Cond.methodLink RL 78 yX10_evenings ∈ WS := ws_of 1735 (by decide +kernel) (by decide +kernel)
theorem mw1736 : Cond.instanceMethod yX10_evenings ∈ WS := ws_of 1736 (by decide +kernel) (by decide +kernel)
theorem mw1737 : Cond.selects RX10 yX10_evenings yX10_evenings ∈ WS := ws_of 1737 (by decide +kernel) (by decide +kernel)
set_option maxRecDepth 100000 in
theorem mw1738 : Cond.code yX10_evenings cX10_evenings 3 (some .int) ∈ WS := ws_of 1738 rfl (by decide +kernel)
theorem mw1739 : Cond.methodLink RX10 419 yX10_fewest ∈ WS := ws_of 1739 (by decide +kernel) (by decide +kernel)
theorem mw1741 : Cond.instanceMethod yX10_fewest ∈ WS := ws_of 1741 (by decide +kernel) (by decide +kernel)
set_option maxRecDepth 100000 in
theorem mw1742 : Cond.code yX10_fewest cX10_fewest 3 (some .int) ∈ WS := ws_of 1742 rfl (by decide +kernel)
theorem mw1743 : Cond.methodLink RX10 416 yX10_fill ∈ WS := ws_of 1743 (by decide +kernel) (by decide +kernel)
theorem mw1745 : Cond.instanceMethod yX10_fill ∈ WS := ws_of 1745 (by decide +kernel) (by decide +kernel)
set_option maxRecDepth 100000 in
theorem mw1746 : Cond.code yX10_fill cX10_fill 8 (some .int) ∈ WS := ws_of 1746 rfl (by decide +kernel)
theorem mw1747 : Cond.methodLink RL 83 yX10_hidden ∈ WS := ws_of 1747 (by decide +kernel) (by decide +kernel)
theorem mw1748 : Cond.instanceMethod yX10_hidden ∈ WS := ws_of 1748 (by decide +kernel) (by decide +kernel)
theorem mw1749 : Cond.selects RX10 yX10_hidden yX10_hidden ∈ WS := ws_of 1749 (by decide +kernel) (by decide +kernel)
set_option maxRecDepth 100000 in
theorem mw1750 : Cond.code yX10_hidden cX10_hidden 10 (some .long) ∈ WS := ws_of 1750 rfl (by decide +kernel)
theorem mw1751 : Cond.constantLong RX10 426 (-1) ∈ WS := ws_of 1751 (by decide +kernel) (by decide +kernel)
theorem mw1752 : Cond.methodLink RX10 428 yX10_part ∈ WS := ws_of 1752 (by decide +kernel) (by decide +kernel)
theorem mw1753 : Cond.static yX10_part ∈ WS := ws_of 1753 (by decide +kernel) (by decide +kernel)
set_option maxRecDepth 100000 in
theorem mw1754 : Cond.code yX10_part cX10_part 5 (some .long) ∈ WS := ws_of 1754 rfl (by decide +kernel)
theorem mw1755 : Cond.methodLink RX10 422 yX10_common ∈ WS := ws_of 1755 (by decide +kernel) (by decide +kernel)
theorem mw1756 : Cond.static yX10_common ∈ WS := ws_of 1756 (by decide +kernel) (by decide +kernel)
set_option maxRecDepth 100000 in
theorem mw1757 : Cond.code yX10_common cX10_common 10 (some .long) ∈ WS := ws_of 1757 rfl (by decide +kernel)
theorem mw1758 : Cond.methodLink RL 88 yX10_heirs ∈ WS := ws_of 1758 (by decide +kernel) (by decide +kernel)
theorem mw1759 : Cond.instanceMethod yX10_heirs ∈ WS := ws_of 1759 (by decide +kernel) (by decide +kernel)
theorem mw1760 : Cond.selects RX10 yX10_heirs yX10_heirs ∈ WS := ws_of 1760 (by decide +kernel) (by decide +kernel)
set_option maxRecDepth 100000 in
theorem mw1761 : Cond.code yX10_heirs cX10_heirs 8 (some .int) ∈ WS := ws_of 1761 rfl (by decide +kernel)
theorem mw1762 : Cond.methodLink RL 92 yX10_fact ∈ WS := ws_of 1762 (by decide +kernel) (by decide +kernel)
theorem mw1763 : Cond.instanceMethod yX10_fact ∈ WS := ws_of 1763 (by decide +kernel) (by decide +kernel)
theorem mw1764 : Cond.selects RX10 yX10_fact yX10_fact ∈ WS := ws_of 1764 (by decide +kernel) (by decide +kernel)
set_option maxRecDepth 100000 in
theorem mw1765 : Cond.code yX10_fact cX10_fact 4 (some .int) ∈ WS := ws_of 1765 rfl (by decide +kernel)
theorem mw1766 : Cond.methodLink RX10 435 yX10_hasLog ∈ WS := ws_of 1766 (by decide +kernel) (by decide +kernel)
theorem mw1768 : Cond.instanceMethod yX10_hasLog ∈ WS := ws_of 1768 (by decide +kernel) (by decide +kernel)
set_option maxRecDepth 100000 in
theorem mw1769 : Cond.code yX10_hasLog cX10_hasLog 2 (some .boolean) ∈ WS := ws_of 1769 rfl (by decide +kernel)
theorem mw1770 : Cond.methodLink RX10 438 yX10_factOf ∈ WS := ws_of 1770 (by decide +kernel) (by decide +kernel)
theorem mw1772 : Cond.instanceMethod yX10_factOf ∈ WS := ws_of 1772 (by decide +kernel) (by decide +kernel)
set_option maxRecDepth 100000 in
theorem mw1773 : Cond.code yX10_factOf cX10_factOf 3 (some .int) ∈ WS := ws_of 1773 rfl (by decide +kernel)
theorem mw1774 : Cond.methodLink RL 96 yX10_fits ∈ WS := ws_of 1774 (by decide +kernel) (by decide +kernel)
theorem mw1775 : Cond.instanceMethod yX10_fits ∈ WS := ws_of 1775 (by decide +kernel) (by decide +kernel)
theorem mw1776 : Cond.selects RX10 yX10_fits yX10_fits ∈ WS := ws_of 1776 (by decide +kernel) (by decide +kernel)
set_option maxRecDepth 100000 in
theorem mw1777 : Cond.code yX10_fits cX10_fits 4 (some .int) ∈ WS := ws_of 1777 rfl (by decide +kernel)
theorem mw1778 : Cond.methodLink RX10 450 yX10_layLog ∈ WS := ws_of 1778 (by decide +kernel) (by decide +kernel)
theorem mw1780 : Cond.instanceMethod yX10_layLog ∈ WS := ws_of 1780 (by decide +kernel) (by decide +kernel)
set_option maxRecDepth 100000 in
theorem mw1781 : Cond.code yX10_layLog cX10_layLog 6 (some .boolean) ∈ WS := ws_of 1781 rfl (by decide +kernel)
theorem mw1782 : Cond.methodLink RX10 447 yX10_shinesBy ∈ WS := ws_of 1782 (by decide +kernel) (by decide +kernel)
theorem mw1784 : Cond.instanceMethod yX10_shinesBy ∈ WS := ws_of 1784 (by decide +kernel) (by decide +kernel)
set_option maxRecDepth 100000 in
theorem mw1785 : Cond.code yX10_shinesBy cX10_shinesBy 3 (some .int) ∈ WS := ws_of 1785 rfl (by decide +kernel)
theorem mw1786 : Cond.methodLink RX10 441 yX10_lastsFor ∈ WS := ws_of 1786 (by decide +kernel) (by decide +kernel)
theorem mw1788 : Cond.instanceMethod yX10_lastsFor ∈ WS := ws_of 1788 (by decide +kernel) (by decide +kernel)
set_option maxRecDepth 100000 in
theorem mw1789 : Cond.code yX10_lastsFor cX10_lastsFor 3 (some .int) ∈ WS := ws_of 1789 rfl (by decide +kernel)
theorem mw1790 : Cond.methodLink RX10 453 yX10_sureOf ∈ WS := ws_of 1790 (by decide +kernel) (by decide +kernel)
theorem mw1792 : Cond.instanceMethod yX10_sureOf ∈ WS := ws_of 1792 (by decide +kernel) (by decide +kernel)
set_option maxRecDepth 100000 in
theorem mw1793 : Cond.code yX10_sureOf cX10_sureOf 4 (some .int) ∈ WS := ws_of 1793 rfl (by decide +kernel)
theorem mw1794 : Cond.methodLink RX10 457 yX10_which ∈ WS := ws_of 1794 (by decide +kernel) (by decide +kernel)
theorem mw1796 : Cond.instanceMethod yX10_which ∈ WS := ws_of 1796 (by decide +kernel) (by decide +kernel)
set_option maxRecDepth 100000 in
theorem mw1797 : Cond.code yX10_which cX10_which 4 (some .int) ∈ WS := ws_of 1797 rfl (by decide +kernel)
theorem mw1798 : Cond.methodLink RX10 460 yX10_ask ∈ WS := ws_of 1798 (by decide +kernel) (by decide +kernel)
theorem mw1800 : Cond.instanceMethod yX10_ask ∈ WS := ws_of 1800 (by decide +kernel) (by decide +kernel)
set_option maxRecDepth 100000 in
theorem mw1801 : Cond.code yX10_ask cX10_ask 7 (some .int) ∈ WS := ws_of 1801 rfl (by decide +kernel)
theorem mw1802 : Cond.methodLink RL 100 yX10_drawn ∈ WS := ws_of 1802 (by decide +kernel) (by decide +kernel)
theorem mw1803 : Cond.instanceMethod yX10_drawn ∈ WS := ws_of 1803 (by decide +kernel) (by decide +kernel)
theorem mw1804 : Cond.selects RX10 yX10_drawn yX10_drawn ∈ WS := ws_of 1804 (by decide +kernel) (by decide +kernel)
set_option maxRecDepth 100000 in
theorem mw1805 : Cond.code yX10_drawn cX10_drawn 6 (some .int) ∈ WS := ws_of 1805 rfl (by decide +kernel)
theorem mw1806 : Cond.methodLink RX10 470 yX10_drawDeed ∈ WS := ws_of 1806 (by decide +kernel) (by decide +kernel)
theorem mw1808 : Cond.instanceMethod yX10_drawDeed ∈ WS := ws_of 1808 (by decide +kernel) (by decide +kernel)
set_option maxRecDepth 100000 in
theorem mw1809 : Cond.code yX10_drawDeed cX10_drawDeed 4 none ∈ WS := ws_of 1809 rfl (by decide +kernel)
theorem mw1810 : Cond.methodLink RX10 467 yX10_draw ∈ WS := ws_of 1810 (by decide +kernel) (by decide +kernel)
theorem mw1812 : Cond.instanceMethod yX10_draw ∈ WS := ws_of 1812 (by decide +kernel) (by decide +kernel)
set_option maxRecDepth 100000 in
theorem mw1813 : Cond.code yX10_draw cX10_draw 2 (some .int) ∈ WS := ws_of 1813 rfl (by decide +kernel)
theorem mw1814 : Cond.constant RX10 466 (1103515245) ∈ WS := ws_of 1814 (by decide +kernel) (by decide +kernel)
theorem mw1815 : Cond.methodLink RL 105 yX10_lasting ∈ WS := ws_of 1815 (by decide +kernel) (by decide +kernel)
theorem mw1816 : Cond.instanceMethod yX10_lasting ∈ WS := ws_of 1816 (by decide +kernel) (by decide +kernel)
theorem mw1817 : Cond.selects RX10 yX10_lasting yX10_lasting ∈ WS := ws_of 1817 (by decide +kernel) (by decide +kernel)
set_option maxRecDepth 100000 in
theorem mw1818 : Cond.code yX10_lasting cX10_lasting 9 (some .int) ∈ WS := ws_of 1818 rfl (by decide +kernel)
theorem mw1819 : Cond.methodLink RL 109 yX10_lit ∈ WS := ws_of 1819 (by decide +kernel) (by decide +kernel)
theorem mw1820 : Cond.instanceMethod yX10_lit ∈ WS := ws_of 1820 (by decide +kernel) (by decide +kernel)
theorem mw1821 : Cond.selects RX10 yX10_lit yX10_lit ∈ WS := ws_of 1821 (by decide +kernel) (by decide +kernel)
set_option maxRecDepth 100000 in
theorem mw1822 : Cond.code yX10_lit cX10_lit 9 (some .int) ∈ WS := ws_of 1822 rfl (by decide +kernel)
theorem mw1823 : Cond.methodLink RL 113 yX10_dusky ∈ WS := ws_of 1823 (by decide +kernel) (by decide +kernel)
theorem mw1824 : Cond.instanceMethod yX10_dusky ∈ WS := ws_of 1824 (by decide +kernel) (by decide +kernel)
theorem mw1825 : Cond.selects RX10 yX10_dusky yX10_dusky ∈ WS := ws_of 1825 (by decide +kernel) (by decide +kernel)
set_option maxRecDepth 100000 in
theorem mw1826 : Cond.code yX10_dusky cX10_dusky 9 (some .int) ∈ WS := ws_of 1826 rfl (by decide +kernel)
theorem mw1827 : Cond.methodLink RL 117 yX10_fitter ∈ WS := ws_of 1827 (by decide +kernel) (by decide +kernel)
theorem mw1828 : Cond.instanceMethod yX10_fitter ∈ WS := ws_of 1828 (by decide +kernel) (by decide +kernel)
theorem mw1829 : Cond.selects RX10 yX10_fitter yX10_fitter ∈ WS := ws_of 1829 (by decide +kernel) (by decide +kernel)
set_option maxRecDepth 100000 in
theorem mw1830 : Cond.code yX10_fitter cX10_fitter 7 (some .int) ∈ WS := ws_of 1830 rfl (by decide +kernel)
theorem mw1831 : Cond.methodLink RX10 473 yX10_allWorth ∈ WS := ws_of 1831 (by decide +kernel) (by decide +kernel)
theorem mw1833 : Cond.instanceMethod yX10_allWorth ∈ WS := ws_of 1833 (by decide +kernel) (by decide +kernel)
set_option maxRecDepth 100000 in
theorem mw1834 : Cond.code yX10_allWorth cX10_allWorth 8 (some .int) ∈ WS := ws_of 1834 rfl (by decide +kernel)
theorem mw1835 : Cond.methodLink RL 121 yX10_unlike ∈ WS := ws_of 1835 (by decide +kernel) (by decide +kernel)
theorem mw1836 : Cond.instanceMethod yX10_unlike ∈ WS := ws_of 1836 (by decide +kernel) (by decide +kernel)
theorem mw1837 : Cond.selects RX10 yX10_unlike yX10_unlike ∈ WS := ws_of 1837 (by decide +kernel) (by decide +kernel)
set_option maxRecDepth 100000 in
theorem mw1838 : Cond.code yX10_unlike cX10_unlike 6 (some .int) ∈ WS := ws_of 1838 rfl (by decide +kernel)
theorem mw1839 : Cond.methodLink RL 125 yX10_spread ∈ WS := ws_of 1839 (by decide +kernel) (by decide +kernel)
theorem mw1840 : Cond.instanceMethod yX10_spread ∈ WS := ws_of 1840 (by decide +kernel) (by decide +kernel)
theorem mw1841 : Cond.selects RX10 yX10_spread yX10_spread ∈ WS := ws_of 1841 (by decide +kernel) (by decide +kernel)
set_option maxRecDepth 100000 in
theorem mw1842 : Cond.code yX10_spread cX10_spread 7 (some .int) ∈ WS := ws_of 1842 rfl (by decide +kernel)
theorem mw1843 : Cond.methodLink RL 129 yX10_depth ∈ WS := ws_of 1843 (by decide +kernel) (by decide +kernel)
theorem mw1844 : Cond.instanceMethod yX10_depth ∈ WS := ws_of 1844 (by decide +kernel) (by decide +kernel)
theorem mw1845 : Cond.selects RX10 yX10_depth yX10_depth ∈ WS := ws_of 1845 (by decide +kernel) (by decide +kernel)
set_option maxRecDepth 100000 in
theorem mw1846 : Cond.code yX10_depth cX10_depth 6 (some .int) ∈ WS := ws_of 1846 rfl (by decide +kernel)
theorem mw1847 : Cond.methodLink RL 133 yX10_spare ∈ WS := ws_of 1847 (by decide +kernel) (by decide +kernel)
theorem mw1848 : Cond.instanceMethod yX10_spare ∈ WS := ws_of 1848 (by decide +kernel) (by decide +kernel)
theorem mw1849 : Cond.selects RX10 yX10_spare yX10_spare ∈ WS := ws_of 1849 (by decide +kernel) (by decide +kernel)
set_option maxRecDepth 100000 in
theorem mw1850 : Cond.code yX10_spare cX10_spare 5 (some .int) ∈ WS := ws_of 1850 rfl (by decide +kernel)
theorem mw1851 : Cond.methodLink RL 137 yX10_guarded ∈ WS := ws_of 1851 (by decide +kernel) (by decide +kernel)
theorem mw1852 : Cond.instanceMethod yX10_guarded ∈ WS := ws_of 1852 (by decide +kernel) (by decide +kernel)
theorem mw1853 : Cond.selects RX10 yX10_guarded yX10_guarded ∈ WS := ws_of 1853 (by decide +kernel) (by decide +kernel)
set_option maxRecDepth 100000 in
theorem mw1854 : Cond.code yX10_guarded cX10_guarded 11 (some .int) ∈ WS := ws_of 1854 rfl (by decide +kernel)
theorem mw1855 : Cond.methodLink RL 141 yX10_evening ∈ WS := ws_of 1855 (by decide +kernel) (by decide +kernel)
theorem mw1856 : Cond.instanceMethod yX10_evening ∈ WS := ws_of 1856 (by decide +kernel) (by decide +kernel)
theorem mw1857 : Cond.selects RX10 yX10_evening yX10_evening ∈ WS := ws_of 1857 (by decide +kernel) (by decide +kernel)
set_option maxRecDepth 100000 in
theorem mw1858 : Cond.code yX10_evening cX10_evening 9 (some .int) ∈ WS := ws_of 1858 rfl (by decide +kernel)
theorem mw1859 : Cond.methodLink RL 146 yX10_leaks ∈ WS := ws_of 1859 (by decide +kernel) (by decide +kernel)
theorem mw1860 : Cond.instanceMethod yX10_leaks ∈ WS := ws_of 1860 (by decide +kernel) (by decide +kernel)
theorem mw1861 : Cond.selects RX10 yX10_leaks yX10_leaks ∈ WS := ws_of 1861 (by decide +kernel) (by decide +kernel)
set_option maxRecDepth 100000 in
theorem mw1862 : Cond.code yX10_leaks cX10_leaks 9 (some .long) ∈ WS := ws_of 1862 rfl (by decide +kernel)
theorem mw1863 : Cond.methodLink RL 150 yX10_cut ∈ WS := ws_of 1863 (by decide +kernel) (by decide +kernel)
theorem mw1864 : Cond.instanceMethod yX10_cut ∈ WS := ws_of 1864 (by decide +kernel) (by decide +kernel)
theorem mw1865 : Cond.selects RX10 yX10_cut yX10_cut ∈ WS := ws_of 1865 (by decide +kernel) (by decide +kernel)
set_option maxRecDepth 100000 in
theorem mw1866 : Cond.code yX10_cut cX10_cut 8 (some .int) ∈ WS := ws_of 1866 rfl (by decide +kernel)
theorem mw1867 : Cond.methodLink RL 154 yX10_after ∈ WS := ws_of 1867 (by decide +kernel) (by decide +kernel)
theorem mw1868 : Cond.instanceMethod yX10_after ∈ WS := ws_of 1868 (by decide +kernel) (by decide +kernel)
theorem mw1869 : Cond.selects RX10 yX10_after yX10_after ∈ WS := ws_of 1869 (by decide +kernel) (by decide +kernel)
set_option maxRecDepth 100000 in
theorem mw1870 : Cond.code yX10_after cX10_after 11 (some .int) ∈ WS := ws_of 1870 rfl (by decide +kernel)
theorem mw1871 : Cond.methodLink RL 158 yX10_would ∈ WS := ws_of 1871 (by decide +kernel) (by decide +kernel)
theorem mw1872 : Cond.instanceMethod yX10_would ∈ WS := ws_of 1872 (by decide +kernel) (by decide +kernel)
theorem mw1873 : Cond.selects RX10 yX10_would yX10_would ∈ WS := ws_of 1873 (by decide +kernel) (by decide +kernel)
set_option maxRecDepth 100000 in
theorem mw1874 : Cond.code yX10_would cX10_would 5 (some .int) ∈ WS := ws_of 1874 rfl (by decide +kernel)
theorem mw1875 : Cond.methodLink RL 162 yX10_count ∈ WS := ws_of 1875 (by decide +kernel) (by decide +kernel)
theorem mw1876 : Cond.instanceMethod yX10_count ∈ WS := ws_of 1876 (by decide +kernel) (by decide +kernel)
theorem mw1877 : Cond.selects RX10 yX10_count yX10_count ∈ WS := ws_of 1877 (by decide +kernel) (by decide +kernel)
set_option maxRecDepth 100000 in
theorem mw1878 : Cond.code yX10_count cX10_count 2 (some .int) ∈ WS := ws_of 1878 rfl (by decide +kernel)
theorem mw1879 : Cond.methodLink RL 167 yX10_image ∈ WS := ws_of 1879 (by decide +kernel) (by decide +kernel)
theorem mw1880 : Cond.instanceMethod yX10_image ∈ WS := ws_of 1880 (by decide +kernel) (by decide +kernel)
theorem mw1881 : Cond.selects RX10 yX10_image yX10_image ∈ WS := ws_of 1881 (by decide +kernel) (by decide +kernel)
set_option maxRecDepth 100000 in
theorem mw1882 : Cond.code yX10_image cX10_image 2 (some .boolean) ∈ WS := ws_of 1882 rfl (by decide +kernel)
theorem mw1883 : Cond.methodLink RX10 476 yX10_copyAll ∈ WS := ws_of 1883 (by decide +kernel) (by decide +kernel)
theorem mw1885 : Cond.instanceMethod yX10_copyAll ∈ WS := ws_of 1885 (by decide +kernel) (by decide +kernel)
set_option maxRecDepth 100000 in
theorem mw1886 : Cond.code yX10_copyAll cX10_copyAll 4 none ∈ WS := ws_of 1886 rfl (by decide +kernel)
theorem mw1887 : Cond.methodLink RX10 92 yX10_copyRow ∈ WS := ws_of 1887 (by decide +kernel) (by decide +kernel)
theorem mw1888 : Cond.static yX10_copyRow ∈ WS := ws_of 1888 (by decide +kernel) (by decide +kernel)
set_option maxRecDepth 100000 in
theorem mw1889 : Cond.code yX10_copyRow cX10_copyRow 5 none ∈ WS := ws_of 1889 rfl (by decide +kernel)
theorem mw1890 : Cond.methodLink RL 171 yX10_again ∈ WS := ws_of 1890 (by decide +kernel) (by decide +kernel)
theorem mw1891 : Cond.instanceMethod yX10_again ∈ WS := ws_of 1891 (by decide +kernel) (by decide +kernel)
theorem mw1892 : Cond.selects RX10 yX10_again yX10_again ∈ WS := ws_of 1892 (by decide +kernel) (by decide +kernel)
set_option maxRecDepth 100000 in
theorem mw1893 : Cond.code yX10_again cX10_again 2 (some .boolean) ∈ WS := ws_of 1893 rfl (by decide +kernel)
theorem mw1894 : Cond.fieldLink RJ0 9 "java/lang/String" "value" "[B" ∈ WS := ws_of 1894 (by decide +kernel) (by decide +kernel)
theorem mw1895 : Cond.fieldLink RJ0 15 "java/lang/String" "coder" "B" ∈ WS := ws_of 1895 (by decide +kernel) (by decide +kernel)
theorem uwX0 : ∀ w ∈ u_ws RX0 TX0 12, w ∈ WS := by
  have h : (u_ws RX0 TX0 12).all (fun w => decide (w ∈ lw_tbl) && goodWord w) = true := by decide +kernel
  intro w hw
  have h1 := List.all_eq_true.mp h w hw
  simp only [Bool.and_eq_true, decide_eq_true_eq] at h1
  exact List.mem_filter.mpr h1
theorem uwX1 : ∀ w ∈ u_ws RX1 TX1 3, w ∈ WS := by
  have h : (u_ws RX1 TX1 3).all (fun w => decide (w ∈ lw_tbl) && goodWord w) = true := by decide +kernel
  intro w hw
  have h1 := List.all_eq_true.mp h w hw
  simp only [Bool.and_eq_true, decide_eq_true_eq] at h1
  exact List.mem_filter.mpr h1
theorem uwX2 : ∀ w ∈ u_ws RX2 TX2 11, w ∈ WS := by
  have h : (u_ws RX2 TX2 11).all (fun w => decide (w ∈ lw_tbl) && goodWord w) = true := by decide +kernel
  intro w hw
  have h1 := List.all_eq_true.mp h w hw
  simp only [Bool.and_eq_true, decide_eq_true_eq] at h1
  exact List.mem_filter.mpr h1
theorem uwX3 : ∀ w ∈ u_ws RX3 TX3 3, w ∈ WS := by
  have h : (u_ws RX3 TX3 3).all (fun w => decide (w ∈ lw_tbl) && goodWord w) = true := by decide +kernel
  intro w hw
  have h1 := List.all_eq_true.mp h w hw
  simp only [Bool.and_eq_true, decide_eq_true_eq] at h1
  exact List.mem_filter.mpr h1
theorem uwX4 : ∀ w ∈ u_ws RX4 TX4 14, w ∈ WS := by
  have h : (u_ws RX4 TX4 14).all (fun w => decide (w ∈ lw_tbl) && goodWord w) = true := by decide +kernel
  intro w hw
  have h1 := List.all_eq_true.mp h w hw
  simp only [Bool.and_eq_true, decide_eq_true_eq] at h1
  exact List.mem_filter.mpr h1
theorem uwX5 : ∀ w ∈ u_ws RX5 TX5 3, w ∈ WS := by
  have h : (u_ws RX5 TX5 3).all (fun w => decide (w ∈ lw_tbl) && goodWord w) = true := by decide +kernel
  intro w hw
  have h1 := List.all_eq_true.mp h w hw
  simp only [Bool.and_eq_true, decide_eq_true_eq] at h1
  exact List.mem_filter.mpr h1
theorem uwX6 : ∀ w ∈ u_ws RX6 TX6 2, w ∈ WS := by
  have h : (u_ws RX6 TX6 2).all (fun w => decide (w ∈ lw_tbl) && goodWord w) = true := by decide +kernel
  intro w hw
  have h1 := List.all_eq_true.mp h w hw
  simp only [Bool.and_eq_true, decide_eq_true_eq] at h1
  exact List.mem_filter.mpr h1
theorem uwX7 : ∀ w ∈ u_ws RX7 TX7 1, w ∈ WS := by
  have h : (u_ws RX7 TX7 1).all (fun w => decide (w ∈ lw_tbl) && goodWord w) = true := by decide +kernel
  intro w hw
  have h1 := List.all_eq_true.mp h w hw
  simp only [Bool.and_eq_true, decide_eq_true_eq] at h1
  exact List.mem_filter.mpr h1
theorem uwX8 : ∀ w ∈ u_ws RX8 TX8 9, w ∈ WS := by
  have h : (u_ws RX8 TX8 9).all (fun w => decide (w ∈ lw_tbl) && goodWord w) = true := by decide +kernel
  intro w hw
  have h1 := List.all_eq_true.mp h w hw
  simp only [Bool.and_eq_true, decide_eq_true_eq] at h1
  exact List.mem_filter.mpr h1
theorem uwX9 : ∀ w ∈ u_ws RX9 TX9 8, w ∈ WS := by
  have h : (u_ws RX9 TX9 8).all (fun w => decide (w ∈ lw_tbl) && goodWord w) = true := by decide +kernel
  intro w hw
  have h1 := List.all_eq_true.mp h w hw
  simp only [Bool.and_eq_true, decide_eq_true_eq] at h1
  exact List.mem_filter.mpr h1
theorem uwX10 : ∀ w ∈ u_ws RX10 TX10 49, w ∈ WS := by
  have h : (u_ws RX10 TX10 49).all (fun w => decide (w ∈ lw_tbl) && goodWord w) = true := by decide +kernel
  intro w hw
  have h1 := List.all_eq_true.mp h w hw
  simp only [Bool.and_eq_true, decide_eq_true_eq] at h1
  exact List.mem_filter.mpr h1
theorem pdX0_init : yX0_init.cls ≠ "java/lang/invoke/MethodHandle" ∧ yX0_init.cls ≠ "java/lang/invoke/VarHandle" ∧ (parseMethodDescriptor yX0_init.desc).map (fun d => d.parameters.length) = some 0 := by decide +kernel
theorem pdX0_begin : yX0_begin.cls ≠ "java/lang/invoke/MethodHandle" ∧ yX0_begin.cls ≠ "java/lang/invoke/VarHandle" ∧ (parseMethodDescriptor yX0_begin.desc).map (fun d => d.parameters.length) = some 1 := by decide +kernel
theorem pdX0_follow : yX0_follow.cls ≠ "java/lang/invoke/MethodHandle" ∧ yX0_follow.cls ≠ "java/lang/invoke/VarHandle" ∧ (parseMethodDescriptor yX0_follow.desc).map (fun d => d.parameters.length) = some 3 := by decide +kernel
theorem pdX0_remember : yX0_remember.cls ≠ "java/lang/invoke/MethodHandle" ∧ yX0_remember.cls ≠ "java/lang/invoke/VarHandle" ∧ (parseMethodDescriptor yX0_remember.desc).map (fun d => d.parameters.length) = some 1 := by decide +kernel
theorem pdX0_star : yX0_star.cls ≠ "java/lang/invoke/MethodHandle" ∧ yX0_star.cls ≠ "java/lang/invoke/VarHandle" ∧ (parseMethodDescriptor yX0_star.desc).map (fun d => d.parameters.length) = some 0 := by decide +kernel
theorem pdX0_perform : yX0_perform.cls ≠ "java/lang/invoke/MethodHandle" ∧ yX0_perform.cls ≠ "java/lang/invoke/VarHandle" ∧ (parseMethodDescriptor yX0_perform.desc).map (fun d => d.parameters.length) = some 4 := by decide +kernel
theorem pdX0_isThere : yX0_isThere.cls ≠ "java/lang/invoke/MethodHandle" ∧ yX0_isThere.cls ≠ "java/lang/invoke/VarHandle" ∧ (parseMethodDescriptor yX0_isThere.desc).map (fun d => d.parameters.length) = some 1 := by decide +kernel
theorem pdX0_worthNow : yX0_worthNow.cls ≠ "java/lang/invoke/MethodHandle" ∧ yX0_worthNow.cls ≠ "java/lang/invoke/VarHandle" ∧ (parseMethodDescriptor yX0_worthNow.desc).map (fun d => d.parameters.length) = some 2 := by decide +kernel
theorem pdX0_give : yX0_give.cls ≠ "java/lang/invoke/MethodHandle" ∧ yX0_give.cls ≠ "java/lang/invoke/VarHandle" ∧ (parseMethodDescriptor yX0_give.desc).map (fun d => d.parameters.length) = some 3 := by decide +kernel
theorem pdX0_tellOne : yX0_tellOne.cls ≠ "java/lang/invoke/MethodHandle" ∧ yX0_tellOne.cls ≠ "java/lang/invoke/VarHandle" ∧ (parseMethodDescriptor yX0_tellOne.desc).map (fun d => d.parameters.length) = some 2 := by decide +kernel
theorem pdX0_tellTwo : yX0_tellTwo.cls ≠ "java/lang/invoke/MethodHandle" ∧ yX0_tellTwo.cls ≠ "java/lang/invoke/VarHandle" ∧ (parseMethodDescriptor yX0_tellTwo.desc).map (fun d => d.parameters.length) = some 3 := by decide +kernel
theorem pdX0_polishOne : yX0_polishOne.cls ≠ "java/lang/invoke/MethodHandle" ∧ yX0_polishOne.cls ≠ "java/lang/invoke/VarHandle" ∧ (parseMethodDescriptor yX0_polishOne.desc).map (fun d => d.parameters.length) = some 1 := by decide +kernel
theorem pdX0_stealOne : yX0_stealOne.cls ≠ "java/lang/invoke/MethodHandle" ∧ yX0_stealOne.cls ≠ "java/lang/invoke/VarHandle" ∧ (parseMethodDescriptor yX0_stealOne.desc).map (fun d => d.parameters.length) = some 1 := by decide +kernel
theorem pdX0_bringBack : yX0_bringBack.cls ≠ "java/lang/invoke/MethodHandle" ∧ yX0_bringBack.cls ≠ "java/lang/invoke/VarHandle" ∧ (parseMethodDescriptor yX0_bringBack.desc).map (fun d => d.parameters.length) = some 1 := by decide +kernel
theorem pdX0_passHour : yX0_passHour.cls ≠ "java/lang/invoke/MethodHandle" ∧ yX0_passHour.cls ≠ "java/lang/invoke/VarHandle" ∧ (parseMethodDescriptor yX0_passHour.desc).map (fun d => d.parameters.length) = some 0 := by decide +kernel
theorem pdX0_brightest : yX0_brightest.cls ≠ "java/lang/invoke/MethodHandle" ∧ yX0_brightest.cls ≠ "java/lang/invoke/VarHandle" ∧ (parseMethodDescriptor yX0_brightest.desc).map (fun d => d.parameters.length) = some 0 := by decide +kernel
theorem pdX0_isDusk : yX0_isDusk.cls ≠ "java/lang/invoke/MethodHandle" ∧ yX0_isDusk.cls ≠ "java/lang/invoke/VarHandle" ∧ (parseMethodDescriptor yX0_isDusk.desc).map (fun d => d.parameters.length) = some 0 := by decide +kernel
theorem pdX0_look : yX0_look.cls ≠ "java/lang/invoke/MethodHandle" ∧ yX0_look.cls ≠ "java/lang/invoke/VarHandle" ∧ (parseMethodDescriptor yX0_look.desc).map (fun d => d.parameters.length) = some 1 := by decide +kernel
theorem pdX0_lookAt : yX0_lookAt.cls ≠ "java/lang/invoke/MethodHandle" ∧ yX0_lookAt.cls ≠ "java/lang/invoke/VarHandle" ∧ (parseMethodDescriptor yX0_lookAt.desc).map (fun d => d.parameters.length) = some 2 := by decide +kernel
theorem pdX0_draw : yX0_draw.cls ≠ "java/lang/invoke/MethodHandle" ∧ yX0_draw.cls ≠ "java/lang/invoke/VarHandle" ∧ (parseMethodDescriptor yX0_draw.desc).map (fun d => d.parameters.length) = some 3 := by decide +kernel
theorem pdX0_drawBelow : yX0_drawBelow.cls ≠ "java/lang/invoke/MethodHandle" ∧ yX0_drawBelow.cls ≠ "java/lang/invoke/VarHandle" ∧ (parseMethodDescriptor yX0_drawBelow.desc).map (fun d => d.parameters.length) = some 1 := by decide +kernel
theorem pdX0_drawDeed : yX0_drawDeed.cls ≠ "java/lang/invoke/MethodHandle" ∧ yX0_drawDeed.cls ≠ "java/lang/invoke/VarHandle" ∧ (parseMethodDescriptor yX0_drawDeed.desc).map (fun d => d.parameters.length) = some 0 := by decide +kernel
theorem pdX0_drawTelling : yX0_drawTelling.cls ≠ "java/lang/invoke/MethodHandle" ∧ yX0_drawTelling.cls ≠ "java/lang/invoke/VarHandle" ∧ (parseMethodDescriptor yX0_drawTelling.desc).map (fun d => d.parameters.length) = some 1 := by decide +kernel
theorem pdX1_init : yX1_init.cls ≠ "java/lang/invoke/MethodHandle" ∧ yX1_init.cls ≠ "java/lang/invoke/VarHandle" ∧ (parseMethodDescriptor yX1_init.desc).map (fun d => d.parameters.length) = some 0 := by decide +kernel
theorem pdX1_gather : yX1_gather.cls ≠ "java/lang/invoke/MethodHandle" ∧ yX1_gather.cls ≠ "java/lang/invoke/VarHandle" ∧ (parseMethodDescriptor yX1_gather.desc).map (fun d => d.parameters.length) = some 2 := by decide +kernel
theorem pdX1_isFit : yX1_isFit.cls ≠ "java/lang/invoke/MethodHandle" ∧ yX1_isFit.cls ≠ "java/lang/invoke/VarHandle" ∧ (parseMethodDescriptor yX1_isFit.desc).map (fun d => d.parameters.length) = some 3 := by decide +kernel
theorem pdX1_hasFit : yX1_hasFit.cls ≠ "java/lang/invoke/MethodHandle" ∧ yX1_hasFit.cls ≠ "java/lang/invoke/VarHandle" ∧ (parseMethodDescriptor yX1_hasFit.desc).map (fun d => d.parameters.length) = some 1 := by decide +kernel
theorem pdX1_sureKind : yX1_sureKind.cls ≠ "java/lang/invoke/MethodHandle" ∧ yX1_sureKind.cls ≠ "java/lang/invoke/VarHandle" ∧ (parseMethodDescriptor yX1_sureKind.desc).map (fun d => d.parameters.length) = some 0 := by decide +kernel
theorem pdX1_sureWeight : yX1_sureWeight.cls ≠ "java/lang/invoke/MethodHandle" ∧ yX1_sureWeight.cls ≠ "java/lang/invoke/VarHandle" ∧ (parseMethodDescriptor yX1_sureWeight.desc).map (fun d => d.parameters.length) = some 0 := by decide +kernel
theorem pdX1_fittingSecrets : yX1_fittingSecrets.cls ≠ "java/lang/invoke/MethodHandle" ∧ yX1_fittingSecrets.cls ≠ "java/lang/invoke/VarHandle" ∧ (parseMethodDescriptor yX1_fittingSecrets.desc).map (fun d => d.parameters.length) = some 1 := by decide +kernel
theorem pdX1_bestAsked : yX1_bestAsked.cls ≠ "java/lang/invoke/MethodHandle" ∧ yX1_bestAsked.cls ≠ "java/lang/invoke/VarHandle" ∧ (parseMethodDescriptor yX1_bestAsked.desc).map (fun d => d.parameters.length) = some 1 := by decide +kernel
theorem pdX1_mostAlike : yX1_mostAlike.cls ≠ "java/lang/invoke/MethodHandle" ∧ yX1_mostAlike.cls ≠ "java/lang/invoke/VarHandle" ∧ (parseMethodDescriptor yX1_mostAlike.desc).map (fun d => d.parameters.length) = some 2 := by decide +kernel
theorem pdX2_init : yX2_init.cls ≠ "java/lang/invoke/MethodHandle" ∧ yX2_init.cls ≠ "java/lang/invoke/VarHandle" ∧ (parseMethodDescriptor yX2_init.desc).map (fun d => d.parameters.length) = some 0 := by decide +kernel
theorem pdX2_empty : yX2_empty.cls ≠ "java/lang/invoke/MethodHandle" ∧ yX2_empty.cls ≠ "java/lang/invoke/VarHandle" ∧ (parseMethodDescriptor yX2_empty.desc).map (fun d => d.parameters.length) = some 0 := by decide +kernel
theorem pdX2_addPiece : yX2_addPiece.cls ≠ "java/lang/invoke/MethodHandle" ∧ yX2_addPiece.cls ≠ "java/lang/invoke/VarHandle" ∧ (parseMethodDescriptor yX2_addPiece.desc).map (fun d => d.parameters.length) = some 2 := by decide +kernel
theorem pdX2_addSecret : yX2_addSecret.cls ≠ "java/lang/invoke/MethodHandle" ∧ yX2_addSecret.cls ≠ "java/lang/invoke/VarHandle" ∧ (parseMethodDescriptor yX2_addSecret.desc).map (fun d => d.parameters.length) = some 2 := by decide +kernel
theorem pdX2_addKnown : yX2_addKnown.cls ≠ "java/lang/invoke/MethodHandle" ∧ yX2_addKnown.cls ≠ "java/lang/invoke/VarHandle" ∧ (parseMethodDescriptor yX2_addKnown.desc).map (fun d => d.parameters.length) = some 2 := by decide +kernel
theorem pdX2_addLink : yX2_addLink.cls ≠ "java/lang/invoke/MethodHandle" ∧ yX2_addLink.cls ≠ "java/lang/invoke/VarHandle" ∧ (parseMethodDescriptor yX2_addLink.desc).map (fun d => d.parameters.length) = some 3 := by decide +kernel
theorem pdX2_copyFrom : yX2_copyFrom.cls ≠ "java/lang/invoke/MethodHandle" ∧ yX2_copyFrom.cls ≠ "java/lang/invoke/VarHandle" ∧ (parseMethodDescriptor yX2_copyFrom.desc).map (fun d => d.parameters.length) = some 1 := by decide +kernel
theorem pdX2_hasPiece : yX2_hasPiece.cls ≠ "java/lang/invoke/MethodHandle" ∧ yX2_hasPiece.cls ≠ "java/lang/invoke/VarHandle" ∧ (parseMethodDescriptor yX2_hasPiece.desc).map (fun d => d.parameters.length) = some 1 := by decide +kernel
theorem pdX2_hasSecret : yX2_hasSecret.cls ≠ "java/lang/invoke/MethodHandle" ∧ yX2_hasSecret.cls ≠ "java/lang/invoke/VarHandle" ∧ (parseMethodDescriptor yX2_hasSecret.desc).map (fun d => d.parameters.length) = some 1 := by decide +kernel
theorem pdX2_hasSecrets : yX2_hasSecrets.cls ≠ "java/lang/invoke/MethodHandle" ∧ yX2_hasSecrets.cls ≠ "java/lang/invoke/VarHandle" ∧ (parseMethodDescriptor yX2_hasSecrets.desc).map (fun d => d.parameters.length) = some 1 := by decide +kernel
theorem pdX2_hasPieces : yX2_hasPieces.cls ≠ "java/lang/invoke/MethodHandle" ∧ yX2_hasPieces.cls ≠ "java/lang/invoke/VarHandle" ∧ (parseMethodDescriptor yX2_hasPieces.desc).map (fun d => d.parameters.length) = some 2 := by decide +kernel
theorem pdX2_secretSets : yX2_secretSets.cls ≠ "java/lang/invoke/MethodHandle" ∧ yX2_secretSets.cls ≠ "java/lang/invoke/VarHandle" ∧ (parseMethodDescriptor yX2_secretSets.desc).map (fun d => d.parameters.length) = some 0 := by decide +kernel
theorem pdX2_allSecrets : yX2_allSecrets.cls ≠ "java/lang/invoke/MethodHandle" ∧ yX2_allSecrets.cls ≠ "java/lang/invoke/VarHandle" ∧ (parseMethodDescriptor yX2_allSecrets.desc).map (fun d => d.parameters.length) = some 0 := by decide +kernel
theorem pdX2_allPieces : yX2_allPieces.cls ≠ "java/lang/invoke/MethodHandle" ∧ yX2_allPieces.cls ≠ "java/lang/invoke/VarHandle" ∧ (parseMethodDescriptor yX2_allPieces.desc).map (fun d => d.parameters.length) = some 0 := by decide +kernel
theorem pdX2_detail : yX2_detail.cls ≠ "java/lang/invoke/MethodHandle" ∧ yX2_detail.cls ≠ "java/lang/invoke/VarHandle" ∧ (parseMethodDescriptor yX2_detail.desc).map (fun d => d.parameters.length) = some 2 := by decide +kernel
theorem pdX2_pieceDetail : yX2_pieceDetail.cls ≠ "java/lang/invoke/MethodHandle" ∧ yX2_pieceDetail.cls ≠ "java/lang/invoke/VarHandle" ∧ (parseMethodDescriptor yX2_pieceDetail.desc).map (fun d => d.parameters.length) = some 2 := by decide +kernel
theorem pdX2_secretDetail : yX2_secretDetail.cls ≠ "java/lang/invoke/MethodHandle" ∧ yX2_secretDetail.cls ≠ "java/lang/invoke/VarHandle" ∧ (parseMethodDescriptor yX2_secretDetail.desc).map (fun d => d.parameters.length) = some 2 := by decide +kernel
theorem pdX2_linkDetail : yX2_linkDetail.cls ≠ "java/lang/invoke/MethodHandle" ∧ yX2_linkDetail.cls ≠ "java/lang/invoke/VarHandle" ∧ (parseMethodDescriptor yX2_linkDetail.desc).map (fun d => d.parameters.length) = some 2 := by decide +kernel
theorem pdX2_worthTo : yX2_worthTo.cls ≠ "java/lang/invoke/MethodHandle" ∧ yX2_worthTo.cls ≠ "java/lang/invoke/VarHandle" ∧ (parseMethodDescriptor yX2_worthTo.desc).map (fun d => d.parameters.length) = some 2 := by decide +kernel
theorem pdX2_worthIfTaste : yX2_worthIfTaste.cls ≠ "java/lang/invoke/MethodHandle" ∧ yX2_worthIfTaste.cls ≠ "java/lang/invoke/VarHandle" ∧ (parseMethodDescriptor yX2_worthIfTaste.desc).map (fun d => d.parameters.length) = some 3 := by decide +kernel
theorem pdX2_weightOf : yX2_weightOf.cls ≠ "java/lang/invoke/MethodHandle" ∧ yX2_weightOf.cls ≠ "java/lang/invoke/VarHandle" ∧ (parseMethodDescriptor yX2_weightOf.desc).map (fun d => d.parameters.length) = some 1 := by decide +kernel
theorem pdX2_makes : yX2_makes.cls ≠ "java/lang/invoke/MethodHandle" ∧ yX2_makes.cls ≠ "java/lang/invoke/VarHandle" ∧ (parseMethodDescriptor yX2_makes.desc).map (fun d => d.parameters.length) = some 2 := by decide +kernel
theorem pdX2_closure : yX2_closure.cls ≠ "java/lang/invoke/MethodHandle" ∧ yX2_closure.cls ≠ "java/lang/invoke/VarHandle" ∧ (parseMethodDescriptor yX2_closure.desc).map (fun d => d.parameters.length) = some 2 := by decide +kernel
theorem pdX2_roundsTo : yX2_roundsTo.cls ≠ "java/lang/invoke/MethodHandle" ∧ yX2_roundsTo.cls ≠ "java/lang/invoke/VarHandle" ∧ (parseMethodDescriptor yX2_roundsTo.desc).map (fun d => d.parameters.length) = some 2 := by decide +kernel
theorem pdX2_spareLinks : yX2_spareLinks.cls ≠ "java/lang/invoke/MethodHandle" ∧ yX2_spareLinks.cls ≠ "java/lang/invoke/VarHandle" ∧ (parseMethodDescriptor yX2_spareLinks.desc).map (fun d => d.parameters.length) = some 0 := by decide +kernel
theorem pdX2_fewestKept : yX2_fewestKept.cls ≠ "java/lang/invoke/MethodHandle" ∧ yX2_fewestKept.cls ≠ "java/lang/invoke/VarHandle" ∧ (parseMethodDescriptor yX2_fewestKept.desc).map (fun d => d.parameters.length) = some 1 := by decide +kernel
theorem pdX2_fewestGiving : yX2_fewestGiving.cls ≠ "java/lang/invoke/MethodHandle" ∧ yX2_fewestGiving.cls ≠ "java/lang/invoke/VarHandle" ∧ (parseMethodDescriptor yX2_fewestGiving.desc).map (fun d => d.parameters.length) = some 1 := by decide +kernel
theorem pdX2_mayBeTold : yX2_mayBeTold.cls ≠ "java/lang/invoke/MethodHandle" ∧ yX2_mayBeTold.cls ≠ "java/lang/invoke/VarHandle" ∧ (parseMethodDescriptor yX2_mayBeTold.desc).map (fun d => d.parameters.length) = some 1 := by decide +kernel
theorem pdX2_countSets : yX2_countSets.cls ≠ "java/lang/invoke/MethodHandle" ∧ yX2_countSets.cls ≠ "java/lang/invoke/VarHandle" ∧ (parseMethodDescriptor yX2_countSets.desc).map (fun d => d.parameters.length) = some 1 := by decide +kernel
theorem pdX2_countHiding : yX2_countHiding.cls ≠ "java/lang/invoke/MethodHandle" ∧ yX2_countHiding.cls ≠ "java/lang/invoke/VarHandle" ∧ (parseMethodDescriptor yX2_countHiding.desc).map (fun d => d.parameters.length) = some 2 := by decide +kernel
theorem pdX2_weightLeaking : yX2_weightLeaking.cls ≠ "java/lang/invoke/MethodHandle" ∧ yX2_weightLeaking.cls ≠ "java/lang/invoke/VarHandle" ∧ (parseMethodDescriptor yX2_weightLeaking.desc).map (fun d => d.parameters.length) = some 1 := by decide +kernel
theorem pdX2_weightKeptOut : yX2_weightKeptOut.cls ≠ "java/lang/invoke/MethodHandle" ∧ yX2_weightKeptOut.cls ≠ "java/lang/invoke/VarHandle" ∧ (parseMethodDescriptor yX2_weightKeptOut.desc).map (fun d => d.parameters.length) = some 1 := by decide +kernel
theorem pdX2_bestTakenAway : yX2_bestTakenAway.cls ≠ "java/lang/invoke/MethodHandle" ∧ yX2_bestTakenAway.cls ≠ "java/lang/invoke/VarHandle" ∧ (parseMethodDescriptor yX2_bestTakenAway.desc).map (fun d => d.parameters.length) = some 1 := by decide +kernel
theorem pdX2_shareGap : yX2_shareGap.cls ≠ "java/lang/invoke/MethodHandle" ∧ yX2_shareGap.cls ≠ "java/lang/invoke/VarHandle" ∧ (parseMethodDescriptor yX2_shareGap.desc).map (fun d => d.parameters.length) = some 1 := by decide +kernel
theorem pdX2_evenestShare : yX2_evenestShare.cls ≠ "java/lang/invoke/MethodHandle" ∧ yX2_evenestShare.cls ≠ "java/lang/invoke/VarHandle" ∧ (parseMethodDescriptor yX2_evenestShare.desc).map (fun d => d.parameters.length) = some 0 := by decide +kernel
theorem pdX2_shineBehind : yX2_shineBehind.cls ≠ "java/lang/invoke/MethodHandle" ∧ yX2_shineBehind.cls ≠ "java/lang/invoke/VarHandle" ∧ (parseMethodDescriptor yX2_shineBehind.desc).map (fun d => d.parameters.length) = some 3 := by decide +kernel
theorem pdX2_longestShining : yX2_longestShining.cls ≠ "java/lang/invoke/MethodHandle" ∧ yX2_longestShining.cls ≠ "java/lang/invoke/VarHandle" ∧ (parseMethodDescriptor yX2_longestShining.desc).map (fun d => d.parameters.length) = some 2 := by decide +kernel
theorem pdX2_longestLit : yX2_longestLit.cls ≠ "java/lang/invoke/MethodHandle" ∧ yX2_longestLit.cls ≠ "java/lang/invoke/VarHandle" ∧ (parseMethodDescriptor yX2_longestLit.desc).map (fun d => d.parameters.length) = some 2 := by decide +kernel
theorem pdX2_duskHours : yX2_duskHours.cls ≠ "java/lang/invoke/MethodHandle" ∧ yX2_duskHours.cls ≠ "java/lang/invoke/VarHandle" ∧ (parseMethodDescriptor yX2_duskHours.desc).map (fun d => d.parameters.length) = some 3 := by decide +kernel
theorem pdX2_duskiestCouple : yX2_duskiestCouple.cls ≠ "java/lang/invoke/MethodHandle" ∧ yX2_duskiestCouple.cls ≠ "java/lang/invoke/VarHandle" ∧ (parseMethodDescriptor yX2_duskiestCouple.desc).map (fun d => d.parameters.length) = some 1 := by decide +kernel
theorem pdX2_worthOfAll : yX2_worthOfAll.cls ≠ "java/lang/invoke/MethodHandle" ∧ yX2_worthOfAll.cls ≠ "java/lang/invoke/VarHandle" ∧ (parseMethodDescriptor yX2_worthOfAll.desc).map (fun d => d.parameters.length) = some 2 := by decide +kernel
theorem pdX2_fittestTaste : yX2_fittestTaste.cls ≠ "java/lang/invoke/MethodHandle" ∧ yX2_fittestTaste.cls ≠ "java/lang/invoke/VarHandle" ∧ (parseMethodDescriptor yX2_fittestTaste.desc).map (fun d => d.parameters.length) = some 0 := by decide +kernel
theorem pdX2_knownBy : yX2_knownBy.cls ≠ "java/lang/invoke/MethodHandle" ∧ yX2_knownBy.cls ≠ "java/lang/invoke/VarHandle" ∧ (parseMethodDescriptor yX2_knownBy.desc).map (fun d => d.parameters.length) = some 1 := by decide +kernel
theorem pdX2_hoursTold : yX2_hoursTold.cls ≠ "java/lang/invoke/MethodHandle" ∧ yX2_hoursTold.cls ≠ "java/lang/invoke/VarHandle" ∧ (parseMethodDescriptor yX2_hoursTold.desc).map (fun d => d.parameters.length) = some 2 := by decide +kernel
theorem pdX3_init : yX3_init.cls ≠ "java/lang/invoke/MethodHandle" ∧ yX3_init.cls ≠ "java/lang/invoke/VarHandle" ∧ (parseMethodDescriptor yX3_init.desc).map (fun d => d.parameters.length) = some 0 := by decide +kernel
theorem pdX3_fewest : yX3_fewest.cls ≠ "java/lang/invoke/MethodHandle" ∧ yX3_fewest.cls ≠ "java/lang/invoke/VarHandle" ∧ (parseMethodDescriptor yX3_fewest.desc).map (fun d => d.parameters.length) = some 2 := by decide +kernel
theorem pdX3_addTo : yX3_addTo.cls ≠ "java/lang/invoke/MethodHandle" ∧ yX3_addTo.cls ≠ "java/lang/invoke/VarHandle" ∧ (parseMethodDescriptor yX3_addTo.desc).map (fun d => d.parameters.length) = some 3 := by decide +kernel
theorem pdX3_whenTold : yX3_whenTold.cls ≠ "java/lang/invoke/MethodHandle" ∧ yX3_whenTold.cls ≠ "java/lang/invoke/VarHandle" ∧ (parseMethodDescriptor yX3_whenTold.desc).map (fun d => d.parameters.length) = some 3 := by decide +kernel
theorem pdX3_place : yX3_place.cls ≠ "java/lang/invoke/MethodHandle" ∧ yX3_place.cls ≠ "java/lang/invoke/VarHandle" ∧ (parseMethodDescriptor yX3_place.desc).map (fun d => d.parameters.length) = some 6 := by decide +kernel
theorem pdX4_init : yX4_init.cls ≠ "java/lang/invoke/MethodHandle" ∧ yX4_init.cls ≠ "java/lang/invoke/VarHandle" ∧ (parseMethodDescriptor yX4_init.desc).map (fun d => d.parameters.length) = some 0 := by decide +kernel
theorem pdX4_read : yX4_read.cls ≠ "java/lang/invoke/MethodHandle" ∧ yX4_read.cls ≠ "java/lang/invoke/VarHandle" ∧ (parseMethodDescriptor yX4_read.desc).map (fun d => d.parameters.length) = some 3 := by decide +kernel
theorem pdX4_blame : yX4_blame.cls ≠ "java/lang/invoke/MethodHandle" ∧ yX4_blame.cls ≠ "java/lang/invoke/VarHandle" ∧ (parseMethodDescriptor yX4_blame.desc).map (fun d => d.parameters.length) = some 2 := by decide +kernel
theorem pdX4_isBlank : yX4_isBlank.cls ≠ "java/lang/invoke/MethodHandle" ∧ yX4_isBlank.cls ≠ "java/lang/invoke/VarHandle" ∧ (parseMethodDescriptor yX4_isBlank.desc).map (fun d => d.parameters.length) = some 1 := by decide +kernel
theorem pdX4_isLetter : yX4_isLetter.cls ≠ "java/lang/invoke/MethodHandle" ∧ yX4_isLetter.cls ≠ "java/lang/invoke/VarHandle" ∧ (parseMethodDescriptor yX4_isLetter.desc).map (fun d => d.parameters.length) = some 1 := by decide +kernel
theorem pdX4_isDigit : yX4_isDigit.cls ≠ "java/lang/invoke/MethodHandle" ∧ yX4_isDigit.cls ≠ "java/lang/invoke/VarHandle" ∧ (parseMethodDescriptor yX4_isDigit.desc).map (fun d => d.parameters.length) = some 1 := by decide +kernel
theorem pdX4_nextToken : yX4_nextToken.cls ≠ "java/lang/invoke/MethodHandle" ∧ yX4_nextToken.cls ≠ "java/lang/invoke/VarHandle" ∧ (parseMethodDescriptor yX4_nextToken.desc).map (fun d => d.parameters.length) = some 0 := by decide +kernel
theorem pdX4_tokenNumber : yX4_tokenNumber.cls ≠ "java/lang/invoke/MethodHandle" ∧ yX4_tokenNumber.cls ≠ "java/lang/invoke/VarHandle" ∧ (parseMethodDescriptor yX4_tokenNumber.desc).map (fun d => d.parameters.length) = some 0 := by decide +kernel
theorem pdX4_spells : yX4_spells.cls ≠ "java/lang/invoke/MethodHandle" ∧ yX4_spells.cls ≠ "java/lang/invoke/VarHandle" ∧ (parseMethodDescriptor yX4_spells.desc).map (fun d => d.parameters.length) = some 1 := by decide +kernel
theorem pdX4_wordOf : yX4_wordOf.cls ≠ "java/lang/invoke/MethodHandle" ∧ yX4_wordOf.cls ≠ "java/lang/invoke/VarHandle" ∧ (parseMethodDescriptor yX4_wordOf.desc).map (fun d => d.parameters.length) = some 1 := by decide +kernel
theorem pdX4_verbOf : yX4_verbOf.cls ≠ "java/lang/invoke/MethodHandle" ∧ yX4_verbOf.cls ≠ "java/lang/invoke/VarHandle" ∧ (parseMethodDescriptor yX4_verbOf.desc).map (fun d => d.parameters.length) = some 1 := by decide +kernel
theorem pdX4_kindOf : yX4_kindOf.cls ≠ "java/lang/invoke/MethodHandle" ∧ yX4_kindOf.cls ≠ "java/lang/invoke/VarHandle" ∧ (parseMethodDescriptor yX4_kindOf.desc).map (fun d => d.parameters.length) = some 0 := by decide +kernel
theorem pdX4_readLines : yX4_readLines.cls ≠ "java/lang/invoke/MethodHandle" ∧ yX4_readLines.cls ≠ "java/lang/invoke/VarHandle" ∧ (parseMethodDescriptor yX4_readLines.desc).map (fun d => d.parameters.length) = some 1 := by decide +kernel
theorem pdX4_readLine : yX4_readLine.cls ≠ "java/lang/invoke/MethodHandle" ∧ yX4_readLine.cls ≠ "java/lang/invoke/VarHandle" ∧ (parseMethodDescriptor yX4_readLine.desc).map (fun d => d.parameters.length) = some 1 := by decide +kernel
theorem pdX4_readNumbers : yX4_readNumbers.cls ≠ "java/lang/invoke/MethodHandle" ∧ yX4_readNumbers.cls ≠ "java/lang/invoke/VarHandle" ∧ (parseMethodDescriptor yX4_readNumbers.desc).map (fun d => d.parameters.length) = some 1 := by decide +kernel
theorem pdX4_checkLines : yX4_checkLines.cls ≠ "java/lang/invoke/MethodHandle" ∧ yX4_checkLines.cls ≠ "java/lang/invoke/VarHandle" ∧ (parseMethodDescriptor yX4_checkLines.desc).map (fun d => d.parameters.length) = some 0 := by decide +kernel
theorem pdX4_isTooMany : yX4_isTooMany.cls ≠ "java/lang/invoke/MethodHandle" ∧ yX4_isTooMany.cls ≠ "java/lang/invoke/VarHandle" ∧ (parseMethodDescriptor yX4_isTooMany.desc).map (fun d => d.parameters.length) = some 1 := by decide +kernel
theorem pdX4_mayBe : yX4_mayBe.cls ≠ "java/lang/invoke/MethodHandle" ∧ yX4_mayBe.cls ≠ "java/lang/invoke/VarHandle" ∧ (parseMethodDescriptor yX4_mayBe.desc).map (fun d => d.parameters.length) = some 2 := by decide +kernel
theorem pdX4_checkAllThere : yX4_checkAllThere.cls ≠ "java/lang/invoke/MethodHandle" ∧ yX4_checkAllThere.cls ≠ "java/lang/invoke/VarHandle" ∧ (parseMethodDescriptor yX4_checkAllThere.desc).map (fun d => d.parameters.length) = some 0 := by decide +kernel
theorem pdX4_fillHouse : yX4_fillHouse.cls ≠ "java/lang/invoke/MethodHandle" ∧ yX4_fillHouse.cls ≠ "java/lang/invoke/VarHandle" ∧ (parseMethodDescriptor yX4_fillHouse.desc).map (fun d => d.parameters.length) = some 1 := by decide +kernel
theorem pdX4_fillRows : yX4_fillRows.cls ≠ "java/lang/invoke/MethodHandle" ∧ yX4_fillRows.cls ≠ "java/lang/invoke/VarHandle" ∧ (parseMethodDescriptor yX4_fillRows.desc).map (fun d => d.parameters.length) = some 1 := by decide +kernel
theorem pdX5_init : yX5_init.cls ≠ "java/lang/invoke/MethodHandle" ∧ yX5_init.cls ≠ "java/lang/invoke/VarHandle" ∧ (parseMethodDescriptor yX5_init.desc).map (fun d => d.parameters.length) = some 1 := by decide +kernel
theorem pdX5_hasRow : yX5_hasRow.cls ≠ "java/lang/invoke/MethodHandle" ∧ yX5_hasRow.cls ≠ "java/lang/invoke/VarHandle" ∧ (parseMethodDescriptor yX5_hasRow.desc).map (fun d => d.parameters.length) = some 1 := by decide +kernel
theorem pdX5_cell : yX5_cell.cls ≠ "java/lang/invoke/MethodHandle" ∧ yX5_cell.cls ≠ "java/lang/invoke/VarHandle" ∧ (parseMethodDescriptor yX5_cell.desc).map (fun d => d.parameters.length) = some 2 := by decide +kernel
theorem pdX5_add : yX5_add.cls ≠ "java/lang/invoke/MethodHandle" ∧ yX5_add.cls ≠ "java/lang/invoke/VarHandle" ∧ (parseMethodDescriptor yX5_add.desc).map (fun d => d.parameters.length) = some 4 := by decide +kernel
theorem pdX5_copyFrom : yX5_copyFrom.cls ≠ "java/lang/invoke/MethodHandle" ∧ yX5_copyFrom.cls ≠ "java/lang/invoke/VarHandle" ∧ (parseMethodDescriptor yX5_copyFrom.desc).map (fun d => d.parameters.length) = some 1 := by decide +kernel
theorem pdX6_init : yX6_init.cls ≠ "java/lang/invoke/MethodHandle" ∧ yX6_init.cls ≠ "java/lang/invoke/VarHandle" ∧ (parseMethodDescriptor yX6_init.desc).map (fun d => d.parameters.length) = some 0 := by decide +kernel
theorem pdX6_measure : yX6_measure.cls ≠ "java/lang/invoke/MethodHandle" ∧ yX6_measure.cls ≠ "java/lang/invoke/VarHandle" ∧ (parseMethodDescriptor yX6_measure.desc).map (fun d => d.parameters.length) = some 2 := by decide +kernel
theorem pdX6_stretch : yX6_stretch.cls ≠ "java/lang/invoke/MethodHandle" ∧ yX6_stretch.cls ≠ "java/lang/invoke/VarHandle" ∧ (parseMethodDescriptor yX6_stretch.desc).map (fun d => d.parameters.length) = some 4 := by decide +kernel
theorem pdX6_longestServed : yX6_longestServed.cls ≠ "java/lang/invoke/MethodHandle" ∧ yX6_longestServed.cls ≠ "java/lang/invoke/VarHandle" ∧ (parseMethodDescriptor yX6_longestServed.desc).map (fun d => d.parameters.length) = some 2 := by decide +kernel
theorem pdX6_fewestServing : yX6_fewestServing.cls ≠ "java/lang/invoke/MethodHandle" ∧ yX6_fewestServing.cls ≠ "java/lang/invoke/VarHandle" ∧ (parseMethodDescriptor yX6_fewestServing.desc).map (fun d => d.parameters.length) = some 2 := by decide +kernel
theorem pdX6_startServing : yX6_startServing.cls ≠ "java/lang/invoke/MethodHandle" ∧ yX6_startServing.cls ≠ "java/lang/invoke/VarHandle" ∧ (parseMethodDescriptor yX6_startServing.desc).map (fun d => d.parameters.length) = some 2 := by decide +kernel
theorem pdX6_startOfRest : yX6_startOfRest.cls ≠ "java/lang/invoke/MethodHandle" ∧ yX6_startOfRest.cls ≠ "java/lang/invoke/VarHandle" ∧ (parseMethodDescriptor yX6_startOfRest.desc).map (fun d => d.parameters.length) = some 3 := by decide +kernel
theorem pdX6_toldAhead : yX6_toldAhead.cls ≠ "java/lang/invoke/MethodHandle" ∧ yX6_toldAhead.cls ≠ "java/lang/invoke/VarHandle" ∧ (parseMethodDescriptor yX6_toldAhead.desc).map (fun d => d.parameters.length) = some 4 := by decide +kernel
theorem pdX7_init : yX7_init.cls ≠ "java/lang/invoke/MethodHandle" ∧ yX7_init.cls ≠ "java/lang/invoke/VarHandle" ∧ (parseMethodDescriptor yX7_init.desc).map (fun d => d.parameters.length) = some 0 := by decide +kernel
theorem pdX7_spoil : yX7_spoil.cls ≠ "java/lang/invoke/MethodHandle" ∧ yX7_spoil.cls ≠ "java/lang/invoke/VarHandle" ∧ (parseMethodDescriptor yX7_spoil.desc).map (fun d => d.parameters.length) = some 1 := by decide +kernel
theorem pdX7_got : yX7_got.cls ≠ "java/lang/invoke/MethodHandle" ∧ yX7_got.cls ≠ "java/lang/invoke/VarHandle" ∧ (parseMethodDescriptor yX7_got.desc).map (fun d => d.parameters.length) = some 1 := by decide +kernel
theorem pdX7_bestPieces : yX7_bestPieces.cls ≠ "java/lang/invoke/MethodHandle" ∧ yX7_bestPieces.cls ≠ "java/lang/invoke/VarHandle" ∧ (parseMethodDescriptor yX7_bestPieces.desc).map (fun d => d.parameters.length) = some 2 := by decide +kernel
theorem pdX7_bestGuards : yX7_bestGuards.cls ≠ "java/lang/invoke/MethodHandle" ∧ yX7_bestGuards.cls ≠ "java/lang/invoke/VarHandle" ∧ (parseMethodDescriptor yX7_bestGuards.desc).map (fun d => d.parameters.length) = some 3 := by decide +kernel
theorem pdX8_init : yX8_init.cls ≠ "java/lang/invoke/MethodHandle" ∧ yX8_init.cls ≠ "java/lang/invoke/VarHandle" ∧ (parseMethodDescriptor yX8_init.desc).map (fun d => d.parameters.length) = some 0 := by decide +kernel
theorem pdX8_append : yX8_append.cls ≠ "java/lang/invoke/MethodHandle" ∧ yX8_append.cls ≠ "java/lang/invoke/VarHandle" ∧ (parseMethodDescriptor yX8_append.desc).map (fun d => d.parameters.length) = some 1 := by decide +kernel
theorem pdX8_houseAt : yX8_houseAt.cls ≠ "java/lang/invoke/MethodHandle" ∧ yX8_houseAt.cls ≠ "java/lang/invoke/VarHandle" ∧ (parseMethodDescriptor yX8_houseAt.desc).map (fun d => d.parameters.length) = some 1 := by decide +kernel
theorem pdX8_rowsAt : yX8_rowsAt.cls ≠ "java/lang/invoke/MethodHandle" ∧ yX8_rowsAt.cls ≠ "java/lang/invoke/VarHandle" ∧ (parseMethodDescriptor yX8_rowsAt.desc).map (fun d => d.parameters.length) = some 2 := by decide +kernel
theorem pdX8_copyFrom : yX8_copyFrom.cls ≠ "java/lang/invoke/MethodHandle" ∧ yX8_copyFrom.cls ≠ "java/lang/invoke/VarHandle" ∧ (parseMethodDescriptor yX8_copyFrom.desc).map (fun d => d.parameters.length) = some 1 := by decide +kernel
theorem pdX9_init : yX9_init.cls ≠ "java/lang/invoke/MethodHandle" ∧ yX9_init.cls ≠ "java/lang/invoke/VarHandle" ∧ (parseMethodDescriptor yX9_init.desc).map (fun d => d.parameters.length) = some 0 := by decide +kernel
theorem pdX9_feed : yX9_feed.cls ≠ "java/lang/invoke/MethodHandle" ∧ yX9_feed.cls ≠ "java/lang/invoke/VarHandle" ∧ (parseMethodDescriptor yX9_feed.desc).map (fun d => d.parameters.length) = some 5 := by decide +kernel
theorem pdX9_end : yX9_end.cls ≠ "java/lang/invoke/MethodHandle" ∧ yX9_end.cls ≠ "java/lang/invoke/VarHandle" ∧ (parseMethodDescriptor yX9_end.desc).map (fun d => d.parameters.length) = some 1 := by decide +kernel
theorem pdX9_text : yX9_text.cls ≠ "java/lang/invoke/MethodHandle" ∧ yX9_text.cls ≠ "java/lang/invoke/VarHandle" ∧ (parseMethodDescriptor yX9_text.desc).map (fun d => d.parameters.length) = some 2 := by decide +kernel
theorem pdX9_takeText : yX9_takeText.cls ≠ "java/lang/invoke/MethodHandle" ∧ yX9_takeText.cls ≠ "java/lang/invoke/VarHandle" ∧ (parseMethodDescriptor yX9_takeText.desc).map (fun d => d.parameters.length) = some 2 := by decide +kernel
theorem pdX9_fault : yX9_fault.cls ≠ "java/lang/invoke/MethodHandle" ∧ yX9_fault.cls ≠ "java/lang/invoke/VarHandle" ∧ (parseMethodDescriptor yX9_fault.desc).map (fun d => d.parameters.length) = some 1 := by decide +kernel
theorem pdX9_house : yX9_house.cls ≠ "java/lang/invoke/MethodHandle" ∧ yX9_house.cls ≠ "java/lang/invoke/VarHandle" ∧ (parseMethodDescriptor yX9_house.desc).map (fun d => d.parameters.length) = some 2 := by decide +kernel
theorem pdX9_worth : yX9_worth.cls ≠ "java/lang/invoke/MethodHandle" ∧ yX9_worth.cls ≠ "java/lang/invoke/VarHandle" ∧ (parseMethodDescriptor yX9_worth.desc).map (fun d => d.parameters.length) = some 3 := by decide +kernel
theorem pdX9_deed : yX9_deed.cls ≠ "java/lang/invoke/MethodHandle" ∧ yX9_deed.cls ≠ "java/lang/invoke/VarHandle" ∧ (parseMethodDescriptor yX9_deed.desc).map (fun d => d.parameters.length) = some 3 := by decide +kernel
theorem pdX9_till : yX9_till.cls ≠ "java/lang/invoke/MethodHandle" ∧ yX9_till.cls ≠ "java/lang/invoke/VarHandle" ∧ (parseMethodDescriptor yX9_till.desc).map (fun d => d.parameters.length) = some 2 := by decide +kernel
theorem pdX9_state : yX9_state.cls ≠ "java/lang/invoke/MethodHandle" ∧ yX9_state.cls ≠ "java/lang/invoke/VarHandle" ∧ (parseMethodDescriptor yX9_state.desc).map (fun d => d.parameters.length) = some 4 := by decide +kernel
theorem pdX9_dinner : yX9_dinner.cls ≠ "java/lang/invoke/MethodHandle" ∧ yX9_dinner.cls ≠ "java/lang/invoke/VarHandle" ∧ (parseMethodDescriptor yX9_dinner.desc).map (fun d => d.parameters.length) = some 3 := by decide +kernel
theorem pdX9_rowNumber : yX9_rowNumber.cls ≠ "java/lang/invoke/MethodHandle" ∧ yX9_rowNumber.cls ≠ "java/lang/invoke/VarHandle" ∧ (parseMethodDescriptor yX9_rowNumber.desc).map (fun d => d.parameters.length) = some 4 := by decide +kernel
theorem pdX9_served : yX9_served.cls ≠ "java/lang/invoke/MethodHandle" ∧ yX9_served.cls ≠ "java/lang/invoke/VarHandle" ∧ (parseMethodDescriptor yX9_served.desc).map (fun d => d.parameters.length) = some 3 := by decide +kernel
theorem pdX9_comes : yX9_comes.cls ≠ "java/lang/invoke/MethodHandle" ∧ yX9_comes.cls ≠ "java/lang/invoke/VarHandle" ∧ (parseMethodDescriptor yX9_comes.desc).map (fun d => d.parameters.length) = some 2 := by decide +kernel
theorem pdX9_keep : yX9_keep.cls ≠ "java/lang/invoke/MethodHandle" ∧ yX9_keep.cls ≠ "java/lang/invoke/VarHandle" ∧ (parseMethodDescriptor yX9_keep.desc).map (fun d => d.parameters.length) = some 3 := by decide +kernel
theorem pdX9_theft : yX9_theft.cls ≠ "java/lang/invoke/MethodHandle" ∧ yX9_theft.cls ≠ "java/lang/invoke/VarHandle" ∧ (parseMethodDescriptor yX9_theft.desc).map (fun d => d.parameters.length) = some 3 := by decide +kernel
theorem pdX9_evenings : yX9_evenings.cls ≠ "java/lang/invoke/MethodHandle" ∧ yX9_evenings.cls ≠ "java/lang/invoke/VarHandle" ∧ (parseMethodDescriptor yX9_evenings.desc).map (fun d => d.parameters.length) = some 2 := by decide +kernel
theorem pdX9_hidden : yX9_hidden.cls ≠ "java/lang/invoke/MethodHandle" ∧ yX9_hidden.cls ≠ "java/lang/invoke/VarHandle" ∧ (parseMethodDescriptor yX9_hidden.desc).map (fun d => d.parameters.length) = some 4 := by decide +kernel
theorem pdX9_heirs : yX9_heirs.cls ≠ "java/lang/invoke/MethodHandle" ∧ yX9_heirs.cls ≠ "java/lang/invoke/VarHandle" ∧ (parseMethodDescriptor yX9_heirs.desc).map (fun d => d.parameters.length) = some 2 := by decide +kernel
theorem pdX9_fact : yX9_fact.cls ≠ "java/lang/invoke/MethodHandle" ∧ yX9_fact.cls ≠ "java/lang/invoke/VarHandle" ∧ (parseMethodDescriptor yX9_fact.desc).map (fun d => d.parameters.length) = some 3 := by decide +kernel
theorem pdX9_fits : yX9_fits.cls ≠ "java/lang/invoke/MethodHandle" ∧ yX9_fits.cls ≠ "java/lang/invoke/VarHandle" ∧ (parseMethodDescriptor yX9_fits.desc).map (fun d => d.parameters.length) = some 3 := by decide +kernel
theorem pdX9_drawn : yX9_drawn.cls ≠ "java/lang/invoke/MethodHandle" ∧ yX9_drawn.cls ≠ "java/lang/invoke/VarHandle" ∧ (parseMethodDescriptor yX9_drawn.desc).map (fun d => d.parameters.length) = some 4 := by decide +kernel
theorem pdX9_lasting : yX9_lasting.cls ≠ "java/lang/invoke/MethodHandle" ∧ yX9_lasting.cls ≠ "java/lang/invoke/VarHandle" ∧ (parseMethodDescriptor yX9_lasting.desc).map (fun d => d.parameters.length) = some 4 := by decide +kernel
theorem pdX9_lit : yX9_lit.cls ≠ "java/lang/invoke/MethodHandle" ∧ yX9_lit.cls ≠ "java/lang/invoke/VarHandle" ∧ (parseMethodDescriptor yX9_lit.desc).map (fun d => d.parameters.length) = some 2 := by decide +kernel
theorem pdX9_dusky : yX9_dusky.cls ≠ "java/lang/invoke/MethodHandle" ∧ yX9_dusky.cls ≠ "java/lang/invoke/VarHandle" ∧ (parseMethodDescriptor yX9_dusky.desc).map (fun d => d.parameters.length) = some 3 := by decide +kernel
theorem pdX9_fitter : yX9_fitter.cls ≠ "java/lang/invoke/MethodHandle" ∧ yX9_fitter.cls ≠ "java/lang/invoke/VarHandle" ∧ (parseMethodDescriptor yX9_fitter.desc).map (fun d => d.parameters.length) = some 2 := by decide +kernel
theorem pdX9_unlike : yX9_unlike.cls ≠ "java/lang/invoke/MethodHandle" ∧ yX9_unlike.cls ≠ "java/lang/invoke/VarHandle" ∧ (parseMethodDescriptor yX9_unlike.desc).map (fun d => d.parameters.length) = some 2 := by decide +kernel
theorem pdX9_spread : yX9_spread.cls ≠ "java/lang/invoke/MethodHandle" ∧ yX9_spread.cls ≠ "java/lang/invoke/VarHandle" ∧ (parseMethodDescriptor yX9_spread.desc).map (fun d => d.parameters.length) = some 2 := by decide +kernel
theorem pdX9_depth : yX9_depth.cls ≠ "java/lang/invoke/MethodHandle" ∧ yX9_depth.cls ≠ "java/lang/invoke/VarHandle" ∧ (parseMethodDescriptor yX9_depth.desc).map (fun d => d.parameters.length) = some 3 := by decide +kernel
theorem pdX9_spare : yX9_spare.cls ≠ "java/lang/invoke/MethodHandle" ∧ yX9_spare.cls ≠ "java/lang/invoke/VarHandle" ∧ (parseMethodDescriptor yX9_spare.desc).map (fun d => d.parameters.length) = some 1 := by decide +kernel
theorem pdX9_guarded : yX9_guarded.cls ≠ "java/lang/invoke/MethodHandle" ∧ yX9_guarded.cls ≠ "java/lang/invoke/VarHandle" ∧ (parseMethodDescriptor yX9_guarded.desc).map (fun d => d.parameters.length) = some 4 := by decide +kernel
theorem pdX9_evening : yX9_evening.cls ≠ "java/lang/invoke/MethodHandle" ∧ yX9_evening.cls ≠ "java/lang/invoke/VarHandle" ∧ (parseMethodDescriptor yX9_evening.desc).map (fun d => d.parameters.length) = some 3 := by decide +kernel
theorem pdX9_leaks : yX9_leaks.cls ≠ "java/lang/invoke/MethodHandle" ∧ yX9_leaks.cls ≠ "java/lang/invoke/VarHandle" ∧ (parseMethodDescriptor yX9_leaks.desc).map (fun d => d.parameters.length) = some 3 := by decide +kernel
theorem pdX9_cut : yX9_cut.cls ≠ "java/lang/invoke/MethodHandle" ∧ yX9_cut.cls ≠ "java/lang/invoke/VarHandle" ∧ (parseMethodDescriptor yX9_cut.desc).map (fun d => d.parameters.length) = some 3 := by decide +kernel
theorem pdX9_after : yX9_after.cls ≠ "java/lang/invoke/MethodHandle" ∧ yX9_after.cls ≠ "java/lang/invoke/VarHandle" ∧ (parseMethodDescriptor yX9_after.desc).map (fun d => d.parameters.length) = some 3 := by decide +kernel
theorem pdX9_would : yX9_would.cls ≠ "java/lang/invoke/MethodHandle" ∧ yX9_would.cls ≠ "java/lang/invoke/VarHandle" ∧ (parseMethodDescriptor yX9_would.desc).map (fun d => d.parameters.length) = some 4 := by decide +kernel
theorem pdX9_count : yX9_count.cls ≠ "java/lang/invoke/MethodHandle" ∧ yX9_count.cls ≠ "java/lang/invoke/VarHandle" ∧ (parseMethodDescriptor yX9_count.desc).map (fun d => d.parameters.length) = some 1 := by decide +kernel
theorem pdX9_image : yX9_image.cls ≠ "java/lang/invoke/MethodHandle" ∧ yX9_image.cls ≠ "java/lang/invoke/VarHandle" ∧ (parseMethodDescriptor yX9_image.desc).map (fun d => d.parameters.length) = some 1 := by decide +kernel
theorem pdX9_again : yX9_again.cls ≠ "java/lang/invoke/MethodHandle" ∧ yX9_again.cls ≠ "java/lang/invoke/VarHandle" ∧ (parseMethodDescriptor yX9_again.desc).map (fun d => d.parameters.length) = some 1 := by decide +kernel
theorem pdX9_fractionPart : yX9_fractionPart.cls ≠ "java/lang/invoke/MethodHandle" ∧ yX9_fractionPart.cls ≠ "java/lang/invoke/VarHandle" ∧ (parseMethodDescriptor yX9_fractionPart.desc).map (fun d => d.parameters.length) = some 3 := by decide +kernel
theorem pdX9_hasBit : yX9_hasBit.cls ≠ "java/lang/invoke/MethodHandle" ∧ yX9_hasBit.cls ≠ "java/lang/invoke/VarHandle" ∧ (parseMethodDescriptor yX9_hasBit.desc).map (fun d => d.parameters.length) = some 2 := by decide +kernel
theorem pdX9_hoursLeft : yX9_hoursLeft.cls ≠ "java/lang/invoke/MethodHandle" ∧ yX9_hoursLeft.cls ≠ "java/lang/invoke/VarHandle" ∧ (parseMethodDescriptor yX9_hoursLeft.desc).map (fun d => d.parameters.length) = some 2 := by decide +kernel
theorem pdX9_worthOf : yX9_worthOf.cls ≠ "java/lang/invoke/MethodHandle" ∧ yX9_worthOf.cls ≠ "java/lang/invoke/VarHandle" ∧ (parseMethodDescriptor yX9_worthOf.desc).map (fun d => d.parameters.length) = some 3 := by decide +kernel
theorem pdX9_kindOfCode : yX9_kindOfCode.cls ≠ "java/lang/invoke/MethodHandle" ∧ yX9_kindOfCode.cls ≠ "java/lang/invoke/VarHandle" ∧ (parseMethodDescriptor yX9_kindOfCode.desc).map (fun d => d.parameters.length) = some 1 := by decide +kernel
theorem pdX9_weightOfCode : yX9_weightOfCode.cls ≠ "java/lang/invoke/MethodHandle" ∧ yX9_weightOfCode.cls ≠ "java/lang/invoke/VarHandle" ∧ (parseMethodDescriptor yX9_weightOfCode.desc).map (fun d => d.parameters.length) = some 1 := by decide +kernel
theorem pdX10_init : yX10_init.cls ≠ "java/lang/invoke/MethodHandle" ∧ yX10_init.cls ≠ "java/lang/invoke/VarHandle" ∧ (parseMethodDescriptor yX10_init.desc).map (fun d => d.parameters.length) = some 0 := by decide +kernel
theorem pdX10_in : yX10_in.cls ≠ "java/lang/invoke/MethodHandle" ∧ yX10_in.cls ≠ "java/lang/invoke/VarHandle" ∧ (parseMethodDescriptor yX10_in.desc).map (fun d => d.parameters.length) = some 3 := by decide +kernel
theorem pdX10_has : yX10_has.cls ≠ "java/lang/invoke/MethodHandle" ∧ yX10_has.cls ≠ "java/lang/invoke/VarHandle" ∧ (parseMethodDescriptor yX10_has.desc).map (fun d => d.parameters.length) = some 2 := by decide +kernel
theorem pdX10_greater : yX10_greater.cls ≠ "java/lang/invoke/MethodHandle" ∧ yX10_greater.cls ≠ "java/lang/invoke/VarHandle" ∧ (parseMethodDescriptor yX10_greater.desc).map (fun d => d.parameters.length) = some 2 := by decide +kernel
theorem pdX10_lesser : yX10_lesser.cls ≠ "java/lang/invoke/MethodHandle" ∧ yX10_lesser.cls ≠ "java/lang/invoke/VarHandle" ∧ (parseMethodDescriptor yX10_lesser.desc).map (fun d => d.parameters.length) = some 2 := by decide +kernel
theorem pdX10_ones : yX10_ones.cls ≠ "java/lang/invoke/MethodHandle" ∧ yX10_ones.cls ≠ "java/lang/invoke/VarHandle" ∧ (parseMethodDescriptor yX10_ones.desc).map (fun d => d.parameters.length) = some 1 := by decide +kernel
theorem pdX10_copyRow : yX10_copyRow.cls ≠ "java/lang/invoke/MethodHandle" ∧ yX10_copyRow.cls ≠ "java/lang/invoke/VarHandle" ∧ (parseMethodDescriptor yX10_copyRow.desc).map (fun d => d.parameters.length) = some 4 := by decide +kernel
theorem pdX10_copyAll : yX10_copyAll.cls ≠ "java/lang/invoke/MethodHandle" ∧ yX10_copyAll.cls ≠ "java/lang/invoke/VarHandle" ∧ (parseMethodDescriptor yX10_copyAll.desc).map (fun d => d.parameters.length) = some 2 := by decide +kernel
theorem pdX10_is : yX10_is.cls ≠ "java/lang/invoke/MethodHandle" ∧ yX10_is.cls ≠ "java/lang/invoke/VarHandle" ∧ (parseMethodDescriptor yX10_is.desc).map (fun d => d.parameters.length) = some 2 := by decide +kernel
theorem pdX10_feed : yX10_feed.cls ≠ "java/lang/invoke/MethodHandle" ∧ yX10_feed.cls ≠ "java/lang/invoke/VarHandle" ∧ (parseMethodDescriptor yX10_feed.desc).map (fun d => d.parameters.length) = some 5 := by decide +kernel
theorem pdX10_four : yX10_four.cls ≠ "java/lang/invoke/MethodHandle" ∧ yX10_four.cls ≠ "java/lang/invoke/VarHandle" ∧ (parseMethodDescriptor yX10_four.desc).map (fun d => d.parameters.length) = some 1 := by decide +kernel
theorem pdX10_end : yX10_end.cls ≠ "java/lang/invoke/MethodHandle" ∧ yX10_end.cls ≠ "java/lang/invoke/VarHandle" ∧ (parseMethodDescriptor yX10_end.desc).map (fun d => d.parameters.length) = some 1 := by decide +kernel
theorem pdX10_see : yX10_see.cls ≠ "java/lang/invoke/MethodHandle" ∧ yX10_see.cls ≠ "java/lang/invoke/VarHandle" ∧ (parseMethodDescriptor yX10_see.desc).map (fun d => d.parameters.length) = some 0 := by decide +kernel
theorem pdX10_token : yX10_token.cls ≠ "java/lang/invoke/MethodHandle" ∧ yX10_token.cls ≠ "java/lang/invoke/VarHandle" ∧ (parseMethodDescriptor yX10_token.desc).map (fun d => d.parameters.length) = some 0 := by decide +kernel
theorem pdX10_fails : yX10_fails.cls ≠ "java/lang/invoke/MethodHandle" ∧ yX10_fails.cls ≠ "java/lang/invoke/VarHandle" ∧ (parseMethodDescriptor yX10_fails.desc).map (fun d => d.parameters.length) = some 0 := by decide +kernel
theorem pdX10_later : yX10_later.cls ≠ "java/lang/invoke/MethodHandle" ∧ yX10_later.cls ≠ "java/lang/invoke/VarHandle" ∧ (parseMethodDescriptor yX10_later.desc).map (fun d => d.parameters.length) = some 2 := by decide +kernel
theorem pdX10_takeBut : yX10_takeBut.cls ≠ "java/lang/invoke/MethodHandle" ∧ yX10_takeBut.cls ≠ "java/lang/invoke/VarHandle" ∧ (parseMethodDescriptor yX10_takeBut.desc).map (fun d => d.parameters.length) = some 5 := by decide +kernel
theorem pdX10_take : yX10_take.cls ≠ "java/lang/invoke/MethodHandle" ∧ yX10_take.cls ≠ "java/lang/invoke/VarHandle" ∧ (parseMethodDescriptor yX10_take.desc).map (fun d => d.parameters.length) = some 3 := by decide +kernel
theorem pdX10_takePiece : yX10_takePiece.cls ≠ "java/lang/invoke/MethodHandle" ∧ yX10_takePiece.cls ≠ "java/lang/invoke/VarHandle" ∧ (parseMethodDescriptor yX10_takePiece.desc).map (fun d => d.parameters.length) = some 2 := by decide +kernel
theorem pdX10_takeSecret : yX10_takeSecret.cls ≠ "java/lang/invoke/MethodHandle" ∧ yX10_takeSecret.cls ≠ "java/lang/invoke/VarHandle" ∧ (parseMethodDescriptor yX10_takeSecret.desc).map (fun d => d.parameters.length) = some 3 := by decide +kernel
theorem pdX10_takeKind : yX10_takeKind.cls ≠ "java/lang/invoke/MethodHandle" ∧ yX10_takeKind.cls ≠ "java/lang/invoke/VarHandle" ∧ (parseMethodDescriptor yX10_takeKind.desc).map (fun d => d.parameters.length) = some 1 := by decide +kernel
theorem pdX10_full : yX10_full.cls ≠ "java/lang/invoke/MethodHandle" ∧ yX10_full.cls ≠ "java/lang/invoke/VarHandle" ∧ (parseMethodDescriptor yX10_full.desc).map (fun d => d.parameters.length) = some 3 := by decide +kernel
theorem pdX10_keep : yX10_keep.cls ≠ "java/lang/invoke/MethodHandle" ∧ yX10_keep.cls ≠ "java/lang/invoke/VarHandle" ∧ (parseMethodDescriptor yX10_keep.desc).map (fun d => d.parameters.length) = some 5 := by decide +kernel
theorem pdX10_kindLine : yX10_kindLine.cls ≠ "java/lang/invoke/MethodHandle" ∧ yX10_kindLine.cls ≠ "java/lang/invoke/VarHandle" ∧ (parseMethodDescriptor yX10_kindLine.desc).map (fun d => d.parameters.length) = some 1 := by decide +kernel
theorem pdX10_knowsLine : yX10_knowsLine.cls ≠ "java/lang/invoke/MethodHandle" ∧ yX10_knowsLine.cls ≠ "java/lang/invoke/VarHandle" ∧ (parseMethodDescriptor yX10_knowsLine.desc).map (fun d => d.parameters.length) = some 0 := by decide +kernel
theorem pdX10_houseLine : yX10_houseLine.cls ≠ "java/lang/invoke/MethodHandle" ∧ yX10_houseLine.cls ≠ "java/lang/invoke/VarHandle" ∧ (parseMethodDescriptor yX10_houseLine.desc).map (fun d => d.parameters.length) = some 2 := by decide +kernel
theorem pdX10_deedBy : yX10_deedBy.cls ≠ "java/lang/invoke/MethodHandle" ∧ yX10_deedBy.cls ≠ "java/lang/invoke/VarHandle" ∧ (parseMethodDescriptor yX10_deedBy.desc).map (fun d => d.parameters.length) = some 1 := by decide +kernel
theorem pdX10_keepRow : yX10_keepRow.cls ≠ "java/lang/invoke/MethodHandle" ∧ yX10_keepRow.cls ≠ "java/lang/invoke/VarHandle" ∧ (parseMethodDescriptor yX10_keepRow.desc).map (fun d => d.parameters.length) = some 2 := by decide +kernel
theorem pdX10_monthLine : yX10_monthLine.cls ≠ "java/lang/invoke/MethodHandle" ∧ yX10_monthLine.cls ≠ "java/lang/invoke/VarHandle" ∧ (parseMethodDescriptor yX10_monthLine.desc).map (fun d => d.parameters.length) = some 2 := by decide +kernel
theorem pdX10_dinnerLine : yX10_dinnerLine.cls ≠ "java/lang/invoke/MethodHandle" ∧ yX10_dinnerLine.cls ≠ "java/lang/invoke/VarHandle" ∧ (parseMethodDescriptor yX10_dinnerLine.desc).map (fun d => d.parameters.length) = some 2 := by decide +kernel
theorem pdX10_logLine : yX10_logLine.cls ≠ "java/lang/invoke/MethodHandle" ∧ yX10_logLine.cls ≠ "java/lang/invoke/VarHandle" ∧ (parseMethodDescriptor yX10_logLine.desc).map (fun d => d.parameters.length) = some 2 := by decide +kernel
theorem pdX10_lineOf : yX10_lineOf.cls ≠ "java/lang/invoke/MethodHandle" ∧ yX10_lineOf.cls ≠ "java/lang/invoke/VarHandle" ∧ (parseMethodDescriptor yX10_lineOf.desc).map (fun d => d.parameters.length) = some 3 := by decide +kernel
theorem pdX10_lines : yX10_lines.cls ≠ "java/lang/invoke/MethodHandle" ∧ yX10_lines.cls ≠ "java/lang/invoke/VarHandle" ∧ (parseMethodDescriptor yX10_lines.desc).map (fun d => d.parameters.length) = some 1 := by decide +kernel
theorem pdX10_readText : yX10_readText.cls ≠ "java/lang/invoke/MethodHandle" ∧ yX10_readText.cls ≠ "java/lang/invoke/VarHandle" ∧ (parseMethodDescriptor yX10_readText.desc).map (fun d => d.parameters.length) = some 1 := by decide +kernel
theorem pdX10_store : yX10_store.cls ≠ "java/lang/invoke/MethodHandle" ∧ yX10_store.cls ≠ "java/lang/invoke/VarHandle" ∧ (parseMethodDescriptor yX10_store.desc).map (fun d => d.parameters.length) = some 3 := by decide +kernel
theorem pdX10_storeAll : yX10_storeAll.cls ≠ "java/lang/invoke/MethodHandle" ∧ yX10_storeAll.cls ≠ "java/lang/invoke/VarHandle" ∧ (parseMethodDescriptor yX10_storeAll.desc).map (fun d => d.parameters.length) = some 2 := by decide +kernel
theorem pdX10_text : yX10_text.cls ≠ "java/lang/invoke/MethodHandle" ∧ yX10_text.cls ≠ "java/lang/invoke/VarHandle" ∧ (parseMethodDescriptor yX10_text.desc).map (fun d => d.parameters.length) = some 2 := by decide +kernel
theorem pdX10_fault : yX10_fault.cls ≠ "java/lang/invoke/MethodHandle" ∧ yX10_fault.cls ≠ "java/lang/invoke/VarHandle" ∧ (parseMethodDescriptor yX10_fault.desc).map (fun d => d.parameters.length) = some 1 := by decide +kernel
theorem pdX10_of : yX10_of.cls ≠ "java/lang/invoke/MethodHandle" ∧ yX10_of.cls ≠ "java/lang/invoke/VarHandle" ∧ (parseMethodDescriptor yX10_of.desc).map (fun d => d.parameters.length) = some 1 := by decide +kernel
theorem pdX10_hand : yX10_hand.cls ≠ "java/lang/invoke/MethodHandle" ∧ yX10_hand.cls ≠ "java/lang/invoke/VarHandle" ∧ (parseMethodDescriptor yX10_hand.desc).map (fun d => d.parameters.length) = some 1 := by decide +kernel
theorem pdX10_isPiece : yX10_isPiece.cls ≠ "java/lang/invoke/MethodHandle" ∧ yX10_isPiece.cls ≠ "java/lang/invoke/VarHandle" ∧ (parseMethodDescriptor yX10_isPiece.desc).map (fun d => d.parameters.length) = some 1 := by decide +kernel
theorem pdX10_isSecret : yX10_isSecret.cls ≠ "java/lang/invoke/MethodHandle" ∧ yX10_isSecret.cls ≠ "java/lang/invoke/VarHandle" ∧ (parseMethodDescriptor yX10_isSecret.desc).map (fun d => d.parameters.length) = some 1 := by decide +kernel
theorem pdX10_plain : yX10_plain.cls ≠ "java/lang/invoke/MethodHandle" ∧ yX10_plain.cls ≠ "java/lang/invoke/VarHandle" ∧ (parseMethodDescriptor yX10_plain.desc).map (fun d => d.parameters.length) = some 2 := by decide +kernel
theorem pdX10_worthNow : yX10_worthNow.cls ≠ "java/lang/invoke/MethodHandle" ∧ yX10_worthNow.cls ≠ "java/lang/invoke/VarHandle" ∧ (parseMethodDescriptor yX10_worthNow.desc).map (fun d => d.parameters.length) = some 2 := by decide +kernel
theorem pdX10_lastsFor : yX10_lastsFor.cls ≠ "java/lang/invoke/MethodHandle" ∧ yX10_lastsFor.cls ≠ "java/lang/invoke/VarHandle" ∧ (parseMethodDescriptor yX10_lastsFor.desc).map (fun d => d.parameters.length) = some 2 := by decide +kernel
theorem pdX10_wear : yX10_wear.cls ≠ "java/lang/invoke/MethodHandle" ∧ yX10_wear.cls ≠ "java/lang/invoke/VarHandle" ∧ (parseMethodDescriptor yX10_wear.desc).map (fun d => d.parameters.length) = some 1 := by decide +kernel
theorem pdX10_house : yX10_house.cls ≠ "java/lang/invoke/MethodHandle" ∧ yX10_house.cls ≠ "java/lang/invoke/VarHandle" ∧ (parseMethodDescriptor yX10_house.desc).map (fun d => d.parameters.length) = some 2 := by decide +kernel
theorem pdX10_worth : yX10_worth.cls ≠ "java/lang/invoke/MethodHandle" ∧ yX10_worth.cls ≠ "java/lang/invoke/VarHandle" ∧ (parseMethodDescriptor yX10_worth.desc).map (fun d => d.parameters.length) = some 3 := by decide +kernel
theorem pdX10_deeds : yX10_deeds.cls ≠ "java/lang/invoke/MethodHandle" ∧ yX10_deeds.cls ≠ "java/lang/invoke/VarHandle" ∧ (parseMethodDescriptor yX10_deeds.desc).map (fun d => d.parameters.length) = some 0 := by decide +kernel
theorem pdX10_deedOf : yX10_deedOf.cls ≠ "java/lang/invoke/MethodHandle" ∧ yX10_deedOf.cls ≠ "java/lang/invoke/VarHandle" ∧ (parseMethodDescriptor yX10_deedOf.desc).map (fun d => d.parameters.length) = some 2 := by decide +kernel
theorem pdX10_hasMonth : yX10_hasMonth.cls ≠ "java/lang/invoke/MethodHandle" ∧ yX10_hasMonth.cls ≠ "java/lang/invoke/VarHandle" ∧ (parseMethodDescriptor yX10_hasMonth.desc).map (fun d => d.parameters.length) = some 1 := by decide +kernel
theorem pdX10_deed : yX10_deed.cls ≠ "java/lang/invoke/MethodHandle" ∧ yX10_deed.cls ≠ "java/lang/invoke/VarHandle" ∧ (parseMethodDescriptor yX10_deed.desc).map (fun d => d.parameters.length) = some 3 := by decide +kernel
theorem pdX10_begin : yX10_begin.cls ≠ "java/lang/invoke/MethodHandle" ∧ yX10_begin.cls ≠ "java/lang/invoke/VarHandle" ∧ (parseMethodDescriptor yX10_begin.desc).map (fun d => d.parameters.length) = some 0 := by decide +kernel
theorem pdX10_isThere : yX10_isThere.cls ≠ "java/lang/invoke/MethodHandle" ∧ yX10_isThere.cls ≠ "java/lang/invoke/VarHandle" ∧ (parseMethodDescriptor yX10_isThere.desc).map (fun d => d.parameters.length) = some 1 := by decide +kernel
theorem pdX10_tells : yX10_tells.cls ≠ "java/lang/invoke/MethodHandle" ∧ yX10_tells.cls ≠ "java/lang/invoke/VarHandle" ∧ (parseMethodDescriptor yX10_tells.desc).map (fun d => d.parameters.length) = some 2 := by decide +kernel
theorem pdX10_tellsBoth : yX10_tellsBoth.cls ≠ "java/lang/invoke/MethodHandle" ∧ yX10_tellsBoth.cls ≠ "java/lang/invoke/VarHandle" ∧ (parseMethodDescriptor yX10_tellsBoth.desc).map (fun d => d.parameters.length) = some 3 := by decide +kernel
theorem pdX10_polishes : yX10_polishes.cls ≠ "java/lang/invoke/MethodHandle" ∧ yX10_polishes.cls ≠ "java/lang/invoke/VarHandle" ∧ (parseMethodDescriptor yX10_polishes.desc).map (fun d => d.parameters.length) = some 1 := by decide +kernel
theorem pdX10_goesOn : yX10_goesOn.cls ≠ "java/lang/invoke/MethodHandle" ∧ yX10_goesOn.cls ≠ "java/lang/invoke/VarHandle" ∧ (parseMethodDescriptor yX10_goesOn.desc).map (fun d => d.parameters.length) = some 0 := by decide +kernel
theorem pdX10_takes : yX10_takes.cls ≠ "java/lang/invoke/MethodHandle" ∧ yX10_takes.cls ≠ "java/lang/invoke/VarHandle" ∧ (parseMethodDescriptor yX10_takes.desc).map (fun d => d.parameters.length) = some 2 := by decide +kernel
theorem pdX10_does : yX10_does.cls ≠ "java/lang/invoke/MethodHandle" ∧ yX10_does.cls ≠ "java/lang/invoke/VarHandle" ∧ (parseMethodDescriptor yX10_does.desc).map (fun d => d.parameters.length) = some 4 := by decide +kernel
theorem pdX10_doesDeed : yX10_doesDeed.cls ≠ "java/lang/invoke/MethodHandle" ∧ yX10_doesDeed.cls ≠ "java/lang/invoke/VarHandle" ∧ (parseMethodDescriptor yX10_doesDeed.desc).map (fun d => d.parameters.length) = some 1 := by decide +kernel
theorem pdX10_play : yX10_play.cls ≠ "java/lang/invoke/MethodHandle" ∧ yX10_play.cls ≠ "java/lang/invoke/VarHandle" ∧ (parseMethodDescriptor yX10_play.desc).map (fun d => d.parameters.length) = some 1 := by decide +kernel
theorem pdX10_layAll : yX10_layAll.cls ≠ "java/lang/invoke/MethodHandle" ∧ yX10_layAll.cls ≠ "java/lang/invoke/VarHandle" ∧ (parseMethodDescriptor yX10_layAll.desc).map (fun d => d.parameters.length) = some 2 := by decide +kernel
theorem pdX10_till : yX10_till.cls ≠ "java/lang/invoke/MethodHandle" ∧ yX10_till.cls ≠ "java/lang/invoke/VarHandle" ∧ (parseMethodDescriptor yX10_till.desc).map (fun d => d.parameters.length) = some 2 := by decide +kernel
theorem pdX10_bright : yX10_bright.cls ≠ "java/lang/invoke/MethodHandle" ∧ yX10_bright.cls ≠ "java/lang/invoke/VarHandle" ∧ (parseMethodDescriptor yX10_bright.desc).map (fun d => d.parameters.length) = some 0 := by decide +kernel
theorem pdX10_isDusk : yX10_isDusk.cls ≠ "java/lang/invoke/MethodHandle" ∧ yX10_isDusk.cls ≠ "java/lang/invoke/VarHandle" ∧ (parseMethodDescriptor yX10_isDusk.desc).map (fun d => d.parameters.length) = some 0 := by decide +kernel
theorem pdX10_ofState : yX10_ofState.cls ≠ "java/lang/invoke/MethodHandle" ∧ yX10_ofState.cls ≠ "java/lang/invoke/VarHandle" ∧ (parseMethodDescriptor yX10_ofState.desc).map (fun d => d.parameters.length) = some 1 := by decide +kernel
theorem pdX10_state : yX10_state.cls ≠ "java/lang/invoke/MethodHandle" ∧ yX10_state.cls ≠ "java/lang/invoke/VarHandle" ∧ (parseMethodDescriptor yX10_state.desc).map (fun d => d.parameters.length) = some 4 := by decide +kernel
theorem pdX10_dinners : yX10_dinners.cls ≠ "java/lang/invoke/MethodHandle" ∧ yX10_dinners.cls ≠ "java/lang/invoke/VarHandle" ∧ (parseMethodDescriptor yX10_dinners.desc).map (fun d => d.parameters.length) = some 0 := by decide +kernel
theorem pdX10_dinnerOf : yX10_dinnerOf.cls ≠ "java/lang/invoke/MethodHandle" ∧ yX10_dinnerOf.cls ≠ "java/lang/invoke/VarHandle" ∧ (parseMethodDescriptor yX10_dinnerOf.desc).map (fun d => d.parameters.length) = some 2 := by decide +kernel
theorem pdX10_hasTable : yX10_hasTable.cls ≠ "java/lang/invoke/MethodHandle" ∧ yX10_hasTable.cls ≠ "java/lang/invoke/VarHandle" ∧ (parseMethodDescriptor yX10_hasTable.desc).map (fun d => d.parameters.length) = some 1 := by decide +kernel
theorem pdX10_dinner : yX10_dinner.cls ≠ "java/lang/invoke/MethodHandle" ∧ yX10_dinner.cls ≠ "java/lang/invoke/VarHandle" ∧ (parseMethodDescriptor yX10_dinner.desc).map (fun d => d.parameters.length) = some 3 := by decide +kernel
theorem pdX10_serves : yX10_serves.cls ≠ "java/lang/invoke/MethodHandle" ∧ yX10_serves.cls ≠ "java/lang/invoke/VarHandle" ∧ (parseMethodDescriptor yX10_serves.desc).map (fun d => d.parameters.length) = some 3 := by decide +kernel
theorem pdX10_findTellings : yX10_findTellings.cls ≠ "java/lang/invoke/MethodHandle" ∧ yX10_findTellings.cls ≠ "java/lang/invoke/VarHandle" ∧ (parseMethodDescriptor yX10_findTellings.desc).map (fun d => d.parameters.length) = some 0 := by decide +kernel
theorem pdX10_toldAhead : yX10_toldAhead.cls ≠ "java/lang/invoke/MethodHandle" ∧ yX10_toldAhead.cls ≠ "java/lang/invoke/VarHandle" ∧ (parseMethodDescriptor yX10_toldAhead.desc).map (fun d => d.parameters.length) = some 1 := by decide +kernel
theorem pdX10_served : yX10_served.cls ≠ "java/lang/invoke/MethodHandle" ∧ yX10_served.cls ≠ "java/lang/invoke/VarHandle" ∧ (parseMethodDescriptor yX10_served.desc).map (fun d => d.parameters.length) = some 3 := by decide +kernel
theorem pdX10_linkOf : yX10_linkOf.cls ≠ "java/lang/invoke/MethodHandle" ∧ yX10_linkOf.cls ≠ "java/lang/invoke/VarHandle" ∧ (parseMethodDescriptor yX10_linkOf.desc).map (fun d => d.parameters.length) = some 2 := by decide +kernel
theorem pdX10_makes : yX10_makes.cls ≠ "java/lang/invoke/MethodHandle" ∧ yX10_makes.cls ≠ "java/lang/invoke/VarHandle" ∧ (parseMethodDescriptor yX10_makes.desc).map (fun d => d.parameters.length) = some 2 := by decide +kernel
theorem pdX10_round : yX10_round.cls ≠ "java/lang/invoke/MethodHandle" ∧ yX10_round.cls ≠ "java/lang/invoke/VarHandle" ∧ (parseMethodDescriptor yX10_round.desc).map (fun d => d.parameters.length) = some 2 := by decide +kernel
theorem pdX10_comesOf : yX10_comesOf.cls ≠ "java/lang/invoke/MethodHandle" ∧ yX10_comesOf.cls ≠ "java/lang/invoke/VarHandle" ∧ (parseMethodDescriptor yX10_comesOf.desc).map (fun d => d.parameters.length) = some 2 := by decide +kernel
theorem pdX10_everything : yX10_everything.cls ≠ "java/lang/invoke/MethodHandle" ∧ yX10_everything.cls ≠ "java/lang/invoke/VarHandle" ∧ (parseMethodDescriptor yX10_everything.desc).map (fun d => d.parameters.length) = some 0 := by decide +kernel
theorem pdX10_weightOf : yX10_weightOf.cls ≠ "java/lang/invoke/MethodHandle" ∧ yX10_weightOf.cls ≠ "java/lang/invoke/VarHandle" ∧ (parseMethodDescriptor yX10_weightOf.desc).map (fun d => d.parameters.length) = some 1 := by decide +kernel
theorem pdX10_comes : yX10_comes.cls ≠ "java/lang/invoke/MethodHandle" ∧ yX10_comes.cls ≠ "java/lang/invoke/VarHandle" ∧ (parseMethodDescriptor yX10_comes.desc).map (fun d => d.parameters.length) = some 2 := by decide +kernel
theorem pdX10_keep_ : yX10_keep_.cls ≠ "java/lang/invoke/MethodHandle" ∧ yX10_keep_.cls ≠ "java/lang/invoke/VarHandle" ∧ (parseMethodDescriptor yX10_keep_.desc).map (fun d => d.parameters.length) = some 3 := by decide +kernel
theorem pdX10_findLoot : yX10_findLoot.cls ≠ "java/lang/invoke/MethodHandle" ∧ yX10_findLoot.cls ≠ "java/lang/invoke/VarHandle" ∧ (parseMethodDescriptor yX10_findLoot.desc).map (fun d => d.parameters.length) = some 0 := by decide +kernel
theorem pdX10_bestLoot : yX10_bestLoot.cls ≠ "java/lang/invoke/MethodHandle" ∧ yX10_bestLoot.cls ≠ "java/lang/invoke/VarHandle" ∧ (parseMethodDescriptor yX10_bestLoot.desc).map (fun d => d.parameters.length) = some 2 := by decide +kernel
theorem pdX10_theft : yX10_theft.cls ≠ "java/lang/invoke/MethodHandle" ∧ yX10_theft.cls ≠ "java/lang/invoke/VarHandle" ∧ (parseMethodDescriptor yX10_theft.desc).map (fun d => d.parameters.length) = some 3 := by decide +kernel
theorem pdX10_fill : yX10_fill.cls ≠ "java/lang/invoke/MethodHandle" ∧ yX10_fill.cls ≠ "java/lang/invoke/VarHandle" ∧ (parseMethodDescriptor yX10_fill.desc).map (fun d => d.parameters.length) = some 2 := by decide +kernel
theorem pdX10_fewest : yX10_fewest.cls ≠ "java/lang/invoke/MethodHandle" ∧ yX10_fewest.cls ≠ "java/lang/invoke/VarHandle" ∧ (parseMethodDescriptor yX10_fewest.desc).map (fun d => d.parameters.length) = some 1 := by decide +kernel
theorem pdX10_evenings : yX10_evenings.cls ≠ "java/lang/invoke/MethodHandle" ∧ yX10_evenings.cls ≠ "java/lang/invoke/VarHandle" ∧ (parseMethodDescriptor yX10_evenings.desc).map (fun d => d.parameters.length) = some 2 := by decide +kernel
theorem pdX10_common : yX10_common.cls ≠ "java/lang/invoke/MethodHandle" ∧ yX10_common.cls ≠ "java/lang/invoke/VarHandle" ∧ (parseMethodDescriptor yX10_common.desc).map (fun d => d.parameters.length) = some 2 := by decide +kernel
theorem pdX10_part : yX10_part.cls ≠ "java/lang/invoke/MethodHandle" ∧ yX10_part.cls ≠ "java/lang/invoke/VarHandle" ∧ (parseMethodDescriptor yX10_part.desc).map (fun d => d.parameters.length) = some 3 := by decide +kernel
theorem pdX10_hidden : yX10_hidden.cls ≠ "java/lang/invoke/MethodHandle" ∧ yX10_hidden.cls ≠ "java/lang/invoke/VarHandle" ∧ (parseMethodDescriptor yX10_hidden.desc).map (fun d => d.parameters.length) = some 4 := by decide +kernel
theorem pdX10_heirs : yX10_heirs.cls ≠ "java/lang/invoke/MethodHandle" ∧ yX10_heirs.cls ≠ "java/lang/invoke/VarHandle" ∧ (parseMethodDescriptor yX10_heirs.desc).map (fun d => d.parameters.length) = some 2 := by decide +kernel
theorem pdX10_factOf : yX10_factOf.cls ≠ "java/lang/invoke/MethodHandle" ∧ yX10_factOf.cls ≠ "java/lang/invoke/VarHandle" ∧ (parseMethodDescriptor yX10_factOf.desc).map (fun d => d.parameters.length) = some 2 := by decide +kernel
theorem pdX10_hasLog : yX10_hasLog.cls ≠ "java/lang/invoke/MethodHandle" ∧ yX10_hasLog.cls ≠ "java/lang/invoke/VarHandle" ∧ (parseMethodDescriptor yX10_hasLog.desc).map (fun d => d.parameters.length) = some 1 := by decide +kernel
theorem pdX10_fact : yX10_fact.cls ≠ "java/lang/invoke/MethodHandle" ∧ yX10_fact.cls ≠ "java/lang/invoke/VarHandle" ∧ (parseMethodDescriptor yX10_fact.desc).map (fun d => d.parameters.length) = some 3 := by decide +kernel
theorem pdX10_shinesBy : yX10_shinesBy.cls ≠ "java/lang/invoke/MethodHandle" ∧ yX10_shinesBy.cls ≠ "java/lang/invoke/VarHandle" ∧ (parseMethodDescriptor yX10_shinesBy.desc).map (fun d => d.parameters.length) = some 2 := by decide +kernel
theorem pdX10_layLog : yX10_layLog.cls ≠ "java/lang/invoke/MethodHandle" ∧ yX10_layLog.cls ≠ "java/lang/invoke/VarHandle" ∧ (parseMethodDescriptor yX10_layLog.desc).map (fun d => d.parameters.length) = some 2 := by decide +kernel
theorem pdX10_sureOf : yX10_sureOf.cls ≠ "java/lang/invoke/MethodHandle" ∧ yX10_sureOf.cls ≠ "java/lang/invoke/VarHandle" ∧ (parseMethodDescriptor yX10_sureOf.desc).map (fun d => d.parameters.length) = some 1 := by decide +kernel
theorem pdX10_which : yX10_which.cls ≠ "java/lang/invoke/MethodHandle" ∧ yX10_which.cls ≠ "java/lang/invoke/VarHandle" ∧ (parseMethodDescriptor yX10_which.desc).map (fun d => d.parameters.length) = some 0 := by decide +kernel
theorem pdX10_ask : yX10_ask.cls ≠ "java/lang/invoke/MethodHandle" ∧ yX10_ask.cls ≠ "java/lang/invoke/VarHandle" ∧ (parseMethodDescriptor yX10_ask.desc).map (fun d => d.parameters.length) = some 0 := by decide +kernel
theorem pdX10_fits : yX10_fits.cls ≠ "java/lang/invoke/MethodHandle" ∧ yX10_fits.cls ≠ "java/lang/invoke/VarHandle" ∧ (parseMethodDescriptor yX10_fits.desc).map (fun d => d.parameters.length) = some 3 := by decide +kernel
theorem pdX10_draw : yX10_draw.cls ≠ "java/lang/invoke/MethodHandle" ∧ yX10_draw.cls ≠ "java/lang/invoke/VarHandle" ∧ (parseMethodDescriptor yX10_draw.desc).map (fun d => d.parameters.length) = some 1 := by decide +kernel
theorem pdX10_drawDeed : yX10_drawDeed.cls ≠ "java/lang/invoke/MethodHandle" ∧ yX10_drawDeed.cls ≠ "java/lang/invoke/VarHandle" ∧ (parseMethodDescriptor yX10_drawDeed.desc).map (fun d => d.parameters.length) = some 0 := by decide +kernel
theorem pdX10_drawn : yX10_drawn.cls ≠ "java/lang/invoke/MethodHandle" ∧ yX10_drawn.cls ≠ "java/lang/invoke/VarHandle" ∧ (parseMethodDescriptor yX10_drawn.desc).map (fun d => d.parameters.length) = some 4 := by decide +kernel
theorem pdX10_lasting : yX10_lasting.cls ≠ "java/lang/invoke/MethodHandle" ∧ yX10_lasting.cls ≠ "java/lang/invoke/VarHandle" ∧ (parseMethodDescriptor yX10_lasting.desc).map (fun d => d.parameters.length) = some 4 := by decide +kernel
theorem pdX10_lit : yX10_lit.cls ≠ "java/lang/invoke/MethodHandle" ∧ yX10_lit.cls ≠ "java/lang/invoke/VarHandle" ∧ (parseMethodDescriptor yX10_lit.desc).map (fun d => d.parameters.length) = some 2 := by decide +kernel
theorem pdX10_dusky : yX10_dusky.cls ≠ "java/lang/invoke/MethodHandle" ∧ yX10_dusky.cls ≠ "java/lang/invoke/VarHandle" ∧ (parseMethodDescriptor yX10_dusky.desc).map (fun d => d.parameters.length) = some 3 := by decide +kernel
theorem pdX10_allWorth : yX10_allWorth.cls ≠ "java/lang/invoke/MethodHandle" ∧ yX10_allWorth.cls ≠ "java/lang/invoke/VarHandle" ∧ (parseMethodDescriptor yX10_allWorth.desc).map (fun d => d.parameters.length) = some 2 := by decide +kernel
theorem pdX10_fitter : yX10_fitter.cls ≠ "java/lang/invoke/MethodHandle" ∧ yX10_fitter.cls ≠ "java/lang/invoke/VarHandle" ∧ (parseMethodDescriptor yX10_fitter.desc).map (fun d => d.parameters.length) = some 2 := by decide +kernel
theorem pdX10_unlike : yX10_unlike.cls ≠ "java/lang/invoke/MethodHandle" ∧ yX10_unlike.cls ≠ "java/lang/invoke/VarHandle" ∧ (parseMethodDescriptor yX10_unlike.desc).map (fun d => d.parameters.length) = some 2 := by decide +kernel
theorem pdX10_spread : yX10_spread.cls ≠ "java/lang/invoke/MethodHandle" ∧ yX10_spread.cls ≠ "java/lang/invoke/VarHandle" ∧ (parseMethodDescriptor yX10_spread.desc).map (fun d => d.parameters.length) = some 2 := by decide +kernel
theorem pdX10_depth : yX10_depth.cls ≠ "java/lang/invoke/MethodHandle" ∧ yX10_depth.cls ≠ "java/lang/invoke/VarHandle" ∧ (parseMethodDescriptor yX10_depth.desc).map (fun d => d.parameters.length) = some 3 := by decide +kernel
theorem pdX10_spare : yX10_spare.cls ≠ "java/lang/invoke/MethodHandle" ∧ yX10_spare.cls ≠ "java/lang/invoke/VarHandle" ∧ (parseMethodDescriptor yX10_spare.desc).map (fun d => d.parameters.length) = some 1 := by decide +kernel
theorem pdX10_guarded : yX10_guarded.cls ≠ "java/lang/invoke/MethodHandle" ∧ yX10_guarded.cls ≠ "java/lang/invoke/VarHandle" ∧ (parseMethodDescriptor yX10_guarded.desc).map (fun d => d.parameters.length) = some 4 := by decide +kernel
theorem pdX10_evening : yX10_evening.cls ≠ "java/lang/invoke/MethodHandle" ∧ yX10_evening.cls ≠ "java/lang/invoke/VarHandle" ∧ (parseMethodDescriptor yX10_evening.desc).map (fun d => d.parameters.length) = some 3 := by decide +kernel
theorem pdX10_leaks : yX10_leaks.cls ≠ "java/lang/invoke/MethodHandle" ∧ yX10_leaks.cls ≠ "java/lang/invoke/VarHandle" ∧ (parseMethodDescriptor yX10_leaks.desc).map (fun d => d.parameters.length) = some 3 := by decide +kernel
theorem pdX10_cut : yX10_cut.cls ≠ "java/lang/invoke/MethodHandle" ∧ yX10_cut.cls ≠ "java/lang/invoke/VarHandle" ∧ (parseMethodDescriptor yX10_cut.desc).map (fun d => d.parameters.length) = some 3 := by decide +kernel
theorem pdX10_after : yX10_after.cls ≠ "java/lang/invoke/MethodHandle" ∧ yX10_after.cls ≠ "java/lang/invoke/VarHandle" ∧ (parseMethodDescriptor yX10_after.desc).map (fun d => d.parameters.length) = some 3 := by decide +kernel
theorem pdX10_would : yX10_would.cls ≠ "java/lang/invoke/MethodHandle" ∧ yX10_would.cls ≠ "java/lang/invoke/VarHandle" ∧ (parseMethodDescriptor yX10_would.desc).map (fun d => d.parameters.length) = some 4 := by decide +kernel
theorem pdX10_count : yX10_count.cls ≠ "java/lang/invoke/MethodHandle" ∧ yX10_count.cls ≠ "java/lang/invoke/VarHandle" ∧ (parseMethodDescriptor yX10_count.desc).map (fun d => d.parameters.length) = some 1 := by decide +kernel
theorem pdX10_image : yX10_image.cls ≠ "java/lang/invoke/MethodHandle" ∧ yX10_image.cls ≠ "java/lang/invoke/VarHandle" ∧ (parseMethodDescriptor yX10_image.desc).map (fun d => d.parameters.length) = some 1 := by decide +kernel
theorem pdX10_again : yX10_again.cls ≠ "java/lang/invoke/MethodHandle" ∧ yX10_again.cls ≠ "java/lang/invoke/VarHandle" ∧ (parseMethodDescriptor yX10_again.desc).map (fun d => d.parameters.length) = some 1 := by decide +kernel
theorem pdJ6_bitCount_0f7a4 : yJ6_bitCount_0f7a4.cls ≠ "java/lang/invoke/MethodHandle" ∧ yJ6_bitCount_0f7a4.cls ≠ "java/lang/invoke/VarHandle" ∧ (parseMethodDescriptor yJ6_bitCount_0f7a4.desc).map (fun d => d.parameters.length) = some 1 := by decide +kernel
theorem pdJ9_abs_0f7a4 : yJ9_abs_0f7a4.cls ≠ "java/lang/invoke/MethodHandle" ∧ yJ9_abs_0f7a4.cls ≠ "java/lang/invoke/VarHandle" ∧ (parseMethodDescriptor yJ9_abs_0f7a4.desc).map (fun d => d.parameters.length) = some 1 := by decide +kernel
theorem pdJ9_max_7cf53 : yJ9_max_7cf53.cls ≠ "java/lang/invoke/MethodHandle" ∧ yJ9_max_7cf53.cls ≠ "java/lang/invoke/VarHandle" ∧ (parseMethodDescriptor yJ9_max_7cf53.desc).map (fun d => d.parameters.length) = some 2 := by decide +kernel
theorem pdJ9_min_7cf53 : yJ9_min_7cf53.cls ≠ "java/lang/invoke/MethodHandle" ∧ yJ9_min_7cf53.cls ≠ "java/lang/invoke/VarHandle" ∧ (parseMethodDescriptor yJ9_min_7cf53.desc).map (fun d => d.parameters.length) = some 2 := by decide +kernel
theorem pdJ0_length_8abf5 : yJ0_length_8abf5.cls ≠ "java/lang/invoke/MethodHandle" ∧ yJ0_length_8abf5.cls ≠ "java/lang/invoke/VarHandle" ∧ (parseMethodDescriptor yJ0_length_8abf5.desc).map (fun d => d.parameters.length) = some 0 := by decide +kernel
theorem pdJ0_charAt_5068e : yJ0_charAt_5068e.cls ≠ "java/lang/invoke/MethodHandle" ∧ yJ0_charAt_5068e.cls ≠ "java/lang/invoke/VarHandle" ∧ (parseMethodDescriptor yJ0_charAt_5068e.desc).map (fun d => d.parameters.length) = some 1 := by decide +kernel
theorem pdJ0_coder_7d493 : yJ0_coder_7d493.cls ≠ "java/lang/invoke/MethodHandle" ∧ yJ0_coder_7d493.cls ≠ "java/lang/invoke/VarHandle" ∧ (parseMethodDescriptor yJ0_coder_7d493.desc).map (fun d => d.parameters.length) = some 0 := by decide +kernel
theorem pdJ0_isLatin1_aae02 : yJ0_isLatin1_aae02.cls ≠ "java/lang/invoke/MethodHandle" ∧ yJ0_isLatin1_aae02.cls ≠ "java/lang/invoke/VarHandle" ∧ (parseMethodDescriptor yJ0_isLatin1_aae02.desc).map (fun d => d.parameters.length) = some 0 := by decide +kernel
theorem pdJ0_checkIndex_df160 : yJ0_checkIndex_df160.cls ≠ "java/lang/invoke/MethodHandle" ∧ yJ0_checkIndex_df160.cls ≠ "java/lang/invoke/VarHandle" ∧ (parseMethodDescriptor yJ0_checkIndex_df160.desc).map (fun d => d.parameters.length) = some 2 := by decide +kernel
theorem pdJ1_charAt_3b067 : yJ1_charAt_3b067.cls ≠ "java/lang/invoke/MethodHandle" ∧ yJ1_charAt_3b067.cls ≠ "java/lang/invoke/VarHandle" ∧ (parseMethodDescriptor yJ1_charAt_3b067.desc).map (fun d => d.parameters.length) = some 2 := by decide +kernel
theorem pdJ2_getChar_3b067 : yJ2_getChar_3b067.cls ≠ "java/lang/invoke/MethodHandle" ∧ yJ2_getChar_3b067.cls ≠ "java/lang/invoke/VarHandle" ∧ (parseMethodDescriptor yJ2_getChar_3b067.desc).map (fun d => d.parameters.length) = some 2 := by decide +kernel
theorem pdJ2_length_9d52b : yJ2_length_9d52b.cls ≠ "java/lang/invoke/MethodHandle" ∧ yJ2_length_9d52b.cls ≠ "java/lang/invoke/VarHandle" ∧ (parseMethodDescriptor yJ2_length_9d52b.desc).map (fun d => d.parameters.length) = some 1 := by decide +kernel
theorem pdJ2_charAt_3b067 : yJ2_charAt_3b067.cls ≠ "java/lang/invoke/MethodHandle" ∧ yJ2_charAt_3b067.cls ≠ "java/lang/invoke/VarHandle" ∧ (parseMethodDescriptor yJ2_charAt_3b067.desc).map (fun d => d.parameters.length) = some 2 := by decide +kernel
theorem pdJ2_checkIndex_2214a : yJ2_checkIndex_2214a.cls ≠ "java/lang/invoke/MethodHandle" ∧ yJ2_checkIndex_2214a.cls ≠ "java/lang/invoke/VarHandle" ∧ (parseMethodDescriptor yJ2_checkIndex_2214a.desc).map (fun d => d.parameters.length) = some 2 := by decide +kernel
theorem pdJ7_fill_53178 : yJ7_fill_53178.cls ≠ "java/lang/invoke/MethodHandle" ∧ yJ7_fill_53178.cls ≠ "java/lang/invoke/VarHandle" ∧ (parseMethodDescriptor yJ7_fill_53178.desc).map (fun d => d.parameters.length) = some 2 := by decide +kernel
theorem pdJ3_checkIndex_8e157 : yJ3_checkIndex_8e157.cls ≠ "java/lang/invoke/MethodHandle" ∧ yJ3_checkIndex_8e157.cls ≠ "java/lang/invoke/VarHandle" ∧ (parseMethodDescriptor yJ3_checkIndex_8e157.desc).map (fun d => d.parameters.length) = some 3 := by decide +kernel
