theorem gLup {ws : List Cond} (g : GoodIn wsL_law ws) : GoodIn lw_tbl ws := fun w h => ⟨wsL_law_in w (g w h).1, (g w h).2⟩
set_option maxRecDepth 100000 in
theorem gL_law_Y_open : GoodIn lw_tbl (wsV RL 17 RX1 yY_open wsY_open) := goodIn_p _ [239] (by decide +kernel) (by decide +kernel)
set_option maxRecDepth 100000 in
theorem gL_law_Y_insert : GoodIn lw_tbl (wsV RL 24 RX1 yY_insert wsY_insert) := goodIn_p _ [244, 248, 252, 256] (by decide +kernel) (by decide +kernel)
set_option maxRecDepth 100000 in
theorem gL_law_Y_first : GoodIn lw_tbl (wsV RL 29 RX1 yY_first wsY_first) := goodIn_p _ [262, 248, 266, 256] (by decide +kernel) (by decide +kernel)
set_option maxRecDepth 100000 in
theorem gL_law_Y_last : GoodIn lw_tbl (wsV RL 33 RX1 yY_last wsY_last) := goodIn_p _ [270, 248, 266, 256] (by decide +kernel) (by decide +kernel)
set_option maxRecDepth 100000 in
theorem gL_law_Y_take : GoodIn lw_tbl (wsV RL 37 RX1 yY_take wsY_take) := goodIn_p _ [274, 262, 248, 266, 256, 279] (by decide +kernel) (by decide +kernel)
set_option maxRecDepth 100000 in
theorem gL_law_Y_takeLast : GoodIn lw_tbl (wsV RL 41 RX1 yY_takeLast wsY_takeLast) := goodIn_p _ [283, 270, 248, 266, 256] (by decide +kernel) (by decide +kernel)
set_option maxRecDepth 100000 in
theorem gL_law_Y_decrease : GoodIn lw_tbl (wsV RL 46 RX1 yY_decrease wsY_decrease) := goodIn_p _ [288, 292, 256, 252, 296] (by decide +kernel) (by decide +kernel)
set_option maxRecDepth 100000 in
theorem gL_law_Y_delete : GoodIn lw_tbl (wsV RL 50 RX1 yY_delete wsY_delete) := goodIn_p _ [300, 292] (by decide +kernel) (by decide +kernel)
set_option maxRecDepth 100000 in
theorem gL_law_Y_meld : GoodIn lw_tbl (wsV RL 54 RX1 yY_meld wsY_meld) := goodIn_p _ [304, 308, 248, 312] (by decide +kernel) (by decide +kernel)
set_option maxRecDepth 100000 in
theorem gL_law_Y_drain : GoodIn lw_tbl (wsV RL 59 RX1 yY_drain wsY_drain) := goodIn_p _ [316, 308, 248, 266, 256, 252, 279] (by decide +kernel) (by decide +kernel)
set_option maxRecDepth 100000 in
theorem gL_law_Y_clear : GoodIn lw_tbl (wsV RL 63 RX1 yY_clear wsY_clear) := goodIn_p _ [320, 248, 312] (by decide +kernel) (by decide +kernel)
set_option maxRecDepth 100000 in
theorem gL_law_Y_size : GoodIn lw_tbl (wsV RL 67 RX1 yY_size wsY_size) := goodIn_p _ [324, 248, 312] (by decide +kernel) (by decide +kernel)
set_option maxRecDepth 100000 in
theorem gL_law_Y_floor : GoodIn lw_tbl (wsV RL 72 RX1 yY_floor wsY_floor) := goodIn_p _ [328, 248] (by decide +kernel) (by decide +kernel)
set_option maxRecDepth 100000 in
theorem gL_law_Y_key : GoodIn lw_tbl (wsV RL 76 RX1 yY_key wsY_key) := goodIn_p _ [332, 292] (by decide +kernel) (by decide +kernel)
set_option maxRecDepth 100000 in
theorem gL_law_Y_value : GoodIn lw_tbl (wsV RL 80 RX1 yY_value wsY_value) := goodIn_p _ [336, 292] (by decide +kernel) (by decide +kernel)
set_option maxRecDepth 100000 in
theorem gL_law_Y_owner : GoodIn lw_tbl (wsV RL 84 RX1 yY_owner wsY_owner) := goodIn_p _ [340, 292] (by decide +kernel) (by decide +kernel)
set_option maxRecDepth 100000 in
theorem gL_law_Y_before : GoodIn lw_tbl (wsV RL 88 RX1 yY_before wsY_before) := goodIn_p _ [344, 292, 296, 256] (by decide +kernel) (by decide +kernel)
set_option maxRecDepth 100000 in
theorem gL_law_Y_init : GoodIn lw_tbl wsY_init := goodIn_p _ [206, 34] (by decide +kernel) (by decide +kernel)
