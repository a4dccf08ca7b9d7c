set_option maxRecDepth 100000 in
theorem ok_X3_contentStart : ax_mok ax_mt pt_X3_contentStart pr_X3_contentStart = true := by decide +kernel
set_option maxRecDepth 100000 in
theorem ok_X3_contentLength : ax_mok ax_mt pt_X3_contentLength pr_X3_contentLength = true := by decide +kernel
set_option maxRecDepth 100000 in
theorem ok_X4_init : ax_mok ax_mt pt_X4_init pr_X4_init = true := by decide +kernel
set_option maxRecDepth 100000 in
theorem ok_X4_clear : ax_mok ax_mt pt_X4_clear pr_X4_clear = true := by decide +kernel
set_option maxRecDepth 100000 in
theorem ok_X4_find : ax_mok ax_mt pt_X4_find pr_X4_find = true := by decide +kernel
set_option maxRecDepth 100000 in
theorem ok_X4_findName : ax_mok ax_mt pt_X4_findName pr_X4_findName = true := by decide +kernel
set_option maxRecDepth 100000 in
theorem ok_X4_changeSize : ax_mok ax_mt pt_X4_changeSize pr_X4_changeSize = true := by decide +kernel
set_option maxRecDepth 100000 in
theorem ok_X4_insert : ax_mok ax_mt pt_X4_insert pr_X4_insert = true := by decide +kernel
set_option maxRecDepth 100000 in
theorem ok_X4_dropOldest : ax_mok ax_mt pt_X4_dropOldest pr_X4_dropOldest = true := by decide +kernel
set_option maxRecDepth 100000 in
theorem ok_X5_init : ax_mok ax_mt pt_X5_init pr_X5_init = true := by decide +kernel
set_option maxRecDepth 100000 in
theorem ok_X5_clear : ax_mok ax_mt pt_X5_clear pr_X5_clear = true := by decide +kernel
set_option maxRecDepth 100000 in
theorem ok_X5_count : ax_mok ax_mt pt_X5_count pr_X5_count = true := by decide +kernel
set_option maxRecDepth 100000 in
theorem ok_X5_byteAt : ax_mok ax_mt pt_X5_byteAt pr_X5_byteAt = true := by decide +kernel
set_option maxRecDepth 100000 in
theorem ok_X5_add : ax_mok ax_mt pt_X5_add pr_X5_add = true := by decide +kernel
set_option maxRecDepth 100000 in
theorem ok_X5_addHead : ax_mok ax_mt pt_X5_addHead pr_X5_addHead = true := by decide +kernel
set_option maxRecDepth 100000 in
theorem ok_X5_drop : ax_mok ax_mt pt_X5_drop pr_X5_drop = true := by decide +kernel
set_option maxRecDepth 100000 in
theorem ok_X6_init : ax_mok ax_mt pt_X6_init pr_X6_init = true := by decide +kernel
set_option maxRecDepth 100000 in
theorem ok_X7_init : ax_mok ax_mt pt_X7_init pr_X7_init = true := by decide +kernel
set_option maxRecDepth 100000 in
theorem ok_X7_readFrom : ax_mok ax_mt pt_X7_readFrom pr_X7_readFrom = true := by decide +kernel
set_option maxRecDepth 100000 in
theorem ok_X7_acceptsColon : ax_mok ax_mt pt_X7_acceptsColon pr_X7_acceptsColon = true := by decide +kernel
set_option maxRecDepth 100000 in
theorem ok_X7_acceptsOther : ax_mok ax_mt pt_X7_acceptsOther pr_X7_acceptsOther = true := by decide +kernel
set_option maxRecDepth 100000 in
theorem ok_X8_init : ax_mok ax_mt pt_X8_init pr_X8_init = true := by decide +kernel
set_option maxRecDepth 100000 in
theorem ok_X8_isPath : ax_mok ax_mt pt_X8_isPath pr_X8_isPath = true := by decide +kernel
set_option maxRecDepth 100000 in
theorem ok_X8_countLetters : ax_mok ax_mt pt_X8_countLetters pr_X8_countLetters = true := by decide +kernel
set_option maxRecDepth 100000 in
theorem ok_X8_pathText : ax_mok ax_mt pt_X8_pathText pr_X8_pathText = true := by decide +kernel
set_option maxRecDepth 100000 in
theorem ok_X8_appendLetters : ax_mok ax_mt pt_X8_appendLetters pr_X8_appendLetters = true := by decide +kernel
set_option maxRecDepth 100000 in
theorem ok_X8_find : ax_mok ax_mt pt_X8_find pr_X8_find = true := by decide +kernel
set_option maxRecDepth 100000 in
theorem ok_X8_isFull : ax_mok ax_mt pt_X8_isFull pr_X8_isFull = true := by decide +kernel
set_option maxRecDepth 100000 in
theorem ok_X8_add : ax_mok ax_mt pt_X8_add pr_X8_add = true := by decide +kernel
set_option maxRecDepth 100000 in
theorem ok_X9_init : ax_mok ax_mt pt_X9_init pr_X9_init = true := by decide +kernel
set_option maxRecDepth 100000 in
theorem ok_X9_open : ax_mok ax_mt pt_X9_open pr_X9_open = true := by decide +kernel
set_option maxRecDepth 100000 in
theorem ok_X9_canSend : ax_mok ax_mt pt_X9_canSend pr_X9_canSend = true := by decide +kernel
set_option maxRecDepth 100000 in
theorem ok_X9_hasWrongLength : ax_mok ax_mt pt_X9_hasWrongLength pr_X9_hasWrongLength = true := by decide +kernel
set_option maxRecDepth 100000 in
theorem ok_X10_init : ax_mok ax_mt pt_X10_init pr_X10_init = true := by decide +kernel
set_option maxRecDepth 100000 in
theorem ok_X10_clear : ax_mok ax_mt pt_X10_clear pr_X10_clear = true := by decide +kernel
set_option maxRecDepth 100000 in
theorem ok_X10_isIdle : ax_mok ax_mt pt_X10_isIdle pr_X10_isIdle = true := by decide +kernel
set_option maxRecDepth 100000 in
theorem ok_X10_find : ax_mok ax_mt pt_X10_find pr_X10_find = true := by decide +kernel
set_option maxRecDepth 100000 in
theorem ok_X10_countOpen : ax_mok ax_mt pt_X10_countOpen pr_X10_countOpen = true := by decide +kernel
set_option maxRecDepth 100000 in
theorem ok_X10_open : ax_mok ax_mt pt_X10_open pr_X10_open = true := by decide +kernel
set_option maxRecDepth 100000 in
theorem ok_X10_close : ax_mok ax_mt pt_X10_close pr_X10_close = true := by decide +kernel
set_option maxRecDepth 100000 in
theorem ok_X10_isFull : ax_mok ax_mt pt_X10_isFull pr_X10_isFull = true := by decide +kernel
set_option maxRecDepth 100000 in
theorem ok_X10_changeFirstWindow : ax_mok ax_mt pt_X10_changeFirstWindow pr_X10_changeFirstWindow = true := by decide +kernel
set_option maxRecDepth 100000 in
theorem ok_X10_nextToSend : ax_mok ax_mt pt_X10_nextToSend pr_X10_nextToSend = true := by decide +kernel
set_option maxRecDepth 100000 in
theorem ok_X10_leastToSend : ax_mok ax_mt pt_X10_leastToSend pr_X10_leastToSend = true := by decide +kernel
set_option maxRecDepth 100000 in
theorem ok_X11_init : ax_mok ax_mt pt_X11_init pr_X11_init = true := by decide +kernel
set_option maxRecDepth 100000 in
theorem ok_X11_page : ax_mok ax_mt pt_X11_page pr_X11_page = true := by decide +kernel
set_option maxRecDepth 100000 in
theorem ok_X11_feed : ax_mok ax_mt pt_X11_feed pr_X11_feed = true := by decide +kernel
set_option maxRecDepth 100000 in
theorem ok_X11_restart : ax_mok ax_mt pt_X11_restart pr_X11_restart = true := by decide +kernel
set_option maxRecDepth 100000 in
theorem ok_X11_waiting : ax_mok ax_mt pt_X11_waiting pr_X11_waiting = true := by decide +kernel
set_option maxRecDepth 100000 in
theorem ok_X11_out : ax_mok ax_mt pt_X11_out pr_X11_out = true := by decide +kernel
set_option maxRecDepth 100000 in
theorem ok_X11_take : ax_mok ax_mt pt_X11_take pr_X11_take = true := by decide +kernel
set_option maxRecDepth 100000 in
theorem ok_X11_away : ax_mok ax_mt pt_X11_away pr_X11_away = true := by decide +kernel
set_option maxRecDepth 100000 in
theorem ok_X11_about : ax_mok ax_mt pt_X11_about pr_X11_about = true := by decide +kernel
set_option maxRecDepth 100000 in
theorem ok_X11_stream : ax_mok ax_mt pt_X11_stream pr_X11_stream = true := by decide +kernel
set_option maxRecDepth 100000 in
theorem ok_X11_entry : ax_mok ax_mt pt_X11_entry pr_X11_entry = true := by decide +kernel
