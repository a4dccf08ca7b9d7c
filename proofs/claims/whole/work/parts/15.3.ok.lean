set_option maxRecDepth 100000 in
theorem ok_X12_init : ax_mok ax_mt pt_X12_init pr_X12_init = true := by decide +kernel
set_option maxRecDepth 100000 in
theorem ok_X12_fixed : ax_mok ax_mt pt_X12_fixed pr_X12_fixed = true := by decide +kernel
set_option maxRecDepth 100000 in
theorem ok_X12_thrown : ax_mok ax_mt pt_X12_thrown pr_X12_thrown = true := by decide +kernel
set_option maxRecDepth 100000 in
theorem ok_X12_refuse : ax_mok ax_mt pt_X12_refuse pr_X12_refuse = true := by decide +kernel
set_option maxRecDepth 100000 in
theorem ok_X12_outside : ax_mok ax_mt pt_X12_outside pr_X12_outside = true := by decide +kernel
set_option maxRecDepth 100000 in
theorem ok_X12_begin : ax_mok ax_mt pt_X12_begin pr_X12_begin = true := by decide +kernel
set_option maxRecDepth 100000 in
theorem ok_X12_byteOf : ax_mok ax_mt pt_X12_byteOf pr_X12_byteOf = true := by decide +kernel
set_option maxRecDepth 100000 in
theorem ok_X12_isLetter : ax_mok ax_mt pt_X12_isLetter pr_X12_isLetter = true := by decide +kernel
set_option maxRecDepth 100000 in
theorem ok_X12_isText : ax_mok ax_mt pt_X12_isText pr_X12_isText = true := by decide +kernel
set_option maxRecDepth 100000 in
theorem ok_X12_letters : ax_mok ax_mt pt_X12_letters pr_X12_letters = true := by decide +kernel
set_option maxRecDepth 100000 in
theorem ok_X12_pageOf : ax_mok ax_mt pt_X12_pageOf pr_X12_pageOf = true := by decide +kernel
set_option maxRecDepth 100000 in
theorem ok_X12_lay : ax_mok ax_mt pt_X12_lay pr_X12_lay = true := by decide +kernel
set_option maxRecDepth 100000 in
theorem ok_X12_page : ax_mok ax_mt pt_X12_page pr_X12_page = true := by decide +kernel
set_option maxRecDepth 100000 in
theorem ok_X12_say : ax_mok ax_mt pt_X12_say pr_X12_say = true := by decide +kernel
set_option maxRecDepth 100000 in
theorem ok_X12_head : ax_mok ax_mt pt_X12_head pr_X12_head = true := by decide +kernel
set_option maxRecDepth 100000 in
theorem ok_X12_credit : ax_mok ax_mt pt_X12_credit pr_X12_credit = true := by decide +kernel
set_option maxRecDepth 100000 in
theorem ok_X12_slotOf : ax_mok ax_mt pt_X12_slotOf pr_X12_slotOf = true := by decide +kernel
set_option maxRecDepth 100000 in
theorem ok_X12_open : ax_mok ax_mt pt_X12_open pr_X12_open = true := by decide +kernel
set_option maxRecDepth 100000 in
theorem ok_X12_end : ax_mok ax_mt pt_X12_end pr_X12_end = true := by decide +kernel
set_option maxRecDepth 100000 in
theorem ok_X12_idle : ax_mok ax_mt pt_X12_idle pr_X12_idle = true := by decide +kernel
set_option maxRecDepth 100000 in
theorem ok_X12_has : ax_mok ax_mt pt_X12_has pr_X12_has = true := by decide +kernel
set_option maxRecDepth 100000 in
theorem ok_X12_takes : ax_mok ax_mt pt_X12_takes pr_X12_takes = true := by decide +kernel
set_option maxRecDepth 100000 in
theorem ok_X12_taken : ax_mok ax_mt pt_X12_taken pr_X12_taken = true := by decide +kernel
set_option maxRecDepth 100000 in
theorem ok_X12_evict : ax_mok ax_mt pt_X12_evict pr_X12_evict = true := by decide +kernel
set_option maxRecDepth 100000 in
theorem ok_X12_copy : ax_mok ax_mt pt_X12_copy pr_X12_copy = true := by decide +kernel
set_option maxRecDepth 100000 in
theorem ok_X12_insert : ax_mok ax_mt pt_X12_insert pr_X12_insert = true := by decide +kernel
set_option maxRecDepth 100000 in
theorem ok_X12_next : ax_mok ax_mt pt_X12_next pr_X12_next = true := by decide +kernel
set_option maxRecDepth 100000 in
theorem ok_X12_readString : ax_mok ax_mt pt_X12_readString pr_X12_readString = true := by decide +kernel
set_option maxRecDepth 100000 in
theorem ok_X12_readName : ax_mok ax_mt pt_X12_readName pr_X12_readName = true := by decide +kernel
set_option maxRecDepth 100000 in
theorem ok_X12_readField : ax_mok ax_mt pt_X12_readField pr_X12_readField = true := by decide +kernel
set_option maxRecDepth 100000 in
theorem ok_X12_isNamed : ax_mok ax_mt pt_X12_isNamed pr_X12_isNamed = true := by decide +kernel
set_option maxRecDepth 100000 in
theorem ok_X12_judge : ax_mok ax_mt pt_X12_judge pr_X12_judge = true := by decide +kernel
set_option maxRecDepth 100000 in
theorem ok_X12_isLength : ax_mok ax_mt pt_X12_isLength pr_X12_isLength = true := by decide +kernel
set_option maxRecDepth 100000 in
theorem ok_X12_judgeLength : ax_mok ax_mt pt_X12_judgeLength pr_X12_judgeLength = true := by decide +kernel
set_option maxRecDepth 100000 in
theorem ok_X12_methodOf : ax_mok ax_mt pt_X12_methodOf pr_X12_methodOf = true := by decide +kernel
set_option maxRecDepth 100000 in
theorem ok_X12_readBlock : ax_mok ax_mt pt_X12_readBlock pr_X12_readBlock = true := by decide +kernel
set_option maxRecDepth 100000 in
theorem ok_X12_unpad : ax_mok ax_mt pt_X12_unpad pr_X12_unpad = true := by decide +kernel
set_option maxRecDepth 100000 in
theorem ok_X12_data : ax_mok ax_mt pt_X12_data pr_X12_data = true := by decide +kernel
set_option maxRecDepth 100000 in
theorem ok_X12_close : ax_mok ax_mt pt_X12_close pr_X12_close = true := by decide +kernel
set_option maxRecDepth 100000 in
theorem ok_X12_answer : ax_mok ax_mt pt_X12_answer pr_X12_answer = true := by decide +kernel
set_option maxRecDepth 100000 in
theorem ok_X12_headers : ax_mok ax_mt pt_X12_headers pr_X12_headers = true := by decide +kernel
set_option maxRecDepth 100000 in
theorem ok_X12_more : ax_mok ax_mt pt_X12_more pr_X12_more = true := by decide +kernel
set_option maxRecDepth 100000 in
theorem ok_X12_request : ax_mok ax_mt pt_X12_request pr_X12_request = true := by decide +kernel
set_option maxRecDepth 100000 in
theorem ok_X12_settings : ax_mok ax_mt pt_X12_settings pr_X12_settings = true := by decide +kernel
set_option maxRecDepth 100000 in
theorem ok_X12_ping : ax_mok ax_mt pt_X12_ping pr_X12_ping = true := by decide +kernel
set_option maxRecDepth 100000 in
theorem ok_X12_widen : ax_mok ax_mt pt_X12_widen pr_X12_widen = true := by decide +kernel
set_option maxRecDepth 100000 in
theorem ok_X12_drop : ax_mok ax_mt pt_X12_drop pr_X12_drop = true := by decide +kernel
set_option maxRecDepth 100000 in
theorem ok_X12_look : ax_mok ax_mt pt_X12_look pr_X12_look = true := by decide +kernel
set_option maxRecDepth 100000 in
theorem ok_X12_goAway : ax_mok ax_mt pt_X12_goAway pr_X12_goAway = true := by decide +kernel
set_option maxRecDepth 100000 in
theorem ok_X12_whole : ax_mok ax_mt pt_X12_whole pr_X12_whole = true := by decide +kernel
set_option maxRecDepth 100000 in
theorem ok_X12_turn : ax_mok ax_mt pt_X12_turn pr_X12_turn = true := by decide +kernel
set_option maxRecDepth 100000 in
theorem ok_X12_less : ax_mok ax_mt pt_X12_less pr_X12_less = true := by decide +kernel
set_option maxRecDepth 100000 in
theorem ok_X12_pump : ax_mok ax_mt pt_X12_pump pr_X12_pump = true := by decide +kernel
set_option maxRecDepth 100000 in
theorem ok_X12_prefaceByte : ax_mok ax_mt pt_X12_prefaceByte pr_X12_prefaceByte = true := by decide +kernel
set_option maxRecDepth 100000 in
theorem ok_X12_take1 : ax_mok ax_mt pt_X12_take1 pr_X12_take1 = true := by decide +kernel
