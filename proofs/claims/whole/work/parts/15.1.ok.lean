set_option maxRecDepth 100000 in
theorem ok_X0_init : ax_mok ax_mt pt_X0_init pr_X0_init = true := by decide +kernel
set_option maxRecDepth 100000 in
theorem ok_X0_clear : ax_mok ax_mt pt_X0_clear pr_X0_clear = true := by decide +kernel
set_option maxRecDepth 100000 in
theorem ok_X0_start : ax_mok ax_mt pt_X0_start pr_X0_start = true := by decide +kernel
set_option maxRecDepth 100000 in
theorem ok_X0_add : ax_mok ax_mt pt_X0_add pr_X0_add = true := by decide +kernel
set_option maxRecDepth 100000 in
theorem ok_X0_field : ax_mok ax_mt pt_X0_field pr_X0_field = true := by decide +kernel
set_option maxRecDepth 100000 in
theorem ok_X0_read : ax_mok ax_mt pt_X0_read pr_X0_read = true := by decide +kernel
set_option maxRecDepth 100000 in
theorem ok_X0_readNext : ax_mok ax_mt pt_X0_readNext pr_X0_readNext = true := by decide +kernel
set_option maxRecDepth 100000 in
theorem ok_X0_readSize : ax_mok ax_mt pt_X0_readSize pr_X0_readSize = true := by decide +kernel
set_option maxRecDepth 100000 in
theorem ok_X0_readField : ax_mok ax_mt pt_X0_readField pr_X0_readField = true := by decide +kernel
set_option maxRecDepth 100000 in
theorem ok_X0_keep : ax_mok ax_mt pt_X0_keep pr_X0_keep = true := by decide +kernel
set_option maxRecDepth 100000 in
theorem ok_X0_readText : ax_mok ax_mt pt_X0_readText pr_X0_readText = true := by decide +kernel
set_option maxRecDepth 100000 in
theorem ok_X1_init : ax_mok ax_mt pt_X1_init pr_X1_init = true := by decide +kernel
set_option maxRecDepth 100000 in
theorem ok_X1_begin : ax_mok ax_mt pt_X1_begin pr_X1_begin = true := by decide +kernel
set_option maxRecDepth 100000 in
theorem ok_X1_receive : ax_mok ax_mt pt_X1_receive pr_X1_receive = true := by decide +kernel
set_option maxRecDepth 100000 in
theorem ok_X1_receivePreface : ax_mok ax_mt pt_X1_receivePreface pr_X1_receivePreface = true := by decide +kernel
set_option maxRecDepth 100000 in
theorem ok_X1_lookAtFrame : ax_mok ax_mt pt_X1_lookAtFrame pr_X1_lookAtFrame = true := by decide +kernel
set_option maxRecDepth 100000 in
theorem ok_X1_isOutOfOrder : ax_mok ax_mt pt_X1_isOutOfOrder pr_X1_isOutOfOrder = true := by decide +kernel
set_option maxRecDepth 100000 in
theorem ok_X1_lookAtData : ax_mok ax_mt pt_X1_lookAtData pr_X1_lookAtData = true := by decide +kernel
set_option maxRecDepth 100000 in
theorem ok_X1_lookAtHeaders : ax_mok ax_mt pt_X1_lookAtHeaders pr_X1_lookAtHeaders = true := by decide +kernel
set_option maxRecDepth 100000 in
theorem ok_X1_addToBlock : ax_mok ax_mt pt_X1_addToBlock pr_X1_addToBlock = true := by decide +kernel
set_option maxRecDepth 100000 in
theorem ok_X1_endBlock : ax_mok ax_mt pt_X1_endBlock pr_X1_endBlock = true := by decide +kernel
set_option maxRecDepth 100000 in
theorem ok_X1_openStream : ax_mok ax_mt pt_X1_openStream pr_X1_openStream = true := by decide +kernel
set_option maxRecDepth 100000 in
theorem ok_X1_endOpenStream : ax_mok ax_mt pt_X1_endOpenStream pr_X1_endOpenStream = true := by decide +kernel
set_option maxRecDepth 100000 in
theorem ok_X1_closeClientSide : ax_mok ax_mt pt_X1_closeClientSide pr_X1_closeClientSide = true := by decide +kernel
set_option maxRecDepth 100000 in
theorem ok_X1_answer : ax_mok ax_mt pt_X1_answer pr_X1_answer = true := by decide +kernel
set_option maxRecDepth 100000 in
theorem ok_X1_lookAtReset : ax_mok ax_mt pt_X1_lookAtReset pr_X1_lookAtReset = true := by decide +kernel
set_option maxRecDepth 100000 in
theorem ok_X1_lookAtSettings : ax_mok ax_mt pt_X1_lookAtSettings pr_X1_lookAtSettings = true := by decide +kernel
set_option maxRecDepth 100000 in
theorem ok_X1_takeSettings : ax_mok ax_mt pt_X1_takeSettings pr_X1_takeSettings = true := by decide +kernel
set_option maxRecDepth 100000 in
theorem ok_X1_lookAtPing : ax_mok ax_mt pt_X1_lookAtPing pr_X1_lookAtPing = true := by decide +kernel
set_option maxRecDepth 100000 in
theorem ok_X1_demandConnectionFrame : ax_mok ax_mt pt_X1_demandConnectionFrame pr_X1_demandConnectionFrame = true := by decide +kernel
set_option maxRecDepth 100000 in
theorem ok_X1_lookAtWindow : ax_mok ax_mt pt_X1_lookAtWindow pr_X1_lookAtWindow = true := by decide +kernel
set_option maxRecDepth 100000 in
theorem ok_X1_widenConnection : ax_mok ax_mt pt_X1_widenConnection pr_X1_widenConnection = true := by decide +kernel
set_option maxRecDepth 100000 in
theorem ok_X1_widenStream : ax_mok ax_mt pt_X1_widenStream pr_X1_widenStream = true := by decide +kernel
set_option maxRecDepth 100000 in
theorem ok_X1_sendBodies : ax_mok ax_mt pt_X1_sendBodies pr_X1_sendBodies = true := by decide +kernel
set_option maxRecDepth 100000 in
theorem ok_X1_sendData : ax_mok ax_mt pt_X1_sendData pr_X1_sendData = true := by decide +kernel
set_option maxRecDepth 100000 in
theorem ok_X1_sendWindow : ax_mok ax_mt pt_X1_sendWindow pr_X1_sendWindow = true := by decide +kernel
set_option maxRecDepth 100000 in
theorem ok_X1_sendReset : ax_mok ax_mt pt_X1_sendReset pr_X1_sendReset = true := by decide +kernel
set_option maxRecDepth 100000 in
theorem ok_X1_sendAway : ax_mok ax_mt pt_X1_sendAway pr_X1_sendAway = true := by decide +kernel
set_option maxRecDepth 100000 in
theorem ok_X2_init : ax_mok ax_mt pt_X2_init pr_X2_init = true := by decide +kernel
set_option maxRecDepth 100000 in
theorem ok_X2_beginsWithColon : ax_mok ax_mt pt_X2_beginsWithColon pr_X2_beginsWithColon = true := by decide +kernel
set_option maxRecDepth 100000 in
theorem ok_X2_isNamedByLetters : ax_mok ax_mt pt_X2_isNamedByLetters pr_X2_isNamedByLetters = true := by decide +kernel
set_option maxRecDepth 100000 in
theorem ok_X2_numberValue : ax_mok ax_mt pt_X2_numberValue pr_X2_numberValue = true := by decide +kernel
set_option maxRecDepth 100000 in
theorem ok_X3_init : ax_mok ax_mt pt_X3_init pr_X3_init = true := by decide +kernel
set_option maxRecDepth 100000 in
theorem ok_X3_clear : ax_mok ax_mt pt_X3_clear pr_X3_clear = true := by decide +kernel
set_option maxRecDepth 100000 in
theorem ok_X3_add : ax_mok ax_mt pt_X3_add pr_X3_add = true := by decide +kernel
set_option maxRecDepth 100000 in
theorem ok_X3_isTooLong : ax_mok ax_mt pt_X3_isTooLong pr_X3_isTooLong = true := by decide +kernel
set_option maxRecDepth 100000 in
theorem ok_X3_isWhole : ax_mok ax_mt pt_X3_isWhole pr_X3_isWhole = true := by decide +kernel
set_option maxRecDepth 100000 in
theorem ok_X3_length : ax_mok ax_mt pt_X3_length pr_X3_length = true := by decide +kernel
set_option maxRecDepth 100000 in
theorem ok_X3_type : ax_mok ax_mt pt_X3_type pr_X3_type = true := by decide +kernel
set_option maxRecDepth 100000 in
theorem ok_X3_has : ax_mok ax_mt pt_X3_has pr_X3_has = true := by decide +kernel
set_option maxRecDepth 100000 in
theorem ok_X3_streamNumber : ax_mok ax_mt pt_X3_streamNumber pr_X3_streamNumber = true := by decide +kernel
set_option maxRecDepth 100000 in
theorem ok_X3_byteAt : ax_mok ax_mt pt_X3_byteAt pr_X3_byteAt = true := by decide +kernel
set_option maxRecDepth 100000 in
theorem ok_X3_twoByteNumber : ax_mok ax_mt pt_X3_twoByteNumber pr_X3_twoByteNumber = true := by decide +kernel
set_option maxRecDepth 100000 in
theorem ok_X3_isPadded : ax_mok ax_mt pt_X3_isPadded pr_X3_isPadded = true := by decide +kernel
set_option maxRecDepth 100000 in
theorem ok_X3_hasRoomForPadding : ax_mok ax_mt pt_X3_hasRoomForPadding pr_X3_hasRoomForPadding = true := by decide +kernel
