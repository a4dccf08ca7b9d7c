set_option maxRecDepth 100000 in
theorem ok_X12_feed : ax_mok ax_mt pt_X12_feed pr_X12_feed = true := by decide +kernel
set_option maxRecDepth 100000 in
theorem ok_X12_restart : ax_mok ax_mt pt_X12_restart pr_X12_restart = true := by decide +kernel
set_option maxRecDepth 100000 in
theorem ok_X12_waiting : ax_mok ax_mt pt_X12_waiting pr_X12_waiting = true := by decide +kernel
set_option maxRecDepth 100000 in
theorem ok_X12_out : ax_mok ax_mt pt_X12_out pr_X12_out = true := by decide +kernel
set_option maxRecDepth 100000 in
theorem ok_X12_take : ax_mok ax_mt pt_X12_take pr_X12_take = true := by decide +kernel
set_option maxRecDepth 100000 in
theorem ok_X12_away : ax_mok ax_mt pt_X12_away pr_X12_away = true := by decide +kernel
set_option maxRecDepth 100000 in
theorem ok_X12_about : ax_mok ax_mt pt_X12_about pr_X12_about = true := by decide +kernel
set_option maxRecDepth 100000 in
theorem ok_X12_stream : ax_mok ax_mt pt_X12_stream pr_X12_stream = true := by decide +kernel
set_option maxRecDepth 100000 in
theorem ok_X12_entry : ax_mok ax_mt pt_X12_entry pr_X12_entry = true := by decide +kernel
set_option maxRecDepth 100000 in
theorem ok_J0_init_905df : ax_mok ax_mt pt_J0_init_905df pr_J0_init_905df = true := by decide +kernel
set_option maxRecDepth 100000 in
theorem ok_J0_init_bb550 : ax_mok ax_mt pt_J0_init_bb550 pr_J0_init_bb550 = true := by decide +kernel
set_option maxRecDepth 100000 in
theorem ok_J0_length_8abf5 : ax_mok ax_mt pt_J0_length_8abf5 pr_J0_length_8abf5 = true := by decide +kernel
set_option maxRecDepth 100000 in
theorem ok_J0_isEmpty_aae02 : ax_mok ax_mt pt_J0_isEmpty_aae02 pr_J0_isEmpty_aae02 = true := by decide +kernel
set_option maxRecDepth 100000 in
theorem ok_J0_charAt_5068e : ax_mok ax_mt pt_J0_charAt_5068e pr_J0_charAt_5068e = true := by decide +kernel
set_option maxRecDepth 100000 in
theorem ok_J0_equals_9ea2d : ax_mok ax_mt pt_J0_equals_9ea2d pr_J0_equals_9ea2d = true := by decide +kernel
set_option maxRecDepth 100000 in
theorem ok_J0_coder_7d493 : ax_mok ax_mt pt_J0_coder_7d493 pr_J0_coder_7d493 = true := by decide +kernel
set_option maxRecDepth 100000 in
theorem ok_J0_isLatin1_aae02 : ax_mok ax_mt pt_J0_isLatin1_aae02 pr_J0_isLatin1_aae02 = true := by decide +kernel
set_option maxRecDepth 100000 in
theorem ok_J0_checkIndex_df160 : ax_mok ax_mt pt_J0_checkIndex_df160 pr_J0_checkIndex_df160 = true := by decide +kernel
set_option maxRecDepth 100000 in
theorem ok_J1_charAt_3b067 : ax_mok ax_mt pt_J1_charAt_3b067 pr_J1_charAt_3b067 = true := by decide +kernel
set_option maxRecDepth 100000 in
theorem ok_J1_equals_b5fdf : ax_mok ax_mt pt_J1_equals_b5fdf pr_J1_equals_b5fdf = true := by decide +kernel
set_option maxRecDepth 100000 in
theorem ok_J2_compress_dfd3c : ax_mok ax_mt pt_J2_compress_dfd3c pr_J2_compress_dfd3c = true := by decide +kernel
set_option maxRecDepth 100000 in
theorem ok_J2_compress_fe38e : ax_mok ax_mt pt_J2_compress_fe38e pr_J2_compress_fe38e = true := by decide +kernel
set_option maxRecDepth 100000 in
theorem ok_J3_checkIndex_8e157 : ax_mok ax_mt pt_J3_checkIndex_8e157 pr_J3_checkIndex_8e157 = true := by decide +kernel
set_option maxRecDepth 100000 in
theorem ok_J4_init_da8c8 : ax_mok ax_mt pt_J4_init_da8c8 pr_J4_init_da8c8 = true := by decide +kernel
set_option maxRecDepth 100000 in
theorem ok_J5_init_d00df : ax_mok ax_mt pt_J5_init_d00df pr_J5_init_d00df = true := by decide +kernel
set_option maxRecDepth 100000 in
theorem ok_J4_append_cf468 : ax_mok ax_mt pt_J4_append_cf468 pr_J4_append_cf468 = true := by decide +kernel
set_option maxRecDepth 100000 in
theorem ok_J5_append_3fe6f : ax_mok ax_mt pt_J5_append_3fe6f pr_J5_append_3fe6f = true := by decide +kernel
set_option maxRecDepth 100000 in
theorem ok_J5_ensureCapacityInternal_d00df : ax_mok ax_mt pt_J5_ensureCapacityInternal_d00df pr_J5_ensureCapacityInternal_d00df = true := by decide +kernel
set_option maxRecDepth 100000 in
theorem ok_J5_isLatin1_aae02 : ax_mok ax_mt pt_J5_isLatin1_aae02 pr_J5_isLatin1_aae02 = true := by decide +kernel
set_option maxRecDepth 100000 in
theorem ok_J1_canEncode_fc78d : ax_mok ax_mt pt_J1_canEncode_fc78d pr_J1_canEncode_fc78d = true := by decide +kernel
set_option maxRecDepth 100000 in
theorem ok_J4_toString_0e30d : ax_mok ax_mt pt_J4_toString_0e30d pr_J4_toString_0e30d = true := by decide +kernel
set_option maxRecDepth 100000 in
theorem ok_J0_init_81219 : ax_mok ax_mt pt_J0_init_81219 pr_J0_init_81219 = true := by decide +kernel
set_option maxRecDepth 100000 in
theorem ok_J0_init_db425 : ax_mok ax_mt pt_J0_init_db425 pr_J0_init_db425 = true := by decide +kernel
set_option maxRecDepth 100000 in
theorem ok_J5_getValue_6d5f1 : ax_mok ax_mt pt_J5_getValue_6d5f1 pr_J5_getValue_6d5f1 = true := by decide +kernel
set_option maxRecDepth 100000 in
theorem ok_J4_length_8abf5 : ax_mok ax_mt pt_J4_length_8abf5 pr_J4_length_8abf5 = true := by decide +kernel
set_option maxRecDepth 100000 in
theorem ok_J5_length_8abf5 : ax_mok ax_mt pt_J5_length_8abf5 pr_J5_length_8abf5 = true := by decide +kernel
set_option maxRecDepth 100000 in
theorem ok_J7_copyOfRange_39247 : ax_mok ax_mt pt_J7_copyOfRange_39247 pr_J7_copyOfRange_39247 = true := by decide +kernel
set_option maxRecDepth 100000 in
theorem ok_J7_copyOfRangeByte_39247 : ax_mok ax_mt pt_J7_copyOfRangeByte_39247 pr_J7_copyOfRangeByte_39247 = true := by decide +kernel
set_option maxRecDepth 100000 in
theorem ok_J7_checkLength_df160 : ax_mok ax_mt pt_J7_checkLength_df160 pr_J7_checkLength_df160 = true := by decide +kernel
set_option maxRecDepth 100000 in
theorem ok_J2_coderFromArrayLen_85cad : ax_mok ax_mt pt_J2_coderFromArrayLen_85cad pr_J2_coderFromArrayLen_85cad = true := by decide +kernel
