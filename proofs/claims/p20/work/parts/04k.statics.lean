theorem kI_m3 : ((-3) : Int32).toInt = (-3) := by decide
theorem kI_m2 : ((-2) : Int32).toInt = (-2) := by decide
theorem kI_m1 : ((-1) : Int32).toInt = (-1) := by decide
theorem kI_0 : (0 : Int32).toInt = 0 := by decide
theorem kI_1 : (1 : Int32).toInt = 1 := by decide
theorem kI_2 : (2 : Int32).toInt = 2 := by decide
theorem kI_3 : (3 : Int32).toInt = 3 := by decide
theorem kI_4 : (4 : Int32).toInt = 4 := by decide
theorem kI_5 : (5 : Int32).toInt = 5 := by decide
theorem kI_6 : (6 : Int32).toInt = 6 := by decide
theorem kI_7 : (7 : Int32).toInt = 7 := by decide
theorem kI_8 : (8 : Int32).toInt = 8 := by decide
theorem kI_9 : (9 : Int32).toInt = 9 := by decide
theorem kI_10 : (10 : Int32).toInt = 10 := by decide
theorem kI_16 : (16 : Int32).toInt = 16 := by decide
theorem kI_17 : (17 : Int32).toInt = 17 := by decide
theorem kI_18 : (18 : Int32).toInt = 18 := by decide
theorem kI_24 : (24 : Int32).toInt = 24 := by decide
theorem kI_31 : (31 : Int32).toInt = 31 := by decide
theorem kI_32 : (32 : Int32).toInt = 32 := by decide
theorem kI_40 : (40 : Int32).toInt = 40 := by decide
theorem kI_41 : (41 : Int32).toInt = 41 := by decide
theorem kI_63 : (63 : Int32).toInt = 63 := by decide
theorem kI_192 : (192 : Int32).toInt = 192 := by decide
theorem kI_200 : (200 : Int32).toInt = 200 := by decide
theorem kI_384 : (384 : Int32).toInt = 384 := by decide
theorem kI_400 : (400 : Int32).toInt = 400 := by decide
theorem kI_7872 : (7872 : Int32).toInt = 7872 := by decide
theorem kI_8064 : (8064 : Int32).toInt = 8064 := by decide
theorem kI_64512 : (64512 : Int32).toInt = 64512 := by decide
theorem kI_252645135 : (252645135 : Int32).toInt = 252645135 := by decide
theorem kI_858993459 : (858993459 : Int32).toInt = 858993459 := by decide
theorem kI_1431655765 : (1431655765 : Int32).toInt = 1431655765 := by decide
theorem kJ_m3 : ((-3) : Int64).toInt = (-3) := by decide
theorem kJ_m2 : ((-2) : Int64).toInt = (-2) := by decide
theorem kJ_m1 : ((-1) : Int64).toInt = (-1) := by decide
theorem kJ_0 : (0 : Int64).toInt = 0 := by decide
theorem kJ_1 : (1 : Int64).toInt = 1 := by decide
theorem kJ_2 : (2 : Int64).toInt = 2 := by decide
theorem kJ_3 : (3 : Int64).toInt = 3 := by decide
theorem kJ_4 : (4 : Int64).toInt = 4 := by decide
theorem kJ_5 : (5 : Int64).toInt = 5 := by decide
theorem kJ_6 : (6 : Int64).toInt = 6 := by decide
theorem kJ_7 : (7 : Int64).toInt = 7 := by decide
theorem kJ_8 : (8 : Int64).toInt = 8 := by decide
theorem kJ_9 : (9 : Int64).toInt = 9 := by decide
theorem kJ_32 : (32 : Int64).toInt = 32 := by decide
theorem kJ_191 : (191 : Int64).toInt = 191 := by decide
theorem in_X0_fits_X0 : ∀ w ∈ u_ws RX0 TX0 6, w ∈ wsX0_fits := by decide +kernel
theorem in_X0_init_X0 : ∀ w ∈ u_ws RX0 TX0 6, w ∈ wsX0_init := by decide +kernel
theorem in_X0_isAsTold_X0 : ∀ w ∈ u_ws RX0 TX0 6, w ∈ wsX0_isAsTold := by decide +kernel
theorem in_X1_actAt_X1 : ∀ w ∈ u_ws RX1 TX1 2, w ∈ wsX1_actAt := by decide +kernel
theorem in_X1_append_X1 : ∀ w ∈ u_ws RX1 TX1 2, w ∈ wsX1_append := by decide +kernel
theorem in_X1_empty_X1 : ∀ w ∈ u_ws RX1 TX1 2, w ∈ wsX1_empty := by decide +kernel
theorem in_X1_init_X1 : ∀ w ∈ u_ws RX1 TX1 2, w ∈ wsX1_init := by decide +kernel
theorem in_X2_asOf_X2 : ∀ w ∈ u_ws RX2 TX2 5, w ∈ wsX2_asOf := by decide +kernel
theorem in_X2_copyFrom_X2 : ∀ w ∈ u_ws RX2 TX2 5, w ∈ wsX2_copyFrom := by decide +kernel
theorem in_X2_hasBlankRow_X2 : ∀ w ∈ u_ws RX2 TX2 5, w ∈ wsX2_hasBlankRow := by decide +kernel
theorem in_X2_hasItem_X2 : ∀ w ∈ u_ws RX2 TX2 5, w ∈ wsX2_hasItem := by decide +kernel
theorem in_X2_hasSameField_X2 : ∀ w ∈ u_ws RX2 TX2 5, w ∈ wsX2_hasSameField := by decide +kernel
theorem in_X2_hasSameItems_X2 : ∀ w ∈ u_ws RX2 TX2 5, w ∈ wsX2_hasSameItems := by decide +kernel
theorem in_X2_init_X2 : ∀ w ∈ u_ws RX2 TX2 5, w ∈ wsX2_init := by decide +kernel
theorem in_X2_renewRow_X2 : ∀ w ∈ u_ws RX2 TX2 5, w ∈ wsX2_renewRow := by decide +kernel
theorem in_X2_sortOf_X2 : ∀ w ∈ u_ws RX2 TX2 5, w ∈ wsX2_sortOf := by decide +kernel
theorem in_X3_areAlike_X2 : ∀ w ∈ u_ws RX2 TX2 5, w ∈ wsX3_areAlike := by decide +kernel
theorem in_X3_areAlike_X3 : ∀ w ∈ u_ws RX3 TX3 11, w ∈ wsX3_areAlike := by decide +kernel
theorem in_X3_ask_X3 : ∀ w ∈ u_ws RX3 TX3 11, w ∈ wsX3_ask := by decide +kernel
theorem in_X3_bodyOf_X3 : ∀ w ∈ u_ws RX3 TX3 11, w ∈ wsX3_bodyOf := by decide +kernel
theorem in_X3_change_X3 : ∀ w ∈ u_ws RX3 TX3 11, w ∈ wsX3_change := by decide +kernel
theorem in_X3_changesLike_X3 : ∀ w ∈ u_ws RX3 TX3 11, w ∈ wsX3_changesLike := by decide +kernel
theorem in_X3_end_X3 : ∀ w ∈ u_ws RX3 TX3 11, w ∈ wsX3_end := by decide +kernel
theorem in_X3_endsLike_X3 : ∀ w ∈ u_ws RX3 TX3 11, w ∈ wsX3_endsLike := by decide +kernel
theorem in_X3_fail_X3 : ∀ w ∈ u_ws RX3 TX3 11, w ∈ wsX3_fail := by decide +kernel
theorem in_X3_follow_X2 : ∀ w ∈ u_ws RX2 TX2 5, w ∈ wsX3_follow := by decide +kernel
theorem in_X3_follow_X3 : ∀ w ∈ u_ws RX3 TX3 11, w ∈ wsX3_follow := by decide +kernel
theorem in_X3_get_X2 : ∀ w ∈ u_ws RX2 TX2 5, w ∈ wsX3_get := by decide +kernel
theorem in_X3_getItem_X2 : ∀ w ∈ u_ws RX2 TX2 5, w ∈ wsX3_getItem := by decide +kernel
theorem in_X3_getItem_X3 : ∀ w ∈ u_ws RX3 TX3 11, w ∈ wsX3_getItem := by decide +kernel
theorem in_X3_goOnAt_X3 : ∀ w ∈ u_ws RX3 TX3 11, w ∈ wsX3_goOnAt := by decide +kernel
theorem in_X3_init_X3 : ∀ w ∈ u_ws RX3 TX3 11, w ∈ wsX3_init := by decide +kernel
theorem in_X3_init_X4 : ∀ w ∈ u_ws RX4 TX4 5, w ∈ wsX3_init := by decide +kernel
theorem in_X3_itemRefusal_X2 : ∀ w ∈ u_ws RX2 TX2 5, w ∈ wsX3_itemRefusal := by decide +kernel
theorem in_X3_lay_X2 : ∀ w ∈ u_ws RX2 TX2 5, w ∈ wsX3_lay := by decide +kernel
theorem in_X3_lay_X3 : ∀ w ∈ u_ws RX3 TX3 11, w ∈ wsX3_lay := by decide +kernel
theorem in_X3_load_X2 : ∀ w ∈ u_ws RX2 TX2 5, w ∈ wsX3_load := by decide +kernel
theorem in_X3_load_X3 : ∀ w ∈ u_ws RX3 TX3 11, w ∈ wsX3_load := by decide +kernel
theorem in_X3_perform_X0 : ∀ w ∈ u_ws RX0 TX0 6, w ∈ wsX3_perform := by decide +kernel
theorem in_X3_perform_X3 : ∀ w ∈ u_ws RX3 TX3 11, w ∈ wsX3_perform := by decide +kernel
theorem in_X3_put_X2 : ∀ w ∈ u_ws RX2 TX2 5, w ∈ wsX3_put := by decide +kernel
theorem in_X3_read_X3 : ∀ w ∈ u_ws RX3 TX3 11, w ∈ wsX3_read := by decide +kernel
theorem in_X3_setValue_X3 : ∀ w ∈ u_ws RX3 TX3 11, w ∈ wsX3_setValue := by decide +kernel
theorem in_X3_shift_X0 : ∀ w ∈ u_ws RX0 TX0 6, w ∈ wsX3_shift := by decide +kernel
theorem in_X3_shift_X2 : ∀ w ∈ u_ws RX2 TX2 5, w ∈ wsX3_shift := by decide +kernel
theorem in_X3_shift_X3 : ∀ w ∈ u_ws RX3 TX3 11, w ∈ wsX3_shift := by decide +kernel
theorem in_X3_start_X3 : ∀ w ∈ u_ws RX3 TX3 11, w ∈ wsX3_start := by decide +kernel
theorem in_X3_work_X3 : ∀ w ∈ u_ws RX3 TX3 11, w ∈ wsX3_work := by decide +kernel
theorem in_X4_init_X4 : ∀ w ∈ u_ws RX4 TX4 5, w ∈ wsX4_init := by decide +kernel
theorem in_X4_isSameAs_X4 : ∀ w ∈ u_ws RX4 TX4 5, w ∈ wsX4_isSameAs := by decide +kernel
theorem in_X4_noteChanged_X4 : ∀ w ∈ u_ws RX4 TX4 5, w ∈ wsX4_noteChanged := by decide +kernel
theorem in_X4_noteRead_X4 : ∀ w ∈ u_ws RX4 TX4 5, w ∈ wsX4_noteRead := by decide +kernel
theorem in_X4_restart_X4 : ∀ w ∈ u_ws RX4 TX4 5, w ∈ wsX4_restart := by decide +kernel
theorem in_X5_act_X0 : ∀ w ∈ u_ws RX0 TX0 6, w ∈ wsX5_act := by decide +kernel
theorem in_X5_act_X5 : ∀ w ∈ u_ws RX5 TX5 14, w ∈ wsX5_act := by decide +kernel
theorem in_X5_all_X5 : ∀ w ∈ u_ws RX5 TX5 14, w ∈ wsX5_all := by decide +kernel
theorem in_X5_cached_X5 : ∀ w ∈ u_ws RX5 TX5 14, w ∈ wsX5_cached := by decide +kernel
theorem in_X5_call_X3 : ∀ w ∈ u_ws RX3 TX3 11, w ∈ wsX5_call := by decide +kernel
theorem in_X5_call_X5 : ∀ w ∈ u_ws RX5 TX5 14, w ∈ wsX5_call := by decide +kernel
theorem in_X5_callRefusal_X5 : ∀ w ∈ u_ws RX5 TX5 14, w ∈ wsX5_callRefusal := by decide +kernel
theorem in_X5_changeCell_X2 : ∀ w ∈ u_ws RX2 TX2 5, w ∈ wsX5_changeCell := by decide +kernel
theorem in_X5_changeCell_X5 : ∀ w ∈ u_ws RX5 TX5 14, w ∈ wsX5_changeCell := by decide +kernel
theorem in_X5_clear_X5 : ∀ w ∈ u_ws RX5 TX5 14, w ∈ wsX5_clear := by decide +kernel
theorem in_X5_gave_X3 : ∀ w ∈ u_ws RX3 TX3 11, w ∈ wsX5_gave := by decide +kernel
theorem in_X5_gave_X5 : ∀ w ∈ u_ws RX5 TX5 14, w ∈ wsX5_gave := by decide +kernel
theorem in_X5_hint_X5 : ∀ w ∈ u_ws RX5 TX5 14, w ∈ wsX5_hint := by decide +kernel
theorem in_X5_init_X1 : ∀ w ∈ u_ws RX1 TX1 2, w ∈ wsX5_init := by decide +kernel
theorem in_X5_init_X3 : ∀ w ∈ u_ws RX3 TX3 11, w ∈ wsX5_init := by decide +kernel
theorem in_X5_init_X5 : ∀ w ∈ u_ws RX5 TX5 14, w ∈ wsX5_init := by decide +kernel
theorem in_X5_isObject_X5 : ∀ w ∈ u_ws RX5 TX5 14, w ∈ wsX5_isObject := by decide +kernel
theorem in_X5_keepChanges_X3 : ∀ w ∈ u_ws RX3 TX3 11, w ∈ wsX5_keepChanges := by decide +kernel
theorem in_X5_keepChanges_X5 : ∀ w ∈ u_ws RX5 TX5 14, w ∈ wsX5_keepChanges := by decide +kernel
theorem in_X5_loaded_X3 : ∀ w ∈ u_ws RX3 TX3 11, w ∈ wsX5_loaded := by decide +kernel
theorem in_X5_loaded_X5 : ∀ w ∈ u_ws RX5 TX5 14, w ∈ wsX5_loaded := by decide +kernel
theorem in_X5_newVersion_X2 : ∀ w ∈ u_ws RX2 TX2 5, w ∈ wsX5_newVersion := by decide +kernel
theorem in_X5_newVersion_X5 : ∀ w ∈ u_ws RX5 TX5 14, w ∈ wsX5_newVersion := by decide +kernel
theorem in_X5_noteWritten_X5 : ∀ w ∈ u_ws RX5 TX5 14, w ∈ wsX5_noteWritten := by decide +kernel
theorem in_X5_object_X2 : ∀ w ∈ u_ws RX2 TX2 5, w ∈ wsX5_object := by decide +kernel
theorem in_X5_object_X5 : ∀ w ∈ u_ws RX5 TX5 14, w ∈ wsX5_object := by decide +kernel
theorem in_X5_raiseHeight_X5 : ∀ w ∈ u_ws RX5 TX5 14, w ∈ wsX5_raiseHeight := by decide +kernel
theorem in_X5_row_X5 : ∀ w ∈ u_ws RX5 TX5 14, w ∈ wsX5_row := by decide +kernel
theorem in_X5_sortAt_X5 : ∀ w ∈ u_ws RX5 TX5 14, w ∈ wsX5_sortAt := by decide +kernel
theorem in_X5_status_X5 : ∀ w ∈ u_ws RX5 TX5 14, w ∈ wsX5_status := by decide +kernel
theorem in_X5_times_X5 : ∀ w ∈ u_ws RX5 TX5 14, w ∈ wsX5_times := by decide +kernel
theorem in_X5_told_X3 : ∀ w ∈ u_ws RX3 TX3 11, w ∈ wsX5_told := by decide +kernel
theorem in_X5_told_X4 : ∀ w ∈ u_ws RX4 TX4 5, w ∈ wsX5_told := by decide +kernel
theorem in_X5_told_X5 : ∀ w ∈ u_ws RX5 TX5 14, w ∈ wsX5_told := by decide +kernel
theorem in_X5_touched_X3 : ∀ w ∈ u_ws RX3 TX3 11, w ∈ wsX5_touched := by decide +kernel
theorem in_X5_touched_X4 : ∀ w ∈ u_ws RX4 TX4 5, w ∈ wsX5_touched := by decide +kernel
theorem in_X5_touched_X5 : ∀ w ∈ u_ws RX5 TX5 14, w ∈ wsX5_touched := by decide +kernel
theorem in_X5_view_X2 : ∀ w ∈ u_ws RX2 TX2 5, w ∈ wsX5_view := by decide +kernel
theorem in_X5_view_X5 : ∀ w ∈ u_ws RX5 TX5 14, w ∈ wsX5_view := by decide +kernel
theorem in_X5_where_X3 : ∀ w ∈ u_ws RX3 TX3 11, w ∈ wsX5_where := by decide +kernel
theorem in_X5_where_X5 : ∀ w ∈ u_ws RX5 TX5 14, w ∈ wsX5_where := by decide +kernel
theorem in_X5_written_X5 : ∀ w ∈ u_ws RX5 TX5 14, w ∈ wsX5_written := by decide +kernel
theorem in_X6_act_X6 : ∀ w ∈ u_ws RX6 TX6 30, w ∈ wsX6_act := by decide +kernel
theorem in_X6_all_X6 : ∀ w ∈ u_ws RX6 TX6 30, w ∈ wsX6_all := by decide +kernel
theorem in_X6_areAlike_X6 : ∀ w ∈ u_ws RX6 TX6 30, w ∈ wsX6_areAlike := by decide +kernel
theorem in_X6_begin_X6 : ∀ w ∈ u_ws RX6 TX6 30, w ∈ wsX6_begin := by decide +kernel
theorem in_X6_cached_X6 : ∀ w ∈ u_ws RX6 TX6 30, w ∈ wsX6_cached := by decide +kernel
theorem in_X6_call_X6 : ∀ w ∈ u_ws RX6 TX6 30, w ∈ wsX6_call := by decide +kernel
theorem in_X6_changed_X6 : ∀ w ∈ u_ws RX6 TX6 30, w ∈ wsX6_changed := by decide +kernel
theorem in_X6_clear_X6 : ∀ w ∈ u_ws RX6 TX6 30, w ∈ wsX6_clear := by decide +kernel
theorem in_X6_copyLeaf_X6 : ∀ w ∈ u_ws RX6 TX6 30, w ∈ wsX6_copyLeaf := by decide +kernel
theorem in_X6_does_X6 : ∀ w ∈ u_ws RX6 TX6 30, w ∈ wsX6_does := by decide +kernel
theorem in_X6_fieldActs_X6 : ∀ w ∈ u_ws RX6 TX6 30, w ∈ wsX6_fieldActs := by decide +kernel
theorem in_X6_first_X6 : ∀ w ∈ u_ws RX6 TX6 30, w ∈ wsX6_first := by decide +kernel
theorem in_X6_gave_X6 : ∀ w ∈ u_ws RX6 TX6 30, w ∈ wsX6_gave := by decide +kernel
theorem in_X6_has_X6 : ∀ w ∈ u_ws RX6 TX6 30, w ∈ wsX6_has := by decide +kernel
theorem in_X6_hint_X6 : ∀ w ∈ u_ws RX6 TX6 30, w ∈ wsX6_hint := by decide +kernel
theorem in_X6_init_X6 : ∀ w ∈ u_ws RX6 TX6 30, w ∈ wsX6_init := by decide +kernel
theorem in_X6_isObject_X6 : ∀ w ∈ u_ws RX6 TX6 30, w ∈ wsX6_isObject := by decide +kernel
theorem in_X6_itemOf_X6 : ∀ w ∈ u_ws RX6 TX6 30, w ∈ wsX6_itemOf := by decide +kernel
theorem in_X6_leafOf_X6 : ∀ w ∈ u_ws RX6 TX6 30, w ∈ wsX6_leafOf := by decide +kernel
theorem in_X6_like_X6 : ∀ w ∈ u_ws RX6 TX6 30, w ∈ wsX6_like := by decide +kernel
theorem in_X6_link_X6 : ∀ w ∈ u_ws RX6 TX6 30, w ∈ wsX6_link := by decide +kernel
theorem in_X6_load_X6 : ∀ w ∈ u_ws RX6 TX6 30, w ∈ wsX6_load := by decide +kernel
theorem in_X6_loaded_X6 : ∀ w ∈ u_ws RX6 TX6 30, w ∈ wsX6_loaded := by decide +kernel
theorem in_X6_newRow_X6 : ∀ w ∈ u_ws RX6 TX6 30, w ∈ wsX6_newRow := by decide +kernel
theorem in_X6_number_X6 : ∀ w ∈ u_ws RX6 TX6 30, w ∈ wsX6_number := by decide +kernel
theorem in_X6_object_X6 : ∀ w ∈ u_ws RX6 TX6 30, w ∈ wsX6_object := by decide +kernel
theorem in_X6_rises_X6 : ∀ w ∈ u_ws RX6 TX6 30, w ∈ wsX6_rises := by decide +kernel
theorem in_X6_row_X6 : ∀ w ∈ u_ws RX6 TX6 30, w ∈ wsX6_row := by decide +kernel
theorem in_X6_rowActs_X6 : ∀ w ∈ u_ws RX6 TX6 30, w ∈ wsX6_rowActs := by decide +kernel
theorem in_X6_shift_X6 : ∀ w ∈ u_ws RX6 TX6 30, w ∈ wsX6_shift := by decide +kernel
theorem in_X6_status_X6 : ∀ w ∈ u_ws RX6 TX6 30, w ∈ wsX6_status := by decide +kernel
theorem in_X6_times_X6 : ∀ w ∈ u_ws RX6 TX6 30, w ∈ wsX6_times := by decide +kernel
theorem in_X6_told_X6 : ∀ w ∈ u_ws RX6 TX6 30, w ∈ wsX6_told := by decide +kernel
theorem in_X6_touch_X6 : ∀ w ∈ u_ws RX6 TX6 30, w ∈ wsX6_touch := by decide +kernel
theorem in_X6_touched_X6 : ∀ w ∈ u_ws RX6 TX6 30, w ∈ wsX6_touched := by decide +kernel
theorem in_X6_view_X6 : ∀ w ∈ u_ws RX6 TX6 30, w ∈ wsX6_view := by decide +kernel
theorem in_X6_where_X6 : ∀ w ∈ u_ws RX6 TX6 30, w ∈ wsX6_where := by decide +kernel
theorem in_X6_written_X6 : ∀ w ∈ u_ws RX6 TX6 30, w ∈ wsX6_written := by decide +kernel
