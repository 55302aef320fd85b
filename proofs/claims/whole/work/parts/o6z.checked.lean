/-! PART o6z: all tables are as they should be. -/
theorem okA_0 (xs : List (Nat × List Int32)) : ∀ mi mt, pe_at (pe_msA.drop 0) mi = some mt → mi < 64 → pe_okM (pe_GA xs) pe_cl pe_ckA mt = true := by
  intro mi mt h hl
  match mi, h, hl with
  | 0, h, _ =>
    have h2 : some t_X_init = some mt := h
    cases h2
    exact pe_okM_xs (xs := []) ok_t_X_init
  | 1, h, _ =>
    have h2 : some t_M_init = some mt := h
    cases h2
    exact pe_okM_xs (xs := []) ok_t_M_init
  | 2, h, _ =>
    have h2 : some t_X_feed = some mt := h
    cases h2
    exact pe_okM_xs (xs := []) ok_t_X_feed
  | 3, h, _ =>
    have h2 : some t_M_feed = some mt := h
    cases h2
    exact pe_okM_xs (xs := []) ok_t_M_feed
  | 4, h, _ =>
    have h2 : some t_X_host = some mt := h
    cases h2
    exact pe_okM_xs (xs := []) ok_t_X_host
  | 5, h, _ =>
    have h2 : some t_M_host = some mt := h
    cases h2
    exact pe_okM_xs (xs := []) ok_t_M_host
  | 6, h, _ =>
    have h2 : some t_X_type = some mt := h
    cases h2
    exact pe_okM_xs (xs := []) ok_t_X_type
  | 7, h, _ =>
    have h2 : some t_M_type = some mt := h
    cases h2
    exact pe_okM_xs (xs := []) ok_t_M_type
  | 8, h, _ =>
    have h2 : some t_X_member = some mt := h
    cases h2
    exact pe_okM_xs (xs := []) ok_t_X_member
  | 9, h, _ =>
    have h2 : some t_M_member = some mt := h
    cases h2
    exact pe_okM_xs (xs := []) ok_t_M_member
  | 10, h, _ =>
    have h2 : some t_X_subtype = some mt := h
    cases h2
    exact pe_okM_xs (xs := []) ok_t_X_subtype
  | 11, h, _ =>
    have h2 : some t_M_subtype = some mt := h
    cases h2
    exact pe_okM_xs (xs := []) ok_t_M_subtype
  | 12, h, _ =>
    have h2 : some t_X_compile = some mt := h
    cases h2
    exact pe_okM_xs (xs := []) ok_t_X_compile
  | 13, h, _ =>
    have h2 : some t_M_compile = some mt := h
    cases h2
    exact pe_okM_xs (xs := []) ok_t_M_compile
  | 14, h, _ =>
    have h2 : some t_X_function = some mt := h
    cases h2
    exact pe_okM_xs (xs := []) ok_t_X_function
  | 15, h, _ =>
    have h2 : some t_M_function = some mt := h
    cases h2
    exact pe_okM_xs (xs := []) ok_t_M_function
  | 16, h, _ =>
    have h2 : some t_X_code = some mt := h
    cases h2
    exact pe_okM_xs (xs := []) ok_t_X_code
  | 17, h, _ =>
    have h2 : some t_M_code = some mt := h
    cases h2
    exact pe_okM_xs (xs := []) ok_t_M_code
  | 18, h, _ =>
    have h2 : some t_X_site = some mt := h
    cases h2
    exact pe_okM_xs (xs := []) ok_t_X_site
  | 19, h, _ =>
    have h2 : some t_M_site = some mt := h
    cases h2
    exact pe_okM_xs (xs := []) ok_t_M_site
  | 20, h, _ =>
    have h2 : some t_X_entry = some mt := h
    cases h2
    exact pe_okM_xs (xs := []) ok_t_X_entry
  | 21, h, _ =>
    have h2 : some t_M_entry = some mt := h
    cases h2
    exact pe_okM_xs (xs := []) ok_t_M_entry
  | 22, h, _ =>
    have h2 : some t_X_name = some mt := h
    cases h2
    exact pe_okM_xs (xs := []) ok_t_X_name
  | 23, h, _ =>
    have h2 : some t_M_name = some mt := h
    cases h2
    exact pe_okM_xs (xs := []) ok_t_M_name
  | 24, h, _ =>
    have h2 : some t_X_start = some mt := h
    cases h2
    exact pe_okM_xs (xs := []) ok_t_X_start
  | 25, h, _ =>
    have h2 : some t_M_start = some mt := h
    cases h2
    exact pe_okM_xs (xs := []) ok_t_M_start
  | 26, h, _ =>
    have h2 : some t_LL_steps = some mt := h
    cases h2
    exact pe_okM_xs (xs := []) ok_t_LL_steps
  | 27, h, _ =>
    have h2 : some t_M_steps = some mt := h
    cases h2
    exact pe_okM_xs (xs := []) ok_t_M_steps
  | 28, h, _ =>
    have h2 : some t_M_thrown = some mt := h
    cases h2
    exact pe_okM_xs (xs := []) ok_t_M_thrown
  | 29, h, _ =>
    have h2 : some t_X_task = some mt := h
    cases h2
    exact pe_okM_xs (xs := []) ok_t_X_task
  | 30, h, _ =>
    have h2 : some t_M_task = some mt := h
    cases h2
    exact pe_okM_xs (xs := []) ok_t_M_task
  | 31, h, _ =>
    have h2 : some t_LL_result = some mt := h
    cases h2
    exact pe_okM_xs (xs := []) ok_t_LL_result
  | 32, h, _ =>
    have h2 : some t_M_result = some mt := h
    cases h2
    exact pe_okM_xs (xs := []) ok_t_M_result
  | 33, h, _ =>
    have h2 : some t_X_sign = some mt := h
    cases h2
    exact pe_okM_xs (xs := []) ok_t_X_sign
  | 34, h, _ =>
    have h2 : some t_M_sign = some mt := h
    cases h2
    exact pe_okM_xs (xs := []) ok_t_M_sign
  | 35, h, _ =>
    have h2 : some t_LL_global = some mt := h
    cases h2
    exact pe_okM_xs (xs := []) ok_t_LL_global
  | 36, h, _ =>
    have h2 : some t_M_global = some mt := h
    cases h2
    exact pe_okM_xs (xs := []) ok_t_M_global
  | 37, h, _ =>
    have h2 : some t_X_thing = some mt := h
    cases h2
    exact pe_okM_xs (xs := []) ok_t_X_thing
  | 38, h, _ =>
    have h2 : some t_M_thing = some mt := h
    cases h2
    exact pe_okM_xs (xs := []) ok_t_M_thing
  | 39, h, _ =>
    have h2 : some t_LL_property = some mt := h
    cases h2
    exact pe_okM_xs (xs := []) ok_t_LL_property
  | 40, h, _ =>
    have h2 : some t_M_property = some mt := h
    cases h2
    exact pe_okM_xs (xs := []) ok_t_M_property
  | 41, h, _ =>
    have h2 : some t_X_shape = some mt := h
    cases h2
    exact pe_okM_xs (xs := []) ok_t_X_shape
  | 42, h, _ =>
    have h2 : some t_M_shape = some mt := h
    cases h2
    exact pe_okM_xs (xs := []) ok_t_M_shape
  | 43, h, _ =>
    have h2 : some t_X_output = some mt := h
    cases h2
    exact pe_okM_xs (xs := []) ok_t_X_output
  | 44, h, _ =>
    have h2 : some t_M_output = some mt := h
    cases h2
    exact pe_okM_xs (xs := []) ok_t_M_output
  | 45, h, _ =>
    have h2 : some t_X_trace = some mt := h
    cases h2
    exact pe_okM_xs (xs := []) ok_t_X_trace
  | 46, h, _ =>
    have h2 : some t_M_trace = some mt := h
    cases h2
    exact pe_okM_xs (xs := []) ok_t_M_trace
  | 47, h, _ =>
    have h2 : some t_X_count = some mt := h
    cases h2
    exact pe_okM_xs (xs := []) ok_t_X_count
  | 48, h, _ =>
    have h2 : some t_M_count = some mt := h
    cases h2
    exact pe_okM_xs (xs := []) ok_t_M_count
  | 49, h, _ =>
    have h2 : some t_XW_init = some mt := h
    cases h2
    exact pe_okM_xs (xs := []) ok_t_XW_init
  | 50, h, _ =>
    have h2 : some t_XR_init = some mt := h
    cases h2
    exact pe_okM_xs (xs := []) ok_t_XR_init
  | 51, h, _ =>
    have h2 : some t_XC_init = some mt := h
    cases h2
    exact pe_okM_xs (xs := []) ok_t_XC_init
  | 52, h, _ =>
    have h2 : some t_XT_init = some mt := h
    cases h2
    exact pe_okM_xs (xs := []) ok_t_XT_init
  | 53, h, _ =>
    have h2 : some t_XP_init = some mt := h
    cases h2
    exact pe_okM_xs (xs := []) ok_t_XP_init
  | 54, h, _ =>
    have h2 : some t_XH_init = some mt := h
    cases h2
    exact pe_okM_xs (xs := []) ok_t_XH_init
  | 55, h, _ =>
    have h2 : some t_XL_init = some mt := h
    cases h2
    exact pe_okM_xs (xs := []) ok_t_XL_init
  | 56, h, _ =>
    have h2 : some t_XO_init = some mt := h
    cases h2
    exact pe_okM_xs (xs := []) ok_t_XO_init
  | 57, h, _ =>
    have h2 : some t_XK_init = some mt := h
    cases h2
    exact pe_okM_xs (xs := []) ok_t_XK_init
  | 58, h, _ =>
    have h2 : some t_MO_init = some mt := h
    cases h2
    exact pe_okM_xs (xs := []) ok_t_MO_init
  | 59, h, _ =>
    have h2 : some t_MI_init = some mt := h
    cases h2
    exact pe_okM_xs (xs := []) ok_t_MI_init
  | 60, h, _ =>
    have h2 : some t_M_anew = some mt := h
    cases h2
    exact pe_okM_xs (xs := []) ok_t_M_anew
  | 61, h, _ =>
    have h2 : some t_X_fedByte = some mt := h
    cases h2
    exact pe_okM_xs (xs := []) ok_t_X_fedByte
  | 62, h, _ =>
    have h2 : some t_X_isSign = some mt := h
    cases h2
    exact pe_okM_xs (xs := []) ok_t_X_isSign
  | 63, h, _ =>
    have h2 : some t_JA_copyOf = some mt := h
    cases h2
    exact pe_okM_xs (xs := []) ok_t_JA_copyOf
  | n + 64, _, hl => exact absurd hl (by omega)
theorem okA_1 (xs : List (Nat × List Int32)) : ∀ mi mt, pe_at (pe_msA.drop 64) mi = some mt → mi < 64 → pe_okM (pe_GA xs) pe_cl pe_ckA mt = true := by
  intro mi mt h hl
  match mi, h, hl with
  | 0, h, _ =>
    have h2 : some t_M_signsIn = some mt := h
    cases h2
    exact pe_okM_xs (xs := []) ok_t_M_signsIn
  | 1, h, _ =>
    have h2 : some t_M_types = some mt := h
    cases h2
    exact pe_okM_xs (xs := []) ok_t_M_types
  | 2, h, _ =>
    have h2 : some t_XT_read = some mt := h
    cases h2
    exact pe_okM_xs (xs := []) ok_t_XT_read
  | 3, h, _ =>
    have h2 : some t_XW_clear = some mt := h
    cases h2
    exact pe_okM_xs (xs := []) ok_t_XW_clear
  | 4, h, _ =>
    have h2 : some t_XC_clear = some mt := h
    cases h2
    exact pe_okM_xs (xs := []) ok_t_XC_clear
  | 5, h, _ =>
    have h2 : some t_XH_clear = some mt := h
    cases h2
    exact pe_okM_xs (xs := []) ok_t_XH_clear
  | 6, h, _ =>
    have h2 : some t_XL_clear = some mt := h
    cases h2
    exact pe_okM_xs (xs := []) ok_t_XL_clear
  | 7, h, _ =>
    have h2 : some t_XK_clear = some mt := h
    cases h2
    exact pe_okM_xs (xs := []) ok_t_XK_clear
  | 8, h, _ =>
    have h2 : some t_M_begins = some mt := h
    cases h2
    exact pe_okM_xs (xs := []) ok_t_M_begins
  | 9, h, _ =>
    have h2 : some t_M_readsClass = some mt := h
    cases h2
    exact pe_okM_xs (xs := []) ok_t_M_readsClass
  | 10, h, _ =>
    have h2 : some t_M_in = some mt := h
    cases h2
    exact pe_okM_xs (xs := []) ok_t_M_in
  | 11, h, _ =>
    have h2 : some t_XO_isSubtype = some mt := h
    cases h2
    exact pe_okM_xs (xs := []) ok_t_XO_isSubtype
  | 12, h, _ =>
    have h2 : some t_MO_isSub = some mt := h
    cases h2
    exact pe_okM_xs (xs := []) ok_t_MO_isSub
  | 13, h, _ =>
    have h2 : some t_XP_read = some mt := h
    cases h2
    exact pe_okM_xs (xs := []) ok_t_XP_read
  | 14, h, _ =>
    have h2 : some t_XP_commit = some mt := h
    cases h2
    exact pe_okM_xs (xs := []) ok_t_XP_commit
  | 15, h, _ =>
    have h2 : some t_MH_of = some mt := h
    cases h2
    exact pe_okM_xs (xs := []) ok_t_MH_of
  | 16, h, _ =>
    have h2 : some t_M_readsUnit = some mt := h
    cases h2
    exact pe_okM_xs (xs := []) ok_t_M_readsUnit
  | 17, h, _ =>
    have h2 : some t_M_keeps = some mt := h
    cases h2
    exact pe_okM_xs (xs := []) ok_t_M_keeps
  | 18, h, _ =>
    have h2 : some t_XH_isStale = some mt := h
    cases h2
    exact pe_okM_xs (xs := []) ok_t_XH_isStale
  | 19, h, _ =>
    have h2 : some t_M_isStale = some mt := h
    cases h2
    exact pe_okM_xs (xs := []) ok_t_M_isStale
  | 20, h, _ =>
    have h2 : some t_XH_hasRoom = some mt := h
    cases h2
    exact pe_okM_xs (xs := []) ok_t_XH_hasRoom
  | 21, h, _ =>
    have h2 : some t_XK_begin = some mt := h
    cases h2
    exact pe_okM_xs (xs := []) ok_t_XK_begin
  | 22, h, _ =>
    have h2 : some t_M_hasRoomForCall = some mt := h
    cases h2
    exact pe_okM_xs (xs := []) ok_t_M_hasRoomForCall
  | 23, h, _ =>
    have h2 : some t_M_takesTask = some mt := h
    cases h2
    exact pe_okM_xs (xs := []) ok_t_M_takesTask
  | 24, h, _ =>
    have h2 : some t_M_newCall = some mt := h
    cases h2
    exact pe_okM_xs (xs := []) ok_t_M_newCall
  | 25, h, _ =>
    have h2 : some t_M_enters = some mt := h
    cases h2
    exact pe_okM_xs (xs := []) ok_t_M_enters
  | 26, h, _ =>
    have h2 : some t_X_steps = some mt := h
    cases h2
    exact pe_okM_xs (xs := []) ok_t_X_steps
  | 27, h, _ =>
    have h2 : some t_M_does = some mt := h
    cases h2
    exact pe_okM_xs (xs := []) ok_t_M_does
  | 28, h, _ =>
    have h2 : some t_M_thrownIs = some mt := h
    cases h2
    exact pe_okM_xs (xs := []) ok_t_M_thrownIs
  | 29, h, _ =>
    have h2 : some t_X_result = some mt := h
    cases h2
    exact pe_okM_xs (xs := []) ok_t_X_result
  | 30, h, _ =>
    have h2 : some t_M_told = some mt := h
    cases h2
    exact pe_okM_xs (xs := []) ok_t_M_told
  | 31, h, _ =>
    have h2 : some t_X_sliceSize = some mt := h
    cases h2
    exact pe_okM_xs (xs := []) ok_t_X_sliceSize
  | 32, h, _ =>
    have h2 : some t_X_sliceStart = some mt := h
    cases h2
    exact pe_okM_xs (xs := []) ok_t_X_sliceStart
  | 33, h, _ =>
    have h2 : some t_X_global = some mt := h
    cases h2
    exact pe_okM_xs (xs := []) ok_t_X_global
  | 34, h, _ =>
    have h2 : some t_M_findName = some mt := h
    cases h2
    exact pe_okM_xs (xs := []) ok_t_M_findName
  | 35, h, _ =>
    have h2 : some t_M_hasShape = some mt := h
    cases h2
    exact pe_okM_xs (xs := []) ok_t_M_hasShape
  | 36, h, _ =>
    have h2 : some t_M_protoOf = some mt := h
    cases h2
    exact pe_okM_xs (xs := []) ok_t_M_protoOf
  | 37, h, _ =>
    have h2 : some t_X_property = some mt := h
    cases h2
    exact pe_okM_xs (xs := []) ok_t_X_property
  | 38, h, _ =>
    have h2 : some t_M_slotAt = some mt := h
    cases h2
    exact pe_okM_xs (xs := []) ok_t_M_slotAt
  | 39, h, _ =>
    have h2 : some t_XH_nameIn = some mt := h
    cases h2
    exact pe_okM_xs (xs := []) ok_t_XH_nameIn
  | 40, h, _ =>
    have h2 : some t_X_countOfRuns = some mt := h
    cases h2
    exact pe_okM_xs (xs := []) ok_t_X_countOfRuns
  | 41, h, _ =>
    have h2 : some t_XW_addAll = some mt := h
    cases h2
    exact pe_okM_xs (xs := []) ok_t_XW_addAll
  | 42, h, _ =>
    have h2 : some t_XV_init = some mt := h
    cases h2
    exact pe_okM_xs (xs := []) ok_t_XV_init
  | 43, h, _ =>
    have h2 : some t_XH_addShape = some mt := h
    cases h2
    exact pe_okM_xs (xs := []) ok_t_XH_addShape
  | 44, h, _ =>
    have h2 : some t_XC_takeEntry = some mt := h
    cases h2
    exact pe_okM_xs (xs := []) ok_t_XC_takeEntry
  | 45, h, _ =>
    have h2 : some t_M_firstType = some mt := h
    cases h2
    exact pe_okM_xs (xs := []) ok_t_M_firstType
  | 46, h, _ =>
    have h2 : some t_JM_min = some mt := h
    cases h2
    exact pe_okM_xs (xs := []) ok_t_JM_min
  | 47, h, _ =>
    have h2 : some t_XO_clear = some mt := h
    cases h2
    exact pe_okM_xs (xs := []) ok_t_XO_clear
  | 48, h, _ =>
    have h2 : some t_XR_read = some mt := h
    cases h2
    exact pe_okM_xs (xs := []) ok_t_XR_read
  | 49, h, _ =>
    have h2 : some t_XT_readClasses = some mt := h
    cases h2
    exact pe_okM_xs (xs := []) ok_t_XT_readClasses
  | 50, h, _ =>
    have h2 : some t_XW_takeBack = some mt := h
    cases h2
    exact pe_okM_xs (xs := []) ok_t_XW_takeBack
  | 51, h, _ =>
    have h2 : some t_JA_fill = some mt := h
    cases h2
    exact pe_okM_xs (xs := []) ok_t_JA_fill
  | 52, h, _ =>
    have h2 : some t_M_next = some mt := h
    cases h2
    exact pe_okM_xs (xs := []) ok_t_M_next
  | 53, h, _ =>
    have h2 : some t_M_isWord = some mt := h
    cases h2
    exact pe_okM_xs (xs := []) ok_t_M_isWord
  | 54, h, _ =>
    have h2 : some t_M_must = some mt := h
    cases h2
    exact pe_okM_xs (xs := []) ok_t_M_must
  | 55, h, _ =>
    have h2 : some t_M_classHere = some mt := h
    cases h2
    exact pe_okM_xs (xs := []) ok_t_M_classHere
  | 56, h, _ =>
    have h2 : some t_M_isOneOf = some mt := h
    cases h2
    exact pe_okM_xs (xs := []) ok_t_M_isOneOf
  | 57, h, _ =>
    have h2 : some t_M_accepts = some mt := h
    cases h2
    exact pe_okM_xs (xs := []) ok_t_M_accepts
  | 58, h, _ =>
    have h2 : some t_M_readsSuper = some mt := h
    cases h2
    exact pe_okM_xs (xs := []) ok_t_M_readsSuper
  | 59, h, _ =>
    have h2 : some t_M_takes = some mt := h
    cases h2
    exact pe_okM_xs (xs := []) ok_t_M_takes
  | 60, h, _ =>
    have h2 : some t_M_isSign = some mt := h
    cases h2
    exact pe_okM_xs (xs := []) ok_t_M_isSign
  | 61, h, _ =>
    have h2 : some t_M_readsMember = some mt := h
    cases h2
    exact pe_okM_xs (xs := []) ok_t_M_readsMember
  | 62, h, _ =>
    have h2 : some t_XW_mark = some mt := h
    cases h2
    exact pe_okM_xs (xs := []) ok_t_XW_mark
  | 63, h, _ =>
    have h2 : some t_XP_readUnit = some mt := h
    cases h2
    exact pe_okM_xs (xs := []) ok_t_XP_readUnit
  | n + 64, _, hl => exact absurd hl (by omega)
theorem okA_2 (xs : List (Nat × List Int32)) : ∀ mi mt, pe_at (pe_msA.drop 128) mi = some mt → mi < 64 → pe_okM (pe_GA xs) pe_cl pe_ckA mt = true := by
  intro mi mt h hl
  match mi, h, hl with
  | 0, h, _ =>
    have h2 : some t_XC_addInstructions = some mt := h
    cases h2
    exact pe_okM_xs (xs := []) ok_t_XC_addInstructions
  | 1, h, _ =>
    have h2 : some t_XP_finish = some mt := h
    cases h2
    exact pe_okM_xs (xs := []) ok_t_XP_finish
  | 2, h, _ =>
    have h2 : some t_M_canBeginStatement = some mt := h
    cases h2
    exact pe_okM_xs (xs := []) ok_t_M_canBeginStatement
  | 3, h, _ =>
    have h2 : some t_M_fault = some mt := h
    cases h2
    exact pe_okM_xs (xs := []) ok_t_M_fault
  | 4, h, _ =>
    have h2 : some t_M_beginsPart = some mt := h
    cases h2
    exact pe_okM_xs (xs := []) ok_t_M_beginsPart
  | 5, h, _ =>
    have h2 : some t_M_into = some mt := h
    cases h2
    exact pe_okM_xs (xs := []) ok_t_M_into
  | 6, h, _ =>
    have h2 : some t_M_statement = some mt := h
    cases h2
    exact pe_okM_xs (xs := []) ok_t_M_statement
  | 7, h, _ =>
    have h2 : some t_M_ends = some mt := h
    cases h2
    exact pe_okM_xs (xs := []) ok_t_M_ends
  | 8, h, _ =>
    have h2 : some t_MP_here = some mt := h
    cases h2
    exact pe_okM_xs (xs := []) ok_t_MP_here
  | 9, h, _ =>
    have h2 : some t_M_keepsPart = some mt := h
    cases h2
    exact pe_okM_xs (xs := []) ok_t_M_keepsPart
  | 10, h, _ =>
    have h2 : some t_XH_protoOf = some mt := h
    cases h2
    exact pe_okM_xs (xs := []) ok_t_XH_protoOf
  | 11, h, _ =>
    have h2 : some t_XH_addCall = some mt := h
    cases h2
    exact pe_okM_xs (xs := []) ok_t_XH_addCall
  | 12, h, _ =>
    have h2 : some t_XK_push = some mt := h
    cases h2
    exact pe_okM_xs (xs := []) ok_t_XK_push
  | 13, h, _ =>
    have h2 : some t_M_hasRoomFor = some mt := h
    cases h2
    exact pe_okM_xs (xs := []) ok_t_M_hasRoomFor
  | 14, h, _ =>
    have h2 : some t_M_setsVariable = some mt := h
    cases h2
    exact pe_okM_xs (xs := []) ok_t_M_setsVariable
  | 15, h, _ =>
    have h2 : some t_XK_step = some mt := h
    cases h2
    exact pe_okM_xs (xs := []) ok_t_XK_step
  | 16, h, _ =>
    have h2 : some t_M_invokes = some mt := h
    cases h2
    exact pe_okM_xs (xs := []) ok_t_M_invokes
  | 17, h, _ =>
    have h2 : some t_M_returns = some mt := h
    cases h2
    exact pe_okM_xs (xs := []) ok_t_M_returns
  | 18, h, _ =>
    have h2 : some t_M_pop = some mt := h
    cases h2
    exact pe_okM_xs (xs := []) ok_t_M_pop
  | 19, h, _ =>
    have h2 : some t_M_variables = some mt := h
    cases h2
    exact pe_okM_xs (xs := []) ok_t_M_variables
  | 20, h, _ =>
    have h2 : some t_M_operators = some mt := h
    cases h2
    exact pe_okM_xs (xs := []) ok_t_M_operators
  | 21, h, _ =>
    have h2 : some t_M_others = some mt := h
    cases h2
    exact pe_okM_xs (xs := []) ok_t_M_others
  | 22, h, _ =>
    have h2 : some t_M_finishes = some mt := h
    cases h2
    exact pe_okM_xs (xs := []) ok_t_M_finishes
  | 23, h, _ =>
    have h2 : some t_M_push = some mt := h
    cases h2
    exact pe_okM_xs (xs := []) ok_t_M_push
  | 24, h, _ =>
    have h2 : some t_X_told = some mt := h
    cases h2
    exact pe_okM_xs (xs := []) ok_t_X_told
  | 25, h, _ =>
    have h2 : some t_XW_nameAt = some mt := h
    cases h2
    exact pe_okM_xs (xs := []) ok_t_XW_nameAt
  | 26, h, _ =>
    have h2 : some t_XW_wordFor = some mt := h
    cases h2
    exact pe_okM_xs (xs := []) ok_t_XW_wordFor
  | 27, h, _ =>
    have h2 : some t_XH_shapeHead = some mt := h
    cases h2
    exact pe_okM_xs (xs := []) ok_t_XH_shapeHead
  | 28, h, _ =>
    have h2 : some t_X_makeRoom = some mt := h
    cases h2
    exact pe_okM_xs (xs := []) ok_t_X_makeRoom
  | 29, h, _ =>
    have h2 : some t_XR_behindBlanks = some mt := h
    cases h2
    exact pe_okM_xs (xs := []) ok_t_XR_behindBlanks
  | 30, h, _ =>
    have h2 : some t_XR_addToken = some mt := h
    cases h2
    exact pe_okM_xs (xs := []) ok_t_XR_addToken
  | 31, h, _ =>
    have h2 : some t_XR_add = some mt := h
    cases h2
    exact pe_okM_xs (xs := []) ok_t_XR_add
  | 32, h, _ =>
    have h2 : some t_XR_kind = some mt := h
    cases h2
    exact pe_okM_xs (xs := []) ok_t_XR_kind
  | 33, h, _ =>
    have h2 : some t_XT_wordHere = some mt := h
    cases h2
    exact pe_okM_xs (xs := []) ok_t_XT_wordHere
  | 34, h, _ =>
    have h2 : some t_XT_refuse = some mt := h
    cases h2
    exact pe_okM_xs (xs := []) ok_t_XT_refuse
  | 35, h, _ =>
    have h2 : some t_XR_next = some mt := h
    cases h2
    exact pe_okM_xs (xs := []) ok_t_XR_next
  | 36, h, _ =>
    have h2 : some t_XT_readClass = some mt := h
    cases h2
    exact pe_okM_xs (xs := []) ok_t_XT_readClass
  | 37, h, _ =>
    have h2 : some t_XW_headOf = some mt := h
    cases h2
    exact pe_okM_xs (xs := []) ok_t_XW_headOf
  | 38, h, _ =>
    have h2 : some t_M_at = some mt := h
    cases h2
    exact pe_okM_xs (xs := []) ok_t_M_at
  | 39, h, _ =>
    have h2 : some t_M_isLetter = some mt := h
    cases h2
    exact pe_okM_xs (xs := []) ok_t_M_isLetter
  | 40, h, _ =>
    have h2 : some t_M_isDigit = some mt := h
    cases h2
    exact pe_okM_xs (xs := []) ok_t_M_isDigit
  | 41, h, _ =>
    have h2 : some t_M_reads = some mt := h
    cases h2
    exact pe_okM_xs (xs := []) ok_t_M_reads
  | 42, h, _ =>
    have h2 : some t_M_signs = some mt := h
    cases h2
    exact pe_okM_xs (xs := []) ok_t_M_signs
  | 43, h, _ =>
    have h2 : some t_M_place = some mt := h
    cases h2
    exact pe_okM_xs (xs := []) ok_t_M_place
  | 44, h, _ =>
    have h2 : some t_M_readsParameters = some mt := h
    cases h2
    exact pe_okM_xs (xs := []) ok_t_M_readsParameters
  | 45, h, _ =>
    have h2 : some t_M_readsType = some mt := h
    cases h2
    exact pe_okM_xs (xs := []) ok_t_M_readsType
  | 46, h, _ =>
    have h2 : some t_M_readsField = some mt := h
    cases h2
    exact pe_okM_xs (xs := []) ok_t_M_readsField
  | 47, h, _ =>
    have h2 : some t_XP_beginsStatement = some mt := h
    cases h2
    exact pe_okM_xs (xs := []) ok_t_XP_beginsStatement
  | 48, h, _ =>
    have h2 : some t_XP_refuse = some mt := h
    cases h2
    exact pe_okM_xs (xs := []) ok_t_XP_refuse
  | 49, h, _ =>
    have h2 : some t_XP_addFunction = some mt := h
    cases h2
    exact pe_okM_xs (xs := []) ok_t_XP_addFunction
  | 50, h, _ =>
    have h2 : some t_XP_readStatements = some mt := h
    cases h2
    exact pe_okM_xs (xs := []) ok_t_XP_readStatements
  | 51, h, _ =>
    have h2 : some t_XP_endFunction = some mt := h
    cases h2
    exact pe_okM_xs (xs := []) ok_t_XP_endFunction
  | 52, h, _ =>
    have h2 : some t_JM_max = some mt := h
    cases h2
    exact pe_okM_xs (xs := []) ok_t_JM_max
  | 53, h, _ =>
    have h2 : some t_JA_copyOf_2 = some mt := h
    cases h2
    exact pe_okM_xs (xs := []) ok_t_JA_copyOf_2
  | 54, h, _ =>
    have h2 : some t_XC_addSite = some mt := h
    cases h2
    exact pe_okM_xs (xs := []) ok_t_XC_addSite
  | 55, h, _ =>
    have h2 : some t_XP_resolve = some mt := h
    cases h2
    exact pe_okM_xs (xs := []) ok_t_XP_resolve
  | 56, h, _ =>
    have h2 : some t_M_canBeginValue = some mt := h
    cases h2
    exact pe_okM_xs (xs := []) ok_t_M_canBeginValue
  | 57, h, _ =>
    have h2 : some t_MP_init = some mt := h
    cases h2
    exact pe_okM_xs (xs := []) ok_t_MP_init
  | 58, h, _ =>
    have h2 : some t_MP_begin = some mt := h
    cases h2
    exact pe_okM_xs (xs := []) ok_t_MP_begin
  | 59, h, _ =>
    have h2 : some t_M_declares = some mt := h
    cases h2
    exact pe_okM_xs (xs := []) ok_t_M_declares
  | 60, h, _ =>
    have h2 : some t_M_value = some mt := h
    cases h2
    exact pe_okM_xs (xs := []) ok_t_M_value
  | 61, h, _ =>
    have h2 : some t_M_emits = some mt := h
    cases h2
    exact pe_okM_xs (xs := []) ok_t_M_emits
  | 62, h, _ =>
    have h2 : some t_M_readsFunction = some mt := h
    cases h2
    exact pe_okM_xs (xs := []) ok_t_M_readsFunction
  | 63, h, _ =>
    have h2 : some t_M_choice = some mt := h
    cases h2
    exact pe_okM_xs (xs := []) ok_t_M_choice
  | n + 64, _, hl => exact absurd hl (by omega)
theorem okA_3 (xs : List (Nat × List Int32)) : ∀ mi mt, pe_at (pe_msA.drop 192) mi = some mt → mi < 64 → pe_okM (pe_GA xs) pe_cl pe_ckA mt = true := by
  intro mi mt h hl
  match mi, h, hl with
  | 0, h, _ =>
    have h2 : some t_M_opens = some mt := h
    cases h2
    exact pe_okM_xs (xs := []) ok_t_M_opens
  | 1, h, _ =>
    have h2 : some t_M_closes = some mt := h
    cases h2
    exact pe_okM_xs (xs := []) ok_t_M_closes
  | 2, h, _ =>
    have h2 : some t_M_block = some mt := h
    cases h2
    exact pe_okM_xs (xs := []) ok_t_M_block
  | 3, h, _ =>
    have h2 : some t_MI_set = some mt := h
    cases h2
    exact pe_okM_xs (xs := []) ok_t_MI_set
  | 4, h, _ =>
    have h2 : some t_M_leaves = some mt := h
    cases h2
    exact pe_okM_xs (xs := []) ok_t_M_leaves
  | 5, h, _ =>
    have h2 : some t_M_tries = some mt := h
    cases h2
    exact pe_okM_xs (xs := []) ok_t_M_tries
  | 6, h, _ =>
    have h2 : some t_MP_find = some mt := h
    cases h2
    exact pe_okM_xs (xs := []) ok_t_MP_find
  | 7, h, _ =>
    have h2 : some t_M_keepsSite = some mt := h
    cases h2
    exact pe_okM_xs (xs := []) ok_t_M_keepsSite
  | 8, h, _ =>
    have h2 : some t_XH_takeCells = some mt := h
    cases h2
    exact pe_okM_xs (xs := []) ok_t_XH_takeCells
  | 9, h, _ =>
    have h2 : some t_XL_aim = some mt := h
    cases h2
    exact pe_okM_xs (xs := []) ok_t_XL_aim
  | 10, h, _ =>
    have h2 : some t_XL_held = some mt := h
    cases h2
    exact pe_okM_xs (xs := []) ok_t_XL_held
  | 11, h, _ =>
    have h2 : some t_XL_look = some mt := h
    cases h2
    exact pe_okM_xs (xs := []) ok_t_XL_look
  | 12, h, _ =>
    have h2 : some t_XL_act = some mt := h
    cases h2
    exact pe_okM_xs (xs := []) ok_t_XL_act
  | 13, h, _ =>
    have h2 : some t_XK_pushes = some mt := h
    cases h2
    exact pe_okM_xs (xs := []) ok_t_XK_pushes
  | 14, h, _ =>
    have h2 : some t_XK_operate = some mt := h
    cases h2
    exact pe_okM_xs (xs := []) ok_t_XK_operate
  | 15, h, _ =>
    have h2 : some t_XK_callBuiltin = some mt := h
    cases h2
    exact pe_okM_xs (xs := []) ok_t_XK_callBuiltin
  | 16, h, _ =>
    have h2 : some t_XK_perform = some mt := h
    cases h2
    exact pe_okM_xs (xs := []) ok_t_XK_perform
  | 17, h, _ =>
    have h2 : some t_XK_raise = some mt := h
    cases h2
    exact pe_okM_xs (xs := []) ok_t_XK_raise
  | 18, h, _ =>
    have h2 : some t_M_h = some mt := h
    cases h2
    exact pe_okM_xs (xs := []) ok_t_M_h
  | 19, h, _ =>
    have h2 : some t_M_namesElement = some mt := h
    cases h2
    exact pe_okM_xs (xs := []) ok_t_M_namesElement
  | 20, h, _ =>
    have h2 : some t_M_copies = some mt := h
    cases h2
    exact pe_okM_xs (xs := []) ok_t_M_copies
  | 21, h, _ =>
    have h2 : some t_M_guards = some mt := h
    cases h2
    exact pe_okM_xs (xs := []) ok_t_M_guards
  | 22, h, _ =>
    have h2 : some t_M_hits = some mt := h
    cases h2
    exact pe_okM_xs (xs := []) ok_t_M_hits
  | 23, h, _ =>
    have h2 : some t_M_looks = some mt := h
    cases h2
    exact pe_okM_xs (xs := []) ok_t_M_looks
  | 24, h, _ =>
    have h2 : some t_M_links = some mt := h
    cases h2
    exact pe_okM_xs (xs := []) ok_t_M_links
  | 25, h, _ =>
    have h2 : some t_M_acts = some mt := h
    cases h2
    exact pe_okM_xs (xs := []) ok_t_M_acts
  | 26, h, _ =>
    have h2 : some t_M_is = some mt := h
    cases h2
    exact pe_okM_xs (xs := []) ok_t_M_is
  | 27, h, _ =>
    have h2 : some t_M_callOut = some mt := h
    cases h2
    exact pe_okM_xs (xs := []) ok_t_M_callOut
  | 28, h, _ =>
    have h2 : some t_M_mayPile = some mt := h
    cases h2
    exact pe_okM_xs (xs := []) ok_t_M_mayPile
  | 29, h, _ =>
    have h2 : some t_M_error = some mt := h
    cases h2
    exact pe_okM_xs (xs := []) ok_t_M_error
  | 30, h, _ =>
    have h2 : some t_M_isNot = some mt := h
    cases h2
    exact pe_okM_xs (xs := []) ok_t_M_isNot
  | 31, h, _ =>
    have h2 : some t_M_numbers = some mt := h
    cases h2
    exact pe_okM_xs (xs := []) ok_t_M_numbers
  | 32, h, _ =>
    have h2 : some t_M_compares = some mt := h
    cases h2
    exact pe_okM_xs (xs := []) ok_t_M_compares
  | 33, h, _ =>
    have h2 : some t_M_room = some mt := h
    cases h2
    exact pe_okM_xs (xs := []) ok_t_M_room
  | 34, h, _ =>
    have h2 : some t_M_newThing = some mt := h
    cases h2
    exact pe_okM_xs (xs := []) ok_t_M_newThing
  | 35, h, _ =>
    have h2 : some t_M_list = some mt := h
    cases h2
    exact pe_okM_xs (xs := []) ok_t_M_list
  | 36, h, _ =>
    have h2 : some t_M_builtins = some mt := h
    cases h2
    exact pe_okM_xs (xs := []) ok_t_M_builtins
  | 37, h, _ =>
    have h2 : some t_XW_wordAt = some mt := h
    cases h2
    exact pe_okM_xs (xs := []) ok_t_XW_wordAt
  | 38, h, _ =>
    have h2 : some t_XW_append = some mt := h
    cases h2
    exact pe_okM_xs (xs := []) ok_t_XW_append
  | 39, h, _ =>
    have h2 : some t_XR_signAt = some mt := h
    cases h2
    exact pe_okM_xs (xs := []) ok_t_XR_signAt
  | 40, h, _ =>
    have h2 : some t_X_beginsName = some mt := h
    cases h2
    exact pe_okM_xs (xs := []) ok_t_X_beginsName
  | 41, h, _ =>
    have h2 : some t_XR_addName = some mt := h
    cases h2
    exact pe_okM_xs (xs := []) ok_t_XR_addName
  | 42, h, _ =>
    have h2 : some t_X_isDigit = some mt := h
    cases h2
    exact pe_okM_xs (xs := []) ok_t_X_isDigit
  | 43, h, _ =>
    have h2 : some t_XR_addNumber = some mt := h
    cases h2
    exact pe_okM_xs (xs := []) ok_t_XR_addNumber
  | 44, h, _ =>
    have h2 : some t_XR_addText = some mt := h
    cases h2
    exact pe_okM_xs (xs := []) ok_t_XR_addText
  | 45, h, _ =>
    have h2 : some t_XR_addSign = some mt := h
    cases h2
    exact pe_okM_xs (xs := []) ok_t_XR_addSign
  | 46, h, _ =>
    have h2 : some t_XR_value = some mt := h
    cases h2
    exact pe_okM_xs (xs := []) ok_t_XR_value
  | 47, h, _ =>
    have h2 : some t_XO_classTyped = some mt := h
    cases h2
    exact pe_okM_xs (xs := []) ok_t_XO_classTyped
  | 48, h, _ =>
    have h2 : some t_XT_readSupers = some mt := h
    cases h2
    exact pe_okM_xs (xs := []) ok_t_XT_readSupers
  | 49, h, _ =>
    have h2 : some t_XO_addClass = some mt := h
    cases h2
    exact pe_okM_xs (xs := []) ok_t_XO_addClass
  | 50, h, _ =>
    have h2 : some t_XO_setOrder = some mt := h
    cases h2
    exact pe_okM_xs (xs := []) ok_t_XO_setOrder
  | 51, h, _ =>
    have h2 : some t_XT_take = some mt := h
    cases h2
    exact pe_okM_xs (xs := []) ok_t_XT_take
  | 52, h, _ =>
    have h2 : some t_XT_readHead = some mt := h
    cases h2
    exact pe_okM_xs (xs := []) ok_t_XT_readHead
  | 53, h, _ =>
    have h2 : some t_XT_readParameters = some mt := h
    cases h2
    exact pe_okM_xs (xs := []) ok_t_XT_readParameters
  | 54, h, _ =>
    have h2 : some t_XO_endClass = some mt := h
    cases h2
    exact pe_okM_xs (xs := []) ok_t_XO_endClass
  | 55, h, _ =>
    have h2 : some t_M_sameOnTape = some mt := h
    cases h2
    exact pe_okM_xs (xs := []) ok_t_M_sameOnTape
  | 56, h, _ =>
    have h2 : some t_MO_haveSameTypes = some mt := h
    cases h2
    exact pe_okM_xs (xs := []) ok_t_MO_haveSameTypes
  | 57, h, _ =>
    have h2 : some t_XP_beginsExpression = some mt := h
    cases h2
    exact pe_okM_xs (xs := []) ok_t_XP_beginsExpression
  | 58, h, _ =>
    have h2 : some t_XP_readVar = some mt := h
    cases h2
    exact pe_okM_xs (xs := []) ok_t_XP_readVar
  | 59, h, _ =>
    have h2 : some t_XP_readFun = some mt := h
    cases h2
    exact pe_okM_xs (xs := []) ok_t_XP_readFun
  | 60, h, _ =>
    have h2 : some t_XP_readIf = some mt := h
    cases h2
    exact pe_okM_xs (xs := []) ok_t_XP_readIf
  | 61, h, _ =>
    have h2 : some t_XP_readWhile = some mt := h
    cases h2
    exact pe_okM_xs (xs := []) ok_t_XP_readWhile
  | 62, h, _ =>
    have h2 : some t_XP_readLeaving = some mt := h
    cases h2
    exact pe_okM_xs (xs := []) ok_t_XP_readLeaving
  | 63, h, _ =>
    have h2 : some t_XP_readTry = some mt := h
    cases h2
    exact pe_okM_xs (xs := []) ok_t_XP_readTry
  | n + 64, _, hl => exact absurd hl (by omega)
theorem okA_4 (xs : List (Nat × List Int32)) : ∀ mi mt, pe_at (pe_msA.drop 256) mi = some mt → mi < 64 → pe_okM (pe_GA xs) pe_cl pe_ckA mt = true := by
  intro mi mt h hl
  match mi, h, hl with
  | 0, h, _ =>
    have h2 : some t_XP_readPlain = some mt := h
    cases h2
    exact pe_okM_xs (xs := []) ok_t_XP_readPlain
  | 1, h, _ =>
    have h2 : some t_XP_note = some mt := h
    cases h2
    exact pe_okM_xs (xs := []) ok_t_XP_note
  | 2, h, _ =>
    have h2 : some t_XC_descriptorOf = some mt := h
    cases h2
    exact pe_okM_xs (xs := []) ok_t_XC_descriptorOf
  | 3, h, _ =>
    have h2 : some t_XP_variableOf = some mt := h
    cases h2
    exact pe_okM_xs (xs := []) ok_t_XP_variableOf
  | 4, h, _ =>
    have h2 : some t_M_isName = some mt := h
    cases h2
    exact pe_okM_xs (xs := []) ok_t_M_isName
  | 5, h, _ =>
    have h2 : some t_M_takesName = some mt := h
    cases h2
    exact pe_okM_xs (xs := []) ok_t_M_takesName
  | 6, h, _ =>
    have h2 : some t_M_or = some mt := h
    cases h2
    exact pe_okM_xs (xs := []) ok_t_M_or
  | 7, h, _ =>
    have h2 : some t_M_deeper = some mt := h
    cases h2
    exact pe_okM_xs (xs := []) ok_t_M_deeper
  | 8, h, _ =>
    have h2 : some t_M_dropsSite = some mt := h
    cases h2
    exact pe_okM_xs (xs := []) ok_t_M_dropsSite
  | 9, h, _ =>
    have h2 : some t_MP_drop = some mt := h
    cases h2
    exact pe_okM_xs (xs := []) ok_t_MP_drop
  | 10, h, _ =>
    have h2 : some t_M_newSite = some mt := h
    cases h2
    exact pe_okM_xs (xs := []) ok_t_M_newSite
  | 11, h, _ =>
    have h2 : some t_MP_add = some mt := h
    cases h2
    exact pe_okM_xs (xs := []) ok_t_MP_add
  | 12, h, _ =>
    have h2 : some t_M_parameter = some mt := h
    cases h2
    exact pe_okM_xs (xs := []) ok_t_M_parameter
  | 13, h, _ =>
    have h2 : some t_JA_copyOf_3 = some mt := h
    cases h2
    exact pe_okM_xs (xs := []) ok_t_JA_copyOf_3
  | 14, h, _ =>
    have h2 : some t_XH_classOf = some mt := h
    cases h2
    exact pe_okM_xs (xs := []) ok_t_XH_classOf
  | 15, h, _ =>
    have h2 : some t_XL_isHolder = some mt := h
    cases h2
    exact pe_okM_xs (xs := []) ok_t_XL_isHolder
  | 16, h, _ =>
    have h2 : some t_XL_elementName = some mt := h
    cases h2
    exact pe_okM_xs (xs := []) ok_t_XL_elementName
  | 17, h, _ =>
    have h2 : some t_XC_removeEntry = some mt := h
    cases h2
    exact pe_okM_xs (xs := []) ok_t_XC_removeEntry
  | 18, h, _ =>
    have h2 : some t_XL_holds = some mt := h
    cases h2
    exact pe_okM_xs (xs := []) ok_t_XL_holds
  | 19, h, _ =>
    have h2 : some t_XL_isRight = some mt := h
    cases h2
    exact pe_okM_xs (xs := []) ok_t_XL_isRight
  | 20, h, _ =>
    have h2 : some t_XL_lookAtThing = some mt := h
    cases h2
    exact pe_okM_xs (xs := []) ok_t_XL_lookAtThing
  | 21, h, _ =>
    have h2 : some t_XL_lookAtRow = some mt := h
    cases h2
    exact pe_okM_xs (xs := []) ok_t_XL_lookAtRow
  | 22, h, _ =>
    have h2 : some t_XL_lookAtHost = some mt := h
    cases h2
    exact pe_okM_xs (xs := []) ok_t_XL_lookAtHost
  | 23, h, _ =>
    have h2 : some t_XL_link = some mt := h
    cases h2
    exact pe_okM_xs (xs := []) ok_t_XL_link
  | 24, h, _ =>
    have h2 : some t_XL_makeNew = some mt := h
    cases h2
    exact pe_okM_xs (xs := []) ok_t_XL_makeNew
  | 25, h, _ =>
    have h2 : some t_XL_actOnThing = some mt := h
    cases h2
    exact pe_okM_xs (xs := []) ok_t_XL_actOnThing
  | 26, h, _ =>
    have h2 : some t_XL_actOnText = some mt := h
    cases h2
    exact pe_okM_xs (xs := []) ok_t_XL_actOnText
  | 27, h, _ =>
    have h2 : some t_XL_actOnElement = some mt := h
    cases h2
    exact pe_okM_xs (xs := []) ok_t_XL_actOnElement
  | 28, h, _ =>
    have h2 : some t_XL_actOnList = some mt := h
    cases h2
    exact pe_okM_xs (xs := []) ok_t_XL_actOnList
  | 29, h, _ =>
    have h2 : some t_XL_actOnField = some mt := h
    cases h2
    exact pe_okM_xs (xs := []) ok_t_XL_actOnField
  | 30, h, _ =>
    have h2 : some t_XL_callMember = some mt := h
    cases h2
    exact pe_okM_xs (xs := []) ok_t_XL_callMember
  | 31, h, _ =>
    have h2 : some t_XK_isNot = some mt := h
    cases h2
    exact pe_okM_xs (xs := []) ok_t_XK_isNot
  | 32, h, _ =>
    have h2 : some t_XK_give = some mt := h
    cases h2
    exact pe_okM_xs (xs := []) ok_t_XK_give
  | 33, h, _ =>
    have h2 : some t_XK_areEqual = some mt := h
    cases h2
    exact pe_okM_xs (xs := []) ok_t_XK_areEqual
  | 34, h, _ =>
    have h2 : some t_XK_operateOnNumbers = some mt := h
    cases h2
    exact pe_okM_xs (xs := []) ok_t_XK_operateOnNumbers
  | 35, h, _ =>
    have h2 : some t_XK_join = some mt := h
    cases h2
    exact pe_okM_xs (xs := []) ok_t_XK_join
  | 36, h, _ =>
    have h2 : some t_XW_compare = some mt := h
    cases h2
    exact pe_okM_xs (xs := []) ok_t_XW_compare
  | 37, h, _ =>
    have h2 : some t_XK_isOrdered = some mt := h
    cases h2
    exact pe_okM_xs (xs := []) ok_t_XK_isOrdered
  | 38, h, _ =>
    have h2 : some t_XK_print = some mt := h
    cases h2
    exact pe_okM_xs (xs := []) ok_t_XK_print
  | 39, h, _ =>
    have h2 : some t_XK_isPrototype = some mt := h
    cases h2
    exact pe_okM_xs (xs := []) ok_t_XK_isPrototype
  | 40, h, _ =>
    have h2 : some t_XK_makeObject = some mt := h
    cases h2
    exact pe_okM_xs (xs := []) ok_t_XK_makeObject
  | 41, h, _ =>
    have h2 : some t_XK_isHolder = some mt := h
    cases h2
    exact pe_okM_xs (xs := []) ok_t_XK_isHolder
  | 42, h, _ =>
    have h2 : some t_XK_turn = some mt := h
    cases h2
    exact pe_okM_xs (xs := []) ok_t_XK_turn
  | 43, h, _ =>
    have h2 : some t_XK_askFor = some mt := h
    cases h2
    exact pe_okM_xs (xs := []) ok_t_XK_askFor
  | 44, h, _ =>
    have h2 : some t_XK_tellKind = some mt := h
    cases h2
    exact pe_okM_xs (xs := []) ok_t_XK_tellKind
  | 45, h, _ =>
    have h2 : some t_XK_giveClass = some mt := h
    cases h2
    exact pe_okM_xs (xs := []) ok_t_XK_giveClass
  | 46, h, _ =>
    have h2 : some t_XK_pushConstant = some mt := h
    cases h2
    exact pe_okM_xs (xs := []) ok_t_XK_pushConstant
  | 47, h, _ =>
    have h2 : some t_XK_variablesOut = some mt := h
    cases h2
    exact pe_okM_xs (xs := []) ok_t_XK_variablesOut
  | 48, h, _ =>
    have h2 : some t_XV_put = some mt := h
    cases h2
    exact pe_okM_xs (xs := []) ok_t_XV_put
  | 49, h, _ =>
    have h2 : some t_XK_loadGlobal = some mt := h
    cases h2
    exact pe_okM_xs (xs := []) ok_t_XK_loadGlobal
  | 50, h, _ =>
    have h2 : some t_XK_storeGlobal = some mt := h
    cases h2
    exact pe_okM_xs (xs := []) ok_t_XK_storeGlobal
  | 51, h, _ =>
    have h2 : some t_XK_makeFun = some mt := h
    cases h2
    exact pe_okM_xs (xs := []) ok_t_XK_makeFun
  | 52, h, _ =>
    have h2 : some t_XK_makeList = some mt := h
    cases h2
    exact pe_okM_xs (xs := []) ok_t_XK_makeList
  | 53, h, _ =>
    have h2 : some t_XK_goOn = some mt := h
    cases h2
    exact pe_okM_xs (xs := []) ok_t_XK_goOn
  | 54, h, _ =>
    have h2 : some t_XK_end = some mt := h
    cases h2
    exact pe_okM_xs (xs := []) ok_t_XK_end
  | 55, h, _ =>
    have h2 : some t_XV_add = some mt := h
    cases h2
    exact pe_okM_xs (xs := []) ok_t_XV_add
  | 56, h, _ =>
    have h2 : some t_M_addName = some mt := h
    cases h2
    exact pe_okM_xs (xs := []) ok_t_M_addName
  | 57, h, _ =>
    have h2 : some t_M_typeOf = some mt := h
    cases h2
    exact pe_okM_xs (xs := []) ok_t_M_typeOf
  | 58, h, _ =>
    have h2 : some t_M_looksAtThing = some mt := h
    cases h2
    exact pe_okM_xs (xs := []) ok_t_M_looksAtThing
  | 59, h, _ =>
    have h2 : some t_M_looksAtRow = some mt := h
    cases h2
    exact pe_okM_xs (xs := []) ok_t_M_looksAtRow
  | 60, h, _ =>
    have h2 : some t_M_looksAtHost = some mt := h
    cases h2
    exact pe_okM_xs (xs := []) ok_t_M_looksAtHost
  | 61, h, _ =>
    have h2 : some t_M_actsOnThing = some mt := h
    cases h2
    exact pe_okM_xs (xs := []) ok_t_M_actsOnThing
  | 62, h, _ =>
    have h2 : some t_M_actsOnRow = some mt := h
    cases h2
    exact pe_okM_xs (xs := []) ok_t_M_actsOnRow
  | 63, h, _ =>
    have h2 : some t_M_actsOnHost = some mt := h
    cases h2
    exact pe_okM_xs (xs := []) ok_t_M_actsOnHost
  | n + 64, _, hl => exact absurd hl (by omega)
theorem okA_5 (xs : List (Nat × List Int32)) : ∀ mi mt, pe_at (pe_msA.drop 320) mi = some mt → mi < 64 → pe_okM (pe_GA xs) pe_cl pe_ckA mt = true := by
  intro mi mt h hl
  match mi, h, hl with
  | 0, h, _ =>
    have h2 : some t_M_prints = some mt := h
    cases h2
    exact pe_okM_xs (xs := []) ok_t_M_prints
  | 1, h, _ =>
    have h2 : some t_M_joined = some mt := h
    cases h2
    exact pe_okM_xs (xs := []) ok_t_M_joined
  | 2, h, _ =>
    have h2 : some t_M_alike = some mt := h
    cases h2
    exact pe_okM_xs (xs := []) ok_t_M_alike
  | 3, h, _ =>
    have h2 : some t_JL_compare = some mt := h
    cases h2
    exact pe_okM_xs (xs := []) ok_t_JL_compare
  | 4, h, _ =>
    have h2 : some t_M_compareTexts = some mt := h
    cases h2
    exact pe_okM_xs (xs := []) ok_t_M_compareTexts
  | 5, h, _ =>
    have h2 : some t_M_addSlot = some mt := h
    cases h2
    exact pe_okM_xs (xs := []) ok_t_M_addSlot
  | 6, h, _ =>
    have h2 : some t_M_shows = some mt := h
    cases h2
    exact pe_okM_xs (xs := []) ok_t_M_shows
  | 7, h, _ =>
    have h2 : some t_M_put = some mt := h
    cases h2
    exact pe_okM_xs (xs := []) ok_t_M_put
  | 8, h, _ =>
    have h2 : some t_M_madeShape = some mt := h
    cases h2
    exact pe_okM_xs (xs := []) ok_t_M_madeShape
  | 9, h, _ =>
    have h2 : some t_M_puts = some mt := h
    cases h2
    exact pe_okM_xs (xs := []) ok_t_M_puts
  | 10, h, _ =>
    have h2 : some t_M_turns = some mt := h
    cases h2
    exact pe_okM_xs (xs := []) ok_t_M_turns
  | 11, h, _ =>
    have h2 : some t_M_drops = some mt := h
    cases h2
    exact pe_okM_xs (xs := []) ok_t_M_drops
  | 12, h, _ =>
    have h2 : some t_M_has = some mt := h
    cases h2
    exact pe_okM_xs (xs := []) ok_t_M_has
  | 13, h, _ =>
    have h2 : some t_M_spellKind = some mt := h
    cases h2
    exact pe_okM_xs (xs := []) ok_t_M_spellKind
  | 14, h, _ =>
    have h2 : some t_M_madeText = some mt := h
    cases h2
    exact pe_okM_xs (xs := []) ok_t_M_madeText
  | 15, h, _ =>
    have h2 : some t_M_classNamed = some mt := h
    cases h2
    exact pe_okM_xs (xs := []) ok_t_M_classNamed
  | 16, h, _ =>
    have h2 : some t_XW_isWord = some mt := h
    cases h2
    exact pe_okM_xs (xs := []) ok_t_XW_isWord
  | 17, h, _ =>
    have h2 : some t_X_isCapital = some mt := h
    cases h2
    exact pe_okM_xs (xs := []) ok_t_X_isCapital
  | 18, h, _ =>
    have h2 : some t_X_isSmall = some mt := h
    cases h2
    exact pe_okM_xs (xs := []) ok_t_X_isSmall
  | 19, h, _ =>
    have h2 : some t_XR_addBad = some mt := h
    cases h2
    exact pe_okM_xs (xs := []) ok_t_XR_addBad
  | 20, h, _ =>
    have h2 : some t_XW_nameFor = some mt := h
    cases h2
    exact pe_okM_xs (xs := []) ok_t_XW_nameFor
  | 21, h, _ =>
    have h2 : some t_XR_escaped = some mt := h
    cases h2
    exact pe_okM_xs (xs := []) ok_t_XR_escaped
  | 22, h, _ =>
    have h2 : some t_XW_textFor = some mt := h
    cases h2
    exact pe_okM_xs (xs := []) ok_t_XW_textFor
  | 23, h, _ =>
    have h2 : some t_XT_isSuper = some mt := h
    cases h2
    exact pe_okM_xs (xs := []) ok_t_XT_isSuper
  | 24, h, _ =>
    have h2 : some t_XO_addToOrder = some mt := h
    cases h2
    exact pe_okM_xs (xs := []) ok_t_XO_addToOrder
  | 25, h, _ =>
    have h2 : some t_XO_addOrder = some mt := h
    cases h2
    exact pe_okM_xs (xs := []) ok_t_XO_addOrder
  | 26, h, _ =>
    have h2 : some t_XT_typeHere = some mt := h
    cases h2
    exact pe_okM_xs (xs := []) ok_t_XT_typeHere
  | 27, h, _ =>
    have h2 : some t_XO_addMember = some mt := h
    cases h2
    exact pe_okM_xs (xs := []) ok_t_XO_addMember
  | 28, h, _ =>
    have h2 : some t_XT_readName = some mt := h
    cases h2
    exact pe_okM_xs (xs := []) ok_t_XT_readName
  | 29, h, _ =>
    have h2 : some t_XO_isToldAlready = some mt := h
    cases h2
    exact pe_okM_xs (xs := []) ok_t_XO_isToldAlready
  | 30, h, _ =>
    have h2 : some t_XO_layOut = some mt := h
    cases h2
    exact pe_okM_xs (xs := []) ok_t_XO_layOut
  | 31, h, _ =>
    have h2 : some t_XO_fieldOf = some mt := h
    cases h2
    exact pe_okM_xs (xs := []) ok_t_XO_fieldOf
  | 32, h, _ =>
    have h2 : some t_XP_takeVariable = some mt := h
    cases h2
    exact pe_okM_xs (xs := []) ok_t_XP_takeVariable
  | 33, h, _ =>
    have h2 : some t_XP_readExpression = some mt := h
    cases h2
    exact pe_okM_xs (xs := []) ok_t_XP_readExpression
  | 34, h, _ =>
    have h2 : some t_XP_take = some mt := h
    cases h2
    exact pe_okM_xs (xs := []) ok_t_XP_take
  | 35, h, _ =>
    have h2 : some t_XP_enterFunction = some mt := h
    cases h2
    exact pe_okM_xs (xs := []) ok_t_XP_enterFunction
  | 36, h, _ =>
    have h2 : some t_XP_leaveFunction = some mt := h
    cases h2
    exact pe_okM_xs (xs := []) ok_t_XP_leaveFunction
  | 37, h, _ =>
    have h2 : some t_XP_readCondition = some mt := h
    cases h2
    exact pe_okM_xs (xs := []) ok_t_XP_readCondition
  | 38, h, _ =>
    have h2 : some t_XP_readBlock = some mt := h
    cases h2
    exact pe_okM_xs (xs := []) ok_t_XP_readBlock
  | 39, h, _ =>
    have h2 : some t_XP_aimHere = some mt := h
    cases h2
    exact pe_okM_xs (xs := []) ok_t_XP_aimHere
  | 40, h, _ =>
    have h2 : some t_XP_here = some mt := h
    cases h2
    exact pe_okM_xs (xs := []) ok_t_XP_here
  | 41, h, _ =>
    have h2 : some t_XP_open = some mt := h
    cases h2
    exact pe_okM_xs (xs := []) ok_t_XP_open
  | 42, h, _ =>
    have h2 : some t_M_isKeyword = some mt := h
    cases h2
    exact pe_okM_xs (xs := []) ok_t_M_isKeyword
  | 43, h, _ =>
    have h2 : some t_M_and = some mt := h
    cases h2
    exact pe_okM_xs (xs := []) ok_t_M_and
  | 44, h, _ =>
    have h2 : some t_MI_add = some mt := h
    cases h2
    exact pe_okM_xs (xs := []) ok_t_MI_add
  | 45, h, _ =>
    have h2 : some t_XL_holdsOn = some mt := h
    cases h2
    exact pe_okM_xs (xs := []) ok_t_XL_holdsOn
  | 46, h, _ =>
    have h2 : some t_XL_holdsForEs = some mt := h
    cases h2
    exact pe_okM_xs (xs := []) ok_t_XL_holdsForEs
  | 47, h, _ =>
    have h2 : some t_XH_indexIn = some mt := h
    cases h2
    exact pe_okM_xs (xs := []) ok_t_XH_indexIn
  | 48, h, _ =>
    have h2 : some t_XH_shapeBehind = some mt := h
    cases h2
    exact pe_okM_xs (xs := []) ok_t_XH_shapeBehind
  | 49, h, _ =>
    have h2 : some t_XH_holderOf = some mt := h
    cases h2
    exact pe_okM_xs (xs := []) ok_t_XH_holderOf
  | 50, h, _ =>
    have h2 : some t_XH_reachShape = some mt := h
    cases h2
    exact pe_okM_xs (xs := []) ok_t_XH_reachShape
  | 51, h, _ =>
    have h2 : some t_XL_getter = some mt := h
    cases h2
    exact pe_okM_xs (xs := []) ok_t_XL_getter
  | 52, h, _ =>
    have h2 : some t_XL_wordBehind = some mt := h
    cases h2
    exact pe_okM_xs (xs := []) ok_t_XL_wordBehind
  | 53, h, _ =>
    have h2 : some t_XO_choose = some mt := h
    cases h2
    exact pe_okM_xs (xs := []) ok_t_XO_choose
  | 54, h, _ =>
    have h2 : some t_XL_fieldOf = some mt := h
    cases h2
    exact pe_okM_xs (xs := []) ok_t_XL_fieldOf
  | 55, h, _ =>
    have h2 : some t_XL_removeLast = some mt := h
    cases h2
    exact pe_okM_xs (xs := []) ok_t_XL_removeLast
  | 56, h, _ =>
    have h2 : some t_XK_canEnter = some mt := h
    cases h2
    exact pe_okM_xs (xs := []) ok_t_XK_canEnter
  | 57, h, _ =>
    have h2 : some t_XH_hasObjectRoom = some mt := h
    cases h2
    exact pe_okM_xs (xs := []) ok_t_XH_hasObjectRoom
  | 58, h, _ =>
    have h2 : some t_XH_bareShape = some mt := h
    cases h2
    exact pe_okM_xs (xs := []) ok_t_XH_bareShape
  | 59, h, _ =>
    have h2 : some t_XH_addThing = some mt := h
    cases h2
    exact pe_okM_xs (xs := []) ok_t_XH_addThing
  | 60, h, _ =>
    have h2 : some t_XK_enter = some mt := h
    cases h2
    exact pe_okM_xs (xs := []) ok_t_XK_enter
  | 61, h, _ =>
    have h2 : some t_XL_setProperty = some mt := h
    cases h2
    exact pe_okM_xs (xs := []) ok_t_XL_setProperty
  | 62, h, _ =>
    have h2 : some t_XL_giveValue = some mt := h
    cases h2
    exact pe_okM_xs (xs := []) ok_t_XL_giveValue
  | 63, h, _ =>
    have h2 : some t_XH_hasTextRoom = some mt := h
    cases h2
    exact pe_okM_xs (xs := []) ok_t_XH_hasTextRoom
  | n + 64, _, hl => exact absurd hl (by omega)
theorem okA_6 (xs : List (Nat × List Int32)) : ∀ mi mt, pe_at (pe_msA.drop 384) mi = some mt → mi < 64 → pe_okM (pe_GA xs) pe_cl pe_ckA mt = true := by
  intro mi mt h hl
  match mi, h, hl with
  | 0, h, _ =>
    have h2 : some t_XH_useText = some mt := h
    cases h2
    exact pe_okM_xs (xs := []) ok_t_XH_useText
  | 1, h, _ =>
    have h2 : some t_X_slice = some mt := h
    cases h2
    exact pe_okM_xs (xs := []) ok_t_X_slice
  | 2, h, _ =>
    have h2 : some t_XL_addElement = some mt := h
    cases h2
    exact pe_okM_xs (xs := []) ok_t_XL_addElement
  | 3, h, _ =>
    have h2 : some t_XL_rowOf = some mt := h
    cases h2
    exact pe_okM_xs (xs := []) ok_t_XL_rowOf
  | 4, h, _ =>
    have h2 : some t_XL_placeOf = some mt := h
    cases h2
    exact pe_okM_xs (xs := []) ok_t_XL_placeOf
  | 5, h, _ =>
    have h2 : some t_XO_goesTo = some mt := h
    cases h2
    exact pe_okM_xs (xs := []) ok_t_XO_goesTo
  | 6, h, _ =>
    have h2 : some t_XH_addTrace = some mt := h
    cases h2
    exact pe_okM_xs (xs := []) ok_t_XH_addTrace
  | 7, h, _ =>
    have h2 : some t_XL_construct = some mt := h
    cases h2
    exact pe_okM_xs (xs := []) ok_t_XL_construct
  | 8, h, _ =>
    have h2 : some t_XL_useField = some mt := h
    cases h2
    exact pe_okM_xs (xs := []) ok_t_XL_useField
  | 9, h, _ =>
    have h2 : some t_XL_answer = some mt := h
    cases h2
    exact pe_okM_xs (xs := []) ok_t_XL_answer
  | 10, h, _ =>
    have h2 : some t_XH_show = some mt := h
    cases h2
    exact pe_okM_xs (xs := []) ok_t_XH_show
  | 11, h, _ =>
    have h2 : some t_XH_appendShown = some mt := h
    cases h2
    exact pe_okM_xs (xs := []) ok_t_XH_appendShown
  | 12, h, _ =>
    have h2 : some t_XH_print = some mt := h
    cases h2
    exact pe_okM_xs (xs := []) ok_t_XH_print
  | 13, h, _ =>
    have h2 : some t_XH_reshaped = some mt := h
    cases h2
    exact pe_okM_xs (xs := []) ok_t_XH_reshaped
  | 14, h, _ =>
    have h2 : some t_XH_noteChange = some mt := h
    cases h2
    exact pe_okM_xs (xs := []) ok_t_XH_noteChange
  | 15, h, _ =>
    have h2 : some t_XH_dropValue = some mt := h
    cases h2
    exact pe_okM_xs (xs := []) ok_t_XH_dropValue
  | 16, h, _ =>
    have h2 : some t_XW_sliceOf = some mt := h
    cases h2
    exact pe_okM_xs (xs := []) ok_t_XW_sliceOf
  | 17, h, _ =>
    have h2 : some t_XH_addValue = some mt := h
    cases h2
    exact pe_okM_xs (xs := []) ok_t_XH_addValue
  | 18, h, _ =>
    have h2 : some t_XK_comeBack = some mt := h
    cases h2
    exact pe_okM_xs (xs := []) ok_t_XK_comeBack
  | 19, h, _ =>
    have h2 : some t_XK_noteTry = some mt := h
    cases h2
    exact pe_okM_xs (xs := []) ok_t_XK_noteTry
  | 20, h, _ =>
    have h2 : some t_M_own = some mt := h
    cases h2
    exact pe_okM_xs (xs := []) ok_t_M_own
  | 21, h, _ =>
    have h2 : some t_M_findShape = some mt := h
    cases h2
    exact pe_okM_xs (xs := []) ok_t_M_findShape
  | 22, h, _ =>
    have h2 : some t_M_isNamed = some mt := h
    cases h2
    exact pe_okM_xs (xs := []) ok_t_M_isNamed
  | 23, h, _ =>
    have h2 : some t_M_getter = some mt := h
    cases h2
    exact pe_okM_xs (xs := []) ok_t_M_getter
  | 24, h, _ =>
    have h2 : some t_M_wants = some mt := h
    cases h2
    exact pe_okM_xs (xs := []) ok_t_M_wants
  | 25, h, _ =>
    have h2 : some t_M_collects = some mt := h
    cases h2
    exact pe_okM_xs (xs := []) ok_t_M_collects
  | 26, h, _ =>
    have h2 : some t_M_typesOfEs = some mt := h
    cases h2
    exact pe_okM_xs (xs := []) ok_t_M_typesOfEs
  | 27, h, _ =>
    have h2 : some t_M_chooses = some mt := h
    cases h2
    exact pe_okM_xs (xs := []) ok_t_M_chooses
  | 28, h, _ =>
    have h2 : some t_M_field = some mt := h
    cases h2
    exact pe_okM_xs (xs := []) ok_t_M_field
  | 29, h, _ =>
    have h2 : some t_M_collectsMakers = some mt := h
    cases h2
    exact pe_okM_xs (xs := []) ok_t_M_collectsMakers
  | 30, h, _ =>
    have h2 : some t_M_callsFun = some mt := h
    cases h2
    exact pe_okM_xs (xs := []) ok_t_M_callsFun
  | 31, h, _ =>
    have h2 : some t_M_news = some mt := h
    cases h2
    exact pe_okM_xs (xs := []) ok_t_M_news
  | 32, h, _ =>
    have h2 : some t_M_sets = some mt := h
    cases h2
    exact pe_okM_xs (xs := []) ok_t_M_sets
  | 33, h, _ =>
    have h2 : some t_M_gives = some mt := h
    cases h2
    exact pe_okM_xs (xs := []) ok_t_M_gives
  | 34, h, _ =>
    have h2 : some t_M_sub = some mt := h
    cases h2
    exact pe_okM_xs (xs := []) ok_t_M_sub
  | 35, h, _ =>
    have h2 : some t_M_setsElement = some mt := h
    cases h2
    exact pe_okM_xs (xs := []) ok_t_M_setsElement
  | 36, h, _ =>
    have h2 : some t_M_lists = some mt := h
    cases h2
    exact pe_okM_xs (xs := []) ok_t_M_lists
  | 37, h, _ =>
    have h2 : some t_M_readsFieldOf = some mt := h
    cases h2
    exact pe_okM_xs (xs := []) ok_t_M_readsFieldOf
  | 38, h, _ =>
    have h2 : some t_M_loose = some mt := h
    cases h2
    exact pe_okM_xs (xs := []) ok_t_M_loose
  | 39, h, _ =>
    have h2 : some t_M_writesFieldOf = some mt := h
    cases h2
    exact pe_okM_xs (xs := []) ok_t_M_writesFieldOf
  | 40, h, _ =>
    have h2 : some t_M_doesMember = some mt := h
    cases h2
    exact pe_okM_xs (xs := []) ok_t_M_doesMember
  | 41, h, _ =>
    have h2 : some t_M_print = some mt := h
    cases h2
    exact pe_okM_xs (xs := []) ok_t_M_print
  | 42, h, _ =>
    have h2 : some t_M_newText = some mt := h
    cases h2
    exact pe_okM_xs (xs := []) ok_t_M_newText
  | 43, h, _ =>
    have h2 : some t_M_isSame = some mt := h
    cases h2
    exact pe_okM_xs (xs := []) ok_t_M_isSame
  | 44, h, _ =>
    have h2 : some t_M_rebuilt = some mt := h
    cases h2
    exact pe_okM_xs (xs := []) ok_t_M_rebuilt
  | 45, h, _ =>
    have h2 : some t_M_changed = some mt := h
    cases h2
    exact pe_okM_xs (xs := []) ok_t_M_changed
  | 46, h, _ =>
    have h2 : some t_M_dropSlot = some mt := h
    cases h2
    exact pe_okM_xs (xs := []) ok_t_M_dropSlot
  | 47, h, _ =>
    have h2 : some t_M_spell = some mt := h
    cases h2
    exact pe_okM_xs (xs := []) ok_t_M_spell
  | 48, h, _ =>
    have h2 : some t_XR_kindBehind = some mt := h
    cases h2
    exact pe_okM_xs (xs := []) ok_t_XR_kindBehind
  | 49, h, _ =>
    have h2 : some t_XO_hasOwnField = some mt := h
    cases h2
    exact pe_okM_xs (xs := []) ok_t_XO_hasOwnField
  | 50, h, _ =>
    have h2 : some t_XO_haveSameTypes = some mt := h
    cases h2
    exact pe_okM_xs (xs := []) ok_t_XO_haveSameTypes
  | 51, h, _ =>
    have h2 : some t_XO_firstKind = some mt := h
    cases h2
    exact pe_okM_xs (xs := []) ok_t_XO_firstKind
  | 52, h, _ =>
    have h2 : some t_XO_begins = some mt := h
    cases h2
    exact pe_okM_xs (xs := []) ok_t_XO_begins
  | 53, h, _ =>
    have h2 : some t_XO_nearestField = some mt := h
    cases h2
    exact pe_okM_xs (xs := []) ok_t_XO_nearestField
  | 54, h, _ =>
    have h2 : some t_XP_checkName = some mt := h
    cases h2
    exact pe_okM_xs (xs := []) ok_t_XP_checkName
  | 55, h, _ =>
    have h2 : some t_XP_addVariable = some mt := h
    cases h2
    exact pe_okM_xs (xs := []) ok_t_XP_addVariable
  | 56, h, _ =>
    have h2 : some t_XP_takeName = some mt := h
    cases h2
    exact pe_okM_xs (xs := []) ok_t_XP_takeName
  | 57, h, _ =>
    have h2 : some t_XP_readFronts = some mt := h
    cases h2
    exact pe_okM_xs (xs := []) ok_t_XP_readFronts
  | 58, h, _ =>
    have h2 : some t_XP_readOperand = some mt := h
    cases h2
    exact pe_okM_xs (xs := []) ok_t_XP_readOperand
  | 59, h, _ =>
    have h2 : some t_XP_settleFronts = some mt := h
    cases h2
    exact pe_okM_xs (xs := []) ok_t_XP_settleFronts
  | 60, h, _ =>
    have h2 : some t_XP_readAssigned = some mt := h
    cases h2
    exact pe_okM_xs (xs := []) ok_t_XP_readAssigned
  | 61, h, _ =>
    have h2 : some t_XP_levelOf = some mt := h
    cases h2
    exact pe_okM_xs (xs := []) ok_t_XP_levelOf
  | 62, h, _ =>
    have h2 : some t_XP_settle = some mt := h
    cases h2
    exact pe_okM_xs (xs := []) ok_t_XP_settle
  | 63, h, _ =>
    have h2 : some t_XP_await = some mt := h
    cases h2
    exact pe_okM_xs (xs := []) ok_t_XP_await
  | n + 64, _, hl => exact absurd hl (by omega)
theorem okA_7 (xs : List (Nat × List Int32)) : ∀ mi mt, pe_at (pe_msA.drop 448) mi = some mt → mi < 64 → pe_okM (pe_GA xs) pe_cl pe_ckA mt = true := by
  intro mi mt h hl
  match mi, h, hl with
  | 0, h, _ =>
    have h2 : some t_M_binary = some mt := h
    cases h2
    exact pe_okM_xs (xs := []) ok_t_M_binary
  | 1, h, _ =>
    have h2 : some t_XO_plainMethod = some mt := h
    cases h2
    exact pe_okM_xs (xs := []) ok_t_XO_plainMethod
  | 2, h, _ =>
    have h2 : some t_XO_keptAt = some mt := h
    cases h2
    exact pe_okM_xs (xs := []) ok_t_XO_keptAt
  | 3, h, _ =>
    have h2 : some t_XO_gather = some mt := h
    cases h2
    exact pe_okM_xs (xs := []) ok_t_XO_gather
  | 4, h, _ =>
    have h2 : some t_XO_fits = some mt := h
    cases h2
    exact pe_okM_xs (xs := []) ok_t_XO_fits
  | 5, h, _ =>
    have h2 : some t_XO_mostSpecific = some mt := h
    cases h2
    exact pe_okM_xs (xs := []) ok_t_XO_mostSpecific
  | 6, h, _ =>
    have h2 : some t_XO_keep = some mt := h
    cases h2
    exact pe_okM_xs (xs := []) ok_t_XO_keep
  | 7, h, _ =>
    have h2 : some t_XO_parameterType = some mt := h
    cases h2
    exact pe_okM_xs (xs := []) ok_t_XO_parameterType
  | 8, h, _ =>
    have h2 : some t_XL_firstUnset = some mt := h
    cases h2
    exact pe_okM_xs (xs := []) ok_t_XL_firstUnset
  | 9, h, _ =>
    have h2 : some t_XL_answerName = some mt := h
    cases h2
    exact pe_okM_xs (xs := []) ok_t_XL_answerName
  | 10, h, _ =>
    have h2 : some t_XL_answerThing = some mt := h
    cases h2
    exact pe_okM_xs (xs := []) ok_t_XL_answerThing
  | 11, h, _ =>
    have h2 : some t_XH_showText = some mt := h
    cases h2
    exact pe_okM_xs (xs := []) ok_t_XH_showText
  | 12, h, _ =>
    have h2 : some t_XH_showNumber = some mt := h
    cases h2
    exact pe_okM_xs (xs := []) ok_t_XH_showNumber
  | 13, h, _ =>
    have h2 : some t_XH_showClass = some mt := h
    cases h2
    exact pe_okM_xs (xs := []) ok_t_XH_showClass
  | 14, h, _ =>
    have h2 : some t_XH_shownIn = some mt := h
    cases h2
    exact pe_okM_xs (xs := []) ok_t_XH_shownIn
  | 15, h, _ =>
    have h2 : some t_M_orders = some mt := h
    cases h2
    exact pe_okM_xs (xs := []) ok_t_M_orders
  | 16, h, _ =>
    have h2 : some t_M_isWanted = some mt := h
    cases h2
    exact pe_okM_xs (xs := []) ok_t_M_isWanted
  | 17, h, _ =>
    have h2 : some t_M_chosen = some mt := h
    cases h2
    exact pe_okM_xs (xs := []) ok_t_M_chosen
  | 18, h, _ =>
    have h2 : some t_M_single = some mt := h
    cases h2
    exact pe_okM_xs (xs := []) ok_t_M_single
  | 19, h, _ =>
    have h2 : some t_M_fieldSlot = some mt := h
    cases h2
    exact pe_okM_xs (xs := []) ok_t_M_fieldSlot
  | 20, h, _ =>
    have h2 : some t_M_strict = some mt := h
    cases h2
    exact pe_okM_xs (xs := []) ok_t_M_strict
  | 21, h, _ =>
    have h2 : some t_M_makes = some mt := h
    cases h2
    exact pe_okM_xs (xs := []) ok_t_M_makes
  | 22, h, _ =>
    have h2 : some t_M_fieldFor = some mt := h
    cases h2
    exact pe_okM_xs (xs := []) ok_t_M_fieldFor
  | 23, h, _ =>
    have h2 : some t_M_traces = some mt := h
    cases h2
    exact pe_okM_xs (xs := []) ok_t_M_traces
  | 24, h, _ =>
    have h2 : some t_M_answersByType = some mt := h
    cases h2
    exact pe_okM_xs (xs := []) ok_t_M_answersByType
  | 25, h, _ =>
    have h2 : some t_M_spellNumber = some mt := h
    cases h2
    exact pe_okM_xs (xs := []) ok_t_M_spellNumber
  | 26, h, _ =>
    have h2 : some t_M_spellClass = some mt := h
    cases h2
    exact pe_okM_xs (xs := []) ok_t_M_spellClass
  | 27, h, _ =>
    have h2 : some t_M_hasRoomForText = some mt := h
    cases h2
    exact pe_okM_xs (xs := []) ok_t_M_hasRoomForText
  | 28, h, _ =>
    have h2 : some t_XP_readFirst = some mt := h
    cases h2
    exact pe_okM_xs (xs := []) ok_t_XP_readFirst
  | 29, h, _ =>
    have h2 : some t_XP_readDot = some mt := h
    cases h2
    exact pe_okM_xs (xs := []) ok_t_XP_readDot
  | 30, h, _ =>
    have h2 : some t_XP_noteSite = some mt := h
    cases h2
    exact pe_okM_xs (xs := []) ok_t_XP_noteSite
  | 31, h, _ =>
    have h2 : some t_XP_readEs = some mt := h
    cases h2
    exact pe_okM_xs (xs := []) ok_t_XP_readEs
  | 32, h, _ =>
    have h2 : some t_XP_operatorOf = some mt := h
    cases h2
    exact pe_okM_xs (xs := []) ok_t_XP_operatorOf
  | 33, h, _ =>
    have h2 : some t_M_front = some mt := h
    cases h2
    exact pe_okM_xs (xs := []) ok_t_M_front
  | 34, h, _ =>
    have h2 : some t_M_operator = some mt := h
    cases h2
    exact pe_okM_xs (xs := []) ok_t_M_operator
  | 35, h, _ =>
    have h2 : some t_XO_keptHead = some mt := h
    cases h2
    exact pe_okM_xs (xs := []) ok_t_XO_keptHead
  | 36, h, _ =>
    have h2 : some t_XO_isHidden = some mt := h
    cases h2
    exact pe_okM_xs (xs := []) ok_t_XO_isHidden
  | 37, h, _ =>
    have h2 : some t_XO_addCandidate = some mt := h
    cases h2
    exact pe_okM_xs (xs := []) ok_t_XO_addCandidate
  | 38, h, _ =>
    have h2 : some t_XO_isMoreSpecific = some mt := h
    cases h2
    exact pe_okM_xs (xs := []) ok_t_XO_isMoreSpecific
  | 39, h, _ =>
    have h2 : some t_XL_isOf = some mt := h
    cases h2
    exact pe_okM_xs (xs := []) ok_t_XL_isOf
  | 40, h, _ =>
    have h2 : some t_JM_abs = some mt := h
    cases h2
    exact pe_okM_xs (xs := []) ok_t_JM_abs
  | 41, h, _ =>
    have h2 : some t_M_addOrder = some mt := h
    cases h2
    exact pe_okM_xs (xs := []) ok_t_M_addOrder
  | 42, h, _ =>
    have h2 : some t_M_ordersSupers = some mt := h
    cases h2
    exact pe_okM_xs (xs := []) ok_t_M_ordersSupers
  | 43, h, _ =>
    have h2 : some t_M_fitsIn = some mt := h
    cases h2
    exact pe_okM_xs (xs := []) ok_t_M_fitsIn
  | 44, h, _ =>
    have h2 : some t_M_isMoreSpecific = some mt := h
    cases h2
    exact pe_okM_xs (xs := []) ok_t_M_isMoreSpecific
  | 45, h, _ =>
    have h2 : some t_M_placeOf = some mt := h
    cases h2
    exact pe_okM_xs (xs := []) ok_t_M_placeOf
  | 46, h, _ =>
    have h2 : some t_M_listsFields = some mt := h
    cases h2
    exact pe_okM_xs (xs := []) ok_t_M_listsFields
  | 47, h, _ =>
    have h2 : some t_M_parameterAt = some mt := h
    cases h2
    exact pe_okM_xs (xs := []) ok_t_M_parameterAt
  | 48, h, _ =>
    have h2 : some t_M_isPrefixed = some mt := h
    cases h2
    exact pe_okM_xs (xs := []) ok_t_M_isPrefixed
  | 49, h, _ =>
    have h2 : some t_M_isSuch = some mt := h
    cases h2
    exact pe_okM_xs (xs := []) ok_t_M_isSuch
  | 50, h, _ =>
    have h2 : some t_XP_readList = some mt := h
    cases h2
    exact pe_okM_xs (xs := []) ok_t_XP_readList
  | 51, h, _ =>
    have h2 : some t_XP_readObject = some mt := h
    cases h2
    exact pe_okM_xs (xs := []) ok_t_XP_readObject
  | 52, h, _ =>
    have h2 : some t_XP_readBuiltin = some mt := h
    cases h2
    exact pe_okM_xs (xs := []) ok_t_XP_readBuiltin
  | 53, h, _ =>
    have h2 : some t_XP_readConstant = some mt := h
    cases h2
    exact pe_okM_xs (xs := []) ok_t_XP_readConstant
  | 54, h, _ =>
    have h2 : some t_XP_refuseNinth = some mt := h
    cases h2
    exact pe_okM_xs (xs := []) ok_t_XP_refuseNinth
  | 55, h, _ =>
    have h2 : some t_M_behind = some mt := h
    cases h2
    exact pe_okM_xs (xs := []) ok_t_M_behind
  | 56, h, _ =>
    have h2 : some t_M_first = some mt := h
    cases h2
    exact pe_okM_xs (xs := []) ok_t_M_first
  | 57, h, _ =>
    have h2 : some t_M_values = some mt := h
    cases h2
    exact pe_okM_xs (xs := []) ok_t_M_values
  | 58, h, _ =>
    have h2 : some t_M_element = some mt := h
    cases h2
    exact pe_okM_xs (xs := []) ok_t_M_element
  | 59, h, _ =>
    have h2 : some t_M_takesText = some mt := h
    cases h2
    exact pe_okM_xs (xs := []) ok_t_M_takesText
  | 60, h, _ =>
    have h2 : some t_M_object = some mt := h
    cases h2
    exact pe_okM_xs (xs := []) ok_t_M_object
  | 61, h, _ =>
    have h2 : some t_M_word = some mt := h
    cases h2
    exact pe_okM_xs (xs := []) ok_t_M_word
  | 62, h, _ =>
    have h2 : some t_M_maker = some mt := h
    cases h2
    exact pe_okM_xs (xs := []) ok_t_M_maker
  | 63, h, _ =>
    have h2 : some t_M_builtin = some mt := h
    cases h2
    exact pe_okM_xs (xs := []) ok_t_M_builtin
  | n + 64, _, hl => exact absurd hl (by omega)
theorem pe_msA_len : pe_msA.length = 512 := by decide +kernel
theorem pe_msA_ok (xs : List (Nat × List Int32)) : ∀ mi mt, pe_at (pe_GA xs).ms mi = some mt → pe_okM (pe_GA xs) pe_cl pe_ckA mt = true := by
  intro mi mt h
  have hlt : mi < 512 := by
    rw [pe_at_eq] at h
    have h0 := (List.getElem?_eq_some_iff.mp h).1
    have h1 : mi < pe_msA.length := h0
    rw [pe_msA_len] at h1
    exact h1
  have hd : ∀ c : Nat, c ≤ mi → pe_at (pe_msA.drop c) (mi - c) = some mt := fun c hc => by
    rw [pe_at_eq] at h ⊢
    rw [List.getElem?_drop, show c + (mi - c) = mi by omega]
    exact h
  by_cases c0 : mi < 64
  · exact okA_0 xs _ _ (hd 0 (by omega)) (by omega)
  by_cases c1 : mi < 128
  · exact okA_1 xs _ _ (hd 64 (by omega)) (by omega)
  by_cases c2 : mi < 192
  · exact okA_2 xs _ _ (hd 128 (by omega)) (by omega)
  by_cases c3 : mi < 256
  · exact okA_3 xs _ _ (hd 192 (by omega)) (by omega)
  by_cases c4 : mi < 320
  · exact okA_4 xs _ _ (hd 256 (by omega)) (by omega)
  by_cases c5 : mi < 384
  · exact okA_5 xs _ _ (hd 320 (by omega)) (by omega)
  by_cases c6 : mi < 448
  · exact okA_6 xs _ _ (hd 384 (by omega)) (by omega)
  exact okA_7 xs _ _ (hd 448 (by omega)) (by omega)
