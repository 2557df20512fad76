def mX4_init : x_M := (yX4_init, cX4_init, 2, none)
theorem cbX4_init : x_CB mX4_init 0 := ⟨x_in 67 (by decide +kernel) rfl, x_in 54 (by decide +kernel) rfl, by decide +kernel, by decide⟩
theorem pnX4_init : plainName (mX4_init).1.cls = true := by decide +kernel
def mX1_init : x_M := (yX1_init, cX1_init, 1, none)
theorem cbX1_init : x_CB mX1_init 0 := ⟨x_in 75 (by decide +kernel) rfl, x_in 55 (by decide +kernel) rfl, by decide +kernel, by decide⟩
theorem pnX1_init : plainName (mX1_init).1.cls = true := by decide +kernel
def mX3_init : x_M := (yX3_init, cX3_init, 1, none)
theorem cbX3_init : x_CB mX3_init 0 := ⟨x_in 91 (by decide +kernel) rfl, x_in 56 (by decide +kernel) rfl, by decide +kernel, by decide⟩
theorem pnX3_init : plainName (mX3_init).1.cls = true := by decide +kernel
def mX0_init : x_M := (yX0_init, cX0_init, 1, none)
theorem cbX0_init : x_CB mX0_init 0 := ⟨x_in 127 (by decide +kernel) rfl, x_in 57 (by decide +kernel) rfl, by decide +kernel, by decide⟩
theorem pnX0_init : plainName (mX0_init).1.cls = true := by decide +kernel
def mX2_init : x_M := (yX2_init, cX2_init, 1, none)
theorem cbX2_init : x_CB mX2_init 0 := ⟨x_in 153 (by decide +kernel) rfl, x_in 58 (by decide +kernel) rfl, by decide +kernel, by decide⟩
theorem pnX2_init : plainName (mX2_init).1.cls = true := by decide +kernel
def mX4_set : x_M := (yX4_set, cX4_set, 4, (some .int))
theorem cbX4_set : x_CB mX4_set 2 := ⟨x_in 228 (by decide +kernel) rfl, x_in 54 (by decide +kernel) rfl, by decide +kernel, by decide⟩
theorem pnX4_set : plainName (mX4_set).1.cls = true := by decide +kernel
def mX4_isLength : x_M := (yX4_isLength, cX4_isLength, 1, (some .boolean))
theorem cbX4_isLength : x_CB mX4_isLength 1 := ⟨x_in 231 (by decide +kernel) rfl, x_in 54 (by decide +kernel) rfl, by decide +kernel, by decide⟩
theorem pnX4_isLength : plainName (mX4_isLength).1.cls = true := by decide +kernel
def mX4_say : x_M := (yX4_say, cX4_say, 2, (some .int))
theorem cbX4_say : x_CB mX4_say 1 := ⟨x_in 235 (by decide +kernel) rfl, x_in 54 (by decide +kernel) rfl, by decide +kernel, by decide⟩
theorem pnX4_say : plainName (mX4_say).1.cls = true := by decide +kernel
def mX1_append : x_M := (yX1_append, cX1_append, 2, none)
theorem cbX1_append : x_CB mX1_append 1 := ⟨x_in 239 (by decide +kernel) rfl, x_in 55 (by decide +kernel) rfl, by decide +kernel, by decide⟩
theorem pnX1_append : plainName (mX1_append).1.cls = true := by decide +kernel
def mX4_wipe : x_M := (yX4_wipe, cX4_wipe, 2, (some .int))
theorem cbX4_wipe : x_CB mX4_wipe 0 := ⟨x_in 243 (by decide +kernel) rfl, x_in 54 (by decide +kernel) rfl, by decide +kernel, by decide⟩
theorem pnX4_wipe : plainName (mX4_wipe).1.cls = true := by decide +kernel
def mX4_fault : x_M := (yX4_fault, cX4_fault, 1, (some .int))
theorem cbX4_fault : x_CB mX4_fault 0 := ⟨x_in 247 (by decide +kernel) rfl, x_in 54 (by decide +kernel) rfl, by decide +kernel, by decide⟩
theorem pnX4_fault : plainName (mX4_fault).1.cls = true := by decide +kernel
def mX1_firstFault : x_M := (yX1_firstFault, cX1_firstFault, 3, (some .int))
theorem cbX1_firstFault : x_CB mX1_firstFault 0 := ⟨x_in 251 (by decide +kernel) rfl, x_in 55 (by decide +kernel) rfl, by decide +kernel, by decide⟩
theorem pnX1_firstFault : plainName (mX1_firstFault).1.cls = true := by decide +kernel
def mX1_isAsked : x_M := (yX1_isAsked, cX1_isAsked, 2, (some .boolean))
theorem cbX1_isAsked : x_CB mX1_isAsked 1 := ⟨x_in 255 (by decide +kernel) rfl, x_in 55 (by decide +kernel) rfl, by decide +kernel, by decide⟩
theorem pnX1_isAsked : plainName (mX1_isAsked).1.cls = true := by decide +kernel
def mX1_signAt : x_M := (yX1_signAt, cX1_signAt, 2, (some .int))
theorem cbX1_signAt : x_CB mX1_signAt 1 := ⟨x_in 259 (by decide +kernel) rfl, x_in 55 (by decide +kernel) rfl, by decide +kernel, by decide⟩
theorem pnX1_signAt : plainName (mX1_signAt).1.cls = true := by decide +kernel
def mX1_crosser : x_M := (yX1_crosser, cX1_crosser, 3, (some .int))
theorem cbX1_crosser : x_CB mX1_crosser 1 := ⟨x_in 263 (by decide +kernel) rfl, x_in 55 (by decide +kernel) rfl, by decide +kernel, by decide⟩
theorem pnX1_crosser : plainName (mX1_crosser).1.cls = true := by decide +kernel
def mX4_isPerson : x_M := (yX4_isPerson, cX4_isPerson, 1, (some .boolean))
theorem cbX4_isPerson : x_CB mX4_isPerson 1 := ⟨x_in 266 (by decide +kernel) rfl, x_in 54 (by decide +kernel) rfl, by decide +kernel, by decide⟩
theorem pnX4_isPerson : plainName (mX4_isPerson).1.cls = true := by decide +kernel
def mX1_looker : x_M := (yX1_looker, cX1_looker, 3, (some .int))
theorem cbX1_looker : x_CB mX1_looker 1 := ⟨x_in 270 (by decide +kernel) rfl, x_in 55 (by decide +kernel) rfl, by decide +kernel, by decide⟩
theorem pnX1_looker : plainName (mX1_looker).1.cls = true := by decide +kernel
def mX4_stands : x_M := (yX4_stands, cX4_stands, 6, (some .int))
theorem cbX4_stands : x_CB mX4_stands 2 := ⟨x_in 274 (by decide +kernel) rfl, x_in 54 (by decide +kernel) rfl, by decide +kernel, by decide⟩
theorem pnX4_stands : plainName (mX4_stands).1.cls = true := by decide +kernel
def mX4_refusalWithin : x_M := (yX4_refusalWithin, cX4_refusalWithin, 2, (some .int))
theorem cbX4_refusalWithin : x_CB mX4_refusalWithin 1 := ⟨x_in 278 (by decide +kernel) rfl, x_in 54 (by decide +kernel) rfl, by decide +kernel, by decide⟩
theorem pnX4_refusalWithin : plainName (mX4_refusalWithin).1.cls = true := by decide +kernel
def mX1_asksWithin : x_M := (yX1_asksWithin, cX1_asksWithin, 3, (some .boolean))
theorem cbX1_asksWithin : x_CB mX1_asksWithin 1 := ⟨x_in 282 (by decide +kernel) rfl, x_in 55 (by decide +kernel) rfl, by decide +kernel, by decide⟩
theorem pnX1_asksWithin : plainName (mX1_asksWithin).1.cls = true := by decide +kernel
def mX4_runDay : x_M := (yX4_runDay, cX4_runDay, 4, none)
theorem cbX4_runDay : x_CB mX4_runDay 2 := ⟨x_in 286 (by decide +kernel) rfl, x_in 54 (by decide +kernel) rfl, by decide +kernel, by decide⟩
theorem pnX4_runDay : plainName (mX4_runDay).1.cls = true := by decide +kernel
def mX0_begin : x_M := (yX0_begin, cX0_begin, 3, none)
theorem cbX0_begin : x_CB mX0_begin 2 := ⟨x_in 290 (by decide +kernel) rfl, x_in 57 (by decide +kernel) rfl, by decide +kernel, by decide⟩
theorem pnX0_begin : plainName (mX0_begin).1.cls = true := by decide +kernel
def mX4_step : x_M := (yX4_step, cX4_step, 3, none)
theorem cbX4_step : x_CB mX4_step 1 := ⟨x_in 294 (by decide +kernel) rfl, x_in 54 (by decide +kernel) rfl, by decide +kernel, by decide⟩
theorem pnX4_step : plainName (mX4_step).1.cls = true := by decide +kernel
def mX0_write : x_M := (yX0_write, cX0_write, 3, none)
theorem cbX0_write : x_CB mX0_write 2 := ⟨x_in 299 (by decide +kernel) rfl, x_in 57 (by decide +kernel) rfl, by decide +kernel, by decide⟩
theorem pnX0_write : plainName (mX0_write).1.cls = true := by decide +kernel
def mX0_placeOf : x_M := (yX0_placeOf, cX0_placeOf, 5, (some .int))
theorem cbX0_placeOf : x_CB mX0_placeOf 1 := ⟨x_in 303 (by decide +kernel) rfl, x_in 57 (by decide +kernel) rfl, by decide +kernel, by decide⟩
theorem pnX0_placeOf : plainName (mX0_placeOf).1.cls = true := by decide +kernel
def mX0_removeAt : x_M := (yX0_removeAt, cX0_removeAt, 2, none)
theorem cbX0_removeAt : x_CB mX0_removeAt 1 := ⟨x_in 308 (by decide +kernel) rfl, x_in 57 (by decide +kernel) rfl, by decide +kernel, by decide⟩
theorem pnX0_removeAt : plainName (mX0_removeAt).1.cls = true := by decide +kernel
def mX0_withoutDigit : x_M := (yX0_withoutDigit, cX0_withoutDigit, 8, (some .long))
theorem cbX0_withoutDigit : x_CB mX0_withoutDigit 3 := ⟨x_in 311 (by decide +kernel) rfl, x_in 57 (by decide +kernel) rfl, by decide +kernel, by decide⟩
theorem pnX0_withoutDigit : plainName (mX0_withoutDigit).1.cls = true := by decide +kernel
def mX0_nameAt : x_M := (yX0_nameAt, cX0_nameAt, 2, (some .int))
theorem cbX0_nameAt : x_CB mX0_nameAt 1 := ⟨x_in 315 (by decide +kernel) rfl, x_in 57 (by decide +kernel) rfl, by decide +kernel, by decide⟩
theorem pnX0_nameAt : plainName (mX0_nameAt).1.cls = true := by decide +kernel
def mX4_read : x_M := (yX4_read, cX4_read, 5, (some .int))
theorem cbX4_read : x_CB mX4_read 1 := ⟨x_in 319 (by decide +kernel) rfl, x_in 54 (by decide +kernel) rfl, by decide +kernel, by decide⟩
theorem pnX4_read : plainName (mX4_read).1.cls = true := by decide +kernel
def mX4_refusalFor : x_M := (yX4_refusalFor, cX4_refusalFor, 2, (some .int))
theorem cbX4_refusalFor : x_CB mX4_refusalFor 1 := ⟨x_in 323 (by decide +kernel) rfl, x_in 54 (by decide +kernel) rfl, by decide +kernel, by decide⟩
theorem pnX4_refusalFor : plainName (mX4_refusalFor).1.cls = true := by decide +kernel
def mX0_people : x_M := (yX0_people, cX0_people, 4, (some .int))
theorem cbX0_people : x_CB mX0_people 0 := ⟨x_in 329 (by decide +kernel) rfl, x_in 57 (by decide +kernel) rfl, by decide +kernel, by decide⟩
theorem pnX0_people : plainName (mX0_people).1.cls = true := by decide +kernel
def mX4_seen : x_M := (yX4_seen, cX4_seen, 3, (some .int))
theorem cbX4_seen : x_CB mX4_seen 1 := ⟨x_in 335 (by decide +kernel) rfl, x_in 54 (by decide +kernel) rfl, by decide +kernel, by decide⟩
theorem pnX4_seen : plainName (mX4_seen).1.cls = true := by decide +kernel
def mX4_readers : x_M := (yX4_readers, cX4_readers, 6, (some .int))
theorem cbX4_readers : x_CB mX4_readers 2 := ⟨x_in 339 (by decide +kernel) rfl, x_in 54 (by decide +kernel) rfl, by decide +kernel, by decide⟩
theorem pnX4_readers : plainName (mX4_readers).1.cls = true := by decide +kernel
def mX0_holds : x_M := (yX0_holds, cX0_holds, 2, (some .boolean))
theorem cbX0_holds : x_CB mX0_holds 1 := ⟨x_in 343 (by decide +kernel) rfl, x_in 57 (by decide +kernel) rfl, by decide +kernel, by decide⟩
theorem pnX0_holds : plainName (mX0_holds).1.cls = true := by decide +kernel
def mX4_missed : x_M := (yX4_missed, cX4_missed, 5, (some .int))
theorem cbX4_missed : x_CB mX4_missed 1 := ⟨x_in 347 (by decide +kernel) rfl, x_in 54 (by decide +kernel) rfl, by decide +kernel, by decide⟩
theorem pnX4_missed : plainName (mX4_missed).1.cls = true := by decide +kernel
def mX4_unread : x_M := (yX4_unread, cX4_unread, 5, (some .long))
theorem cbX4_unread : x_CB mX4_unread 1 := ⟨x_in 351 (by decide +kernel) rfl, x_in 54 (by decide +kernel) rfl, by decide +kernel, by decide⟩
theorem pnX4_unread : plainName (mX4_unread).1.cls = true := by decide +kernel
def mX0_writtenEvents : x_M := (yX0_writtenEvents, cX0_writtenEvents, 5, (some .long))
theorem cbX0_writtenEvents : x_CB mX0_writtenEvents 0 := ⟨x_in 355 (by decide +kernel) rfl, x_in 57 (by decide +kernel) rfl, by decide +kernel, by decide⟩
theorem pnX0_writtenEvents : plainName (mX0_writtenEvents).1.cls = true := by decide +kernel
def mJ13_bitCount_95d88 : x_M := (yJ13_bitCount_95d88, cJ13_bitCount_95d88, 2, (some .int))
theorem cbJ13_bitCount_95d88 : x_CB mJ13_bitCount_95d88 1 := ⟨x_in 360 (by decide +kernel) rfl, x_in 60 (by decide +kernel) rfl, by decide +kernel, by decide⟩
theorem pnJ13_bitCount_95d88 : plainName (mJ13_bitCount_95d88).1.cls = true := by decide +kernel
def mX4_nthEvent : x_M := (yX4_nthEvent, cX4_nthEvent, 6, (some .int))
theorem cbX4_nthEvent : x_CB mX4_nthEvent 2 := ⟨x_in 367 (by decide +kernel) rfl, x_in 54 (by decide +kernel) rfl, by decide +kernel, by decide⟩
theorem pnX4_nthEvent : plainName (mX4_nthEvent).1.cls = true := by decide +kernel
def mX4_hired : x_M := (yX4_hired, cX4_hired, 7, (some .int))
theorem cbX4_hired : x_CB mX4_hired 3 := ⟨x_in 371 (by decide +kernel) rfl, x_in 54 (by decide +kernel) rfl, by decide +kernel, by decide⟩
theorem pnX4_hired : plainName (mX4_hired).1.cls = true := by decide +kernel
def mX1_looksOf : x_M := (yX1_looksOf, cX1_looksOf, 4, (some .int))
theorem cbX1_looksOf : x_CB mX1_looksOf 1 := ⟨x_in 375 (by decide +kernel) rfl, x_in 55 (by decide +kernel) rfl, by decide +kernel, by decide⟩
theorem pnX1_looksOf : plainName (mX1_looksOf).1.cls = true := by decide +kernel
def mX1_looksOneOf : x_M := (yX1_looksOneOf, cX1_looksOneOf, 4, (some .boolean))
theorem cbX1_looksOneOf : x_CB mX1_looksOneOf 2 := ⟨x_in 379 (by decide +kernel) rfl, x_in 55 (by decide +kernel) rfl, by decide +kernel, by decide⟩
theorem pnX1_looksOneOf : plainName (mX1_looksOneOf).1.cls = true := by decide +kernel
def mX4_planBoys : x_M := (yX4_planBoys, cX4_planBoys, 6, (some .int))
theorem cbX4_planBoys : x_CB mX4_planBoys 2 := ⟨x_in 383 (by decide +kernel) rfl, x_in 54 (by decide +kernel) rfl, by decide +kernel, by decide⟩
theorem pnX4_planBoys : plainName (mX4_planBoys).1.cls = true := by decide +kernel
def mX0_pushOut : x_M := (yX0_pushOut, cX0_pushOut, 3, (some .int))
theorem cbX0_pushOut : x_CB mX0_pushOut 1 := ⟨x_in 388 (by decide +kernel) rfl, x_in 57 (by decide +kernel) rfl, by decide +kernel, by decide⟩
theorem pnX0_pushOut : plainName (mX0_pushOut).1.cls = true := by decide +kernel
def mX4_cross : x_M := (yX4_cross, cX4_cross, 8, (some .int))
theorem cbX4_cross : x_CB mX4_cross 2 := ⟨x_in 394 (by decide +kernel) rfl, x_in 54 (by decide +kernel) rfl, by decide +kernel, by decide⟩
theorem pnX4_cross : plainName (mX4_cross).1.cls = true := by decide +kernel
def mX4_refusalOfCrossing : x_M := (yX4_refusalOfCrossing, cX4_refusalOfCrossing, 4, (some .int))
theorem cbX4_refusalOfCrossing : x_CB mX4_refusalOfCrossing 2 := ⟨x_in 398 (by decide +kernel) rfl, x_in 54 (by decide +kernel) rfl, by decide +kernel, by decide⟩
theorem pnX4_refusalOfCrossing : plainName (mX4_refusalOfCrossing).1.cls = true := by decide +kernel
def mX4_refusalOfChoice : x_M := (yX4_refusalOfChoice, cX4_refusalOfChoice, 2, (some .int))
theorem cbX4_refusalOfChoice : x_CB mX4_refusalOfChoice 1 := ⟨x_in 402 (by decide +kernel) rfl, x_in 54 (by decide +kernel) rfl, by decide +kernel, by decide⟩
theorem pnX4_refusalOfChoice : plainName (mX4_refusalOfChoice).1.cls = true := by decide +kernel
def mJ6_bitCount_0f7a4 : x_M := (yJ6_bitCount_0f7a4, cJ6_bitCount_0f7a4, 1, (some .int))
theorem cbJ6_bitCount_0f7a4 : x_CB mJ6_bitCount_0f7a4 1 := ⟨x_in 405 (by decide +kernel) rfl, x_in 61 (by decide +kernel) rfl, by decide +kernel, by decide⟩
theorem pnJ6_bitCount_0f7a4 : plainName (mJ6_bitCount_0f7a4).1.cls = true := by decide +kernel
def mX4_unseen : x_M := (yX4_unseen, cX4_unseen, 5, (some .int))
theorem cbX4_unseen : x_CB mX4_unseen 1 := ⟨x_in 412 (by decide +kernel) rfl, x_in 54 (by decide +kernel) rfl, by decide +kernel, by decide⟩
theorem pnX4_unseen : plainName (mX4_unseen).1.cls = true := by decide +kernel
def mX4_look : x_M := (yX4_look, cX4_look, 9, (some .int))
theorem cbX4_look : x_CB mX4_look 1 := ⟨x_in 416 (by decide +kernel) rfl, x_in 54 (by decide +kernel) rfl, by decide +kernel, by decide⟩
theorem pnX4_look : plainName (mX4_look).1.cls = true := by decide +kernel
def mX4_looks : x_M := (yX4_looks, cX4_looks, 5, (some .int))
theorem cbX4_looks : x_CB mX4_looks 1 := ⟨x_in 420 (by decide +kernel) rfl, x_in 54 (by decide +kernel) rfl, by decide +kernel, by decide⟩
theorem pnX4_looks : plainName (mX4_looks).1.cls = true := by decide +kernel
def mX1_crossings : x_M := (yX1_crossings, cX1_crossings, 3, (some .int))
theorem cbX1_crossings : x_CB mX1_crossings 0 := ⟨x_in 424 (by decide +kernel) rfl, x_in 55 (by decide +kernel) rfl, by decide +kernel, by decide⟩
theorem pnX1_crossings : plainName (mX1_crossings).1.cls = true := by decide +kernel
def mX4_markStanding : x_M := (yX4_markStanding, cX4_markStanding, 3, none)
theorem cbX4_markStanding : x_CB mX4_markStanding 0 := ⟨x_in 428 (by decide +kernel) rfl, x_in 54 (by decide +kernel) rfl, by decide +kernel, by decide⟩
theorem pnX4_markStanding : plainName (mX4_markStanding).1.cls = true := by decide +kernel
def mX4_fewestLooks : x_M := (yX4_fewestLooks, cX4_fewestLooks, 8, (some .int))
theorem cbX4_fewestLooks : x_CB mX4_fewestLooks 2 := ⟨x_in 432 (by decide +kernel) rfl, x_in 54 (by decide +kernel) rfl, by decide +kernel, by decide⟩
theorem pnX4_fewestLooks : plainName (mX4_fewestLooks).1.cls = true := by decide +kernel
def mX4_readBehind : x_M := (yX4_readBehind, cX4_readBehind, 6, (some .long))
theorem cbX4_readBehind : x_CB mX4_readBehind 2 := ⟨x_in 436 (by decide +kernel) rfl, x_in 54 (by decide +kernel) rfl, by decide +kernel, by decide⟩
theorem pnX4_readBehind : plainName (mX4_readBehind).1.cls = true := by decide +kernel
def mX4_best : x_M := (yX4_best, cX4_best, 7, (some .int))
theorem cbX4_best : x_CB mX4_best 1 := ⟨x_in 440 (by decide +kernel) rfl, x_in 54 (by decide +kernel) rfl, by decide +kernel, by decide⟩
theorem pnX4_best : plainName (mX4_best).1.cls = true := by decide +kernel
def mX4_stood : x_M := (yX4_stood, cX4_stood, 3, (some .int))
theorem cbX4_stood : x_CB mX4_stood 1 := ⟨x_in 444 (by decide +kernel) rfl, x_in 54 (by decide +kernel) rfl, by decide +kernel, by decide⟩
theorem pnX4_stood : plainName (mX4_stood).1.cls = true := by decide +kernel
def mX4_sight : x_M := (yX4_sight, cX4_sight, 4, (some .int))
theorem cbX4_sight : x_CB mX4_sight 3 := ⟨x_in 448 (by decide +kernel) rfl, x_in 54 (by decide +kernel) rfl, by decide +kernel, by decide⟩
theorem pnX4_sight : plainName (mX4_sight).1.cls = true := by decide +kernel
def mX3_addSight : x_M := (yX3_addSight, cX3_addSight, 4, none)
theorem cbX3_addSight : x_CB mX3_addSight 3 := ⟨x_in 452 (by decide +kernel) rfl, x_in 56 (by decide +kernel) rfl, by decide +kernel, by decide⟩
theorem pnX3_addSight : plainName (mX3_addSight).1.cls = true := by decide +kernel
def mX4_forget : x_M := (yX4_forget, cX4_forget, 2, (some .int))
theorem cbX4_forget : x_CB mX4_forget 0 := ⟨x_in 456 (by decide +kernel) rfl, x_in 54 (by decide +kernel) rfl, by decide +kernel, by decide⟩
theorem pnX4_forget : plainName (mX4_forget).1.cls = true := by decide +kernel
def mX4_fits : x_M := (yX4_fits, cX4_fits, 2, (some .int))
theorem cbX4_fits : x_CB mX4_fits 1 := ⟨x_in 460 (by decide +kernel) rfl, x_in 54 (by decide +kernel) rfl, by decide +kernel, by decide⟩
theorem pnX4_fits : plainName (mX4_fits).1.cls = true := by decide +kernel
def mX2_refresh : x_M := (yX2_refresh, cX2_refresh, 3, none)
theorem cbX2_refresh : x_CB mX2_refresh 2 := ⟨x_in 464 (by decide +kernel) rfl, x_in 58 (by decide +kernel) rfl, by decide +kernel, by decide⟩
theorem pnX2_refresh : plainName (mX2_refresh).1.cls = true := by decide +kernel
def mX2_findAsked : x_M := (yX2_findAsked, cX2_findAsked, 3, none)
theorem cbX2_findAsked : x_CB mX2_findAsked 1 := ⟨x_in 468 (by decide +kernel) rfl, x_in 58 (by decide +kernel) rfl, by decide +kernel, by decide⟩
theorem pnX2_findAsked : plainName (mX2_findAsked).1.cls = true := by decide +kernel
def mX2_spreadSights : x_M := (yX2_spreadSights, cX2_spreadSights, 6, none)
theorem cbX2_spreadSights : x_CB mX2_spreadSights 2 := ⟨x_in 473 (by decide +kernel) rfl, x_in 58 (by decide +kernel) rfl, by decide +kernel, by decide⟩
theorem pnX2_spreadSights : plainName (mX2_spreadSights).1.cls = true := by decide +kernel
def mJ9_max_7cf53 : x_M := (yJ9_max_7cf53, cJ9_max_7cf53, 2, (some .int))
theorem cbJ9_max_7cf53 : x_CB mJ9_max_7cf53 2 := ⟨x_in 476 (by decide +kernel) rfl, x_in 62 (by decide +kernel) rfl, by decide +kernel, by decide⟩
def mX2_keepTold : x_M := (yX2_keepTold, cX2_keepTold, 9, none)
theorem cbX2_keepTold : x_CB mX2_keepTold 2 := ⟨x_in 480 (by decide +kernel) rfl, x_in 58 (by decide +kernel) rfl, by decide +kernel, by decide⟩
theorem pnX2_keepTold : plainName (mX2_keepTold).1.cls = true := by decide +kernel
def mX2_isSighted : x_M := (yX2_isSighted, cX2_isSighted, 2, (some .boolean))
theorem cbX2_isSighted : x_CB mX2_isSighted 1 := ⟨x_in 484 (by decide +kernel) rfl, x_in 58 (by decide +kernel) rfl, by decide +kernel, by decide⟩
theorem pnX2_isSighted : plainName (mX2_isSighted).1.cls = true := by decide +kernel
def mX2_clearAnswers : x_M := (yX2_clearAnswers, cX2_clearAnswers, 2, none)
theorem cbX2_clearAnswers : x_CB mX2_clearAnswers 0 := ⟨x_in 489 (by decide +kernel) rfl, x_in 58 (by decide +kernel) rfl, by decide +kernel, by decide⟩
theorem pnX2_clearAnswers : plainName (mX2_clearAnswers).1.cls = true := by decide +kernel
def mX2_holdsBehind : x_M := (yX2_holdsBehind, cX2_holdsBehind, 3, (some .boolean))
theorem cbX2_holdsBehind : x_CB mX2_holdsBehind 1 := ⟨x_in 494 (by decide +kernel) rfl, x_in 58 (by decide +kernel) rfl, by decide +kernel, by decide⟩
theorem pnX2_holdsBehind : plainName (mX2_holdsBehind).1.cls = true := by decide +kernel
def mX1_toldCrossers : x_M := (yX1_toldCrossers, cX1_toldCrossers, 4, (some .int))
theorem cbX1_toldCrossers : x_CB mX1_toldCrossers 0 := ⟨x_in 499 (by decide +kernel) rfl, x_in 55 (by decide +kernel) rfl, by decide +kernel, by decide⟩
theorem pnX1_toldCrossers : plainName (mX1_toldCrossers).1.cls = true := by decide +kernel
def mX2_follow : x_M := (yX2_follow, cX2_follow, 9, none)
theorem cbX2_follow : x_CB mX2_follow 4 := ⟨x_in 503 (by decide +kernel) rfl, x_in 58 (by decide +kernel) rfl, by decide +kernel, by decide⟩
theorem pnX2_follow : plainName (mX2_follow).1.cls = true := by decide +kernel
def mX2_isAskedIndex : x_M := (yX2_isAskedIndex, cX2_isAskedIndex, 2, (some .boolean))
theorem cbX2_isAskedIndex : x_CB mX2_isAskedIndex 1 := ⟨x_in 507 (by decide +kernel) rfl, x_in 58 (by decide +kernel) rfl, by decide +kernel, by decide⟩
theorem pnX2_isAskedIndex : plainName (mX2_isAskedIndex).1.cls = true := by decide +kernel
def mX2_walk : x_M := (yX2_walk, cX2_walk, 4, (some .boolean))
theorem cbX2_walk : x_CB mX2_walk 2 := ⟨x_in 511 (by decide +kernel) rfl, x_in 58 (by decide +kernel) rfl, by decide +kernel, by decide⟩
theorem pnX2_walk : plainName (mX2_walk).1.cls = true := by decide +kernel
def mX2_countWay : x_M := (yX2_countWay, cX2_countWay, 3, none)
theorem cbX2_countWay : x_CB mX2_countWay 1 := ⟨x_in 516 (by decide +kernel) rfl, x_in 58 (by decide +kernel) rfl, by decide +kernel, by decide⟩
theorem pnX2_countWay : plainName (mX2_countWay).1.cls = true := by decide +kernel
def mX2_firstWriting : x_M := (yX2_firstWriting, cX2_firstWriting, 2, (some .int))
theorem cbX2_firstWriting : x_CB mX2_firstWriting 1 := ⟨x_in 520 (by decide +kernel) rfl, x_in 58 (by decide +kernel) rfl, by decide +kernel, by decide⟩
theorem pnX2_firstWriting : plainName (mX2_firstWriting).1.cls = true := by decide +kernel
def mX4_could : x_M := (yX4_could, cX4_could, 2, (some .int))
theorem cbX4_could : x_CB mX4_could 1 := ⟨x_in 524 (by decide +kernel) rfl, x_in 54 (by decide +kernel) rfl, by decide +kernel, by decide⟩
theorem pnX4_could : plainName (mX4_could).1.cls = true := by decide +kernel
def mX2_candidatesFor : x_M := (yX2_candidatesFor, cX2_candidatesFor, 2, (some .int))
theorem cbX2_candidatesFor : x_CB mX2_candidatesFor 1 := ⟨x_in 528 (by decide +kernel) rfl, x_in 58 (by decide +kernel) rfl, by decide +kernel, by decide⟩
theorem pnX2_candidatesFor : plainName (mX2_candidatesFor).1.cls = true := by decide +kernel
def mX4_alibi : x_M := (yX4_alibi, cX4_alibi, 2, (some .int))
theorem cbX4_alibi : x_CB mX4_alibi 1 := ⟨x_in 532 (by decide +kernel) rfl, x_in 54 (by decide +kernel) rfl, by decide +kernel, by decide⟩
theorem pnX4_alibi : plainName (mX4_alibi).1.cls = true := by decide +kernel
def mX2_waysWith : x_M := (yX2_waysWith, cX2_waysWith, 2, (some .int))
theorem cbX2_waysWith : x_CB mX2_waysWith 1 := ⟨x_in 536 (by decide +kernel) rfl, x_in 58 (by decide +kernel) rfl, by decide +kernel, by decide⟩
theorem pnX2_waysWith : plainName (mX2_waysWith).1.cls = true := by decide +kernel
def mX4_gone : x_M := (yX4_gone, cX4_gone, 3, (some .int))
theorem cbX4_gone : x_CB mX4_gone 1 := ⟨x_in 541 (by decide +kernel) rfl, x_in 54 (by decide +kernel) rfl, by decide +kernel, by decide⟩
theorem pnX4_gone : plainName (mX4_gone).1.cls = true := by decide +kernel
def mX4_out : x_M := (yX4_out, cX4_out, 4, (some .int))
theorem cbX4_out : x_CB mX4_out 1 := ⟨x_in 545 (by decide +kernel) rfl, x_in 54 (by decide +kernel) rfl, by decide +kernel, by decide⟩
theorem pnX4_out : plainName (mX4_out).1.cls = true := by decide +kernel
def mX4_drawn : x_M := (yX4_drawn, cX4_drawn, 6, (some .int))
theorem cbX4_drawn : x_CB mX4_drawn 3 := ⟨x_in 549 (by decide +kernel) rfl, x_in 54 (by decide +kernel) rfl, by decide +kernel, by decide⟩
theorem pnX4_drawn : plainName (mX4_drawn).1.cls = true := by decide +kernel
def mX4_drawCrossings : x_M := (yX4_drawCrossings, cX4_drawCrossings, 7, (some .int))
theorem cbX4_drawCrossings : x_CB mX4_drawCrossings 3 := ⟨x_in 553 (by decide +kernel) rfl, x_in 54 (by decide +kernel) rfl, by decide +kernel, by decide⟩
theorem pnX4_drawCrossings : plainName (mX4_drawCrossings).1.cls = true := by decide +kernel
def mX4_image : x_M := (yX4_image, cX4_image, 2, (some .int))
theorem cbX4_image : x_CB mX4_image 1 := ⟨x_in 558 (by decide +kernel) rfl, x_in 54 (by decide +kernel) rfl, by decide +kernel, by decide⟩
theorem pnX4_image : plainName (mX4_image).1.cls = true := by decide +kernel
def mX3_copy : x_M := (yX3_copy, cX3_copy, 3, none)
theorem cbX3_copy : x_CB mX3_copy 1 := ⟨x_in 562 (by decide +kernel) rfl, x_in 56 (by decide +kernel) rfl, by decide +kernel, by decide⟩
theorem pnX3_copy : plainName (mX3_copy).1.cls = true := by decide +kernel
def mX4_restore : x_M := (yX4_restore, cX4_restore, 2, (some .int))
theorem cbX4_restore : x_CB mX4_restore 1 := ⟨x_in 567 (by decide +kernel) rfl, x_in 54 (by decide +kernel) rfl, by decide +kernel, by decide⟩
theorem pnX4_restore : plainName (mX4_restore).1.cls = true := by decide +kernel
def mX4_told : x_M := (yX4_told, cX4_told, 2, (some .int))
theorem cbX4_told : x_CB mX4_told 1 := ⟨x_in 571 (by decide +kernel) rfl, x_in 54 (by decide +kernel) rfl, by decide +kernel, by decide⟩
theorem pnX4_told : plainName (mX4_told).1.cls = true := by decide +kernel
def mX5_init : x_M := (yX5_init, cX5_init, 1, none)
theorem cbX5_init : x_CB mX5_init 0 := ⟨x_in 576 (by decide +kernel) rfl, x_in 59 (by decide +kernel) rfl, by decide +kernel, by decide⟩
theorem pnX5_init : plainName (mX5_init).1.cls = true := by decide +kernel
def mX5_set : x_M := (yX5_set, cX5_set, 4, (some .int))
theorem cbX5_set : x_CB mX5_set 2 := ⟨x_in 657 (by decide +kernel) rfl, x_in 59 (by decide +kernel) rfl, by decide +kernel, by decide⟩
theorem pnX5_set : plainName (mX5_set).1.cls = true := by decide +kernel
def mX5_in : x_M := (yX5_in, cX5_in, 6, (some .boolean))
theorem cbX5_in : x_CB mX5_in 3 := ⟨x_in 660 (by decide +kernel) rfl, x_in 59 (by decide +kernel) rfl, by decide +kernel, by decide⟩
theorem pnX5_in : plainName (mX5_in).1.cls = true := by decide +kernel
def mX5_say : x_M := (yX5_say, cX5_say, 2, (some .int))
theorem cbX5_say : x_CB mX5_say 1 := ⟨x_in 666 (by decide +kernel) rfl, x_in 59 (by decide +kernel) rfl, by decide +kernel, by decide⟩
theorem pnX5_say : plainName (mX5_say).1.cls = true := by decide +kernel
def mX5_wipe : x_M := (yX5_wipe, cX5_wipe, 2, (some .int))
theorem cbX5_wipe : x_CB mX5_wipe 0 := ⟨x_in 672 (by decide +kernel) rfl, x_in 59 (by decide +kernel) rfl, by decide +kernel, by decide⟩
theorem pnX5_wipe : plainName (mX5_wipe).1.cls = true := by decide +kernel
def mX5_fault : x_M := (yX5_fault, cX5_fault, 3, (some .int))
theorem cbX5_fault : x_CB mX5_fault 0 := ⟨x_in 676 (by decide +kernel) rfl, x_in 59 (by decide +kernel) rfl, by decide +kernel, by decide⟩
theorem pnX5_fault : plainName (mX5_fault).1.cls = true := by decide +kernel
def mX5_isCrossing : x_M := (yX5_isCrossing, cX5_isCrossing, 1, (some .boolean))
theorem cbX5_isCrossing : x_CB mX5_isCrossing 1 := ⟨x_in 679 (by decide +kernel) rfl, x_in 59 (by decide +kernel) rfl, by decide +kernel, by decide⟩
theorem pnX5_isCrossing : plainName (mX5_isCrossing).1.cls = true := by decide +kernel
def mX5_isLook : x_M := (yX5_isLook, cX5_isLook, 1, (some .boolean))
theorem cbX5_isLook : x_CB mX5_isLook 1 := ⟨x_in 684 (by decide +kernel) rfl, x_in 59 (by decide +kernel) rfl, by decide +kernel, by decide⟩
theorem pnX5_isLook : plainName (mX5_isLook).1.cls = true := by decide +kernel
def mX5_stands : x_M := (yX5_stands, cX5_stands, 4, (some .int))
theorem cbX5_stands : x_CB mX5_stands 2 := ⟨x_in 690 (by decide +kernel) rfl, x_in 59 (by decide +kernel) rfl, by decide +kernel, by decide⟩
theorem pnX5_stands : plainName (mX5_stands).1.cls = true := by decide +kernel
def mX5_untoldAmong : x_M := (yX5_untoldAmong, cX5_untoldAmong, 4, (some .int))
theorem cbX5_untoldAmong : x_CB mX5_untoldAmong 1 := ⟨x_in 697 (by decide +kernel) rfl, x_in 59 (by decide +kernel) rfl, by decide +kernel, by decide⟩
theorem pnX5_untoldAmong : plainName (mX5_untoldAmong).1.cls = true := by decide +kernel
def mX5_layDay : x_M := (yX5_layDay, cX5_layDay, 2, none)
theorem cbX5_layDay : x_CB mX5_layDay 0 := ⟨x_in 701 (by decide +kernel) rfl, x_in 59 (by decide +kernel) rfl, by decide +kernel, by decide⟩
theorem pnX5_layDay : plainName (mX5_layDay).1.cls = true := by decide +kernel
def mX5_go : x_M := (yX5_go, cX5_go, 3, none)
theorem cbX5_go : x_CB mX5_go 1 := ⟨x_in 705 (by decide +kernel) rfl, x_in 59 (by decide +kernel) rfl, by decide +kernel, by decide⟩
theorem pnX5_go : plainName (mX5_go).1.cls = true := by decide +kernel
def mX5_clear : x_M := (yX5_clear, cX5_clear, 1, none)
theorem cbX5_clear : x_CB mX5_clear 0 := ⟨x_in 709 (by decide +kernel) rfl, x_in 59 (by decide +kernel) rfl, by decide +kernel, by decide⟩
theorem pnX5_clear : plainName (mX5_clear).1.cls = true := by decide +kernel
def mX5_write : x_M := (yX5_write, cX5_write, 5, none)
theorem cbX5_write : x_CB mX5_write 2 := ⟨x_in 713 (by decide +kernel) rfl, x_in 59 (by decide +kernel) rfl, by decide +kernel, by decide⟩
theorem pnX5_write : plainName (mX5_write).1.cls = true := by decide +kernel
def mX5_placeOf : x_M := (yX5_placeOf, cX5_placeOf, 3, (some .int))
theorem cbX5_placeOf : x_CB mX5_placeOf 1 := ⟨x_in 717 (by decide +kernel) rfl, x_in 59 (by decide +kernel) rfl, by decide +kernel, by decide⟩
theorem pnX5_placeOf : plainName (mX5_placeOf).1.cls = true := by decide +kernel
def mX5_drop : x_M := (yX5_drop, cX5_drop, 3, none)
theorem cbX5_drop : x_CB mX5_drop 1 := ⟨x_in 721 (by decide +kernel) rfl, x_in 59 (by decide +kernel) rfl, by decide +kernel, by decide⟩
theorem pnX5_drop : plainName (mX5_drop).1.cls = true := by decide +kernel
def mX5_read : x_M := (yX5_read, cX5_read, 2, (some .int))
theorem cbX5_read : x_CB mX5_read 1 := ⟨x_in 725 (by decide +kernel) rfl, x_in 59 (by decide +kernel) rfl, by decide +kernel, by decide⟩
theorem pnX5_read : plainName (mX5_read).1.cls = true := by decide +kernel
def mX5_isPerson : x_M := (yX5_isPerson, cX5_isPerson, 1, (some .boolean))
theorem cbX5_isPerson : x_CB mX5_isPerson 1 := ⟨x_in 728 (by decide +kernel) rfl, x_in 59 (by decide +kernel) rfl, by decide +kernel, by decide⟩
theorem pnX5_isPerson : plainName (mX5_isPerson).1.cls = true := by decide +kernel
def mX5_refusal : x_M := (yX5_refusal, cX5_refusal, 1, (some .int))
theorem cbX5_refusal : x_CB mX5_refusal 0 := ⟨x_in 733 (by decide +kernel) rfl, x_in 59 (by decide +kernel) rfl, by decide +kernel, by decide⟩
theorem pnX5_refusal : plainName (mX5_refusal).1.cls = true := by decide +kernel
def mX5_goReading : x_M := (yX5_goReading, cX5_goReading, 3, none)
theorem cbX5_goReading : x_CB mX5_goReading 0 := ⟨x_in 737 (by decide +kernel) rfl, x_in 59 (by decide +kernel) rfl, by decide +kernel, by decide⟩
theorem pnX5_goReading : plainName (mX5_goReading).1.cls = true := by decide +kernel
def mX5_names : x_M := (yX5_names, cX5_names, 3, (some .int))
theorem cbX5_names : x_CB mX5_names 0 := ⟨x_in 741 (by decide +kernel) rfl, x_in 59 (by decide +kernel) rfl, by decide +kernel, by decide⟩
theorem pnX5_names : plainName (mX5_names).1.cls = true := by decide +kernel
def mX5_seen : x_M := (yX5_seen, cX5_seen, 2, (some .int))
theorem cbX5_seen : x_CB mX5_seen 1 := ⟨x_in 745 (by decide +kernel) rfl, x_in 59 (by decide +kernel) rfl, by decide +kernel, by decide⟩
theorem pnX5_seen : plainName (mX5_seen).1.cls = true := by decide +kernel
def mX5_seenBy : x_M := (yX5_seenBy, cX5_seenBy, 4, (some .int))
theorem cbX5_seenBy : x_CB mX5_seenBy 1 := ⟨x_in 749 (by decide +kernel) rfl, x_in 59 (by decide +kernel) rfl, by decide +kernel, by decide⟩
theorem pnX5_seenBy : plainName (mX5_seenBy).1.cls = true := by decide +kernel
def mX5_missed : x_M := (yX5_missed, cX5_missed, 4, (some .int))
theorem cbX5_missed : x_CB mX5_missed 1 := ⟨x_in 753 (by decide +kernel) rfl, x_in 59 (by decide +kernel) rfl, by decide +kernel, by decide⟩
theorem pnX5_missed : plainName (mX5_missed).1.cls = true := by decide +kernel
def mX5_missedMany : x_M := (yX5_missedMany, cX5_missedMany, 3, (some .int))
theorem cbX5_missedMany : x_CB mX5_missedMany 0 := ⟨x_in 757 (by decide +kernel) rfl, x_in 59 (by decide +kernel) rfl, by decide +kernel, by decide⟩
theorem pnX5_missedMany : plainName (mX5_missedMany).1.cls = true := by decide +kernel
def mX5_hired : x_M := (yX5_hired, cX5_hired, 6, (some .int))
theorem cbX5_hired : x_CB mX5_hired 3 := ⟨x_in 761 (by decide +kernel) rfl, x_in 59 (by decide +kernel) rfl, by decide +kernel, by decide⟩
theorem pnX5_hired : plainName (mX5_hired).1.cls = true := by decide +kernel
def mX5_looksOf : x_M := (yX5_looksOf, cX5_looksOf, 4, (some .int))
theorem cbX5_looksOf : x_CB mX5_looksOf 1 := ⟨x_in 766 (by decide +kernel) rfl, x_in 59 (by decide +kernel) rfl, by decide +kernel, by decide⟩
theorem pnX5_looksOf : plainName (mX5_looksOf).1.cls = true := by decide +kernel
def mX5_isOf : x_M := (yX5_isOf, cX5_isOf, 3, (some .boolean))
theorem cbX5_isOf : x_CB mX5_isOf 2 := ⟨x_in 770 (by decide +kernel) rfl, x_in 59 (by decide +kernel) rfl, by decide +kernel, by decide⟩
theorem pnX5_isOf : plainName (mX5_isOf).1.cls = true := by decide +kernel
def mX5_hire : x_M := (yX5_hire, cX5_hire, 6, (some .int))
theorem cbX5_hire : x_CB mX5_hire 3 := ⟨x_in 774 (by decide +kernel) rfl, x_in 59 (by decide +kernel) rfl, by decide +kernel, by decide⟩
theorem pnX5_hire : plainName (mX5_hire).1.cls = true := by decide +kernel
def mX5_isHidden : x_M := (yX5_isHidden, cX5_isHidden, 7, (some .boolean))
theorem cbX5_isHidden : x_CB mX5_isHidden 2 := ⟨x_in 778 (by decide +kernel) rfl, x_in 59 (by decide +kernel) rfl, by decide +kernel, by decide⟩
theorem pnX5_isHidden : plainName (mX5_isHidden).1.cls = true := by decide +kernel
def mX5_nextPlan : x_M := (yX5_nextPlan, cX5_nextPlan, 4, (some .boolean))
theorem cbX5_nextPlan : x_CB mX5_nextPlan 1 := ⟨x_in 782 (by decide +kernel) rfl, x_in 59 (by decide +kernel) rfl, by decide +kernel, by decide⟩
theorem pnX5_nextPlan : plainName (mX5_nextPlan).1.cls = true := by decide +kernel
def mX5_cross : x_M := (yX5_cross, cX5_cross, 3, (some .int))
theorem cbX5_cross : x_CB mX5_cross 2 := ⟨x_in 786 (by decide +kernel) rfl, x_in 59 (by decide +kernel) rfl, by decide +kernel, by decide⟩
theorem pnX5_cross : plainName (mX5_cross).1.cls = true := by decide +kernel
def mX5_findCross : x_M := (yX5_findCross, cX5_findCross, 4, none)
theorem cbX5_findCross : x_CB mX5_findCross 1 := ⟨x_in 790 (by decide +kernel) rfl, x_in 59 (by decide +kernel) rfl, by decide +kernel, by decide⟩
theorem pnX5_findCross : plainName (mX5_findCross).1.cls = true := by decide +kernel
def mX5_layMore : x_M := (yX5_layMore, cX5_layMore, 4, none)
theorem cbX5_layMore : x_CB mX5_layMore 2 := ⟨x_in 794 (by decide +kernel) rfl, x_in 59 (by decide +kernel) rfl, by decide +kernel, by decide⟩
theorem pnX5_layMore : plainName (mX5_layMore).1.cls = true := by decide +kernel
def mX5_ones : x_M := (yX5_ones, cX5_ones, 3, (some .int))
theorem cbX5_ones : x_CB mX5_ones 1 := ⟨x_in 797 (by decide +kernel) rfl, x_in 59 (by decide +kernel) rfl, by decide +kernel, by decide⟩
theorem pnX5_ones : plainName (mX5_ones).1.cls = true := by decide +kernel
def mX5_unseen : x_M := (yX5_unseen, cX5_unseen, 2, (some .int))
theorem cbX5_unseen : x_CB mX5_unseen 1 := ⟨x_in 801 (by decide +kernel) rfl, x_in 59 (by decide +kernel) rfl, by decide +kernel, by decide⟩
theorem pnX5_unseen : plainName (mX5_unseen).1.cls = true := by decide +kernel
def mX5_look : x_M := (yX5_look, cX5_look, 6, (some .int))
theorem cbX5_look : x_CB mX5_look 1 := ⟨x_in 805 (by decide +kernel) rfl, x_in 59 (by decide +kernel) rfl, by decide +kernel, by decide⟩
theorem pnX5_look : plainName (mX5_look).1.cls = true := by decide +kernel
def mX5_looks : x_M := (yX5_looks, cX5_looks, 6, (some .int))
theorem cbX5_looks : x_CB mX5_looks 1 := ⟨x_in 809 (by decide +kernel) rfl, x_in 59 (by decide +kernel) rfl, by decide +kernel, by decide⟩
theorem pnX5_looks : plainName (mX5_looks).1.cls = true := by decide +kernel
def mX5_seesAll : x_M := (yX5_seesAll, cX5_seesAll, 6, (some .boolean))
theorem cbX5_seesAll : x_CB mX5_seesAll 1 := ⟨x_in 813 (by decide +kernel) rfl, x_in 59 (by decide +kernel) rfl, by decide +kernel, by decide⟩
theorem pnX5_seesAll : plainName (mX5_seesAll).1.cls = true := by decide +kernel
def mX5_best : x_M := (yX5_best, cX5_best, 7, (some .int))
theorem cbX5_best : x_CB mX5_best 1 := ⟨x_in 817 (by decide +kernel) rfl, x_in 59 (by decide +kernel) rfl, by decide +kernel, by decide⟩
theorem pnX5_best : plainName (mX5_best).1.cls = true := by decide +kernel
def mX5_stood : x_M := (yX5_stood, cX5_stood, 3, (some .int))
theorem cbX5_stood : x_CB mX5_stood 1 := ⟨x_in 821 (by decide +kernel) rfl, x_in 59 (by decide +kernel) rfl, by decide +kernel, by decide⟩
theorem pnX5_stood : plainName (mX5_stood).1.cls = true := by decide +kernel
def mX5_sight : x_M := (yX5_sight, cX5_sight, 4, (some .int))
theorem cbX5_sight : x_CB mX5_sight 3 := ⟨x_in 825 (by decide +kernel) rfl, x_in 59 (by decide +kernel) rfl, by decide +kernel, by decide⟩
theorem pnX5_sight : plainName (mX5_sight).1.cls = true := by decide +kernel
def mX5_forget : x_M := (yX5_forget, cX5_forget, 2, (some .int))
theorem cbX5_forget : x_CB mX5_forget 0 := ⟨x_in 830 (by decide +kernel) rfl, x_in 59 (by decide +kernel) rfl, by decide +kernel, by decide⟩
theorem pnX5_forget : plainName (mX5_forget).1.cls = true := by decide +kernel
def mX5_fits : x_M := (yX5_fits, cX5_fits, 5, (some .int))
theorem cbX5_fits : x_CB mX5_fits 1 := ⟨x_in 834 (by decide +kernel) rfl, x_in 59 (by decide +kernel) rfl, by decide +kernel, by decide⟩
theorem pnX5_fits : plainName (mX5_fits).1.cls = true := by decide +kernel
def mX5_ways : x_M := (yX5_ways, cX5_ways, 1, (some .int))
theorem cbX5_ways : x_CB mX5_ways 0 := ⟨x_in 838 (by decide +kernel) rfl, x_in 59 (by decide +kernel) rfl, by decide +kernel, by decide⟩
theorem pnX5_ways : plainName (mX5_ways).1.cls = true := by decide +kernel
def mX5_holds : x_M := (yX5_holds, cX5_holds, 5, (some .boolean))
theorem cbX5_holds : x_CB mX5_holds 1 := ⟨x_in 842 (by decide +kernel) rfl, x_in 59 (by decide +kernel) rfl, by decide +kernel, by decide⟩
theorem pnX5_holds : plainName (mX5_holds).1.cls = true := by decide +kernel
def mX5_fitsAt : x_M := (yX5_fitsAt, cX5_fitsAt, 5, (some .boolean))
theorem cbX5_fitsAt : x_CB mX5_fitsAt 1 := ⟨x_in 846 (by decide +kernel) rfl, x_in 59 (by decide +kernel) rfl, by decide +kernel, by decide⟩
theorem pnX5_fitsAt : plainName (mX5_fitsAt).1.cls = true := by decide +kernel
def mX5_filledAt : x_M := (yX5_filledAt, cX5_filledAt, 4, (some .int))
theorem cbX5_filledAt : x_CB mX5_filledAt 1 := ⟨x_in 850 (by decide +kernel) rfl, x_in 59 (by decide +kernel) rfl, by decide +kernel, by decide⟩
theorem pnX5_filledAt : plainName (mX5_filledAt).1.cls = true := by decide +kernel
def mX5_could : x_M := (yX5_could, cX5_could, 5, (some .int))
theorem cbX5_could : x_CB mX5_could 1 := ⟨x_in 854 (by decide +kernel) rfl, x_in 59 (by decide +kernel) rfl, by decide +kernel, by decide⟩
theorem pnX5_could : plainName (mX5_could).1.cls = true := by decide +kernel
def mX5_alibi : x_M := (yX5_alibi, cX5_alibi, 7, (some .int))
theorem cbX5_alibi : x_CB mX5_alibi 1 := ⟨x_in 858 (by decide +kernel) rfl, x_in 59 (by decide +kernel) rfl, by decide +kernel, by decide⟩
theorem pnX5_alibi : plainName (mX5_alibi).1.cls = true := by decide +kernel
def mX5_gone : x_M := (yX5_gone, cX5_gone, 3, (some .int))
theorem cbX5_gone : x_CB mX5_gone 1 := ⟨x_in 862 (by decide +kernel) rfl, x_in 59 (by decide +kernel) rfl, by decide +kernel, by decide⟩
theorem pnX5_gone : plainName (mX5_gone).1.cls = true := by decide +kernel
def mX5_out : x_M := (yX5_out, cX5_out, 3, (some .int))
theorem cbX5_out : x_CB mX5_out 1 := ⟨x_in 866 (by decide +kernel) rfl, x_in 59 (by decide +kernel) rfl, by decide +kernel, by decide⟩
theorem pnX5_out : plainName (mX5_out).1.cls = true := by decide +kernel
def mX5_stillStands : x_M := (yX5_stillStands, cX5_stillStands, 4, (some .boolean))
theorem cbX5_stillStands : x_CB mX5_stillStands 1 := ⟨x_in 870 (by decide +kernel) rfl, x_in 59 (by decide +kernel) rfl, by decide +kernel, by decide⟩
theorem pnX5_stillStands : plainName (mX5_stillStands).1.cls = true := by decide +kernel
def mX5_drawn : x_M := (yX5_drawn, cX5_drawn, 7, (some .int))
theorem cbX5_drawn : x_CB mX5_drawn 3 := ⟨x_in 874 (by decide +kernel) rfl, x_in 59 (by decide +kernel) rfl, by decide +kernel, by decide⟩
theorem pnX5_drawn : plainName (mX5_drawn).1.cls = true := by decide +kernel
def mX5_image : x_M := (yX5_image, cX5_image, 2, (some .int))
theorem cbX5_image : x_CB mX5_image 1 := ⟨x_in 883 (by decide +kernel) rfl, x_in 59 (by decide +kernel) rfl, by decide +kernel, by decide⟩
theorem pnX5_image : plainName (mX5_image).1.cls = true := by decide +kernel
def mX5_passAll : x_M := (yX5_passAll, cX5_passAll, 2, none)
theorem cbX5_passAll : x_CB mX5_passAll 0 := ⟨x_in 887 (by decide +kernel) rfl, x_in 59 (by decide +kernel) rfl, by decide +kernel, by decide⟩
theorem pnX5_passAll : plainName (mX5_passAll).1.cls = true := by decide +kernel
def mX5_pass : x_M := (yX5_pass, cX5_pass, 3, (some .int))
theorem cbX5_pass : x_CB mX5_pass 1 := ⟨x_in 891 (by decide +kernel) rfl, x_in 59 (by decide +kernel) rfl, by decide +kernel, by decide⟩
theorem pnX5_pass : plainName (mX5_pass).1.cls = true := by decide +kernel
def mX5_restore : x_M := (yX5_restore, cX5_restore, 2, (some .int))
theorem cbX5_restore : x_CB mX5_restore 1 := ⟨x_in 895 (by decide +kernel) rfl, x_in 59 (by decide +kernel) rfl, by decide +kernel, by decide⟩
theorem pnX5_restore : plainName (mX5_restore).1.cls = true := by decide +kernel
def mX5_told : x_M := (yX5_told, cX5_told, 2, (some .int))
theorem cbX5_told : x_CB mX5_told 1 := ⟨x_in 899 (by decide +kernel) rfl, x_in 59 (by decide +kernel) rfl, by decide +kernel, by decide⟩
theorem pnX5_told : plainName (mX5_told).1.cls = true := by decide +kernel
theorem inX0 : ∀ w ∈ u_ws RX0 TX0 6, w ∈ x_base := fun w hw => List.mem_filter.mpr ⟨(show ∀ w ∈ u_ws RX0 TX0 6, w ∈ lw_tbl by decide +kernel) w hw, (show ∀ w ∈ u_ws RX0 TX0 6, goodWord w = true by decide +kernel) w hw⟩
theorem inX1 : ∀ w ∈ u_ws RX1 TX1 2, w ∈ x_base := fun w hw => List.mem_filter.mpr ⟨(show ∀ w ∈ u_ws RX1 TX1 2, w ∈ lw_tbl by decide +kernel) w hw, (show ∀ w ∈ u_ws RX1 TX1 2, goodWord w = true by decide +kernel) w hw⟩
theorem inX2 : ∀ w ∈ u_ws RX2 TX2 13, w ∈ x_base := fun w hw => List.mem_filter.mpr ⟨(show ∀ w ∈ u_ws RX2 TX2 13, w ∈ lw_tbl by decide +kernel) w hw, (show ∀ w ∈ u_ws RX2 TX2 13, goodWord w = true by decide +kernel) w hw⟩
theorem inX3 : ∀ w ∈ u_ws RX3 TX3 6, w ∈ x_base := fun w hw => List.mem_filter.mpr ⟨(show ∀ w ∈ u_ws RX3 TX3 6, w ∈ lw_tbl by decide +kernel) w hw, (show ∀ w ∈ u_ws RX3 TX3 6, goodWord w = true by decide +kernel) w hw⟩
theorem inX4 : ∀ w ∈ u_ws RX4 TX4 8, w ∈ x_base := fun w hw => List.mem_filter.mpr ⟨(show ∀ w ∈ u_ws RX4 TX4 8, w ∈ lw_tbl by decide +kernel) w hw, (show ∀ w ∈ u_ws RX4 TX4 8, goodWord w = true by decide +kernel) w hw⟩
theorem inX5 : ∀ w ∈ u_ws RX5 TX5 25, w ∈ x_base := fun w hw => List.mem_filter.mpr ⟨(show ∀ w ∈ u_ws RX5 TX5 25, w ∈ lw_tbl by decide +kernel) w hw, (show ∀ w ∈ u_ws RX5 TX5 25, goodWord w = true by decide +kernel) w hw⟩
theorem flX1_9 : x_FL RX1 9 1 0 := ⟨RX1, TX1, 2, rfl, by decide, inX1, Or.inl (x_in 77 (by decide +kernel) rfl)⟩
theorem flX1_15 : x_FL RX1 15 1 1 := ⟨RX1, TX1, 2, rfl, by decide, inX1, Or.inl (x_in 78 (by decide +kernel) rfl)⟩
theorem fpX1_15 : x_FP RX1 15 1 1 .int := ⟨RX1, TX1, 2, rfl, by decide, inX1, Or.inl (x_in 78 (by decide +kernel) rfl), by decide +kernel, by decide +kernel, ⟨tyX1, tyX1_ok⟩, nmX1⟩
theorem flX4_68 : x_FL RX4 68 1 1 := ⟨RX1, TX1, 2, rfl, by decide, inX1, Or.inr ⟨"NineNames", x_inN 26 (by decide +kernel) rfl⟩⟩
theorem fpX4_68 : x_FP RX4 68 1 1 .int := ⟨RX1, TX1, 2, rfl, by decide, inX1, Or.inr ⟨"NineNames", x_inN 26 (by decide +kernel) rfl⟩, by decide +kernel, by decide +kernel, ⟨tyX1, tyX1_ok⟩, nmX1⟩
theorem flX2_103 : x_FL RX2 103 1 1 := ⟨RX1, TX1, 2, rfl, by decide, inX1, Or.inr ⟨"NineNames", x_inN 27 (by decide +kernel) rfl⟩⟩
theorem fpX2_103 : x_FP RX2 103 1 1 .int := ⟨RX1, TX1, 2, rfl, by decide, inX1, Or.inr ⟨"NineNames", x_inN 27 (by decide +kernel) rfl⟩, by decide +kernel, by decide +kernel, ⟨tyX1, tyX1_ok⟩, nmX1⟩
theorem flX3_9 : x_FL RX3 9 3 0 := ⟨RX3, TX3, 6, rfl, by decide, inX3, Or.inl (x_in 93 (by decide +kernel) rfl)⟩
theorem fpX3_9 : x_FP RX3 9 3 0 .int := ⟨RX3, TX3, 6, rfl, by decide, inX3, Or.inl (x_in 93 (by decide +kernel) rfl), by decide +kernel, by decide +kernel, ⟨tyX3, tyX3_ok⟩, nmX3⟩
theorem flX4_57 : x_FL RX4 57 3 0 := ⟨RX3, TX3, 6, rfl, by decide, inX3, Or.inr ⟨"NineNames", x_inN 41 (by decide +kernel) rfl⟩⟩
theorem fpX4_57 : x_FP RX4 57 3 0 .int := ⟨RX3, TX3, 6, rfl, by decide, inX3, Or.inr ⟨"NineNames", x_inN 41 (by decide +kernel) rfl⟩, by decide +kernel, by decide +kernel, ⟨tyX3, tyX3_ok⟩, nmX3⟩
theorem flX2_71 : x_FL RX2 71 3 0 := ⟨RX3, TX3, 6, rfl, by decide, inX3, Or.inr ⟨"NineNames", x_inN 42 (by decide +kernel) rfl⟩⟩
theorem fpX2_71 : x_FP RX2 71 3 0 .int := ⟨RX3, TX3, 6, rfl, by decide, inX3, Or.inr ⟨"NineNames", x_inN 42 (by decide +kernel) rfl⟩, by decide +kernel, by decide +kernel, ⟨tyX3, tyX3_ok⟩, nmX3⟩
theorem flX3_15 : x_FL RX3 15 3 1 := ⟨RX3, TX3, 6, rfl, by decide, inX3, Or.inl (x_in 96 (by decide +kernel) rfl)⟩
theorem fpX3_15 : x_FP RX3 15 3 1 .int := ⟨RX3, TX3, 6, rfl, by decide, inX3, Or.inl (x_in 96 (by decide +kernel) rfl), by decide +kernel, by decide +kernel, ⟨tyX3, tyX3_ok⟩, nmX3⟩
theorem flX2_76 : x_FL RX2 76 3 1 := ⟨RX3, TX3, 6, rfl, by decide, inX3, Or.inr ⟨"NineNames", x_inN 44 (by decide +kernel) rfl⟩⟩
theorem fpX2_76 : x_FP RX2 76 3 1 .int := ⟨RX3, TX3, 6, rfl, by decide, inX3, Or.inr ⟨"NineNames", x_inN 44 (by decide +kernel) rfl⟩, by decide +kernel, by decide +kernel, ⟨tyX3, tyX3_ok⟩, nmX3⟩
theorem flX4_65 : x_FL RX4 65 3 1 := ⟨RX3, TX3, 6, rfl, by decide, inX3, Or.inr ⟨"NineNames", x_inN 45 (by decide +kernel) rfl⟩⟩
theorem fpX4_65 : x_FP RX4 65 3 1 .int := ⟨RX3, TX3, 6, rfl, by decide, inX3, Or.inr ⟨"NineNames", x_inN 45 (by decide +kernel) rfl⟩, by decide +kernel, by decide +kernel, ⟨tyX3, tyX3_ok⟩, nmX3⟩
theorem flX3_18 : x_FL RX3 18 3 2 := ⟨RX3, TX3, 6, rfl, by decide, inX3, Or.inl (x_in 99 (by decide +kernel) rfl)⟩
theorem fpX3_18 : x_FP RX3 18 3 2 .int := ⟨RX3, TX3, 6, rfl, by decide, inX3, Or.inl (x_in 99 (by decide +kernel) rfl), by decide +kernel, by decide +kernel, ⟨tyX3, tyX3_ok⟩, nmX3⟩
theorem flX2_109 : x_FL RX2 109 3 2 := ⟨RX3, TX3, 6, rfl, by decide, inX3, Or.inr ⟨"NineNames", x_inN 47 (by decide +kernel) rfl⟩⟩
theorem fpX2_109 : x_FP RX2 109 3 2 .int := ⟨RX3, TX3, 6, rfl, by decide, inX3, Or.inr ⟨"NineNames", x_inN 47 (by decide +kernel) rfl⟩, by decide +kernel, by decide +kernel, ⟨tyX3, tyX3_ok⟩, nmX3⟩
theorem flX4_157 : x_FL RX4 157 3 2 := ⟨RX3, TX3, 6, rfl, by decide, inX3, Or.inr ⟨"NineNames", x_inN 48 (by decide +kernel) rfl⟩⟩
theorem fpX4_157 : x_FP RX4 157 3 2 .int := ⟨RX3, TX3, 6, rfl, by decide, inX3, Or.inr ⟨"NineNames", x_inN 48 (by decide +kernel) rfl⟩, by decide +kernel, by decide +kernel, ⟨tyX3, tyX3_ok⟩, nmX3⟩
theorem flX3_21 : x_FL RX3 21 3 3 := ⟨RX3, TX3, 6, rfl, by decide, inX3, Or.inl (x_in 102 (by decide +kernel) rfl)⟩
theorem flX2_112 : x_FL RX2 112 3 3 := ⟨RX3, TX3, 6, rfl, by decide, inX3, Or.inr ⟨"NineNames", x_inN 50 (by decide +kernel) rfl⟩⟩
theorem flX3_25 : x_FL RX3 25 3 4 := ⟨RX3, TX3, 6, rfl, by decide, inX3, Or.inl (x_in 104 (by decide +kernel) rfl)⟩
theorem flX2_119 : x_FL RX2 119 3 4 := ⟨RX3, TX3, 6, rfl, by decide, inX3, Or.inr ⟨"NineNames", x_inN 52 (by decide +kernel) rfl⟩⟩
theorem flX3_28 : x_FL RX3 28 3 5 := ⟨RX3, TX3, 6, rfl, by decide, inX3, Or.inl (x_in 106 (by decide +kernel) rfl)⟩
theorem flX2_115 : x_FL RX2 115 3 5 := ⟨RX3, TX3, 6, rfl, by decide, inX3, Or.inr ⟨"NineNames", x_inN 54 (by decide +kernel) rfl⟩⟩
theorem flX0_11 : x_FL RX0 11 0 0 := ⟨RX0, TX0, 6, rfl, by decide, inX0, Or.inl (x_in 129 (by decide +kernel) rfl)⟩
theorem fpX0_11 : x_FP RX0 11 0 0 .int := ⟨RX0, TX0, 6, rfl, by decide, inX0, Or.inl (x_in 129 (by decide +kernel) rfl), by decide +kernel, by decide +kernel, ⟨tyX0, tyX0_ok⟩, nmX0⟩
theorem flX0_15 : x_FL RX0 15 0 1 := ⟨RX0, TX0, 6, rfl, by decide, inX0, Or.inl (x_in 130 (by decide +kernel) rfl)⟩
theorem fpX0_15 : x_FP RX0 15 0 1 .int := ⟨RX0, TX0, 6, rfl, by decide, inX0, Or.inl (x_in 130 (by decide +kernel) rfl), by decide +kernel, by decide +kernel, ⟨tyX0, tyX0_ok⟩, nmX0⟩
theorem flX0_18 : x_FL RX0 18 0 2 := ⟨RX0, TX0, 6, rfl, by decide, inX0, Or.inl (x_in 131 (by decide +kernel) rfl)⟩
theorem fpX0_18 : x_FP RX0 18 0 2 .long := ⟨RX0, TX0, 6, rfl, by decide, inX0, Or.inl (x_in 131 (by decide +kernel) rfl), by decide +kernel, by decide +kernel, ⟨tyX0, tyX0_ok⟩, nmX0⟩
theorem flX0_22 : x_FL RX0 22 0 3 := ⟨RX0, TX0, 6, rfl, by decide, inX0, Or.inl (x_in 132 (by decide +kernel) rfl)⟩
theorem fpX0_22 : x_FP RX0 22 0 3 .long := ⟨RX0, TX0, 6, rfl, by decide, inX0, Or.inl (x_in 132 (by decide +kernel) rfl), by decide +kernel, by decide +kernel, ⟨tyX0, tyX0_ok⟩, nmX0⟩
theorem flX0_25 : x_FL RX0 25 0 4 := ⟨RX0, TX0, 6, rfl, by decide, inX0, Or.inl (x_in 133 (by decide +kernel) rfl)⟩
theorem fpX0_25 : x_FP RX0 25 0 4 .long := ⟨RX0, TX0, 6, rfl, by decide, inX0, Or.inl (x_in 133 (by decide +kernel) rfl), by decide +kernel, by decide +kernel, ⟨tyX0, tyX0_ok⟩, nmX0⟩
theorem flX2_143 : x_FL RX2 143 0 4 := ⟨RX0, TX0, 6, rfl, by decide, inX0, Or.inr ⟨"NineNames", x_inN 81 (by decide +kernel) rfl⟩⟩
theorem fpX2_143 : x_FP RX2 143 0 4 .long := ⟨RX0, TX0, 6, rfl, by decide, inX0, Or.inr ⟨"NineNames", x_inN 81 (by decide +kernel) rfl⟩, by decide +kernel, by decide +kernel, ⟨tyX0, tyX0_ok⟩, nmX0⟩
theorem flX0_28 : x_FL RX0 28 0 5 := ⟨RX0, TX0, 6, rfl, by decide, inX0, Or.inl (x_in 135 (by decide +kernel) rfl)⟩
theorem fpX0_28 : x_FP RX0 28 0 5 .long := ⟨RX0, TX0, 6, rfl, by decide, inX0, Or.inl (x_in 135 (by decide +kernel) rfl), by decide +kernel, by decide +kernel, ⟨tyX0, tyX0_ok⟩, nmX0⟩
theorem flX2_12 : x_FL RX2 12 2 0 := ⟨RX2, TX2, 13, rfl, by decide, inX2, Or.inl (x_in 157 (by decide +kernel) rfl)⟩
theorem flX2_18 : x_FL RX2 18 2 1 := ⟨RX2, TX2, 13, rfl, by decide, inX2, Or.inl (x_in 158 (by decide +kernel) rfl)⟩
theorem fpX2_18 : x_FP RX2 18 2 1 .boolean := ⟨RX2, TX2, 13, rfl, by decide, inX2, Or.inl (x_in 158 (by decide +kernel) rfl), by decide +kernel, by decide +kernel, ⟨tyX2, tyX2_ok⟩, nmX2⟩
theorem flX4_61 : x_FL RX4 61 2 1 := ⟨RX2, TX2, 13, rfl, by decide, inX2, Or.inr ⟨"NineNames", x_inN 106 (by decide +kernel) rfl⟩⟩
theorem fpX4_61 : x_FP RX4 61 2 1 .boolean := ⟨RX2, TX2, 13, rfl, by decide, inX2, Or.inr ⟨"NineNames", x_inN 106 (by decide +kernel) rfl⟩, by decide +kernel, by decide +kernel, ⟨tyX2, tyX2_ok⟩, nmX2⟩
theorem flX2_22 : x_FL RX2 22 2 2 := ⟨RX2, TX2, 13, rfl, by decide, inX2, Or.inl (x_in 160 (by decide +kernel) rfl)⟩
theorem fpX2_22 : x_FP RX2 22 2 2 .int := ⟨RX2, TX2, 13, rfl, by decide, inX2, Or.inl (x_in 160 (by decide +kernel) rfl), by decide +kernel, by decide +kernel, ⟨tyX2, tyX2_ok⟩, nmX2⟩
theorem flX4_168 : x_FL RX4 168 2 2 := ⟨RX2, TX2, 13, rfl, by decide, inX2, Or.inr ⟨"NineNames", x_inN 108 (by decide +kernel) rfl⟩⟩
theorem fpX4_168 : x_FP RX4 168 2 2 .int := ⟨RX2, TX2, 13, rfl, by decide, inX2, Or.inr ⟨"NineNames", x_inN 108 (by decide +kernel) rfl⟩, by decide +kernel, by decide +kernel, ⟨tyX2, tyX2_ok⟩, nmX2⟩
theorem flX2_26 : x_FL RX2 26 2 3 := ⟨RX2, TX2, 13, rfl, by decide, inX2, Or.inl (x_in 162 (by decide +kernel) rfl)⟩
theorem flX2_30 : x_FL RX2 30 2 4 := ⟨RX2, TX2, 13, rfl, by decide, inX2, Or.inl (x_in 163 (by decide +kernel) rfl)⟩
theorem flX2_33 : x_FL RX2 33 2 5 := ⟨RX2, TX2, 13, rfl, by decide, inX2, Or.inl (x_in 164 (by decide +kernel) rfl)⟩
theorem flX2_36 : x_FL RX2 36 2 6 := ⟨RX2, TX2, 13, rfl, by decide, inX2, Or.inl (x_in 165 (by decide +kernel) rfl)⟩
theorem fpX2_36 : x_FP RX2 36 2 6 .int := ⟨RX2, TX2, 13, rfl, by decide, inX2, Or.inl (x_in 165 (by decide +kernel) rfl), by decide +kernel, by decide +kernel, ⟨tyX2, tyX2_ok⟩, nmX2⟩
theorem flX2_39 : x_FL RX2 39 2 7 := ⟨RX2, TX2, 13, rfl, by decide, inX2, Or.inl (x_in 166 (by decide +kernel) rfl)⟩
theorem flX2_42 : x_FL RX2 42 2 8 := ⟨RX2, TX2, 13, rfl, by decide, inX2, Or.inl (x_in 167 (by decide +kernel) rfl)⟩
theorem flX2_45 : x_FL RX2 45 2 9 := ⟨RX2, TX2, 13, rfl, by decide, inX2, Or.inl (x_in 168 (by decide +kernel) rfl)⟩
theorem flX2_48 : x_FL RX2 48 2 10 := ⟨RX2, TX2, 13, rfl, by decide, inX2, Or.inl (x_in 169 (by decide +kernel) rfl)⟩
theorem flX2_51 : x_FL RX2 51 2 11 := ⟨RX2, TX2, 13, rfl, by decide, inX2, Or.inl (x_in 170 (by decide +kernel) rfl)⟩
theorem fpX2_51 : x_FP RX2 51 2 11 .int := ⟨RX2, TX2, 13, rfl, by decide, inX2, Or.inl (x_in 170 (by decide +kernel) rfl), by decide +kernel, by decide +kernel, ⟨tyX2, tyX2_ok⟩, nmX2⟩
theorem flX2_54 : x_FL RX2 54 2 12 := ⟨RX2, TX2, 13, rfl, by decide, inX2, Or.inl (x_in 171 (by decide +kernel) rfl)⟩
theorem flX4_12 : x_FL RX4 12 4 0 := ⟨RX4, TX4, 8, rfl, by decide, inX4, Or.inl (x_in 199 (by decide +kernel) rfl)⟩
theorem flX4_19 : x_FL RX4 19 4 1 := ⟨RX4, TX4, 8, rfl, by decide, inX4, Or.inl (x_in 200 (by decide +kernel) rfl)⟩
theorem flX4_23 : x_FL RX4 23 4 2 := ⟨RX4, TX4, 8, rfl, by decide, inX4, Or.inl (x_in 201 (by decide +kernel) rfl)⟩
theorem flX4_27 : x_FL RX4 27 4 3 := ⟨RX4, TX4, 8, rfl, by decide, inX4, Or.inl (x_in 202 (by decide +kernel) rfl)⟩
theorem flX4_34 : x_FL RX4 34 4 4 := ⟨RX4, TX4, 8, rfl, by decide, inX4, Or.inl (x_in 203 (by decide +kernel) rfl)⟩
theorem flX4_41 : x_FL RX4 41 4 5 := ⟨RX4, TX4, 8, rfl, by decide, inX4, Or.inl (x_in 204 (by decide +kernel) rfl)⟩
theorem flX4_45 : x_FL RX4 45 4 6 := ⟨RX4, TX4, 8, rfl, by decide, inX4, Or.inl (x_in 205 (by decide +kernel) rfl)⟩
theorem flX4_49 : x_FL RX4 49 4 7 := ⟨RX4, TX4, 8, rfl, by decide, inX4, Or.inl (x_in 206 (by decide +kernel) rfl)⟩
theorem clL_13 : x_CV RL 13 mX4_set 4 2 := ⟨cbX4_set, x_in 225 (by decide +kernel) rfl, x_in 226 (by decide +kernel) rfl, x_in 227 (by decide +kernel) rfl, ⟨(RX4, TX4, 8), rfl, rfl⟩⟩
theorem clX4_53 : x_CS RX4 53 mX4_isLength 1 := ⟨cbX4_isLength, Or.inl (x_in 229 (by decide +kernel) rfl), x_in 230 (by decide +kernel) rfl⟩
theorem clL_18 : x_CV RL 18 mX4_say 4 1 := ⟨cbX4_say, x_in 232 (by decide +kernel) rfl, x_in 233 (by decide +kernel) rfl, x_in 234 (by decide +kernel) rfl, ⟨(RX4, TX4, 8), rfl, rfl⟩⟩
theorem clX4_71 : x_CV RX4 71 mX1_append 1 1 := ⟨cbX1_append, x_in 236 (by decide +kernel) rfl, x_in 237 (by decide +kernel) rfl, x_in 238 (by decide +kernel) rfl, ⟨(RX1, TX1, 2), rfl, rfl⟩⟩
theorem clL_23 : x_CV RL 23 mX4_wipe 4 0 := ⟨cbX4_wipe, x_in 240 (by decide +kernel) rfl, x_in 241 (by decide +kernel) rfl, x_in 242 (by decide +kernel) rfl, ⟨(RX4, TX4, 8), rfl, rfl⟩⟩
theorem clL_28 : x_CV RL 28 mX4_fault 4 0 := ⟨cbX4_fault, x_in 244 (by decide +kernel) rfl, x_in 245 (by decide +kernel) rfl, x_in 246 (by decide +kernel) rfl, ⟨(RX4, TX4, 8), rfl, rfl⟩⟩
theorem clX4_75 : x_CV RX4 75 mX1_firstFault 1 0 := ⟨cbX1_firstFault, x_in 248 (by decide +kernel) rfl, x_in 249 (by decide +kernel) rfl, x_in 250 (by decide +kernel) rfl, ⟨(RX1, TX1, 2), rfl, rfl⟩⟩
theorem clX1_30 : x_CV RX1 30 mX1_isAsked 1 1 := ⟨cbX1_isAsked, x_in 252 (by decide +kernel) rfl, x_in 253 (by decide +kernel) rfl, x_in 254 (by decide +kernel) rfl, ⟨(RX1, TX1, 2), rfl, rfl⟩⟩
theorem clX1_19 : x_CV RX1 19 mX1_signAt 1 1 := ⟨cbX1_signAt, x_in 256 (by decide +kernel) rfl, x_in 257 (by decide +kernel) rfl, x_in 258 (by decide +kernel) rfl, ⟨(RX1, TX1, 2), rfl, rfl⟩⟩
theorem clX1_33 : x_CV RX1 33 mX1_crosser 1 1 := ⟨cbX1_crosser, x_in 260 (by decide +kernel) rfl, x_in 261 (by decide +kernel) rfl, x_in 262 (by decide +kernel) rfl, ⟨(RX1, TX1, 2), rfl, rfl⟩⟩
theorem clX1_23 : x_CS RX1 23 mX4_isPerson 1 := ⟨cbX4_isPerson, Or.inr ⟨"NineNames", x_inN 211 (by decide +kernel) rfl⟩, x_in 265 (by decide +kernel) rfl⟩
theorem clX1_27 : x_CV RX1 27 mX1_looker 1 1 := ⟨cbX1_looker, x_in 267 (by decide +kernel) rfl, x_in 268 (by decide +kernel) rfl, x_in 269 (by decide +kernel) rfl, ⟨(RX1, TX1, 2), rfl, rfl⟩⟩
theorem clL_32 : x_CV RL 32 mX4_stands 4 2 := ⟨cbX4_stands, x_in 271 (by decide +kernel) rfl, x_in 272 (by decide +kernel) rfl, x_in 273 (by decide +kernel) rfl, ⟨(RX4, TX4, 8), rfl, rfl⟩⟩
theorem clX4_79 : x_CV RX4 79 mX4_refusalWithin 4 1 := ⟨cbX4_refusalWithin, x_in 275 (by decide +kernel) rfl, x_in 277 (by decide +kernel) rfl, x_in 0 (by decide +kernel) rfl, ⟨(RX4, TX4, 8), rfl, rfl⟩⟩
theorem clX4_194 : x_CV RX4 194 mX1_asksWithin 1 1 := ⟨cbX1_asksWithin, x_in 279 (by decide +kernel) rfl, x_in 280 (by decide +kernel) rfl, x_in 281 (by decide +kernel) rfl, ⟨(RX1, TX1, 2), rfl, rfl⟩⟩
theorem clX4_83 : x_CV RX4 83 mX4_runDay 4 2 := ⟨cbX4_runDay, x_in 283 (by decide +kernel) rfl, x_in 285 (by decide +kernel) rfl, x_in 1 (by decide +kernel) rfl, ⟨(RX4, TX4, 8), rfl, rfl⟩⟩
theorem clX4_93 : x_CV RX4 93 mX0_begin 0 2 := ⟨cbX0_begin, x_in 287 (by decide +kernel) rfl, x_in 288 (by decide +kernel) rfl, x_in 289 (by decide +kernel) rfl, ⟨(RX0, TX0, 6), rfl, rfl⟩⟩
theorem clX4_96 : x_CV RX4 96 mX4_step 4 1 := ⟨cbX4_step, x_in 291 (by decide +kernel) rfl, x_in 293 (by decide +kernel) rfl, x_in 2 (by decide +kernel) rfl, ⟨(RX4, TX4, 8), rfl, rfl⟩⟩
theorem clX4_183 : x_CV RX4 183 mX1_crosser 1 1 := ⟨cbX1_crosser, x_in 295 (by decide +kernel) rfl, x_in 261 (by decide +kernel) rfl, x_in 262 (by decide +kernel) rfl, ⟨(RX1, TX1, 2), rfl, rfl⟩⟩
theorem clX4_197 : x_CV RX4 197 mX0_write 0 2 := ⟨cbX0_write, x_in 296 (by decide +kernel) rfl, x_in 297 (by decide +kernel) rfl, x_in 298 (by decide +kernel) rfl, ⟨(RX0, TX0, 6), rfl, rfl⟩⟩
theorem clX0_31 : x_CV RX0 31 mX0_placeOf 0 1 := ⟨cbX0_placeOf, x_in 300 (by decide +kernel) rfl, x_in 302 (by decide +kernel) rfl, x_in 3 (by decide +kernel) rfl, ⟨(RX0, TX0, 6), rfl, rfl⟩⟩
theorem cnX0_39 : Cond.constantLong RX0 39 15 ∈ x_base := x_in 304 (by decide +kernel) rfl
theorem clX0_35 : x_CV RX0 35 mX0_removeAt 0 1 := ⟨cbX0_removeAt, x_in 305 (by decide +kernel) rfl, x_in 307 (by decide +kernel) rfl, x_in 4 (by decide +kernel) rfl, ⟨(RX0, TX0, 6), rfl, rfl⟩⟩
theorem clX0_57 : x_CS RX0 57 mX0_withoutDigit 3 := ⟨cbX0_withoutDigit, Or.inl (x_in 309 (by decide +kernel) rfl), x_in 310 (by decide +kernel) rfl⟩
theorem clX4_87 : x_CV RX4 87 mX0_nameAt 0 1 := ⟨cbX0_nameAt, x_in 312 (by decide +kernel) rfl, x_in 313 (by decide +kernel) rfl, x_in 314 (by decide +kernel) rfl, ⟨(RX0, TX0, 6), rfl, rfl⟩⟩
theorem clL_36 : x_CV RL 36 mX4_read 4 1 := ⟨cbX4_read, x_in 316 (by decide +kernel) rfl, x_in 317 (by decide +kernel) rfl, x_in 318 (by decide +kernel) rfl, ⟨(RX4, TX4, 8), rfl, rfl⟩⟩
theorem clX4_90 : x_CV RX4 90 mX4_refusalFor 4 1 := ⟨cbX4_refusalFor, x_in 320 (by decide +kernel) rfl, x_in 322 (by decide +kernel) rfl, x_in 5 (by decide +kernel) rfl, ⟨(RX4, TX4, 8), rfl, rfl⟩⟩
theorem clX4_123 : x_CS RX4 123 mX4_isPerson 1 := ⟨cbX4_isPerson, Or.inl (x_in 324 (by decide +kernel) rfl), x_in 265 (by decide +kernel) rfl⟩
theorem clX4_99 : x_CV RX4 99 mX1_looker 1 1 := ⟨cbX1_looker, x_in 325 (by decide +kernel) rfl, x_in 268 (by decide +kernel) rfl, x_in 269 (by decide +kernel) rfl, ⟨(RX1, TX1, 2), rfl, rfl⟩⟩
theorem clX4_102 : x_CV RX4 102 mX0_people 0 0 := ⟨cbX0_people, x_in 326 (by decide +kernel) rfl, x_in 327 (by decide +kernel) rfl, x_in 328 (by decide +kernel) rfl, ⟨(RX0, TX0, 6), rfl, rfl⟩⟩
theorem clX0_41 : x_CV RX0 41 mX0_nameAt 0 1 := ⟨cbX0_nameAt, x_in 330 (by decide +kernel) rfl, x_in 313 (by decide +kernel) rfl, x_in 314 (by decide +kernel) rfl, ⟨(RX0, TX0, 6), rfl, rfl⟩⟩
theorem clX0_44 : x_CS RX0 44 mX4_isPerson 1 := ⟨cbX4_isPerson, Or.inr ⟨"NineNames", x_inN 278 (by decide +kernel) rfl⟩, x_in 265 (by decide +kernel) rfl⟩
theorem clL_40 : x_CV RL 40 mX4_seen 4 1 := ⟨cbX4_seen, x_in 332 (by decide +kernel) rfl, x_in 333 (by decide +kernel) rfl, x_in 334 (by decide +kernel) rfl, ⟨(RX4, TX4, 8), rfl, rfl⟩⟩
theorem clX4_105 : x_CV RX4 105 mX4_readers 4 2 := ⟨cbX4_readers, x_in 336 (by decide +kernel) rfl, x_in 338 (by decide +kernel) rfl, x_in 6 (by decide +kernel) rfl, ⟨(RX4, TX4, 8), rfl, rfl⟩⟩
theorem clX4_200 : x_CV RX4 200 mX0_holds 0 1 := ⟨cbX0_holds, x_in 340 (by decide +kernel) rfl, x_in 341 (by decide +kernel) rfl, x_in 342 (by decide +kernel) rfl, ⟨(RX0, TX0, 6), rfl, rfl⟩⟩
theorem clL_44 : x_CV RL 44 mX4_missed 4 1 := ⟨cbX4_missed, x_in 344 (by decide +kernel) rfl, x_in 345 (by decide +kernel) rfl, x_in 346 (by decide +kernel) rfl, ⟨(RX4, TX4, 8), rfl, rfl⟩⟩
theorem clX4_109 : x_CV RX4 109 mX4_unread 4 1 := ⟨cbX4_unread, x_in 348 (by decide +kernel) rfl, x_in 350 (by decide +kernel) rfl, x_in 7 (by decide +kernel) rfl, ⟨(RX4, TX4, 8), rfl, rfl⟩⟩
theorem clX4_142 : x_CV RX4 142 mX0_writtenEvents 0 0 := ⟨cbX0_writtenEvents, x_in 352 (by decide +kernel) rfl, x_in 353 (by decide +kernel) rfl, x_in 354 (by decide +kernel) rfl, ⟨(RX0, TX0, 6), rfl, rfl⟩⟩
theorem cnX0_48 : Cond.constantLong RX0 48 63 ∈ x_base := x_in 356 (by decide +kernel) rfl
theorem cnX4_146 : Cond.constantLong RX4 146 (-1) ∈ x_base := x_in 357 (by decide +kernel) rfl
theorem clX4_113 : x_CS RX4 113 mJ13_bitCount_95d88 1 := ⟨cbJ13_bitCount_95d88, Or.inl (x_in 358 (by decide +kernel) rfl), x_in 359 (by decide +kernel) rfl⟩
theorem cnJ13_314 : Cond.constantLong RJ13 314 6148914691236517205 ∈ x_base := x_in 361 (by decide +kernel) rfl
theorem cnJ13_316 : Cond.constantLong RJ13 316 3689348814741910323 ∈ x_base := x_in 362 (by decide +kernel) rfl
theorem cnJ13_318 : Cond.constantLong RJ13 318 1085102592571150095 ∈ x_base := x_in 363 (by decide +kernel) rfl
theorem clX4_119 : x_CV RX4 119 mX4_nthEvent 4 2 := ⟨cbX4_nthEvent, x_in 364 (by decide +kernel) rfl, x_in 366 (by decide +kernel) rfl, x_in 8 (by decide +kernel) rfl, ⟨(RX4, TX4, 8), rfl, rfl⟩⟩
theorem clL_48 : x_CV RL 48 mX4_hired 4 3 := ⟨cbX4_hired, x_in 368 (by decide +kernel) rfl, x_in 369 (by decide +kernel) rfl, x_in 370 (by decide +kernel) rfl, ⟨(RX4, TX4, 8), rfl, rfl⟩⟩
theorem clX4_126 : x_CV RX4 126 mX1_looksOf 1 1 := ⟨cbX1_looksOf, x_in 372 (by decide +kernel) rfl, x_in 373 (by decide +kernel) rfl, x_in 374 (by decide +kernel) rfl, ⟨(RX1, TX1, 2), rfl, rfl⟩⟩
theorem clX1_36 : x_CV RX1 36 mX1_looksOneOf 1 2 := ⟨cbX1_looksOneOf, x_in 376 (by decide +kernel) rfl, x_in 377 (by decide +kernel) rfl, x_in 378 (by decide +kernel) rfl, ⟨(RX1, TX1, 2), rfl, rfl⟩⟩
theorem clX4_129 : x_CV RX4 129 mX4_planBoys 4 2 := ⟨cbX4_planBoys, x_in 380 (by decide +kernel) rfl, x_in 382 (by decide +kernel) rfl, x_in 9 (by decide +kernel) rfl, ⟨(RX4, TX4, 8), rfl, rfl⟩⟩
theorem clX4_203 : x_CV RX4 203 mX1_looksOneOf 1 2 := ⟨cbX1_looksOneOf, x_in 384 (by decide +kernel) rfl, x_in 377 (by decide +kernel) rfl, x_in 378 (by decide +kernel) rfl, ⟨(RX1, TX1, 2), rfl, rfl⟩⟩
theorem clX4_180 : x_CV RX4 180 mX0_pushOut 0 1 := ⟨cbX0_pushOut, x_in 385 (by decide +kernel) rfl, x_in 386 (by decide +kernel) rfl, x_in 387 (by decide +kernel) rfl, ⟨(RX0, TX0, 6), rfl, rfl⟩⟩
theorem clX0_50 : x_CV RX0 50 mX0_holds 0 1 := ⟨cbX0_holds, x_in 389 (by decide +kernel) rfl, x_in 341 (by decide +kernel) rfl, x_in 342 (by decide +kernel) rfl, ⟨(RX0, TX0, 6), rfl, rfl⟩⟩
theorem clX0_53 : x_CV RX0 53 mX0_write 0 2 := ⟨cbX0_write, x_in 390 (by decide +kernel) rfl, x_in 297 (by decide +kernel) rfl, x_in 298 (by decide +kernel) rfl, ⟨(RX0, TX0, 6), rfl, rfl⟩⟩
theorem clL_53 : x_CV RL 53 mX4_cross 4 2 := ⟨cbX4_cross, x_in 391 (by decide +kernel) rfl, x_in 392 (by decide +kernel) rfl, x_in 393 (by decide +kernel) rfl, ⟨(RX4, TX4, 8), rfl, rfl⟩⟩
theorem clX4_132 : x_CV RX4 132 mX4_refusalOfCrossing 4 2 := ⟨cbX4_refusalOfCrossing, x_in 395 (by decide +kernel) rfl, x_in 397 (by decide +kernel) rfl, x_in 10 (by decide +kernel) rfl, ⟨(RX4, TX4, 8), rfl, rfl⟩⟩
theorem clX4_139 : x_CV RX4 139 mX4_refusalOfChoice 4 1 := ⟨cbX4_refusalOfChoice, x_in 399 (by decide +kernel) rfl, x_in 401 (by decide +kernel) rfl, x_in 11 (by decide +kernel) rfl, ⟨(RX4, TX4, 8), rfl, rfl⟩⟩
theorem clX4_135 : x_CS RX4 135 mJ6_bitCount_0f7a4 1 := ⟨cbJ6_bitCount_0f7a4, Or.inl (x_in 403 (by decide +kernel) rfl), x_in 404 (by decide +kernel) rfl⟩
theorem cnJ6_265 : Cond.constant RJ6 265 1431655765 ∈ x_base := x_in 406 (by decide +kernel) rfl
theorem cnJ6_266 : Cond.constant RJ6 266 858993459 ∈ x_base := x_in 407 (by decide +kernel) rfl
theorem cnJ6_267 : Cond.constant RJ6 267 252645135 ∈ x_base := x_in 408 (by decide +kernel) rfl
theorem clL_57 : x_CV RL 57 mX4_unseen 4 1 := ⟨cbX4_unseen, x_in 409 (by decide +kernel) rfl, x_in 410 (by decide +kernel) rfl, x_in 411 (by decide +kernel) rfl, ⟨(RX4, TX4, 8), rfl, rfl⟩⟩
theorem clL_61 : x_CV RL 61 mX4_look 4 1 := ⟨cbX4_look, x_in 413 (by decide +kernel) rfl, x_in 414 (by decide +kernel) rfl, x_in 415 (by decide +kernel) rfl, ⟨(RX4, TX4, 8), rfl, rfl⟩⟩
theorem clL_65 : x_CV RL 65 mX4_looks 4 1 := ⟨cbX4_looks, x_in 417 (by decide +kernel) rfl, x_in 418 (by decide +kernel) rfl, x_in 419 (by decide +kernel) rfl, ⟨(RX4, TX4, 8), rfl, rfl⟩⟩
theorem clX4_148 : x_CV RX4 148 mX1_crossings 1 0 := ⟨cbX1_crossings, x_in 421 (by decide +kernel) rfl, x_in 422 (by decide +kernel) rfl, x_in 423 (by decide +kernel) rfl, ⟨(RX1, TX1, 2), rfl, rfl⟩⟩
theorem clX4_151 : x_CV RX4 151 mX4_markStanding 4 0 := ⟨cbX4_markStanding, x_in 425 (by decide +kernel) rfl, x_in 427 (by decide +kernel) rfl, x_in 12 (by decide +kernel) rfl, ⟨(RX4, TX4, 8), rfl, rfl⟩⟩
theorem clX4_154 : x_CV RX4 154 mX4_fewestLooks 4 2 := ⟨cbX4_fewestLooks, x_in 429 (by decide +kernel) rfl, x_in 431 (by decide +kernel) rfl, x_in 13 (by decide +kernel) rfl, ⟨(RX4, TX4, 8), rfl, rfl⟩⟩
theorem clX4_207 : x_CV RX4 207 mX4_readBehind 4 2 := ⟨cbX4_readBehind, x_in 433 (by decide +kernel) rfl, x_in 435 (by decide +kernel) rfl, x_in 14 (by decide +kernel) rfl, ⟨(RX4, TX4, 8), rfl, rfl⟩⟩
theorem clL_69 : x_CV RL 69 mX4_best 4 1 := ⟨cbX4_best, x_in 437 (by decide +kernel) rfl, x_in 438 (by decide +kernel) rfl, x_in 439 (by decide +kernel) rfl, ⟨(RX4, TX4, 8), rfl, rfl⟩⟩
theorem clL_73 : x_CV RL 73 mX4_stood 4 1 := ⟨cbX4_stood, x_in 441 (by decide +kernel) rfl, x_in 442 (by decide +kernel) rfl, x_in 443 (by decide +kernel) rfl, ⟨(RX4, TX4, 8), rfl, rfl⟩⟩
theorem clL_77 : x_CV RL 77 mX4_sight 4 3 := ⟨cbX4_sight, x_in 445 (by decide +kernel) rfl, x_in 446 (by decide +kernel) rfl, x_in 447 (by decide +kernel) rfl, ⟨(RX4, TX4, 8), rfl, rfl⟩⟩
theorem clX4_160 : x_CV RX4 160 mX3_addSight 3 3 := ⟨cbX3_addSight, x_in 449 (by decide +kernel) rfl, x_in 450 (by decide +kernel) rfl, x_in 451 (by decide +kernel) rfl, ⟨(RX3, TX3, 6), rfl, rfl⟩⟩
theorem clL_82 : x_CV RL 82 mX4_forget 4 0 := ⟨cbX4_forget, x_in 453 (by decide +kernel) rfl, x_in 454 (by decide +kernel) rfl, x_in 455 (by decide +kernel) rfl, ⟨(RX4, TX4, 8), rfl, rfl⟩⟩
theorem clL_86 : x_CV RL 86 mX4_fits 4 1 := ⟨cbX4_fits, x_in 457 (by decide +kernel) rfl, x_in 458 (by decide +kernel) rfl, x_in 459 (by decide +kernel) rfl, ⟨(RX4, TX4, 8), rfl, rfl⟩⟩
theorem clX4_164 : x_CV RX4 164 mX2_refresh 2 2 := ⟨cbX2_refresh, x_in 461 (by decide +kernel) rfl, x_in 462 (by decide +kernel) rfl, x_in 463 (by decide +kernel) rfl, ⟨(RX2, TX2, 13), rfl, rfl⟩⟩
theorem clX2_57 : x_CV RX2 57 mX2_findAsked 2 1 := ⟨cbX2_findAsked, x_in 465 (by decide +kernel) rfl, x_in 467 (by decide +kernel) rfl, x_in 15 (by decide +kernel) rfl, ⟨(RX2, TX2, 13), rfl, rfl⟩⟩
theorem clX2_106 : x_CV RX2 106 mX1_isAsked 1 1 := ⟨cbX1_isAsked, x_in 469 (by decide +kernel) rfl, x_in 253 (by decide +kernel) rfl, x_in 254 (by decide +kernel) rfl, ⟨(RX1, TX1, 2), rfl, rfl⟩⟩
theorem clX2_61 : x_CV RX2 61 mX2_spreadSights 2 2 := ⟨cbX2_spreadSights, x_in 470 (by decide +kernel) rfl, x_in 472 (by decide +kernel) rfl, x_in 16 (by decide +kernel) rfl, ⟨(RX2, TX2, 13), rfl, rfl⟩⟩
theorem clX2_122 : x_CS RX2 122 mJ9_max_7cf53 2 := ⟨cbJ9_max_7cf53, Or.inl (x_in 474 (by decide +kernel) rfl), x_in 475 (by decide +kernel) rfl⟩
theorem clX2_65 : x_CV RX2 65 mX2_keepTold 2 2 := ⟨cbX2_keepTold, x_in 477 (by decide +kernel) rfl, x_in 479 (by decide +kernel) rfl, x_in 17 (by decide +kernel) rfl, ⟨(RX2, TX2, 13), rfl, rfl⟩⟩
theorem clX2_128 : x_CV RX2 128 mX2_isSighted 2 1 := ⟨cbX2_isSighted, x_in 481 (by decide +kernel) rfl, x_in 483 (by decide +kernel) rfl, x_in 18 (by decide +kernel) rfl, ⟨(RX2, TX2, 13), rfl, rfl⟩⟩
theorem clX2_131 : x_CV RX2 131 mX1_crosser 1 1 := ⟨cbX1_crosser, x_in 485 (by decide +kernel) rfl, x_in 261 (by decide +kernel) rfl, x_in 262 (by decide +kernel) rfl, ⟨(RX1, TX1, 2), rfl, rfl⟩⟩
theorem clX2_68 : x_CV RX2 68 mX2_clearAnswers 2 0 := ⟨cbX2_clearAnswers, x_in 486 (by decide +kernel) rfl, x_in 488 (by decide +kernel) rfl, x_in 19 (by decide +kernel) rfl, ⟨(RX2, TX2, 13), rfl, rfl⟩⟩
theorem clX2_79 : x_CV RX2 79 mX0_begin 0 2 := ⟨cbX0_begin, x_in 490 (by decide +kernel) rfl, x_in 288 (by decide +kernel) rfl, x_in 289 (by decide +kernel) rfl, ⟨(RX0, TX0, 6), rfl, rfl⟩⟩
theorem clX2_83 : x_CV RX2 83 mX2_holdsBehind 2 1 := ⟨cbX2_holdsBehind, x_in 491 (by decide +kernel) rfl, x_in 493 (by decide +kernel) rfl, x_in 20 (by decide +kernel) rfl, ⟨(RX2, TX2, 13), rfl, rfl⟩⟩
theorem clX2_150 : x_CV RX2 150 mX0_people 0 0 := ⟨cbX0_people, x_in 495 (by decide +kernel) rfl, x_in 327 (by decide +kernel) rfl, x_in 328 (by decide +kernel) rfl, ⟨(RX0, TX0, 6), rfl, rfl⟩⟩
theorem clX2_87 : x_CV RX2 87 mX1_toldCrossers 1 0 := ⟨cbX1_toldCrossers, x_in 496 (by decide +kernel) rfl, x_in 497 (by decide +kernel) rfl, x_in 498 (by decide +kernel) rfl, ⟨(RX1, TX1, 2), rfl, rfl⟩⟩
theorem clX2_93 : x_CV RX2 93 mX2_follow 2 4 := ⟨cbX2_follow, x_in 500 (by decide +kernel) rfl, x_in 502 (by decide +kernel) rfl, x_in 21 (by decide +kernel) rfl, ⟨(RX2, TX2, 13), rfl, rfl⟩⟩
theorem clX2_97 : x_CV RX2 97 mX2_isAskedIndex 2 1 := ⟨cbX2_isAskedIndex, x_in 504 (by decide +kernel) rfl, x_in 506 (by decide +kernel) rfl, x_in 22 (by decide +kernel) rfl, ⟨(RX2, TX2, 13), rfl, rfl⟩⟩
theorem clX2_135 : x_CV RX2 135 mX2_walk 2 2 := ⟨cbX2_walk, x_in 508 (by decide +kernel) rfl, x_in 510 (by decide +kernel) rfl, x_in 23 (by decide +kernel) rfl, ⟨(RX2, TX2, 13), rfl, rfl⟩⟩
theorem clX2_147 : x_CV RX2 147 mX0_write 0 2 := ⟨cbX0_write, x_in 512 (by decide +kernel) rfl, x_in 297 (by decide +kernel) rfl, x_in 298 (by decide +kernel) rfl, ⟨(RX0, TX0, 6), rfl, rfl⟩⟩
theorem clX2_139 : x_CV RX2 139 mX2_countWay 2 1 := ⟨cbX2_countWay, x_in 513 (by decide +kernel) rfl, x_in 515 (by decide +kernel) rfl, x_in 24 (by decide +kernel) rfl, ⟨(RX2, TX2, 13), rfl, rfl⟩⟩
theorem clX4_171 : x_CV RX4 171 mX2_firstWriting 2 1 := ⟨cbX2_firstWriting, x_in 517 (by decide +kernel) rfl, x_in 518 (by decide +kernel) rfl, x_in 519 (by decide +kernel) rfl, ⟨(RX2, TX2, 13), rfl, rfl⟩⟩
theorem clL_90 : x_CV RL 90 mX4_could 4 1 := ⟨cbX4_could, x_in 521 (by decide +kernel) rfl, x_in 522 (by decide +kernel) rfl, x_in 523 (by decide +kernel) rfl, ⟨(RX4, TX4, 8), rfl, rfl⟩⟩
theorem clX4_174 : x_CV RX4 174 mX2_candidatesFor 2 1 := ⟨cbX2_candidatesFor, x_in 525 (by decide +kernel) rfl, x_in 526 (by decide +kernel) rfl, x_in 527 (by decide +kernel) rfl, ⟨(RX2, TX2, 13), rfl, rfl⟩⟩
theorem clL_94 : x_CV RL 94 mX4_alibi 4 1 := ⟨cbX4_alibi, x_in 529 (by decide +kernel) rfl, x_in 530 (by decide +kernel) rfl, x_in 531 (by decide +kernel) rfl, ⟨(RX4, TX4, 8), rfl, rfl⟩⟩
theorem clX4_177 : x_CV RX4 177 mX2_waysWith 2 1 := ⟨cbX2_waysWith, x_in 533 (by decide +kernel) rfl, x_in 534 (by decide +kernel) rfl, x_in 535 (by decide +kernel) rfl, ⟨(RX2, TX2, 13), rfl, rfl⟩⟩
theorem clX2_100 : x_CS RX2 100 mX4_isPerson 1 := ⟨cbX4_isPerson, Or.inr ⟨"NineNames", x_inN 484 (by decide +kernel) rfl⟩, x_in 265 (by decide +kernel) rfl⟩
theorem clL_98 : x_CV RL 98 mX4_gone 4 1 := ⟨cbX4_gone, x_in 538 (by decide +kernel) rfl, x_in 539 (by decide +kernel) rfl, x_in 540 (by decide +kernel) rfl, ⟨(RX4, TX4, 8), rfl, rfl⟩⟩
theorem clL_102 : x_CV RL 102 mX4_out 4 1 := ⟨cbX4_out, x_in 542 (by decide +kernel) rfl, x_in 543 (by decide +kernel) rfl, x_in 544 (by decide +kernel) rfl, ⟨(RX4, TX4, 8), rfl, rfl⟩⟩
theorem clL_106 : x_CV RL 106 mX4_drawn 4 3 := ⟨cbX4_drawn, x_in 546 (by decide +kernel) rfl, x_in 547 (by decide +kernel) rfl, x_in 548 (by decide +kernel) rfl, ⟨(RX4, TX4, 8), rfl, rfl⟩⟩
theorem clX4_186 : x_CV RX4 186 mX4_drawCrossings 4 3 := ⟨cbX4_drawCrossings, x_in 550 (by decide +kernel) rfl, x_in 552 (by decide +kernel) rfl, x_in 25 (by decide +kernel) rfl, ⟨(RX4, TX4, 8), rfl, rfl⟩⟩
theorem cnX4_211 : Cond.constant RX4 211 65537 ∈ x_base := x_in 554 (by decide +kernel) rfl
theorem clL_110 : x_CV RL 110 mX4_image 4 1 := ⟨cbX4_image, x_in 555 (by decide +kernel) rfl, x_in 556 (by decide +kernel) rfl, x_in 557 (by decide +kernel) rfl, ⟨(RX4, TX4, 8), rfl, rfl⟩⟩
theorem clX4_190 : x_CV RX4 190 mX3_copy 3 1 := ⟨cbX3_copy, x_in 559 (by decide +kernel) rfl, x_in 560 (by decide +kernel) rfl, x_in 561 (by decide +kernel) rfl, ⟨(RX3, TX3, 6), rfl, rfl⟩⟩
theorem clX3_32 : x_CV RX3 32 mX3_addSight 3 3 := ⟨cbX3_addSight, x_in 563 (by decide +kernel) rfl, x_in 450 (by decide +kernel) rfl, x_in 451 (by decide +kernel) rfl, ⟨(RX3, TX3, 6), rfl, rfl⟩⟩
theorem clL_114 : x_CV RL 114 mX4_restore 4 1 := ⟨cbX4_restore, x_in 564 (by decide +kernel) rfl, x_in 565 (by decide +kernel) rfl, x_in 566 (by decide +kernel) rfl, ⟨(RX4, TX4, 8), rfl, rfl⟩⟩
theorem clL_118 : x_CV RL 118 mX4_told 4 1 := ⟨cbX4_told, x_in 568 (by decide +kernel) rfl, x_in 569 (by decide +kernel) rfl, x_in 570 (by decide +kernel) rfl, ⟨(RX4, TX4, 8), rfl, rfl⟩⟩
theorem flX5_47 : x_FL RX5 47 5 0 := ⟨RX5, TX5, 25, rfl, by decide, inX5, Or.inl (x_in 578 (by decide +kernel) rfl)⟩
theorem fpX5_47 : x_FP RX5 47 5 0 .int := ⟨RX5, TX5, 25, rfl, by decide, inX5, Or.inl (x_in 578 (by decide +kernel) rfl), by decide +kernel, by decide +kernel, ⟨tyX5, tyX5_ok⟩, nmX5⟩
theorem flX5_61 : x_FL RX5 61 5 1 := ⟨RX5, TX5, 25, rfl, by decide, inX5, Or.inl (x_in 579 (by decide +kernel) rfl)⟩
theorem fpX5_61 : x_FP RX5 61 5 1 .int := ⟨RX5, TX5, 25, rfl, by decide, inX5, Or.inl (x_in 579 (by decide +kernel) rfl), by decide +kernel, by decide +kernel, ⟨tyX5, tyX5_ok⟩, nmX5⟩
theorem flX5_7 : x_FL RX5 7 5 2 := ⟨RX5, TX5, 25, rfl, by decide, inX5, Or.inl (x_in 580 (by decide +kernel) rfl)⟩
theorem flX5_13 : x_FL RX5 13 5 3 := ⟨RX5, TX5, 25, rfl, by decide, inX5, Or.inl (x_in 581 (by decide +kernel) rfl)⟩
theorem flX5_16 : x_FL RX5 16 5 4 := ⟨RX5, TX5, 25, rfl, by decide, inX5, Or.inl (x_in 582 (by decide +kernel) rfl)⟩
theorem flX5_190 : x_FL RX5 190 5 5 := ⟨RX5, TX5, 25, rfl, by decide, inX5, Or.inl (x_in 583 (by decide +kernel) rfl)⟩
theorem fpX5_190 : x_FP RX5 190 5 5 .int := ⟨RX5, TX5, 25, rfl, by decide, inX5, Or.inl (x_in 583 (by decide +kernel) rfl), by decide +kernel, by decide +kernel, ⟨tyX5, tyX5_ok⟩, nmX5⟩
theorem flX5_19 : x_FL RX5 19 5 6 := ⟨RX5, TX5, 25, rfl, by decide, inX5, Or.inl (x_in 584 (by decide +kernel) rfl)⟩
theorem flX5_68 : x_FL RX5 68 5 7 := ⟨RX5, TX5, 25, rfl, by decide, inX5, Or.inl (x_in 585 (by decide +kernel) rfl)⟩
theorem fpX5_68 : x_FP RX5 68 5 7 .int := ⟨RX5, TX5, 25, rfl, by decide, inX5, Or.inl (x_in 585 (by decide +kernel) rfl), by decide +kernel, by decide +kernel, ⟨tyX5, tyX5_ok⟩, nmX5⟩
theorem flX5_22 : x_FL RX5 22 5 8 := ⟨RX5, TX5, 25, rfl, by decide, inX5, Or.inl (x_in 586 (by decide +kernel) rfl)⟩
theorem flX5_25 : x_FL RX5 25 5 9 := ⟨RX5, TX5, 25, rfl, by decide, inX5, Or.inl (x_in 587 (by decide +kernel) rfl)⟩
theorem flX5_94 : x_FL RX5 94 5 10 := ⟨RX5, TX5, 25, rfl, by decide, inX5, Or.inl (x_in 588 (by decide +kernel) rfl)⟩
theorem fpX5_94 : x_FP RX5 94 5 10 .int := ⟨RX5, TX5, 25, rfl, by decide, inX5, Or.inl (x_in 588 (by decide +kernel) rfl), by decide +kernel, by decide +kernel, ⟨tyX5, tyX5_ok⟩, nmX5⟩
theorem flX5_97 : x_FL RX5 97 5 11 := ⟨RX5, TX5, 25, rfl, by decide, inX5, Or.inl (x_in 589 (by decide +kernel) rfl)⟩
theorem fpX5_97 : x_FP RX5 97 5 11 .int := ⟨RX5, TX5, 25, rfl, by decide, inX5, Or.inl (x_in 589 (by decide +kernel) rfl), by decide +kernel, by decide +kernel, ⟨tyX5, tyX5_ok⟩, nmX5⟩
theorem flX5_100 : x_FL RX5 100 5 12 := ⟨RX5, TX5, 25, rfl, by decide, inX5, Or.inl (x_in 590 (by decide +kernel) rfl)⟩
theorem fpX5_100 : x_FP RX5 100 5 12 .int := ⟨RX5, TX5, 25, rfl, by decide, inX5, Or.inl (x_in 590 (by decide +kernel) rfl), by decide +kernel, by decide +kernel, ⟨tyX5, tyX5_ok⟩, nmX5⟩
theorem flX5_28 : x_FL RX5 28 5 13 := ⟨RX5, TX5, 25, rfl, by decide, inX5, Or.inl (x_in 591 (by decide +kernel) rfl)⟩
theorem flX5_110 : x_FL RX5 110 5 14 := ⟨RX5, TX5, 25, rfl, by decide, inX5, Or.inl (x_in 592 (by decide +kernel) rfl)⟩
theorem fpX5_110 : x_FP RX5 110 5 14 .int := ⟨RX5, TX5, 25, rfl, by decide, inX5, Or.inl (x_in 592 (by decide +kernel) rfl), by decide +kernel, by decide +kernel, ⟨tyX5, tyX5_ok⟩, nmX5⟩
theorem flX5_31 : x_FL RX5 31 5 15 := ⟨RX5, TX5, 25, rfl, by decide, inX5, Or.inl (x_in 593 (by decide +kernel) rfl)⟩
theorem flX5_34 : x_FL RX5 34 5 16 := ⟨RX5, TX5, 25, rfl, by decide, inX5, Or.inl (x_in 594 (by decide +kernel) rfl)⟩
theorem flX5_38 : x_FL RX5 38 5 17 := ⟨RX5, TX5, 25, rfl, by decide, inX5, Or.inl (x_in 595 (by decide +kernel) rfl)⟩
theorem flX5_167 : x_FL RX5 167 5 18 := ⟨RX5, TX5, 25, rfl, by decide, inX5, Or.inl (x_in 596 (by decide +kernel) rfl)⟩
theorem fpX5_167 : x_FP RX5 167 5 18 .int := ⟨RX5, TX5, 25, rfl, by decide, inX5, Or.inl (x_in 596 (by decide +kernel) rfl), by decide +kernel, by decide +kernel, ⟨tyX5, tyX5_ok⟩, nmX5⟩
theorem flX5_170 : x_FL RX5 170 5 19 := ⟨RX5, TX5, 25, rfl, by decide, inX5, Or.inl (x_in 597 (by decide +kernel) rfl)⟩
theorem fpX5_170 : x_FP RX5 170 5 19 .int := ⟨RX5, TX5, 25, rfl, by decide, inX5, Or.inl (x_in 597 (by decide +kernel) rfl), by decide +kernel, by decide +kernel, ⟨tyX5, tyX5_ok⟩, nmX5⟩
theorem flX5_173 : x_FL RX5 173 5 20 := ⟨RX5, TX5, 25, rfl, by decide, inX5, Or.inl (x_in 598 (by decide +kernel) rfl)⟩
theorem fpX5_173 : x_FP RX5 173 5 20 .int := ⟨RX5, TX5, 25, rfl, by decide, inX5, Or.inl (x_in 598 (by decide +kernel) rfl), by decide +kernel, by decide +kernel, ⟨tyX5, tyX5_ok⟩, nmX5⟩
theorem flX5_41 : x_FL RX5 41 5 21 := ⟨RX5, TX5, 25, rfl, by decide, inX5, Or.inl (x_in 599 (by decide +kernel) rfl)⟩
theorem flX5_44 : x_FL RX5 44 5 22 := ⟨RX5, TX5, 25, rfl, by decide, inX5, Or.inl (x_in 600 (by decide +kernel) rfl)⟩
theorem flX5_222 : x_FL RX5 222 5 23 := ⟨RX5, TX5, 25, rfl, by decide, inX5, Or.inl (x_in 601 (by decide +kernel) rfl)⟩
theorem fpX5_222 : x_FP RX5 222 5 23 .int := ⟨RX5, TX5, 25, rfl, by decide, inX5, Or.inl (x_in 601 (by decide +kernel) rfl), by decide +kernel, by decide +kernel, ⟨tyX5, tyX5_ok⟩, nmX5⟩
theorem flX5_218 : x_FL RX5 218 5 24 := ⟨RX5, TX5, 25, rfl, by decide, inX5, Or.inl (x_in 602 (by decide +kernel) rfl)⟩
theorem fpX5_218 : x_FP RX5 218 5 24 .boolean := ⟨RX5, TX5, 25, rfl, by decide, inX5, Or.inl (x_in 602 (by decide +kernel) rfl), by decide +kernel, by decide +kernel, ⟨tyX5, tyX5_ok⟩, nmX5⟩
theorem clL_17 : x_CV RL 17 mX5_set 5 2 := ⟨cbX5_set, x_in 654 (by decide +kernel) rfl, x_in 655 (by decide +kernel) rfl, x_in 656 (by decide +kernel) rfl, ⟨(RX5, TX5, 25), rfl, rfl⟩⟩
theorem clX5_53 : x_CS RX5 53 mX5_in 3 := ⟨cbX5_in, Or.inl (x_in 658 (by decide +kernel) rfl), x_in 659 (by decide +kernel) rfl⟩
theorem cnX5_57 : Cond.constantLong RX5 57 9 ∈ x_base := x_in 661 (by decide +kernel) rfl
theorem cnX5_59 : Cond.constantLong RX5 59 2 ∈ x_base := x_in 662 (by decide +kernel) rfl
theorem clL_22 : x_CV RL 22 mX5_say 5 1 := ⟨cbX5_say, x_in 663 (by decide +kernel) rfl, x_in 664 (by decide +kernel) rfl, x_in 665 (by decide +kernel) rfl, ⟨(RX5, TX5, 25), rfl, rfl⟩⟩
theorem cnX5_64 : Cond.constantLong RX5 64 33 ∈ x_base := x_in 667 (by decide +kernel) rfl
theorem cnX5_66 : Cond.constantLong RX5 66 126 ∈ x_base := x_in 668 (by decide +kernel) rfl
theorem clL_27 : x_CV RL 27 mX5_wipe 5 0 := ⟨cbX5_wipe, x_in 669 (by decide +kernel) rfl, x_in 670 (by decide +kernel) rfl, x_in 671 (by decide +kernel) rfl, ⟨(RX5, TX5, 25), rfl, rfl⟩⟩
theorem clL_31 : x_CV RL 31 mX5_fault 5 0 := ⟨cbX5_fault, x_in 673 (by decide +kernel) rfl, x_in 674 (by decide +kernel) rfl, x_in 675 (by decide +kernel) rfl, ⟨(RX5, TX5, 25), rfl, rfl⟩⟩
theorem clX5_79 : x_CS RX5 79 mX5_isCrossing 1 := ⟨cbX5_isCrossing, Or.inl (x_in 677 (by decide +kernel) rfl), x_in 678 (by decide +kernel) rfl⟩
theorem cnX5_71 : Cond.constantLong RX5 71 65 ∈ x_base := x_in 680 (by decide +kernel) rfl
theorem cnX5_73 : Cond.constantLong RX5 73 72 ∈ x_base := x_in 681 (by decide +kernel) rfl
theorem clX5_83 : x_CS RX5 83 mX5_isLook 1 := ⟨cbX5_isLook, Or.inl (x_in 682 (by decide +kernel) rfl), x_in 683 (by decide +kernel) rfl⟩
theorem cnX5_75 : Cond.constantLong RX5 75 97 ∈ x_base := x_in 685 (by decide +kernel) rfl
theorem cnX5_77 : Cond.constantLong RX5 77 104 ∈ x_base := x_in 686 (by decide +kernel) rfl
theorem clL_35 : x_CV RL 35 mX5_stands 5 2 := ⟨cbX5_stands, x_in 687 (by decide +kernel) rfl, x_in 688 (by decide +kernel) rfl, x_in 689 (by decide +kernel) rfl, ⟨(RX5, TX5, 25), rfl, rfl⟩⟩
theorem cnX5_123 : Cond.constantLong RX5 123 (-1) ∈ x_base := x_in 691 (by decide +kernel) rfl
theorem cnX5_125 : Cond.constantLong RX5 125 8 ∈ x_base := x_in 692 (by decide +kernel) rfl
theorem clX5_86 : x_CV RX5 86 mX5_fault 5 0 := ⟨cbX5_fault, x_in 693 (by decide +kernel) rfl, x_in 674 (by decide +kernel) rfl, x_in 675 (by decide +kernel) rfl, ⟨(RX5, TX5, 25), rfl, rfl⟩⟩
theorem clX5_90 : x_CV RX5 90 mX5_untoldAmong 5 1 := ⟨cbX5_untoldAmong, x_in 694 (by decide +kernel) rfl, x_in 696 (by decide +kernel) rfl, x_in 26 (by decide +kernel) rfl, ⟨(RX5, TX5, 25), rfl, rfl⟩⟩
theorem clX5_113 : x_CV RX5 113 mX5_layDay 5 0 := ⟨cbX5_layDay, x_in 698 (by decide +kernel) rfl, x_in 700 (by decide +kernel) rfl, x_in 27 (by decide +kernel) rfl, ⟨(RX5, TX5, 25), rfl, rfl⟩⟩
theorem clX5_127 : x_CV RX5 127 mX5_go 5 1 := ⟨cbX5_go, x_in 702 (by decide +kernel) rfl, x_in 704 (by decide +kernel) rfl, x_in 28 (by decide +kernel) rfl, ⟨(RX5, TX5, 25), rfl, rfl⟩⟩
theorem clX5_116 : x_CV RX5 116 mX5_clear 5 0 := ⟨cbX5_clear, x_in 706 (by decide +kernel) rfl, x_in 708 (by decide +kernel) rfl, x_in 29 (by decide +kernel) rfl, ⟨(RX5, TX5, 25), rfl, rfl⟩⟩
theorem clX5_119 : x_CV RX5 119 mX5_write 5 2 := ⟨cbX5_write, x_in 710 (by decide +kernel) rfl, x_in 712 (by decide +kernel) rfl, x_in 30 (by decide +kernel) rfl, ⟨(RX5, TX5, 25), rfl, rfl⟩⟩
theorem clX5_103 : x_CV RX5 103 mX5_placeOf 5 1 := ⟨cbX5_placeOf, x_in 714 (by decide +kernel) rfl, x_in 716 (by decide +kernel) rfl, x_in 31 (by decide +kernel) rfl, ⟨(RX5, TX5, 25), rfl, rfl⟩⟩
theorem clX5_106 : x_CV RX5 106 mX5_drop 5 1 := ⟨cbX5_drop, x_in 718 (by decide +kernel) rfl, x_in 720 (by decide +kernel) rfl, x_in 32 (by decide +kernel) rfl, ⟨(RX5, TX5, 25), rfl, rfl⟩⟩
theorem clL_39 : x_CV RL 39 mX5_read 5 1 := ⟨cbX5_read, x_in 722 (by decide +kernel) rfl, x_in 723 (by decide +kernel) rfl, x_in 724 (by decide +kernel) rfl, ⟨(RX5, TX5, 25), rfl, rfl⟩⟩
theorem clX5_133 : x_CS RX5 133 mX5_isPerson 1 := ⟨cbX5_isPerson, Or.inl (x_in 726 (by decide +kernel) rfl), x_in 727 (by decide +kernel) rfl⟩
theorem cnX5_51 : Cond.constantLong RX5 51 7 ∈ x_base := x_in 729 (by decide +kernel) rfl
theorem clX5_136 : x_CV RX5 136 mX5_refusal 5 0 := ⟨cbX5_refusal, x_in 730 (by decide +kernel) rfl, x_in 732 (by decide +kernel) rfl, x_in 33 (by decide +kernel) rfl, ⟨(RX5, TX5, 25), rfl, rfl⟩⟩
theorem clX5_139 : x_CV RX5 139 mX5_goReading 5 0 := ⟨cbX5_goReading, x_in 734 (by decide +kernel) rfl, x_in 736 (by decide +kernel) rfl, x_in 34 (by decide +kernel) rfl, ⟨(RX5, TX5, 25), rfl, rfl⟩⟩
theorem clX5_130 : x_CV RX5 130 mX5_names 5 0 := ⟨cbX5_names, x_in 738 (by decide +kernel) rfl, x_in 740 (by decide +kernel) rfl, x_in 35 (by decide +kernel) rfl, ⟨(RX5, TX5, 25), rfl, rfl⟩⟩
theorem clL_43 : x_CV RL 43 mX5_seen 5 1 := ⟨cbX5_seen, x_in 742 (by decide +kernel) rfl, x_in 743 (by decide +kernel) rfl, x_in 744 (by decide +kernel) rfl, ⟨(RX5, TX5, 25), rfl, rfl⟩⟩
theorem clX5_142 : x_CV RX5 142 mX5_seenBy 5 1 := ⟨cbX5_seenBy, x_in 746 (by decide +kernel) rfl, x_in 748 (by decide +kernel) rfl, x_in 36 (by decide +kernel) rfl, ⟨(RX5, TX5, 25), rfl, rfl⟩⟩
theorem clL_47 : x_CV RL 47 mX5_missed 5 1 := ⟨cbX5_missed, x_in 750 (by decide +kernel) rfl, x_in 751 (by decide +kernel) rfl, x_in 752 (by decide +kernel) rfl, ⟨(RX5, TX5, 25), rfl, rfl⟩⟩
theorem clX5_145 : x_CV RX5 145 mX5_missedMany 5 0 := ⟨cbX5_missedMany, x_in 754 (by decide +kernel) rfl, x_in 756 (by decide +kernel) rfl, x_in 37 (by decide +kernel) rfl, ⟨(RX5, TX5, 25), rfl, rfl⟩⟩
theorem clL_52 : x_CV RL 52 mX5_hired 5 3 := ⟨cbX5_hired, x_in 758 (by decide +kernel) rfl, x_in 759 (by decide +kernel) rfl, x_in 760 (by decide +kernel) rfl, ⟨(RX5, TX5, 25), rfl, rfl⟩⟩
theorem cnX5_158 : Cond.constantLong RX5 158 255 ∈ x_base := x_in 762 (by decide +kernel) rfl
theorem clX5_160 : x_CV RX5 160 mX5_looksOf 5 1 := ⟨cbX5_looksOf, x_in 763 (by decide +kernel) rfl, x_in 765 (by decide +kernel) rfl, x_in 38 (by decide +kernel) rfl, ⟨(RX5, TX5, 25), rfl, rfl⟩⟩
theorem clX5_148 : x_CV RX5 148 mX5_isOf 5 2 := ⟨cbX5_isOf, x_in 767 (by decide +kernel) rfl, x_in 769 (by decide +kernel) rfl, x_in 39 (by decide +kernel) rfl, ⟨(RX5, TX5, 25), rfl, rfl⟩⟩
theorem clX5_163 : x_CV RX5 163 mX5_hire 5 3 := ⟨cbX5_hire, x_in 771 (by decide +kernel) rfl, x_in 773 (by decide +kernel) rfl, x_in 40 (by decide +kernel) rfl, ⟨(RX5, TX5, 25), rfl, rfl⟩⟩
theorem clX5_152 : x_CV RX5 152 mX5_isHidden 5 2 := ⟨cbX5_isHidden, x_in 775 (by decide +kernel) rfl, x_in 777 (by decide +kernel) rfl, x_in 41 (by decide +kernel) rfl, ⟨(RX5, TX5, 25), rfl, rfl⟩⟩
theorem clX5_155 : x_CV RX5 155 mX5_nextPlan 5 1 := ⟨cbX5_nextPlan, x_in 779 (by decide +kernel) rfl, x_in 781 (by decide +kernel) rfl, x_in 42 (by decide +kernel) rfl, ⟨(RX5, TX5, 25), rfl, rfl⟩⟩
theorem clL_56 : x_CV RL 56 mX5_cross 5 2 := ⟨cbX5_cross, x_in 783 (by decide +kernel) rfl, x_in 784 (by decide +kernel) rfl, x_in 785 (by decide +kernel) rfl, ⟨(RX5, TX5, 25), rfl, rfl⟩⟩
theorem clX5_182 : x_CV RX5 182 mX5_findCross 5 1 := ⟨cbX5_findCross, x_in 787 (by decide +kernel) rfl, x_in 789 (by decide +kernel) rfl, x_in 43 (by decide +kernel) rfl, ⟨(RX5, TX5, 25), rfl, rfl⟩⟩
theorem clX5_176 : x_CV RX5 176 mX5_layMore 5 2 := ⟨cbX5_layMore, x_in 791 (by decide +kernel) rfl, x_in 793 (by decide +kernel) rfl, x_in 44 (by decide +kernel) rfl, ⟨(RX5, TX5, 25), rfl, rfl⟩⟩
theorem clX5_179 : x_CS RX5 179 mX5_ones 1 := ⟨cbX5_ones, Or.inl (x_in 795 (by decide +kernel) rfl), x_in 796 (by decide +kernel) rfl⟩
theorem clL_60 : x_CV RL 60 mX5_unseen 5 1 := ⟨cbX5_unseen, x_in 798 (by decide +kernel) rfl, x_in 799 (by decide +kernel) rfl, x_in 800 (by decide +kernel) rfl, ⟨(RX5, TX5, 25), rfl, rfl⟩⟩
theorem clL_64 : x_CV RL 64 mX5_look 5 1 := ⟨cbX5_look, x_in 802 (by decide +kernel) rfl, x_in 803 (by decide +kernel) rfl, x_in 804 (by decide +kernel) rfl, ⟨(RX5, TX5, 25), rfl, rfl⟩⟩
theorem clL_68 : x_CV RL 68 mX5_looks 5 1 := ⟨cbX5_looks, x_in 806 (by decide +kernel) rfl, x_in 807 (by decide +kernel) rfl, x_in 808 (by decide +kernel) rfl, ⟨(RX5, TX5, 25), rfl, rfl⟩⟩
theorem clX5_185 : x_CV RX5 185 mX5_seesAll 5 1 := ⟨cbX5_seesAll, x_in 810 (by decide +kernel) rfl, x_in 812 (by decide +kernel) rfl, x_in 45 (by decide +kernel) rfl, ⟨(RX5, TX5, 25), rfl, rfl⟩⟩
theorem clL_72 : x_CV RL 72 mX5_best 5 1 := ⟨cbX5_best, x_in 814 (by decide +kernel) rfl, x_in 815 (by decide +kernel) rfl, x_in 816 (by decide +kernel) rfl, ⟨(RX5, TX5, 25), rfl, rfl⟩⟩
theorem clL_76 : x_CV RL 76 mX5_stood 5 1 := ⟨cbX5_stood, x_in 818 (by decide +kernel) rfl, x_in 819 (by decide +kernel) rfl, x_in 820 (by decide +kernel) rfl, ⟨(RX5, TX5, 25), rfl, rfl⟩⟩
theorem clL_81 : x_CV RL 81 mX5_sight 5 3 := ⟨cbX5_sight, x_in 822 (by decide +kernel) rfl, x_in 823 (by decide +kernel) rfl, x_in 824 (by decide +kernel) rfl, ⟨(RX5, TX5, 25), rfl, rfl⟩⟩
theorem cnX5_188 : Cond.constantLong RX5 188 40 ∈ x_base := x_in 826 (by decide +kernel) rfl
theorem clL_85 : x_CV RL 85 mX5_forget 5 0 := ⟨cbX5_forget, x_in 827 (by decide +kernel) rfl, x_in 828 (by decide +kernel) rfl, x_in 829 (by decide +kernel) rfl, ⟨(RX5, TX5, 25), rfl, rfl⟩⟩
theorem clL_89 : x_CV RL 89 mX5_fits 5 1 := ⟨cbX5_fits, x_in 831 (by decide +kernel) rfl, x_in 832 (by decide +kernel) rfl, x_in 833 (by decide +kernel) rfl, ⟨(RX5, TX5, 25), rfl, rfl⟩⟩
theorem clX5_196 : x_CV RX5 196 mX5_ways 5 0 := ⟨cbX5_ways, x_in 835 (by decide +kernel) rfl, x_in 837 (by decide +kernel) rfl, x_in 46 (by decide +kernel) rfl, ⟨(RX5, TX5, 25), rfl, rfl⟩⟩
theorem clX5_199 : x_CV RX5 199 mX5_holds 5 1 := ⟨cbX5_holds, x_in 839 (by decide +kernel) rfl, x_in 841 (by decide +kernel) rfl, x_in 47 (by decide +kernel) rfl, ⟨(RX5, TX5, 25), rfl, rfl⟩⟩
theorem clX5_193 : x_CV RX5 193 mX5_fitsAt 5 1 := ⟨cbX5_fitsAt, x_in 843 (by decide +kernel) rfl, x_in 845 (by decide +kernel) rfl, x_in 48 (by decide +kernel) rfl, ⟨(RX5, TX5, 25), rfl, rfl⟩⟩
theorem clX5_202 : x_CV RX5 202 mX5_filledAt 5 1 := ⟨cbX5_filledAt, x_in 847 (by decide +kernel) rfl, x_in 849 (by decide +kernel) rfl, x_in 49 (by decide +kernel) rfl, ⟨(RX5, TX5, 25), rfl, rfl⟩⟩
theorem clL_93 : x_CV RL 93 mX5_could 5 1 := ⟨cbX5_could, x_in 851 (by decide +kernel) rfl, x_in 852 (by decide +kernel) rfl, x_in 853 (by decide +kernel) rfl, ⟨(RX5, TX5, 25), rfl, rfl⟩⟩
theorem clL_97 : x_CV RL 97 mX5_alibi 5 1 := ⟨cbX5_alibi, x_in 855 (by decide +kernel) rfl, x_in 856 (by decide +kernel) rfl, x_in 857 (by decide +kernel) rfl, ⟨(RX5, TX5, 25), rfl, rfl⟩⟩
theorem clL_101 : x_CV RL 101 mX5_gone 5 1 := ⟨cbX5_gone, x_in 859 (by decide +kernel) rfl, x_in 860 (by decide +kernel) rfl, x_in 861 (by decide +kernel) rfl, ⟨(RX5, TX5, 25), rfl, rfl⟩⟩
theorem clL_105 : x_CV RL 105 mX5_out 5 1 := ⟨cbX5_out, x_in 863 (by decide +kernel) rfl, x_in 864 (by decide +kernel) rfl, x_in 865 (by decide +kernel) rfl, ⟨(RX5, TX5, 25), rfl, rfl⟩⟩
theorem clX5_205 : x_CV RX5 205 mX5_stillStands 5 1 := ⟨cbX5_stillStands, x_in 867 (by decide +kernel) rfl, x_in 869 (by decide +kernel) rfl, x_in 50 (by decide +kernel) rfl, ⟨(RX5, TX5, 25), rfl, rfl⟩⟩
theorem clL_109 : x_CV RL 109 mX5_drawn 5 3 := ⟨cbX5_drawn, x_in 871 (by decide +kernel) rfl, x_in 872 (by decide +kernel) rfl, x_in 873 (by decide +kernel) rfl, ⟨(RX5, TX5, 25), rfl, rfl⟩⟩
theorem cnX5_208 : Cond.constantLong RX5 208 9999 ∈ x_base := x_in 875 (by decide +kernel) rfl
theorem cnX5_210 : Cond.constantLong RX5 210 99 ∈ x_base := x_in 876 (by decide +kernel) rfl
theorem cnX5_212 : Cond.constantLong RX5 212 75 ∈ x_base := x_in 877 (by decide +kernel) rfl
theorem cnX5_214 : Cond.constantLong RX5 214 74 ∈ x_base := x_in 878 (by decide +kernel) rfl
theorem cnX5_216 : Cond.constantLong RX5 216 65537 ∈ x_base := x_in 879 (by decide +kernel) rfl
theorem clL_113 : x_CV RL 113 mX5_image 5 1 := ⟨cbX5_image, x_in 880 (by decide +kernel) rfl, x_in 881 (by decide +kernel) rfl, x_in 882 (by decide +kernel) rfl, ⟨(RX5, TX5, 25), rfl, rfl⟩⟩
theorem clX5_228 : x_CV RX5 228 mX5_passAll 5 0 := ⟨cbX5_passAll, x_in 884 (by decide +kernel) rfl, x_in 886 (by decide +kernel) rfl, x_in 51 (by decide +kernel) rfl, ⟨(RX5, TX5, 25), rfl, rfl⟩⟩
theorem clX5_225 : x_CV RX5 225 mX5_pass 5 1 := ⟨cbX5_pass, x_in 888 (by decide +kernel) rfl, x_in 890 (by decide +kernel) rfl, x_in 52 (by decide +kernel) rfl, ⟨(RX5, TX5, 25), rfl, rfl⟩⟩
theorem clL_117 : x_CV RL 117 mX5_restore 5 1 := ⟨cbX5_restore, x_in 892 (by decide +kernel) rfl, x_in 893 (by decide +kernel) rfl, x_in 894 (by decide +kernel) rfl, ⟨(RX5, TX5, 25), rfl, rfl⟩⟩
theorem clL_121 : x_CV RL 121 mX5_told 5 1 := ⟨cbX5_told, x_in 896 (by decide +kernel) rfl, x_in 897 (by decide +kernel) rfl, x_in 898 (by decide +kernel) rfl, ⟨(RX5, TX5, 25), rfl, rfl⟩⟩
