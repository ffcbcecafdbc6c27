/-! the tables' words that the rows need, each by its place -/
theorem ac_int : Cond.arrayClass .int ∈ tb := tb_in (List.mem_of_getElem? (i := 116) (by decide +kernel)) rfl
theorem ac_char : Cond.arrayClass .char ∈ tb := tb_in (List.mem_of_getElem? (i := 234) (by decide +kernel)) rfl
theorem oi_inst : Cond.instanceMethod objectInit ∈ tb := tb_in (List.mem_of_getElem? (i := 80) (by decide +kernel)) rfl
theorem cp_nat : Cond.native arraycopyName ∈ tb := tb_in (List.mem_of_getElem? (i := 284) (by decide +kernel)) rfl
theorem cp_st : Cond.static arraycopyName ∈ tb := tb_in (List.mem_of_getElem? (i := 283) (by decide +kernel)) rfl
theorem cp_ini : Cond.initialized "java/lang/System" ∈ tb := tb_in (List.mem_of_getElem? (i := 70) (by decide +kernel)) rfl
theorem oi_code : Cond.code objectInit ⟨#[0xb1]⟩ 1 none ∈ tb := tb_in (List.mem_of_getElem? (i := 81) (by decide +kernel)) rfl
theorem ky_X0_init : KY yX0_init cX0_init 1 none 0 := ⟨⟨by decide +kernel, by decide +kernel, by decide +kernel⟩, tb_in (List.mem_of_getElem? (i := 121) (by decide +kernel)) rfl, tb_in (List.mem_of_getElem? (i := 67) (by decide +kernel)) rfl, by decide⟩
theorem ki_X0_init : Cond.instanceMethod yX0_init ∈ tb := tb_in (List.mem_of_getElem? (i := 120) (by decide +kernel)) rfl
theorem ky_X0_copyFrom : KY yX0_copyFrom cX0_copyFrom 2 none 1 := ⟨⟨by decide +kernel, by decide +kernel, by decide +kernel⟩, tb_in (List.mem_of_getElem? (i := 288) (by decide +kernel)) rfl, tb_in (List.mem_of_getElem? (i := 67) (by decide +kernel)) rfl, by decide⟩
theorem ki_X0_copyFrom : Cond.instanceMethod yX0_copyFrom ∈ tb := tb_in (List.mem_of_getElem? (i := 286) (by decide +kernel)) rfl
theorem ks2_X0_copyFrom : Cond.selects yX0_copyFrom.cls yX0_copyFrom yX0_copyFrom ∈ tb := tb_in (List.mem_of_getElem? (i := 287) (by decide +kernel)) rfl
theorem ky_X0_begin : KY yX0_begin cX0_begin 3 none 2 := ⟨⟨by decide +kernel, by decide +kernel, by decide +kernel⟩, tb_in (List.mem_of_getElem? (i := 324) (by decide +kernel)) rfl, tb_in (List.mem_of_getElem? (i := 67) (by decide +kernel)) rfl, by decide⟩
theorem ki_X0_begin : Cond.instanceMethod yX0_begin ∈ tb := tb_in (List.mem_of_getElem? (i := 322) (by decide +kernel)) rfl
theorem ks2_X0_begin : Cond.selects yX0_begin.cls yX0_begin yX0_begin ∈ tb := tb_in (List.mem_of_getElem? (i := 323) (by decide +kernel)) rfl
theorem ky_X0_addExit : KY yX0_addExit cX0_addExit 3 none 2 := ⟨⟨by decide +kernel, by decide +kernel, by decide +kernel⟩, tb_in (List.mem_of_getElem? (i := 482) (by decide +kernel)) rfl, tb_in (List.mem_of_getElem? (i := 67) (by decide +kernel)) rfl, by decide⟩
theorem ki_X0_addExit : Cond.instanceMethod yX0_addExit ∈ tb := tb_in (List.mem_of_getElem? (i := 480) (by decide +kernel)) rfl
theorem ks2_X0_addExit : Cond.selects yX0_addExit.cls yX0_addExit yX0_addExit ∈ tb := tb_in (List.mem_of_getElem? (i := 481) (by decide +kernel)) rfl
theorem ky_X0_addEntry : KY yX0_addEntry cX0_addEntry 3 none 2 := ⟨⟨by decide +kernel, by decide +kernel, by decide +kernel⟩, tb_in (List.mem_of_getElem? (i := 495) (by decide +kernel)) rfl, tb_in (List.mem_of_getElem? (i := 67) (by decide +kernel)) rfl, by decide⟩
theorem ki_X0_addEntry : Cond.instanceMethod yX0_addEntry ∈ tb := tb_in (List.mem_of_getElem? (i := 493) (by decide +kernel)) rfl
theorem ks2_X0_addEntry : Cond.selects yX0_addEntry.cls yX0_addEntry yX0_addEntry ∈ tb := tb_in (List.mem_of_getElem? (i := 494) (by decide +kernel)) rfl
theorem ky_X0_addStamp : KY yX0_addStamp cX0_addStamp 4 none 3 := ⟨⟨by decide +kernel, by decide +kernel, by decide +kernel⟩, tb_in (List.mem_of_getElem? (i := 486) (by decide +kernel)) rfl, tb_in (List.mem_of_getElem? (i := 67) (by decide +kernel)) rfl, by decide⟩
theorem ki_X0_addStamp : Cond.instanceMethod yX0_addStamp ∈ tb := tb_in (List.mem_of_getElem? (i := 485) (by decide +kernel)) rfl
theorem ks2_X0_addStamp : Cond.selects yX0_addStamp.cls yX0_addStamp yX0_addStamp ∈ tb := tb_in (List.mem_of_getElem? (i := 3) (by decide +kernel)) rfl
theorem ky_X0_stamps : KY yX0_stamps cX0_stamps 1 (some .int) 0 := ⟨⟨by decide +kernel, by decide +kernel, by decide +kernel⟩, tb_in (List.mem_of_getElem? (i := 350) (by decide +kernel)) rfl, tb_in (List.mem_of_getElem? (i := 67) (by decide +kernel)) rfl, by decide⟩
theorem ki_X0_stamps : Cond.instanceMethod yX0_stamps ∈ tb := tb_in (List.mem_of_getElem? (i := 348) (by decide +kernel)) rfl
theorem ks2_X0_stamps : Cond.selects yX0_stamps.cls yX0_stamps yX0_stamps ∈ tb := tb_in (List.mem_of_getElem? (i := 349) (by decide +kernel)) rfl
theorem ky_X0_hasStamp : KY yX0_hasStamp cX0_hasStamp 2 (some .boolean) 1 := ⟨⟨by decide +kernel, by decide +kernel, by decide +kernel⟩, tb_in (List.mem_of_getElem? (i := 627) (by decide +kernel)) rfl, tb_in (List.mem_of_getElem? (i := 67) (by decide +kernel)) rfl, by decide⟩
theorem ki_X0_hasStamp : Cond.instanceMethod yX0_hasStamp ∈ tb := tb_in (List.mem_of_getElem? (i := 625) (by decide +kernel)) rfl
theorem ks2_X0_hasStamp : Cond.selects yX0_hasStamp.cls yX0_hasStamp yX0_hasStamp ∈ tb := tb_in (List.mem_of_getElem? (i := 626) (by decide +kernel)) rfl
theorem ky_X0_dayOf : KY yX0_dayOf cX0_dayOf 2 (some .int) 1 := ⟨⟨by decide +kernel, by decide +kernel, by decide +kernel⟩, tb_in (List.mem_of_getElem? (i := 641) (by decide +kernel)) rfl, tb_in (List.mem_of_getElem? (i := 67) (by decide +kernel)) rfl, by decide⟩
theorem ki_X0_dayOf : Cond.instanceMethod yX0_dayOf ∈ tb := tb_in (List.mem_of_getElem? (i := 639) (by decide +kernel)) rfl
theorem ks2_X0_dayOf : Cond.selects yX0_dayOf.cls yX0_dayOf yX0_dayOf ∈ tb := tb_in (List.mem_of_getElem? (i := 640) (by decide +kernel)) rfl
theorem ky_X0_countryOf : KY yX0_countryOf cX0_countryOf 2 (some .int) 1 := ⟨⟨by decide +kernel, by decide +kernel, by decide +kernel⟩, tb_in (List.mem_of_getElem? (i := 623) (by decide +kernel)) rfl, tb_in (List.mem_of_getElem? (i := 67) (by decide +kernel)) rfl, by decide⟩
theorem ki_X0_countryOf : Cond.instanceMethod yX0_countryOf ∈ tb := tb_in (List.mem_of_getElem? (i := 621) (by decide +kernel)) rfl
theorem ks2_X0_countryOf : Cond.selects yX0_countryOf.cls yX0_countryOf yX0_countryOf ∈ tb := tb_in (List.mem_of_getElem? (i := 622) (by decide +kernel)) rfl
theorem ky_X0_isEntry : KY yX0_isEntry cX0_isEntry 2 (some .boolean) 1 := ⟨⟨by decide +kernel, by decide +kernel, by decide +kernel⟩, tb_in (List.mem_of_getElem? (i := 614) (by decide +kernel)) rfl, tb_in (List.mem_of_getElem? (i := 67) (by decide +kernel)) rfl, by decide⟩
theorem ki_X0_isEntry : Cond.instanceMethod yX0_isEntry ∈ tb := tb_in (List.mem_of_getElem? (i := 612) (by decide +kernel)) rfl
theorem ks2_X0_isEntry : Cond.selects yX0_isEntry.cls yX0_isEntry yX0_isEntry ∈ tb := tb_in (List.mem_of_getElem? (i := 613) (by decide +kernel)) rfl
theorem ky_X0_isGap : KY yX0_isGap cX0_isGap 3 (some .boolean) 1 := ⟨⟨by decide +kernel, by decide +kernel, by decide +kernel⟩, tb_in (List.mem_of_getElem? (i := 610) (by decide +kernel)) rfl, tb_in (List.mem_of_getElem? (i := 67) (by decide +kernel)) rfl, by decide⟩
theorem ki_X0_isGap : Cond.instanceMethod yX0_isGap ∈ tb := tb_in (List.mem_of_getElem? (i := 608) (by decide +kernel)) rfl
theorem ks2_X0_isGap : Cond.selects yX0_isGap.cls yX0_isGap yX0_isGap ∈ tb := tb_in (List.mem_of_getElem? (i := 609) (by decide +kernel)) rfl
theorem ky_X0_gaps : KY yX0_gaps cX0_gaps 3 (some .int) 0 := ⟨⟨by decide +kernel, by decide +kernel, by decide +kernel⟩, tb_in (List.mem_of_getElem? (i := 606) (by decide +kernel)) rfl, tb_in (List.mem_of_getElem? (i := 67) (by decide +kernel)) rfl, by decide⟩
theorem ki_X0_gaps : Cond.instanceMethod yX0_gaps ∈ tb := tb_in (List.mem_of_getElem? (i := 604) (by decide +kernel)) rfl
theorem ks2_X0_gaps : Cond.selects yX0_gaps.cls yX0_gaps yX0_gaps ∈ tb := tb_in (List.mem_of_getElem? (i := 605) (by decide +kernel)) rfl
theorem ky_X1_init : KY yX1_init cX1_init 1 none 0 := ⟨⟨by decide +kernel, by decide +kernel, by decide +kernel⟩, tb_in (List.mem_of_getElem? (i := 93) (by decide +kernel)) rfl, tb_in (List.mem_of_getElem? (i := 64) (by decide +kernel)) rfl, by decide⟩
theorem ki_X1_init : Cond.instanceMethod yX1_init ∈ tb := tb_in (List.mem_of_getElem? (i := 92) (by decide +kernel)) rfl
theorem ky_X1_copyFrom : KY yX1_copyFrom cX1_copyFrom 3 none 1 := ⟨⟨by decide +kernel, by decide +kernel, by decide +kernel⟩, tb_in (List.mem_of_getElem? (i := 274) (by decide +kernel)) rfl, tb_in (List.mem_of_getElem? (i := 64) (by decide +kernel)) rfl, by decide⟩
theorem ki_X1_copyFrom : Cond.instanceMethod yX1_copyFrom ∈ tb := tb_in (List.mem_of_getElem? (i := 272) (by decide +kernel)) rfl
theorem ks2_X1_copyFrom : Cond.selects yX1_copyFrom.cls yX1_copyFrom yX1_copyFrom ∈ tb := tb_in (List.mem_of_getElem? (i := 273) (by decide +kernel)) rfl
theorem ky_X1_begin : KY yX1_begin cX1_begin 4 none 2 := ⟨⟨by decide +kernel, by decide +kernel, by decide +kernel⟩, tb_in (List.mem_of_getElem? (i := 304) (by decide +kernel)) rfl, tb_in (List.mem_of_getElem? (i := 64) (by decide +kernel)) rfl, by decide⟩
theorem ki_X1_begin : Cond.instanceMethod yX1_begin ∈ tb := tb_in (List.mem_of_getElem? (i := 302) (by decide +kernel)) rfl
theorem ks2_X1_begin : Cond.selects yX1_begin.cls yX1_begin yX1_begin ∈ tb := tb_in (List.mem_of_getElem? (i := 303) (by decide +kernel)) rfl
theorem ky_X1_beginBook : KY yX1_beginBook cX1_beginBook 2 none 1 := ⟨⟨by decide +kernel, by decide +kernel, by decide +kernel⟩, tb_in (List.mem_of_getElem? (i := 312) (by decide +kernel)) rfl, tb_in (List.mem_of_getElem? (i := 64) (by decide +kernel)) rfl, by decide⟩
theorem ki_X1_beginBook : Cond.instanceMethod yX1_beginBook ∈ tb := tb_in (List.mem_of_getElem? (i := 310) (by decide +kernel)) rfl
theorem ks2_X1_beginBook : Cond.selects yX1_beginBook.cls yX1_beginBook yX1_beginBook ∈ tb := tb_in (List.mem_of_getElem? (i := 311) (by decide +kernel)) rfl
theorem ky_X1_place : KY yX1_place cX1_place 1 (some .int) 0 := ⟨⟨by decide +kernel, by decide +kernel, by decide +kernel⟩, tb_in (List.mem_of_getElem? (i := 316) (by decide +kernel)) rfl, tb_in (List.mem_of_getElem? (i := 64) (by decide +kernel)) rfl, by decide⟩
theorem ki_X1_place : Cond.instanceMethod yX1_place ∈ tb := tb_in (List.mem_of_getElem? (i := 314) (by decide +kernel)) rfl
theorem ks2_X1_place : Cond.selects yX1_place.cls yX1_place yX1_place ∈ tb := tb_in (List.mem_of_getElem? (i := 315) (by decide +kernel)) rfl
theorem ky_X1_toldPlace : KY yX1_toldPlace cX1_toldPlace 1 (some .int) 0 := ⟨⟨by decide +kernel, by decide +kernel, by decide +kernel⟩, tb_in (List.mem_of_getElem? (i := 601) (by decide +kernel)) rfl, tb_in (List.mem_of_getElem? (i := 64) (by decide +kernel)) rfl, by decide⟩
theorem ki_X1_toldPlace : Cond.instanceMethod yX1_toldPlace ∈ tb := tb_in (List.mem_of_getElem? (i := 599) (by decide +kernel)) rfl
theorem ks2_X1_toldPlace : Cond.selects yX1_toldPlace.cls yX1_toldPlace yX1_toldPlace ∈ tb := tb_in (List.mem_of_getElem? (i := 600) (by decide +kernel)) rfl
theorem ky_X1_crossings : KY yX1_crossings cX1_crossings 1 (some .int) 0 := ⟨⟨by decide +kernel, by decide +kernel, by decide +kernel⟩, tb_in (List.mem_of_getElem? (i := 478) (by decide +kernel)) rfl, tb_in (List.mem_of_getElem? (i := 64) (by decide +kernel)) rfl, by decide⟩
theorem ki_X1_crossings : Cond.instanceMethod yX1_crossings ∈ tb := tb_in (List.mem_of_getElem? (i := 476) (by decide +kernel)) rfl
theorem ks2_X1_crossings : Cond.selects yX1_crossings.cls yX1_crossings yX1_crossings ∈ tb := tb_in (List.mem_of_getElem? (i := 477) (by decide +kernel)) rfl
theorem ky_X1_visaFor : KY yX1_visaFor cX1_visaFor 2 (some (.object "BorderStamps$Visa")) 1 := ⟨⟨by decide +kernel, by decide +kernel, by decide +kernel⟩, tb_in (List.mem_of_getElem? (i := 413) (by decide +kernel)) rfl, tb_in (List.mem_of_getElem? (i := 64) (by decide +kernel)) rfl, by decide⟩
theorem ki_X1_visaFor : Cond.instanceMethod yX1_visaFor ∈ tb := tb_in (List.mem_of_getElem? (i := 411) (by decide +kernel)) rfl
theorem ks2_X1_visaFor : Cond.selects yX1_visaFor.cls yX1_visaFor yX1_visaFor ∈ tb := tb_in (List.mem_of_getElem? (i := 412) (by decide +kernel)) rfl
theorem ky_X1_setVisa : KY yX1_setVisa cX1_setVisa 3 none 2 := ⟨⟨by decide +kernel, by decide +kernel, by decide +kernel⟩, tb_in (List.mem_of_getElem? (i := 392) (by decide +kernel)) rfl, tb_in (List.mem_of_getElem? (i := 64) (by decide +kernel)) rfl, by decide⟩
theorem ki_X1_setVisa : Cond.instanceMethod yX1_setVisa ∈ tb := tb_in (List.mem_of_getElem? (i := 390) (by decide +kernel)) rfl
theorem ks2_X1_setVisa : Cond.selects yX1_setVisa.cls yX1_setVisa yX1_setVisa ∈ tb := tb_in (List.mem_of_getElem? (i := 391) (by decide +kernel)) rfl
theorem ky_X1_usedDays : KY yX1_usedDays cX1_usedDays 3 (some .int) 2 := ⟨⟨by decide +kernel, by decide +kernel, by decide +kernel⟩, tb_in (List.mem_of_getElem? (i := 396) (by decide +kernel)) rfl, tb_in (List.mem_of_getElem? (i := 64) (by decide +kernel)) rfl, by decide⟩
theorem ki_X1_usedDays : Cond.instanceMethod yX1_usedDays ∈ tb := tb_in (List.mem_of_getElem? (i := 394) (by decide +kernel)) rfl
theorem ks2_X1_usedDays : Cond.selects yX1_usedDays.cls yX1_usedDays yX1_usedDays ∈ tb := tb_in (List.mem_of_getElem? (i := 395) (by decide +kernel)) rfl
theorem ky_X1_hasValidVisa : KY yX1_hasValidVisa cX1_hasValidVisa 4 (some .boolean) 2 := ⟨⟨by decide +kernel, by decide +kernel, by decide +kernel⟩, tb_in (List.mem_of_getElem? (i := 463) (by decide +kernel)) rfl, tb_in (List.mem_of_getElem? (i := 64) (by decide +kernel)) rfl, by decide⟩
theorem ki_X1_hasValidVisa : Cond.instanceMethod yX1_hasValidVisa ∈ tb := tb_in (List.mem_of_getElem? (i := 461) (by decide +kernel)) rfl
theorem ks2_X1_hasValidVisa : Cond.selects yX1_hasValidVisa.cls yX1_hasValidVisa yX1_hasValidVisa ∈ tb := tb_in (List.mem_of_getElem? (i := 462) (by decide +kernel)) rfl
theorem ky_X1_mayBeIn : KY yX1_mayBeIn cX1_mayBeIn 4 (some .boolean) 2 := ⟨⟨by decide +kernel, by decide +kernel, by decide +kernel⟩, tb_in (List.mem_of_getElem? (i := 473) (by decide +kernel)) rfl, tb_in (List.mem_of_getElem? (i := 64) (by decide +kernel)) rfl, by decide⟩
theorem ki_X1_mayBeIn : Cond.instanceMethod yX1_mayBeIn ∈ tb := tb_in (List.mem_of_getElem? (i := 471) (by decide +kernel)) rfl
theorem ks2_X1_mayBeIn : Cond.selects yX1_mayBeIn.cls yX1_mayBeIn yX1_mayBeIn ∈ tb := tb_in (List.mem_of_getElem? (i := 472) (by decide +kernel)) rfl
theorem ky_X1_visasHeld : KY yX1_visasHeld cX1_visasHeld 3 (some .int) 0 := ⟨⟨by decide +kernel, by decide +kernel, by decide +kernel⟩, tb_in (List.mem_of_getElem? (i := 632) (by decide +kernel)) rfl, tb_in (List.mem_of_getElem? (i := 64) (by decide +kernel)) rfl, by decide⟩
theorem ki_X1_visasHeld : Cond.instanceMethod yX1_visasHeld ∈ tb := tb_in (List.mem_of_getElem? (i := 630) (by decide +kernel)) rfl
theorem ks2_X1_visasHeld : Cond.selects yX1_visasHeld.cls yX1_visasHeld yX1_visasHeld ∈ tb := tb_in (List.mem_of_getElem? (i := 631) (by decide +kernel)) rfl
theorem ky_X1_visasValidOn : KY yX1_visasValidOn cX1_visasValidOn 4 (some .int) 1 := ⟨⟨by decide +kernel, by decide +kernel, by decide +kernel⟩, tb_in (List.mem_of_getElem? (i := 710) (by decide +kernel)) rfl, tb_in (List.mem_of_getElem? (i := 64) (by decide +kernel)) rfl, by decide⟩
theorem ki_X1_visasValidOn : Cond.instanceMethod yX1_visasValidOn ∈ tb := tb_in (List.mem_of_getElem? (i := 708) (by decide +kernel)) rfl
theorem ks2_X1_visasValidOn : Cond.selects yX1_visasValidOn.cls yX1_visasValidOn yX1_visasValidOn ∈ tb := tb_in (List.mem_of_getElem? (i := 709) (by decide +kernel)) rfl
theorem ky_X2_init : KY yX2_init cX2_init 2 none 0 := ⟨⟨by decide +kernel, by decide +kernel, by decide +kernel⟩, tb_in (List.mem_of_getElem? (i := 86) (by decide +kernel)) rfl, tb_in (List.mem_of_getElem? (i := 63) (by decide +kernel)) rfl, by decide⟩
theorem ki_X2_init : Cond.instanceMethod yX2_init ∈ tb := tb_in (List.mem_of_getElem? (i := 85) (by decide +kernel)) rfl
theorem ky_X2_copyFrom : KY yX2_copyFrom cX2_copyFrom 3 none 1 := ⟨⟨by decide +kernel, by decide +kernel, by decide +kernel⟩, tb_in (List.mem_of_getElem? (i := 270) (by decide +kernel)) rfl, tb_in (List.mem_of_getElem? (i := 63) (by decide +kernel)) rfl, by decide⟩
theorem ki_X2_copyFrom : Cond.instanceMethod yX2_copyFrom ∈ tb := tb_in (List.mem_of_getElem? (i := 268) (by decide +kernel)) rfl
theorem ks2_X2_copyFrom : Cond.selects yX2_copyFrom.cls yX2_copyFrom yX2_copyFrom ∈ tb := tb_in (List.mem_of_getElem? (i := 269) (by decide +kernel)) rfl
theorem ky_X2_holderOf : KY yX2_holderOf cX2_holderOf 2 (some (.object "BorderStamps$Holder")) 1 := ⟨⟨by decide +kernel, by decide +kernel, by decide +kernel⟩, tb_in (List.mem_of_getElem? (i := 345) (by decide +kernel)) rfl, tb_in (List.mem_of_getElem? (i := 63) (by decide +kernel)) rfl, by decide⟩
theorem ki_X2_holderOf : Cond.instanceMethod yX2_holderOf ∈ tb := tb_in (List.mem_of_getElem? (i := 343) (by decide +kernel)) rfl
theorem ks2_X2_holderOf : Cond.selects yX2_holderOf.cls yX2_holderOf yX2_holderOf ∈ tb := tb_in (List.mem_of_getElem? (i := 344) (by decide +kernel)) rfl
theorem ky_X2_closedBorders : KY yX2_closedBorders cX2_closedBorders 1 (some .int) 0 := ⟨⟨by decide +kernel, by decide +kernel, by decide +kernel⟩, tb_in (List.mem_of_getElem? (i := 430) (by decide +kernel)) rfl, tb_in (List.mem_of_getElem? (i := 63) (by decide +kernel)) rfl, by decide⟩
theorem ki_X2_closedBorders : Cond.instanceMethod yX2_closedBorders ∈ tb := tb_in (List.mem_of_getElem? (i := 428) (by decide +kernel)) rfl
theorem ks2_X2_closedBorders : Cond.selects yX2_closedBorders.cls yX2_closedBorders yX2_closedBorders ∈ tb := tb_in (List.mem_of_getElem? (i := 429) (by decide +kernel)) rfl
theorem ky_X2_addHolder : KY yX2_addHolder cX2_addHolder 2 (some .int) 1 := ⟨⟨by decide +kernel, by decide +kernel, by decide +kernel⟩, tb_in (List.mem_of_getElem? (i := 294) (by decide +kernel)) rfl, tb_in (List.mem_of_getElem? (i := 63) (by decide +kernel)) rfl, by decide⟩
theorem ki_X2_addHolder : Cond.instanceMethod yX2_addHolder ∈ tb := tb_in (List.mem_of_getElem? (i := 292) (by decide +kernel)) rfl
theorem ks2_X2_addHolder : Cond.selects yX2_addHolder.cls yX2_addHolder yX2_addHolder ∈ tb := tb_in (List.mem_of_getElem? (i := 293) (by decide +kernel)) rfl
theorem ky_X2_giveBook : KY yX2_giveBook cX2_giveBook 4 (some .int) 1 := ⟨⟨by decide +kernel, by decide +kernel, by decide +kernel⟩, tb_in (List.mem_of_getElem? (i := 341) (by decide +kernel)) rfl, tb_in (List.mem_of_getElem? (i := 63) (by decide +kernel)) rfl, by decide⟩
theorem ki_X2_giveBook : Cond.instanceMethod yX2_giveBook ∈ tb := tb_in (List.mem_of_getElem? (i := 339) (by decide +kernel)) rfl
theorem ks2_X2_giveBook : Cond.selects yX2_giveBook.cls yX2_giveBook yX2_giveBook ∈ tb := tb_in (List.mem_of_getElem? (i := 340) (by decide +kernel)) rfl
theorem ky_X2_giveVisa : KY yX2_giveVisa cX2_giveVisa 8 (some .int) 5 := ⟨⟨by decide +kernel, by decide +kernel, by decide +kernel⟩, tb_in (List.mem_of_getElem? (i := 359) (by decide +kernel)) rfl, tb_in (List.mem_of_getElem? (i := 63) (by decide +kernel)) rfl, by decide⟩
theorem ki_X2_giveVisa : Cond.instanceMethod yX2_giveVisa ∈ tb := tb_in (List.mem_of_getElem? (i := 357) (by decide +kernel)) rfl
theorem ks2_X2_giveVisa : Cond.selects yX2_giveVisa.cls yX2_giveVisa yX2_giveVisa ∈ tb := tb_in (List.mem_of_getElem? (i := 358) (by decide +kernel)) rfl
theorem ky_X2_takeVisa : KY yX2_takeVisa cX2_takeVisa 5 (some .int) 2 := ⟨⟨by decide +kernel, by decide +kernel, by decide +kernel⟩, tb_in (List.mem_of_getElem? (i := 409) (by decide +kernel)) rfl, tb_in (List.mem_of_getElem? (i := 63) (by decide +kernel)) rfl, by decide⟩
theorem ki_X2_takeVisa : Cond.instanceMethod yX2_takeVisa ∈ tb := tb_in (List.mem_of_getElem? (i := 407) (by decide +kernel)) rfl
theorem ks2_X2_takeVisa : Cond.selects yX2_takeVisa.cls yX2_takeVisa yX2_takeVisa ∈ tb := tb_in (List.mem_of_getElem? (i := 408) (by decide +kernel)) rfl
theorem ky_X2_flipBorder : KY yX2_flipBorder cX2_flipBorder 3 (some .int) 2 := ⟨⟨by decide +kernel, by decide +kernel, by decide +kernel⟩, tb_in (List.mem_of_getElem? (i := 421) (by decide +kernel)) rfl, tb_in (List.mem_of_getElem? (i := 63) (by decide +kernel)) rfl, by decide⟩
theorem ki_X2_flipBorder : Cond.instanceMethod yX2_flipBorder ∈ tb := tb_in (List.mem_of_getElem? (i := 419) (by decide +kernel)) rfl
theorem ks2_X2_flipBorder : Cond.selects yX2_flipBorder.cls yX2_flipBorder yX2_flipBorder ∈ tb := tb_in (List.mem_of_getElem? (i := 420) (by decide +kernel)) rfl
theorem ky_X2_moveHolder : KY yX2_moveHolder cX2_moveHolder 7 (some .int) 3 := ⟨⟨by decide +kernel, by decide +kernel, by decide +kernel⟩, tb_in (List.mem_of_getElem? (i := 444) (by decide +kernel)) rfl, tb_in (List.mem_of_getElem? (i := 63) (by decide +kernel)) rfl, by decide⟩
theorem ki_X2_moveHolder : Cond.instanceMethod yX2_moveHolder ∈ tb := tb_in (List.mem_of_getElem? (i := 442) (by decide +kernel)) rfl
theorem ks2_X2_moveHolder : Cond.selects yX2_moveHolder.cls yX2_moveHolder yX2_moveHolder ∈ tb := tb_in (List.mem_of_getElem? (i := 443) (by decide +kernel)) rfl
theorem ky_X2_endDays : KY yX2_endDays cX2_endDays 4 (some .int) 1 := ⟨⟨by decide +kernel, by decide +kernel, by decide +kernel⟩, tb_in (List.mem_of_getElem? (i := 504) (by decide +kernel)) rfl, tb_in (List.mem_of_getElem? (i := 63) (by decide +kernel)) rfl, by decide⟩
theorem ki_X2_endDays : Cond.instanceMethod yX2_endDays ∈ tb := tb_in (List.mem_of_getElem? (i := 502) (by decide +kernel)) rfl
theorem ks2_X2_endDays : Cond.selects yX2_endDays.cls yX2_endDays yX2_endDays ∈ tb := tb_in (List.mem_of_getElem? (i := 503) (by decide +kernel)) rfl
theorem ky_X2_endDay : KY yX2_endDay cX2_endDay 4 (some .int) 0 := ⟨⟨by decide +kernel, by decide +kernel, by decide +kernel⟩, tb_in (List.mem_of_getElem? (i := 508) (by decide +kernel)) rfl, tb_in (List.mem_of_getElem? (i := 63) (by decide +kernel)) rfl, by decide⟩
theorem ki_X2_endDay : Cond.instanceMethod yX2_endDay ∈ tb := tb_in (List.mem_of_getElem? (i := 507) (by decide +kernel)) rfl
theorem ks2_X2_endDay : Cond.selects yX2_endDay.cls yX2_endDay yX2_endDay ∈ tb := tb_in (List.mem_of_getElem? (i := 4) (by decide +kernel)) rfl
theorem ky_X2_reasonAgainst : KY yX2_reasonAgainst cX2_reasonAgainst 4 (some .int) 3 := ⟨⟨by decide +kernel, by decide +kernel, by decide +kernel⟩, tb_in (List.mem_of_getElem? (i := 454) (by decide +kernel)) rfl, tb_in (List.mem_of_getElem? (i := 63) (by decide +kernel)) rfl, by decide⟩
theorem ki_X2_reasonAgainst : Cond.instanceMethod yX2_reasonAgainst ∈ tb := tb_in (List.mem_of_getElem? (i := 452) (by decide +kernel)) rfl
theorem ks2_X2_reasonAgainst : Cond.selects yX2_reasonAgainst.cls yX2_reasonAgainst yX2_reasonAgainst ∈ tb := tb_in (List.mem_of_getElem? (i := 453) (by decide +kernel)) rfl
theorem ky_X2_fewestCrossings : KY yX2_fewestCrossings cX2_fewestCrossings 5 (some .int) 2 := ⟨⟨by decide +kernel, by decide +kernel, by decide +kernel⟩, tb_in (List.mem_of_getElem? (i := 676) (by decide +kernel)) rfl, tb_in (List.mem_of_getElem? (i := 63) (by decide +kernel)) rfl, by decide⟩
theorem ki_X2_fewestCrossings : Cond.instanceMethod yX2_fewestCrossings ∈ tb := tb_in (List.mem_of_getElem? (i := 674) (by decide +kernel)) rfl
theorem ks2_X2_fewestCrossings : Cond.selects yX2_fewestCrossings.cls yX2_fewestCrossings yX2_fewestCrossings ∈ tb := tb_in (List.mem_of_getElem? (i := 675) (by decide +kernel)) rfl
theorem ky_X2_oneCrossingFrom : KY yX2_oneCrossingFrom cX2_oneCrossingFrom 5 (some .int) 2 := ⟨⟨by decide +kernel, by decide +kernel, by decide +kernel⟩, tb_in (List.mem_of_getElem? (i := 680) (by decide +kernel)) rfl, tb_in (List.mem_of_getElem? (i := 63) (by decide +kernel)) rfl, by decide⟩
theorem ki_X2_oneCrossingFrom : Cond.instanceMethod yX2_oneCrossingFrom ∈ tb := tb_in (List.mem_of_getElem? (i := 679) (by decide +kernel)) rfl
theorem ks2_X2_oneCrossingFrom : Cond.selects yX2_oneCrossingFrom.cls yX2_oneCrossingFrom yX2_oneCrossingFrom ∈ tb := tb_in (List.mem_of_getElem? (i := 13) (by decide +kernel)) rfl
theorem ky_X2_isBesideOneOf : KY yX2_isBesideOneOf cX2_isBesideOneOf 4 (some .boolean) 2 := ⟨⟨by decide +kernel, by decide +kernel, by decide +kernel⟩, tb_in (List.mem_of_getElem? (i := 684) (by decide +kernel)) rfl, tb_in (List.mem_of_getElem? (i := 63) (by decide +kernel)) rfl, by decide⟩
theorem ki_X2_isBesideOneOf : Cond.instanceMethod yX2_isBesideOneOf ∈ tb := tb_in (List.mem_of_getElem? (i := 683) (by decide +kernel)) rfl
theorem ks2_X2_isBesideOneOf : Cond.selects yX2_isBesideOneOf.cls yX2_isBesideOneOf yX2_isBesideOneOf ∈ tb := tb_in (List.mem_of_getElem? (i := 14) (by decide +kernel)) rfl
theorem ky_X2_isOpen : KY yX2_isOpen cX2_isOpen 3 (some .boolean) 2 := ⟨⟨by decide +kernel, by decide +kernel, by decide +kernel⟩, tb_in (List.mem_of_getElem? (i := 459) (by decide +kernel)) rfl, tb_in (List.mem_of_getElem? (i := 63) (by decide +kernel)) rfl, by decide⟩
theorem ki_X2_isOpen : Cond.instanceMethod yX2_isOpen ∈ tb := tb_in (List.mem_of_getElem? (i := 458) (by decide +kernel)) rfl
theorem ks2_X2_isOpen : Cond.selects yX2_isOpen.cls yX2_isOpen yX2_isOpen ∈ tb := tb_in (List.mem_of_getElem? (i := 2) (by decide +kernel)) rfl
theorem ky_X2_borderBit : KY yX2_borderBit cX2_borderBit 2 (some .long) 2 := ⟨⟨by decide +kernel, by decide +kernel, by decide +kernel⟩, tb_in (List.mem_of_getElem? (i := 424) (by decide +kernel)) rfl, tb_in (List.mem_of_getElem? (i := 63) (by decide +kernel)) rfl, by decide⟩
theorem ks_X2_borderBit : Cond.static yX2_borderBit ∈ tb := tb_in (List.mem_of_getElem? (i := 423) (by decide +kernel)) rfl
theorem ky_X3_init : KY yX3_init cX3_init 1 none 0 := ⟨⟨by decide +kernel, by decide +kernel, by decide +kernel⟩, tb_in (List.mem_of_getElem? (i := 189) (by decide +kernel)) rfl, tb_in (List.mem_of_getElem? (i := 68) (by decide +kernel)) rfl, by decide⟩
theorem ki_X3_init : Cond.instanceMethod yX3_init ∈ tb := tb_in (List.mem_of_getElem? (i := 188) (by decide +kernel)) rfl
theorem ky_X3_append : KY yX3_append cX3_append 2 (some .int) 1 := ⟨⟨by decide +kernel, by decide +kernel, by decide +kernel⟩, tb_in (List.mem_of_getElem? (i := 516) (by decide +kernel)) rfl, tb_in (List.mem_of_getElem? (i := 68) (by decide +kernel)) rfl, by decide⟩
theorem ki_X3_append : Cond.instanceMethod yX3_append ∈ tb := tb_in (List.mem_of_getElem? (i := 514) (by decide +kernel)) rfl
theorem ks2_X3_append : Cond.selects yX3_append.cls yX3_append yX3_append ∈ tb := tb_in (List.mem_of_getElem? (i := 515) (by decide +kernel)) rfl
theorem ky_X3_empty : KY yX3_empty cX3_empty 2 (some .int) 0 := ⟨⟨by decide +kernel, by decide +kernel, by decide +kernel⟩, tb_in (List.mem_of_getElem? (i := 524) (by decide +kernel)) rfl, tb_in (List.mem_of_getElem? (i := 68) (by decide +kernel)) rfl, by decide⟩
theorem ki_X3_empty : Cond.instanceMethod yX3_empty ∈ tb := tb_in (List.mem_of_getElem? (i := 522) (by decide +kernel)) rfl
theorem ks2_X3_empty : Cond.selects yX3_empty.cls yX3_empty yX3_empty ∈ tb := tb_in (List.mem_of_getElem? (i := 523) (by decide +kernel)) rfl
theorem ky_X3_goToStart : KY yX3_goToStart cX3_goToStart 1 none 0 := ⟨⟨by decide +kernel, by decide +kernel, by decide +kernel⟩, tb_in (List.mem_of_getElem? (i := 536) (by decide +kernel)) rfl, tb_in (List.mem_of_getElem? (i := 68) (by decide +kernel)) rfl, by decide⟩
theorem ki_X3_goToStart : Cond.instanceMethod yX3_goToStart ∈ tb := tb_in (List.mem_of_getElem? (i := 534) (by decide +kernel)) rfl
theorem ks2_X3_goToStart : Cond.selects yX3_goToStart.cls yX3_goToStart yX3_goToStart ∈ tb := tb_in (List.mem_of_getElem? (i := 535) (by decide +kernel)) rfl
theorem ky_X3_findFault : KY yX3_findFault cX3_findFault 1 (some .int) 0 := ⟨⟨by decide +kernel, by decide +kernel, by decide +kernel⟩, tb_in (List.mem_of_getElem? (i := 532) (by decide +kernel)) rfl, tb_in (List.mem_of_getElem? (i := 68) (by decide +kernel)) rfl, by decide⟩
theorem ki_X3_findFault : Cond.instanceMethod yX3_findFault ∈ tb := tb_in (List.mem_of_getElem? (i := 530) (by decide +kernel)) rfl
theorem ks2_X3_findFault : Cond.selects yX3_findFault.cls yX3_findFault yX3_findFault ∈ tb := tb_in (List.mem_of_getElem? (i := 531) (by decide +kernel)) rfl
theorem ky_X3_readNext : KY yX3_readNext cX3_readNext 1 (some .boolean) 0 := ⟨⟨by decide +kernel, by decide +kernel, by decide +kernel⟩, tb_in (List.mem_of_getElem? (i := 540) (by decide +kernel)) rfl, tb_in (List.mem_of_getElem? (i := 68) (by decide +kernel)) rfl, by decide⟩
theorem ki_X3_readNext : Cond.instanceMethod yX3_readNext ∈ tb := tb_in (List.mem_of_getElem? (i := 538) (by decide +kernel)) rfl
theorem ks2_X3_readNext : Cond.selects yX3_readNext.cls yX3_readNext yX3_readNext ∈ tb := tb_in (List.mem_of_getElem? (i := 539) (by decide +kernel)) rfl
theorem ky_X3_readCrossing : KY yX3_readCrossing cX3_readCrossing 1 (some .boolean) 0 := ⟨⟨by decide +kernel, by decide +kernel, by decide +kernel⟩, tb_in (List.mem_of_getElem? (i := 548) (by decide +kernel)) rfl, tb_in (List.mem_of_getElem? (i := 68) (by decide +kernel)) rfl, by decide⟩
theorem ki_X3_readCrossing : Cond.instanceMethod yX3_readCrossing ∈ tb := tb_in (List.mem_of_getElem? (i := 547) (by decide +kernel)) rfl
theorem ks2_X3_readCrossing : Cond.selects yX3_readCrossing.cls yX3_readCrossing yX3_readCrossing ∈ tb := tb_in (List.mem_of_getElem? (i := 6) (by decide +kernel)) rfl
theorem ky_X3_readVisa : KY yX3_readVisa cX3_readVisa 1 (some .boolean) 0 := ⟨⟨by decide +kernel, by decide +kernel, by decide +kernel⟩, tb_in (List.mem_of_getElem? (i := 565) (by decide +kernel)) rfl, tb_in (List.mem_of_getElem? (i := 68) (by decide +kernel)) rfl, by decide⟩
theorem ki_X3_readVisa : Cond.instanceMethod yX3_readVisa ∈ tb := tb_in (List.mem_of_getElem? (i := 564) (by decide +kernel)) rfl
theorem ks2_X3_readVisa : Cond.selects yX3_readVisa.cls yX3_readVisa yX3_readVisa ∈ tb := tb_in (List.mem_of_getElem? (i := 10) (by decide +kernel)) rfl
theorem ky_X3_readPassportAndCountry : KY yX3_readPassportAndCountry cX3_readPassportAndCountry 1 (some .boolean) 0 := ⟨⟨by decide +kernel, by decide +kernel, by decide +kernel⟩, tb_in (List.mem_of_getElem? (i := 552) (by decide +kernel)) rfl, tb_in (List.mem_of_getElem? (i := 68) (by decide +kernel)) rfl, by decide⟩
theorem ki_X3_readPassportAndCountry : Cond.instanceMethod yX3_readPassportAndCountry ∈ tb := tb_in (List.mem_of_getElem? (i := 551) (by decide +kernel)) rfl
theorem ks2_X3_readPassportAndCountry : Cond.selects yX3_readPassportAndCountry.cls yX3_readPassportAndCountry yX3_readPassportAndCountry ∈ tb := tb_in (List.mem_of_getElem? (i := 7) (by decide +kernel)) rfl
theorem ky_X3_readDays : KY yX3_readDays cX3_readDays 1 (some .boolean) 0 := ⟨⟨by decide +kernel, by decide +kernel, by decide +kernel⟩, tb_in (List.mem_of_getElem? (i := 569) (by decide +kernel)) rfl, tb_in (List.mem_of_getElem? (i := 68) (by decide +kernel)) rfl, by decide⟩
theorem ki_X3_readDays : Cond.instanceMethod yX3_readDays ∈ tb := tb_in (List.mem_of_getElem? (i := 568) (by decide +kernel)) rfl
theorem ks2_X3_readDays : Cond.selects yX3_readDays.cls yX3_readDays yX3_readDays ∈ tb := tb_in (List.mem_of_getElem? (i := 11) (by decide +kernel)) rfl
theorem ky_X3_readNumber : KY yX3_readNumber cX3_readNumber 5 (some .int) 2 := ⟨⟨by decide +kernel, by decide +kernel, by decide +kernel⟩, tb_in (List.mem_of_getElem? (i := 556) (by decide +kernel)) rfl, tb_in (List.mem_of_getElem? (i := 68) (by decide +kernel)) rfl, by decide⟩
theorem ki_X3_readNumber : Cond.instanceMethod yX3_readNumber ∈ tb := tb_in (List.mem_of_getElem? (i := 555) (by decide +kernel)) rfl
theorem ks2_X3_readNumber : Cond.selects yX3_readNumber.cls yX3_readNumber yX3_readNumber ∈ tb := tb_in (List.mem_of_getElem? (i := 8) (by decide +kernel)) rfl
theorem ky_X3_nextDigit : KY yX3_nextDigit cX3_nextDigit 2 (some .int) 0 := ⟨⟨by decide +kernel, by decide +kernel, by decide +kernel⟩, tb_in (List.mem_of_getElem? (i := 560) (by decide +kernel)) rfl, tb_in (List.mem_of_getElem? (i := 68) (by decide +kernel)) rfl, by decide⟩
theorem ki_X3_nextDigit : Cond.instanceMethod yX3_nextDigit ∈ tb := tb_in (List.mem_of_getElem? (i := 559) (by decide +kernel)) rfl
theorem ks2_X3_nextDigit : Cond.selects yX3_nextDigit.cls yX3_nextDigit yX3_nextDigit ∈ tb := tb_in (List.mem_of_getElem? (i := 9) (by decide +kernel)) rfl
theorem ky_X3_take : KY yX3_take cX3_take 2 (some .boolean) 1 := ⟨⟨by decide +kernel, by decide +kernel, by decide +kernel⟩, tb_in (List.mem_of_getElem? (i := 544) (by decide +kernel)) rfl, tb_in (List.mem_of_getElem? (i := 68) (by decide +kernel)) rfl, by decide⟩
theorem ki_X3_take : Cond.instanceMethod yX3_take ∈ tb := tb_in (List.mem_of_getElem? (i := 543) (by decide +kernel)) rfl
theorem ks2_X3_take : Cond.selects yX3_take.cls yX3_take yX3_take ∈ tb := tb_in (List.mem_of_getElem? (i := 5) (by decide +kernel)) rfl
theorem ky_X4_init : KY yX4_init cX4_init 3 none 1 := ⟨⟨by decide +kernel, by decide +kernel, by decide +kernel⟩, tb_in (List.mem_of_getElem? (i := 99) (by decide +kernel)) rfl, tb_in (List.mem_of_getElem? (i := 65) (by decide +kernel)) rfl, by decide⟩
theorem ki_X4_init : Cond.instanceMethod yX4_init ∈ tb := tb_in (List.mem_of_getElem? (i := 98) (by decide +kernel)) rfl
theorem ky_X4_copyFrom : KY yX4_copyFrom cX4_copyFrom 3 none 1 := ⟨⟨by decide +kernel, by decide +kernel, by decide +kernel⟩, tb_in (List.mem_of_getElem? (i := 278) (by decide +kernel)) rfl, tb_in (List.mem_of_getElem? (i := 65) (by decide +kernel)) rfl, by decide⟩
theorem ki_X4_copyFrom : Cond.instanceMethod yX4_copyFrom ∈ tb := tb_in (List.mem_of_getElem? (i := 276) (by decide +kernel)) rfl
theorem ks2_X4_copyFrom : Cond.selects yX4_copyFrom.cls yX4_copyFrom yX4_copyFrom ∈ tb := tb_in (List.mem_of_getElem? (i := 277) (by decide +kernel)) rfl
theorem ky_X4_begin : KY yX4_begin cX4_begin 3 none 2 := ⟨⟨by decide +kernel, by decide +kernel, by decide +kernel⟩, tb_in (List.mem_of_getElem? (i := 308) (by decide +kernel)) rfl, tb_in (List.mem_of_getElem? (i := 65) (by decide +kernel)) rfl, by decide⟩
theorem ki_X4_begin : Cond.instanceMethod yX4_begin ∈ tb := tb_in (List.mem_of_getElem? (i := 306) (by decide +kernel)) rfl
theorem ks2_X4_begin : Cond.selects yX4_begin.cls yX4_begin yX4_begin ∈ tb := tb_in (List.mem_of_getElem? (i := 307) (by decide +kernel)) rfl
theorem ky_X4_add : KY yX4_add cX4_add 3 none 2 := ⟨⟨by decide +kernel, by decide +kernel, by decide +kernel⟩, tb_in (List.mem_of_getElem? (i := 491) (by decide +kernel)) rfl, tb_in (List.mem_of_getElem? (i := 65) (by decide +kernel)) rfl, by decide⟩
theorem ki_X4_add : Cond.instanceMethod yX4_add ∈ tb := tb_in (List.mem_of_getElem? (i := 489) (by decide +kernel)) rfl
theorem ks2_X4_add : Cond.selects yX4_add.cls yX4_add yX4_add ∈ tb := tb_in (List.mem_of_getElem? (i := 490) (by decide +kernel)) rfl
theorem ky_X4_lastPlace : KY yX4_lastPlace cX4_lastPlace 1 (some .int) 0 := ⟨⟨by decide +kernel, by decide +kernel, by decide +kernel⟩, tb_in (List.mem_of_getElem? (i := 320) (by decide +kernel)) rfl, tb_in (List.mem_of_getElem? (i := 65) (by decide +kernel)) rfl, by decide⟩
theorem ki_X4_lastPlace : Cond.instanceMethod yX4_lastPlace ∈ tb := tb_in (List.mem_of_getElem? (i := 318) (by decide +kernel)) rfl
theorem ks2_X4_lastPlace : Cond.selects yX4_lastPlace.cls yX4_lastPlace yX4_lastPlace ∈ tb := tb_in (List.mem_of_getElem? (i := 319) (by decide +kernel)) rfl
theorem ky_X4_placeAfter : KY yX4_placeAfter cX4_placeAfter 2 (some .int) 1 := ⟨⟨by decide +kernel, by decide +kernel, by decide +kernel⟩, tb_in (List.mem_of_getElem? (i := 618) (by decide +kernel)) rfl, tb_in (List.mem_of_getElem? (i := 65) (by decide +kernel)) rfl, by decide⟩
theorem ki_X4_placeAfter : Cond.instanceMethod yX4_placeAfter ∈ tb := tb_in (List.mem_of_getElem? (i := 616) (by decide +kernel)) rfl
theorem ks2_X4_placeAfter : Cond.selects yX4_placeAfter.cls yX4_placeAfter yX4_placeAfter ∈ tb := tb_in (List.mem_of_getElem? (i := 617) (by decide +kernel)) rfl
theorem ky_X4_dayAfter : KY yX4_dayAfter cX4_dayAfter 2 (some .int) 1 := ⟨⟨by decide +kernel, by decide +kernel, by decide +kernel⟩, tb_in (List.mem_of_getElem? (i := 645) (by decide +kernel)) rfl, tb_in (List.mem_of_getElem? (i := 65) (by decide +kernel)) rfl, by decide⟩
theorem ki_X4_dayAfter : Cond.instanceMethod yX4_dayAfter ∈ tb := tb_in (List.mem_of_getElem? (i := 643) (by decide +kernel)) rfl
theorem ks2_X4_dayAfter : Cond.selects yX4_dayAfter.cls yX4_dayAfter yX4_dayAfter ∈ tb := tb_in (List.mem_of_getElem? (i := 644) (by decide +kernel)) rfl
theorem ky_X4_daysIn : KY yX4_daysIn cX4_daysIn 8 (some .int) 3 := ⟨⟨by decide +kernel, by decide +kernel, by decide +kernel⟩, tb_in (List.mem_of_getElem? (i := 401) (by decide +kernel)) rfl, tb_in (List.mem_of_getElem? (i := 65) (by decide +kernel)) rfl, by decide⟩
theorem ki_X4_daysIn : Cond.instanceMethod yX4_daysIn ∈ tb := tb_in (List.mem_of_getElem? (i := 399) (by decide +kernel)) rfl
theorem ks2_X4_daysIn : Cond.selects yX4_daysIn.cls yX4_daysIn yX4_daysIn ∈ tb := tb_in (List.mem_of_getElem? (i := 400) (by decide +kernel)) rfl
theorem ky_X5_init : KY yX5_init cX5_init 5 none 4 := ⟨⟨by decide +kernel, by decide +kernel, by decide +kernel⟩, tb_in (List.mem_of_getElem? (i := 367) (by decide +kernel)) rfl, tb_in (List.mem_of_getElem? (i := 71) (by decide +kernel)) rfl, by decide⟩
theorem ki_X5_init : Cond.instanceMethod yX5_init ∈ tb := tb_in (List.mem_of_getElem? (i := 366) (by decide +kernel)) rfl
theorem ky_X5_isValidOn : KY yX5_isValidOn cX5_isValidOn 2 (some .boolean) 1 := ⟨⟨by decide +kernel, by decide +kernel, by decide +kernel⟩, tb_in (List.mem_of_getElem? (i := 468) (by decide +kernel)) rfl, tb_in (List.mem_of_getElem? (i := 71) (by decide +kernel)) rfl, by decide⟩
theorem ki_X5_isValidOn : Cond.instanceMethod yX5_isValidOn ∈ tb := tb_in (List.mem_of_getElem? (i := 466) (by decide +kernel)) rfl
theorem ks2_X5_isValidOn : Cond.selects yX5_isValidOn.cls yX5_isValidOn yX5_isValidOn ∈ tb := tb_in (List.mem_of_getElem? (i := 467) (by decide +kernel)) rfl
theorem ky_X6_init : KY yX6_init cX6_init 2 none 0 := ⟨⟨by decide +kernel, by decide +kernel, by decide +kernel⟩, tb_in (List.mem_of_getElem? (i := 78) (by decide +kernel)) rfl, tb_in (List.mem_of_getElem? (i := 62) (by decide +kernel)) rfl, by decide⟩
theorem ki_X6_init : Cond.instanceMethod yX6_init ∈ tb := tb_in (List.mem_of_getElem? (i := 77) (by decide +kernel)) rfl
theorem ky_X6_issue : KY yX6_issue cX6_issue 2 (some .int) 1 := ⟨⟨by decide +kernel, by decide +kernel, by decide +kernel⟩, tb_in (List.mem_of_getElem? (i := 266) (by decide +kernel)) rfl, tb_in (List.mem_of_getElem? (i := 62) (by decide +kernel)) rfl, by decide⟩
theorem ki_X6_issue : Cond.instanceMethod yX6_issue ∈ tb := tb_in (List.mem_of_getElem? (i := 264) (by decide +kernel)) rfl
theorem ks2_X6_issue : Cond.selects yX6_issue.cls yX6_issue yX6_issue ∈ tb := tb_in (List.mem_of_getElem? (i := 265) (by decide +kernel)) rfl
theorem ky_X6_renew : KY yX6_renew cX6_renew 2 (some .int) 1 := ⟨⟨by decide +kernel, by decide +kernel, by decide +kernel⟩, tb_in (List.mem_of_getElem? (i := 337) (by decide +kernel)) rfl, tb_in (List.mem_of_getElem? (i := 62) (by decide +kernel)) rfl, by decide⟩
theorem ki_X6_renew : Cond.instanceMethod yX6_renew ∈ tb := tb_in (List.mem_of_getElem? (i := 335) (by decide +kernel)) rfl
theorem ks2_X6_renew : Cond.selects yX6_renew.cls yX6_renew yX6_renew ∈ tb := tb_in (List.mem_of_getElem? (i := 336) (by decide +kernel)) rfl
theorem ky_X6_grant : KY yX6_grant cX6_grant 6 (some .int) 5 := ⟨⟨by decide +kernel, by decide +kernel, by decide +kernel⟩, tb_in (List.mem_of_getElem? (i := 355) (by decide +kernel)) rfl, tb_in (List.mem_of_getElem? (i := 62) (by decide +kernel)) rfl, by decide⟩
theorem ki_X6_grant : Cond.instanceMethod yX6_grant ∈ tb := tb_in (List.mem_of_getElem? (i := 353) (by decide +kernel)) rfl
theorem ks2_X6_grant : Cond.selects yX6_grant.cls yX6_grant yX6_grant ∈ tb := tb_in (List.mem_of_getElem? (i := 354) (by decide +kernel)) rfl
theorem ky_X6_revoke : KY yX6_revoke cX6_revoke 3 (some .int) 2 := ⟨⟨by decide +kernel, by decide +kernel, by decide +kernel⟩, tb_in (List.mem_of_getElem? (i := 405) (by decide +kernel)) rfl, tb_in (List.mem_of_getElem? (i := 62) (by decide +kernel)) rfl, by decide⟩
theorem ki_X6_revoke : Cond.instanceMethod yX6_revoke ∈ tb := tb_in (List.mem_of_getElem? (i := 403) (by decide +kernel)) rfl
theorem ks2_X6_revoke : Cond.selects yX6_revoke.cls yX6_revoke yX6_revoke ∈ tb := tb_in (List.mem_of_getElem? (i := 404) (by decide +kernel)) rfl
theorem ky_X6_turnBorder : KY yX6_turnBorder cX6_turnBorder 3 (some .int) 2 := ⟨⟨by decide +kernel, by decide +kernel, by decide +kernel⟩, tb_in (List.mem_of_getElem? (i := 417) (by decide +kernel)) rfl, tb_in (List.mem_of_getElem? (i := 62) (by decide +kernel)) rfl, by decide⟩
theorem ki_X6_turnBorder : Cond.instanceMethod yX6_turnBorder ∈ tb := tb_in (List.mem_of_getElem? (i := 415) (by decide +kernel)) rfl
theorem ks2_X6_turnBorder : Cond.selects yX6_turnBorder.cls yX6_turnBorder yX6_turnBorder ∈ tb := tb_in (List.mem_of_getElem? (i := 416) (by decide +kernel)) rfl
theorem ky_X6_cross : KY yX6_cross cX6_cross 4 (some .int) 3 := ⟨⟨by decide +kernel, by decide +kernel, by decide +kernel⟩, tb_in (List.mem_of_getElem? (i := 440) (by decide +kernel)) rfl, tb_in (List.mem_of_getElem? (i := 62) (by decide +kernel)) rfl, by decide⟩
theorem ki_X6_cross : Cond.instanceMethod yX6_cross ∈ tb := tb_in (List.mem_of_getElem? (i := 438) (by decide +kernel)) rfl
theorem ks2_X6_cross : Cond.selects yX6_cross.cls yX6_cross yX6_cross ∈ tb := tb_in (List.mem_of_getElem? (i := 439) (by decide +kernel)) rfl
theorem ky_X6_pass : KY yX6_pass cX6_pass 2 (some .int) 1 := ⟨⟨by decide +kernel, by decide +kernel, by decide +kernel⟩, tb_in (List.mem_of_getElem? (i := 500) (by decide +kernel)) rfl, tb_in (List.mem_of_getElem? (i := 62) (by decide +kernel)) rfl, by decide⟩
theorem ki_X6_pass : Cond.instanceMethod yX6_pass ∈ tb := tb_in (List.mem_of_getElem? (i := 498) (by decide +kernel)) rfl
theorem ks2_X6_pass : Cond.selects yX6_pass.cls yX6_pass yX6_pass ∈ tb := tb_in (List.mem_of_getElem? (i := 499) (by decide +kernel)) rfl
theorem ky_X6_type : KY yX6_type cX6_type 2 (some .int) 1 := ⟨⟨by decide +kernel, by decide +kernel, by decide +kernel⟩, tb_in (List.mem_of_getElem? (i := 512) (by decide +kernel)) rfl, tb_in (List.mem_of_getElem? (i := 62) (by decide +kernel)) rfl, by decide⟩
theorem ki_X6_type : Cond.instanceMethod yX6_type ∈ tb := tb_in (List.mem_of_getElem? (i := 510) (by decide +kernel)) rfl
theorem ks2_X6_type : Cond.selects yX6_type.cls yX6_type yX6_type ∈ tb := tb_in (List.mem_of_getElem? (i := 511) (by decide +kernel)) rfl
theorem ky_X6_clearText : KY yX6_clearText cX6_clearText 1 (some .int) 0 := ⟨⟨by decide +kernel, by decide +kernel, by decide +kernel⟩, tb_in (List.mem_of_getElem? (i := 520) (by decide +kernel)) rfl, tb_in (List.mem_of_getElem? (i := 62) (by decide +kernel)) rfl, by decide⟩
theorem ki_X6_clearText : Cond.instanceMethod yX6_clearText ∈ tb := tb_in (List.mem_of_getElem? (i := 518) (by decide +kernel)) rfl
theorem ks2_X6_clearText : Cond.selects yX6_clearText.cls yX6_clearText yX6_clearText ∈ tb := tb_in (List.mem_of_getElem? (i := 519) (by decide +kernel)) rfl
theorem ky_X6_perform : KY yX6_perform cX6_perform 5 (some .int) 0 := ⟨⟨by decide +kernel, by decide +kernel, by decide +kernel⟩, tb_in (List.mem_of_getElem? (i := 528) (by decide +kernel)) rfl, tb_in (List.mem_of_getElem? (i := 62) (by decide +kernel)) rfl, by decide⟩
theorem ki_X6_perform : Cond.instanceMethod yX6_perform ∈ tb := tb_in (List.mem_of_getElem? (i := 526) (by decide +kernel)) rfl
theorem ks2_X6_perform : Cond.selects yX6_perform.cls yX6_perform yX6_perform ∈ tb := tb_in (List.mem_of_getElem? (i := 527) (by decide +kernel)) rfl
theorem ky_X6_stopped : KY yX6_stopped cX6_stopped 2 (some .int) 1 := ⟨⟨by decide +kernel, by decide +kernel, by decide +kernel⟩, tb_in (List.mem_of_getElem? (i := 579) (by decide +kernel)) rfl, tb_in (List.mem_of_getElem? (i := 62) (by decide +kernel)) rfl, by decide⟩
theorem ki_X6_stopped : Cond.instanceMethod yX6_stopped ∈ tb := tb_in (List.mem_of_getElem? (i := 577) (by decide +kernel)) rfl
theorem ks2_X6_stopped : Cond.selects yX6_stopped.cls yX6_stopped yX6_stopped ∈ tb := tb_in (List.mem_of_getElem? (i := 578) (by decide +kernel)) rfl
theorem ky_X6_undo : KY yX6_undo cX6_undo 1 (some .int) 0 := ⟨⟨by decide +kernel, by decide +kernel, by decide +kernel⟩, tb_in (List.mem_of_getElem? (i := 583) (by decide +kernel)) rfl, tb_in (List.mem_of_getElem? (i := 62) (by decide +kernel)) rfl, by decide⟩
theorem ki_X6_undo : Cond.instanceMethod yX6_undo ∈ tb := tb_in (List.mem_of_getElem? (i := 581) (by decide +kernel)) rfl
theorem ks2_X6_undo : Cond.selects yX6_undo.cls yX6_undo yX6_undo ∈ tb := tb_in (List.mem_of_getElem? (i := 582) (by decide +kernel)) rfl
theorem ky_X6_keep : KY yX6_keep cX6_keep 1 (some .int) 0 := ⟨⟨by decide +kernel, by decide +kernel, by decide +kernel⟩, tb_in (List.mem_of_getElem? (i := 587) (by decide +kernel)) rfl, tb_in (List.mem_of_getElem? (i := 62) (by decide +kernel)) rfl, by decide⟩
theorem ki_X6_keep : Cond.instanceMethod yX6_keep ∈ tb := tb_in (List.mem_of_getElem? (i := 585) (by decide +kernel)) rfl
theorem ks2_X6_keep : Cond.selects yX6_keep.cls yX6_keep yX6_keep ∈ tb := tb_in (List.mem_of_getElem? (i := 586) (by decide +kernel)) rfl
theorem ky_X6_restore : KY yX6_restore cX6_restore 1 (some .int) 0 := ⟨⟨by decide +kernel, by decide +kernel, by decide +kernel⟩, tb_in (List.mem_of_getElem? (i := 591) (by decide +kernel)) rfl, tb_in (List.mem_of_getElem? (i := 62) (by decide +kernel)) rfl, by decide⟩
theorem ki_X6_restore : Cond.instanceMethod yX6_restore ∈ tb := tb_in (List.mem_of_getElem? (i := 589) (by decide +kernel)) rfl
theorem ks2_X6_restore : Cond.selects yX6_restore.cls yX6_restore yX6_restore ∈ tb := tb_in (List.mem_of_getElem? (i := 590) (by decide +kernel)) rfl
theorem ky_X6_passport : KY yX6_passport cX6_passport 4 (some .int) 2 := ⟨⟨by decide +kernel, by decide +kernel, by decide +kernel⟩, tb_in (List.mem_of_getElem? (i := 595) (by decide +kernel)) rfl, tb_in (List.mem_of_getElem? (i := 62) (by decide +kernel)) rfl, by decide⟩
theorem ki_X6_passport : Cond.instanceMethod yX6_passport ∈ tb := tb_in (List.mem_of_getElem? (i := 593) (by decide +kernel)) rfl
theorem ks2_X6_passport : Cond.selects yX6_passport.cls yX6_passport yX6_passport ∈ tb := tb_in (List.mem_of_getElem? (i := 594) (by decide +kernel)) rfl
theorem ky_X6_stamp : KY yX6_stamp cX6_stamp 6 (some .int) 3 := ⟨⟨by decide +kernel, by decide +kernel, by decide +kernel⟩, tb_in (List.mem_of_getElem? (i := 636) (by decide +kernel)) rfl, tb_in (List.mem_of_getElem? (i := 62) (by decide +kernel)) rfl, by decide⟩
theorem ki_X6_stamp : Cond.instanceMethod yX6_stamp ∈ tb := tb_in (List.mem_of_getElem? (i := 634) (by decide +kernel)) rfl
theorem ks2_X6_stamp : Cond.selects yX6_stamp.cls yX6_stamp yX6_stamp ∈ tb := tb_in (List.mem_of_getElem? (i := 635) (by decide +kernel)) rfl
theorem ky_X6_visa : KY yX6_visa cX6_visa 6 (some .int) 3 := ⟨⟨by decide +kernel, by decide +kernel, by decide +kernel⟩, tb_in (List.mem_of_getElem? (i := 652) (by decide +kernel)) rfl, tb_in (List.mem_of_getElem? (i := 62) (by decide +kernel)) rfl, by decide⟩
theorem ki_X6_visa : Cond.instanceMethod yX6_visa ∈ tb := tb_in (List.mem_of_getElem? (i := 650) (by decide +kernel)) rfl
theorem ks2_X6_visa : Cond.selects yX6_visa.cls yX6_visa yX6_visa ∈ tb := tb_in (List.mem_of_getElem? (i := 651) (by decide +kernel)) rfl
theorem ky_X6_reason : KY yX6_reason cX6_reason 4 (some .int) 2 := ⟨⟨by decide +kernel, by decide +kernel, by decide +kernel⟩, tb_in (List.mem_of_getElem? (i := 660) (by decide +kernel)) rfl, tb_in (List.mem_of_getElem? (i := 62) (by decide +kernel)) rfl, by decide⟩
theorem ki_X6_reason : Cond.instanceMethod yX6_reason ∈ tb := tb_in (List.mem_of_getElem? (i := 658) (by decide +kernel)) rfl
theorem ks2_X6_reason : Cond.selects yX6_reason.cls yX6_reason yX6_reason ∈ tb := tb_in (List.mem_of_getElem? (i := 659) (by decide +kernel)) rfl
theorem ky_X6_stay : KY yX6_stay cX6_stay 8 (some .int) 5 := ⟨⟨by decide +kernel, by decide +kernel, by decide +kernel⟩, tb_in (List.mem_of_getElem? (i := 665) (by decide +kernel)) rfl, tb_in (List.mem_of_getElem? (i := 62) (by decide +kernel)) rfl, by decide⟩
theorem ki_X6_stay : Cond.instanceMethod yX6_stay ∈ tb := tb_in (List.mem_of_getElem? (i := 663) (by decide +kernel)) rfl
theorem ks2_X6_stay : Cond.selects yX6_stay.cls yX6_stay yX6_stay ∈ tb := tb_in (List.mem_of_getElem? (i := 664) (by decide +kernel)) rfl
theorem ky_X6_wayTo : KY yX6_wayTo cX6_wayTo 4 (some .int) 2 := ⟨⟨by decide +kernel, by decide +kernel, by decide +kernel⟩, tb_in (List.mem_of_getElem? (i := 672) (by decide +kernel)) rfl, tb_in (List.mem_of_getElem? (i := 62) (by decide +kernel)) rfl, by decide⟩
theorem ki_X6_wayTo : Cond.instanceMethod yX6_wayTo ∈ tb := tb_in (List.mem_of_getElem? (i := 670) (by decide +kernel)) rfl
theorem ks2_X6_wayTo : Cond.selects yX6_wayTo.cls yX6_wayTo yX6_wayTo ∈ tb := tb_in (List.mem_of_getElem? (i := 671) (by decide +kernel)) rfl
theorem ky_X6_daysLeft : KY yX6_daysLeft cX6_daysLeft 7 (some .int) 2 := ⟨⟨by decide +kernel, by decide +kernel, by decide +kernel⟩, tb_in (List.mem_of_getElem? (i := 688) (by decide +kernel)) rfl, tb_in (List.mem_of_getElem? (i := 62) (by decide +kernel)) rfl, by decide⟩
theorem ki_X6_daysLeft : Cond.instanceMethod yX6_daysLeft ∈ tb := tb_in (List.mem_of_getElem? (i := 686) (by decide +kernel)) rfl
theorem ks2_X6_daysLeft : Cond.selects yX6_daysLeft.cls yX6_daysLeft yX6_daysLeft ∈ tb := tb_in (List.mem_of_getElem? (i := 687) (by decide +kernel)) rfl
theorem ky_X6_mistold : KY yX6_mistold cX6_mistold 4 (some .int) 0 := ⟨⟨by decide +kernel, by decide +kernel, by decide +kernel⟩, tb_in (List.mem_of_getElem? (i := 693) (by decide +kernel)) rfl, tb_in (List.mem_of_getElem? (i := 62) (by decide +kernel)) rfl, by decide⟩
theorem ki_X6_mistold : Cond.instanceMethod yX6_mistold ∈ tb := tb_in (List.mem_of_getElem? (i := 691) (by decide +kernel)) rfl
theorem ks2_X6_mistold : Cond.selects yX6_mistold.cls yX6_mistold yX6_mistold ∈ tb := tb_in (List.mem_of_getElem? (i := 692) (by decide +kernel)) rfl
theorem ky_X6_holders : KY yX6_holders cX6_holders 7 (some .int) 2 := ⟨⟨by decide +kernel, by decide +kernel, by decide +kernel⟩, tb_in (List.mem_of_getElem? (i := 697) (by decide +kernel)) rfl, tb_in (List.mem_of_getElem? (i := 62) (by decide +kernel)) rfl, by decide⟩
theorem ki_X6_holders : Cond.instanceMethod yX6_holders ∈ tb := tb_in (List.mem_of_getElem? (i := 695) (by decide +kernel)) rfl
theorem ks2_X6_holders : Cond.selects yX6_holders.cls yX6_holders yX6_holders ∈ tb := tb_in (List.mem_of_getElem? (i := 696) (by decide +kernel)) rfl
theorem ky_X6_count : KY yX6_count cX6_count 2 (some .int) 1 := ⟨⟨by decide +kernel, by decide +kernel, by decide +kernel⟩, tb_in (List.mem_of_getElem? (i := 701) (by decide +kernel)) rfl, tb_in (List.mem_of_getElem? (i := 62) (by decide +kernel)) rfl, by decide⟩
theorem ki_X6_count : Cond.instanceMethod yX6_count ∈ tb := tb_in (List.mem_of_getElem? (i := 699) (by decide +kernel)) rfl
theorem ks2_X6_count : Cond.selects yX6_count.cls yX6_count yX6_count ∈ tb := tb_in (List.mem_of_getElem? (i := 700) (by decide +kernel)) rfl
theorem ky_X6_sumOverHolders : KY yX6_sumOverHolders cX6_sumOverHolders 5 (some .int) 1 := ⟨⟨by decide +kernel, by decide +kernel, by decide +kernel⟩, tb_in (List.mem_of_getElem? (i := 706) (by decide +kernel)) rfl, tb_in (List.mem_of_getElem? (i := 62) (by decide +kernel)) rfl, by decide⟩
theorem ki_X6_sumOverHolders : Cond.instanceMethod yX6_sumOverHolders ∈ tb := tb_in (List.mem_of_getElem? (i := 705) (by decide +kernel)) rfl
theorem ks2_X6_sumOverHolders : Cond.selects yX6_sumOverHolders.cls yX6_sumOverHolders yX6_sumOverHolders ∈ tb := tb_in (List.mem_of_getElem? (i := 15) (by decide +kernel)) rfl
theorem ky_X6_doNextThing : KY yX6_doNextThing cX6_doNextThing 1 (some .int) 0 := ⟨⟨by decide +kernel, by decide +kernel, by decide +kernel⟩, tb_in (List.mem_of_getElem? (i := 574) (by decide +kernel)) rfl, tb_in (List.mem_of_getElem? (i := 62) (by decide +kernel)) rfl, by decide⟩
theorem ki_X6_doNextThing : Cond.instanceMethod yX6_doNextThing ∈ tb := tb_in (List.mem_of_getElem? (i := 573) (by decide +kernel)) rfl
theorem ks2_X6_doNextThing : Cond.selects yX6_doNextThing.cls yX6_doNextThing yX6_doNextThing ∈ tb := tb_in (List.mem_of_getElem? (i := 12) (by decide +kernel)) rfl
theorem ky_X6_recorded : KY yX6_recorded cX6_recorded 3 (some .int) 1 := ⟨⟨by decide +kernel, by decide +kernel, by decide +kernel⟩, tb_in (List.mem_of_getElem? (i := 329) (by decide +kernel)) rfl, tb_in (List.mem_of_getElem? (i := 62) (by decide +kernel)) rfl, by decide⟩
theorem ki_X6_recorded : Cond.instanceMethod yX6_recorded ∈ tb := tb_in (List.mem_of_getElem? (i := 328) (by decide +kernel)) rfl
theorem ks2_X6_recorded : Cond.selects yX6_recorded.cls yX6_recorded yX6_recorded ∈ tb := tb_in (List.mem_of_getElem? (i := 0) (by decide +kernel)) rfl
theorem ky_X6_dropOldest : KY yX6_dropOldest cX6_dropOldest 3 none 0 := ⟨⟨by decide +kernel, by decide +kernel, by decide +kernel⟩, tb_in (List.mem_of_getElem? (i := 333) (by decide +kernel)) rfl, tb_in (List.mem_of_getElem? (i := 62) (by decide +kernel)) rfl, by decide⟩
theorem ki_X6_dropOldest : Cond.instanceMethod yX6_dropOldest ∈ tb := tb_in (List.mem_of_getElem? (i := 332) (by decide +kernel)) rfl
theorem ks2_X6_dropOldest : Cond.selects yX6_dropOldest.cls yX6_dropOldest yX6_dropOldest ∈ tb := tb_in (List.mem_of_getElem? (i := 1) (by decide +kernel)) rfl
theorem ky_X6_isWithin : KY yX6_isWithin cX6_isWithin 3 (some .boolean) 3 := ⟨⟨by decide +kernel, by decide +kernel, by decide +kernel⟩, tb_in (List.mem_of_getElem? (i := 300) (by decide +kernel)) rfl, tb_in (List.mem_of_getElem? (i := 62) (by decide +kernel)) rfl, by decide⟩
theorem ks_X6_isWithin : Cond.static yX6_isWithin ∈ tb := tb_in (List.mem_of_getElem? (i := 299) (by decide +kernel)) rfl
theorem ky_X6_isCountry : KY yX6_isCountry cX6_isCountry 1 (some .boolean) 1 := ⟨⟨by decide +kernel, by decide +kernel, by decide +kernel⟩, tb_in (List.mem_of_getElem? (i := 297) (by decide +kernel)) rfl, tb_in (List.mem_of_getElem? (i := 62) (by decide +kernel)) rfl, by decide⟩
theorem ks_X6_isCountry : Cond.static yX6_isCountry ∈ tb := tb_in (List.mem_of_getElem? (i := 296) (by decide +kernel)) rfl
theorem ky_X6_isSpan : KY yX6_isSpan cX6_isSpan 2 (some .boolean) 2 := ⟨⟨by decide +kernel, by decide +kernel, by decide +kernel⟩, tb_in (List.mem_of_getElem? (i := 362) (by decide +kernel)) rfl, tb_in (List.mem_of_getElem? (i := 62) (by decide +kernel)) rfl, by decide⟩
theorem ks_X6_isSpan : Cond.static yX6_isSpan ∈ tb := tb_in (List.mem_of_getElem? (i := 361) (by decide +kernel)) rfl
theorem ky_X7_init : KY yX7_init cX7_init 1 none 0 := ⟨⟨by decide +kernel, by decide +kernel, by decide +kernel⟩, tb_in (List.mem_of_getElem? (i := 716) (by decide +kernel)) rfl, tb_in (List.mem_of_getElem? (i := 69) (by decide +kernel)) rfl, by decide⟩
theorem ki_X7_init : Cond.instanceMethod yX7_init ∈ tb := tb_in (List.mem_of_getElem? (i := 715) (by decide +kernel)) rfl
theorem ky_X7_in : KY yX7_in cX7_in 3 (some .boolean) 3 := ⟨⟨by decide +kernel, by decide +kernel, by decide +kernel⟩, tb_in (List.mem_of_getElem? (i := 785) (by decide +kernel)) rfl, tb_in (List.mem_of_getElem? (i := 69) (by decide +kernel)) rfl, by decide⟩
theorem ks_X7_in : Cond.static yX7_in ∈ tb := tb_in (List.mem_of_getElem? (i := 784) (by decide +kernel)) rfl
theorem ky_X7_isCountry : KY yX7_isCountry cX7_isCountry 1 (some .boolean) 1 := ⟨⟨by decide +kernel, by decide +kernel, by decide +kernel⟩, tb_in (List.mem_of_getElem? (i := 782) (by decide +kernel)) rfl, tb_in (List.mem_of_getElem? (i := 69) (by decide +kernel)) rfl, by decide⟩
theorem ks_X7_isCountry : Cond.static yX7_isCountry ∈ tb := tb_in (List.mem_of_getElem? (i := 781) (by decide +kernel)) rfl
theorem ky_X7_isPassport : KY yX7_isPassport cX7_isPassport 2 (some .boolean) 1 := ⟨⟨by decide +kernel, by decide +kernel, by decide +kernel⟩, tb_in (List.mem_of_getElem? (i := 804) (by decide +kernel)) rfl, tb_in (List.mem_of_getElem? (i := 69) (by decide +kernel)) rfl, by decide⟩
theorem ki_X7_isPassport : Cond.instanceMethod yX7_isPassport ∈ tb := tb_in (List.mem_of_getElem? (i := 803) (by decide +kernel)) rfl
theorem ks2_X7_isPassport : Cond.selects yX7_isPassport.cls yX7_isPassport yX7_isPassport ∈ tb := tb_in (List.mem_of_getElem? (i := 18) (by decide +kernel)) rfl
theorem ky_X7_areThere : KY yX7_areThere cX7_areThere 3 (some .boolean) 2 := ⟨⟨by decide +kernel, by decide +kernel, by decide +kernel⟩, tb_in (List.mem_of_getElem? (i := 820) (by decide +kernel)) rfl, tb_in (List.mem_of_getElem? (i := 69) (by decide +kernel)) rfl, by decide⟩
theorem ki_X7_areThere : Cond.instanceMethod yX7_areThere ∈ tb := tb_in (List.mem_of_getElem? (i := 819) (by decide +kernel)) rfl
theorem ks2_X7_areThere : Cond.selects yX7_areThere.cls yX7_areThere yX7_areThere ∈ tb := tb_in (List.mem_of_getElem? (i := 21) (by decide +kernel)) rfl
theorem ky_X7_isSpan : KY yX7_isSpan cX7_isSpan 2 (some .boolean) 2 := ⟨⟨by decide +kernel, by decide +kernel, by decide +kernel⟩, tb_in (List.mem_of_getElem? (i := 823) (by decide +kernel)) rfl, tb_in (List.mem_of_getElem? (i := 69) (by decide +kernel)) rfl, by decide⟩
theorem ks_X7_isSpan : Cond.static yX7_isSpan ∈ tb := tb_in (List.mem_of_getElem? (i := 822) (by decide +kernel)) rfl
theorem ky_X7_of : KY yX7_of cX7_of 2 (some .int) 2 := ⟨⟨by decide +kernel, by decide +kernel, by decide +kernel⟩, tb_in (List.mem_of_getElem? (i := 792) (by decide +kernel)) rfl, tb_in (List.mem_of_getElem? (i := 69) (by decide +kernel)) rfl, by decide⟩
theorem ks_X7_of : Cond.static yX7_of ∈ tb := tb_in (List.mem_of_getElem? (i := 791) (by decide +kernel)) rfl
theorem ky_X7_get : KY yX7_get cX7_get 3 (some .int) 2 := ⟨⟨by decide +kernel, by decide +kernel, by decide +kernel⟩, tb_in (List.mem_of_getElem? (i := 808) (by decide +kernel)) rfl, tb_in (List.mem_of_getElem? (i := 69) (by decide +kernel)) rfl, by decide⟩
theorem ki_X7_get : Cond.instanceMethod yX7_get ∈ tb := tb_in (List.mem_of_getElem? (i := 807) (by decide +kernel)) rfl
theorem ks2_X7_get : Cond.selects yX7_get.cls yX7_get yX7_get ∈ tb := tb_in (List.mem_of_getElem? (i := 19) (by decide +kernel)) rfl
theorem ky_X7_record : KY yX7_record cX7_record 2 none 0 := ⟨⟨by decide +kernel, by decide +kernel, by decide +kernel⟩, tb_in (List.mem_of_getElem? (i := 789) (by decide +kernel)) rfl, tb_in (List.mem_of_getElem? (i := 69) (by decide +kernel)) rfl, by decide⟩
theorem ki_X7_record : Cond.instanceMethod yX7_record ∈ tb := tb_in (List.mem_of_getElem? (i := 788) (by decide +kernel)) rfl
theorem ks2_X7_record : Cond.selects yX7_record.cls yX7_record yX7_record ∈ tb := tb_in (List.mem_of_getElem? (i := 16) (by decide +kernel)) rfl
theorem ky_X7_exchanges : KY yX7_exchanges cX7_exchanges 3 none 0 := ⟨⟨by decide +kernel, by decide +kernel, by decide +kernel⟩, tb_in (List.mem_of_getElem? (i := 982) (by decide +kernel)) rfl, tb_in (List.mem_of_getElem? (i := 69) (by decide +kernel)) rfl, by decide⟩
theorem ki_X7_exchanges : Cond.instanceMethod yX7_exchanges ∈ tb := tb_in (List.mem_of_getElem? (i := 981) (by decide +kernel)) rfl
theorem ks2_X7_exchanges : Cond.selects yX7_exchanges.cls yX7_exchanges yX7_exchanges ∈ tb := tb_in (List.mem_of_getElem? (i := 53) (by decide +kernel)) rfl
theorem ky_X7_dayOf : KY yX7_dayOf cX7_dayOf 3 (some .int) 2 := ⟨⟨by decide +kernel, by decide +kernel, by decide +kernel⟩, tb_in (List.mem_of_getElem? (i := 851) (by decide +kernel)) rfl, tb_in (List.mem_of_getElem? (i := 69) (by decide +kernel)) rfl, by decide⟩
theorem ki_X7_dayOf : Cond.instanceMethod yX7_dayOf ∈ tb := tb_in (List.mem_of_getElem? (i := 850) (by decide +kernel)) rfl
theorem ks2_X7_dayOf : Cond.selects yX7_dayOf.cls yX7_dayOf yX7_dayOf ∈ tb := tb_in (List.mem_of_getElem? (i := 28) (by decide +kernel)) rfl
theorem ky_X7_countryOf : KY yX7_countryOf cX7_countryOf 3 (some .int) 2 := ⟨⟨by decide +kernel, by decide +kernel, by decide +kernel⟩, tb_in (List.mem_of_getElem? (i := 863) (by decide +kernel)) rfl, tb_in (List.mem_of_getElem? (i := 69) (by decide +kernel)) rfl, by decide⟩
theorem ki_X7_countryOf : Cond.instanceMethod yX7_countryOf ∈ tb := tb_in (List.mem_of_getElem? (i := 862) (by decide +kernel)) rfl
theorem ks2_X7_countryOf : Cond.selects yX7_countryOf.cls yX7_countryOf yX7_countryOf ∈ tb := tb_in (List.mem_of_getElem? (i := 31) (by decide +kernel)) rfl
theorem ky_X7_isEntry : KY yX7_isEntry cX7_isEntry 3 (some .boolean) 2 := ⟨⟨by decide +kernel, by decide +kernel, by decide +kernel⟩, tb_in (List.mem_of_getElem? (i := 859) (by decide +kernel)) rfl, tb_in (List.mem_of_getElem? (i := 69) (by decide +kernel)) rfl, by decide⟩
theorem ki_X7_isEntry : Cond.instanceMethod yX7_isEntry ∈ tb := tb_in (List.mem_of_getElem? (i := 858) (by decide +kernel)) rfl
theorem ks2_X7_isEntry : Cond.selects yX7_isEntry.cls yX7_isEntry yX7_isEntry ∈ tb := tb_in (List.mem_of_getElem? (i := 30) (by decide +kernel)) rfl
theorem ky_X7_toldBy : KY yX7_toldBy cX7_toldBy 3 (some .int) 2 := ⟨⟨by decide +kernel, by decide +kernel, by decide +kernel⟩, tb_in (List.mem_of_getElem? (i := 855) (by decide +kernel)) rfl, tb_in (List.mem_of_getElem? (i := 69) (by decide +kernel)) rfl, by decide⟩
theorem ki_X7_toldBy : Cond.instanceMethod yX7_toldBy ∈ tb := tb_in (List.mem_of_getElem? (i := 854) (by decide +kernel)) rfl
theorem ks2_X7_toldBy : Cond.selects yX7_toldBy.cls yX7_toldBy yX7_toldBy ∈ tb := tb_in (List.mem_of_getElem? (i := 29) (by decide +kernel)) rfl
theorem ky_X7_isGap : KY yX7_isGap cX7_isGap 4 (some .boolean) 2 := ⟨⟨by decide +kernel, by decide +kernel, by decide +kernel⟩, tb_in (List.mem_of_getElem? (i := 1014) (by decide +kernel)) rfl, tb_in (List.mem_of_getElem? (i := 69) (by decide +kernel)) rfl, by decide⟩
theorem ki_X7_isGap : Cond.instanceMethod yX7_isGap ∈ tb := tb_in (List.mem_of_getElem? (i := 1013) (by decide +kernel)) rfl
theorem ks2_X7_isGap : Cond.selects yX7_isGap.cls yX7_isGap yX7_isGap ∈ tb := tb_in (List.mem_of_getElem? (i := 56) (by decide +kernel)) rfl
theorem ky_X7_gapsOf : KY yX7_gapsOf cX7_gapsOf 4 (some .int) 1 := ⟨⟨by decide +kernel, by decide +kernel, by decide +kernel⟩, tb_in (List.mem_of_getElem? (i := 1010) (by decide +kernel)) rfl, tb_in (List.mem_of_getElem? (i := 69) (by decide +kernel)) rfl, by decide⟩
theorem ki_X7_gapsOf : Cond.instanceMethod yX7_gapsOf ∈ tb := tb_in (List.mem_of_getElem? (i := 1009) (by decide +kernel)) rfl
theorem ks2_X7_gapsOf : Cond.selects yX7_gapsOf.cls yX7_gapsOf yX7_gapsOf ∈ tb := tb_in (List.mem_of_getElem? (i := 55) (by decide +kernel)) rfl
theorem ky_X7_toldOn : KY yX7_toldOn cX7_toldOn 4 (some .int) 2 := ⟨⟨by decide +kernel, by decide +kernel, by decide +kernel⟩, tb_in (List.mem_of_getElem? (i := 847) (by decide +kernel)) rfl, tb_in (List.mem_of_getElem? (i := 69) (by decide +kernel)) rfl, by decide⟩
theorem ki_X7_toldOn : Cond.instanceMethod yX7_toldOn ∈ tb := tb_in (List.mem_of_getElem? (i := 846) (by decide +kernel)) rfl
theorem ks2_X7_toldOn : Cond.selects yX7_toldOn.cls yX7_toldOn yX7_toldOn ∈ tb := tb_in (List.mem_of_getElem? (i := 27) (by decide +kernel)) rfl
theorem ky_X7_reallyOn : KY yX7_reallyOn cX7_reallyOn 4 (some .int) 2 := ⟨⟨by decide +kernel, by decide +kernel, by decide +kernel⟩, tb_in (List.mem_of_getElem? (i := 1038) (by decide +kernel)) rfl, tb_in (List.mem_of_getElem? (i := 69) (by decide +kernel)) rfl, by decide⟩
theorem ki_X7_reallyOn : Cond.instanceMethod yX7_reallyOn ∈ tb := tb_in (List.mem_of_getElem? (i := 1037) (by decide +kernel)) rfl
theorem ks2_X7_reallyOn : Cond.selects yX7_reallyOn.cls yX7_reallyOn yX7_reallyOn ∈ tb := tb_in (List.mem_of_getElem? (i := 58) (by decide +kernel)) rfl
theorem ky_X7_ofVisa : KY yX7_ofVisa cX7_ofVisa 4 (some .int) 3 := ⟨⟨by decide +kernel, by decide +kernel, by decide +kernel⟩, tb_in (List.mem_of_getElem? (i := 839) (by decide +kernel)) rfl, tb_in (List.mem_of_getElem? (i := 69) (by decide +kernel)) rfl, by decide⟩
theorem ki_X7_ofVisa : Cond.instanceMethod yX7_ofVisa ∈ tb := tb_in (List.mem_of_getElem? (i := 838) (by decide +kernel)) rfl
theorem ks2_X7_ofVisa : Cond.selects yX7_ofVisa.cls yX7_ofVisa yX7_ofVisa ∈ tb := tb_in (List.mem_of_getElem? (i := 25) (by decide +kernel)) rfl
theorem ky_X7_hasVisa : KY yX7_hasVisa cX7_hasVisa 3 (some .boolean) 2 := ⟨⟨by decide +kernel, by decide +kernel, by decide +kernel⟩, tb_in (List.mem_of_getElem? (i := 871) (by decide +kernel)) rfl, tb_in (List.mem_of_getElem? (i := 69) (by decide +kernel)) rfl, by decide⟩
theorem ki_X7_hasVisa : Cond.instanceMethod yX7_hasVisa ∈ tb := tb_in (List.mem_of_getElem? (i := 870) (by decide +kernel)) rfl
theorem ks2_X7_hasVisa : Cond.selects yX7_hasVisa.cls yX7_hasVisa yX7_hasVisa ∈ tb := tb_in (List.mem_of_getElem? (i := 32) (by decide +kernel)) rfl
theorem ky_X7_isValidOn : KY yX7_isValidOn cX7_isValidOn 4 (some .boolean) 3 := ⟨⟨by decide +kernel, by decide +kernel, by decide +kernel⟩, tb_in (List.mem_of_getElem? (i := 902) (by decide +kernel)) rfl, tb_in (List.mem_of_getElem? (i := 69) (by decide +kernel)) rfl, by decide⟩
theorem ki_X7_isValidOn : Cond.instanceMethod yX7_isValidOn ∈ tb := tb_in (List.mem_of_getElem? (i := 901) (by decide +kernel)) rfl
theorem ks2_X7_isValidOn : Cond.selects yX7_isValidOn.cls yX7_isValidOn yX7_isValidOn ∈ tb := tb_in (List.mem_of_getElem? (i := 37) (by decide +kernel)) rfl
theorem ky_X7_toldDays : KY yX7_toldDays cX7_toldDays 8 (some .int) 5 := ⟨⟨by decide +kernel, by decide +kernel, by decide +kernel⟩, tb_in (List.mem_of_getElem? (i := 843) (by decide +kernel)) rfl, tb_in (List.mem_of_getElem? (i := 69) (by decide +kernel)) rfl, by decide⟩
theorem ki_X7_toldDays : Cond.instanceMethod yX7_toldDays ∈ tb := tb_in (List.mem_of_getElem? (i := 842) (by decide +kernel)) rfl
theorem ks2_X7_toldDays : Cond.selects yX7_toldDays.cls yX7_toldDays yX7_toldDays ∈ tb := tb_in (List.mem_of_getElem? (i := 26) (by decide +kernel)) rfl
theorem ky_X7_usedAheadOf : KY yX7_usedAheadOf cX7_usedAheadOf 4 (some .int) 3 := ⟨⟨by decide +kernel, by decide +kernel, by decide +kernel⟩, tb_in (List.mem_of_getElem? (i := 835) (by decide +kernel)) rfl, tb_in (List.mem_of_getElem? (i := 69) (by decide +kernel)) rfl, by decide⟩
theorem ki_X7_usedAheadOf : Cond.instanceMethod yX7_usedAheadOf ∈ tb := tb_in (List.mem_of_getElem? (i := 834) (by decide +kernel)) rfl
theorem ks2_X7_usedAheadOf : Cond.selects yX7_usedAheadOf.cls yX7_usedAheadOf yX7_usedAheadOf ∈ tb := tb_in (List.mem_of_getElem? (i := 24) (by decide +kernel)) rfl
theorem ky_X7_used : KY yX7_used cX7_used 3 (some .int) 2 := ⟨⟨by decide +kernel, by decide +kernel, by decide +kernel⟩, tb_in (List.mem_of_getElem? (i := 831) (by decide +kernel)) rfl, tb_in (List.mem_of_getElem? (i := 69) (by decide +kernel)) rfl, by decide⟩
theorem ki_X7_used : Cond.instanceMethod yX7_used ∈ tb := tb_in (List.mem_of_getElem? (i := 830) (by decide +kernel)) rfl
theorem ks2_X7_used : Cond.selects yX7_used.cls yX7_used yX7_used ∈ tb := tb_in (List.mem_of_getElem? (i := 23) (by decide +kernel)) rfl
theorem ky_X7_isLetIn : KY yX7_isLetIn cX7_isLetIn 3 (some .boolean) 2 := ⟨⟨by decide +kernel, by decide +kernel, by decide +kernel⟩, tb_in (List.mem_of_getElem? (i := 906) (by decide +kernel)) rfl, tb_in (List.mem_of_getElem? (i := 69) (by decide +kernel)) rfl, by decide⟩
theorem ki_X7_isLetIn : Cond.instanceMethod yX7_isLetIn ∈ tb := tb_in (List.mem_of_getElem? (i := 905) (by decide +kernel)) rfl
theorem ks2_X7_isLetIn : Cond.selects yX7_isLetIn.cls yX7_isLetIn yX7_isLetIn ∈ tb := tb_in (List.mem_of_getElem? (i := 38) (by decide +kernel)) rfl
theorem ky_X7_border : KY yX7_border cX7_border 4 (some .int) 2 := ⟨⟨by decide +kernel, by decide +kernel, by decide +kernel⟩, tb_in (List.mem_of_getElem? (i := 878) (by decide +kernel)) rfl, tb_in (List.mem_of_getElem? (i := 69) (by decide +kernel)) rfl, by decide⟩
theorem ks_X7_border : Cond.static yX7_border ∈ tb := tb_in (List.mem_of_getElem? (i := 877) (by decide +kernel)) rfl
theorem ky_X7_isOpen : KY yX7_isOpen cX7_isOpen 3 (some .boolean) 2 := ⟨⟨by decide +kernel, by decide +kernel, by decide +kernel⟩, tb_in (List.mem_of_getElem? (i := 898) (by decide +kernel)) rfl, tb_in (List.mem_of_getElem? (i := 69) (by decide +kernel)) rfl, by decide⟩
theorem ki_X7_isOpen : Cond.instanceMethod yX7_isOpen ∈ tb := tb_in (List.mem_of_getElem? (i := 897) (by decide +kernel)) rfl
theorem ks2_X7_isOpen : Cond.selects yX7_isOpen.cls yX7_isOpen yX7_isOpen ∈ tb := tb_in (List.mem_of_getElem? (i := 36) (by decide +kernel)) rfl
theorem ky_X7_hindrance : KY yX7_hindrance cX7_hindrance 5 (some .int) 3 := ⟨⟨by decide +kernel, by decide +kernel, by decide +kernel⟩, tb_in (List.mem_of_getElem? (i := 894) (by decide +kernel)) rfl, tb_in (List.mem_of_getElem? (i := 69) (by decide +kernel)) rfl, by decide⟩
theorem ki_X7_hindrance : Cond.instanceMethod yX7_hindrance ∈ tb := tb_in (List.mem_of_getElem? (i := 893) (by decide +kernel)) rfl
theorem ks2_X7_hindrance : Cond.selects yX7_hindrance.cls yX7_hindrance yX7_hindrance ∈ tb := tb_in (List.mem_of_getElem? (i := 35) (by decide +kernel)) rfl
theorem ky_X7_stamps : KY yX7_stamps cX7_stamps 4 none 3 := ⟨⟨by decide +kernel, by decide +kernel, by decide +kernel⟩, tb_in (List.mem_of_getElem? (i := 914) (by decide +kernel)) rfl, tb_in (List.mem_of_getElem? (i := 69) (by decide +kernel)) rfl, by decide⟩
theorem ki_X7_stamps : Cond.instanceMethod yX7_stamps ∈ tb := tb_in (List.mem_of_getElem? (i := 913) (by decide +kernel)) rfl
theorem ks2_X7_stamps : Cond.selects yX7_stamps.cls yX7_stamps yX7_stamps ∈ tb := tb_in (List.mem_of_getElem? (i := 40) (by decide +kernel)) rfl
theorem ky_X7_errorOfCross : KY yX7_errorOfCross cX7_errorOfCross 5 (some .int) 3 := ⟨⟨by decide +kernel, by decide +kernel, by decide +kernel⟩, tb_in (List.mem_of_getElem? (i := 890) (by decide +kernel)) rfl, tb_in (List.mem_of_getElem? (i := 69) (by decide +kernel)) rfl, by decide⟩
theorem ki_X7_errorOfCross : Cond.instanceMethod yX7_errorOfCross ∈ tb := tb_in (List.mem_of_getElem? (i := 889) (by decide +kernel)) rfl
theorem ks2_X7_errorOfCross : Cond.selects yX7_errorOfCross.cls yX7_errorOfCross yX7_errorOfCross ∈ tb := tb_in (List.mem_of_getElem? (i := 34) (by decide +kernel)) rfl
theorem ky_X7_crosses : KY yX7_crosses cX7_crosses 4 (some .int) 3 := ⟨⟨by decide +kernel, by decide +kernel, by decide +kernel⟩, tb_in (List.mem_of_getElem? (i := 910) (by decide +kernel)) rfl, tb_in (List.mem_of_getElem? (i := 69) (by decide +kernel)) rfl, by decide⟩
theorem ki_X7_crosses : Cond.instanceMethod yX7_crosses ∈ tb := tb_in (List.mem_of_getElem? (i := 909) (by decide +kernel)) rfl
theorem ks2_X7_crosses : Cond.selects yX7_crosses.cls yX7_crosses yX7_crosses ∈ tb := tb_in (List.mem_of_getElem? (i := 39) (by decide +kernel)) rfl
theorem ky_X7_isOverstay : KY yX7_isOverstay cX7_isOverstay 4 (some .boolean) 1 := ⟨⟨by decide +kernel, by decide +kernel, by decide +kernel⟩, tb_in (List.mem_of_getElem? (i := 930) (by decide +kernel)) rfl, tb_in (List.mem_of_getElem? (i := 69) (by decide +kernel)) rfl, by decide⟩
theorem ki_X7_isOverstay : Cond.instanceMethod yX7_isOverstay ∈ tb := tb_in (List.mem_of_getElem? (i := 929) (by decide +kernel)) rfl
theorem ks2_X7_isOverstay : Cond.selects yX7_isOverstay.cls yX7_isOverstay yX7_isOverstay ∈ tb := tb_in (List.mem_of_getElem? (i := 43) (by decide +kernel)) rfl
theorem ky_X7_errorOfPass : KY yX7_errorOfPass cX7_errorOfPass 2 (some .int) 1 := ⟨⟨by decide +kernel, by decide +kernel, by decide +kernel⟩, tb_in (List.mem_of_getElem? (i := 922) (by decide +kernel)) rfl, tb_in (List.mem_of_getElem? (i := 69) (by decide +kernel)) rfl, by decide⟩
theorem ki_X7_errorOfPass : Cond.instanceMethod yX7_errorOfPass ∈ tb := tb_in (List.mem_of_getElem? (i := 921) (by decide +kernel)) rfl
theorem ks2_X7_errorOfPass : Cond.selects yX7_errorOfPass.cls yX7_errorOfPass yX7_errorOfPass ∈ tb := tb_in (List.mem_of_getElem? (i := 41) (by decide +kernel)) rfl
theorem ky_X7_passes : KY yX7_passes cX7_passes 6 (some .int) 1 := ⟨⟨by decide +kernel, by decide +kernel, by decide +kernel⟩, tb_in (List.mem_of_getElem? (i := 926) (by decide +kernel)) rfl, tb_in (List.mem_of_getElem? (i := 69) (by decide +kernel)) rfl, by decide⟩
theorem ki_X7_passes : Cond.instanceMethod yX7_passes ∈ tb := tb_in (List.mem_of_getElem? (i := 925) (by decide +kernel)) rfl
theorem ks2_X7_passes : Cond.selects yX7_passes.cls yX7_passes yX7_passes ∈ tb := tb_in (List.mem_of_getElem? (i := 42) (by decide +kernel)) rfl
theorem ky_X7_errorOfGrant : KY yX7_errorOfGrant cX7_errorOfGrant 6 (some .int) 5 := ⟨⟨by decide +kernel, by decide +kernel, by decide +kernel⟩, tb_in (List.mem_of_getElem? (i := 816) (by decide +kernel)) rfl, tb_in (List.mem_of_getElem? (i := 69) (by decide +kernel)) rfl, by decide⟩
theorem ki_X7_errorOfGrant : Cond.instanceMethod yX7_errorOfGrant ∈ tb := tb_in (List.mem_of_getElem? (i := 815) (by decide +kernel)) rfl
theorem ks2_X7_errorOfGrant : Cond.selects yX7_errorOfGrant.cls yX7_errorOfGrant yX7_errorOfGrant ∈ tb := tb_in (List.mem_of_getElem? (i := 20) (by decide +kernel)) rfl
theorem ky_X7_grants : KY yX7_grants cX7_grants 7 (some .int) 5 := ⟨⟨by decide +kernel, by decide +kernel, by decide +kernel⟩, tb_in (List.mem_of_getElem? (i := 827) (by decide +kernel)) rfl, tb_in (List.mem_of_getElem? (i := 69) (by decide +kernel)) rfl, by decide⟩
theorem ki_X7_grants : Cond.instanceMethod yX7_grants ∈ tb := tb_in (List.mem_of_getElem? (i := 826) (by decide +kernel)) rfl
theorem ks2_X7_grants : Cond.selects yX7_grants.cls yX7_grants yX7_grants ∈ tb := tb_in (List.mem_of_getElem? (i := 22) (by decide +kernel)) rfl
theorem ky_X7_begins : KY yX7_begins cX7_begins 3 none 2 := ⟨⟨by decide +kernel, by decide +kernel, by decide +kernel⟩, tb_in (List.mem_of_getElem? (i := 796) (by decide +kernel)) rfl, tb_in (List.mem_of_getElem? (i := 69) (by decide +kernel)) rfl, by decide⟩
theorem ki_X7_begins : Cond.instanceMethod yX7_begins ∈ tb := tb_in (List.mem_of_getElem? (i := 795) (by decide +kernel)) rfl
theorem ks2_X7_begins : Cond.selects yX7_begins.cls yX7_begins yX7_begins ∈ tb := tb_in (List.mem_of_getElem? (i := 17) (by decide +kernel)) rfl
theorem ky_X7_issue : KY yX7_issue cX7_issue 4 (some .int) 1 := ⟨⟨by decide +kernel, by decide +kernel, by decide +kernel⟩, tb_in (List.mem_of_getElem? (i := 779) (by decide +kernel)) rfl, tb_in (List.mem_of_getElem? (i := 69) (by decide +kernel)) rfl, by decide⟩
theorem ki_X7_issue : Cond.instanceMethod yX7_issue ∈ tb := tb_in (List.mem_of_getElem? (i := 777) (by decide +kernel)) rfl
theorem ks2_X7_issue : Cond.selects yX7_issue.cls yX7_issue yX7_issue ∈ tb := tb_in (List.mem_of_getElem? (i := 778) (by decide +kernel)) rfl
theorem ky_X7_renew : KY yX7_renew cX7_renew 3 (some .int) 1 := ⟨⟨by decide +kernel, by decide +kernel, by decide +kernel⟩, tb_in (List.mem_of_getElem? (i := 800) (by decide +kernel)) rfl, tb_in (List.mem_of_getElem? (i := 69) (by decide +kernel)) rfl, by decide⟩
theorem ki_X7_renew : Cond.instanceMethod yX7_renew ∈ tb := tb_in (List.mem_of_getElem? (i := 798) (by decide +kernel)) rfl
theorem ks2_X7_renew : Cond.selects yX7_renew.cls yX7_renew yX7_renew ∈ tb := tb_in (List.mem_of_getElem? (i := 799) (by decide +kernel)) rfl
theorem ky_X7_grant : KY yX7_grant cX7_grant 7 (some .int) 5 := ⟨⟨by decide +kernel, by decide +kernel, by decide +kernel⟩, tb_in (List.mem_of_getElem? (i := 812) (by decide +kernel)) rfl, tb_in (List.mem_of_getElem? (i := 69) (by decide +kernel)) rfl, by decide⟩
theorem ki_X7_grant : Cond.instanceMethod yX7_grant ∈ tb := tb_in (List.mem_of_getElem? (i := 810) (by decide +kernel)) rfl
theorem ks2_X7_grant : Cond.selects yX7_grant.cls yX7_grant yX7_grant ∈ tb := tb_in (List.mem_of_getElem? (i := 811) (by decide +kernel)) rfl
theorem ky_X7_revoke : KY yX7_revoke cX7_revoke 4 (some .int) 2 := ⟨⟨by decide +kernel, by decide +kernel, by decide +kernel⟩, tb_in (List.mem_of_getElem? (i := 867) (by decide +kernel)) rfl, tb_in (List.mem_of_getElem? (i := 69) (by decide +kernel)) rfl, by decide⟩
theorem ki_X7_revoke : Cond.instanceMethod yX7_revoke ∈ tb := tb_in (List.mem_of_getElem? (i := 865) (by decide +kernel)) rfl
theorem ks2_X7_revoke : Cond.selects yX7_revoke.cls yX7_revoke yX7_revoke ∈ tb := tb_in (List.mem_of_getElem? (i := 866) (by decide +kernel)) rfl
theorem ky_X7_closed : KY yX7_closed cX7_closed 3 (some .int) 0 := ⟨⟨by decide +kernel, by decide +kernel, by decide +kernel⟩, tb_in (List.mem_of_getElem? (i := 882) (by decide +kernel)) rfl, tb_in (List.mem_of_getElem? (i := 69) (by decide +kernel)) rfl, by decide⟩
theorem ki_X7_closed : Cond.instanceMethod yX7_closed ∈ tb := tb_in (List.mem_of_getElem? (i := 881) (by decide +kernel)) rfl
theorem ks2_X7_closed : Cond.selects yX7_closed.cls yX7_closed yX7_closed ∈ tb := tb_in (List.mem_of_getElem? (i := 33) (by decide +kernel)) rfl
theorem ky_X7_turnBorder : KY yX7_turnBorder cX7_turnBorder 3 (some .int) 2 := ⟨⟨by decide +kernel, by decide +kernel, by decide +kernel⟩, tb_in (List.mem_of_getElem? (i := 875) (by decide +kernel)) rfl, tb_in (List.mem_of_getElem? (i := 69) (by decide +kernel)) rfl, by decide⟩
theorem ki_X7_turnBorder : Cond.instanceMethod yX7_turnBorder ∈ tb := tb_in (List.mem_of_getElem? (i := 873) (by decide +kernel)) rfl
theorem ks2_X7_turnBorder : Cond.selects yX7_turnBorder.cls yX7_turnBorder yX7_turnBorder ∈ tb := tb_in (List.mem_of_getElem? (i := 874) (by decide +kernel)) rfl
theorem ky_X7_cross : KY yX7_cross cX7_cross 5 (some .int) 3 := ⟨⟨by decide +kernel, by decide +kernel, by decide +kernel⟩, tb_in (List.mem_of_getElem? (i := 886) (by decide +kernel)) rfl, tb_in (List.mem_of_getElem? (i := 69) (by decide +kernel)) rfl, by decide⟩
theorem ki_X7_cross : Cond.instanceMethod yX7_cross ∈ tb := tb_in (List.mem_of_getElem? (i := 884) (by decide +kernel)) rfl
theorem ks2_X7_cross : Cond.selects yX7_cross.cls yX7_cross yX7_cross ∈ tb := tb_in (List.mem_of_getElem? (i := 885) (by decide +kernel)) rfl
theorem ky_X7_pass : KY yX7_pass cX7_pass 3 (some .int) 1 := ⟨⟨by decide +kernel, by decide +kernel, by decide +kernel⟩, tb_in (List.mem_of_getElem? (i := 918) (by decide +kernel)) rfl, tb_in (List.mem_of_getElem? (i := 69) (by decide +kernel)) rfl, by decide⟩
theorem ki_X7_pass : Cond.instanceMethod yX7_pass ∈ tb := tb_in (List.mem_of_getElem? (i := 916) (by decide +kernel)) rfl
theorem ks2_X7_pass : Cond.selects yX7_pass.cls yX7_pass yX7_pass ∈ tb := tb_in (List.mem_of_getElem? (i := 917) (by decide +kernel)) rfl
theorem ky_X7_type : KY yX7_type cX7_type 2 (some .int) 1 := ⟨⟨by decide +kernel, by decide +kernel, by decide +kernel⟩, tb_in (List.mem_of_getElem? (i := 934) (by decide +kernel)) rfl, tb_in (List.mem_of_getElem? (i := 69) (by decide +kernel)) rfl, by decide⟩
theorem ki_X7_type : Cond.instanceMethod yX7_type ∈ tb := tb_in (List.mem_of_getElem? (i := 932) (by decide +kernel)) rfl
theorem ks2_X7_type : Cond.selects yX7_type.cls yX7_type yX7_type ∈ tb := tb_in (List.mem_of_getElem? (i := 933) (by decide +kernel)) rfl
theorem ky_X7_clearText : KY yX7_clearText cX7_clearText 2 (some .int) 0 := ⟨⟨by decide +kernel, by decide +kernel, by decide +kernel⟩, tb_in (List.mem_of_getElem? (i := 938) (by decide +kernel)) rfl, tb_in (List.mem_of_getElem? (i := 69) (by decide +kernel)) rfl, by decide⟩
theorem ki_X7_clearText : Cond.instanceMethod yX7_clearText ∈ tb := tb_in (List.mem_of_getElem? (i := 936) (by decide +kernel)) rfl
theorem ks2_X7_clearText : Cond.selects yX7_clearText.cls yX7_clearText yX7_clearText ∈ tb := tb_in (List.mem_of_getElem? (i := 937) (by decide +kernel)) rfl
theorem ky_X7_isNext : KY yX7_isNext cX7_isNext 3 (some .boolean) 2 := ⟨⟨by decide +kernel, by decide +kernel, by decide +kernel⟩, tb_in (List.mem_of_getElem? (i := 962) (by decide +kernel)) rfl, tb_in (List.mem_of_getElem? (i := 69) (by decide +kernel)) rfl, by decide⟩
theorem ki_X7_isNext : Cond.instanceMethod yX7_isNext ∈ tb := tb_in (List.mem_of_getElem? (i := 961) (by decide +kernel)) rfl
theorem ks2_X7_isNext : Cond.selects yX7_isNext.cls yX7_isNext yX7_isNext ∈ tb := tb_in (List.mem_of_getElem? (i := 48) (by decide +kernel)) rfl
theorem ky_X7_takes : KY yX7_takes cX7_takes 5 (some .int) 2 := ⟨⟨by decide +kernel, by decide +kernel, by decide +kernel⟩, tb_in (List.mem_of_getElem? (i := 958) (by decide +kernel)) rfl, tb_in (List.mem_of_getElem? (i := 69) (by decide +kernel)) rfl, by decide⟩
theorem ki_X7_takes : Cond.instanceMethod yX7_takes ∈ tb := tb_in (List.mem_of_getElem? (i := 957) (by decide +kernel)) rfl
theorem ks2_X7_takes : Cond.selects yX7_takes.cls yX7_takes yX7_takes ∈ tb := tb_in (List.mem_of_getElem? (i := 47) (by decide +kernel)) rfl
theorem ky_X7_takesOne : KY yX7_takesOne cX7_takesOne 3 (some .int) 1 := ⟨⟨by decide +kernel, by decide +kernel, by decide +kernel⟩, tb_in (List.mem_of_getElem? (i := 970) (by decide +kernel)) rfl, tb_in (List.mem_of_getElem? (i := 69) (by decide +kernel)) rfl, by decide⟩
theorem ki_X7_takesOne : Cond.instanceMethod yX7_takesOne ∈ tb := tb_in (List.mem_of_getElem? (i := 969) (by decide +kernel)) rfl
theorem ks2_X7_takesOne : Cond.selects yX7_takesOne.cls yX7_takesOne yX7_takesOne ∈ tb := tb_in (List.mem_of_getElem? (i := 50) (by decide +kernel)) rfl
theorem ky_X7_number : KY yX7_number cX7_number 4 (some .int) 2 := ⟨⟨by decide +kernel, by decide +kernel, by decide +kernel⟩, tb_in (List.mem_of_getElem? (i := 954) (by decide +kernel)) rfl, tb_in (List.mem_of_getElem? (i := 69) (by decide +kernel)) rfl, by decide⟩
theorem ki_X7_number : Cond.instanceMethod yX7_number ∈ tb := tb_in (List.mem_of_getElem? (i := 953) (by decide +kernel)) rfl
theorem ks2_X7_number : Cond.selects yX7_number.cls yX7_number yX7_number ∈ tb := tb_in (List.mem_of_getElem? (i := 46) (by decide +kernel)) rfl
theorem ky_X7_readVisa : KY yX7_readVisa cX7_readVisa 2 none 0 := ⟨⟨by decide +kernel, by decide +kernel, by decide +kernel⟩, tb_in (List.mem_of_getElem? (i := 966) (by decide +kernel)) rfl, tb_in (List.mem_of_getElem? (i := 69) (by decide +kernel)) rfl, by decide⟩
theorem ki_X7_readVisa : Cond.instanceMethod yX7_readVisa ∈ tb := tb_in (List.mem_of_getElem? (i := 965) (by decide +kernel)) rfl
theorem ks2_X7_readVisa : Cond.selects yX7_readVisa.cls yX7_readVisa yX7_readVisa ∈ tb := tb_in (List.mem_of_getElem? (i := 49) (by decide +kernel)) rfl
theorem ky_X7_readOne : KY yX7_readOne cX7_readOne 1 none 0 := ⟨⟨by decide +kernel, by decide +kernel, by decide +kernel⟩, tb_in (List.mem_of_getElem? (i := 950) (by decide +kernel)) rfl, tb_in (List.mem_of_getElem? (i := 69) (by decide +kernel)) rfl, by decide⟩
theorem ki_X7_readOne : Cond.instanceMethod yX7_readOne ∈ tb := tb_in (List.mem_of_getElem? (i := 949) (by decide +kernel)) rfl
theorem ks2_X7_readOne : Cond.selects yX7_readOne.cls yX7_readOne yX7_readOne ∈ tb := tb_in (List.mem_of_getElem? (i := 45) (by decide +kernel)) rfl
theorem ky_X7_errorOfOne : KY yX7_errorOfOne cX7_errorOfOne 1 (some .int) 0 := ⟨⟨by decide +kernel, by decide +kernel, by decide +kernel⟩, tb_in (List.mem_of_getElem? (i := 974) (by decide +kernel)) rfl, tb_in (List.mem_of_getElem? (i := 69) (by decide +kernel)) rfl, by decide⟩
theorem ki_X7_errorOfOne : Cond.instanceMethod yX7_errorOfOne ∈ tb := tb_in (List.mem_of_getElem? (i := 973) (by decide +kernel)) rfl
theorem ks2_X7_errorOfOne : Cond.selects yX7_errorOfOne.cls yX7_errorOfOne yX7_errorOfOne ∈ tb := tb_in (List.mem_of_getElem? (i := 51) (by decide +kernel)) rfl
theorem ky_X7_doesOne : KY yX7_doesOne cX7_doesOne 1 (some .int) 0 := ⟨⟨by decide +kernel, by decide +kernel, by decide +kernel⟩, tb_in (List.mem_of_getElem? (i := 978) (by decide +kernel)) rfl, tb_in (List.mem_of_getElem? (i := 69) (by decide +kernel)) rfl, by decide⟩
theorem ki_X7_doesOne : Cond.instanceMethod yX7_doesOne ∈ tb := tb_in (List.mem_of_getElem? (i := 977) (by decide +kernel)) rfl
theorem ks2_X7_doesOne : Cond.selects yX7_doesOne.cls yX7_doesOne yX7_doesOne ∈ tb := tb_in (List.mem_of_getElem? (i := 52) (by decide +kernel)) rfl
theorem ky_X7_reads : KY yX7_reads cX7_reads 6 (some .int) 1 := ⟨⟨by decide +kernel, by decide +kernel, by decide +kernel⟩, tb_in (List.mem_of_getElem? (i := 946) (by decide +kernel)) rfl, tb_in (List.mem_of_getElem? (i := 69) (by decide +kernel)) rfl, by decide⟩
theorem ki_X7_reads : Cond.instanceMethod yX7_reads ∈ tb := tb_in (List.mem_of_getElem? (i := 945) (by decide +kernel)) rfl
theorem ks2_X7_reads : Cond.selects yX7_reads.cls yX7_reads yX7_reads ∈ tb := tb_in (List.mem_of_getElem? (i := 44) (by decide +kernel)) rfl
theorem ky_X7_perform : KY yX7_perform cX7_perform 3 (some .int) 0 := ⟨⟨by decide +kernel, by decide +kernel, by decide +kernel⟩, tb_in (List.mem_of_getElem? (i := 942) (by decide +kernel)) rfl, tb_in (List.mem_of_getElem? (i := 69) (by decide +kernel)) rfl, by decide⟩
theorem ki_X7_perform : Cond.instanceMethod yX7_perform ∈ tb := tb_in (List.mem_of_getElem? (i := 940) (by decide +kernel)) rfl
theorem ks2_X7_perform : Cond.selects yX7_perform.cls yX7_perform yX7_perform ∈ tb := tb_in (List.mem_of_getElem? (i := 941) (by decide +kernel)) rfl
theorem ky_X7_stopped : KY yX7_stopped cX7_stopped 2 (some .int) 1 := ⟨⟨by decide +kernel, by decide +kernel, by decide +kernel⟩, tb_in (List.mem_of_getElem? (i := 986) (by decide +kernel)) rfl, tb_in (List.mem_of_getElem? (i := 69) (by decide +kernel)) rfl, by decide⟩
theorem ki_X7_stopped : Cond.instanceMethod yX7_stopped ∈ tb := tb_in (List.mem_of_getElem? (i := 984) (by decide +kernel)) rfl
theorem ks2_X7_stopped : Cond.selects yX7_stopped.cls yX7_stopped yX7_stopped ∈ tb := tb_in (List.mem_of_getElem? (i := 985) (by decide +kernel)) rfl
theorem ky_X7_undo : KY yX7_undo cX7_undo 2 (some .int) 0 := ⟨⟨by decide +kernel, by decide +kernel, by decide +kernel⟩, tb_in (List.mem_of_getElem? (i := 990) (by decide +kernel)) rfl, tb_in (List.mem_of_getElem? (i := 69) (by decide +kernel)) rfl, by decide⟩
theorem ki_X7_undo : Cond.instanceMethod yX7_undo ∈ tb := tb_in (List.mem_of_getElem? (i := 988) (by decide +kernel)) rfl
theorem ks2_X7_undo : Cond.selects yX7_undo.cls yX7_undo yX7_undo ∈ tb := tb_in (List.mem_of_getElem? (i := 989) (by decide +kernel)) rfl
theorem ky_X7_keep : KY yX7_keep cX7_keep 2 (some .int) 0 := ⟨⟨by decide +kernel, by decide +kernel, by decide +kernel⟩, tb_in (List.mem_of_getElem? (i := 994) (by decide +kernel)) rfl, tb_in (List.mem_of_getElem? (i := 69) (by decide +kernel)) rfl, by decide⟩
theorem ki_X7_keep : Cond.instanceMethod yX7_keep ∈ tb := tb_in (List.mem_of_getElem? (i := 992) (by decide +kernel)) rfl
theorem ks2_X7_keep : Cond.selects yX7_keep.cls yX7_keep yX7_keep ∈ tb := tb_in (List.mem_of_getElem? (i := 993) (by decide +kernel)) rfl
theorem ky_X7_restore : KY yX7_restore cX7_restore 2 (some .int) 0 := ⟨⟨by decide +kernel, by decide +kernel, by decide +kernel⟩, tb_in (List.mem_of_getElem? (i := 998) (by decide +kernel)) rfl, tb_in (List.mem_of_getElem? (i := 69) (by decide +kernel)) rfl, by decide⟩
theorem ki_X7_restore : Cond.instanceMethod yX7_restore ∈ tb := tb_in (List.mem_of_getElem? (i := 996) (by decide +kernel)) rfl
theorem ks2_X7_restore : Cond.selects yX7_restore.cls yX7_restore yX7_restore ∈ tb := tb_in (List.mem_of_getElem? (i := 997) (by decide +kernel)) rfl
theorem ky_X7_toldNow : KY yX7_toldNow cX7_toldNow 2 (some .int) 1 := ⟨⟨by decide +kernel, by decide +kernel, by decide +kernel⟩, tb_in (List.mem_of_getElem? (i := 1006) (by decide +kernel)) rfl, tb_in (List.mem_of_getElem? (i := 69) (by decide +kernel)) rfl, by decide⟩
theorem ki_X7_toldNow : Cond.instanceMethod yX7_toldNow ∈ tb := tb_in (List.mem_of_getElem? (i := 1005) (by decide +kernel)) rfl
theorem ks2_X7_toldNow : Cond.selects yX7_toldNow.cls yX7_toldNow yX7_toldNow ∈ tb := tb_in (List.mem_of_getElem? (i := 54) (by decide +kernel)) rfl
theorem ky_X7_visas : KY yX7_visas cX7_visas 5 (some .int) 2 := ⟨⟨by decide +kernel, by decide +kernel, by decide +kernel⟩, tb_in (List.mem_of_getElem? (i := 1018) (by decide +kernel)) rfl, tb_in (List.mem_of_getElem? (i := 69) (by decide +kernel)) rfl, by decide⟩
theorem ki_X7_visas : Cond.instanceMethod yX7_visas ∈ tb := tb_in (List.mem_of_getElem? (i := 1017) (by decide +kernel)) rfl
theorem ks2_X7_visas : Cond.selects yX7_visas.cls yX7_visas yX7_visas ∈ tb := tb_in (List.mem_of_getElem? (i := 57) (by decide +kernel)) rfl
theorem ky_X7_passport : KY yX7_passport cX7_passport 3 (some .int) 2 := ⟨⟨by decide +kernel, by decide +kernel, by decide +kernel⟩, tb_in (List.mem_of_getElem? (i := 1002) (by decide +kernel)) rfl, tb_in (List.mem_of_getElem? (i := 69) (by decide +kernel)) rfl, by decide⟩
theorem ki_X7_passport : Cond.instanceMethod yX7_passport ∈ tb := tb_in (List.mem_of_getElem? (i := 1000) (by decide +kernel)) rfl
theorem ks2_X7_passport : Cond.selects yX7_passport.cls yX7_passport yX7_passport ∈ tb := tb_in (List.mem_of_getElem? (i := 1001) (by decide +kernel)) rfl
theorem ky_X7_stamp : KY yX7_stamp cX7_stamp 4 (some .int) 3 := ⟨⟨by decide +kernel, by decide +kernel, by decide +kernel⟩, tb_in (List.mem_of_getElem? (i := 1022) (by decide +kernel)) rfl, tb_in (List.mem_of_getElem? (i := 69) (by decide +kernel)) rfl, by decide⟩
theorem ki_X7_stamp : Cond.instanceMethod yX7_stamp ∈ tb := tb_in (List.mem_of_getElem? (i := 1020) (by decide +kernel)) rfl
theorem ks2_X7_stamp : Cond.selects yX7_stamp.cls yX7_stamp yX7_stamp ∈ tb := tb_in (List.mem_of_getElem? (i := 1021) (by decide +kernel)) rfl
theorem ky_X7_visa : KY yX7_visa cX7_visa 4 (some .int) 3 := ⟨⟨by decide +kernel, by decide +kernel, by decide +kernel⟩, tb_in (List.mem_of_getElem? (i := 1026) (by decide +kernel)) rfl, tb_in (List.mem_of_getElem? (i := 69) (by decide +kernel)) rfl, by decide⟩
theorem ki_X7_visa : Cond.instanceMethod yX7_visa ∈ tb := tb_in (List.mem_of_getElem? (i := 1024) (by decide +kernel)) rfl
theorem ks2_X7_visa : Cond.selects yX7_visa.cls yX7_visa yX7_visa ∈ tb := tb_in (List.mem_of_getElem? (i := 1025) (by decide +kernel)) rfl
theorem ky_X7_reason : KY yX7_reason cX7_reason 3 (some .int) 2 := ⟨⟨by decide +kernel, by decide +kernel, by decide +kernel⟩, tb_in (List.mem_of_getElem? (i := 1030) (by decide +kernel)) rfl, tb_in (List.mem_of_getElem? (i := 69) (by decide +kernel)) rfl, by decide⟩
theorem ki_X7_reason : Cond.instanceMethod yX7_reason ∈ tb := tb_in (List.mem_of_getElem? (i := 1028) (by decide +kernel)) rfl
theorem ks2_X7_reason : Cond.selects yX7_reason.cls yX7_reason yX7_reason ∈ tb := tb_in (List.mem_of_getElem? (i := 1029) (by decide +kernel)) rfl
theorem ky_X7_stay : KY yX7_stay cX7_stay 8 (some .int) 5 := ⟨⟨by decide +kernel, by decide +kernel, by decide +kernel⟩, tb_in (List.mem_of_getElem? (i := 1034) (by decide +kernel)) rfl, tb_in (List.mem_of_getElem? (i := 69) (by decide +kernel)) rfl, by decide⟩
theorem ki_X7_stay : Cond.instanceMethod yX7_stay ∈ tb := tb_in (List.mem_of_getElem? (i := 1032) (by decide +kernel)) rfl
theorem ks2_X7_stay : Cond.selects yX7_stay.cls yX7_stay yX7_stay ∈ tb := tb_in (List.mem_of_getElem? (i := 1033) (by decide +kernel)) rfl
theorem ky_X7_reachedFrom : KY yX7_reachedFrom cX7_reachedFrom 8 (some .int) 2 := ⟨⟨by decide +kernel, by decide +kernel, by decide +kernel⟩, tb_in (List.mem_of_getElem? (i := 1046) (by decide +kernel)) rfl, tb_in (List.mem_of_getElem? (i := 69) (by decide +kernel)) rfl, by decide⟩
theorem ki_X7_reachedFrom : Cond.instanceMethod yX7_reachedFrom ∈ tb := tb_in (List.mem_of_getElem? (i := 1045) (by decide +kernel)) rfl
theorem ks2_X7_reachedFrom : Cond.selects yX7_reachedFrom.cls yX7_reachedFrom yX7_reachedFrom ∈ tb := tb_in (List.mem_of_getElem? (i := 59) (by decide +kernel)) rfl
theorem ky_X7_wayTo : KY yX7_wayTo cX7_wayTo 5 (some .int) 2 := ⟨⟨by decide +kernel, by decide +kernel, by decide +kernel⟩, tb_in (List.mem_of_getElem? (i := 1042) (by decide +kernel)) rfl, tb_in (List.mem_of_getElem? (i := 69) (by decide +kernel)) rfl, by decide⟩
theorem ki_X7_wayTo : Cond.instanceMethod yX7_wayTo ∈ tb := tb_in (List.mem_of_getElem? (i := 1040) (by decide +kernel)) rfl
theorem ks2_X7_wayTo : Cond.selects yX7_wayTo.cls yX7_wayTo yX7_wayTo ∈ tb := tb_in (List.mem_of_getElem? (i := 1041) (by decide +kernel)) rfl
theorem ky_X7_daysLeft : KY yX7_daysLeft cX7_daysLeft 7 (some .int) 2 := ⟨⟨by decide +kernel, by decide +kernel, by decide +kernel⟩, tb_in (List.mem_of_getElem? (i := 1050) (by decide +kernel)) rfl, tb_in (List.mem_of_getElem? (i := 69) (by decide +kernel)) rfl, by decide⟩
theorem ki_X7_daysLeft : Cond.instanceMethod yX7_daysLeft ∈ tb := tb_in (List.mem_of_getElem? (i := 1048) (by decide +kernel)) rfl
theorem ks2_X7_daysLeft : Cond.selects yX7_daysLeft.cls yX7_daysLeft yX7_daysLeft ∈ tb := tb_in (List.mem_of_getElem? (i := 1049) (by decide +kernel)) rfl
theorem ky_X7_mistold : KY yX7_mistold cX7_mistold 3 (some .int) 0 := ⟨⟨by decide +kernel, by decide +kernel, by decide +kernel⟩, tb_in (List.mem_of_getElem? (i := 1054) (by decide +kernel)) rfl, tb_in (List.mem_of_getElem? (i := 69) (by decide +kernel)) rfl, by decide⟩
theorem ki_X7_mistold : Cond.instanceMethod yX7_mistold ∈ tb := tb_in (List.mem_of_getElem? (i := 1052) (by decide +kernel)) rfl
theorem ks2_X7_mistold : Cond.selects yX7_mistold.cls yX7_mistold yX7_mistold ∈ tb := tb_in (List.mem_of_getElem? (i := 1053) (by decide +kernel)) rfl
theorem ky_X7_holders : KY yX7_holders cX7_holders 5 (some .int) 2 := ⟨⟨by decide +kernel, by decide +kernel, by decide +kernel⟩, tb_in (List.mem_of_getElem? (i := 1058) (by decide +kernel)) rfl, tb_in (List.mem_of_getElem? (i := 69) (by decide +kernel)) rfl, by decide⟩
theorem ki_X7_holders : Cond.instanceMethod yX7_holders ∈ tb := tb_in (List.mem_of_getElem? (i := 1056) (by decide +kernel)) rfl
theorem ks2_X7_holders : Cond.selects yX7_holders.cls yX7_holders yX7_holders ∈ tb := tb_in (List.mem_of_getElem? (i := 1057) (by decide +kernel)) rfl
theorem ky_X7_sumOf : KY yX7_sumOf cX7_sumOf 4 (some .int) 1 := ⟨⟨by decide +kernel, by decide +kernel, by decide +kernel⟩, tb_in (List.mem_of_getElem? (i := 1066) (by decide +kernel)) rfl, tb_in (List.mem_of_getElem? (i := 69) (by decide +kernel)) rfl, by decide⟩
theorem ki_X7_sumOf : Cond.instanceMethod yX7_sumOf ∈ tb := tb_in (List.mem_of_getElem? (i := 1065) (by decide +kernel)) rfl
theorem ks2_X7_sumOf : Cond.selects yX7_sumOf.cls yX7_sumOf yX7_sumOf ∈ tb := tb_in (List.mem_of_getElem? (i := 60) (by decide +kernel)) rfl
theorem ky_X7_count : KY yX7_count cX7_count 2 (some .int) 1 := ⟨⟨by decide +kernel, by decide +kernel, by decide +kernel⟩, tb_in (List.mem_of_getElem? (i := 1062) (by decide +kernel)) rfl, tb_in (List.mem_of_getElem? (i := 69) (by decide +kernel)) rfl, by decide⟩
theorem ki_X7_count : Cond.instanceMethod yX7_count ∈ tb := tb_in (List.mem_of_getElem? (i := 1060) (by decide +kernel)) rfl
theorem ks2_X7_count : Cond.selects yX7_count.cls yX7_count yX7_count ∈ tb := tb_in (List.mem_of_getElem? (i := 1061) (by decide +kernel)) rfl
theorem ky_J6_bitCount_0f7a4 : KY yJ6_bitCount_0f7a4 cJ6_bitCount_0f7a4 1 (some .int) 1 := ⟨⟨by decide +kernel, by decide +kernel, by decide +kernel⟩, tb_in (List.mem_of_getElem? (i := 447) (by decide +kernel)) rfl, tb_in (List.mem_of_getElem? (i := 73) (by decide +kernel)) rfl, by decide⟩
theorem ks_J6_bitCount_0f7a4 : Cond.static yJ6_bitCount_0f7a4 ∈ tb := tb_in (List.mem_of_getElem? (i := 446) (by decide +kernel)) rfl
theorem ky_J13_bitCount_95d88 : KY yJ13_bitCount_95d88 cJ13_bitCount_95d88 2 (some .int) 1 := ⟨⟨by decide +kernel, by decide +kernel, by decide +kernel⟩, tb_in (List.mem_of_getElem? (i := 433) (by decide +kernel)) rfl, tb_in (List.mem_of_getElem? (i := 72) (by decide +kernel)) rfl, by decide⟩
theorem ks_J13_bitCount_95d88 : Cond.static yJ13_bitCount_95d88 ∈ tb := tb_in (List.mem_of_getElem? (i := 432) (by decide +kernel)) rfl
theorem ky_J9_max_7cf53 : KY yJ9_max_7cf53 cJ9_max_7cf53 2 (some .int) 2 := ⟨⟨by decide +kernel, by decide +kernel, by decide +kernel⟩, tb_in (List.mem_of_getElem? (i := 103) (by decide +kernel)) rfl, tb_in (List.mem_of_getElem? (i := 66) (by decide +kernel)) rfl, by decide⟩
theorem ks_J9_max_7cf53 : Cond.static yJ9_max_7cf53 ∈ tb := tb_in (List.mem_of_getElem? (i := 102) (by decide +kernel)) rfl
theorem ky_J9_min_7cf53 : KY yJ9_min_7cf53 cJ9_min_7cf53 2 (some .int) 2 := ⟨⟨by decide +kernel, by decide +kernel, by decide +kernel⟩, tb_in (List.mem_of_getElem? (i := 281) (by decide +kernel)) rfl, tb_in (List.mem_of_getElem? (i := 66) (by decide +kernel)) rfl, by decide⟩
theorem ks_J9_min_7cf53 : Cond.static yJ9_min_7cf53 ∈ tb := tb_in (List.mem_of_getElem? (i := 280) (by decide +kernel)) rfl
theorem fl_X0_14 : FL RX0 14 0 0 := ⟨RX0, TX0, 2, rfl, by decide, tbX0, rfl, tb_in (List.mem_of_getElem? (i := 125) (by decide +kernel)) rfl⟩
theorem fp_X0_14 : FP RX0 14 0 0 true (.object "BorderStamps$Trail") := ⟨RX0, TX0, 2, tyX0, rfl, by decide, tbX0, rfl, tb_in (List.mem_of_getElem? (i := 125) (by decide +kernel)) rfl, tyX0_ok, nmX0, rfl, rfl⟩
theorem fl_X0_20 : FL RX0 20 0 1 := ⟨RX0, TX0, 2, rfl, by decide, tbX0, rfl, tb_in (List.mem_of_getElem? (i := 128) (by decide +kernel)) rfl⟩
theorem fp_X0_20 : FP RX0 20 0 1 true (.array .int) := ⟨RX0, TX0, 2, tyX0, rfl, by decide, tbX0, rfl, tb_in (List.mem_of_getElem? (i := 128) (by decide +kernel)) rfl, tyX0_ok, nmX0, rfl, rfl⟩
theorem fl_X0_49 : FL RX0 49 4 2 := ⟨RX4, TX4, 3, rfl, by decide, tbX4, rfl, tb_in (List.mem_of_getElem? (i := 107) (by decide +kernel)) rfl⟩
theorem fl_X1_14 : FL RX1 14 1 3 := ⟨RX1, TX1, 6, rfl, by decide, tbX1, rfl, tb_in (List.mem_of_getElem? (i := 144) (by decide +kernel)) rfl⟩
theorem fp_X1_14 : FP RX1 14 1 3 true (.object "BorderStamps$Trail") := ⟨RX1, TX1, 6, tyX1, rfl, by decide, tbX1, rfl, tb_in (List.mem_of_getElem? (i := 144) (by decide +kernel)) rfl, tyX1_ok, nmX1, rfl, rfl⟩
theorem fl_X1_23 : FL RX1 23 1 4 := ⟨RX1, TX1, 6, rfl, by decide, tbX1, rfl, tb_in (List.mem_of_getElem? (i := 147) (by decide +kernel)) rfl⟩
theorem fp_X1_23 : FP RX1 23 1 4 true (.object "BorderStamps$Book") := ⟨RX1, TX1, 6, tyX1, rfl, by decide, tbX1, rfl, tb_in (List.mem_of_getElem? (i := 147) (by decide +kernel)) rfl, tyX1_ok, nmX1, rfl, rfl⟩
theorem fl_X1_29 : FL RX1 29 1 5 := ⟨RX1, TX1, 6, rfl, by decide, tbX1, rfl, tb_in (List.mem_of_getElem? (i := 150) (by decide +kernel)) rfl⟩
theorem fp_X1_29 : FP RX1 29 1 5 true (.array (.object "BorderStamps$Visa")) := ⟨RX1, TX1, 6, tyX1, rfl, by decide, tbX1, rfl, tb_in (List.mem_of_getElem? (i := 150) (by decide +kernel)) rfl, tyX1_ok, nmX1, rfl, rfl⟩
theorem fl_X1_33 : FL RX1 33 1 0 := ⟨RX1, TX1, 6, rfl, by decide, tbX1, rfl, tb_in (List.mem_of_getElem? (i := 136) (by decide +kernel)) rfl⟩
theorem fp_X1_33 : FP RX1 33 1 0 false .int := ⟨RX1, TX1, 6, tyX1, rfl, by decide, tbX1, rfl, tb_in (List.mem_of_getElem? (i := 136) (by decide +kernel)) rfl, tyX1_ok, nmX1, rfl, rfl⟩
theorem fl_X1_37 : FL RX1 37 1 1 := ⟨RX1, TX1, 6, rfl, by decide, tbX1, rfl, tb_in (List.mem_of_getElem? (i := 139) (by decide +kernel)) rfl⟩
theorem fp_X1_37 : FP RX1 37 1 1 false .int := ⟨RX1, TX1, 6, tyX1, rfl, by decide, tbX1, rfl, tb_in (List.mem_of_getElem? (i := 139) (by decide +kernel)) rfl, tyX1_ok, nmX1, rfl, rfl⟩
theorem fl_X1_40 : FL RX1 40 1 2 := ⟨RX1, TX1, 6, rfl, by decide, tbX1, rfl, tb_in (List.mem_of_getElem? (i := 142) (by decide +kernel)) rfl⟩
theorem fp_X1_40 : FP RX1 40 1 2 false .int := ⟨RX1, TX1, 6, tyX1, rfl, by decide, tbX1, rfl, tb_in (List.mem_of_getElem? (i := 142) (by decide +kernel)) rfl, tyX1_ok, nmX1, rfl, rfl⟩
theorem fl_X1_65 : FL RX1 65 0 0 := ⟨RX0, TX0, 2, rfl, by decide, tbX0, rfl, tb_in (List.mem_of_getElem? (i := 126) (by decide +kernel)) rfl⟩
theorem fl_X1_68 : FL RX1 68 4 2 := ⟨RX4, TX4, 3, rfl, by decide, tbX4, rfl, tb_in (List.mem_of_getElem? (i := 108) (by decide +kernel)) rfl⟩
theorem fl_X1_71 : FL RX1 71 5 0 := ⟨RX5, TX5, 4, rfl, by decide, tbX5, rfl, tb_in (List.mem_of_getElem? (i := 370) (by decide +kernel)) rfl⟩
theorem fl_X1_74 : FL RX1 74 5 1 := ⟨RX5, TX5, 4, rfl, by decide, tbX5, rfl, tb_in (List.mem_of_getElem? (i := 372) (by decide +kernel)) rfl⟩
theorem fl_X1_77 : FL RX1 77 5 2 := ⟨RX5, TX5, 4, rfl, by decide, tbX5, rfl, tb_in (List.mem_of_getElem? (i := 375) (by decide +kernel)) rfl⟩
theorem fl_X1_102 : FL RX1 102 5 3 := ⟨RX5, TX5, 4, rfl, by decide, tbX5, rfl, tb_in (List.mem_of_getElem? (i := 378) (by decide +kernel)) rfl⟩
theorem fl_X2_11 : FL RX2 11 2 4 := ⟨RX2, TX2, 5, rfl, by decide, tbX2, rfl, tb_in (List.mem_of_getElem? (i := 171) (by decide +kernel)) rfl⟩
theorem fp_X2_11 : FP RX2 11 2 4 true (.array (.object "BorderStamps$Holder")) := ⟨RX2, TX2, 5, tyX2, rfl, by decide, tbX2, rfl, tb_in (List.mem_of_getElem? (i := 171) (by decide +kernel)) rfl, tyX2_ok, nmX2, rfl, rfl⟩
theorem fl_X2_18 : FL RX2 18 2 0 := ⟨RX2, TX2, 5, rfl, by decide, tbX2, rfl, tb_in (List.mem_of_getElem? (i := 164) (by decide +kernel)) rfl⟩
theorem fp_X2_18 : FP RX2 18 2 0 false .int := ⟨RX2, TX2, 5, tyX2, rfl, by decide, tbX2, rfl, tb_in (List.mem_of_getElem? (i := 164) (by decide +kernel)) rfl, tyX2_ok, nmX2, rfl, rfl⟩
theorem fl_X2_22 : FL RX2 22 2 1 := ⟨RX2, TX2, 5, rfl, by decide, tbX2, rfl, tb_in (List.mem_of_getElem? (i := 166) (by decide +kernel)) rfl⟩
theorem fp_X2_22 : FP RX2 22 2 1 false .int := ⟨RX2, TX2, 5, tyX2, rfl, by decide, tbX2, rfl, tb_in (List.mem_of_getElem? (i := 166) (by decide +kernel)) rfl, tyX2_ok, nmX2, rfl, rfl⟩
theorem fl_X2_25 : FL RX2 25 2 2 := ⟨RX2, TX2, 5, rfl, by decide, tbX2, rfl, tb_in (List.mem_of_getElem? (i := 168) (by decide +kernel)) rfl⟩
theorem fp_X2_25 : FP RX2 25 2 2 false .int := ⟨RX2, TX2, 5, tyX2, rfl, by decide, tbX2, rfl, tb_in (List.mem_of_getElem? (i := 168) (by decide +kernel)) rfl, tyX2_ok, nmX2, rfl, rfl⟩
theorem fl_X2_28 : FL RX2 28 2 3 := ⟨RX2, TX2, 5, rfl, by decide, tbX2, rfl, tb_in (List.mem_of_getElem? (i := 170) (by decide +kernel)) rfl⟩
theorem fp_X2_28 : FP RX2 28 2 3 false .long := ⟨RX2, TX2, 5, tyX2, rfl, by decide, tbX2, rfl, tb_in (List.mem_of_getElem? (i := 170) (by decide +kernel)) rfl, tyX2_ok, nmX2, rfl, rfl⟩
theorem fl_X2_58 : FL RX2 58 1 4 := ⟨RX1, TX1, 6, rfl, by decide, tbX1, rfl, tb_in (List.mem_of_getElem? (i := 148) (by decide +kernel)) rfl⟩
theorem fl_X2_76 : FL RX2 76 1 0 := ⟨RX1, TX1, 6, rfl, by decide, tbX1, rfl, tb_in (List.mem_of_getElem? (i := 137) (by decide +kernel)) rfl⟩
theorem fl_X2_121 : FL RX2 121 1 3 := ⟨RX1, TX1, 6, rfl, by decide, tbX1, rfl, tb_in (List.mem_of_getElem? (i := 145) (by decide +kernel)) rfl⟩
theorem fl_X2_136 : FL RX2 136 1 1 := ⟨RX1, TX1, 6, rfl, by decide, tbX1, rfl, tb_in (List.mem_of_getElem? (i := 140) (by decide +kernel)) rfl⟩
theorem fp_X2_136 : FP RX2 136 1 1 false .int := ⟨RX1, TX1, 6, tyX1, rfl, by decide, tbX1, rfl, tb_in (List.mem_of_getElem? (i := 140) (by decide +kernel)) rfl, tyX1_ok, nmX1, rfl, rfl⟩
theorem fl_X3_9 : FL RX3 9 3 0 := ⟨RX3, TX3, 11, rfl, by decide, tbX3, rfl, tb_in (List.mem_of_getElem? (i := 191) (by decide +kernel)) rfl⟩
theorem fp_X3_9 : FP RX3 9 3 0 true (.array .char) := ⟨RX3, TX3, 11, tyX3, rfl, by decide, tbX3, rfl, tb_in (List.mem_of_getElem? (i := 191) (by decide +kernel)) rfl, tyX3_ok, nmX3, rfl, rfl⟩
theorem fl_X3_15 : FL RX3 15 3 1 := ⟨RX3, TX3, 11, rfl, by decide, tbX3, rfl, tb_in (List.mem_of_getElem? (i := 192) (by decide +kernel)) rfl⟩
theorem fp_X3_15 : FP RX3 15 3 1 false .int := ⟨RX3, TX3, 11, tyX3, rfl, by decide, tbX3, rfl, tb_in (List.mem_of_getElem? (i := 192) (by decide +kernel)) rfl, tyX3_ok, nmX3, rfl, rfl⟩
theorem fl_X3_19 : FL RX3 19 3 3 := ⟨RX3, TX3, 11, rfl, by decide, tbX3, rfl, tb_in (List.mem_of_getElem? (i := 196) (by decide +kernel)) rfl⟩
theorem fp_X3_19 : FP RX3 19 3 3 false .int := ⟨RX3, TX3, 11, tyX3, rfl, by decide, tbX3, rfl, tb_in (List.mem_of_getElem? (i := 196) (by decide +kernel)) rfl, tyX3_ok, nmX3, rfl, rfl⟩
theorem fl_X3_25 : FL RX3 25 3 2 := ⟨RX3, TX3, 11, rfl, by decide, tbX3, rfl, tb_in (List.mem_of_getElem? (i := 194) (by decide +kernel)) rfl⟩
theorem fp_X3_25 : FP RX3 25 3 2 false .int := ⟨RX3, TX3, 11, tyX3, rfl, by decide, tbX3, rfl, tb_in (List.mem_of_getElem? (i := 194) (by decide +kernel)) rfl, tyX3_ok, nmX3, rfl, rfl⟩
theorem fp_X3_36 : FP RX3 36 3 4 false .int := ⟨RX3, TX3, 11, tyX3, rfl, by decide, tbX3, rfl, tb_in (List.mem_of_getElem? (i := 197) (by decide +kernel)) rfl, tyX3_ok, nmX3, rfl, rfl⟩
theorem fl_X3_51 : FL RX3 51 3 7 := ⟨RX3, TX3, 11, rfl, by decide, tbX3, rfl, tb_in (List.mem_of_getElem? (i := 203) (by decide +kernel)) rfl⟩
theorem fp_X3_51 : FP RX3 51 3 7 false .int := ⟨RX3, TX3, 11, tyX3, rfl, by decide, tbX3, rfl, tb_in (List.mem_of_getElem? (i := 203) (by decide +kernel)) rfl, tyX3_ok, nmX3, rfl, rfl⟩
theorem fl_X3_58 : FL RX3 58 3 8 := ⟨RX3, TX3, 11, rfl, by decide, tbX3, rfl, tb_in (List.mem_of_getElem? (i := 205) (by decide +kernel)) rfl⟩
theorem fp_X3_58 : FP RX3 58 3 8 false .int := ⟨RX3, TX3, 11, tyX3, rfl, by decide, tbX3, rfl, tb_in (List.mem_of_getElem? (i := 205) (by decide +kernel)) rfl, tyX3_ok, nmX3, rfl, rfl⟩
theorem fl_X3_61 : FL RX3 61 3 9 := ⟨RX3, TX3, 11, rfl, by decide, tbX3, rfl, tb_in (List.mem_of_getElem? (i := 207) (by decide +kernel)) rfl⟩
theorem fp_X3_61 : FP RX3 61 3 9 false .int := ⟨RX3, TX3, 11, tyX3, rfl, by decide, tbX3, rfl, tb_in (List.mem_of_getElem? (i := 207) (by decide +kernel)) rfl, tyX3_ok, nmX3, rfl, rfl⟩
theorem fl_X3_64 : FL RX3 64 3 5 := ⟨RX3, TX3, 11, rfl, by decide, tbX3, rfl, tb_in (List.mem_of_getElem? (i := 199) (by decide +kernel)) rfl⟩
theorem fp_X3_64 : FP RX3 64 3 5 false .int := ⟨RX3, TX3, 11, tyX3, rfl, by decide, tbX3, rfl, tb_in (List.mem_of_getElem? (i := 199) (by decide +kernel)) rfl, tyX3_ok, nmX3, rfl, rfl⟩
theorem fl_X3_67 : FL RX3 67 3 6 := ⟨RX3, TX3, 11, rfl, by decide, tbX3, rfl, tb_in (List.mem_of_getElem? (i := 201) (by decide +kernel)) rfl⟩
theorem fp_X3_67 : FP RX3 67 3 6 false .int := ⟨RX3, TX3, 11, tyX3, rfl, by decide, tbX3, rfl, tb_in (List.mem_of_getElem? (i := 201) (by decide +kernel)) rfl, tyX3_ok, nmX3, rfl, rfl⟩
theorem fl_X3_70 : FL RX3 70 3 10 := ⟨RX3, TX3, 11, rfl, by decide, tbX3, rfl, tb_in (List.mem_of_getElem? (i := 209) (by decide +kernel)) rfl⟩
theorem fp_X3_70 : FP RX3 70 3 10 false .int := ⟨RX3, TX3, 11, tyX3, rfl, by decide, tbX3, rfl, tb_in (List.mem_of_getElem? (i := 209) (by decide +kernel)) rfl, tyX3_ok, nmX3, rfl, rfl⟩
theorem fl_X4_15 : FL RX4 15 4 0 := ⟨RX4, TX4, 3, rfl, by decide, tbX4, rfl, tb_in (List.mem_of_getElem? (i := 104) (by decide +kernel)) rfl⟩
theorem fp_X4_15 : FP RX4 15 4 0 true (.array .int) := ⟨RX4, TX4, 3, tyX4, rfl, by decide, tbX4, rfl, tb_in (List.mem_of_getElem? (i := 104) (by decide +kernel)) rfl, tyX4_ok, nmX4, rfl, rfl⟩
theorem fl_X4_21 : FL RX4 21 4 1 := ⟨RX4, TX4, 3, rfl, by decide, tbX4, rfl, tb_in (List.mem_of_getElem? (i := 105) (by decide +kernel)) rfl⟩
theorem fp_X4_21 : FP RX4 21 4 1 true (.array .int) := ⟨RX4, TX4, 3, tyX4, rfl, by decide, tbX4, rfl, tb_in (List.mem_of_getElem? (i := 105) (by decide +kernel)) rfl, tyX4_ok, nmX4, rfl, rfl⟩
theorem fl_X4_24 : FL RX4 24 4 2 := ⟨RX4, TX4, 3, rfl, by decide, tbX4, rfl, tb_in (List.mem_of_getElem? (i := 106) (by decide +kernel)) rfl⟩
theorem fp_X4_24 : FP RX4 24 4 2 false .int := ⟨RX4, TX4, 3, tyX4, rfl, by decide, tbX4, rfl, tb_in (List.mem_of_getElem? (i := 106) (by decide +kernel)) rfl, tyX4_ok, nmX4, rfl, rfl⟩
theorem fp_X5_7 : FP RX5 7 5 0 true .int := ⟨RX5, TX5, 4, tyX5, rfl, by decide, tbX5, rfl, tb_in (List.mem_of_getElem? (i := 369) (by decide +kernel)) rfl, tyX5_ok, nmX5, rfl, rfl⟩
theorem fl_X5_13 : FL RX5 13 5 1 := ⟨RX5, TX5, 4, rfl, by decide, tbX5, rfl, tb_in (List.mem_of_getElem? (i := 371) (by decide +kernel)) rfl⟩
theorem fp_X5_13 : FP RX5 13 5 1 true .int := ⟨RX5, TX5, 4, tyX5, rfl, by decide, tbX5, rfl, tb_in (List.mem_of_getElem? (i := 371) (by decide +kernel)) rfl, tyX5_ok, nmX5, rfl, rfl⟩
theorem fl_X5_16 : FL RX5 16 5 2 := ⟨RX5, TX5, 4, rfl, by decide, tbX5, rfl, tb_in (List.mem_of_getElem? (i := 374) (by decide +kernel)) rfl⟩
theorem fp_X5_16 : FP RX5 16 5 2 true .int := ⟨RX5, TX5, 4, tyX5, rfl, by decide, tbX5, rfl, tb_in (List.mem_of_getElem? (i := 374) (by decide +kernel)) rfl, tyX5_ok, nmX5, rfl, rfl⟩
theorem fp_X5_19 : FP RX5 19 5 3 true .int := ⟨RX5, TX5, 4, tyX5, rfl, by decide, tbX5, rfl, tb_in (List.mem_of_getElem? (i := 377) (by decide +kernel)) rfl, tyX5_ok, nmX5, rfl, rfl⟩
theorem fl_X6_12 : FL RX6 12 6 0 := ⟨RX6, TX6, 9, rfl, by decide, tbX6, rfl, tb_in (List.mem_of_getElem? (i := 235) (by decide +kernel)) rfl⟩
theorem fp_X6_12 : FP RX6 12 6 0 true (.object "BorderStamps$State") := ⟨RX6, TX6, 9, tyX6, rfl, by decide, tbX6, rfl, tb_in (List.mem_of_getElem? (i := 235) (by decide +kernel)) rfl, tyX6_ok, nmX6, rfl, rfl⟩
theorem fl_X6_16 : FL RX6 16 6 3 := ⟨RX6, TX6, 9, rfl, by decide, tbX6, rfl, tb_in (List.mem_of_getElem? (i := 238) (by decide +kernel)) rfl⟩
theorem fp_X6_16 : FP RX6 16 6 3 false (.object "BorderStamps$State") := ⟨RX6, TX6, 9, tyX6, rfl, by decide, tbX6, rfl, tb_in (List.mem_of_getElem? (i := 238) (by decide +kernel)) rfl, tyX6_ok, nmX6, rfl, rfl⟩
theorem fl_X6_19 : FL RX6 19 6 4 := ⟨RX6, TX6, 9, rfl, by decide, tbX6, rfl, tb_in (List.mem_of_getElem? (i := 239) (by decide +kernel)) rfl⟩
theorem fp_X6_19 : FP RX6 19 6 4 true (.object "BorderStamps$State") := ⟨RX6, TX6, 9, tyX6, rfl, by decide, tbX6, rfl, tb_in (List.mem_of_getElem? (i := 239) (by decide +kernel)) rfl, tyX6_ok, nmX6, rfl, rfl⟩
theorem fl_X6_22 : FL RX6 22 6 1 := ⟨RX6, TX6, 9, rfl, by decide, tbX6, rfl, tb_in (List.mem_of_getElem? (i := 236) (by decide +kernel)) rfl⟩
theorem fp_X6_22 : FP RX6 22 6 1 true (.array (.object "BorderStamps$State")) := ⟨RX6, TX6, 9, tyX6, rfl, by decide, tbX6, rfl, tb_in (List.mem_of_getElem? (i := 236) (by decide +kernel)) rfl, tyX6_ok, nmX6, rfl, rfl⟩
theorem fl_X6_29 : FL RX6 29 6 6 := ⟨RX6, TX6, 9, rfl, by decide, tbX6, rfl, tb_in (List.mem_of_getElem? (i := 241) (by decide +kernel)) rfl⟩
theorem fp_X6_29 : FP RX6 29 6 6 true (.object "BorderStamps$Text") := ⟨RX6, TX6, 9, tyX6, rfl, by decide, tbX6, rfl, tb_in (List.mem_of_getElem? (i := 241) (by decide +kernel)) rfl, tyX6_ok, nmX6, rfl, rfl⟩
theorem fl_X6_76 : FL RX6 76 3 2 := ⟨RX3, TX3, 11, rfl, by decide, tbX3, rfl, tb_in (List.mem_of_getElem? (i := 195) (by decide +kernel)) rfl⟩
theorem fl_X6_86 : FL RX6 86 6 7 := ⟨RX6, TX6, 9, rfl, by decide, tbX6, rfl, tb_in (List.mem_of_getElem? (i := 242) (by decide +kernel)) rfl⟩
theorem fp_X6_86 : FP RX6 86 6 7 false .int := ⟨RX6, TX6, 9, tyX6, rfl, by decide, tbX6, rfl, tb_in (List.mem_of_getElem? (i := 242) (by decide +kernel)) rfl, tyX6_ok, nmX6, rfl, rfl⟩
theorem fl_X6_89 : FL RX6 89 6 8 := ⟨RX6, TX6, 9, rfl, by decide, tbX6, rfl, tb_in (List.mem_of_getElem? (i := 243) (by decide +kernel)) rfl⟩
theorem fp_X6_89 : FP RX6 89 6 8 false .int := ⟨RX6, TX6, 9, tyX6, rfl, by decide, tbX6, rfl, tb_in (List.mem_of_getElem? (i := 243) (by decide +kernel)) rfl, tyX6_ok, nmX6, rfl, rfl⟩
theorem fl_X6_96 : FL RX6 96 6 2 := ⟨RX6, TX6, 9, rfl, by decide, tbX6, rfl, tb_in (List.mem_of_getElem? (i := 237) (by decide +kernel)) rfl⟩
theorem fp_X6_96 : FP RX6 96 6 2 false .int := ⟨RX6, TX6, 9, tyX6, rfl, by decide, tbX6, rfl, tb_in (List.mem_of_getElem? (i := 237) (by decide +kernel)) rfl, tyX6_ok, nmX6, rfl, rfl⟩
theorem fl_X6_99 : FL RX6 99 6 5 := ⟨RX6, TX6, 9, rfl, by decide, tbX6, rfl, tb_in (List.mem_of_getElem? (i := 240) (by decide +kernel)) rfl⟩
theorem fp_X6_99 : FP RX6 99 6 5 false .boolean := ⟨RX6, TX6, 9, tyX6, rfl, by decide, tbX6, rfl, tb_in (List.mem_of_getElem? (i := 240) (by decide +kernel)) rfl, tyX6_ok, nmX6, rfl, rfl⟩
theorem fl_X6_103 : FL RX6 103 2 0 := ⟨RX2, TX2, 5, rfl, by decide, tbX2, rfl, tb_in (List.mem_of_getElem? (i := 165) (by decide +kernel)) rfl⟩
theorem fl_X6_110 : FL RX6 110 1 0 := ⟨RX1, TX1, 6, rfl, by decide, tbX1, rfl, tb_in (List.mem_of_getElem? (i := 138) (by decide +kernel)) rfl⟩
theorem fl_X6_121 : FL RX6 121 1 4 := ⟨RX1, TX1, 6, rfl, by decide, tbX1, rfl, tb_in (List.mem_of_getElem? (i := 149) (by decide +kernel)) rfl⟩
theorem fl_X6_136 : FL RX6 136 1 1 := ⟨RX1, TX1, 6, rfl, by decide, tbX1, rfl, tb_in (List.mem_of_getElem? (i := 141) (by decide +kernel)) rfl⟩
theorem fl_X6_139 : FL RX6 139 1 2 := ⟨RX1, TX1, 6, rfl, by decide, tbX1, rfl, tb_in (List.mem_of_getElem? (i := 143) (by decide +kernel)) rfl⟩
theorem fl_X6_168 : FL RX6 168 5 1 := ⟨RX5, TX5, 4, rfl, by decide, tbX5, rfl, tb_in (List.mem_of_getElem? (i := 373) (by decide +kernel)) rfl⟩
theorem fl_X6_173 : FL RX6 173 5 2 := ⟨RX5, TX5, 4, rfl, by decide, tbX5, rfl, tb_in (List.mem_of_getElem? (i := 376) (by decide +kernel)) rfl⟩
theorem fl_X6_176 : FL RX6 176 5 3 := ⟨RX5, TX5, 4, rfl, by decide, tbX5, rfl, tb_in (List.mem_of_getElem? (i := 379) (by decide +kernel)) rfl⟩
theorem fl_X6_194 : FL RX6 194 0 0 := ⟨RX0, TX0, 2, rfl, by decide, tbX0, rfl, tb_in (List.mem_of_getElem? (i := 127) (by decide +kernel)) rfl⟩
theorem fl_X6_198 : FL RX6 198 1 3 := ⟨RX1, TX1, 6, rfl, by decide, tbX1, rfl, tb_in (List.mem_of_getElem? (i := 146) (by decide +kernel)) rfl⟩
theorem fl_X6_218 : FL RX6 218 2 1 := ⟨RX2, TX2, 5, rfl, by decide, tbX2, rfl, tb_in (List.mem_of_getElem? (i := 167) (by decide +kernel)) rfl⟩
theorem fl_X6_221 : FL RX6 221 2 4 := ⟨RX2, TX2, 5, rfl, by decide, tbX2, rfl, tb_in (List.mem_of_getElem? (i := 172) (by decide +kernel)) rfl⟩
theorem fl_X6_228 : FL RX6 228 2 2 := ⟨RX2, TX2, 5, rfl, by decide, tbX2, rfl, tb_in (List.mem_of_getElem? (i := 169) (by decide +kernel)) rfl⟩
theorem fl_X6_231 : FL RX6 231 3 1 := ⟨RX3, TX3, 11, rfl, by decide, tbX3, rfl, tb_in (List.mem_of_getElem? (i := 193) (by decide +kernel)) rfl⟩
theorem fl_X6_244 : FL RX6 244 3 4 := ⟨RX3, TX3, 11, rfl, by decide, tbX3, rfl, tb_in (List.mem_of_getElem? (i := 198) (by decide +kernel)) rfl⟩
theorem fl_X6_247 : FL RX6 247 3 5 := ⟨RX3, TX3, 11, rfl, by decide, tbX3, rfl, tb_in (List.mem_of_getElem? (i := 200) (by decide +kernel)) rfl⟩
theorem fl_X6_250 : FL RX6 250 3 6 := ⟨RX3, TX3, 11, rfl, by decide, tbX3, rfl, tb_in (List.mem_of_getElem? (i := 202) (by decide +kernel)) rfl⟩
theorem fl_X6_253 : FL RX6 253 3 7 := ⟨RX3, TX3, 11, rfl, by decide, tbX3, rfl, tb_in (List.mem_of_getElem? (i := 204) (by decide +kernel)) rfl⟩
theorem fl_X6_256 : FL RX6 256 3 8 := ⟨RX3, TX3, 11, rfl, by decide, tbX3, rfl, tb_in (List.mem_of_getElem? (i := 206) (by decide +kernel)) rfl⟩
theorem fl_X6_257 : FL RX6 257 3 9 := ⟨RX3, TX3, 11, rfl, by decide, tbX3, rfl, tb_in (List.mem_of_getElem? (i := 208) (by decide +kernel)) rfl⟩
theorem fl_X6_258 : FL RX6 258 3 10 := ⟨RX3, TX3, 11, rfl, by decide, tbX3, rfl, tb_in (List.mem_of_getElem? (i := 210) (by decide +kernel)) rfl⟩
theorem fl_X7_7 : FL RX7 7 7 0 := ⟨RX7, TX7, 19, rfl, by decide, tbX7, rfl, tb_in (List.mem_of_getElem? (i := 718) (by decide +kernel)) rfl⟩
theorem fp_X7_7 : FP RX7 7 7 0 true (.array .int) := ⟨RX7, TX7, 19, tyX7, rfl, by decide, tbX7, rfl, tb_in (List.mem_of_getElem? (i := 718) (by decide +kernel)) rfl, tyX7_ok, nmX7, rfl, rfl⟩
theorem fl_X7_13 : FL RX7 13 7 1 := ⟨RX7, TX7, 19, rfl, by decide, tbX7, rfl, tb_in (List.mem_of_getElem? (i := 719) (by decide +kernel)) rfl⟩
theorem fp_X7_13 : FP RX7 13 7 1 true (.array .int) := ⟨RX7, TX7, 19, tyX7, rfl, by decide, tbX7, rfl, tb_in (List.mem_of_getElem? (i := 719) (by decide +kernel)) rfl, tyX7_ok, nmX7, rfl, rfl⟩
theorem fl_X7_16 : FL RX7 16 7 2 := ⟨RX7, TX7, 19, rfl, by decide, tbX7, rfl, tb_in (List.mem_of_getElem? (i := 720) (by decide +kernel)) rfl⟩
theorem fp_X7_16 : FP RX7 16 7 2 true (.array .int) := ⟨RX7, TX7, 19, tyX7, rfl, by decide, tbX7, rfl, tb_in (List.mem_of_getElem? (i := 720) (by decide +kernel)) rfl, tyX7_ok, nmX7, rfl, rfl⟩
theorem fl_X7_19 : FL RX7 19 7 4 := ⟨RX7, TX7, 19, rfl, by decide, tbX7, rfl, tb_in (List.mem_of_getElem? (i := 722) (by decide +kernel)) rfl⟩
theorem fp_X7_19 : FP RX7 19 7 4 true (.array .int) := ⟨RX7, TX7, 19, tyX7, rfl, by decide, tbX7, rfl, tb_in (List.mem_of_getElem? (i := 722) (by decide +kernel)) rfl, tyX7_ok, nmX7, rfl, rfl⟩
theorem fl_X7_22 : FL RX7 22 7 6 := ⟨RX7, TX7, 19, rfl, by decide, tbX7, rfl, tb_in (List.mem_of_getElem? (i := 724) (by decide +kernel)) rfl⟩
theorem fp_X7_22 : FP RX7 22 7 6 true (.array .int) := ⟨RX7, TX7, 19, tyX7, rfl, by decide, tbX7, rfl, tb_in (List.mem_of_getElem? (i := 724) (by decide +kernel)) rfl, tyX7_ok, nmX7, rfl, rfl⟩
theorem fl_X7_25 : FL RX7 25 7 8 := ⟨RX7, TX7, 19, rfl, by decide, tbX7, rfl, tb_in (List.mem_of_getElem? (i := 726) (by decide +kernel)) rfl⟩
theorem fp_X7_25 : FP RX7 25 7 8 false .int := ⟨RX7, TX7, 19, tyX7, rfl, by decide, tbX7, rfl, tb_in (List.mem_of_getElem? (i := 726) (by decide +kernel)) rfl, tyX7_ok, nmX7, rfl, rfl⟩
theorem fl_X7_29 : FL RX7 29 7 9 := ⟨RX7, TX7, 19, rfl, by decide, tbX7, rfl, tb_in (List.mem_of_getElem? (i := 727) (by decide +kernel)) rfl⟩
theorem fp_X7_29 : FP RX7 29 7 9 false .int := ⟨RX7, TX7, 19, tyX7, rfl, by decide, tbX7, rfl, tb_in (List.mem_of_getElem? (i := 727) (by decide +kernel)) rfl, tyX7_ok, nmX7, rfl, rfl⟩
theorem fl_X7_47 : FL RX7 47 7 3 := ⟨RX7, TX7, 19, rfl, by decide, tbX7, rfl, tb_in (List.mem_of_getElem? (i := 721) (by decide +kernel)) rfl⟩
theorem fp_X7_47 : FP RX7 47 7 3 false .int := ⟨RX7, TX7, 19, tyX7, rfl, by decide, tbX7, rfl, tb_in (List.mem_of_getElem? (i := 721) (by decide +kernel)) rfl, tyX7_ok, nmX7, rfl, rfl⟩
theorem fl_X7_147 : FL RX7 147 7 7 := ⟨RX7, TX7, 19, rfl, by decide, tbX7, rfl, tb_in (List.mem_of_getElem? (i := 725) (by decide +kernel)) rfl⟩
theorem fp_X7_147 : FP RX7 147 7 7 false .int := ⟨RX7, TX7, 19, tyX7, rfl, by decide, tbX7, rfl, tb_in (List.mem_of_getElem? (i := 725) (by decide +kernel)) rfl, tyX7_ok, nmX7, rfl, rfl⟩
theorem fl_X7_150 : FL RX7 150 7 11 := ⟨RX7, TX7, 19, rfl, by decide, tbX7, rfl, tb_in (List.mem_of_getElem? (i := 729) (by decide +kernel)) rfl⟩
theorem fp_X7_150 : FP RX7 150 7 11 false .boolean := ⟨RX7, TX7, 19, tyX7, rfl, by decide, tbX7, rfl, tb_in (List.mem_of_getElem? (i := 729) (by decide +kernel)) rfl, tyX7_ok, nmX7, rfl, rfl⟩
theorem fl_X7_154 : FL RX7 154 7 10 := ⟨RX7, TX7, 19, rfl, by decide, tbX7, rfl, tb_in (List.mem_of_getElem? (i := 728) (by decide +kernel)) rfl⟩
theorem fp_X7_154 : FP RX7 154 7 10 false .int := ⟨RX7, TX7, 19, tyX7, rfl, by decide, tbX7, rfl, tb_in (List.mem_of_getElem? (i := 728) (by decide +kernel)) rfl, tyX7_ok, nmX7, rfl, rfl⟩
theorem fl_X7_166 : FL RX7 166 7 15 := ⟨RX7, TX7, 19, rfl, by decide, tbX7, rfl, tb_in (List.mem_of_getElem? (i := 733) (by decide +kernel)) rfl⟩
theorem fp_X7_166 : FP RX7 166 7 15 false .int := ⟨RX7, TX7, 19, tyX7, rfl, by decide, tbX7, rfl, tb_in (List.mem_of_getElem? (i := 733) (by decide +kernel)) rfl, tyX7_ok, nmX7, rfl, rfl⟩
theorem fl_X7_169 : FL RX7 169 7 16 := ⟨RX7, TX7, 19, rfl, by decide, tbX7, rfl, tb_in (List.mem_of_getElem? (i := 734) (by decide +kernel)) rfl⟩
theorem fp_X7_169 : FP RX7 169 7 16 false .int := ⟨RX7, TX7, 19, tyX7, rfl, by decide, tbX7, rfl, tb_in (List.mem_of_getElem? (i := 734) (by decide +kernel)) rfl, tyX7_ok, nmX7, rfl, rfl⟩
theorem fl_X7_172 : FL RX7 172 7 17 := ⟨RX7, TX7, 19, rfl, by decide, tbX7, rfl, tb_in (List.mem_of_getElem? (i := 735) (by decide +kernel)) rfl⟩
theorem fp_X7_172 : FP RX7 172 7 17 false .int := ⟨RX7, TX7, 19, tyX7, rfl, by decide, tbX7, rfl, tb_in (List.mem_of_getElem? (i := 735) (by decide +kernel)) rfl, tyX7_ok, nmX7, rfl, rfl⟩
theorem fl_X7_175 : FL RX7 175 7 12 := ⟨RX7, TX7, 19, rfl, by decide, tbX7, rfl, tb_in (List.mem_of_getElem? (i := 730) (by decide +kernel)) rfl⟩
theorem fp_X7_175 : FP RX7 175 7 12 false .int := ⟨RX7, TX7, 19, tyX7, rfl, by decide, tbX7, rfl, tb_in (List.mem_of_getElem? (i := 730) (by decide +kernel)) rfl, tyX7_ok, nmX7, rfl, rfl⟩
theorem fl_X7_178 : FL RX7 178 7 13 := ⟨RX7, TX7, 19, rfl, by decide, tbX7, rfl, tb_in (List.mem_of_getElem? (i := 731) (by decide +kernel)) rfl⟩
theorem fp_X7_178 : FP RX7 178 7 13 false .int := ⟨RX7, TX7, 19, tyX7, rfl, by decide, tbX7, rfl, tb_in (List.mem_of_getElem? (i := 731) (by decide +kernel)) rfl, tyX7_ok, nmX7, rfl, rfl⟩
theorem fl_X7_181 : FL RX7 181 7 14 := ⟨RX7, TX7, 19, rfl, by decide, tbX7, rfl, tb_in (List.mem_of_getElem? (i := 732) (by decide +kernel)) rfl⟩
theorem fp_X7_181 : FP RX7 181 7 14 false .int := ⟨RX7, TX7, 19, tyX7, rfl, by decide, tbX7, rfl, tb_in (List.mem_of_getElem? (i := 732) (by decide +kernel)) rfl, tyX7_ok, nmX7, rfl, rfl⟩
theorem fl_X7_190 : FL RX7 190 7 18 := ⟨RX7, TX7, 19, rfl, by decide, tbX7, rfl, tb_in (List.mem_of_getElem? (i := 736) (by decide +kernel)) rfl⟩
theorem fp_X7_190 : FP RX7 190 7 18 false .int := ⟨RX7, TX7, 19, tyX7, rfl, by decide, tbX7, rfl, tb_in (List.mem_of_getElem? (i := 736) (by decide +kernel)) rfl, tyX7_ok, nmX7, rfl, rfl⟩
theorem fl_X7_209 : FL RX7 209 7 5 := ⟨RX7, TX7, 19, rfl, by decide, tbX7, rfl, tb_in (List.mem_of_getElem? (i := 723) (by decide +kernel)) rfl⟩
theorem fp_X7_209 : FP RX7 209 7 5 false .boolean := ⟨RX7, TX7, 19, tyX7, rfl, by decide, tbX7, rfl, tb_in (List.mem_of_getElem? (i := 723) (by decide +kernel)) rfl, tyX7_ok, nmX7, rfl, rfl⟩
theorem nw_L_7 : NW RL 7 6 9 [.null, .null, .int 0, .null, .null, .int 0, .null, .int 0, .int 0] := ⟨RX6, TX6, tyX6, rfl, tbX6, tyX6_ok, fun j hj => by rcases (show j = 0 ∨ j = 1 ∨ j = 2 ∨ j = 3 ∨ j = 4 ∨ j = 5 ∨ j = 6 ∨ j = 7 ∨ j = 8 by omega) with rfl | rfl | rfl | rfl | rfl | rfl | rfl | rfl | rfl <;> rfl, tb_in (List.mem_of_getElem? (i := 74) (by decide +kernel)) rfl, tb_in (List.mem_of_getElem? (i := 75) (by decide +kernel)) rfl, tb_in (List.mem_of_getElem? (i := 62) (by decide +kernel)) rfl⟩
theorem lk_L_9 : Cond.methodLink RL 9 yX6_init ∈ tb := tb_in (List.mem_of_getElem? (i := 76) (by decide +kernel)) rfl
theorem nw_L_10 : NW RL 10 7 19 [.null, .null, .null, .int 0, .null, .int 0, .null, .int 0, .int 0, .int 0, .int 0, .int 0, .int 0, .int 0, .int 0, .int 0, .int 0, .int 0, .int 0] := ⟨RX7, TX7, tyX7, rfl, tbX7, tyX7_ok, fun j hj => by rcases (show j = 0 ∨ j = 1 ∨ j = 2 ∨ j = 3 ∨ j = 4 ∨ j = 5 ∨ j = 6 ∨ j = 7 ∨ j = 8 ∨ j = 9 ∨ j = 10 ∨ j = 11 ∨ j = 12 ∨ j = 13 ∨ j = 14 ∨ j = 15 ∨ j = 16 ∨ j = 17 ∨ j = 18 by omega) with rfl | rfl | rfl | rfl | rfl | rfl | rfl | rfl | rfl | rfl | rfl | rfl | rfl | rfl | rfl | rfl | rfl | rfl | rfl <;> rfl, tb_in (List.mem_of_getElem? (i := 712) (by decide +kernel)) rfl, tb_in (List.mem_of_getElem? (i := 713) (by decide +kernel)) rfl, tb_in (List.mem_of_getElem? (i := 69) (by decide +kernel)) rfl⟩
theorem lk_L_12 : Cond.methodLink RL 12 yX7_init ∈ tb := tb_in (List.mem_of_getElem? (i := 714) (by decide +kernel)) rfl
theorem lk_L_13 : Cond.methodLink RL 13 yX6_issue ∈ tb := tb_in (List.mem_of_getElem? (i := 263) (by decide +kernel)) rfl
theorem lk_L_17 : Cond.methodLink RL 17 yX7_issue ∈ tb := tb_in (List.mem_of_getElem? (i := 776) (by decide +kernel)) rfl
theorem lk_L_18 : Cond.methodLink RL 18 yX6_renew ∈ tb := tb_in (List.mem_of_getElem? (i := 334) (by decide +kernel)) rfl
theorem lk_L_21 : Cond.methodLink RL 21 yX7_renew ∈ tb := tb_in (List.mem_of_getElem? (i := 797) (by decide +kernel)) rfl
theorem lk_L_22 : Cond.methodLink RL 22 yX6_grant ∈ tb := tb_in (List.mem_of_getElem? (i := 352) (by decide +kernel)) rfl
theorem lk_L_26 : Cond.methodLink RL 26 yX7_grant ∈ tb := tb_in (List.mem_of_getElem? (i := 809) (by decide +kernel)) rfl
theorem lk_L_27 : Cond.methodLink RL 27 yX6_revoke ∈ tb := tb_in (List.mem_of_getElem? (i := 402) (by decide +kernel)) rfl
theorem lk_L_31 : Cond.methodLink RL 31 yX7_revoke ∈ tb := tb_in (List.mem_of_getElem? (i := 864) (by decide +kernel)) rfl
theorem lk_L_32 : Cond.methodLink RL 32 yX6_turnBorder ∈ tb := tb_in (List.mem_of_getElem? (i := 414) (by decide +kernel)) rfl
theorem lk_L_35 : Cond.methodLink RL 35 yX7_turnBorder ∈ tb := tb_in (List.mem_of_getElem? (i := 872) (by decide +kernel)) rfl
theorem lk_L_36 : Cond.methodLink RL 36 yX6_cross ∈ tb := tb_in (List.mem_of_getElem? (i := 437) (by decide +kernel)) rfl
theorem lk_L_40 : Cond.methodLink RL 40 yX7_cross ∈ tb := tb_in (List.mem_of_getElem? (i := 883) (by decide +kernel)) rfl
theorem lk_L_41 : Cond.methodLink RL 41 yX6_pass ∈ tb := tb_in (List.mem_of_getElem? (i := 497) (by decide +kernel)) rfl
theorem lk_L_44 : Cond.methodLink RL 44 yX7_pass ∈ tb := tb_in (List.mem_of_getElem? (i := 915) (by decide +kernel)) rfl
theorem lk_L_45 : Cond.methodLink RL 45 yX6_type ∈ tb := tb_in (List.mem_of_getElem? (i := 509) (by decide +kernel)) rfl
theorem lk_L_49 : Cond.methodLink RL 49 yX7_type ∈ tb := tb_in (List.mem_of_getElem? (i := 931) (by decide +kernel)) rfl
theorem lk_L_50 : Cond.methodLink RL 50 yX6_clearText ∈ tb := tb_in (List.mem_of_getElem? (i := 517) (by decide +kernel)) rfl
theorem lk_L_54 : Cond.methodLink RL 54 yX7_clearText ∈ tb := tb_in (List.mem_of_getElem? (i := 935) (by decide +kernel)) rfl
theorem lk_L_55 : Cond.methodLink RL 55 yX6_perform ∈ tb := tb_in (List.mem_of_getElem? (i := 525) (by decide +kernel)) rfl
theorem lk_L_58 : Cond.methodLink RL 58 yX7_perform ∈ tb := tb_in (List.mem_of_getElem? (i := 939) (by decide +kernel)) rfl
theorem lk_L_59 : Cond.methodLink RL 59 yX6_stopped ∈ tb := tb_in (List.mem_of_getElem? (i := 576) (by decide +kernel)) rfl
theorem lk_L_62 : Cond.methodLink RL 62 yX7_stopped ∈ tb := tb_in (List.mem_of_getElem? (i := 983) (by decide +kernel)) rfl
theorem lk_L_63 : Cond.methodLink RL 63 yX6_undo ∈ tb := tb_in (List.mem_of_getElem? (i := 580) (by decide +kernel)) rfl
theorem lk_L_66 : Cond.methodLink RL 66 yX7_undo ∈ tb := tb_in (List.mem_of_getElem? (i := 987) (by decide +kernel)) rfl
theorem lk_L_67 : Cond.methodLink RL 67 yX6_keep ∈ tb := tb_in (List.mem_of_getElem? (i := 584) (by decide +kernel)) rfl
theorem lk_L_70 : Cond.methodLink RL 70 yX7_keep ∈ tb := tb_in (List.mem_of_getElem? (i := 991) (by decide +kernel)) rfl
theorem lk_L_71 : Cond.methodLink RL 71 yX6_restore ∈ tb := tb_in (List.mem_of_getElem? (i := 588) (by decide +kernel)) rfl
theorem lk_L_74 : Cond.methodLink RL 74 yX7_restore ∈ tb := tb_in (List.mem_of_getElem? (i := 995) (by decide +kernel)) rfl
theorem lk_L_75 : Cond.methodLink RL 75 yX6_passport ∈ tb := tb_in (List.mem_of_getElem? (i := 592) (by decide +kernel)) rfl
theorem lk_L_78 : Cond.methodLink RL 78 yX7_passport ∈ tb := tb_in (List.mem_of_getElem? (i := 999) (by decide +kernel)) rfl
theorem lk_L_79 : Cond.methodLink RL 79 yX6_stamp ∈ tb := tb_in (List.mem_of_getElem? (i := 633) (by decide +kernel)) rfl
theorem lk_L_82 : Cond.methodLink RL 82 yX7_stamp ∈ tb := tb_in (List.mem_of_getElem? (i := 1019) (by decide +kernel)) rfl
theorem lk_L_83 : Cond.methodLink RL 83 yX6_visa ∈ tb := tb_in (List.mem_of_getElem? (i := 649) (by decide +kernel)) rfl
theorem lk_L_86 : Cond.methodLink RL 86 yX7_visa ∈ tb := tb_in (List.mem_of_getElem? (i := 1023) (by decide +kernel)) rfl
theorem lk_L_87 : Cond.methodLink RL 87 yX6_reason ∈ tb := tb_in (List.mem_of_getElem? (i := 657) (by decide +kernel)) rfl
theorem lk_L_90 : Cond.methodLink RL 90 yX7_reason ∈ tb := tb_in (List.mem_of_getElem? (i := 1027) (by decide +kernel)) rfl
theorem lk_L_91 : Cond.methodLink RL 91 yX6_stay ∈ tb := tb_in (List.mem_of_getElem? (i := 662) (by decide +kernel)) rfl
theorem lk_L_95 : Cond.methodLink RL 95 yX7_stay ∈ tb := tb_in (List.mem_of_getElem? (i := 1031) (by decide +kernel)) rfl
theorem lk_L_96 : Cond.methodLink RL 96 yX6_wayTo ∈ tb := tb_in (List.mem_of_getElem? (i := 669) (by decide +kernel)) rfl
theorem lk_L_99 : Cond.methodLink RL 99 yX7_wayTo ∈ tb := tb_in (List.mem_of_getElem? (i := 1039) (by decide +kernel)) rfl
theorem lk_L_100 : Cond.methodLink RL 100 yX6_daysLeft ∈ tb := tb_in (List.mem_of_getElem? (i := 685) (by decide +kernel)) rfl
theorem lk_L_103 : Cond.methodLink RL 103 yX7_daysLeft ∈ tb := tb_in (List.mem_of_getElem? (i := 1047) (by decide +kernel)) rfl
theorem lk_L_104 : Cond.methodLink RL 104 yX6_mistold ∈ tb := tb_in (List.mem_of_getElem? (i := 690) (by decide +kernel)) rfl
theorem lk_L_107 : Cond.methodLink RL 107 yX7_mistold ∈ tb := tb_in (List.mem_of_getElem? (i := 1051) (by decide +kernel)) rfl
theorem lk_L_108 : Cond.methodLink RL 108 yX6_holders ∈ tb := tb_in (List.mem_of_getElem? (i := 694) (by decide +kernel)) rfl
theorem lk_L_112 : Cond.methodLink RL 112 yX7_holders ∈ tb := tb_in (List.mem_of_getElem? (i := 1055) (by decide +kernel)) rfl
theorem lk_L_113 : Cond.methodLink RL 113 yX6_count ∈ tb := tb_in (List.mem_of_getElem? (i := 698) (by decide +kernel)) rfl
theorem lk_L_116 : Cond.methodLink RL 116 yX7_count ∈ tb := tb_in (List.mem_of_getElem? (i := 1059) (by decide +kernel)) rfl
theorem lk_X0_38 : Cond.methodLink RX0 38 yX0_addStamp ∈ tb := tb_in (List.mem_of_getElem? (i := 483) (by decide +kernel)) rfl
theorem lk_X0_42 : Cond.methodLink RX0 42 yX0_stamps ∈ tb := tb_in (List.mem_of_getElem? (i := 487) (by decide +kernel)) rfl
theorem lk_X0_46 : Cond.methodLink RX0 46 yX4_add ∈ tb := tb_in (List.mem_of_getElem? (i := 488) (by decide +kernel)) rfl
theorem lk_X0_34 : Cond.methodLink RX0 34 yX4_begin ∈ tb := tb_in (List.mem_of_getElem? (i := 325) (by decide +kernel)) rfl
theorem lk_X0_24 : Cond.methodLink RX0 24 yX4_copyFrom ∈ tb := tb_in (List.mem_of_getElem? (i := 289) (by decide +kernel)) rfl
theorem lk_X0_28 : Cond.methodLink RX0 28 arraycopyName ∈ tb := tb_in (List.mem_of_getElem? (i := 290) (by decide +kernel)) rfl
theorem lk_X0_57 : Cond.methodLink RX0 57 yX0_hasStamp ∈ tb := tb_in (List.mem_of_getElem? (i := 624) (by decide +kernel)) rfl
theorem lk_X0_53 : Cond.methodLink RX0 53 yX4_dayAfter ∈ tb := tb_in (List.mem_of_getElem? (i := 642) (by decide +kernel)) rfl
theorem lk_X0_70 : Cond.methodLink RX0 70 yX0_isGap ∈ tb := tb_in (List.mem_of_getElem? (i := 607) (by decide +kernel)) rfl
theorem lk_X0_3 : Cond.methodLink RX0 3 objectInit ∈ tb := tb_in (List.mem_of_getElem? (i := 122) (by decide +kernel)) rfl
theorem nw_X0_9 : NW RX0 9 4 3 [.null, .null, .int 0] := ⟨RX4, TX4, tyX4, rfl, tbX4, tyX4_ok, fun j hj => by rcases (show j = 0 ∨ j = 1 ∨ j = 2 by omega) with rfl | rfl | rfl <;> rfl, tb_in (List.mem_of_getElem? (i := 123) (by decide +kernel)) rfl, tb_in (List.mem_of_getElem? (i := 96) (by decide +kernel)) rfl, tb_in (List.mem_of_getElem? (i := 65) (by decide +kernel)) rfl⟩
theorem lk_X0_11 : Cond.methodLink RX0 11 yX4_init ∈ tb := tb_in (List.mem_of_getElem? (i := 124) (by decide +kernel)) rfl
theorem lk_X0_61 : Cond.methodLink RX0 61 yX4_placeAfter ∈ tb := tb_in (List.mem_of_getElem? (i := 615) (by decide +kernel)) rfl
theorem lk_X0_64 : Cond.methodLink RX0 64 yX0_isEntry ∈ tb := tb_in (List.mem_of_getElem? (i := 611) (by decide +kernel)) rfl
theorem lk_X0_67 : Cond.methodLink RX0 67 yX0_countryOf ∈ tb := tb_in (List.mem_of_getElem? (i := 620) (by decide +kernel)) rfl
theorem lk_X1_50 : Cond.methodLink RX1 50 yX4_begin ∈ tb := tb_in (List.mem_of_getElem? (i := 305) (by decide +kernel)) rfl
theorem lk_X1_54 : Cond.methodLink RX1 54 yX1_beginBook ∈ tb := tb_in (List.mem_of_getElem? (i := 309) (by decide +kernel)) rfl
theorem lk_X1_57 : Cond.methodLink RX1 57 yX1_place ∈ tb := tb_in (List.mem_of_getElem? (i := 313) (by decide +kernel)) rfl
theorem lk_X1_61 : Cond.methodLink RX1 61 yX0_begin ∈ tb := tb_in (List.mem_of_getElem? (i := 321) (by decide +kernel)) rfl
theorem lk_X1_43 : Cond.methodLink RX1 43 yX4_copyFrom ∈ tb := tb_in (List.mem_of_getElem? (i := 275) (by decide +kernel)) rfl
theorem lk_X1_47 : Cond.methodLink RX1 47 yX0_copyFrom ∈ tb := tb_in (List.mem_of_getElem? (i := 285) (by decide +kernel)) rfl
theorem lk_X1_90 : Cond.methodLink RX1 90 yX1_visaFor ∈ tb := tb_in (List.mem_of_getElem? (i := 464) (by decide +kernel)) rfl
theorem lk_X1_94 : Cond.methodLink RX1 94 yX5_isValidOn ∈ tb := tb_in (List.mem_of_getElem? (i := 465) (by decide +kernel)) rfl
theorem lk_X1_3 : Cond.methodLink RX1 3 objectInit ∈ tb := tb_in (List.mem_of_getElem? (i := 94) (by decide +kernel)) rfl
theorem nw_X1_9 : NW RX1 9 4 3 [.null, .null, .int 0] := ⟨RX4, TX4, tyX4, rfl, tbX4, tyX4_ok, fun j hj => by rcases (show j = 0 ∨ j = 1 ∨ j = 2 by omega) with rfl | rfl | rfl <;> rfl, tb_in (List.mem_of_getElem? (i := 95) (by decide +kernel)) rfl, tb_in (List.mem_of_getElem? (i := 96) (by decide +kernel)) rfl, tb_in (List.mem_of_getElem? (i := 65) (by decide +kernel)) rfl⟩
theorem lk_X1_11 : Cond.methodLink RX1 11 yX4_init ∈ tb := tb_in (List.mem_of_getElem? (i := 97) (by decide +kernel)) rfl
theorem nw_X1_20 : NW RX1 20 0 2 [.null, .null] := ⟨RX0, TX0, tyX0, rfl, tbX0, tyX0_ok, fun j hj => by rcases (show j = 0 ∨ j = 1 by omega) with rfl | rfl <;> rfl, tb_in (List.mem_of_getElem? (i := 117) (by decide +kernel)) rfl, tb_in (List.mem_of_getElem? (i := 118) (by decide +kernel)) rfl, tb_in (List.mem_of_getElem? (i := 67) (by decide +kernel)) rfl⟩
theorem lk_X1_22 : Cond.methodLink RX1 22 yX0_init ∈ tb := tb_in (List.mem_of_getElem? (i := 119) (by decide +kernel)) rfl
theorem cl_X1_27 : Cond.classLink RX1 27 RX5 ∈ tb := tb_in (List.mem_of_getElem? (i := 134) (by decide +kernel)) rfl
theorem lk_X1_98 : Cond.methodLink RX1 98 yX1_usedDays ∈ tb := tb_in (List.mem_of_getElem? (i := 474) (by decide +kernel)) rfl
theorem lk_X1_62 : Cond.methodLink RX1 62 yX4_lastPlace ∈ tb := tb_in (List.mem_of_getElem? (i := 317) (by decide +kernel)) rfl
theorem lk_X1_80 : Cond.methodLink RX1 80 yJ9_min_7cf53 ∈ tb := tb_in (List.mem_of_getElem? (i := 397) (by decide +kernel)) rfl
theorem lk_X1_86 : Cond.methodLink RX1 86 yX4_daysIn ∈ tb := tb_in (List.mem_of_getElem? (i := 398) (by decide +kernel)) rfl
theorem lk_X1_105 : Cond.methodLink RX1 105 yX1_hasValidVisa ∈ tb := tb_in (List.mem_of_getElem? (i := 711) (by decide +kernel)) rfl
theorem lk_X2_46 : (RX2, 46, yX6_isCountry, RX6) ∈ nests := by decide +kernel
theorem lk_X2_50 : Cond.methodLink RX2 50 yX1_begin ∈ tb := tb_in (List.mem_of_getElem? (i := 301) (by decide +kernel)) rfl
theorem lk_X2_155 : Cond.methodLink RX2 155 yJ9_min_7cf53 ∈ tb := tb_in (List.mem_of_getElem? (i := 425) (by decide +kernel)) rfl
theorem lk_X2_161 : Cond.methodLink RX2 161 yJ9_max_7cf53 ∈ tb := tb_in (List.mem_of_getElem? (i := 426) (by decide +kernel)) rfl
theorem lk_X2_40 : Cond.methodLink RX2 40 yJ13_bitCount_95d88 ∈ tb := tb_in (List.mem_of_getElem? (i := 431) (by decide +kernel)) rfl
theorem lk_X2_32 : Cond.methodLink RX2 32 yX1_copyFrom ∈ tb := tb_in (List.mem_of_getElem? (i := 271) (by decide +kernel)) rfl
theorem lk_X2_112 : Cond.methodLink RX2 112 yX1_place ∈ tb := tb_in (List.mem_of_getElem? (i := 455) (by decide +kernel)) rfl
theorem lk_X2_133 : Cond.methodLink RX2 133 yX1_mayBeIn ∈ tb := tb_in (List.mem_of_getElem? (i := 470) (by decide +kernel)) rfl
theorem lk_X2_36 : (RX2, 36, yX6_isWithin, RX6) ∈ nests := by decide +kernel
theorem lk_X2_130 : Cond.methodLink RX2 130 yX2_endDay ∈ tb := tb_in (List.mem_of_getElem? (i := 505) (by decide +kernel)) rfl
theorem lk_X2_148 : Cond.methodLink RX2 148 yX2_oneCrossingFrom ∈ tb := tb_in (List.mem_of_getElem? (i := 677) (by decide +kernel)) rfl
theorem lk_X2_96 : Cond.methodLink RX2 96 yX2_borderBit ∈ tb := tb_in (List.mem_of_getElem? (i := 422) (by decide +kernel)) rfl
theorem lk_X2_100 : Cond.methodLink RX2 100 yX2_closedBorders ∈ tb := tb_in (List.mem_of_getElem? (i := 427) (by decide +kernel)) rfl
theorem lk_X2_54 : Cond.methodLink RX2 54 yX2_holderOf ∈ tb := tb_in (List.mem_of_getElem? (i := 342) (by decide +kernel)) rfl
theorem lk_X2_62 : Cond.methodLink RX2 62 yX0_stamps ∈ tb := tb_in (List.mem_of_getElem? (i := 347) (by decide +kernel)) rfl
theorem lk_X2_68 : Cond.methodLink RX2 68 yX1_beginBook ∈ tb := tb_in (List.mem_of_getElem? (i := 351) (by decide +kernel)) rfl
theorem lk_X2_72 : (RX2, 72, yX6_isSpan, RX6) ∈ nests := by decide +kernel
theorem nw_X2_79 : NW RX2 79 5 4 [.int 0, .int 0, .int 0, .int 0] := ⟨RX5, TX5, tyX5, rfl, tbX5, tyX5_ok, fun j hj => by rcases (show j = 0 ∨ j = 1 ∨ j = 2 ∨ j = 3 by omega) with rfl | rfl | rfl | rfl <;> rfl, tb_in (List.mem_of_getElem? (i := 363) (by decide +kernel)) rfl, tb_in (List.mem_of_getElem? (i := 364) (by decide +kernel)) rfl, tb_in (List.mem_of_getElem? (i := 71) (by decide +kernel)) rfl⟩
theorem lk_X2_81 : Cond.methodLink RX2 81 yX5_init ∈ tb := tb_in (List.mem_of_getElem? (i := 365) (by decide +kernel)) rfl
theorem lk_X2_84 : Cond.methodLink RX2 84 yX1_setVisa ∈ tb := tb_in (List.mem_of_getElem? (i := 389) (by decide +kernel)) rfl
theorem lk_X2_88 : Cond.methodLink RX2 88 yX1_usedDays ∈ tb := tb_in (List.mem_of_getElem? (i := 393) (by decide +kernel)) rfl
theorem lk_X2_3 : Cond.methodLink RX2 3 objectInit ∈ tb := tb_in (List.mem_of_getElem? (i := 87) (by decide +kernel)) rfl
theorem cl_X2_9 : Cond.classLink RX2 9 RX1 ∈ tb := tb_in (List.mem_of_getElem? (i := 88) (by decide +kernel)) rfl
theorem nw_X2_9 : NW RX2 9 1 6 [.int 0, .int 0, .int 0, .null, .null, .null] := ⟨RX1, TX1, tyX1, rfl, tbX1, tyX1_ok, fun j hj => by rcases (show j = 0 ∨ j = 1 ∨ j = 2 ∨ j = 3 ∨ j = 4 ∨ j = 5 by omega) with rfl | rfl | rfl | rfl | rfl | rfl <;> rfl, tb_in (List.mem_of_getElem? (i := 88) (by decide +kernel)) rfl, tb_in (List.mem_of_getElem? (i := 90) (by decide +kernel)) rfl, tb_in (List.mem_of_getElem? (i := 64) (by decide +kernel)) rfl⟩
theorem lk_X2_17 : Cond.methodLink RX2 17 yX1_init ∈ tb := tb_in (List.mem_of_getElem? (i := 91) (by decide +kernel)) rfl
theorem lk_X2_139 : Cond.methodLink RX2 139 yX2_isOpen ∈ tb := tb_in (List.mem_of_getElem? (i := 456) (by decide +kernel)) rfl
theorem lk_X2_103 : Cond.methodLink RX2 103 yJ6_bitCount_0f7a4 ∈ tb := tb_in (List.mem_of_getElem? (i := 445) (by decide +kernel)) rfl
theorem lk_X2_108 : Cond.methodLink RX2 108 yX2_reasonAgainst ∈ tb := tb_in (List.mem_of_getElem? (i := 451) (by decide +kernel)) rfl
theorem lk_X2_115 : Cond.methodLink RX2 115 yX0_addExit ∈ tb := tb_in (List.mem_of_getElem? (i := 479) (by decide +kernel)) rfl
theorem lk_X2_118 : Cond.methodLink RX2 118 yX0_addEntry ∈ tb := tb_in (List.mem_of_getElem? (i := 492) (by decide +kernel)) rfl
theorem lk_X2_125 : Cond.methodLink RX2 125 yX4_add ∈ tb := tb_in (List.mem_of_getElem? (i := 496) (by decide +kernel)) rfl
theorem lk_X2_152 : Cond.methodLink RX2 152 yX2_isBesideOneOf ∈ tb := tb_in (List.mem_of_getElem? (i := 681) (by decide +kernel)) rfl
theorem lk_X2_142 : Cond.methodLink RX2 142 yX1_hasValidVisa ∈ tb := tb_in (List.mem_of_getElem? (i := 460) (by decide +kernel)) rfl
theorem lk_X2_145 : Cond.methodLink RX2 145 yX1_crossings ∈ tb := tb_in (List.mem_of_getElem? (i := 475) (by decide +kernel)) rfl
theorem lk_X2_92 : Cond.methodLink RX2 92 yX1_visaFor ∈ tb := tb_in (List.mem_of_getElem? (i := 410) (by decide +kernel)) rfl
theorem lk_X3_22 : Cond.methodLink RX3 22 yX3_goToStart ∈ tb := tb_in (List.mem_of_getElem? (i := 533) (by decide +kernel)) rfl
theorem lk_X3_28 : Cond.methodLink RX3 28 yX3_readNext ∈ tb := tb_in (List.mem_of_getElem? (i := 537) (by decide +kernel)) rfl
theorem lk_X3_3 : Cond.methodLink RX3 3 objectInit ∈ tb := tb_in (List.mem_of_getElem? (i := 190) (by decide +kernel)) rfl
theorem lk_X3_48 : Cond.methodLink RX3 48 yX3_readPassportAndCountry ∈ tb := tb_in (List.mem_of_getElem? (i := 549) (by decide +kernel)) rfl
theorem lk_X3_32 : Cond.methodLink RX3 32 yX3_take ∈ tb := tb_in (List.mem_of_getElem? (i := 541) (by decide +kernel)) rfl
theorem lk_X3_54 : Cond.methodLink RX3 54 yX3_readNumber ∈ tb := tb_in (List.mem_of_getElem? (i := 553) (by decide +kernel)) rfl
theorem lk_X3_39 : Cond.methodLink RX3 39 yX3_readCrossing ∈ tb := tb_in (List.mem_of_getElem? (i := 545) (by decide +kernel)) rfl
theorem lk_X3_42 : Cond.methodLink RX3 42 yX3_readVisa ∈ tb := tb_in (List.mem_of_getElem? (i := 562) (by decide +kernel)) rfl
theorem lk_X3_45 : Cond.methodLink RX3 45 yX3_readDays ∈ tb := tb_in (List.mem_of_getElem? (i := 566) (by decide +kernel)) rfl
theorem lk_X3_73 : Cond.methodLink RX3 73 yX3_nextDigit ∈ tb := tb_in (List.mem_of_getElem? (i := 557) (by decide +kernel)) rfl
theorem lk_X3_77 : (RX3, 77, yX6_isWithin, RX6) ∈ nests := by decide +kernel
theorem lk_X4_28 : Cond.methodLink RX4 28 yJ9_min_7cf53 ∈ tb := tb_in (List.mem_of_getElem? (i := 279) (by decide +kernel)) rfl
theorem lk_X4_31 : Cond.methodLink RX4 31 arraycopyName ∈ tb := tb_in (List.mem_of_getElem? (i := 282) (by decide +kernel)) rfl
theorem lk_X4_37 : (RX4, 37, yX6_isWithin, RX6) ∈ nests := by decide +kernel
theorem lk_X4_3 : Cond.methodLink RX4 3 objectInit ∈ tb := tb_in (List.mem_of_getElem? (i := 100) (by decide +kernel)) rfl
theorem lk_X4_9 : Cond.methodLink RX4 9 yJ9_max_7cf53 ∈ tb := tb_in (List.mem_of_getElem? (i := 101) (by decide +kernel)) rfl
theorem lk_X5_1 : Cond.methodLink RX5 1 objectInit ∈ tb := tb_in (List.mem_of_getElem? (i := 368) (by decide +kernel)) rfl
theorem lk_X5_22 : (RX5, 22, yX6_isWithin, RX6) ∈ nests := by decide +kernel
theorem lk_X6_69 : Cond.methodLink RX6 69 yX3_empty ∈ tb := tb_in (List.mem_of_getElem? (i := 521) (by decide +kernel)) rfl
theorem lk_X6_225 : Cond.methodLink RX6 225 yX2_closedBorders ∈ tb := tb_in (List.mem_of_getElem? (i := 702) (by decide +kernel)) rfl
theorem lk_X6_92 : Cond.methodLink RX6 92 yX6_isWithin ∈ tb := tb_in (List.mem_of_getElem? (i := 298) (by decide +kernel)) rfl
theorem lk_X6_234 : Cond.methodLink RX6 234 yX6_sumOverHolders ∈ tb := tb_in (List.mem_of_getElem? (i := 703) (by decide +kernel)) rfl
theorem lk_X6_33 : Cond.methodLink RX6 33 yX2_copyFrom ∈ tb := tb_in (List.mem_of_getElem? (i := 267) (by decide +kernel)) rfl
theorem lk_X6_58 : Cond.methodLink RX6 58 yX2_moveHolder ∈ tb := tb_in (List.mem_of_getElem? (i := 441) (by decide +kernel)) rfl
theorem lk_X6_41 : Cond.methodLink RX6 41 yX6_recorded ∈ tb := tb_in (List.mem_of_getElem? (i := 326) (by decide +kernel)) rfl
theorem lk_X6_106 : Cond.methodLink RX6 106 yX2_holderOf ∈ tb := tb_in (List.mem_of_getElem? (i := 596) (by decide +kernel)) rfl
theorem lk_X6_161 : Cond.methodLink RX6 161 yX6_isCountry ∈ tb := tb_in (List.mem_of_getElem? (i := 653) (by decide +kernel)) rfl
theorem lk_X6_164 : Cond.methodLink RX6 164 yX1_visaFor ∈ tb := tb_in (List.mem_of_getElem? (i := 654) (by decide +kernel)) rfl
theorem lk_X6_179 : Cond.methodLink RX6 179 yX1_usedDays ∈ tb := tb_in (List.mem_of_getElem? (i := 655) (by decide +kernel)) rfl
theorem lk_X6_215 : Cond.methodLink RX6 215 yJ9_max_7cf53 ∈ tb := tb_in (List.mem_of_getElem? (i := 689) (by decide +kernel)) rfl
theorem lk_X6_201 : Cond.methodLink RX6 201 yJ9_min_7cf53 ∈ tb := tb_in (List.mem_of_getElem? (i := 667) (by decide +kernel)) rfl
theorem lk_X6_240 : Cond.methodLink RX6 240 yX3_readNext ∈ tb := tb_in (List.mem_of_getElem? (i := 575) (by decide +kernel)) rfl
theorem lk_X6_47 : Cond.methodLink RX6 47 yX2_giveVisa ∈ tb := tb_in (List.mem_of_getElem? (i := 356) (by decide +kernel)) rfl
theorem lk_X6_62 : Cond.methodLink RX6 62 yX2_endDays ∈ tb := tb_in (List.mem_of_getElem? (i := 501) (by decide +kernel)) rfl
theorem lk_X6_118 : Cond.methodLink RX6 118 yX1_toldPlace ∈ tb := tb_in (List.mem_of_getElem? (i := 598) (by decide +kernel)) rfl
theorem lk_X6_115 : Cond.methodLink RX6 115 yX1_place ∈ tb := tb_in (List.mem_of_getElem? (i := 597) (by decide +kernel)) rfl
theorem lk_X6_3 : Cond.methodLink RX6 3 objectInit ∈ tb := tb_in (List.mem_of_getElem? (i := 79) (by decide +kernel)) rfl
theorem nw_X6_9 : NW RX6 9 2 5 [.int 0, .int 0, .int 0, .long 0, .null] := ⟨RX2, TX2, tyX2, rfl, tbX2, tyX2_ok, fun j hj => by rcases (show j = 0 ∨ j = 1 ∨ j = 2 ∨ j = 3 ∨ j = 4 by omega) with rfl | rfl | rfl | rfl | rfl <;> rfl, tb_in (List.mem_of_getElem? (i := 82) (by decide +kernel)) rfl, tb_in (List.mem_of_getElem? (i := 83) (by decide +kernel)) rfl, tb_in (List.mem_of_getElem? (i := 63) (by decide +kernel)) rfl⟩
theorem lk_X6_11 : Cond.methodLink RX6 11 yX2_init ∈ tb := tb_in (List.mem_of_getElem? (i := 84) (by decide +kernel)) rfl
theorem cl_X6_9 : Cond.classLink RX6 9 RX2 ∈ tb := tb_in (List.mem_of_getElem? (i := 82) (by decide +kernel)) rfl
theorem nw_X6_26 : NW RX6 26 3 11 [.null, .int 0, .int 0, .int 0, .int 0, .int 0, .int 0, .int 0, .int 0, .int 0, .int 0] := ⟨RX3, TX3, tyX3, rfl, tbX3, tyX3_ok, fun j hj => by rcases (show j = 0 ∨ j = 1 ∨ j = 2 ∨ j = 3 ∨ j = 4 ∨ j = 5 ∨ j = 6 ∨ j = 7 ∨ j = 8 ∨ j = 9 ∨ j = 10 by omega) with rfl | rfl | rfl | rfl | rfl | rfl | rfl | rfl | rfl | rfl | rfl <;> rfl, tb_in (List.mem_of_getElem? (i := 185) (by decide +kernel)) rfl, tb_in (List.mem_of_getElem? (i := 186) (by decide +kernel)) rfl, tb_in (List.mem_of_getElem? (i := 68) (by decide +kernel)) rfl⟩
theorem lk_X6_28 : Cond.methodLink RX6 28 yX3_init ∈ tb := tb_in (List.mem_of_getElem? (i := 187) (by decide +kernel)) rfl
theorem lk_X6_37 : Cond.methodLink RX6 37 yX2_addHolder ∈ tb := tb_in (List.mem_of_getElem? (i := 291) (by decide +kernel)) rfl
theorem lk_X6_125 : Cond.methodLink RX6 125 yX0_stamps ∈ tb := tb_in (List.mem_of_getElem? (i := 602) (by decide +kernel)) rfl
theorem lk_X6_130 : Cond.methodLink RX6 130 yX0_gaps ∈ tb := tb_in (List.mem_of_getElem? (i := 603) (by decide +kernel)) rfl
theorem lk_X6_133 : Cond.methodLink RX6 133 yX1_crossings ∈ tb := tb_in (List.mem_of_getElem? (i := 628) (by decide +kernel)) rfl
theorem lk_X6_142 : Cond.methodLink RX6 142 yX1_visasHeld ∈ tb := tb_in (List.mem_of_getElem? (i := 629) (by decide +kernel)) rfl
theorem lk_X6_73 : Cond.methodLink RX6 73 yX3_findFault ∈ tb := tb_in (List.mem_of_getElem? (i := 529) (by decide +kernel)) rfl
theorem lk_X6_80 : Cond.methodLink RX6 80 yX3_goToStart ∈ tb := tb_in (List.mem_of_getElem? (i := 570) (by decide +kernel)) rfl
theorem lk_X6_83 : Cond.methodLink RX6 83 yX6_doNextThing ∈ tb := tb_in (List.mem_of_getElem? (i := 571) (by decide +kernel)) rfl
theorem lk_X6_186 : Cond.methodLink RX6 186 yX2_reasonAgainst ∈ tb := tb_in (List.mem_of_getElem? (i := 661) (by decide +kernel)) rfl
theorem lk_X6_259 : Cond.methodLink RX6 259 yX6_dropOldest ∈ tb := tb_in (List.mem_of_getElem? (i := 330) (by decide +kernel)) rfl
theorem lk_X6_44 : Cond.methodLink RX6 44 yX2_giveBook ∈ tb := tb_in (List.mem_of_getElem? (i := 338) (by decide +kernel)) rfl
theorem lk_X6_51 : Cond.methodLink RX6 51 yX2_takeVisa ∈ tb := tb_in (List.mem_of_getElem? (i := 406) (by decide +kernel)) rfl
theorem lk_X6_145 : Cond.methodLink RX6 145 yX0_hasStamp ∈ tb := tb_in (List.mem_of_getElem? (i := 637) (by decide +kernel)) rfl
theorem lk_X6_149 : Cond.methodLink RX6 149 yX0_dayOf ∈ tb := tb_in (List.mem_of_getElem? (i := 638) (by decide +kernel)) rfl
theorem lk_X6_152 : Cond.methodLink RX6 152 yX0_countryOf ∈ tb := tb_in (List.mem_of_getElem? (i := 646) (by decide +kernel)) rfl
theorem lk_X6_155 : Cond.methodLink RX6 155 yX0_isEntry ∈ tb := tb_in (List.mem_of_getElem? (i := 647) (by decide +kernel)) rfl
theorem lk_X6_158 : Cond.methodLink RX6 158 yX0_isGap ∈ tb := tb_in (List.mem_of_getElem? (i := 648) (by decide +kernel)) rfl
theorem lk_X6_190 : Cond.methodLink RX6 190 yX6_isSpan ∈ tb := tb_in (List.mem_of_getElem? (i := 666) (by decide +kernel)) rfl
theorem lk_X6_206 : Cond.methodLink RX6 206 yX4_daysIn ∈ tb := tb_in (List.mem_of_getElem? (i := 668) (by decide +kernel)) rfl
theorem lk_X6_237 : Cond.methodLink RX6 237 yX1_visasValidOn ∈ tb := tb_in (List.mem_of_getElem? (i := 707) (by decide +kernel)) rfl
theorem lk_X6_55 : Cond.methodLink RX6 55 yX2_flipBorder ∈ tb := tb_in (List.mem_of_getElem? (i := 418) (by decide +kernel)) rfl
theorem lk_X6_65 : Cond.methodLink RX6 65 yX3_append ∈ tb := tb_in (List.mem_of_getElem? (i := 513) (by decide +kernel)) rfl
theorem lk_X6_183 : Cond.methodLink RX6 183 yX5_isValidOn ∈ tb := tb_in (List.mem_of_getElem? (i := 656) (by decide +kernel)) rfl
theorem lk_X6_211 : Cond.methodLink RX6 211 yX2_fewestCrossings ∈ tb := tb_in (List.mem_of_getElem? (i := 673) (by decide +kernel)) rfl
theorem lk_X7_36 : Cond.methodLink RX7 36 yX7_isPassport ∈ tb := tb_in (List.mem_of_getElem? (i := 801) (by decide +kernel)) rfl
theorem lk_X7_40 : Cond.methodLink RX7 40 yX7_isCountry ∈ tb := tb_in (List.mem_of_getElem? (i := 780) (by decide +kernel)) rfl
theorem lk_X7_43 : Cond.methodLink RX7 43 yX7_of ∈ tb := tb_in (List.mem_of_getElem? (i := 790) (by decide +kernel)) rfl
theorem lk_X7_130 : Cond.methodLink RX7 130 yX7_closed ∈ tb := tb_in (List.mem_of_getElem? (i := 879) (by decide +kernel)) rfl
theorem lk_X7_228 : Cond.methodLink RX7 228 yX7_sumOf ∈ tb := tb_in (List.mem_of_getElem? (i := 1063) (by decide +kernel)) rfl
theorem lk_X7_50 : Cond.methodLink RX7 50 yX7_get ∈ tb := tb_in (List.mem_of_getElem? (i := 805) (by decide +kernel)) rfl
theorem lk_X7_134 : Cond.methodLink RX7 134 yX7_errorOfCross ∈ tb := tb_in (List.mem_of_getElem? (i := 887) (by decide +kernel)) rfl
theorem lk_X7_117 : Cond.methodLink RX7 117 yX7_record ∈ tb := tb_in (List.mem_of_getElem? (i := 786) (by decide +kernel)) rfl
theorem lk_X7_137 : Cond.methodLink RX7 137 yX7_crosses ∈ tb := tb_in (List.mem_of_getElem? (i := 907) (by decide +kernel)) rfl
theorem lk_X7_107 : Cond.methodLink RX7 107 yX7_stamps ∈ tb := tb_in (List.mem_of_getElem? (i := 911) (by decide +kernel)) rfl
theorem lk_X7_101 : Cond.methodLink RX7 101 yX7_areThere ∈ tb := tb_in (List.mem_of_getElem? (i := 817) (by decide +kernel)) rfl
theorem lk_X7_73 : Cond.methodLink RX7 73 yX7_hasVisa ∈ tb := tb_in (List.mem_of_getElem? (i := 868) (by decide +kernel)) rfl
theorem lk_X7_69 : Cond.methodLink RX7 69 yX7_ofVisa ∈ tb := tb_in (List.mem_of_getElem? (i := 836) (by decide +kernel)) rfl
theorem lk_X7_89 : Cond.methodLink RX7 89 yX7_used ∈ tb := tb_in (List.mem_of_getElem? (i := 828) (by decide +kernel)) rfl
theorem lk_X7_144 : Cond.methodLink RX7 144 yX7_passes ∈ tb := tb_in (List.mem_of_getElem? (i := 923) (by decide +kernel)) rfl
theorem lk_X7_127 : Cond.methodLink RX7 127 yX7_grants ∈ tb := tb_in (List.mem_of_getElem? (i := 824) (by decide +kernel)) rfl
theorem lk_X7_32 : Cond.methodLink RX7 32 yX7_in ∈ tb := tb_in (List.mem_of_getElem? (i := 783) (by decide +kernel)) rfl
theorem lk_X7_104 : Cond.methodLink RX7 104 yX7_hindrance ∈ tb := tb_in (List.mem_of_getElem? (i := 891) (by decide +kernel)) rfl
theorem lk_X7_114 : Cond.methodLink RX7 114 yX7_isSpan ∈ tb := tb_in (List.mem_of_getElem? (i := 821) (by decide +kernel)) rfl
theorem lk_X7_140 : Cond.methodLink RX7 140 yX7_errorOfPass ∈ tb := tb_in (List.mem_of_getElem? (i := 919) (by decide +kernel)) rfl
theorem lk_X7_124 : Cond.methodLink RX7 124 yX7_errorOfGrant ∈ tb := tb_in (List.mem_of_getElem? (i := 813) (by decide +kernel)) rfl
theorem lk_X7_63 : Cond.methodLink RX7 63 yX7_isGap ∈ tb := tb_in (List.mem_of_getElem? (i := 1011) (by decide +kernel)) rfl
theorem lk_X7_95 : Cond.methodLink RX7 95 yX7_isOpen ∈ tb := tb_in (List.mem_of_getElem? (i := 895) (by decide +kernel)) rfl
theorem lk_X7_86 : Cond.methodLink RX7 86 yX7_isValidOn ∈ tb := tb_in (List.mem_of_getElem? (i := 899) (by decide +kernel)) rfl
theorem lk_X7_98 : Cond.methodLink RX7 98 yX7_isLetIn ∈ tb := tb_in (List.mem_of_getElem? (i := 903) (by decide +kernel)) rfl
theorem lk_X7_212 : Cond.methodLink RX7 212 yX7_toldNow ∈ tb := tb_in (List.mem_of_getElem? (i := 1003) (by decide +kernel)) rfl
theorem lk_X7_1 : Cond.methodLink RX7 1 objectInit ∈ tb := tb_in (List.mem_of_getElem? (i := 717) (by decide +kernel)) rfl
theorem lk_X7_60 : Cond.methodLink RX7 60 yX7_toldBy ∈ tb := tb_in (List.mem_of_getElem? (i := 852) (by decide +kernel)) rfl
theorem lk_X7_53 : Cond.methodLink RX7 53 yX7_isEntry ∈ tb := tb_in (List.mem_of_getElem? (i := 856) (by decide +kernel)) rfl
theorem lk_X7_57 : Cond.methodLink RX7 57 yX7_countryOf ∈ tb := tb_in (List.mem_of_getElem? (i := 860) (by decide +kernel)) rfl
theorem lk_X7_92 : Cond.methodLink RX7 92 yX7_border ∈ tb := tb_in (List.mem_of_getElem? (i := 876) (by decide +kernel)) rfl
theorem lk_X7_83 : Cond.methodLink RX7 83 yX7_usedAheadOf ∈ tb := tb_in (List.mem_of_getElem? (i := 832) (by decide +kernel)) rfl
theorem lk_X7_120 : Cond.methodLink RX7 120 yX7_begins ∈ tb := tb_in (List.mem_of_getElem? (i := 793) (by decide +kernel)) rfl
theorem lk_X7_160 : Cond.methodLink RX7 160 yX7_takes ∈ tb := tb_in (List.mem_of_getElem? (i := 955) (by decide +kernel)) rfl
theorem lk_X7_157 : Cond.methodLink RX7 157 yX7_isNext ∈ tb := tb_in (List.mem_of_getElem? (i := 959) (by decide +kernel)) rfl
theorem lk_X7_111 : Cond.methodLink RX7 111 yX7_isOverstay ∈ tb := tb_in (List.mem_of_getElem? (i := 927) (by decide +kernel)) rfl
theorem lk_X7_215 : Cond.methodLink RX7 215 yX7_gapsOf ∈ tb := tb_in (List.mem_of_getElem? (i := 1007) (by decide +kernel)) rfl
theorem lk_X7_218 : Cond.methodLink RX7 218 yX7_visas ∈ tb := tb_in (List.mem_of_getElem? (i := 1015) (by decide +kernel)) rfl
theorem lk_X7_202 : Cond.methodLink RX7 202 yX7_reads ∈ tb := tb_in (List.mem_of_getElem? (i := 943) (by decide +kernel)) rfl
theorem lk_X7_206 : Cond.methodLink RX7 206 yX7_exchanges ∈ tb := tb_in (List.mem_of_getElem? (i := 979) (by decide +kernel)) rfl
theorem lk_X7_163 : Cond.methodLink RX7 163 yX7_number ∈ tb := tb_in (List.mem_of_getElem? (i := 951) (by decide +kernel)) rfl
theorem lk_X7_184 : Cond.methodLink RX7 184 yX7_readVisa ∈ tb := tb_in (List.mem_of_getElem? (i := 963) (by decide +kernel)) rfl
theorem lk_X7_187 : Cond.methodLink RX7 187 yX7_takesOne ∈ tb := tb_in (List.mem_of_getElem? (i := 967) (by decide +kernel)) rfl
theorem lk_X7_193 : Cond.methodLink RX7 193 yX7_readOne ∈ tb := tb_in (List.mem_of_getElem? (i := 947) (by decide +kernel)) rfl
theorem lk_X7_196 : Cond.methodLink RX7 196 yX7_errorOfOne ∈ tb := tb_in (List.mem_of_getElem? (i := 971) (by decide +kernel)) rfl
theorem lk_X7_199 : Cond.methodLink RX7 199 yX7_doesOne ∈ tb := tb_in (List.mem_of_getElem? (i := 975) (by decide +kernel)) rfl
theorem lk_X7_66 : Cond.methodLink RX7 66 yX7_dayOf ∈ tb := tb_in (List.mem_of_getElem? (i := 848) (by decide +kernel)) rfl
theorem lk_X7_79 : Cond.methodLink RX7 79 yX7_toldDays ∈ tb := tb_in (List.mem_of_getElem? (i := 840) (by decide +kernel)) rfl
theorem lk_X7_222 : Cond.methodLink RX7 222 yX7_reallyOn ∈ tb := tb_in (List.mem_of_getElem? (i := 1035) (by decide +kernel)) rfl
theorem lk_X7_76 : Cond.methodLink RX7 76 yX7_toldOn ∈ tb := tb_in (List.mem_of_getElem? (i := 844) (by decide +kernel)) rfl
theorem lk_X7_225 : Cond.methodLink RX7 225 yX7_reachedFrom ∈ tb := tb_in (List.mem_of_getElem? (i := 1043) (by decide +kernel)) rfl
