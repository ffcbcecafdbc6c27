/-! the tables' words that the rows need, each by its place -/
theorem ac_int : Cond.arrayClass .int ∈ tb := tb_in (List.mem_of_getElem? (i := 62) (by decide +kernel)) rfl
theorem ac_char : Cond.arrayClass .char ∈ tb := tb_in (List.mem_of_getElem? (i := 162) (by decide +kernel)) rfl
theorem oi_inst : Cond.instanceMethod objectInit ∈ tb := tb_in (List.mem_of_getElem? (i := 26) (by decide +kernel)) rfl
theorem cp_nat : Cond.native arraycopyName ∈ tb := tb_in (List.mem_of_getElem? (i := 209) (by decide +kernel)) rfl
theorem cp_st : Cond.static arraycopyName ∈ tb := tb_in (List.mem_of_getElem? (i := 208) (by decide +kernel)) rfl
theorem cp_ini : Cond.initialized "java/lang/System" ∈ tb := tb_in (List.mem_of_getElem? (i := 17) (by decide +kernel)) rfl
theorem oi_code : Cond.code objectInit ⟨#[0xb1]⟩ 1 none ∈ tb := tb_in (List.mem_of_getElem? (i := 27) (by decide +kernel)) rfl
theorem ky_X0_init : KY yX0_init cX0_init 1 none 0 := ⟨⟨by decide +kernel, by decide +kernel, by decide +kernel⟩, tb_in (List.mem_of_getElem? (i := 67) (by decide +kernel)) rfl, tb_in (List.mem_of_getElem? (i := 14) (by decide +kernel)) rfl, by decide⟩
theorem ki_X0_init : Cond.instanceMethod yX0_init ∈ tb := tb_in (List.mem_of_getElem? (i := 66) (by decide +kernel)) rfl
theorem ky_X0_copyFrom : KY yX0_copyFrom cX0_copyFrom 2 none 1 := ⟨⟨by decide +kernel, by decide +kernel, by decide +kernel⟩, tb_in (List.mem_of_getElem? (i := 213) (by decide +kernel)) rfl, tb_in (List.mem_of_getElem? (i := 14) (by decide +kernel)) rfl, by decide⟩
theorem ki_X0_copyFrom : Cond.instanceMethod yX0_copyFrom ∈ tb := tb_in (List.mem_of_getElem? (i := 211) (by decide +kernel)) rfl
theorem ks2_X0_copyFrom : Cond.selects yX0_copyFrom.cls yX0_copyFrom yX0_copyFrom ∈ tb := tb_in (List.mem_of_getElem? (i := 212) (by decide +kernel)) rfl
theorem ky_X0_begin : KY yX0_begin cX0_begin 3 none 2 := ⟨⟨by decide +kernel, by decide +kernel, by decide +kernel⟩, tb_in (List.mem_of_getElem? (i := 336) (by decide +kernel)) rfl, tb_in (List.mem_of_getElem? (i := 14) (by decide +kernel)) rfl, by decide⟩
theorem ki_X0_begin : Cond.instanceMethod yX0_begin ∈ tb := tb_in (List.mem_of_getElem? (i := 334) (by decide +kernel)) rfl
theorem ks2_X0_begin : Cond.selects yX0_begin.cls yX0_begin yX0_begin ∈ tb := tb_in (List.mem_of_getElem? (i := 335) (by decide +kernel)) rfl
theorem ky_X0_addExit : KY yX0_addExit cX0_addExit 3 none 2 := ⟨⟨by decide +kernel, by decide +kernel, by decide +kernel⟩, tb_in (List.mem_of_getElem? (i := 440) (by decide +kernel)) rfl, tb_in (List.mem_of_getElem? (i := 14) (by decide +kernel)) rfl, by decide⟩
theorem ki_X0_addExit : Cond.instanceMethod yX0_addExit ∈ tb := tb_in (List.mem_of_getElem? (i := 438) (by decide +kernel)) rfl
theorem ks2_X0_addExit : Cond.selects yX0_addExit.cls yX0_addExit yX0_addExit ∈ tb := tb_in (List.mem_of_getElem? (i := 439) (by decide +kernel)) rfl
theorem ky_X0_addEntry : KY yX0_addEntry cX0_addEntry 3 none 2 := ⟨⟨by decide +kernel, by decide +kernel, by decide +kernel⟩, tb_in (List.mem_of_getElem? (i := 452) (by decide +kernel)) rfl, tb_in (List.mem_of_getElem? (i := 14) (by decide +kernel)) rfl, by decide⟩
theorem ki_X0_addEntry : Cond.instanceMethod yX0_addEntry ∈ tb := tb_in (List.mem_of_getElem? (i := 450) (by decide +kernel)) rfl
theorem ks2_X0_addEntry : Cond.selects yX0_addEntry.cls yX0_addEntry yX0_addEntry ∈ tb := tb_in (List.mem_of_getElem? (i := 451) (by decide +kernel)) rfl
theorem ky_X0_addStamp : KY yX0_addStamp cX0_addStamp 4 none 3 := ⟨⟨by decide +kernel, by decide +kernel, by decide +kernel⟩, tb_in (List.mem_of_getElem? (i := 444) (by decide +kernel)) rfl, tb_in (List.mem_of_getElem? (i := 14) (by decide +kernel)) rfl, by decide⟩
theorem ki_X0_addStamp : Cond.instanceMethod yX0_addStamp ∈ tb := tb_in (List.mem_of_getElem? (i := 443) (by decide +kernel)) rfl
theorem ks2_X0_addStamp : Cond.selects yX0_addStamp.cls yX0_addStamp yX0_addStamp ∈ tb := tb_in (List.mem_of_getElem? (i := 4) (by decide +kernel)) rfl
theorem ky_X0_stamps : KY yX0_stamps cX0_stamps 1 (some .int) 0 := ⟨⟨by decide +kernel, by decide +kernel, by decide +kernel⟩, tb_in (List.mem_of_getElem? (i := 244) (by decide +kernel)) rfl, tb_in (List.mem_of_getElem? (i := 14) (by decide +kernel)) rfl, by decide⟩
theorem ki_X0_stamps : Cond.instanceMethod yX0_stamps ∈ tb := tb_in (List.mem_of_getElem? (i := 242) (by decide +kernel)) rfl
theorem ks2_X0_stamps : Cond.selects yX0_stamps.cls yX0_stamps yX0_stamps ∈ tb := tb_in (List.mem_of_getElem? (i := 243) (by decide +kernel)) rfl
theorem ky_X0_hasStamp : KY yX0_hasStamp cX0_hasStamp 2 (some .boolean) 1 := ⟨⟨by decide +kernel, by decide +kernel, by decide +kernel⟩, tb_in (List.mem_of_getElem? (i := 270) (by decide +kernel)) rfl, tb_in (List.mem_of_getElem? (i := 14) (by decide +kernel)) rfl, by decide⟩
theorem ki_X0_hasStamp : Cond.instanceMethod yX0_hasStamp ∈ tb := tb_in (List.mem_of_getElem? (i := 268) (by decide +kernel)) rfl
theorem ks2_X0_hasStamp : Cond.selects yX0_hasStamp.cls yX0_hasStamp yX0_hasStamp ∈ tb := tb_in (List.mem_of_getElem? (i := 269) (by decide +kernel)) rfl
theorem ky_X0_dayOf : KY yX0_dayOf cX0_dayOf 2 (some .int) 1 := ⟨⟨by decide +kernel, by decide +kernel, by decide +kernel⟩, tb_in (List.mem_of_getElem? (i := 518) (by decide +kernel)) rfl, tb_in (List.mem_of_getElem? (i := 14) (by decide +kernel)) rfl, by decide⟩
theorem ki_X0_dayOf : Cond.instanceMethod yX0_dayOf ∈ tb := tb_in (List.mem_of_getElem? (i := 516) (by decide +kernel)) rfl
theorem ks2_X0_dayOf : Cond.selects yX0_dayOf.cls yX0_dayOf yX0_dayOf ∈ tb := tb_in (List.mem_of_getElem? (i := 517) (by decide +kernel)) rfl
theorem ky_X0_countryOf : KY yX0_countryOf cX0_countryOf 2 (some .int) 1 := ⟨⟨by decide +kernel, by decide +kernel, by decide +kernel⟩, tb_in (List.mem_of_getElem? (i := 266) (by decide +kernel)) rfl, tb_in (List.mem_of_getElem? (i := 14) (by decide +kernel)) rfl, by decide⟩
theorem ki_X0_countryOf : Cond.instanceMethod yX0_countryOf ∈ tb := tb_in (List.mem_of_getElem? (i := 264) (by decide +kernel)) rfl
theorem ks2_X0_countryOf : Cond.selects yX0_countryOf.cls yX0_countryOf yX0_countryOf ∈ tb := tb_in (List.mem_of_getElem? (i := 265) (by decide +kernel)) rfl
theorem ky_X0_isEntry : KY yX0_isEntry cX0_isEntry 2 (some .boolean) 1 := ⟨⟨by decide +kernel, by decide +kernel, by decide +kernel⟩, tb_in (List.mem_of_getElem? (i := 257) (by decide +kernel)) rfl, tb_in (List.mem_of_getElem? (i := 14) (by decide +kernel)) rfl, by decide⟩
theorem ki_X0_isEntry : Cond.instanceMethod yX0_isEntry ∈ tb := tb_in (List.mem_of_getElem? (i := 255) (by decide +kernel)) rfl
theorem ks2_X0_isEntry : Cond.selects yX0_isEntry.cls yX0_isEntry yX0_isEntry ∈ tb := tb_in (List.mem_of_getElem? (i := 256) (by decide +kernel)) rfl
theorem ky_X0_isGap : KY yX0_isGap cX0_isGap 3 (some .boolean) 1 := ⟨⟨by decide +kernel, by decide +kernel, by decide +kernel⟩, tb_in (List.mem_of_getElem? (i := 253) (by decide +kernel)) rfl, tb_in (List.mem_of_getElem? (i := 14) (by decide +kernel)) rfl, by decide⟩
theorem ki_X0_isGap : Cond.instanceMethod yX0_isGap ∈ tb := tb_in (List.mem_of_getElem? (i := 251) (by decide +kernel)) rfl
theorem ks2_X0_isGap : Cond.selects yX0_isGap.cls yX0_isGap yX0_isGap ∈ tb := tb_in (List.mem_of_getElem? (i := 252) (by decide +kernel)) rfl
theorem ky_X0_gaps : KY yX0_gaps cX0_gaps 3 (some .int) 0 := ⟨⟨by decide +kernel, by decide +kernel, by decide +kernel⟩, tb_in (List.mem_of_getElem? (i := 248) (by decide +kernel)) rfl, tb_in (List.mem_of_getElem? (i := 14) (by decide +kernel)) rfl, by decide⟩
theorem ki_X0_gaps : Cond.instanceMethod yX0_gaps ∈ tb := tb_in (List.mem_of_getElem? (i := 246) (by decide +kernel)) rfl
theorem ks2_X0_gaps : Cond.selects yX0_gaps.cls yX0_gaps yX0_gaps ∈ tb := tb_in (List.mem_of_getElem? (i := 247) (by decide +kernel)) rfl
theorem ky_X1_init : KY yX1_init cX1_init 1 none 0 := ⟨⟨by decide +kernel, by decide +kernel, by decide +kernel⟩, tb_in (List.mem_of_getElem? (i := 39) (by decide +kernel)) rfl, tb_in (List.mem_of_getElem? (i := 11) (by decide +kernel)) rfl, by decide⟩
theorem ki_X1_init : Cond.instanceMethod yX1_init ∈ tb := tb_in (List.mem_of_getElem? (i := 38) (by decide +kernel)) rfl
theorem ky_X1_copyFrom : KY yX1_copyFrom cX1_copyFrom 3 none 1 := ⟨⟨by decide +kernel, by decide +kernel, by decide +kernel⟩, tb_in (List.mem_of_getElem? (i := 199) (by decide +kernel)) rfl, tb_in (List.mem_of_getElem? (i := 11) (by decide +kernel)) rfl, by decide⟩
theorem ki_X1_copyFrom : Cond.instanceMethod yX1_copyFrom ∈ tb := tb_in (List.mem_of_getElem? (i := 197) (by decide +kernel)) rfl
theorem ks2_X1_copyFrom : Cond.selects yX1_copyFrom.cls yX1_copyFrom yX1_copyFrom ∈ tb := tb_in (List.mem_of_getElem? (i := 198) (by decide +kernel)) rfl
theorem ky_X1_begin : KY yX1_begin cX1_begin 4 none 2 := ⟨⟨by decide +kernel, by decide +kernel, by decide +kernel⟩, tb_in (List.mem_of_getElem? (i := 316) (by decide +kernel)) rfl, tb_in (List.mem_of_getElem? (i := 11) (by decide +kernel)) rfl, by decide⟩
theorem ki_X1_begin : Cond.instanceMethod yX1_begin ∈ tb := tb_in (List.mem_of_getElem? (i := 314) (by decide +kernel)) rfl
theorem ks2_X1_begin : Cond.selects yX1_begin.cls yX1_begin yX1_begin ∈ tb := tb_in (List.mem_of_getElem? (i := 315) (by decide +kernel)) rfl
theorem ky_X1_beginBook : KY yX1_beginBook cX1_beginBook 2 none 1 := ⟨⟨by decide +kernel, by decide +kernel, by decide +kernel⟩, tb_in (List.mem_of_getElem? (i := 324) (by decide +kernel)) rfl, tb_in (List.mem_of_getElem? (i := 11) (by decide +kernel)) rfl, by decide⟩
theorem ki_X1_beginBook : Cond.instanceMethod yX1_beginBook ∈ tb := tb_in (List.mem_of_getElem? (i := 322) (by decide +kernel)) rfl
theorem ks2_X1_beginBook : Cond.selects yX1_beginBook.cls yX1_beginBook yX1_beginBook ∈ tb := tb_in (List.mem_of_getElem? (i := 323) (by decide +kernel)) rfl
theorem ky_X1_place : KY yX1_place cX1_place 1 (some .int) 0 := ⟨⟨by decide +kernel, by decide +kernel, by decide +kernel⟩, tb_in (List.mem_of_getElem? (i := 328) (by decide +kernel)) rfl, tb_in (List.mem_of_getElem? (i := 11) (by decide +kernel)) rfl, by decide⟩
theorem ki_X1_place : Cond.instanceMethod yX1_place ∈ tb := tb_in (List.mem_of_getElem? (i := 326) (by decide +kernel)) rfl
theorem ks2_X1_place : Cond.selects yX1_place.cls yX1_place yX1_place ∈ tb := tb_in (List.mem_of_getElem? (i := 327) (by decide +kernel)) rfl
theorem ky_X1_toldPlace : KY yX1_toldPlace cX1_toldPlace 1 (some .int) 0 := ⟨⟨by decide +kernel, by decide +kernel, by decide +kernel⟩, tb_in (List.mem_of_getElem? (i := 503) (by decide +kernel)) rfl, tb_in (List.mem_of_getElem? (i := 11) (by decide +kernel)) rfl, by decide⟩
theorem ki_X1_toldPlace : Cond.instanceMethod yX1_toldPlace ∈ tb := tb_in (List.mem_of_getElem? (i := 501) (by decide +kernel)) rfl
theorem ks2_X1_toldPlace : Cond.selects yX1_toldPlace.cls yX1_toldPlace yX1_toldPlace ∈ tb := tb_in (List.mem_of_getElem? (i := 502) (by decide +kernel)) rfl
theorem ky_X1_crossings : KY yX1_crossings cX1_crossings 1 (some .int) 0 := ⟨⟨by decide +kernel, by decide +kernel, by decide +kernel⟩, tb_in (List.mem_of_getElem? (i := 240) (by decide +kernel)) rfl, tb_in (List.mem_of_getElem? (i := 11) (by decide +kernel)) rfl, by decide⟩
theorem ki_X1_crossings : Cond.instanceMethod yX1_crossings ∈ tb := tb_in (List.mem_of_getElem? (i := 238) (by decide +kernel)) rfl
theorem ks2_X1_crossings : Cond.selects yX1_crossings.cls yX1_crossings yX1_crossings ∈ tb := tb_in (List.mem_of_getElem? (i := 239) (by decide +kernel)) rfl
theorem ky_X1_visaFor : KY yX1_visaFor cX1_visaFor 2 (some (.object "BorderStamps$Visa")) 1 := ⟨⟨by decide +kernel, by decide +kernel, by decide +kernel⟩, tb_in (List.mem_of_getElem? (i := 278) (by decide +kernel)) rfl, tb_in (List.mem_of_getElem? (i := 11) (by decide +kernel)) rfl, by decide⟩
theorem ki_X1_visaFor : Cond.instanceMethod yX1_visaFor ∈ tb := tb_in (List.mem_of_getElem? (i := 276) (by decide +kernel)) rfl
theorem ks2_X1_visaFor : Cond.selects yX1_visaFor.cls yX1_visaFor yX1_visaFor ∈ tb := tb_in (List.mem_of_getElem? (i := 277) (by decide +kernel)) rfl
theorem ky_X1_setVisa : KY yX1_setVisa cX1_setVisa 3 none 2 := ⟨⟨by decide +kernel, by decide +kernel, by decide +kernel⟩, tb_in (List.mem_of_getElem? (i := 391) (by decide +kernel)) rfl, tb_in (List.mem_of_getElem? (i := 11) (by decide +kernel)) rfl, by decide⟩
theorem ki_X1_setVisa : Cond.instanceMethod yX1_setVisa ∈ tb := tb_in (List.mem_of_getElem? (i := 389) (by decide +kernel)) rfl
theorem ks2_X1_setVisa : Cond.selects yX1_setVisa.cls yX1_setVisa yX1_setVisa ∈ tb := tb_in (List.mem_of_getElem? (i := 390) (by decide +kernel)) rfl
theorem ky_X1_usedDays : KY yX1_usedDays cX1_usedDays 3 (some .int) 2 := ⟨⟨by decide +kernel, by decide +kernel, by decide +kernel⟩, tb_in (List.mem_of_getElem? (i := 395) (by decide +kernel)) rfl, tb_in (List.mem_of_getElem? (i := 11) (by decide +kernel)) rfl, by decide⟩
theorem ki_X1_usedDays : Cond.instanceMethod yX1_usedDays ∈ tb := tb_in (List.mem_of_getElem? (i := 393) (by decide +kernel)) rfl
theorem ks2_X1_usedDays : Cond.selects yX1_usedDays.cls yX1_usedDays yX1_usedDays ∈ tb := tb_in (List.mem_of_getElem? (i := 394) (by decide +kernel)) rfl
theorem ky_X1_hasValidVisa : KY yX1_hasValidVisa cX1_hasValidVisa 4 (some .boolean) 2 := ⟨⟨by decide +kernel, by decide +kernel, by decide +kernel⟩, tb_in (List.mem_of_getElem? (i := 286) (by decide +kernel)) rfl, tb_in (List.mem_of_getElem? (i := 11) (by decide +kernel)) rfl, by decide⟩
theorem ki_X1_hasValidVisa : Cond.instanceMethod yX1_hasValidVisa ∈ tb := tb_in (List.mem_of_getElem? (i := 284) (by decide +kernel)) rfl
theorem ks2_X1_hasValidVisa : Cond.selects yX1_hasValidVisa.cls yX1_hasValidVisa yX1_hasValidVisa ∈ tb := tb_in (List.mem_of_getElem? (i := 285) (by decide +kernel)) rfl
theorem ky_X1_mayBeIn : KY yX1_mayBeIn cX1_mayBeIn 4 (some .boolean) 2 := ⟨⟨by decide +kernel, by decide +kernel, by decide +kernel⟩, tb_in (List.mem_of_getElem? (i := 433) (by decide +kernel)) rfl, tb_in (List.mem_of_getElem? (i := 11) (by decide +kernel)) rfl, by decide⟩
theorem ki_X1_mayBeIn : Cond.instanceMethod yX1_mayBeIn ∈ tb := tb_in (List.mem_of_getElem? (i := 431) (by decide +kernel)) rfl
theorem ks2_X1_mayBeIn : Cond.selects yX1_mayBeIn.cls yX1_mayBeIn yX1_mayBeIn ∈ tb := tb_in (List.mem_of_getElem? (i := 432) (by decide +kernel)) rfl
theorem ky_X1_visasHeld : KY yX1_visasHeld cX1_visasHeld 3 (some .int) 0 := ⟨⟨by decide +kernel, by decide +kernel, by decide +kernel⟩, tb_in (List.mem_of_getElem? (i := 274) (by decide +kernel)) rfl, tb_in (List.mem_of_getElem? (i := 11) (by decide +kernel)) rfl, by decide⟩
theorem ki_X1_visasHeld : Cond.instanceMethod yX1_visasHeld ∈ tb := tb_in (List.mem_of_getElem? (i := 272) (by decide +kernel)) rfl
theorem ks2_X1_visasHeld : Cond.selects yX1_visasHeld.cls yX1_visasHeld yX1_visasHeld ∈ tb := tb_in (List.mem_of_getElem? (i := 273) (by decide +kernel)) rfl
theorem ky_X1_visasValidOn : KY yX1_visasValidOn cX1_visasValidOn 4 (some .int) 1 := ⟨⟨by decide +kernel, by decide +kernel, by decide +kernel⟩, tb_in (List.mem_of_getElem? (i := 282) (by decide +kernel)) rfl, tb_in (List.mem_of_getElem? (i := 11) (by decide +kernel)) rfl, by decide⟩
theorem ki_X1_visasValidOn : Cond.instanceMethod yX1_visasValidOn ∈ tb := tb_in (List.mem_of_getElem? (i := 280) (by decide +kernel)) rfl
theorem ks2_X1_visasValidOn : Cond.selects yX1_visasValidOn.cls yX1_visasValidOn yX1_visasValidOn ∈ tb := tb_in (List.mem_of_getElem? (i := 281) (by decide +kernel)) rfl
theorem ky_X2_init : KY yX2_init cX2_init 2 none 0 := ⟨⟨by decide +kernel, by decide +kernel, by decide +kernel⟩, tb_in (List.mem_of_getElem? (i := 32) (by decide +kernel)) rfl, tb_in (List.mem_of_getElem? (i := 10) (by decide +kernel)) rfl, by decide⟩
theorem ki_X2_init : Cond.instanceMethod yX2_init ∈ tb := tb_in (List.mem_of_getElem? (i := 31) (by decide +kernel)) rfl
theorem ky_X2_copyFrom : KY yX2_copyFrom cX2_copyFrom 3 none 1 := ⟨⟨by decide +kernel, by decide +kernel, by decide +kernel⟩, tb_in (List.mem_of_getElem? (i := 195) (by decide +kernel)) rfl, tb_in (List.mem_of_getElem? (i := 10) (by decide +kernel)) rfl, by decide⟩
theorem ki_X2_copyFrom : Cond.instanceMethod yX2_copyFrom ∈ tb := tb_in (List.mem_of_getElem? (i := 193) (by decide +kernel)) rfl
theorem ks2_X2_copyFrom : Cond.selects yX2_copyFrom.cls yX2_copyFrom yX2_copyFrom ∈ tb := tb_in (List.mem_of_getElem? (i := 194) (by decide +kernel)) rfl
theorem ky_X2_holderOf : KY yX2_holderOf cX2_holderOf 2 (some (.object "BorderStamps$Holder")) 1 := ⟨⟨by decide +kernel, by decide +kernel, by decide +kernel⟩, tb_in (List.mem_of_getElem? (i := 357) (by decide +kernel)) rfl, tb_in (List.mem_of_getElem? (i := 10) (by decide +kernel)) rfl, by decide⟩
theorem ki_X2_holderOf : Cond.instanceMethod yX2_holderOf ∈ tb := tb_in (List.mem_of_getElem? (i := 355) (by decide +kernel)) rfl
theorem ks2_X2_holderOf : Cond.selects yX2_holderOf.cls yX2_holderOf yX2_holderOf ∈ tb := tb_in (List.mem_of_getElem? (i := 356) (by decide +kernel)) rfl
theorem ky_X2_closedBorders : KY yX2_closedBorders cX2_closedBorders 1 (some .int) 0 := ⟨⟨by decide +kernel, by decide +kernel, by decide +kernel⟩, tb_in (List.mem_of_getElem? (i := 223) (by decide +kernel)) rfl, tb_in (List.mem_of_getElem? (i := 10) (by decide +kernel)) rfl, by decide⟩
theorem ki_X2_closedBorders : Cond.instanceMethod yX2_closedBorders ∈ tb := tb_in (List.mem_of_getElem? (i := 221) (by decide +kernel)) rfl
theorem ks2_X2_closedBorders : Cond.selects yX2_closedBorders.cls yX2_closedBorders yX2_closedBorders ∈ tb := tb_in (List.mem_of_getElem? (i := 222) (by decide +kernel)) rfl
theorem ky_X2_addHolder : KY yX2_addHolder cX2_addHolder 2 (some .int) 1 := ⟨⟨by decide +kernel, by decide +kernel, by decide +kernel⟩, tb_in (List.mem_of_getElem? (i := 309) (by decide +kernel)) rfl, tb_in (List.mem_of_getElem? (i := 10) (by decide +kernel)) rfl, by decide⟩
theorem ki_X2_addHolder : Cond.instanceMethod yX2_addHolder ∈ tb := tb_in (List.mem_of_getElem? (i := 307) (by decide +kernel)) rfl
theorem ks2_X2_addHolder : Cond.selects yX2_addHolder.cls yX2_addHolder yX2_addHolder ∈ tb := tb_in (List.mem_of_getElem? (i := 308) (by decide +kernel)) rfl
theorem ky_X2_giveBook : KY yX2_giveBook cX2_giveBook 4 (some .int) 1 := ⟨⟨by decide +kernel, by decide +kernel, by decide +kernel⟩, tb_in (List.mem_of_getElem? (i := 470) (by decide +kernel)) rfl, tb_in (List.mem_of_getElem? (i := 10) (by decide +kernel)) rfl, by decide⟩
theorem ki_X2_giveBook : Cond.instanceMethod yX2_giveBook ∈ tb := tb_in (List.mem_of_getElem? (i := 468) (by decide +kernel)) rfl
theorem ks2_X2_giveBook : Cond.selects yX2_giveBook.cls yX2_giveBook yX2_giveBook ∈ tb := tb_in (List.mem_of_getElem? (i := 469) (by decide +kernel)) rfl
theorem ky_X2_giveVisa : KY yX2_giveVisa cX2_giveVisa 8 (some .int) 5 := ⟨⟨by decide +kernel, by decide +kernel, by decide +kernel⟩, tb_in (List.mem_of_getElem? (i := 353) (by decide +kernel)) rfl, tb_in (List.mem_of_getElem? (i := 10) (by decide +kernel)) rfl, by decide⟩
theorem ki_X2_giveVisa : Cond.instanceMethod yX2_giveVisa ∈ tb := tb_in (List.mem_of_getElem? (i := 351) (by decide +kernel)) rfl
theorem ks2_X2_giveVisa : Cond.selects yX2_giveVisa.cls yX2_giveVisa yX2_giveVisa ∈ tb := tb_in (List.mem_of_getElem? (i := 352) (by decide +kernel)) rfl
theorem ky_X2_takeVisa : KY yX2_takeVisa cX2_takeVisa 5 (some .int) 2 := ⟨⟨by decide +kernel, by decide +kernel, by decide +kernel⟩, tb_in (List.mem_of_getElem? (i := 479) (by decide +kernel)) rfl, tb_in (List.mem_of_getElem? (i := 10) (by decide +kernel)) rfl, by decide⟩
theorem ki_X2_takeVisa : Cond.instanceMethod yX2_takeVisa ∈ tb := tb_in (List.mem_of_getElem? (i := 477) (by decide +kernel)) rfl
theorem ks2_X2_takeVisa : Cond.selects yX2_takeVisa.cls yX2_takeVisa yX2_takeVisa ∈ tb := tb_in (List.mem_of_getElem? (i := 478) (by decide +kernel)) rfl
theorem ky_X2_flipBorder : KY yX2_flipBorder cX2_flipBorder 3 (some .int) 2 := ⟨⟨by decide +kernel, by decide +kernel, by decide +kernel⟩, tb_in (List.mem_of_getElem? (i := 461) (by decide +kernel)) rfl, tb_in (List.mem_of_getElem? (i := 10) (by decide +kernel)) rfl, by decide⟩
theorem ki_X2_flipBorder : Cond.instanceMethod yX2_flipBorder ∈ tb := tb_in (List.mem_of_getElem? (i := 459) (by decide +kernel)) rfl
theorem ks2_X2_flipBorder : Cond.selects yX2_flipBorder.cls yX2_flipBorder yX2_flipBorder ∈ tb := tb_in (List.mem_of_getElem? (i := 460) (by decide +kernel)) rfl
theorem ky_X2_moveHolder : KY yX2_moveHolder cX2_moveHolder 7 (some .int) 3 := ⟨⟨by decide +kernel, by decide +kernel, by decide +kernel⟩, tb_in (List.mem_of_getElem? (i := 408) (by decide +kernel)) rfl, tb_in (List.mem_of_getElem? (i := 10) (by decide +kernel)) rfl, by decide⟩
theorem ki_X2_moveHolder : Cond.instanceMethod yX2_moveHolder ∈ tb := tb_in (List.mem_of_getElem? (i := 406) (by decide +kernel)) rfl
theorem ks2_X2_moveHolder : Cond.selects yX2_moveHolder.cls yX2_moveHolder yX2_moveHolder ∈ tb := tb_in (List.mem_of_getElem? (i := 407) (by decide +kernel)) rfl
theorem ky_X2_endDays : KY yX2_endDays cX2_endDays 4 (some .int) 1 := ⟨⟨by decide +kernel, by decide +kernel, by decide +kernel⟩, tb_in (List.mem_of_getElem? (i := 488) (by decide +kernel)) rfl, tb_in (List.mem_of_getElem? (i := 10) (by decide +kernel)) rfl, by decide⟩
theorem ki_X2_endDays : Cond.instanceMethod yX2_endDays ∈ tb := tb_in (List.mem_of_getElem? (i := 486) (by decide +kernel)) rfl
theorem ks2_X2_endDays : Cond.selects yX2_endDays.cls yX2_endDays yX2_endDays ∈ tb := tb_in (List.mem_of_getElem? (i := 487) (by decide +kernel)) rfl
theorem ky_X2_endDay : KY yX2_endDay cX2_endDay 4 (some .int) 0 := ⟨⟨by decide +kernel, by decide +kernel, by decide +kernel⟩, tb_in (List.mem_of_getElem? (i := 492) (by decide +kernel)) rfl, tb_in (List.mem_of_getElem? (i := 10) (by decide +kernel)) rfl, by decide⟩
theorem ki_X2_endDay : Cond.instanceMethod yX2_endDay ∈ tb := tb_in (List.mem_of_getElem? (i := 491) (by decide +kernel)) rfl
theorem ks2_X2_endDay : Cond.selects yX2_endDay.cls yX2_endDay yX2_endDay ∈ tb := tb_in (List.mem_of_getElem? (i := 5) (by decide +kernel)) rfl
theorem ky_X2_reasonAgainst : KY yX2_reasonAgainst cX2_reasonAgainst 4 (some .int) 3 := ⟨⟨by decide +kernel, by decide +kernel, by decide +kernel⟩, tb_in (List.mem_of_getElem? (i := 418) (by decide +kernel)) rfl, tb_in (List.mem_of_getElem? (i := 10) (by decide +kernel)) rfl, by decide⟩
theorem ki_X2_reasonAgainst : Cond.instanceMethod yX2_reasonAgainst ∈ tb := tb_in (List.mem_of_getElem? (i := 416) (by decide +kernel)) rfl
theorem ks2_X2_reasonAgainst : Cond.selects yX2_reasonAgainst.cls yX2_reasonAgainst yX2_reasonAgainst ∈ tb := tb_in (List.mem_of_getElem? (i := 417) (by decide +kernel)) rfl
theorem ky_X2_fewestCrossings : KY yX2_fewestCrossings cX2_fewestCrossings 5 (some .int) 2 := ⟨⟨by decide +kernel, by decide +kernel, by decide +kernel⟩, tb_in (List.mem_of_getElem? (i := 567) (by decide +kernel)) rfl, tb_in (List.mem_of_getElem? (i := 10) (by decide +kernel)) rfl, by decide⟩
theorem ki_X2_fewestCrossings : Cond.instanceMethod yX2_fewestCrossings ∈ tb := tb_in (List.mem_of_getElem? (i := 565) (by decide +kernel)) rfl
theorem ks2_X2_fewestCrossings : Cond.selects yX2_fewestCrossings.cls yX2_fewestCrossings yX2_fewestCrossings ∈ tb := tb_in (List.mem_of_getElem? (i := 566) (by decide +kernel)) rfl
theorem ky_X2_oneCrossingFrom : KY yX2_oneCrossingFrom cX2_oneCrossingFrom 5 (some .int) 2 := ⟨⟨by decide +kernel, by decide +kernel, by decide +kernel⟩, tb_in (List.mem_of_getElem? (i := 571) (by decide +kernel)) rfl, tb_in (List.mem_of_getElem? (i := 10) (by decide +kernel)) rfl, by decide⟩
theorem ki_X2_oneCrossingFrom : Cond.instanceMethod yX2_oneCrossingFrom ∈ tb := tb_in (List.mem_of_getElem? (i := 570) (by decide +kernel)) rfl
theorem ks2_X2_oneCrossingFrom : Cond.selects yX2_oneCrossingFrom.cls yX2_oneCrossingFrom yX2_oneCrossingFrom ∈ tb := tb_in (List.mem_of_getElem? (i := 6) (by decide +kernel)) rfl
theorem ky_X2_isBesideOneOf : KY yX2_isBesideOneOf cX2_isBesideOneOf 4 (some .boolean) 2 := ⟨⟨by decide +kernel, by decide +kernel, by decide +kernel⟩, tb_in (List.mem_of_getElem? (i := 575) (by decide +kernel)) rfl, tb_in (List.mem_of_getElem? (i := 10) (by decide +kernel)) rfl, by decide⟩
theorem ki_X2_isBesideOneOf : Cond.instanceMethod yX2_isBesideOneOf ∈ tb := tb_in (List.mem_of_getElem? (i := 574) (by decide +kernel)) rfl
theorem ks2_X2_isBesideOneOf : Cond.selects yX2_isBesideOneOf.cls yX2_isBesideOneOf yX2_isBesideOneOf ∈ tb := tb_in (List.mem_of_getElem? (i := 7) (by decide +kernel)) rfl
theorem ky_X2_isOpen : KY yX2_isOpen cX2_isOpen 3 (some .boolean) 2 := ⟨⟨by decide +kernel, by decide +kernel, by decide +kernel⟩, tb_in (List.mem_of_getElem? (i := 423) (by decide +kernel)) rfl, tb_in (List.mem_of_getElem? (i := 10) (by decide +kernel)) rfl, by decide⟩
theorem ki_X2_isOpen : Cond.instanceMethod yX2_isOpen ∈ tb := tb_in (List.mem_of_getElem? (i := 422) (by decide +kernel)) rfl
theorem ks2_X2_isOpen : Cond.selects yX2_isOpen.cls yX2_isOpen yX2_isOpen ∈ tb := tb_in (List.mem_of_getElem? (i := 3) (by decide +kernel)) rfl
theorem ky_X2_borderBit : KY yX2_borderBit cX2_borderBit 2 (some .long) 2 := ⟨⟨by decide +kernel, by decide +kernel, by decide +kernel⟩, tb_in (List.mem_of_getElem? (i := 426) (by decide +kernel)) rfl, tb_in (List.mem_of_getElem? (i := 10) (by decide +kernel)) rfl, by decide⟩
theorem ks_X2_borderBit : Cond.static yX2_borderBit ∈ tb := tb_in (List.mem_of_getElem? (i := 425) (by decide +kernel)) rfl
theorem ky_X3_init : KY yX3_init cX3_init 1 none 0 := ⟨⟨by decide +kernel, by decide +kernel, by decide +kernel⟩, tb_in (List.mem_of_getElem? (i := 135) (by decide +kernel)) rfl, tb_in (List.mem_of_getElem? (i := 15) (by decide +kernel)) rfl, by decide⟩
theorem ki_X3_init : Cond.instanceMethod yX3_init ∈ tb := tb_in (List.mem_of_getElem? (i := 134) (by decide +kernel)) rfl
theorem ky_X4_init : KY yX4_init cX4_init 3 none 1 := ⟨⟨by decide +kernel, by decide +kernel, by decide +kernel⟩, tb_in (List.mem_of_getElem? (i := 45) (by decide +kernel)) rfl, tb_in (List.mem_of_getElem? (i := 12) (by decide +kernel)) rfl, by decide⟩
theorem ki_X4_init : Cond.instanceMethod yX4_init ∈ tb := tb_in (List.mem_of_getElem? (i := 44) (by decide +kernel)) rfl
theorem ky_X4_copyFrom : KY yX4_copyFrom cX4_copyFrom 3 none 1 := ⟨⟨by decide +kernel, by decide +kernel, by decide +kernel⟩, tb_in (List.mem_of_getElem? (i := 203) (by decide +kernel)) rfl, tb_in (List.mem_of_getElem? (i := 12) (by decide +kernel)) rfl, by decide⟩
theorem ki_X4_copyFrom : Cond.instanceMethod yX4_copyFrom ∈ tb := tb_in (List.mem_of_getElem? (i := 201) (by decide +kernel)) rfl
theorem ks2_X4_copyFrom : Cond.selects yX4_copyFrom.cls yX4_copyFrom yX4_copyFrom ∈ tb := tb_in (List.mem_of_getElem? (i := 202) (by decide +kernel)) rfl
theorem ky_X4_begin : KY yX4_begin cX4_begin 3 none 2 := ⟨⟨by decide +kernel, by decide +kernel, by decide +kernel⟩, tb_in (List.mem_of_getElem? (i := 320) (by decide +kernel)) rfl, tb_in (List.mem_of_getElem? (i := 12) (by decide +kernel)) rfl, by decide⟩
theorem ki_X4_begin : Cond.instanceMethod yX4_begin ∈ tb := tb_in (List.mem_of_getElem? (i := 318) (by decide +kernel)) rfl
theorem ks2_X4_begin : Cond.selects yX4_begin.cls yX4_begin yX4_begin ∈ tb := tb_in (List.mem_of_getElem? (i := 319) (by decide +kernel)) rfl
theorem ky_X4_add : KY yX4_add cX4_add 3 none 2 := ⟨⟨by decide +kernel, by decide +kernel, by decide +kernel⟩, tb_in (List.mem_of_getElem? (i := 448) (by decide +kernel)) rfl, tb_in (List.mem_of_getElem? (i := 12) (by decide +kernel)) rfl, by decide⟩
theorem ki_X4_add : Cond.instanceMethod yX4_add ∈ tb := tb_in (List.mem_of_getElem? (i := 446) (by decide +kernel)) rfl
theorem ks2_X4_add : Cond.selects yX4_add.cls yX4_add yX4_add ∈ tb := tb_in (List.mem_of_getElem? (i := 447) (by decide +kernel)) rfl
theorem ky_X4_lastPlace : KY yX4_lastPlace cX4_lastPlace 1 (some .int) 0 := ⟨⟨by decide +kernel, by decide +kernel, by decide +kernel⟩, tb_in (List.mem_of_getElem? (i := 332) (by decide +kernel)) rfl, tb_in (List.mem_of_getElem? (i := 12) (by decide +kernel)) rfl, by decide⟩
theorem ki_X4_lastPlace : Cond.instanceMethod yX4_lastPlace ∈ tb := tb_in (List.mem_of_getElem? (i := 330) (by decide +kernel)) rfl
theorem ks2_X4_lastPlace : Cond.selects yX4_lastPlace.cls yX4_lastPlace yX4_lastPlace ∈ tb := tb_in (List.mem_of_getElem? (i := 331) (by decide +kernel)) rfl
theorem ky_X4_placeAfter : KY yX4_placeAfter cX4_placeAfter 2 (some .int) 1 := ⟨⟨by decide +kernel, by decide +kernel, by decide +kernel⟩, tb_in (List.mem_of_getElem? (i := 261) (by decide +kernel)) rfl, tb_in (List.mem_of_getElem? (i := 12) (by decide +kernel)) rfl, by decide⟩
theorem ki_X4_placeAfter : Cond.instanceMethod yX4_placeAfter ∈ tb := tb_in (List.mem_of_getElem? (i := 259) (by decide +kernel)) rfl
theorem ks2_X4_placeAfter : Cond.selects yX4_placeAfter.cls yX4_placeAfter yX4_placeAfter ∈ tb := tb_in (List.mem_of_getElem? (i := 260) (by decide +kernel)) rfl
theorem ky_X4_dayAfter : KY yX4_dayAfter cX4_dayAfter 2 (some .int) 1 := ⟨⟨by decide +kernel, by decide +kernel, by decide +kernel⟩, tb_in (List.mem_of_getElem? (i := 522) (by decide +kernel)) rfl, tb_in (List.mem_of_getElem? (i := 12) (by decide +kernel)) rfl, by decide⟩
theorem ki_X4_dayAfter : Cond.instanceMethod yX4_dayAfter ∈ tb := tb_in (List.mem_of_getElem? (i := 520) (by decide +kernel)) rfl
theorem ks2_X4_dayAfter : Cond.selects yX4_dayAfter.cls yX4_dayAfter yX4_dayAfter ∈ tb := tb_in (List.mem_of_getElem? (i := 521) (by decide +kernel)) rfl
theorem ky_X4_daysIn : KY yX4_daysIn cX4_daysIn 8 (some .int) 3 := ⟨⟨by decide +kernel, by decide +kernel, by decide +kernel⟩, tb_in (List.mem_of_getElem? (i := 400) (by decide +kernel)) rfl, tb_in (List.mem_of_getElem? (i := 12) (by decide +kernel)) rfl, by decide⟩
theorem ki_X4_daysIn : Cond.instanceMethod yX4_daysIn ∈ tb := tb_in (List.mem_of_getElem? (i := 398) (by decide +kernel)) rfl
theorem ks2_X4_daysIn : Cond.selects yX4_daysIn.cls yX4_daysIn yX4_daysIn ∈ tb := tb_in (List.mem_of_getElem? (i := 399) (by decide +kernel)) rfl
theorem ky_X5_init : KY yX5_init cX5_init 5 none 4 := ⟨⟨by decide +kernel, by decide +kernel, by decide +kernel⟩, tb_in (List.mem_of_getElem? (i := 366) (by decide +kernel)) rfl, tb_in (List.mem_of_getElem? (i := 18) (by decide +kernel)) rfl, by decide⟩
theorem ki_X5_init : Cond.instanceMethod yX5_init ∈ tb := tb_in (List.mem_of_getElem? (i := 365) (by decide +kernel)) rfl
theorem ky_X5_isValidOn : KY yX5_isValidOn cX5_isValidOn 2 (some .boolean) 1 := ⟨⟨by decide +kernel, by decide +kernel, by decide +kernel⟩, tb_in (List.mem_of_getElem? (i := 290) (by decide +kernel)) rfl, tb_in (List.mem_of_getElem? (i := 18) (by decide +kernel)) rfl, by decide⟩
theorem ki_X5_isValidOn : Cond.instanceMethod yX5_isValidOn ∈ tb := tb_in (List.mem_of_getElem? (i := 288) (by decide +kernel)) rfl
theorem ks2_X5_isValidOn : Cond.selects yX5_isValidOn.cls yX5_isValidOn yX5_isValidOn ∈ tb := tb_in (List.mem_of_getElem? (i := 289) (by decide +kernel)) rfl
theorem ky_X6_init : KY yX6_init cX6_init 2 none 0 := ⟨⟨by decide +kernel, by decide +kernel, by decide +kernel⟩, tb_in (List.mem_of_getElem? (i := 24) (by decide +kernel)) rfl, tb_in (List.mem_of_getElem? (i := 9) (by decide +kernel)) rfl, by decide⟩
theorem ki_X6_init : Cond.instanceMethod yX6_init ∈ tb := tb_in (List.mem_of_getElem? (i := 23) (by decide +kernel)) rfl
theorem ky_X6_issue : KY yX6_issue cX6_issue 2 (some .int) 1 := ⟨⟨by decide +kernel, by decide +kernel, by decide +kernel⟩, tb_in (List.mem_of_getElem? (i := 305) (by decide +kernel)) rfl, tb_in (List.mem_of_getElem? (i := 9) (by decide +kernel)) rfl, by decide⟩
theorem ki_X6_issue : Cond.instanceMethod yX6_issue ∈ tb := tb_in (List.mem_of_getElem? (i := 303) (by decide +kernel)) rfl
theorem ks2_X6_issue : Cond.selects yX6_issue.cls yX6_issue yX6_issue ∈ tb := tb_in (List.mem_of_getElem? (i := 304) (by decide +kernel)) rfl
theorem ky_X6_renew : KY yX6_renew cX6_renew 2 (some .int) 1 := ⟨⟨by decide +kernel, by decide +kernel, by decide +kernel⟩, tb_in (List.mem_of_getElem? (i := 466) (by decide +kernel)) rfl, tb_in (List.mem_of_getElem? (i := 9) (by decide +kernel)) rfl, by decide⟩
theorem ki_X6_renew : Cond.instanceMethod yX6_renew ∈ tb := tb_in (List.mem_of_getElem? (i := 464) (by decide +kernel)) rfl
theorem ks2_X6_renew : Cond.selects yX6_renew.cls yX6_renew yX6_renew ∈ tb := tb_in (List.mem_of_getElem? (i := 465) (by decide +kernel)) rfl
theorem ky_X6_grant : KY yX6_grant cX6_grant 6 (some .int) 5 := ⟨⟨by decide +kernel, by decide +kernel, by decide +kernel⟩, tb_in (List.mem_of_getElem? (i := 349) (by decide +kernel)) rfl, tb_in (List.mem_of_getElem? (i := 9) (by decide +kernel)) rfl, by decide⟩
theorem ki_X6_grant : Cond.instanceMethod yX6_grant ∈ tb := tb_in (List.mem_of_getElem? (i := 347) (by decide +kernel)) rfl
theorem ks2_X6_grant : Cond.selects yX6_grant.cls yX6_grant yX6_grant ∈ tb := tb_in (List.mem_of_getElem? (i := 348) (by decide +kernel)) rfl
theorem ky_X6_revoke : KY yX6_revoke cX6_revoke 3 (some .int) 2 := ⟨⟨by decide +kernel, by decide +kernel, by decide +kernel⟩, tb_in (List.mem_of_getElem? (i := 475) (by decide +kernel)) rfl, tb_in (List.mem_of_getElem? (i := 9) (by decide +kernel)) rfl, by decide⟩
theorem ki_X6_revoke : Cond.instanceMethod yX6_revoke ∈ tb := tb_in (List.mem_of_getElem? (i := 473) (by decide +kernel)) rfl
theorem ks2_X6_revoke : Cond.selects yX6_revoke.cls yX6_revoke yX6_revoke ∈ tb := tb_in (List.mem_of_getElem? (i := 474) (by decide +kernel)) rfl
theorem ky_X6_turnBorder : KY yX6_turnBorder cX6_turnBorder 3 (some .int) 2 := ⟨⟨by decide +kernel, by decide +kernel, by decide +kernel⟩, tb_in (List.mem_of_getElem? (i := 457) (by decide +kernel)) rfl, tb_in (List.mem_of_getElem? (i := 9) (by decide +kernel)) rfl, by decide⟩
theorem ki_X6_turnBorder : Cond.instanceMethod yX6_turnBorder ∈ tb := tb_in (List.mem_of_getElem? (i := 455) (by decide +kernel)) rfl
theorem ks2_X6_turnBorder : Cond.selects yX6_turnBorder.cls yX6_turnBorder yX6_turnBorder ∈ tb := tb_in (List.mem_of_getElem? (i := 456) (by decide +kernel)) rfl
theorem ky_X6_cross : KY yX6_cross cX6_cross 4 (some .int) 3 := ⟨⟨by decide +kernel, by decide +kernel, by decide +kernel⟩, tb_in (List.mem_of_getElem? (i := 404) (by decide +kernel)) rfl, tb_in (List.mem_of_getElem? (i := 9) (by decide +kernel)) rfl, by decide⟩
theorem ki_X6_cross : Cond.instanceMethod yX6_cross ∈ tb := tb_in (List.mem_of_getElem? (i := 402) (by decide +kernel)) rfl
theorem ks2_X6_cross : Cond.selects yX6_cross.cls yX6_cross yX6_cross ∈ tb := tb_in (List.mem_of_getElem? (i := 403) (by decide +kernel)) rfl
theorem ky_X6_pass : KY yX6_pass cX6_pass 2 (some .int) 1 := ⟨⟨by decide +kernel, by decide +kernel, by decide +kernel⟩, tb_in (List.mem_of_getElem? (i := 484) (by decide +kernel)) rfl, tb_in (List.mem_of_getElem? (i := 9) (by decide +kernel)) rfl, by decide⟩
theorem ki_X6_pass : Cond.instanceMethod yX6_pass ∈ tb := tb_in (List.mem_of_getElem? (i := 482) (by decide +kernel)) rfl
theorem ks2_X6_pass : Cond.selects yX6_pass.cls yX6_pass yX6_pass ∈ tb := tb_in (List.mem_of_getElem? (i := 483) (by decide +kernel)) rfl
theorem ky_X6_undo : KY yX6_undo cX6_undo 1 (some .int) 0 := ⟨⟨by decide +kernel, by decide +kernel, by decide +kernel⟩, tb_in (List.mem_of_getElem? (i := 191) (by decide +kernel)) rfl, tb_in (List.mem_of_getElem? (i := 9) (by decide +kernel)) rfl, by decide⟩
theorem ki_X6_undo : Cond.instanceMethod yX6_undo ∈ tb := tb_in (List.mem_of_getElem? (i := 189) (by decide +kernel)) rfl
theorem ks2_X6_undo : Cond.selects yX6_undo.cls yX6_undo yX6_undo ∈ tb := tb_in (List.mem_of_getElem? (i := 190) (by decide +kernel)) rfl
theorem ky_X6_passport : KY yX6_passport cX6_passport 4 (some .int) 2 := ⟨⟨by decide +kernel, by decide +kernel, by decide +kernel⟩, tb_in (List.mem_of_getElem? (i := 508) (by decide +kernel)) rfl, tb_in (List.mem_of_getElem? (i := 9) (by decide +kernel)) rfl, by decide⟩
theorem ki_X6_passport : Cond.instanceMethod yX6_passport ∈ tb := tb_in (List.mem_of_getElem? (i := 506) (by decide +kernel)) rfl
theorem ks2_X6_passport : Cond.selects yX6_passport.cls yX6_passport yX6_passport ∈ tb := tb_in (List.mem_of_getElem? (i := 507) (by decide +kernel)) rfl
theorem ky_X6_stamp : KY yX6_stamp cX6_stamp 6 (some .int) 3 := ⟨⟨by decide +kernel, by decide +kernel, by decide +kernel⟩, tb_in (List.mem_of_getElem? (i := 513) (by decide +kernel)) rfl, tb_in (List.mem_of_getElem? (i := 9) (by decide +kernel)) rfl, by decide⟩
theorem ki_X6_stamp : Cond.instanceMethod yX6_stamp ∈ tb := tb_in (List.mem_of_getElem? (i := 511) (by decide +kernel)) rfl
theorem ks2_X6_stamp : Cond.selects yX6_stamp.cls yX6_stamp yX6_stamp ∈ tb := tb_in (List.mem_of_getElem? (i := 512) (by decide +kernel)) rfl
theorem ky_X6_visa : KY yX6_visa cX6_visa 6 (some .int) 3 := ⟨⟨by decide +kernel, by decide +kernel, by decide +kernel⟩, tb_in (List.mem_of_getElem? (i := 529) (by decide +kernel)) rfl, tb_in (List.mem_of_getElem? (i := 9) (by decide +kernel)) rfl, by decide⟩
theorem ki_X6_visa : Cond.instanceMethod yX6_visa ∈ tb := tb_in (List.mem_of_getElem? (i := 527) (by decide +kernel)) rfl
theorem ks2_X6_visa : Cond.selects yX6_visa.cls yX6_visa yX6_visa ∈ tb := tb_in (List.mem_of_getElem? (i := 528) (by decide +kernel)) rfl
theorem ky_X6_reason : KY yX6_reason cX6_reason 4 (some .int) 2 := ⟨⟨by decide +kernel, by decide +kernel, by decide +kernel⟩, tb_in (List.mem_of_getElem? (i := 543) (by decide +kernel)) rfl, tb_in (List.mem_of_getElem? (i := 9) (by decide +kernel)) rfl, by decide⟩
theorem ki_X6_reason : Cond.instanceMethod yX6_reason ∈ tb := tb_in (List.mem_of_getElem? (i := 541) (by decide +kernel)) rfl
theorem ks2_X6_reason : Cond.selects yX6_reason.cls yX6_reason yX6_reason ∈ tb := tb_in (List.mem_of_getElem? (i := 542) (by decide +kernel)) rfl
theorem ky_X6_stay : KY yX6_stay cX6_stay 8 (some .int) 5 := ⟨⟨by decide +kernel, by decide +kernel, by decide +kernel⟩, tb_in (List.mem_of_getElem? (i := 548) (by decide +kernel)) rfl, tb_in (List.mem_of_getElem? (i := 9) (by decide +kernel)) rfl, by decide⟩
theorem ki_X6_stay : Cond.instanceMethod yX6_stay ∈ tb := tb_in (List.mem_of_getElem? (i := 546) (by decide +kernel)) rfl
theorem ks2_X6_stay : Cond.selects yX6_stay.cls yX6_stay yX6_stay ∈ tb := tb_in (List.mem_of_getElem? (i := 547) (by decide +kernel)) rfl
theorem ky_X6_wayTo : KY yX6_wayTo cX6_wayTo 4 (some .int) 2 := ⟨⟨by decide +kernel, by decide +kernel, by decide +kernel⟩, tb_in (List.mem_of_getElem? (i := 563) (by decide +kernel)) rfl, tb_in (List.mem_of_getElem? (i := 9) (by decide +kernel)) rfl, by decide⟩
theorem ki_X6_wayTo : Cond.instanceMethod yX6_wayTo ∈ tb := tb_in (List.mem_of_getElem? (i := 561) (by decide +kernel)) rfl
theorem ks2_X6_wayTo : Cond.selects yX6_wayTo.cls yX6_wayTo yX6_wayTo ∈ tb := tb_in (List.mem_of_getElem? (i := 562) (by decide +kernel)) rfl
theorem ky_X6_daysLeft : KY yX6_daysLeft cX6_daysLeft 7 (some .int) 2 := ⟨⟨by decide +kernel, by decide +kernel, by decide +kernel⟩, tb_in (List.mem_of_getElem? (i := 555) (by decide +kernel)) rfl, tb_in (List.mem_of_getElem? (i := 9) (by decide +kernel)) rfl, by decide⟩
theorem ki_X6_daysLeft : Cond.instanceMethod yX6_daysLeft ∈ tb := tb_in (List.mem_of_getElem? (i := 553) (by decide +kernel)) rfl
theorem ks2_X6_daysLeft : Cond.selects yX6_daysLeft.cls yX6_daysLeft yX6_daysLeft ∈ tb := tb_in (List.mem_of_getElem? (i := 554) (by decide +kernel)) rfl
theorem ky_X6_mistold : KY yX6_mistold cX6_mistold 4 (some .int) 0 := ⟨⟨by decide +kernel, by decide +kernel, by decide +kernel⟩, tb_in (List.mem_of_getElem? (i := 499) (by decide +kernel)) rfl, tb_in (List.mem_of_getElem? (i := 9) (by decide +kernel)) rfl, by decide⟩
theorem ki_X6_mistold : Cond.instanceMethod yX6_mistold ∈ tb := tb_in (List.mem_of_getElem? (i := 497) (by decide +kernel)) rfl
theorem ks2_X6_mistold : Cond.selects yX6_mistold.cls yX6_mistold yX6_mistold ∈ tb := tb_in (List.mem_of_getElem? (i := 498) (by decide +kernel)) rfl
theorem ky_X6_holders : KY yX6_holders cX6_holders 7 (some .int) 2 := ⟨⟨by decide +kernel, by decide +kernel, by decide +kernel⟩, tb_in (List.mem_of_getElem? (i := 582) (by decide +kernel)) rfl, tb_in (List.mem_of_getElem? (i := 9) (by decide +kernel)) rfl, by decide⟩
theorem ki_X6_holders : Cond.instanceMethod yX6_holders ∈ tb := tb_in (List.mem_of_getElem? (i := 580) (by decide +kernel)) rfl
theorem ks2_X6_holders : Cond.selects yX6_holders.cls yX6_holders yX6_holders ∈ tb := tb_in (List.mem_of_getElem? (i := 581) (by decide +kernel)) rfl
theorem ky_X6_count : KY yX6_count cX6_count 2 (some .int) 1 := ⟨⟨by decide +kernel, by decide +kernel, by decide +kernel⟩, tb_in (List.mem_of_getElem? (i := 219) (by decide +kernel)) rfl, tb_in (List.mem_of_getElem? (i := 9) (by decide +kernel)) rfl, by decide⟩
theorem ki_X6_count : Cond.instanceMethod yX6_count ∈ tb := tb_in (List.mem_of_getElem? (i := 217) (by decide +kernel)) rfl
theorem ks2_X6_count : Cond.selects yX6_count.cls yX6_count yX6_count ∈ tb := tb_in (List.mem_of_getElem? (i := 218) (by decide +kernel)) rfl
theorem ky_X6_sumOverHolders : KY yX6_sumOverHolders cX6_sumOverHolders 5 (some .int) 1 := ⟨⟨by decide +kernel, by decide +kernel, by decide +kernel⟩, tb_in (List.mem_of_getElem? (i := 236) (by decide +kernel)) rfl, tb_in (List.mem_of_getElem? (i := 9) (by decide +kernel)) rfl, by decide⟩
theorem ki_X6_sumOverHolders : Cond.instanceMethod yX6_sumOverHolders ∈ tb := tb_in (List.mem_of_getElem? (i := 235) (by decide +kernel)) rfl
theorem ks2_X6_sumOverHolders : Cond.selects yX6_sumOverHolders.cls yX6_sumOverHolders yX6_sumOverHolders ∈ tb := tb_in (List.mem_of_getElem? (i := 0) (by decide +kernel)) rfl
theorem ky_X6_recorded : KY yX6_recorded cX6_recorded 3 (some .int) 1 := ⟨⟨by decide +kernel, by decide +kernel, by decide +kernel⟩, tb_in (List.mem_of_getElem? (i := 341) (by decide +kernel)) rfl, tb_in (List.mem_of_getElem? (i := 9) (by decide +kernel)) rfl, by decide⟩
theorem ki_X6_recorded : Cond.instanceMethod yX6_recorded ∈ tb := tb_in (List.mem_of_getElem? (i := 340) (by decide +kernel)) rfl
theorem ks2_X6_recorded : Cond.selects yX6_recorded.cls yX6_recorded yX6_recorded ∈ tb := tb_in (List.mem_of_getElem? (i := 1) (by decide +kernel)) rfl
theorem ky_X6_dropOldest : KY yX6_dropOldest cX6_dropOldest 3 none 0 := ⟨⟨by decide +kernel, by decide +kernel, by decide +kernel⟩, tb_in (List.mem_of_getElem? (i := 345) (by decide +kernel)) rfl, tb_in (List.mem_of_getElem? (i := 9) (by decide +kernel)) rfl, by decide⟩
theorem ki_X6_dropOldest : Cond.instanceMethod yX6_dropOldest ∈ tb := tb_in (List.mem_of_getElem? (i := 344) (by decide +kernel)) rfl
theorem ks2_X6_dropOldest : Cond.selects yX6_dropOldest.cls yX6_dropOldest yX6_dropOldest ∈ tb := tb_in (List.mem_of_getElem? (i := 2) (by decide +kernel)) rfl
theorem ky_X6_isWithin : KY yX6_isWithin cX6_isWithin 3 (some .boolean) 3 := ⟨⟨by decide +kernel, by decide +kernel, by decide +kernel⟩, tb_in (List.mem_of_getElem? (i := 232) (by decide +kernel)) rfl, tb_in (List.mem_of_getElem? (i := 9) (by decide +kernel)) rfl, by decide⟩
theorem ks_X6_isWithin : Cond.static yX6_isWithin ∈ tb := tb_in (List.mem_of_getElem? (i := 231) (by decide +kernel)) rfl
theorem ky_X6_isCountry : KY yX6_isCountry cX6_isCountry 1 (some .boolean) 1 := ⟨⟨by decide +kernel, by decide +kernel, by decide +kernel⟩, tb_in (List.mem_of_getElem? (i := 312) (by decide +kernel)) rfl, tb_in (List.mem_of_getElem? (i := 9) (by decide +kernel)) rfl, by decide⟩
theorem ks_X6_isCountry : Cond.static yX6_isCountry ∈ tb := tb_in (List.mem_of_getElem? (i := 311) (by decide +kernel)) rfl
theorem ky_X6_isSpan : KY yX6_isSpan cX6_isSpan 2 (some .boolean) 2 := ⟨⟨by decide +kernel, by decide +kernel, by decide +kernel⟩, tb_in (List.mem_of_getElem? (i := 361) (by decide +kernel)) rfl, tb_in (List.mem_of_getElem? (i := 9) (by decide +kernel)) rfl, by decide⟩
theorem ks_X6_isSpan : Cond.static yX6_isSpan ∈ tb := tb_in (List.mem_of_getElem? (i := 360) (by decide +kernel)) rfl
theorem ky_J6_bitCount_0f7a4 : KY yJ6_bitCount_0f7a4 cJ6_bitCount_0f7a4 1 (some .int) 1 := ⟨⟨by decide +kernel, by decide +kernel, by decide +kernel⟩, tb_in (List.mem_of_getElem? (i := 411) (by decide +kernel)) rfl, tb_in (List.mem_of_getElem? (i := 19) (by decide +kernel)) rfl, by decide⟩
theorem ks_J6_bitCount_0f7a4 : Cond.static yJ6_bitCount_0f7a4 ∈ tb := tb_in (List.mem_of_getElem? (i := 410) (by decide +kernel)) rfl
theorem ky_J13_bitCount_95d88 : KY yJ13_bitCount_95d88 cJ13_bitCount_95d88 2 (some .int) 1 := ⟨⟨by decide +kernel, by decide +kernel, by decide +kernel⟩, tb_in (List.mem_of_getElem? (i := 226) (by decide +kernel)) rfl, tb_in (List.mem_of_getElem? (i := 16) (by decide +kernel)) rfl, by decide⟩
theorem ks_J13_bitCount_95d88 : Cond.static yJ13_bitCount_95d88 ∈ tb := tb_in (List.mem_of_getElem? (i := 225) (by decide +kernel)) rfl
theorem ky_J9_max_7cf53 : KY yJ9_max_7cf53 cJ9_max_7cf53 2 (some .int) 2 := ⟨⟨by decide +kernel, by decide +kernel, by decide +kernel⟩, tb_in (List.mem_of_getElem? (i := 49) (by decide +kernel)) rfl, tb_in (List.mem_of_getElem? (i := 13) (by decide +kernel)) rfl, by decide⟩
theorem ks_J9_max_7cf53 : Cond.static yJ9_max_7cf53 ∈ tb := tb_in (List.mem_of_getElem? (i := 48) (by decide +kernel)) rfl
theorem ky_J9_min_7cf53 : KY yJ9_min_7cf53 cJ9_min_7cf53 2 (some .int) 2 := ⟨⟨by decide +kernel, by decide +kernel, by decide +kernel⟩, tb_in (List.mem_of_getElem? (i := 206) (by decide +kernel)) rfl, tb_in (List.mem_of_getElem? (i := 13) (by decide +kernel)) rfl, by decide⟩
theorem ks_J9_min_7cf53 : Cond.static yJ9_min_7cf53 ∈ tb := tb_in (List.mem_of_getElem? (i := 205) (by decide +kernel)) rfl
theorem ky_L_cell : KY yL_cell cL_cell 2 (some .int) 2 := ⟨⟨by decide +kernel, by decide +kernel, by decide +kernel⟩, tb_in (List.mem_of_getElem? (i := 294) (by decide +kernel)) rfl, tb_in (List.mem_of_getElem? (i := 8) (by decide +kernel)) rfl, by decide⟩
theorem ks_L_cell : Cond.static yL_cell ∈ tb := tb_in (List.mem_of_getElem? (i := 293) (by decide +kernel)) rfl
theorem ky_L_low : KY yL_low cL_low 2 (some .int) 2 := ⟨⟨by decide +kernel, by decide +kernel, by decide +kernel⟩, tb_in (List.mem_of_getElem? (i := 297) (by decide +kernel)) rfl, tb_in (List.mem_of_getElem? (i := 8) (by decide +kernel)) rfl, by decide⟩
theorem ks_L_low : Cond.static yL_low ∈ tb := tb_in (List.mem_of_getElem? (i := 296) (by decide +kernel)) rfl
theorem ky_L_act : KY yL_act cL_act 9 (some .int) 2 := ⟨⟨by decide +kernel, by decide +kernel, by decide +kernel⟩, tb_in (List.mem_of_getElem? (i := 301) (by decide +kernel)) rfl, tb_in (List.mem_of_getElem? (i := 8) (by decide +kernel)) rfl, by decide⟩
theorem ks_L_act : Cond.static yL_act ∈ tb := tb_in (List.mem_of_getElem? (i := 300) (by decide +kernel)) rfl
theorem ky_L_areAlike : KY yL_areAlike cL_areAlike 5 (some .boolean) 2 := ⟨⟨by decide +kernel, by decide +kernel, by decide +kernel⟩, tb_in (List.mem_of_getElem? (i := 495) (by decide +kernel)) rfl, tb_in (List.mem_of_getElem? (i := 8) (by decide +kernel)) rfl, by decide⟩
theorem ks_L_areAlike : Cond.static yL_areAlike ∈ tb := tb_in (List.mem_of_getElem? (i := 494) (by decide +kernel)) rfl
theorem ky_L_isBookSo : KY yL_isBookSo cL_isBookSo 9 (some .boolean) 2 := ⟨⟨by decide +kernel, by decide +kernel, by decide +kernel⟩, tb_in (List.mem_of_getElem? (i := 536) (by decide +kernel)) rfl, tb_in (List.mem_of_getElem? (i := 8) (by decide +kernel)) rfl, by decide⟩
theorem ks_L_isBookSo : Cond.static yL_isBookSo ∈ tb := tb_in (List.mem_of_getElem? (i := 535) (by decide +kernel)) rfl
theorem ky_L_areStaysSo : KY2 yL_areStaysSo cL_areStaysSo 13 (some .boolean) 2 := ⟨⟨by decide +kernel, by decide +kernel, by decide +kernel⟩, tb_in (List.mem_of_getElem? (i := 539) (by decide +kernel)) rfl, tb_in (List.mem_of_getElem? (i := 8) (by decide +kernel)) rfl, by decide⟩
theorem ks_L_areStaysSo : Cond.static yL_areStaysSo ∈ tb := tb_in (List.mem_of_getElem? (i := 538) (by decide +kernel)) rfl
theorem ky_L_areWaysSo : KY yL_areWaysSo cL_areWaysSo 6 (some .boolean) 2 := ⟨⟨by decide +kernel, by decide +kernel, by decide +kernel⟩, tb_in (List.mem_of_getElem? (i := 559) (by decide +kernel)) rfl, tb_in (List.mem_of_getElem? (i := 8) (by decide +kernel)) rfl, by decide⟩
theorem ks_L_areWaysSo : Cond.static yL_areWaysSo ∈ tb := tb_in (List.mem_of_getElem? (i := 558) (by decide +kernel)) rfl
theorem ky_L_isCrossedSo : KY yL_isCrossedSo cL_isCrossedSo 11 (some .boolean) 4 := ⟨⟨by decide +kernel, by decide +kernel, by decide +kernel⟩, tb_in (List.mem_of_getElem? (i := 578) (by decide +kernel)) rfl, tb_in (List.mem_of_getElem? (i := 8) (by decide +kernel)) rfl, by decide⟩
theorem ks_L_isCrossedSo : Cond.static yL_isCrossedSo ∈ tb := tb_in (List.mem_of_getElem? (i := 577) (by decide +kernel)) rfl
theorem ky_L_areSums : KY yL_areSums cL_areSums 9 (some .boolean) 1 := ⟨⟨by decide +kernel, by decide +kernel, by decide +kernel⟩, tb_in (List.mem_of_getElem? (i := 585) (by decide +kernel)) rfl, tb_in (List.mem_of_getElem? (i := 8) (by decide +kernel)) rfl, by decide⟩
theorem ks_L_areSums : Cond.static yL_areSums ∈ tb := tb_in (List.mem_of_getElem? (i := 584) (by decide +kernel)) rfl
theorem fl_X0_14 : FL RX0 14 0 0 := ⟨RX0, TX0, 2, rfl, by decide, tbX0, rfl, tb_in (List.mem_of_getElem? (i := 71) (by decide +kernel)) rfl⟩
theorem fp_X0_14 : FP RX0 14 0 0 true (.object "BorderStamps$Trail") := ⟨RX0, TX0, 2, tyX0, rfl, by decide, tbX0, rfl, tb_in (List.mem_of_getElem? (i := 71) (by decide +kernel)) rfl, tyX0_ok, nmX0, rfl, rfl⟩
theorem fl_X0_20 : FL RX0 20 0 1 := ⟨RX0, TX0, 2, rfl, by decide, tbX0, rfl, tb_in (List.mem_of_getElem? (i := 74) (by decide +kernel)) rfl⟩
theorem fp_X0_20 : FP RX0 20 0 1 true (.array .int) := ⟨RX0, TX0, 2, tyX0, rfl, by decide, tbX0, rfl, tb_in (List.mem_of_getElem? (i := 74) (by decide +kernel)) rfl, tyX0_ok, nmX0, rfl, rfl⟩
theorem fl_X0_49 : FL RX0 49 4 2 := ⟨RX4, TX4, 3, rfl, by decide, tbX4, rfl, tb_in (List.mem_of_getElem? (i := 54) (by decide +kernel)) rfl⟩
theorem fl_X1_14 : FL RX1 14 1 3 := ⟨RX1, TX1, 6, rfl, by decide, tbX1, rfl, tb_in (List.mem_of_getElem? (i := 90) (by decide +kernel)) rfl⟩
theorem fp_X1_14 : FP RX1 14 1 3 true (.object "BorderStamps$Trail") := ⟨RX1, TX1, 6, tyX1, rfl, by decide, tbX1, rfl, tb_in (List.mem_of_getElem? (i := 90) (by decide +kernel)) rfl, tyX1_ok, nmX1, rfl, rfl⟩
theorem fl_X1_23 : FL RX1 23 1 4 := ⟨RX1, TX1, 6, rfl, by decide, tbX1, rfl, tb_in (List.mem_of_getElem? (i := 93) (by decide +kernel)) rfl⟩
theorem fp_X1_23 : FP RX1 23 1 4 true (.object "BorderStamps$Book") := ⟨RX1, TX1, 6, tyX1, rfl, by decide, tbX1, rfl, tb_in (List.mem_of_getElem? (i := 93) (by decide +kernel)) rfl, tyX1_ok, nmX1, rfl, rfl⟩
theorem fl_X1_29 : FL RX1 29 1 5 := ⟨RX1, TX1, 6, rfl, by decide, tbX1, rfl, tb_in (List.mem_of_getElem? (i := 96) (by decide +kernel)) rfl⟩
theorem fp_X1_29 : FP RX1 29 1 5 true (.array (.object "BorderStamps$Visa")) := ⟨RX1, TX1, 6, tyX1, rfl, by decide, tbX1, rfl, tb_in (List.mem_of_getElem? (i := 96) (by decide +kernel)) rfl, tyX1_ok, nmX1, rfl, rfl⟩
theorem fl_X1_33 : FL RX1 33 1 0 := ⟨RX1, TX1, 6, rfl, by decide, tbX1, rfl, tb_in (List.mem_of_getElem? (i := 82) (by decide +kernel)) rfl⟩
theorem fp_X1_33 : FP RX1 33 1 0 false .int := ⟨RX1, TX1, 6, tyX1, rfl, by decide, tbX1, rfl, tb_in (List.mem_of_getElem? (i := 82) (by decide +kernel)) rfl, tyX1_ok, nmX1, rfl, rfl⟩
theorem fl_X1_37 : FL RX1 37 1 1 := ⟨RX1, TX1, 6, rfl, by decide, tbX1, rfl, tb_in (List.mem_of_getElem? (i := 85) (by decide +kernel)) rfl⟩
theorem fp_X1_37 : FP RX1 37 1 1 false .int := ⟨RX1, TX1, 6, tyX1, rfl, by decide, tbX1, rfl, tb_in (List.mem_of_getElem? (i := 85) (by decide +kernel)) rfl, tyX1_ok, nmX1, rfl, rfl⟩
theorem fl_X1_40 : FL RX1 40 1 2 := ⟨RX1, TX1, 6, rfl, by decide, tbX1, rfl, tb_in (List.mem_of_getElem? (i := 88) (by decide +kernel)) rfl⟩
theorem fp_X1_40 : FP RX1 40 1 2 false .int := ⟨RX1, TX1, 6, tyX1, rfl, by decide, tbX1, rfl, tb_in (List.mem_of_getElem? (i := 88) (by decide +kernel)) rfl, tyX1_ok, nmX1, rfl, rfl⟩
theorem fl_X1_65 : FL RX1 65 0 0 := ⟨RX0, TX0, 2, rfl, by decide, tbX0, rfl, tb_in (List.mem_of_getElem? (i := 72) (by decide +kernel)) rfl⟩
theorem fl_X1_68 : FL RX1 68 4 2 := ⟨RX4, TX4, 3, rfl, by decide, tbX4, rfl, tb_in (List.mem_of_getElem? (i := 53) (by decide +kernel)) rfl⟩
theorem fl_X1_71 : FL RX1 71 5 0 := ⟨RX5, TX5, 4, rfl, by decide, tbX5, rfl, tb_in (List.mem_of_getElem? (i := 369) (by decide +kernel)) rfl⟩
theorem fl_X1_74 : FL RX1 74 5 1 := ⟨RX5, TX5, 4, rfl, by decide, tbX5, rfl, tb_in (List.mem_of_getElem? (i := 371) (by decide +kernel)) rfl⟩
theorem fl_X1_77 : FL RX1 77 5 2 := ⟨RX5, TX5, 4, rfl, by decide, tbX5, rfl, tb_in (List.mem_of_getElem? (i := 374) (by decide +kernel)) rfl⟩
theorem fl_X1_102 : FL RX1 102 5 3 := ⟨RX5, TX5, 4, rfl, by decide, tbX5, rfl, tb_in (List.mem_of_getElem? (i := 377) (by decide +kernel)) rfl⟩
theorem fl_X2_11 : FL RX2 11 2 4 := ⟨RX2, TX2, 5, rfl, by decide, tbX2, rfl, tb_in (List.mem_of_getElem? (i := 117) (by decide +kernel)) rfl⟩
theorem fp_X2_11 : FP RX2 11 2 4 true (.array (.object "BorderStamps$Holder")) := ⟨RX2, TX2, 5, tyX2, rfl, by decide, tbX2, rfl, tb_in (List.mem_of_getElem? (i := 117) (by decide +kernel)) rfl, tyX2_ok, nmX2, rfl, rfl⟩
theorem fl_X2_18 : FL RX2 18 2 0 := ⟨RX2, TX2, 5, rfl, by decide, tbX2, rfl, tb_in (List.mem_of_getElem? (i := 110) (by decide +kernel)) rfl⟩
theorem fp_X2_18 : FP RX2 18 2 0 false .int := ⟨RX2, TX2, 5, tyX2, rfl, by decide, tbX2, rfl, tb_in (List.mem_of_getElem? (i := 110) (by decide +kernel)) rfl, tyX2_ok, nmX2, rfl, rfl⟩
theorem fl_X2_22 : FL RX2 22 2 1 := ⟨RX2, TX2, 5, rfl, by decide, tbX2, rfl, tb_in (List.mem_of_getElem? (i := 112) (by decide +kernel)) rfl⟩
theorem fp_X2_22 : FP RX2 22 2 1 false .int := ⟨RX2, TX2, 5, tyX2, rfl, by decide, tbX2, rfl, tb_in (List.mem_of_getElem? (i := 112) (by decide +kernel)) rfl, tyX2_ok, nmX2, rfl, rfl⟩
theorem fl_X2_25 : FL RX2 25 2 2 := ⟨RX2, TX2, 5, rfl, by decide, tbX2, rfl, tb_in (List.mem_of_getElem? (i := 114) (by decide +kernel)) rfl⟩
theorem fp_X2_25 : FP RX2 25 2 2 false .int := ⟨RX2, TX2, 5, tyX2, rfl, by decide, tbX2, rfl, tb_in (List.mem_of_getElem? (i := 114) (by decide +kernel)) rfl, tyX2_ok, nmX2, rfl, rfl⟩
theorem fl_X2_28 : FL RX2 28 2 3 := ⟨RX2, TX2, 5, rfl, by decide, tbX2, rfl, tb_in (List.mem_of_getElem? (i := 116) (by decide +kernel)) rfl⟩
theorem fp_X2_28 : FP RX2 28 2 3 false .long := ⟨RX2, TX2, 5, tyX2, rfl, by decide, tbX2, rfl, tb_in (List.mem_of_getElem? (i := 116) (by decide +kernel)) rfl, tyX2_ok, nmX2, rfl, rfl⟩
theorem fl_X2_58 : FL RX2 58 1 4 := ⟨RX1, TX1, 6, rfl, by decide, tbX1, rfl, tb_in (List.mem_of_getElem? (i := 94) (by decide +kernel)) rfl⟩
theorem fl_X2_76 : FL RX2 76 1 0 := ⟨RX1, TX1, 6, rfl, by decide, tbX1, rfl, tb_in (List.mem_of_getElem? (i := 83) (by decide +kernel)) rfl⟩
theorem fl_X2_121 : FL RX2 121 1 3 := ⟨RX1, TX1, 6, rfl, by decide, tbX1, rfl, tb_in (List.mem_of_getElem? (i := 91) (by decide +kernel)) rfl⟩
theorem fl_X2_136 : FL RX2 136 1 1 := ⟨RX1, TX1, 6, rfl, by decide, tbX1, rfl, tb_in (List.mem_of_getElem? (i := 86) (by decide +kernel)) rfl⟩
theorem fp_X2_136 : FP RX2 136 1 1 false .int := ⟨RX1, TX1, 6, tyX1, rfl, by decide, tbX1, rfl, tb_in (List.mem_of_getElem? (i := 86) (by decide +kernel)) rfl, tyX1_ok, nmX1, rfl, rfl⟩
theorem fp_X3_9 : FP RX3 9 3 0 true (.array .char) := ⟨RX3, TX3, 11, tyX3, rfl, by decide, tbX3, rfl, tb_in (List.mem_of_getElem? (i := 137) (by decide +kernel)) rfl, tyX3_ok, nmX3, rfl, rfl⟩
theorem fl_X4_15 : FL RX4 15 4 0 := ⟨RX4, TX4, 3, rfl, by decide, tbX4, rfl, tb_in (List.mem_of_getElem? (i := 50) (by decide +kernel)) rfl⟩
theorem fp_X4_15 : FP RX4 15 4 0 true (.array .int) := ⟨RX4, TX4, 3, tyX4, rfl, by decide, tbX4, rfl, tb_in (List.mem_of_getElem? (i := 50) (by decide +kernel)) rfl, tyX4_ok, nmX4, rfl, rfl⟩
theorem fl_X4_21 : FL RX4 21 4 1 := ⟨RX4, TX4, 3, rfl, by decide, tbX4, rfl, tb_in (List.mem_of_getElem? (i := 51) (by decide +kernel)) rfl⟩
theorem fp_X4_21 : FP RX4 21 4 1 true (.array .int) := ⟨RX4, TX4, 3, tyX4, rfl, by decide, tbX4, rfl, tb_in (List.mem_of_getElem? (i := 51) (by decide +kernel)) rfl, tyX4_ok, nmX4, rfl, rfl⟩
theorem fl_X4_24 : FL RX4 24 4 2 := ⟨RX4, TX4, 3, rfl, by decide, tbX4, rfl, tb_in (List.mem_of_getElem? (i := 52) (by decide +kernel)) rfl⟩
theorem fp_X4_24 : FP RX4 24 4 2 false .int := ⟨RX4, TX4, 3, tyX4, rfl, by decide, tbX4, rfl, tb_in (List.mem_of_getElem? (i := 52) (by decide +kernel)) rfl, tyX4_ok, nmX4, rfl, rfl⟩
theorem fp_X5_7 : FP RX5 7 5 0 true .int := ⟨RX5, TX5, 4, tyX5, rfl, by decide, tbX5, rfl, tb_in (List.mem_of_getElem? (i := 368) (by decide +kernel)) rfl, tyX5_ok, nmX5, rfl, rfl⟩
theorem fl_X5_13 : FL RX5 13 5 1 := ⟨RX5, TX5, 4, rfl, by decide, tbX5, rfl, tb_in (List.mem_of_getElem? (i := 370) (by decide +kernel)) rfl⟩
theorem fp_X5_13 : FP RX5 13 5 1 true .int := ⟨RX5, TX5, 4, tyX5, rfl, by decide, tbX5, rfl, tb_in (List.mem_of_getElem? (i := 370) (by decide +kernel)) rfl, tyX5_ok, nmX5, rfl, rfl⟩
theorem fl_X5_16 : FL RX5 16 5 2 := ⟨RX5, TX5, 4, rfl, by decide, tbX5, rfl, tb_in (List.mem_of_getElem? (i := 373) (by decide +kernel)) rfl⟩
theorem fp_X5_16 : FP RX5 16 5 2 true .int := ⟨RX5, TX5, 4, tyX5, rfl, by decide, tbX5, rfl, tb_in (List.mem_of_getElem? (i := 373) (by decide +kernel)) rfl, tyX5_ok, nmX5, rfl, rfl⟩
theorem fp_X5_19 : FP RX5 19 5 3 true .int := ⟨RX5, TX5, 4, tyX5, rfl, by decide, tbX5, rfl, tb_in (List.mem_of_getElem? (i := 376) (by decide +kernel)) rfl, tyX5_ok, nmX5, rfl, rfl⟩
theorem fl_X6_12 : FL RX6 12 6 0 := ⟨RX6, TX6, 9, rfl, by decide, tbX6, rfl, tb_in (List.mem_of_getElem? (i := 163) (by decide +kernel)) rfl⟩
theorem fp_X6_12 : FP RX6 12 6 0 true (.object "BorderStamps$State") := ⟨RX6, TX6, 9, tyX6, rfl, by decide, tbX6, rfl, tb_in (List.mem_of_getElem? (i := 163) (by decide +kernel)) rfl, tyX6_ok, nmX6, rfl, rfl⟩
theorem fl_X6_16 : FL RX6 16 6 3 := ⟨RX6, TX6, 9, rfl, by decide, tbX6, rfl, tb_in (List.mem_of_getElem? (i := 166) (by decide +kernel)) rfl⟩
theorem fp_X6_16 : FP RX6 16 6 3 false (.object "BorderStamps$State") := ⟨RX6, TX6, 9, tyX6, rfl, by decide, tbX6, rfl, tb_in (List.mem_of_getElem? (i := 166) (by decide +kernel)) rfl, tyX6_ok, nmX6, rfl, rfl⟩
theorem fp_X6_19 : FP RX6 19 6 4 true (.object "BorderStamps$State") := ⟨RX6, TX6, 9, tyX6, rfl, by decide, tbX6, rfl, tb_in (List.mem_of_getElem? (i := 167) (by decide +kernel)) rfl, tyX6_ok, nmX6, rfl, rfl⟩
theorem fl_X6_22 : FL RX6 22 6 1 := ⟨RX6, TX6, 9, rfl, by decide, tbX6, rfl, tb_in (List.mem_of_getElem? (i := 164) (by decide +kernel)) rfl⟩
theorem fp_X6_22 : FP RX6 22 6 1 true (.array (.object "BorderStamps$State")) := ⟨RX6, TX6, 9, tyX6, rfl, by decide, tbX6, rfl, tb_in (List.mem_of_getElem? (i := 164) (by decide +kernel)) rfl, tyX6_ok, nmX6, rfl, rfl⟩
theorem fl_X6_29 : FL RX6 29 6 6 := ⟨RX6, TX6, 9, rfl, by decide, tbX6, rfl, tb_in (List.mem_of_getElem? (i := 168) (by decide +kernel)) rfl⟩
theorem fp_X6_29 : FP RX6 29 6 6 true (.object "BorderStamps$Text") := ⟨RX6, TX6, 9, tyX6, rfl, by decide, tbX6, rfl, tb_in (List.mem_of_getElem? (i := 168) (by decide +kernel)) rfl, tyX6_ok, nmX6, rfl, rfl⟩
theorem fl_X6_96 : FL RX6 96 6 2 := ⟨RX6, TX6, 9, rfl, by decide, tbX6, rfl, tb_in (List.mem_of_getElem? (i := 165) (by decide +kernel)) rfl⟩
theorem fp_X6_96 : FP RX6 96 6 2 false .int := ⟨RX6, TX6, 9, tyX6, rfl, by decide, tbX6, rfl, tb_in (List.mem_of_getElem? (i := 165) (by decide +kernel)) rfl, tyX6_ok, nmX6, rfl, rfl⟩
theorem fl_X6_103 : FL RX6 103 2 0 := ⟨RX2, TX2, 5, rfl, by decide, tbX2, rfl, tb_in (List.mem_of_getElem? (i := 111) (by decide +kernel)) rfl⟩
theorem fl_X6_110 : FL RX6 110 1 0 := ⟨RX1, TX1, 6, rfl, by decide, tbX1, rfl, tb_in (List.mem_of_getElem? (i := 84) (by decide +kernel)) rfl⟩
theorem fl_X6_121 : FL RX6 121 1 4 := ⟨RX1, TX1, 6, rfl, by decide, tbX1, rfl, tb_in (List.mem_of_getElem? (i := 95) (by decide +kernel)) rfl⟩
theorem fl_X6_136 : FL RX6 136 1 1 := ⟨RX1, TX1, 6, rfl, by decide, tbX1, rfl, tb_in (List.mem_of_getElem? (i := 87) (by decide +kernel)) rfl⟩
theorem fl_X6_139 : FL RX6 139 1 2 := ⟨RX1, TX1, 6, rfl, by decide, tbX1, rfl, tb_in (List.mem_of_getElem? (i := 89) (by decide +kernel)) rfl⟩
theorem fl_X6_168 : FL RX6 168 5 1 := ⟨RX5, TX5, 4, rfl, by decide, tbX5, rfl, tb_in (List.mem_of_getElem? (i := 372) (by decide +kernel)) rfl⟩
theorem fl_X6_173 : FL RX6 173 5 2 := ⟨RX5, TX5, 4, rfl, by decide, tbX5, rfl, tb_in (List.mem_of_getElem? (i := 375) (by decide +kernel)) rfl⟩
theorem fl_X6_176 : FL RX6 176 5 3 := ⟨RX5, TX5, 4, rfl, by decide, tbX5, rfl, tb_in (List.mem_of_getElem? (i := 378) (by decide +kernel)) rfl⟩
theorem fl_X6_194 : FL RX6 194 0 0 := ⟨RX0, TX0, 2, rfl, by decide, tbX0, rfl, tb_in (List.mem_of_getElem? (i := 73) (by decide +kernel)) rfl⟩
theorem fl_X6_198 : FL RX6 198 1 3 := ⟨RX1, TX1, 6, rfl, by decide, tbX1, rfl, tb_in (List.mem_of_getElem? (i := 92) (by decide +kernel)) rfl⟩
theorem fl_X6_218 : FL RX6 218 2 1 := ⟨RX2, TX2, 5, rfl, by decide, tbX2, rfl, tb_in (List.mem_of_getElem? (i := 113) (by decide +kernel)) rfl⟩
theorem fl_X6_221 : FL RX6 221 2 4 := ⟨RX2, TX2, 5, rfl, by decide, tbX2, rfl, tb_in (List.mem_of_getElem? (i := 118) (by decide +kernel)) rfl⟩
theorem fl_X6_228 : FL RX6 228 2 2 := ⟨RX2, TX2, 5, rfl, by decide, tbX2, rfl, tb_in (List.mem_of_getElem? (i := 115) (by decide +kernel)) rfl⟩
theorem fl_X6_231 : FL RX6 231 3 1 := ⟨RX3, TX3, 11, rfl, by decide, tbX3, rfl, tb_in (List.mem_of_getElem? (i := 138) (by decide +kernel)) rfl⟩
theorem lk_L_8 : Cond.methodLink RL 8 yL_low ∈ tb := tb_in (List.mem_of_getElem? (i := 295) (by decide +kernel)) rfl
theorem lk_L_14 : Cond.methodLink RL 14 yX6_count ∈ tb := tb_in (List.mem_of_getElem? (i := 216) (by decide +kernel)) rfl
theorem lk_L_20 : Cond.methodLink RL 20 yX6_issue ∈ tb := tb_in (List.mem_of_getElem? (i := 302) (by decide +kernel)) rfl
theorem lk_L_23 : Cond.methodLink RL 23 yX6_grant ∈ tb := tb_in (List.mem_of_getElem? (i := 346) (by decide +kernel)) rfl
theorem lk_L_27 : Cond.methodLink RL 27 yX6_cross ∈ tb := tb_in (List.mem_of_getElem? (i := 401) (by decide +kernel)) rfl
theorem lk_L_31 : Cond.methodLink RL 31 yX6_turnBorder ∈ tb := tb_in (List.mem_of_getElem? (i := 454) (by decide +kernel)) rfl
theorem lk_L_34 : Cond.methodLink RL 34 yX6_renew ∈ tb := tb_in (List.mem_of_getElem? (i := 463) (by decide +kernel)) rfl
theorem lk_L_37 : Cond.methodLink RL 37 yX6_revoke ∈ tb := tb_in (List.mem_of_getElem? (i := 472) (by decide +kernel)) rfl
theorem lk_L_40 : Cond.methodLink RL 40 yX6_pass ∈ tb := tb_in (List.mem_of_getElem? (i := 481) (by decide +kernel)) rfl
theorem lk_L_43 : Cond.methodLink RL 43 yX6_mistold ∈ tb := tb_in (List.mem_of_getElem? (i := 496) (by decide +kernel)) rfl
theorem lk_L_47 : Cond.methodLink RL 47 yX6_passport ∈ tb := tb_in (List.mem_of_getElem? (i := 505) (by decide +kernel)) rfl
theorem lk_L_50 : Cond.methodLink RL 50 yX6_stamp ∈ tb := tb_in (List.mem_of_getElem? (i := 510) (by decide +kernel)) rfl
theorem lk_L_53 : Cond.methodLink RL 53 yX6_visa ∈ tb := tb_in (List.mem_of_getElem? (i := 526) (by decide +kernel)) rfl
theorem lk_L_56 : Cond.methodLink RL 56 yX6_reason ∈ tb := tb_in (List.mem_of_getElem? (i := 540) (by decide +kernel)) rfl
theorem lk_L_59 : Cond.methodLink RL 59 yX6_stay ∈ tb := tb_in (List.mem_of_getElem? (i := 545) (by decide +kernel)) rfl
theorem lk_L_63 : Cond.methodLink RL 63 yX6_daysLeft ∈ tb := tb_in (List.mem_of_getElem? (i := 552) (by decide +kernel)) rfl
theorem lk_L_69 : Cond.methodLink RL 69 yX6_holders ∈ tb := tb_in (List.mem_of_getElem? (i := 579) (by decide +kernel)) rfl
theorem lk_L_66 : Cond.methodLink RL 66 yX6_wayTo ∈ tb := tb_in (List.mem_of_getElem? (i := 560) (by decide +kernel)) rfl
theorem lk_L_73 : Cond.methodLink RL 73 yX6_undo ∈ tb := tb_in (List.mem_of_getElem? (i := 188) (by decide +kernel)) rfl
theorem nw_L_15 : NW RL 15 6 9 [.null, .null, .int 0, .null, .null, .int 0, .null, .int 0, .int 0] := ⟨RX6, TX6, tyX6, rfl, tbX6, tyX6_ok, fun j hj => by rcases (show j = 0 ∨ j = 1 ∨ j = 2 ∨ j = 3 ∨ j = 4 ∨ j = 5 ∨ j = 6 ∨ j = 7 ∨ j = 8 by omega) with rfl | rfl | rfl | rfl | rfl | rfl | rfl | rfl | rfl <;> rfl, tb_in (List.mem_of_getElem? (i := 20) (by decide +kernel)) rfl, tb_in (List.mem_of_getElem? (i := 21) (by decide +kernel)) rfl, tb_in (List.mem_of_getElem? (i := 9) (by decide +kernel)) rfl⟩
theorem lk_L_76 : Cond.methodLink RL 76 yX6_init ∈ tb := tb_in (List.mem_of_getElem? (i := 22) (by decide +kernel)) rfl
theorem lk_L_77 : Cond.methodLink RL 77 yL_cell ∈ tb := tb_in (List.mem_of_getElem? (i := 292) (by decide +kernel)) rfl
theorem lk_L_81 : Cond.methodLink RL 81 yL_act ∈ tb := tb_in (List.mem_of_getElem? (i := 299) (by decide +kernel)) rfl
theorem lk_L_85 : Cond.methodLink RL 85 yL_areAlike ∈ tb := tb_in (List.mem_of_getElem? (i := 493) (by decide +kernel)) rfl
theorem lk_L_89 : Cond.methodLink RL 89 yL_areSums ∈ tb := tb_in (List.mem_of_getElem? (i := 583) (by decide +kernel)) rfl
theorem lk_L_93 : Cond.methodLink RL 93 yL_isBookSo ∈ tb := tb_in (List.mem_of_getElem? (i := 534) (by decide +kernel)) rfl
theorem lk_L_97 : Cond.methodLink RL 97 yL_areStaysSo ∈ tb := tb_in (List.mem_of_getElem? (i := 537) (by decide +kernel)) rfl
theorem lk_L_100 : Cond.methodLink RL 100 yL_areWaysSo ∈ tb := tb_in (List.mem_of_getElem? (i := 557) (by decide +kernel)) rfl
theorem lk_L_103 : Cond.methodLink RL 103 yL_isCrossedSo ∈ tb := tb_in (List.mem_of_getElem? (i := 576) (by decide +kernel)) rfl
theorem lk_X0_38 : Cond.methodLink RX0 38 yX0_addStamp ∈ tb := tb_in (List.mem_of_getElem? (i := 441) (by decide +kernel)) rfl
theorem lk_X0_42 : Cond.methodLink RX0 42 yX0_stamps ∈ tb := tb_in (List.mem_of_getElem? (i := 249) (by decide +kernel)) rfl
theorem lk_X0_46 : Cond.methodLink RX0 46 yX4_add ∈ tb := tb_in (List.mem_of_getElem? (i := 445) (by decide +kernel)) rfl
theorem lk_X0_34 : Cond.methodLink RX0 34 yX4_begin ∈ tb := tb_in (List.mem_of_getElem? (i := 337) (by decide +kernel)) rfl
theorem lk_X0_24 : Cond.methodLink RX0 24 yX4_copyFrom ∈ tb := tb_in (List.mem_of_getElem? (i := 214) (by decide +kernel)) rfl
theorem lk_X0_28 : Cond.methodLink RX0 28 arraycopyName ∈ tb := tb_in (List.mem_of_getElem? (i := 215) (by decide +kernel)) rfl
theorem lk_X0_57 : Cond.methodLink RX0 57 yX0_hasStamp ∈ tb := tb_in (List.mem_of_getElem? (i := 267) (by decide +kernel)) rfl
theorem lk_X0_53 : Cond.methodLink RX0 53 yX4_dayAfter ∈ tb := tb_in (List.mem_of_getElem? (i := 519) (by decide +kernel)) rfl
theorem lk_X0_70 : Cond.methodLink RX0 70 yX0_isGap ∈ tb := tb_in (List.mem_of_getElem? (i := 250) (by decide +kernel)) rfl
theorem lk_X0_3 : Cond.methodLink RX0 3 objectInit ∈ tb := tb_in (List.mem_of_getElem? (i := 68) (by decide +kernel)) rfl
theorem nw_X0_9 : NW RX0 9 4 3 [.null, .null, .int 0] := ⟨RX4, TX4, tyX4, rfl, tbX4, tyX4_ok, fun j hj => by rcases (show j = 0 ∨ j = 1 ∨ j = 2 by omega) with rfl | rfl | rfl <;> rfl, tb_in (List.mem_of_getElem? (i := 69) (by decide +kernel)) rfl, tb_in (List.mem_of_getElem? (i := 42) (by decide +kernel)) rfl, tb_in (List.mem_of_getElem? (i := 12) (by decide +kernel)) rfl⟩
theorem lk_X0_11 : Cond.methodLink RX0 11 yX4_init ∈ tb := tb_in (List.mem_of_getElem? (i := 70) (by decide +kernel)) rfl
theorem lk_X0_61 : Cond.methodLink RX0 61 yX4_placeAfter ∈ tb := tb_in (List.mem_of_getElem? (i := 258) (by decide +kernel)) rfl
theorem lk_X0_64 : Cond.methodLink RX0 64 yX0_isEntry ∈ tb := tb_in (List.mem_of_getElem? (i := 254) (by decide +kernel)) rfl
theorem lk_X0_67 : Cond.methodLink RX0 67 yX0_countryOf ∈ tb := tb_in (List.mem_of_getElem? (i := 263) (by decide +kernel)) rfl
theorem lk_X1_50 : Cond.methodLink RX1 50 yX4_begin ∈ tb := tb_in (List.mem_of_getElem? (i := 317) (by decide +kernel)) rfl
theorem lk_X1_54 : Cond.methodLink RX1 54 yX1_beginBook ∈ tb := tb_in (List.mem_of_getElem? (i := 321) (by decide +kernel)) rfl
theorem lk_X1_57 : Cond.methodLink RX1 57 yX1_place ∈ tb := tb_in (List.mem_of_getElem? (i := 325) (by decide +kernel)) rfl
theorem lk_X1_61 : Cond.methodLink RX1 61 yX0_begin ∈ tb := tb_in (List.mem_of_getElem? (i := 333) (by decide +kernel)) rfl
theorem lk_X1_43 : Cond.methodLink RX1 43 yX4_copyFrom ∈ tb := tb_in (List.mem_of_getElem? (i := 200) (by decide +kernel)) rfl
theorem lk_X1_47 : Cond.methodLink RX1 47 yX0_copyFrom ∈ tb := tb_in (List.mem_of_getElem? (i := 210) (by decide +kernel)) rfl
theorem lk_X1_90 : Cond.methodLink RX1 90 yX1_visaFor ∈ tb := tb_in (List.mem_of_getElem? (i := 275) (by decide +kernel)) rfl
theorem lk_X1_94 : Cond.methodLink RX1 94 yX5_isValidOn ∈ tb := tb_in (List.mem_of_getElem? (i := 287) (by decide +kernel)) rfl
theorem lk_X1_3 : Cond.methodLink RX1 3 objectInit ∈ tb := tb_in (List.mem_of_getElem? (i := 40) (by decide +kernel)) rfl
theorem nw_X1_9 : NW RX1 9 4 3 [.null, .null, .int 0] := ⟨RX4, TX4, tyX4, rfl, tbX4, tyX4_ok, fun j hj => by rcases (show j = 0 ∨ j = 1 ∨ j = 2 by omega) with rfl | rfl | rfl <;> rfl, tb_in (List.mem_of_getElem? (i := 41) (by decide +kernel)) rfl, tb_in (List.mem_of_getElem? (i := 42) (by decide +kernel)) rfl, tb_in (List.mem_of_getElem? (i := 12) (by decide +kernel)) rfl⟩
theorem lk_X1_11 : Cond.methodLink RX1 11 yX4_init ∈ tb := tb_in (List.mem_of_getElem? (i := 43) (by decide +kernel)) rfl
theorem nw_X1_20 : NW RX1 20 0 2 [.null, .null] := ⟨RX0, TX0, tyX0, rfl, tbX0, tyX0_ok, fun j hj => by rcases (show j = 0 ∨ j = 1 by omega) with rfl | rfl <;> rfl, tb_in (List.mem_of_getElem? (i := 63) (by decide +kernel)) rfl, tb_in (List.mem_of_getElem? (i := 64) (by decide +kernel)) rfl, tb_in (List.mem_of_getElem? (i := 14) (by decide +kernel)) rfl⟩
theorem lk_X1_22 : Cond.methodLink RX1 22 yX0_init ∈ tb := tb_in (List.mem_of_getElem? (i := 65) (by decide +kernel)) rfl
theorem cl_X1_27 : Cond.classLink RX1 27 RX5 ∈ tb := tb_in (List.mem_of_getElem? (i := 80) (by decide +kernel)) rfl
theorem lk_X1_98 : Cond.methodLink RX1 98 yX1_usedDays ∈ tb := tb_in (List.mem_of_getElem? (i := 434) (by decide +kernel)) rfl
theorem lk_X1_62 : Cond.methodLink RX1 62 yX4_lastPlace ∈ tb := tb_in (List.mem_of_getElem? (i := 329) (by decide +kernel)) rfl
theorem lk_X1_80 : Cond.methodLink RX1 80 yJ9_min_7cf53 ∈ tb := tb_in (List.mem_of_getElem? (i := 396) (by decide +kernel)) rfl
theorem lk_X1_86 : Cond.methodLink RX1 86 yX4_daysIn ∈ tb := tb_in (List.mem_of_getElem? (i := 397) (by decide +kernel)) rfl
theorem lk_X1_105 : Cond.methodLink RX1 105 yX1_hasValidVisa ∈ tb := tb_in (List.mem_of_getElem? (i := 283) (by decide +kernel)) rfl
theorem lk_X2_46 : (RX2, 46, yX6_isCountry, RX6) ∈ nests := by decide +kernel
theorem lk_X2_50 : Cond.methodLink RX2 50 yX1_begin ∈ tb := tb_in (List.mem_of_getElem? (i := 313) (by decide +kernel)) rfl
theorem lk_X2_155 : Cond.methodLink RX2 155 yJ9_min_7cf53 ∈ tb := tb_in (List.mem_of_getElem? (i := 427) (by decide +kernel)) rfl
theorem lk_X2_161 : Cond.methodLink RX2 161 yJ9_max_7cf53 ∈ tb := tb_in (List.mem_of_getElem? (i := 428) (by decide +kernel)) rfl
theorem lk_X2_40 : Cond.methodLink RX2 40 yJ13_bitCount_95d88 ∈ tb := tb_in (List.mem_of_getElem? (i := 224) (by decide +kernel)) rfl
theorem lk_X2_32 : Cond.methodLink RX2 32 yX1_copyFrom ∈ tb := tb_in (List.mem_of_getElem? (i := 196) (by decide +kernel)) rfl
theorem lk_X2_112 : Cond.methodLink RX2 112 yX1_place ∈ tb := tb_in (List.mem_of_getElem? (i := 419) (by decide +kernel)) rfl
theorem lk_X2_133 : Cond.methodLink RX2 133 yX1_mayBeIn ∈ tb := tb_in (List.mem_of_getElem? (i := 430) (by decide +kernel)) rfl
theorem lk_X2_36 : (RX2, 36, yX6_isWithin, RX6) ∈ nests := by decide +kernel
theorem lk_X2_130 : Cond.methodLink RX2 130 yX2_endDay ∈ tb := tb_in (List.mem_of_getElem? (i := 489) (by decide +kernel)) rfl
theorem lk_X2_148 : Cond.methodLink RX2 148 yX2_oneCrossingFrom ∈ tb := tb_in (List.mem_of_getElem? (i := 568) (by decide +kernel)) rfl
theorem lk_X2_96 : Cond.methodLink RX2 96 yX2_borderBit ∈ tb := tb_in (List.mem_of_getElem? (i := 424) (by decide +kernel)) rfl
theorem lk_X2_100 : Cond.methodLink RX2 100 yX2_closedBorders ∈ tb := tb_in (List.mem_of_getElem? (i := 462) (by decide +kernel)) rfl
theorem lk_X2_54 : Cond.methodLink RX2 54 yX2_holderOf ∈ tb := tb_in (List.mem_of_getElem? (i := 354) (by decide +kernel)) rfl
theorem lk_X2_62 : Cond.methodLink RX2 62 yX0_stamps ∈ tb := tb_in (List.mem_of_getElem? (i := 435) (by decide +kernel)) rfl
theorem lk_X2_68 : Cond.methodLink RX2 68 yX1_beginBook ∈ tb := tb_in (List.mem_of_getElem? (i := 471) (by decide +kernel)) rfl
theorem lk_X2_72 : (RX2, 72, yX6_isSpan, RX6) ∈ nests := by decide +kernel
theorem nw_X2_79 : NW RX2 79 5 4 [.int 0, .int 0, .int 0, .int 0] := ⟨RX5, TX5, tyX5, rfl, tbX5, tyX5_ok, fun j hj => by rcases (show j = 0 ∨ j = 1 ∨ j = 2 ∨ j = 3 by omega) with rfl | rfl | rfl | rfl <;> rfl, tb_in (List.mem_of_getElem? (i := 362) (by decide +kernel)) rfl, tb_in (List.mem_of_getElem? (i := 363) (by decide +kernel)) rfl, tb_in (List.mem_of_getElem? (i := 18) (by decide +kernel)) rfl⟩
theorem lk_X2_81 : Cond.methodLink RX2 81 yX5_init ∈ tb := tb_in (List.mem_of_getElem? (i := 364) (by decide +kernel)) rfl
theorem lk_X2_84 : Cond.methodLink RX2 84 yX1_setVisa ∈ tb := tb_in (List.mem_of_getElem? (i := 388) (by decide +kernel)) rfl
theorem lk_X2_88 : Cond.methodLink RX2 88 yX1_usedDays ∈ tb := tb_in (List.mem_of_getElem? (i := 392) (by decide +kernel)) rfl
theorem lk_X2_3 : Cond.methodLink RX2 3 objectInit ∈ tb := tb_in (List.mem_of_getElem? (i := 33) (by decide +kernel)) rfl
theorem cl_X2_9 : Cond.classLink RX2 9 RX1 ∈ tb := tb_in (List.mem_of_getElem? (i := 34) (by decide +kernel)) rfl
theorem nw_X2_9 : NW RX2 9 1 6 [.int 0, .int 0, .int 0, .null, .null, .null] := ⟨RX1, TX1, tyX1, rfl, tbX1, tyX1_ok, fun j hj => by rcases (show j = 0 ∨ j = 1 ∨ j = 2 ∨ j = 3 ∨ j = 4 ∨ j = 5 by omega) with rfl | rfl | rfl | rfl | rfl | rfl <;> rfl, tb_in (List.mem_of_getElem? (i := 34) (by decide +kernel)) rfl, tb_in (List.mem_of_getElem? (i := 36) (by decide +kernel)) rfl, tb_in (List.mem_of_getElem? (i := 11) (by decide +kernel)) rfl⟩
theorem lk_X2_17 : Cond.methodLink RX2 17 yX1_init ∈ tb := tb_in (List.mem_of_getElem? (i := 37) (by decide +kernel)) rfl
theorem lk_X2_139 : Cond.methodLink RX2 139 yX2_isOpen ∈ tb := tb_in (List.mem_of_getElem? (i := 420) (by decide +kernel)) rfl
theorem lk_X2_103 : Cond.methodLink RX2 103 yJ6_bitCount_0f7a4 ∈ tb := tb_in (List.mem_of_getElem? (i := 409) (by decide +kernel)) rfl
theorem lk_X2_108 : Cond.methodLink RX2 108 yX2_reasonAgainst ∈ tb := tb_in (List.mem_of_getElem? (i := 415) (by decide +kernel)) rfl
theorem lk_X2_115 : Cond.methodLink RX2 115 yX0_addExit ∈ tb := tb_in (List.mem_of_getElem? (i := 437) (by decide +kernel)) rfl
theorem lk_X2_118 : Cond.methodLink RX2 118 yX0_addEntry ∈ tb := tb_in (List.mem_of_getElem? (i := 449) (by decide +kernel)) rfl
theorem lk_X2_125 : Cond.methodLink RX2 125 yX4_add ∈ tb := tb_in (List.mem_of_getElem? (i := 453) (by decide +kernel)) rfl
theorem lk_X2_152 : Cond.methodLink RX2 152 yX2_isBesideOneOf ∈ tb := tb_in (List.mem_of_getElem? (i := 572) (by decide +kernel)) rfl
theorem lk_X2_142 : Cond.methodLink RX2 142 yX1_hasValidVisa ∈ tb := tb_in (List.mem_of_getElem? (i := 429) (by decide +kernel)) rfl
theorem lk_X2_145 : Cond.methodLink RX2 145 yX1_crossings ∈ tb := tb_in (List.mem_of_getElem? (i := 436) (by decide +kernel)) rfl
theorem lk_X2_92 : Cond.methodLink RX2 92 yX1_visaFor ∈ tb := tb_in (List.mem_of_getElem? (i := 480) (by decide +kernel)) rfl
theorem lk_X3_3 : Cond.methodLink RX3 3 objectInit ∈ tb := tb_in (List.mem_of_getElem? (i := 136) (by decide +kernel)) rfl
theorem lk_X4_28 : Cond.methodLink RX4 28 yJ9_min_7cf53 ∈ tb := tb_in (List.mem_of_getElem? (i := 204) (by decide +kernel)) rfl
theorem lk_X4_31 : Cond.methodLink RX4 31 arraycopyName ∈ tb := tb_in (List.mem_of_getElem? (i := 207) (by decide +kernel)) rfl
theorem lk_X4_37 : (RX4, 37, yX6_isWithin, RX6) ∈ nests := by decide +kernel
theorem lk_X4_3 : Cond.methodLink RX4 3 objectInit ∈ tb := tb_in (List.mem_of_getElem? (i := 46) (by decide +kernel)) rfl
theorem lk_X4_9 : Cond.methodLink RX4 9 yJ9_max_7cf53 ∈ tb := tb_in (List.mem_of_getElem? (i := 47) (by decide +kernel)) rfl
theorem lk_X5_1 : Cond.methodLink RX5 1 objectInit ∈ tb := tb_in (List.mem_of_getElem? (i := 367) (by decide +kernel)) rfl
theorem lk_X5_22 : (RX5, 22, yX6_isWithin, RX6) ∈ nests := by decide +kernel
theorem lk_X6_225 : Cond.methodLink RX6 225 yX2_closedBorders ∈ tb := tb_in (List.mem_of_getElem? (i := 220) (by decide +kernel)) rfl
theorem lk_X6_92 : Cond.methodLink RX6 92 yX6_isWithin ∈ tb := tb_in (List.mem_of_getElem? (i := 230) (by decide +kernel)) rfl
theorem lk_X6_234 : Cond.methodLink RX6 234 yX6_sumOverHolders ∈ tb := tb_in (List.mem_of_getElem? (i := 233) (by decide +kernel)) rfl
theorem lk_X6_33 : Cond.methodLink RX6 33 yX2_copyFrom ∈ tb := tb_in (List.mem_of_getElem? (i := 192) (by decide +kernel)) rfl
theorem lk_X6_58 : Cond.methodLink RX6 58 yX2_moveHolder ∈ tb := tb_in (List.mem_of_getElem? (i := 405) (by decide +kernel)) rfl
theorem lk_X6_41 : Cond.methodLink RX6 41 yX6_recorded ∈ tb := tb_in (List.mem_of_getElem? (i := 338) (by decide +kernel)) rfl
theorem lk_X6_106 : Cond.methodLink RX6 106 yX2_holderOf ∈ tb := tb_in (List.mem_of_getElem? (i := 509) (by decide +kernel)) rfl
theorem lk_X6_161 : Cond.methodLink RX6 161 yX6_isCountry ∈ tb := tb_in (List.mem_of_getElem? (i := 530) (by decide +kernel)) rfl
theorem lk_X6_164 : Cond.methodLink RX6 164 yX1_visaFor ∈ tb := tb_in (List.mem_of_getElem? (i := 531) (by decide +kernel)) rfl
theorem lk_X6_179 : Cond.methodLink RX6 179 yX1_usedDays ∈ tb := tb_in (List.mem_of_getElem? (i := 532) (by decide +kernel)) rfl
theorem lk_X6_215 : Cond.methodLink RX6 215 yJ9_max_7cf53 ∈ tb := tb_in (List.mem_of_getElem? (i := 556) (by decide +kernel)) rfl
theorem lk_X6_201 : Cond.methodLink RX6 201 yJ9_min_7cf53 ∈ tb := tb_in (List.mem_of_getElem? (i := 550) (by decide +kernel)) rfl
theorem lk_X6_47 : Cond.methodLink RX6 47 yX2_giveVisa ∈ tb := tb_in (List.mem_of_getElem? (i := 350) (by decide +kernel)) rfl
theorem lk_X6_118 : Cond.methodLink RX6 118 yX1_toldPlace ∈ tb := tb_in (List.mem_of_getElem? (i := 500) (by decide +kernel)) rfl
theorem lk_X6_115 : Cond.methodLink RX6 115 yX1_place ∈ tb := tb_in (List.mem_of_getElem? (i := 504) (by decide +kernel)) rfl
theorem lk_X6_3 : Cond.methodLink RX6 3 objectInit ∈ tb := tb_in (List.mem_of_getElem? (i := 25) (by decide +kernel)) rfl
theorem nw_X6_9 : NW RX6 9 2 5 [.int 0, .int 0, .int 0, .long 0, .null] := ⟨RX2, TX2, tyX2, rfl, tbX2, tyX2_ok, fun j hj => by rcases (show j = 0 ∨ j = 1 ∨ j = 2 ∨ j = 3 ∨ j = 4 by omega) with rfl | rfl | rfl | rfl | rfl <;> rfl, tb_in (List.mem_of_getElem? (i := 28) (by decide +kernel)) rfl, tb_in (List.mem_of_getElem? (i := 29) (by decide +kernel)) rfl, tb_in (List.mem_of_getElem? (i := 10) (by decide +kernel)) rfl⟩
theorem lk_X6_11 : Cond.methodLink RX6 11 yX2_init ∈ tb := tb_in (List.mem_of_getElem? (i := 30) (by decide +kernel)) rfl
theorem cl_X6_9 : Cond.classLink RX6 9 RX2 ∈ tb := tb_in (List.mem_of_getElem? (i := 28) (by decide +kernel)) rfl
theorem nw_X6_26 : NW RX6 26 3 11 [.null, .int 0, .int 0, .int 0, .int 0, .int 0, .int 0, .int 0, .int 0, .int 0, .int 0] := ⟨RX3, TX3, tyX3, rfl, tbX3, tyX3_ok, fun j hj => by rcases (show j = 0 ∨ j = 1 ∨ j = 2 ∨ j = 3 ∨ j = 4 ∨ j = 5 ∨ j = 6 ∨ j = 7 ∨ j = 8 ∨ j = 9 ∨ j = 10 by omega) with rfl | rfl | rfl | rfl | rfl | rfl | rfl | rfl | rfl | rfl | rfl <;> rfl, tb_in (List.mem_of_getElem? (i := 131) (by decide +kernel)) rfl, tb_in (List.mem_of_getElem? (i := 132) (by decide +kernel)) rfl, tb_in (List.mem_of_getElem? (i := 15) (by decide +kernel)) rfl⟩
theorem lk_X6_28 : Cond.methodLink RX6 28 yX3_init ∈ tb := tb_in (List.mem_of_getElem? (i := 133) (by decide +kernel)) rfl
theorem lk_X6_37 : Cond.methodLink RX6 37 yX2_addHolder ∈ tb := tb_in (List.mem_of_getElem? (i := 306) (by decide +kernel)) rfl
theorem lk_X6_62 : Cond.methodLink RX6 62 yX2_endDays ∈ tb := tb_in (List.mem_of_getElem? (i := 485) (by decide +kernel)) rfl
theorem lk_X6_125 : Cond.methodLink RX6 125 yX0_stamps ∈ tb := tb_in (List.mem_of_getElem? (i := 241) (by decide +kernel)) rfl
theorem lk_X6_130 : Cond.methodLink RX6 130 yX0_gaps ∈ tb := tb_in (List.mem_of_getElem? (i := 245) (by decide +kernel)) rfl
theorem lk_X6_133 : Cond.methodLink RX6 133 yX1_crossings ∈ tb := tb_in (List.mem_of_getElem? (i := 237) (by decide +kernel)) rfl
theorem lk_X6_142 : Cond.methodLink RX6 142 yX1_visasHeld ∈ tb := tb_in (List.mem_of_getElem? (i := 271) (by decide +kernel)) rfl
theorem lk_X6_186 : Cond.methodLink RX6 186 yX2_reasonAgainst ∈ tb := tb_in (List.mem_of_getElem? (i := 544) (by decide +kernel)) rfl
theorem lk_X6_259 : Cond.methodLink RX6 259 yX6_dropOldest ∈ tb := tb_in (List.mem_of_getElem? (i := 342) (by decide +kernel)) rfl
theorem lk_X6_44 : Cond.methodLink RX6 44 yX2_giveBook ∈ tb := tb_in (List.mem_of_getElem? (i := 467) (by decide +kernel)) rfl
theorem lk_X6_51 : Cond.methodLink RX6 51 yX2_takeVisa ∈ tb := tb_in (List.mem_of_getElem? (i := 476) (by decide +kernel)) rfl
theorem lk_X6_145 : Cond.methodLink RX6 145 yX0_hasStamp ∈ tb := tb_in (List.mem_of_getElem? (i := 514) (by decide +kernel)) rfl
theorem lk_X6_149 : Cond.methodLink RX6 149 yX0_dayOf ∈ tb := tb_in (List.mem_of_getElem? (i := 515) (by decide +kernel)) rfl
theorem lk_X6_152 : Cond.methodLink RX6 152 yX0_countryOf ∈ tb := tb_in (List.mem_of_getElem? (i := 523) (by decide +kernel)) rfl
theorem lk_X6_155 : Cond.methodLink RX6 155 yX0_isEntry ∈ tb := tb_in (List.mem_of_getElem? (i := 524) (by decide +kernel)) rfl
theorem lk_X6_158 : Cond.methodLink RX6 158 yX0_isGap ∈ tb := tb_in (List.mem_of_getElem? (i := 525) (by decide +kernel)) rfl
theorem lk_X6_190 : Cond.methodLink RX6 190 yX6_isSpan ∈ tb := tb_in (List.mem_of_getElem? (i := 549) (by decide +kernel)) rfl
theorem lk_X6_206 : Cond.methodLink RX6 206 yX4_daysIn ∈ tb := tb_in (List.mem_of_getElem? (i := 551) (by decide +kernel)) rfl
theorem lk_X6_237 : Cond.methodLink RX6 237 yX1_visasValidOn ∈ tb := tb_in (List.mem_of_getElem? (i := 279) (by decide +kernel)) rfl
theorem lk_X6_55 : Cond.methodLink RX6 55 yX2_flipBorder ∈ tb := tb_in (List.mem_of_getElem? (i := 458) (by decide +kernel)) rfl
theorem lk_X6_183 : Cond.methodLink RX6 183 yX5_isValidOn ∈ tb := tb_in (List.mem_of_getElem? (i := 533) (by decide +kernel)) rfl
theorem lk_X6_211 : Cond.methodLink RX6 211 yX2_fewestCrossings ∈ tb := tb_in (List.mem_of_getElem? (i := 564) (by decide +kernel)) rfl
