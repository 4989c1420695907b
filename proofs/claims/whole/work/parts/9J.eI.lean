/-! THE LAW: links of its calls -/
theorem ml_X11_init : ML mX11_init 0 := ⟨gt_ok (List.mem_of_getElem? (i := 114) (by decide +kernel)) (by decide +kernel), gt_ok (List.mem_of_getElem? (i := 90) (by decide +kernel)) (by decide +kernel), by decide +kernel, by decide +kernel, by decide +kernel⟩
theorem im_X11_init : Cond.instanceMethod mX11_init.1 ∈ gt := gt_ok (List.mem_of_getElem? (i := 113) (by decide +kernel)) (by decide +kernel)
theorem vl_X11_init : IL mLw mX11_init 9 0 := ⟨ml_X11_init, gt_ok (List.mem_of_getElem? (i := 112) (by decide +kernel)) (by decide +kernel), im_X11_init, rfl, rfl⟩
theorem ml_X12_init : ML mX12_init 0 := ⟨gt_ok (List.mem_of_getElem? (i := 975) (by decide +kernel)) (by decide +kernel), gt_ok (List.mem_of_getElem? (i := 100) (by decide +kernel)) (by decide +kernel), by decide +kernel, by decide +kernel, by decide +kernel⟩
theorem im_X12_init : Cond.instanceMethod mX12_init.1 ∈ gt := gt_ok (List.mem_of_getElem? (i := 974) (by decide +kernel)) (by decide +kernel)
theorem vl_X12_init : IL mLw mX12_init 12 0 := ⟨ml_X12_init, gt_ok (List.mem_of_getElem? (i := 973) (by decide +kernel)) (by decide +kernel), im_X12_init, rfl, rfl⟩
theorem ml_X11_feed : ML mX11_feed 6 := ⟨gt_ok (List.mem_of_getElem? (i := 402) (by decide +kernel)) (by decide +kernel), gt_ok (List.mem_of_getElem? (i := 90) (by decide +kernel)) (by decide +kernel), by decide +kernel, by decide +kernel, by decide +kernel⟩
theorem im_X11_feed : Cond.instanceMethod mX11_feed.1 ∈ gt := gt_ok (List.mem_of_getElem? (i := 400) (by decide +kernel)) (by decide +kernel)
theorem se_X11_feed : Cond.selects mX11_feed.1.cls mX11_feed.1 mX11_feed.1 ∈ gt := gt_ok (List.mem_of_getElem? (i := 401) (by decide +kernel)) (by decide +kernel)
theorem vl_X11_feed : VL mLw mX11_feed 13 6 := ⟨ml_X11_feed, gt_ok (List.mem_of_getElem? (i := 399) (by decide +kernel)) (by decide +kernel), im_X11_feed, se_X11_feed⟩
theorem ml_X12_feed : ML mX12_feed 6 := ⟨gt_ok (List.mem_of_getElem? (i := 1148) (by decide +kernel)) (by decide +kernel), gt_ok (List.mem_of_getElem? (i := 100) (by decide +kernel)) (by decide +kernel), by decide +kernel, by decide +kernel, by decide +kernel⟩
theorem im_X12_feed : Cond.instanceMethod mX12_feed.1 ∈ gt := gt_ok (List.mem_of_getElem? (i := 1146) (by decide +kernel)) (by decide +kernel)
theorem se_X12_feed : Cond.selects mX12_feed.1.cls mX12_feed.1 mX12_feed.1 ∈ gt := gt_ok (List.mem_of_getElem? (i := 1147) (by decide +kernel)) (by decide +kernel)
theorem vl_X12_feed : VL mLw mX12_feed 17 6 := ⟨ml_X12_feed, gt_ok (List.mem_of_getElem? (i := 1145) (by decide +kernel)) (by decide +kernel), im_X12_feed, se_X12_feed⟩
theorem ml_X11_add : ML mX11_add 1 := ⟨gt_ok (List.mem_of_getElem? (i := 413) (by decide +kernel)) (by decide +kernel), gt_ok (List.mem_of_getElem? (i := 90) (by decide +kernel)) (by decide +kernel), by decide +kernel, by decide +kernel, by decide +kernel⟩
theorem im_X11_add : Cond.instanceMethod mX11_add.1 ∈ gt := gt_ok (List.mem_of_getElem? (i := 411) (by decide +kernel)) (by decide +kernel)
theorem se_X11_add : Cond.selects mX11_add.1.cls mX11_add.1 mX11_add.1 ∈ gt := gt_ok (List.mem_of_getElem? (i := 412) (by decide +kernel)) (by decide +kernel)
theorem vl_X11_add : VL mLw mX11_add 18 1 := ⟨ml_X11_add, gt_ok (List.mem_of_getElem? (i := 410) (by decide +kernel)) (by decide +kernel), im_X11_add, se_X11_add⟩
theorem ml_X12_add : ML mX12_add 1 := ⟨gt_ok (List.mem_of_getElem? (i := 1173) (by decide +kernel)) (by decide +kernel), gt_ok (List.mem_of_getElem? (i := 100) (by decide +kernel)) (by decide +kernel), by decide +kernel, by decide +kernel, by decide +kernel⟩
theorem im_X12_add : Cond.instanceMethod mX12_add.1 ∈ gt := gt_ok (List.mem_of_getElem? (i := 1171) (by decide +kernel)) (by decide +kernel)
theorem se_X12_add : Cond.selects mX12_add.1.cls mX12_add.1 mX12_add.1 ∈ gt := gt_ok (List.mem_of_getElem? (i := 1172) (by decide +kernel)) (by decide +kernel)
theorem vl_X12_add : VL mLw mX12_add 22 1 := ⟨ml_X12_add, gt_ok (List.mem_of_getElem? (i := 1170) (by decide +kernel)) (by decide +kernel), im_X12_add, se_X12_add⟩
theorem ml_X11_drop : ML mX11_drop 1 := ⟨gt_ok (List.mem_of_getElem? (i := 476) (by decide +kernel)) (by decide +kernel), gt_ok (List.mem_of_getElem? (i := 90) (by decide +kernel)) (by decide +kernel), by decide +kernel, by decide +kernel, by decide +kernel⟩
theorem im_X11_drop : Cond.instanceMethod mX11_drop.1 ∈ gt := gt_ok (List.mem_of_getElem? (i := 474) (by decide +kernel)) (by decide +kernel)
theorem se_X11_drop : Cond.selects mX11_drop.1.cls mX11_drop.1 mX11_drop.1 ∈ gt := gt_ok (List.mem_of_getElem? (i := 475) (by decide +kernel)) (by decide +kernel)
theorem vl_X11_drop : VL mLw mX11_drop 23 1 := ⟨ml_X11_drop, gt_ok (List.mem_of_getElem? (i := 473) (by decide +kernel)) (by decide +kernel), im_X11_drop, se_X11_drop⟩
theorem vl_X12_drop : VL mLw mX12_drop 26 1 := ⟨ml_X12_drop, gt_ok (List.mem_of_getElem? (i := 1155) (by decide +kernel)) (by decide +kernel), im_X12_drop, se_X12_drop⟩
theorem ml_X11_dropBy : ML mX11_dropBy 1 := ⟨gt_ok (List.mem_of_getElem? (i := 480) (by decide +kernel)) (by decide +kernel), gt_ok (List.mem_of_getElem? (i := 90) (by decide +kernel)) (by decide +kernel), by decide +kernel, by decide +kernel, by decide +kernel⟩
theorem im_X11_dropBy : Cond.instanceMethod mX11_dropBy.1 ∈ gt := gt_ok (List.mem_of_getElem? (i := 478) (by decide +kernel)) (by decide +kernel)
theorem se_X11_dropBy : Cond.selects mX11_dropBy.1.cls mX11_dropBy.1 mX11_dropBy.1 ∈ gt := gt_ok (List.mem_of_getElem? (i := 479) (by decide +kernel)) (by decide +kernel)
theorem vl_X11_dropBy : VL mLw mX11_dropBy 27 1 := ⟨ml_X11_dropBy, gt_ok (List.mem_of_getElem? (i := 477) (by decide +kernel)) (by decide +kernel), im_X11_dropBy, se_X11_dropBy⟩
theorem ml_X12_dropBy : ML mX12_dropBy 1 := ⟨gt_ok (List.mem_of_getElem? (i := 1516) (by decide +kernel)) (by decide +kernel), gt_ok (List.mem_of_getElem? (i := 100) (by decide +kernel)) (by decide +kernel), by decide +kernel, by decide +kernel, by decide +kernel⟩
theorem im_X12_dropBy : Cond.instanceMethod mX12_dropBy.1 ∈ gt := gt_ok (List.mem_of_getElem? (i := 1514) (by decide +kernel)) (by decide +kernel)
theorem se_X12_dropBy : Cond.selects mX12_dropBy.1.cls mX12_dropBy.1 mX12_dropBy.1 ∈ gt := gt_ok (List.mem_of_getElem? (i := 1515) (by decide +kernel)) (by decide +kernel)
theorem vl_X12_dropBy : VL mLw mX12_dropBy 30 1 := ⟨ml_X12_dropBy, gt_ok (List.mem_of_getElem? (i := 1513) (by decide +kernel)) (by decide +kernel), im_X12_dropBy, se_X12_dropBy⟩
theorem ml_X11_flush : ML mX11_flush 0 := ⟨gt_ok (List.mem_of_getElem? (i := 521) (by decide +kernel)) (by decide +kernel), gt_ok (List.mem_of_getElem? (i := 90) (by decide +kernel)) (by decide +kernel), by decide +kernel, by decide +kernel, by decide +kernel⟩
theorem im_X11_flush : Cond.instanceMethod mX11_flush.1 ∈ gt := gt_ok (List.mem_of_getElem? (i := 519) (by decide +kernel)) (by decide +kernel)
theorem se_X11_flush : Cond.selects mX11_flush.1.cls mX11_flush.1 mX11_flush.1 ∈ gt := gt_ok (List.mem_of_getElem? (i := 520) (by decide +kernel)) (by decide +kernel)
theorem vl_X11_flush : VL mLw mX11_flush 31 0 := ⟨ml_X11_flush, gt_ok (List.mem_of_getElem? (i := 518) (by decide +kernel)) (by decide +kernel), im_X11_flush, se_X11_flush⟩
theorem ml_X12_flush : ML mX12_flush 0 := ⟨gt_ok (List.mem_of_getElem? (i := 1201) (by decide +kernel)) (by decide +kernel), gt_ok (List.mem_of_getElem? (i := 100) (by decide +kernel)) (by decide +kernel), by decide +kernel, by decide +kernel, by decide +kernel⟩
theorem im_X12_flush : Cond.instanceMethod mX12_flush.1 ∈ gt := gt_ok (List.mem_of_getElem? (i := 1199) (by decide +kernel)) (by decide +kernel)
theorem se_X12_flush : Cond.selects mX12_flush.1.cls mX12_flush.1 mX12_flush.1 ∈ gt := gt_ok (List.mem_of_getElem? (i := 1200) (by decide +kernel)) (by decide +kernel)
theorem vl_X12_flush : VL mLw mX12_flush 35 0 := ⟨ml_X12_flush, gt_ok (List.mem_of_getElem? (i := 1198) (by decide +kernel)) (by decide +kernel), im_X12_flush, se_X12_flush⟩
theorem ml_X11_where : ML mX11_where 1 := ⟨gt_ok (List.mem_of_getElem? (i := 586) (by decide +kernel)) (by decide +kernel), gt_ok (List.mem_of_getElem? (i := 90) (by decide +kernel)) (by decide +kernel), by decide +kernel, by decide +kernel, by decide +kernel⟩
theorem im_X11_where : Cond.instanceMethod mX11_where.1 ∈ gt := gt_ok (List.mem_of_getElem? (i := 584) (by decide +kernel)) (by decide +kernel)
theorem se_X11_where : Cond.selects mX11_where.1.cls mX11_where.1 mX11_where.1 ∈ gt := gt_ok (List.mem_of_getElem? (i := 585) (by decide +kernel)) (by decide +kernel)
theorem vl_X11_where : VL mLw mX11_where 36 1 := ⟨ml_X11_where, gt_ok (List.mem_of_getElem? (i := 583) (by decide +kernel)) (by decide +kernel), im_X11_where, se_X11_where⟩
theorem ml_X12_where : ML mX12_where 1 := ⟨gt_ok (List.mem_of_getElem? (i := 1197) (by decide +kernel)) (by decide +kernel), gt_ok (List.mem_of_getElem? (i := 100) (by decide +kernel)) (by decide +kernel), by decide +kernel, by decide +kernel, by decide +kernel⟩
theorem im_X12_where : Cond.instanceMethod mX12_where.1 ∈ gt := gt_ok (List.mem_of_getElem? (i := 1195) (by decide +kernel)) (by decide +kernel)
theorem se_X12_where : Cond.selects mX12_where.1.cls mX12_where.1 mX12_where.1 ∈ gt := gt_ok (List.mem_of_getElem? (i := 1196) (by decide +kernel)) (by decide +kernel)
theorem vl_X12_where : VL mLw mX12_where 39 1 := ⟨ml_X12_where, gt_ok (List.mem_of_getElem? (i := 1194) (by decide +kernel)) (by decide +kernel), im_X12_where, se_X12_where⟩
theorem ml_X11_told : ML mX11_told 2 := ⟨gt_ok (List.mem_of_getElem? (i := 590) (by decide +kernel)) (by decide +kernel), gt_ok (List.mem_of_getElem? (i := 90) (by decide +kernel)) (by decide +kernel), by decide +kernel, by decide +kernel, by decide +kernel⟩
theorem im_X11_told : Cond.instanceMethod mX11_told.1 ∈ gt := gt_ok (List.mem_of_getElem? (i := 588) (by decide +kernel)) (by decide +kernel)
theorem se_X11_told : Cond.selects mX11_told.1.cls mX11_told.1 mX11_told.1 ∈ gt := gt_ok (List.mem_of_getElem? (i := 589) (by decide +kernel)) (by decide +kernel)
theorem vl_X11_told : VL mLw mX11_told 40 2 := ⟨ml_X11_told, gt_ok (List.mem_of_getElem? (i := 587) (by decide +kernel)) (by decide +kernel), im_X11_told, se_X11_told⟩
theorem ml_X12_told : ML mX12_told 2 := ⟨gt_ok (List.mem_of_getElem? (i := 1321) (by decide +kernel)) (by decide +kernel), gt_ok (List.mem_of_getElem? (i := 100) (by decide +kernel)) (by decide +kernel), by decide +kernel, by decide +kernel, by decide +kernel⟩
theorem im_X12_told : Cond.instanceMethod mX12_told.1 ∈ gt := gt_ok (List.mem_of_getElem? (i := 1319) (by decide +kernel)) (by decide +kernel)
theorem se_X12_told : Cond.selects mX12_told.1.cls mX12_told.1 mX12_told.1 ∈ gt := gt_ok (List.mem_of_getElem? (i := 1320) (by decide +kernel)) (by decide +kernel)
theorem vl_X12_told : VL mLw mX12_told 44 2 := ⟨ml_X12_told, gt_ok (List.mem_of_getElem? (i := 1318) (by decide +kernel)) (by decide +kernel), im_X12_told, se_X12_told⟩
theorem ml_X11_doc : ML mX11_doc 3 := ⟨gt_ok (List.mem_of_getElem? (i := 627) (by decide +kernel)) (by decide +kernel), gt_ok (List.mem_of_getElem? (i := 90) (by decide +kernel)) (by decide +kernel), by decide +kernel, by decide +kernel, by decide +kernel⟩
theorem im_X11_doc : Cond.instanceMethod mX11_doc.1 ∈ gt := gt_ok (List.mem_of_getElem? (i := 625) (by decide +kernel)) (by decide +kernel)
theorem se_X11_doc : Cond.selects mX11_doc.1.cls mX11_doc.1 mX11_doc.1 ∈ gt := gt_ok (List.mem_of_getElem? (i := 626) (by decide +kernel)) (by decide +kernel)
theorem vl_X11_doc : VL mLw mX11_doc 45 3 := ⟨ml_X11_doc, gt_ok (List.mem_of_getElem? (i := 624) (by decide +kernel)) (by decide +kernel), im_X11_doc, se_X11_doc⟩
theorem ml_X12_doc : ML mX12_doc 3 := ⟨gt_ok (List.mem_of_getElem? (i := 1337) (by decide +kernel)) (by decide +kernel), gt_ok (List.mem_of_getElem? (i := 100) (by decide +kernel)) (by decide +kernel), by decide +kernel, by decide +kernel, by decide +kernel⟩
theorem im_X12_doc : Cond.instanceMethod mX12_doc.1 ∈ gt := gt_ok (List.mem_of_getElem? (i := 1335) (by decide +kernel)) (by decide +kernel)
theorem se_X12_doc : Cond.selects mX12_doc.1.cls mX12_doc.1 mX12_doc.1 ∈ gt := gt_ok (List.mem_of_getElem? (i := 1336) (by decide +kernel)) (by decide +kernel)
theorem vl_X12_doc : VL mLw mX12_doc 49 3 := ⟨ml_X12_doc, gt_ok (List.mem_of_getElem? (i := 1334) (by decide +kernel)) (by decide +kernel), im_X12_doc, se_X12_doc⟩
theorem ml_X11_word : ML mX11_word 3 := ⟨gt_ok (List.mem_of_getElem? (i := 631) (by decide +kernel)) (by decide +kernel), gt_ok (List.mem_of_getElem? (i := 90) (by decide +kernel)) (by decide +kernel), by decide +kernel, by decide +kernel, by decide +kernel⟩
theorem im_X11_word : Cond.instanceMethod mX11_word.1 ∈ gt := gt_ok (List.mem_of_getElem? (i := 629) (by decide +kernel)) (by decide +kernel)
theorem se_X11_word : Cond.selects mX11_word.1.cls mX11_word.1 mX11_word.1 ∈ gt := gt_ok (List.mem_of_getElem? (i := 630) (by decide +kernel)) (by decide +kernel)
theorem vl_X11_word : VL mLw mX11_word 50 3 := ⟨ml_X11_word, gt_ok (List.mem_of_getElem? (i := 628) (by decide +kernel)) (by decide +kernel), im_X11_word, se_X11_word⟩
theorem ml_X12_word : ML mX12_word 3 := ⟨gt_ok (List.mem_of_getElem? (i := 1217) (by decide +kernel)) (by decide +kernel), gt_ok (List.mem_of_getElem? (i := 100) (by decide +kernel)) (by decide +kernel), by decide +kernel, by decide +kernel, by decide +kernel⟩
theorem im_X12_word : Cond.instanceMethod mX12_word.1 ∈ gt := gt_ok (List.mem_of_getElem? (i := 1215) (by decide +kernel)) (by decide +kernel)
theorem se_X12_word : Cond.selects mX12_word.1.cls mX12_word.1 mX12_word.1 ∈ gt := gt_ok (List.mem_of_getElem? (i := 1216) (by decide +kernel)) (by decide +kernel)
theorem vl_X12_word : VL mLw mX12_word 53 3 := ⟨ml_X12_word, gt_ok (List.mem_of_getElem? (i := 1214) (by decide +kernel)) (by decide +kernel), im_X12_word, se_X12_word⟩
theorem ml_X11_set : ML mX11_set 2 := ⟨gt_ok (List.mem_of_getElem? (i := 638) (by decide +kernel)) (by decide +kernel), gt_ok (List.mem_of_getElem? (i := 90) (by decide +kernel)) (by decide +kernel), by decide +kernel, by decide +kernel, by decide +kernel⟩
theorem im_X11_set : Cond.instanceMethod mX11_set.1 ∈ gt := gt_ok (List.mem_of_getElem? (i := 636) (by decide +kernel)) (by decide +kernel)
theorem se_X11_set : Cond.selects mX11_set.1.cls mX11_set.1 mX11_set.1 ∈ gt := gt_ok (List.mem_of_getElem? (i := 637) (by decide +kernel)) (by decide +kernel)
theorem vl_X11_set : VL mLw mX11_set 54 2 := ⟨ml_X11_set, gt_ok (List.mem_of_getElem? (i := 635) (by decide +kernel)) (by decide +kernel), im_X11_set, se_X11_set⟩
theorem ml_X12_set : ML mX12_set 2 := ⟨gt_ok (List.mem_of_getElem? (i := 1240) (by decide +kernel)) (by decide +kernel), gt_ok (List.mem_of_getElem? (i := 100) (by decide +kernel)) (by decide +kernel), by decide +kernel, by decide +kernel, by decide +kernel⟩
theorem im_X12_set : Cond.instanceMethod mX12_set.1 ∈ gt := gt_ok (List.mem_of_getElem? (i := 1238) (by decide +kernel)) (by decide +kernel)
theorem se_X12_set : Cond.selects mX12_set.1.cls mX12_set.1 mX12_set.1 ∈ gt := gt_ok (List.mem_of_getElem? (i := 1239) (by decide +kernel)) (by decide +kernel)
theorem vl_X12_set : VL mLw mX12_set 57 2 := ⟨ml_X12_set, gt_ok (List.mem_of_getElem? (i := 1237) (by decide +kernel)) (by decide +kernel), im_X12_set, se_X12_set⟩
theorem ml_X11_taken : ML mX11_taken 1 := ⟨gt_ok (List.mem_of_getElem? (i := 642) (by decide +kernel)) (by decide +kernel), gt_ok (List.mem_of_getElem? (i := 90) (by decide +kernel)) (by decide +kernel), by decide +kernel, by decide +kernel, by decide +kernel⟩
theorem im_X11_taken : Cond.instanceMethod mX11_taken.1 ∈ gt := gt_ok (List.mem_of_getElem? (i := 640) (by decide +kernel)) (by decide +kernel)
theorem se_X11_taken : Cond.selects mX11_taken.1.cls mX11_taken.1 mX11_taken.1 ∈ gt := gt_ok (List.mem_of_getElem? (i := 641) (by decide +kernel)) (by decide +kernel)
theorem vl_X11_taken : VL mLw mX11_taken 58 1 := ⟨ml_X11_taken, gt_ok (List.mem_of_getElem? (i := 639) (by decide +kernel)) (by decide +kernel), im_X11_taken, se_X11_taken⟩
theorem ml_X12_taken : ML mX12_taken 1 := ⟨gt_ok (List.mem_of_getElem? (i := 1244) (by decide +kernel)) (by decide +kernel), gt_ok (List.mem_of_getElem? (i := 100) (by decide +kernel)) (by decide +kernel), by decide +kernel, by decide +kernel, by decide +kernel⟩
theorem im_X12_taken : Cond.instanceMethod mX12_taken.1 ∈ gt := gt_ok (List.mem_of_getElem? (i := 1242) (by decide +kernel)) (by decide +kernel)
theorem se_X12_taken : Cond.selects mX12_taken.1.cls mX12_taken.1 mX12_taken.1 ∈ gt := gt_ok (List.mem_of_getElem? (i := 1243) (by decide +kernel)) (by decide +kernel)
theorem vl_X12_taken : VL mLw mX12_taken 61 1 := ⟨ml_X12_taken, gt_ok (List.mem_of_getElem? (i := 1241) (by decide +kernel)) (by decide +kernel), im_X12_taken, se_X12_taken⟩
theorem ml_X11_choice : ML mX11_choice 1 := ⟨gt_ok (List.mem_of_getElem? (i := 652) (by decide +kernel)) (by decide +kernel), gt_ok (List.mem_of_getElem? (i := 90) (by decide +kernel)) (by decide +kernel), by decide +kernel, by decide +kernel, by decide +kernel⟩
theorem im_X11_choice : Cond.instanceMethod mX11_choice.1 ∈ gt := gt_ok (List.mem_of_getElem? (i := 650) (by decide +kernel)) (by decide +kernel)
theorem se_X11_choice : Cond.selects mX11_choice.1.cls mX11_choice.1 mX11_choice.1 ∈ gt := gt_ok (List.mem_of_getElem? (i := 651) (by decide +kernel)) (by decide +kernel)
theorem vl_X11_choice : VL mLw mX11_choice 62 1 := ⟨ml_X11_choice, gt_ok (List.mem_of_getElem? (i := 649) (by decide +kernel)) (by decide +kernel), im_X11_choice, se_X11_choice⟩
theorem ml_X12_choice : ML mX12_choice 1 := ⟨gt_ok (List.mem_of_getElem? (i := 1248) (by decide +kernel)) (by decide +kernel), gt_ok (List.mem_of_getElem? (i := 100) (by decide +kernel)) (by decide +kernel), by decide +kernel, by decide +kernel, by decide +kernel⟩
theorem im_X12_choice : Cond.instanceMethod mX12_choice.1 ∈ gt := gt_ok (List.mem_of_getElem? (i := 1246) (by decide +kernel)) (by decide +kernel)
theorem se_X12_choice : Cond.selects mX12_choice.1.cls mX12_choice.1 mX12_choice.1 ∈ gt := gt_ok (List.mem_of_getElem? (i := 1247) (by decide +kernel)) (by decide +kernel)
theorem vl_X12_choice : VL mLw mX12_choice 65 1 := ⟨ml_X12_choice, gt_ok (List.mem_of_getElem? (i := 1245) (by decide +kernel)) (by decide +kernel), im_X12_choice, se_X12_choice⟩
theorem ml_X11_begin : ML mX11_begin 0 := ⟨gt_ok (List.mem_of_getElem? (i := 687) (by decide +kernel)) (by decide +kernel), gt_ok (List.mem_of_getElem? (i := 90) (by decide +kernel)) (by decide +kernel), by decide +kernel, by decide +kernel, by decide +kernel⟩
theorem im_X11_begin : Cond.instanceMethod mX11_begin.1 ∈ gt := gt_ok (List.mem_of_getElem? (i := 685) (by decide +kernel)) (by decide +kernel)
theorem se_X11_begin : Cond.selects mX11_begin.1.cls mX11_begin.1 mX11_begin.1 ∈ gt := gt_ok (List.mem_of_getElem? (i := 686) (by decide +kernel)) (by decide +kernel)
theorem vl_X11_begin : VL mLw mX11_begin 66 0 := ⟨ml_X11_begin, gt_ok (List.mem_of_getElem? (i := 684) (by decide +kernel)) (by decide +kernel), im_X11_begin, se_X11_begin⟩
theorem ml_X12_begin : ML mX12_begin 0 := ⟨gt_ok (List.mem_of_getElem? (i := 1281) (by decide +kernel)) (by decide +kernel), gt_ok (List.mem_of_getElem? (i := 100) (by decide +kernel)) (by decide +kernel), by decide +kernel, by decide +kernel, by decide +kernel⟩
theorem im_X12_begin : Cond.instanceMethod mX12_begin.1 ∈ gt := gt_ok (List.mem_of_getElem? (i := 1279) (by decide +kernel)) (by decide +kernel)
theorem se_X12_begin : Cond.selects mX12_begin.1.cls mX12_begin.1 mX12_begin.1 ∈ gt := gt_ok (List.mem_of_getElem? (i := 1280) (by decide +kernel)) (by decide +kernel)
theorem vl_X12_begin : VL mLw mX12_begin 69 0 := ⟨ml_X12_begin, gt_ok (List.mem_of_getElem? (i := 1278) (by decide +kernel)) (by decide +kernel), im_X12_begin, se_X12_begin⟩
theorem ml_X11_finish : ML mX11_finish 0 := ⟨gt_ok (List.mem_of_getElem? (i := 695) (by decide +kernel)) (by decide +kernel), gt_ok (List.mem_of_getElem? (i := 90) (by decide +kernel)) (by decide +kernel), by decide +kernel, by decide +kernel, by decide +kernel⟩
theorem im_X11_finish : Cond.instanceMethod mX11_finish.1 ∈ gt := gt_ok (List.mem_of_getElem? (i := 693) (by decide +kernel)) (by decide +kernel)
theorem se_X11_finish : Cond.selects mX11_finish.1.cls mX11_finish.1 mX11_finish.1 ∈ gt := gt_ok (List.mem_of_getElem? (i := 694) (by decide +kernel)) (by decide +kernel)
theorem vl_X11_finish : VL mLw mX11_finish 70 0 := ⟨ml_X11_finish, gt_ok (List.mem_of_getElem? (i := 692) (by decide +kernel)) (by decide +kernel), im_X11_finish, se_X11_finish⟩
theorem ml_X12_finish : ML mX12_finish 0 := ⟨gt_ok (List.mem_of_getElem? (i := 1285) (by decide +kernel)) (by decide +kernel), gt_ok (List.mem_of_getElem? (i := 100) (by decide +kernel)) (by decide +kernel), by decide +kernel, by decide +kernel, by decide +kernel⟩
theorem im_X12_finish : Cond.instanceMethod mX12_finish.1 ∈ gt := gt_ok (List.mem_of_getElem? (i := 1283) (by decide +kernel)) (by decide +kernel)
theorem se_X12_finish : Cond.selects mX12_finish.1.cls mX12_finish.1 mX12_finish.1 ∈ gt := gt_ok (List.mem_of_getElem? (i := 1284) (by decide +kernel)) (by decide +kernel)
theorem vl_X12_finish : VL mLw mX12_finish 73 0 := ⟨ml_X12_finish, gt_ok (List.mem_of_getElem? (i := 1282) (by decide +kernel)) (by decide +kernel), im_X12_finish, se_X12_finish⟩
theorem ml_X11_leave : ML mX11_leave 0 := ⟨gt_ok (List.mem_of_getElem? (i := 713) (by decide +kernel)) (by decide +kernel), gt_ok (List.mem_of_getElem? (i := 90) (by decide +kernel)) (by decide +kernel), by decide +kernel, by decide +kernel, by decide +kernel⟩
theorem im_X11_leave : Cond.instanceMethod mX11_leave.1 ∈ gt := gt_ok (List.mem_of_getElem? (i := 711) (by decide +kernel)) (by decide +kernel)
theorem se_X11_leave : Cond.selects mX11_leave.1.cls mX11_leave.1 mX11_leave.1 ∈ gt := gt_ok (List.mem_of_getElem? (i := 712) (by decide +kernel)) (by decide +kernel)
theorem vl_X11_leave : VL mLw mX11_leave 74 0 := ⟨ml_X11_leave, gt_ok (List.mem_of_getElem? (i := 710) (by decide +kernel)) (by decide +kernel), im_X11_leave, se_X11_leave⟩
theorem ml_X12_leave : ML mX12_leave 0 := ⟨gt_ok (List.mem_of_getElem? (i := 1289) (by decide +kernel)) (by decide +kernel), gt_ok (List.mem_of_getElem? (i := 100) (by decide +kernel)) (by decide +kernel), by decide +kernel, by decide +kernel, by decide +kernel⟩
theorem im_X12_leave : Cond.instanceMethod mX12_leave.1 ∈ gt := gt_ok (List.mem_of_getElem? (i := 1287) (by decide +kernel)) (by decide +kernel)
theorem se_X12_leave : Cond.selects mX12_leave.1.cls mX12_leave.1 mX12_leave.1 ∈ gt := gt_ok (List.mem_of_getElem? (i := 1288) (by decide +kernel)) (by decide +kernel)
theorem vl_X12_leave : VL mLw mX12_leave 77 0 := ⟨ml_X12_leave, gt_ok (List.mem_of_getElem? (i := 1286) (by decide +kernel)) (by decide +kernel), im_X12_leave, se_X12_leave⟩
theorem ml_X11_cheapest : ML mX11_cheapest 1 := ⟨gt_ok (List.mem_of_getElem? (i := 717) (by decide +kernel)) (by decide +kernel), gt_ok (List.mem_of_getElem? (i := 90) (by decide +kernel)) (by decide +kernel), by decide +kernel, by decide +kernel, by decide +kernel⟩
theorem im_X11_cheapest : Cond.instanceMethod mX11_cheapest.1 ∈ gt := gt_ok (List.mem_of_getElem? (i := 715) (by decide +kernel)) (by decide +kernel)
theorem se_X11_cheapest : Cond.selects mX11_cheapest.1.cls mX11_cheapest.1 mX11_cheapest.1 ∈ gt := gt_ok (List.mem_of_getElem? (i := 716) (by decide +kernel)) (by decide +kernel)
theorem vl_X11_cheapest : VL mLw mX11_cheapest 78 1 := ⟨ml_X11_cheapest, gt_ok (List.mem_of_getElem? (i := 714) (by decide +kernel)) (by decide +kernel), im_X11_cheapest, se_X11_cheapest⟩
theorem ml_X12_cheapest : ML mX12_cheapest 1 := ⟨gt_ok (List.mem_of_getElem? (i := 1293) (by decide +kernel)) (by decide +kernel), gt_ok (List.mem_of_getElem? (i := 100) (by decide +kernel)) (by decide +kernel), by decide +kernel, by decide +kernel, by decide +kernel⟩
theorem im_X12_cheapest : Cond.instanceMethod mX12_cheapest.1 ∈ gt := gt_ok (List.mem_of_getElem? (i := 1291) (by decide +kernel)) (by decide +kernel)
theorem se_X12_cheapest : Cond.selects mX12_cheapest.1.cls mX12_cheapest.1 mX12_cheapest.1 ∈ gt := gt_ok (List.mem_of_getElem? (i := 1292) (by decide +kernel)) (by decide +kernel)
theorem vl_X12_cheapest : VL mLw mX12_cheapest 81 1 := ⟨ml_X12_cheapest, gt_ok (List.mem_of_getElem? (i := 1290) (by decide +kernel)) (by decide +kernel), im_X12_cheapest, se_X12_cheapest⟩
theorem ml_X11_write : ML mX11_write 0 := ⟨gt_ok (List.mem_of_getElem? (i := 729) (by decide +kernel)) (by decide +kernel), gt_ok (List.mem_of_getElem? (i := 90) (by decide +kernel)) (by decide +kernel), by decide +kernel, by decide +kernel, by decide +kernel⟩
theorem im_X11_write : Cond.instanceMethod mX11_write.1 ∈ gt := gt_ok (List.mem_of_getElem? (i := 727) (by decide +kernel)) (by decide +kernel)
theorem se_X11_write : Cond.selects mX11_write.1.cls mX11_write.1 mX11_write.1 ∈ gt := gt_ok (List.mem_of_getElem? (i := 728) (by decide +kernel)) (by decide +kernel)
theorem vl_X11_write : VL mLw mX11_write 82 0 := ⟨ml_X11_write, gt_ok (List.mem_of_getElem? (i := 726) (by decide +kernel)) (by decide +kernel), im_X11_write, se_X11_write⟩
theorem ml_X12_write : ML mX12_write 0 := ⟨gt_ok (List.mem_of_getElem? (i := 1301) (by decide +kernel)) (by decide +kernel), gt_ok (List.mem_of_getElem? (i := 100) (by decide +kernel)) (by decide +kernel), by decide +kernel, by decide +kernel, by decide +kernel⟩
theorem im_X12_write : Cond.instanceMethod mX12_write.1 ∈ gt := gt_ok (List.mem_of_getElem? (i := 1299) (by decide +kernel)) (by decide +kernel)
theorem se_X12_write : Cond.selects mX12_write.1.cls mX12_write.1 mX12_write.1 ∈ gt := gt_ok (List.mem_of_getElem? (i := 1300) (by decide +kernel)) (by decide +kernel)
theorem vl_X12_write : VL mLw mX12_write 85 0 := ⟨ml_X12_write, gt_ok (List.mem_of_getElem? (i := 1298) (by decide +kernel)) (by decide +kernel), im_X12_write, se_X12_write⟩
theorem ml_X11_commit : ML mX11_commit 0 := ⟨gt_ok (List.mem_of_getElem? (i := 737) (by decide +kernel)) (by decide +kernel), gt_ok (List.mem_of_getElem? (i := 90) (by decide +kernel)) (by decide +kernel), by decide +kernel, by decide +kernel, by decide +kernel⟩
theorem im_X11_commit : Cond.instanceMethod mX11_commit.1 ∈ gt := gt_ok (List.mem_of_getElem? (i := 735) (by decide +kernel)) (by decide +kernel)
theorem se_X11_commit : Cond.selects mX11_commit.1.cls mX11_commit.1 mX11_commit.1 ∈ gt := gt_ok (List.mem_of_getElem? (i := 736) (by decide +kernel)) (by decide +kernel)
theorem vl_X11_commit : VL mLw mX11_commit 86 0 := ⟨ml_X11_commit, gt_ok (List.mem_of_getElem? (i := 734) (by decide +kernel)) (by decide +kernel), im_X11_commit, se_X11_commit⟩
theorem ml_X12_commit : ML mX12_commit 0 := ⟨gt_ok (List.mem_of_getElem? (i := 1309) (by decide +kernel)) (by decide +kernel), gt_ok (List.mem_of_getElem? (i := 100) (by decide +kernel)) (by decide +kernel), by decide +kernel, by decide +kernel, by decide +kernel⟩
theorem im_X12_commit : Cond.instanceMethod mX12_commit.1 ∈ gt := gt_ok (List.mem_of_getElem? (i := 1307) (by decide +kernel)) (by decide +kernel)
theorem se_X12_commit : Cond.selects mX12_commit.1.cls mX12_commit.1 mX12_commit.1 ∈ gt := gt_ok (List.mem_of_getElem? (i := 1308) (by decide +kernel)) (by decide +kernel)
theorem vl_X12_commit : VL mLw mX12_commit 89 0 := ⟨ml_X12_commit, gt_ok (List.mem_of_getElem? (i := 1306) (by decide +kernel)) (by decide +kernel), im_X12_commit, se_X12_commit⟩
theorem ml_X11_crash : ML mX11_crash 0 := ⟨gt_ok (List.mem_of_getElem? (i := 741) (by decide +kernel)) (by decide +kernel), gt_ok (List.mem_of_getElem? (i := 90) (by decide +kernel)) (by decide +kernel), by decide +kernel, by decide +kernel, by decide +kernel⟩
theorem im_X11_crash : Cond.instanceMethod mX11_crash.1 ∈ gt := gt_ok (List.mem_of_getElem? (i := 739) (by decide +kernel)) (by decide +kernel)
theorem se_X11_crash : Cond.selects mX11_crash.1.cls mX11_crash.1 mX11_crash.1 ∈ gt := gt_ok (List.mem_of_getElem? (i := 740) (by decide +kernel)) (by decide +kernel)
theorem vl_X11_crash : VL mLw mX11_crash 90 0 := ⟨ml_X11_crash, gt_ok (List.mem_of_getElem? (i := 738) (by decide +kernel)) (by decide +kernel), im_X11_crash, se_X11_crash⟩
theorem ml_X12_crash : ML mX12_crash 0 := ⟨gt_ok (List.mem_of_getElem? (i := 1317) (by decide +kernel)) (by decide +kernel), gt_ok (List.mem_of_getElem? (i := 100) (by decide +kernel)) (by decide +kernel), by decide +kernel, by decide +kernel, by decide +kernel⟩
theorem im_X12_crash : Cond.instanceMethod mX12_crash.1 ∈ gt := gt_ok (List.mem_of_getElem? (i := 1315) (by decide +kernel)) (by decide +kernel)
theorem se_X12_crash : Cond.selects mX12_crash.1.cls mX12_crash.1 mX12_crash.1 ∈ gt := gt_ok (List.mem_of_getElem? (i := 1316) (by decide +kernel)) (by decide +kernel)
theorem vl_X12_crash : VL mLw mX12_crash 93 0 := ⟨ml_X12_crash, gt_ok (List.mem_of_getElem? (i := 1314) (by decide +kernel)) (by decide +kernel), im_X12_crash, se_X12_crash⟩
theorem ml_X11_query : ML mX11_query 0 := ⟨gt_ok (List.mem_of_getElem? (i := 745) (by decide +kernel)) (by decide +kernel), gt_ok (List.mem_of_getElem? (i := 90) (by decide +kernel)) (by decide +kernel), by decide +kernel, by decide +kernel, by decide +kernel⟩
theorem im_X11_query : Cond.instanceMethod mX11_query.1 ∈ gt := gt_ok (List.mem_of_getElem? (i := 743) (by decide +kernel)) (by decide +kernel)
theorem se_X11_query : Cond.selects mX11_query.1.cls mX11_query.1 mX11_query.1 ∈ gt := gt_ok (List.mem_of_getElem? (i := 744) (by decide +kernel)) (by decide +kernel)
theorem vl_X11_query : VL mLw mX11_query 94 0 := ⟨ml_X11_query, gt_ok (List.mem_of_getElem? (i := 742) (by decide +kernel)) (by decide +kernel), im_X11_query, se_X11_query⟩
theorem ml_X12_query : ML mX12_query 0 := ⟨gt_ok (List.mem_of_getElem? (i := 1356) (by decide +kernel)) (by decide +kernel), gt_ok (List.mem_of_getElem? (i := 100) (by decide +kernel)) (by decide +kernel), by decide +kernel, by decide +kernel, by decide +kernel⟩
theorem im_X12_query : Cond.instanceMethod mX12_query.1 ∈ gt := gt_ok (List.mem_of_getElem? (i := 1354) (by decide +kernel)) (by decide +kernel)
theorem se_X12_query : Cond.selects mX12_query.1.cls mX12_query.1 mX12_query.1 ∈ gt := gt_ok (List.mem_of_getElem? (i := 1355) (by decide +kernel)) (by decide +kernel)
theorem vl_X12_query : VL mLw mX12_query 97 0 := ⟨ml_X12_query, gt_ok (List.mem_of_getElem? (i := 1353) (by decide +kernel)) (by decide +kernel), im_X12_query, se_X12_query⟩
theorem ml_X11_open : ML mX11_open 1 := ⟨gt_ok (List.mem_of_getElem? (i := 814) (by decide +kernel)) (by decide +kernel), gt_ok (List.mem_of_getElem? (i := 90) (by decide +kernel)) (by decide +kernel), by decide +kernel, by decide +kernel, by decide +kernel⟩
theorem im_X11_open : Cond.instanceMethod mX11_open.1 ∈ gt := gt_ok (List.mem_of_getElem? (i := 812) (by decide +kernel)) (by decide +kernel)
theorem se_X11_open : Cond.selects mX11_open.1.cls mX11_open.1 mX11_open.1 ∈ gt := gt_ok (List.mem_of_getElem? (i := 813) (by decide +kernel)) (by decide +kernel)
theorem vl_X11_open : VL mLw mX11_open 98 1 := ⟨ml_X11_open, gt_ok (List.mem_of_getElem? (i := 811) (by decide +kernel)) (by decide +kernel), im_X11_open, se_X11_open⟩
theorem ml_X12_open : ML mX12_open 1 := ⟨gt_ok (List.mem_of_getElem? (i := 1341) (by decide +kernel)) (by decide +kernel), gt_ok (List.mem_of_getElem? (i := 100) (by decide +kernel)) (by decide +kernel), by decide +kernel, by decide +kernel, by decide +kernel⟩
theorem im_X12_open : Cond.instanceMethod mX12_open.1 ∈ gt := gt_ok (List.mem_of_getElem? (i := 1339) (by decide +kernel)) (by decide +kernel)
theorem se_X12_open : Cond.selects mX12_open.1.cls mX12_open.1 mX12_open.1 ∈ gt := gt_ok (List.mem_of_getElem? (i := 1340) (by decide +kernel)) (by decide +kernel)
theorem vl_X12_open : VL mLw mX12_open 101 1 := ⟨ml_X12_open, gt_ok (List.mem_of_getElem? (i := 1338) (by decide +kernel)) (by decide +kernel), im_X12_open, se_X12_open⟩
theorem ml_X11_shut : ML mX11_shut 1 := ⟨gt_ok (List.mem_of_getElem? (i := 821) (by decide +kernel)) (by decide +kernel), gt_ok (List.mem_of_getElem? (i := 90) (by decide +kernel)) (by decide +kernel), by decide +kernel, by decide +kernel, by decide +kernel⟩
theorem im_X11_shut : Cond.instanceMethod mX11_shut.1 ∈ gt := gt_ok (List.mem_of_getElem? (i := 819) (by decide +kernel)) (by decide +kernel)
theorem se_X11_shut : Cond.selects mX11_shut.1.cls mX11_shut.1 mX11_shut.1 ∈ gt := gt_ok (List.mem_of_getElem? (i := 820) (by decide +kernel)) (by decide +kernel)
theorem vl_X11_shut : VL mLw mX11_shut 102 1 := ⟨ml_X11_shut, gt_ok (List.mem_of_getElem? (i := 818) (by decide +kernel)) (by decide +kernel), im_X11_shut, se_X11_shut⟩
theorem ml_X12_shut : ML mX12_shut 1 := ⟨gt_ok (List.mem_of_getElem? (i := 1348) (by decide +kernel)) (by decide +kernel), gt_ok (List.mem_of_getElem? (i := 100) (by decide +kernel)) (by decide +kernel), by decide +kernel, by decide +kernel, by decide +kernel⟩
theorem im_X12_shut : Cond.instanceMethod mX12_shut.1 ∈ gt := gt_ok (List.mem_of_getElem? (i := 1346) (by decide +kernel)) (by decide +kernel)
theorem se_X12_shut : Cond.selects mX12_shut.1.cls mX12_shut.1 mX12_shut.1 ∈ gt := gt_ok (List.mem_of_getElem? (i := 1347) (by decide +kernel)) (by decide +kernel)
theorem vl_X12_shut : VL mLw mX12_shut 105 1 := ⟨ml_X12_shut, gt_ok (List.mem_of_getElem? (i := 1345) (by decide +kernel)) (by decide +kernel), im_X12_shut, se_X12_shut⟩
theorem ml_X11_found : ML mX11_found 3 := ⟨gt_ok (List.mem_of_getElem? (i := 833) (by decide +kernel)) (by decide +kernel), gt_ok (List.mem_of_getElem? (i := 90) (by decide +kernel)) (by decide +kernel), by decide +kernel, by decide +kernel, by decide +kernel⟩
theorem im_X11_found : Cond.instanceMethod mX11_found.1 ∈ gt := gt_ok (List.mem_of_getElem? (i := 831) (by decide +kernel)) (by decide +kernel)
theorem se_X11_found : Cond.selects mX11_found.1.cls mX11_found.1 mX11_found.1 ∈ gt := gt_ok (List.mem_of_getElem? (i := 832) (by decide +kernel)) (by decide +kernel)
theorem vl_X11_found : VL mLw mX11_found 106 3 := ⟨ml_X11_found, gt_ok (List.mem_of_getElem? (i := 830) (by decide +kernel)) (by decide +kernel), im_X11_found, se_X11_found⟩
theorem ml_X12_found : ML mX12_found 3 := ⟨gt_ok (List.mem_of_getElem? (i := 1455) (by decide +kernel)) (by decide +kernel), gt_ok (List.mem_of_getElem? (i := 100) (by decide +kernel)) (by decide +kernel), by decide +kernel, by decide +kernel, by decide +kernel⟩
theorem im_X12_found : Cond.instanceMethod mX12_found.1 ∈ gt := gt_ok (List.mem_of_getElem? (i := 1453) (by decide +kernel)) (by decide +kernel)
theorem se_X12_found : Cond.selects mX12_found.1.cls mX12_found.1 mX12_found.1 ∈ gt := gt_ok (List.mem_of_getElem? (i := 1454) (by decide +kernel)) (by decide +kernel)
theorem vl_X12_found : VL mLw mX12_found 109 3 := ⟨ml_X12_found, gt_ok (List.mem_of_getElem? (i := 1452) (by decide +kernel)) (by decide +kernel), im_X12_found, se_X12_found⟩
theorem ml_X11_look : ML mX11_look 2 := ⟨gt_ok (List.mem_of_getElem? (i := 869) (by decide +kernel)) (by decide +kernel), gt_ok (List.mem_of_getElem? (i := 90) (by decide +kernel)) (by decide +kernel), by decide +kernel, by decide +kernel, by decide +kernel⟩
theorem im_X11_look : Cond.instanceMethod mX11_look.1 ∈ gt := gt_ok (List.mem_of_getElem? (i := 867) (by decide +kernel)) (by decide +kernel)
theorem se_X11_look : Cond.selects mX11_look.1.cls mX11_look.1 mX11_look.1 ∈ gt := gt_ok (List.mem_of_getElem? (i := 868) (by decide +kernel)) (by decide +kernel)
theorem vl_X11_look : VL mLw mX11_look 110 2 := ⟨ml_X11_look, gt_ok (List.mem_of_getElem? (i := 866) (by decide +kernel)) (by decide +kernel), im_X11_look, se_X11_look⟩
theorem ml_X12_look : ML mX12_look 2 := ⟨gt_ok (List.mem_of_getElem? (i := 1520) (by decide +kernel)) (by decide +kernel), gt_ok (List.mem_of_getElem? (i := 100) (by decide +kernel)) (by decide +kernel), by decide +kernel, by decide +kernel, by decide +kernel⟩
theorem im_X12_look : Cond.instanceMethod mX12_look.1 ∈ gt := gt_ok (List.mem_of_getElem? (i := 1518) (by decide +kernel)) (by decide +kernel)
theorem se_X12_look : Cond.selects mX12_look.1.cls mX12_look.1 mX12_look.1 ∈ gt := gt_ok (List.mem_of_getElem? (i := 1519) (by decide +kernel)) (by decide +kernel)
theorem vl_X12_look : VL mLw mX12_look 113 2 := ⟨ml_X12_look, gt_ok (List.mem_of_getElem? (i := 1517) (by decide +kernel)) (by decide +kernel), im_X12_look, se_X12_look⟩
theorem ml_X11_both : ML mX11_both 3 := ⟨gt_ok (List.mem_of_getElem? (i := 886) (by decide +kernel)) (by decide +kernel), gt_ok (List.mem_of_getElem? (i := 90) (by decide +kernel)) (by decide +kernel), by decide +kernel, by decide +kernel, by decide +kernel⟩
theorem im_X11_both : Cond.instanceMethod mX11_both.1 ∈ gt := gt_ok (List.mem_of_getElem? (i := 884) (by decide +kernel)) (by decide +kernel)
theorem se_X11_both : Cond.selects mX11_both.1.cls mX11_both.1 mX11_both.1 ∈ gt := gt_ok (List.mem_of_getElem? (i := 885) (by decide +kernel)) (by decide +kernel)
theorem vl_X11_both : VL mLw mX11_both 114 3 := ⟨ml_X11_both, gt_ok (List.mem_of_getElem? (i := 883) (by decide +kernel)) (by decide +kernel), im_X11_both, se_X11_both⟩
theorem ml_X12_both_ : ML mX12_both_ 3 := ⟨gt_ok (List.mem_of_getElem? (i := 1528) (by decide +kernel)) (by decide +kernel), gt_ok (List.mem_of_getElem? (i := 100) (by decide +kernel)) (by decide +kernel), by decide +kernel, by decide +kernel, by decide +kernel⟩
theorem im_X12_both_ : Cond.instanceMethod mX12_both_.1 ∈ gt := gt_ok (List.mem_of_getElem? (i := 1526) (by decide +kernel)) (by decide +kernel)
theorem se_X12_both_ : Cond.selects mX12_both_.1.cls mX12_both_.1 mX12_both_.1 ∈ gt := gt_ok (List.mem_of_getElem? (i := 1527) (by decide +kernel)) (by decide +kernel)
theorem vl_X12_both_ : VL mLw mX12_both_ 117 3 := ⟨ml_X12_both_, gt_ok (List.mem_of_getElem? (i := 1525) (by decide +kernel)) (by decide +kernel), im_X12_both_, se_X12_both_⟩
theorem ml_X11_silence : ML mX11_silence 2 := ⟨gt_ok (List.mem_of_getElem? (i := 899) (by decide +kernel)) (by decide +kernel), gt_ok (List.mem_of_getElem? (i := 90) (by decide +kernel)) (by decide +kernel), by decide +kernel, by decide +kernel, by decide +kernel⟩
theorem im_X11_silence : Cond.instanceMethod mX11_silence.1 ∈ gt := gt_ok (List.mem_of_getElem? (i := 897) (by decide +kernel)) (by decide +kernel)
theorem se_X11_silence : Cond.selects mX11_silence.1.cls mX11_silence.1 mX11_silence.1 ∈ gt := gt_ok (List.mem_of_getElem? (i := 898) (by decide +kernel)) (by decide +kernel)
theorem vl_X11_silence : VL mLw mX11_silence 118 2 := ⟨ml_X11_silence, gt_ok (List.mem_of_getElem? (i := 896) (by decide +kernel)) (by decide +kernel), im_X11_silence, se_X11_silence⟩
theorem ml_X12_silence : ML mX12_silence 2 := ⟨gt_ok (List.mem_of_getElem? (i := 1536) (by decide +kernel)) (by decide +kernel), gt_ok (List.mem_of_getElem? (i := 100) (by decide +kernel)) (by decide +kernel), by decide +kernel, by decide +kernel, by decide +kernel⟩
theorem im_X12_silence : Cond.instanceMethod mX12_silence.1 ∈ gt := gt_ok (List.mem_of_getElem? (i := 1534) (by decide +kernel)) (by decide +kernel)
theorem se_X12_silence : Cond.selects mX12_silence.1.cls mX12_silence.1 mX12_silence.1 ∈ gt := gt_ok (List.mem_of_getElem? (i := 1535) (by decide +kernel)) (by decide +kernel)
theorem vl_X12_silence : VL mLw mX12_silence 121 2 := ⟨ml_X12_silence, gt_ok (List.mem_of_getElem? (i := 1533) (by decide +kernel)) (by decide +kernel), im_X12_silence, se_X12_silence⟩
theorem ml_X11_tells : ML mX11_tells 4 := ⟨gt_ok (List.mem_of_getElem? (i := 903) (by decide +kernel)) (by decide +kernel), gt_ok (List.mem_of_getElem? (i := 90) (by decide +kernel)) (by decide +kernel), by decide +kernel, by decide +kernel, by decide +kernel⟩
theorem im_X11_tells : Cond.instanceMethod mX11_tells.1 ∈ gt := gt_ok (List.mem_of_getElem? (i := 901) (by decide +kernel)) (by decide +kernel)
theorem se_X11_tells : Cond.selects mX11_tells.1.cls mX11_tells.1 mX11_tells.1 ∈ gt := gt_ok (List.mem_of_getElem? (i := 902) (by decide +kernel)) (by decide +kernel)
theorem vl_X11_tells : VL mLw mX11_tells 122 4 := ⟨ml_X11_tells, gt_ok (List.mem_of_getElem? (i := 900) (by decide +kernel)) (by decide +kernel), im_X11_tells, se_X11_tells⟩
theorem ml_X12_tells : ML mX12_tells 4 := ⟨gt_ok (List.mem_of_getElem? (i := 1540) (by decide +kernel)) (by decide +kernel), gt_ok (List.mem_of_getElem? (i := 100) (by decide +kernel)) (by decide +kernel), by decide +kernel, by decide +kernel, by decide +kernel⟩
theorem im_X12_tells : Cond.instanceMethod mX12_tells.1 ∈ gt := gt_ok (List.mem_of_getElem? (i := 1538) (by decide +kernel)) (by decide +kernel)
theorem se_X12_tells : Cond.selects mX12_tells.1.cls mX12_tells.1 mX12_tells.1 ∈ gt := gt_ok (List.mem_of_getElem? (i := 1539) (by decide +kernel)) (by decide +kernel)
theorem vl_X12_tells : VL mLw mX12_tells 126 4 := ⟨ml_X12_tells, gt_ok (List.mem_of_getElem? (i := 1537) (by decide +kernel)) (by decide +kernel), im_X12_tells, se_X12_tells⟩
theorem ml_X11_film : ML mX11_film 3 := ⟨gt_ok (List.mem_of_getElem? (i := 931) (by decide +kernel)) (by decide +kernel), gt_ok (List.mem_of_getElem? (i := 90) (by decide +kernel)) (by decide +kernel), by decide +kernel, by decide +kernel, by decide +kernel⟩
theorem im_X11_film : Cond.instanceMethod mX11_film.1 ∈ gt := gt_ok (List.mem_of_getElem? (i := 929) (by decide +kernel)) (by decide +kernel)
theorem se_X11_film : Cond.selects mX11_film.1.cls mX11_film.1 mX11_film.1 ∈ gt := gt_ok (List.mem_of_getElem? (i := 930) (by decide +kernel)) (by decide +kernel)
theorem vl_X11_film : VL mLw mX11_film 127 3 := ⟨ml_X11_film, gt_ok (List.mem_of_getElem? (i := 928) (by decide +kernel)) (by decide +kernel), im_X11_film, se_X11_film⟩
theorem ml_X12_film : ML mX12_film 3 := ⟨gt_ok (List.mem_of_getElem? (i := 1551) (by decide +kernel)) (by decide +kernel), gt_ok (List.mem_of_getElem? (i := 100) (by decide +kernel)) (by decide +kernel), by decide +kernel, by decide +kernel, by decide +kernel⟩
theorem im_X12_film : Cond.instanceMethod mX12_film.1 ∈ gt := gt_ok (List.mem_of_getElem? (i := 1549) (by decide +kernel)) (by decide +kernel)
theorem se_X12_film : Cond.selects mX12_film.1.cls mX12_film.1 mX12_film.1 ∈ gt := gt_ok (List.mem_of_getElem? (i := 1550) (by decide +kernel)) (by decide +kernel)
theorem vl_X12_film : VL mLw mX12_film 130 3 := ⟨ml_X12_film, gt_ok (List.mem_of_getElem? (i := 1548) (by decide +kernel)) (by decide +kernel), im_X12_film, se_X12_film⟩
theorem ml_X11_count : ML mX11_count 1 := ⟨gt_ok (List.mem_of_getElem? (i := 948) (by decide +kernel)) (by decide +kernel), gt_ok (List.mem_of_getElem? (i := 90) (by decide +kernel)) (by decide +kernel), by decide +kernel, by decide +kernel, by decide +kernel⟩
theorem im_X11_count : Cond.instanceMethod mX11_count.1 ∈ gt := gt_ok (List.mem_of_getElem? (i := 946) (by decide +kernel)) (by decide +kernel)
theorem se_X11_count : Cond.selects mX11_count.1.cls mX11_count.1 mX11_count.1 ∈ gt := gt_ok (List.mem_of_getElem? (i := 947) (by decide +kernel)) (by decide +kernel)
theorem vl_X11_count : VL mLw mX11_count 131 1 := ⟨ml_X11_count, gt_ok (List.mem_of_getElem? (i := 945) (by decide +kernel)) (by decide +kernel), im_X11_count, se_X11_count⟩
theorem ml_X12_count : ML mX12_count 1 := ⟨gt_ok (List.mem_of_getElem? (i := 1555) (by decide +kernel)) (by decide +kernel), gt_ok (List.mem_of_getElem? (i := 100) (by decide +kernel)) (by decide +kernel), by decide +kernel, by decide +kernel, by decide +kernel⟩
theorem im_X12_count : Cond.instanceMethod mX12_count.1 ∈ gt := gt_ok (List.mem_of_getElem? (i := 1553) (by decide +kernel)) (by decide +kernel)
theorem se_X12_count : Cond.selects mX12_count.1.cls mX12_count.1 mX12_count.1 ∈ gt := gt_ok (List.mem_of_getElem? (i := 1554) (by decide +kernel)) (by decide +kernel)
theorem vl_X12_count : VL mLw mX12_count 134 1 := ⟨ml_X12_count, gt_ok (List.mem_of_getElem? (i := 1552) (by decide +kernel)) (by decide +kernel), im_X12_count, se_X12_count⟩
theorem ml_X11_sheet : ML mX11_sheet 3 := ⟨gt_ok (List.mem_of_getElem? (i := 960) (by decide +kernel)) (by decide +kernel), gt_ok (List.mem_of_getElem? (i := 90) (by decide +kernel)) (by decide +kernel), by decide +kernel, by decide +kernel, by decide +kernel⟩
theorem im_X11_sheet : Cond.instanceMethod mX11_sheet.1 ∈ gt := gt_ok (List.mem_of_getElem? (i := 958) (by decide +kernel)) (by decide +kernel)
theorem se_X11_sheet : Cond.selects mX11_sheet.1.cls mX11_sheet.1 mX11_sheet.1 ∈ gt := gt_ok (List.mem_of_getElem? (i := 959) (by decide +kernel)) (by decide +kernel)
theorem vl_X11_sheet : VL mLw mX11_sheet 135 3 := ⟨ml_X11_sheet, gt_ok (List.mem_of_getElem? (i := 957) (by decide +kernel)) (by decide +kernel), im_X11_sheet, se_X11_sheet⟩
theorem ml_X12_sheet : ML mX12_sheet 3 := ⟨gt_ok (List.mem_of_getElem? (i := 1567) (by decide +kernel)) (by decide +kernel), gt_ok (List.mem_of_getElem? (i := 100) (by decide +kernel)) (by decide +kernel), by decide +kernel, by decide +kernel, by decide +kernel⟩
theorem im_X12_sheet : Cond.instanceMethod mX12_sheet.1 ∈ gt := gt_ok (List.mem_of_getElem? (i := 1565) (by decide +kernel)) (by decide +kernel)
theorem se_X12_sheet : Cond.selects mX12_sheet.1.cls mX12_sheet.1 mX12_sheet.1 ∈ gt := gt_ok (List.mem_of_getElem? (i := 1566) (by decide +kernel)) (by decide +kernel)
theorem vl_X12_sheet : VL mLw mX12_sheet 138 3 := ⟨ml_X12_sheet, gt_ok (List.mem_of_getElem? (i := 1564) (by decide +kernel)) (by decide +kernel), im_X12_sheet, se_X12_sheet⟩
theorem ml_X11_cell : ML mX11_cell 3 := ⟨gt_ok (List.mem_of_getElem? (i := 964) (by decide +kernel)) (by decide +kernel), gt_ok (List.mem_of_getElem? (i := 90) (by decide +kernel)) (by decide +kernel), by decide +kernel, by decide +kernel, by decide +kernel⟩
theorem im_X11_cell : Cond.instanceMethod mX11_cell.1 ∈ gt := gt_ok (List.mem_of_getElem? (i := 962) (by decide +kernel)) (by decide +kernel)
theorem se_X11_cell : Cond.selects mX11_cell.1.cls mX11_cell.1 mX11_cell.1 ∈ gt := gt_ok (List.mem_of_getElem? (i := 963) (by decide +kernel)) (by decide +kernel)
theorem vl_X11_cell : VL mLw mX11_cell 139 3 := ⟨ml_X11_cell, gt_ok (List.mem_of_getElem? (i := 961) (by decide +kernel)) (by decide +kernel), im_X11_cell, se_X11_cell⟩
theorem ml_X12_cell : ML mX12_cell 3 := ⟨gt_ok (List.mem_of_getElem? (i := 1571) (by decide +kernel)) (by decide +kernel), gt_ok (List.mem_of_getElem? (i := 100) (by decide +kernel)) (by decide +kernel), by decide +kernel, by decide +kernel, by decide +kernel⟩
theorem im_X12_cell : Cond.instanceMethod mX12_cell.1 ∈ gt := gt_ok (List.mem_of_getElem? (i := 1569) (by decide +kernel)) (by decide +kernel)
theorem se_X12_cell : Cond.selects mX12_cell.1.cls mX12_cell.1 mX12_cell.1 ∈ gt := gt_ok (List.mem_of_getElem? (i := 1570) (by decide +kernel)) (by decide +kernel)
theorem vl_X12_cell : VL mLw mX12_cell 142 3 := ⟨ml_X12_cell, gt_ok (List.mem_of_getElem? (i := 1568) (by decide +kernel)) (by decide +kernel), im_X12_cell, se_X12_cell⟩
theorem ml_X11_copy : ML mX11_copy 5 := ⟨gt_ok (List.mem_of_getElem? (i := 969) (by decide +kernel)) (by decide +kernel), gt_ok (List.mem_of_getElem? (i := 90) (by decide +kernel)) (by decide +kernel), by decide +kernel, by decide +kernel, by decide +kernel⟩
theorem im_X11_copy : Cond.instanceMethod mX11_copy.1 ∈ gt := gt_ok (List.mem_of_getElem? (i := 967) (by decide +kernel)) (by decide +kernel)
theorem se_X11_copy : Cond.selects mX11_copy.1.cls mX11_copy.1 mX11_copy.1 ∈ gt := gt_ok (List.mem_of_getElem? (i := 968) (by decide +kernel)) (by decide +kernel)
theorem vl_X11_copy : VL mLw mX11_copy 143 5 := ⟨ml_X11_copy, gt_ok (List.mem_of_getElem? (i := 966) (by decide +kernel)) (by decide +kernel), im_X11_copy, se_X11_copy⟩
theorem ml_X12_copy : ML mX12_copy 5 := ⟨gt_ok (List.mem_of_getElem? (i := 1575) (by decide +kernel)) (by decide +kernel), gt_ok (List.mem_of_getElem? (i := 100) (by decide +kernel)) (by decide +kernel), by decide +kernel, by decide +kernel, by decide +kernel⟩
theorem im_X12_copy : Cond.instanceMethod mX12_copy.1 ∈ gt := gt_ok (List.mem_of_getElem? (i := 1573) (by decide +kernel)) (by decide +kernel)
theorem se_X12_copy : Cond.selects mX12_copy.1.cls mX12_copy.1 mX12_copy.1 ∈ gt := gt_ok (List.mem_of_getElem? (i := 1574) (by decide +kernel)) (by decide +kernel)
theorem vl_X12_copy : VL mLw mX12_copy 147 5 := ⟨ml_X12_copy, gt_ok (List.mem_of_getElem? (i := 1572) (by decide +kernel)) (by decide +kernel), im_X12_copy, se_X12_copy⟩
