/-! the words of each call, printed by wip/whole/tools/calls.py -/
set_option maxRecDepth 20000 in
theorem gD_29 : GoodIn tT (wsS RX1 29 yX1_isPosition (tC yX1_isPosition cX1_isPosition 1 (some .boolean))) := gdT (ws := [Cond.methodLink RX1 29 yX1_isPosition, Cond.static yX1_isPosition, Cond.initialized RX1, Cond.code yX1_isPosition cX1_isPosition 1 (some .boolean)]) (by decide +kernel)
set_option maxRecDepth 20000 in
theorem gD_33 : GoodIn tT (wsS RX1 33 yX1_isValue (tC yX1_isValue cX1_isValue 2 (some .boolean))) := gdT (ws := [Cond.methodLink RX1 33 yX1_isValue, Cond.static yX1_isValue, Cond.initialized RX1, Cond.code yX1_isValue cX1_isValue 2 (some .boolean)]) (by decide +kernel)
set_option maxRecDepth 20000 in
theorem gD_41 : GoodIn tT (tC yX0_init cX0_init 1 none) ∧ Cond.methodLinkNest RX1 41 yX0_init RX1 ∈ nW ∧ Cond.initialized RX0 ∈ tT ∧ Cond.instanceMethod yX0_init ∈ tT := ⟨gdC (by decide +kernel), by decide +kernel, by decide +kernel, by decide +kernel⟩
set_option maxRecDepth 20000 in
theorem gD_45 : GoodIn tT (wsV RX1 45 RX1 yX1_itemThere (tC yX1_itemThere cX1_itemThere 3 (some (.object "GridDesk$Item")))) := gdT (ws := [Cond.methodLink RX1 45 yX1_itemThere, Cond.instanceMethod yX1_itemThere, Cond.selects RX1 yX1_itemThere yX1_itemThere, Cond.initialized RX1, Cond.code yX1_itemThere cX1_itemThere 3 (some (.object "GridDesk$Item"))]) (by decide +kernel)
set_option maxRecDepth 20000 in
theorem gD_49 : GoodIn tT (tC yX0_change cX0_change 7 (some .boolean)) ∧ Cond.methodLinkNest RX1 49 yX0_change RX1 ∈ nW ∧ Cond.initialized yX0_change.cls ∈ tT ∧ Cond.instanceMethod yX0_change ∈ tT ∧ Cond.selects RX0 yX0_change yX0_change ∈ tT := ⟨gdC (by decide +kernel), by decide +kernel, by decide +kernel, by decide +kernel, by decide +kernel⟩
set_option maxRecDepth 20000 in
theorem gD_57 : GoodIn tT (wsV RX1 57 RX1 yX1_findGreatest (tC yX1_findGreatest cX1_findGreatest 2 none)) := gdT (ws := [Cond.methodLink RX1 57 yX1_findGreatest, Cond.instanceMethod yX1_findGreatest, Cond.selects RX1 yX1_findGreatest yX1_findGreatest, Cond.initialized RX1, Cond.code yX1_findGreatest cX1_findGreatest 2 none]) (by decide +kernel)
set_option maxRecDepth 20000 in
theorem gD_63 : GoodIn tT (wsV RX1 63 RX1 yX1_itemEver (tC yX1_itemEver cX1_itemEver 2 (some (.object "GridDesk$Item")))) := gdT (ws := [Cond.methodLink RX1 63 yX1_itemEver, Cond.instanceMethod yX1_itemEver, Cond.selects RX1 yX1_itemEver yX1_itemEver, Cond.initialized RX1, Cond.code yX1_itemEver cX1_itemEver 2 (some (.object "GridDesk$Item"))]) (by decide +kernel)
set_option maxRecDepth 20000 in
theorem gD_69 : GoodIn tT (wsV RX1 69 RX1 yX1_valuesFit (tC yX1_valuesFit cX1_valuesFit 2 (some .boolean))) := gdT (ws := [Cond.methodLink RX1 69 yX1_valuesFit, Cond.instanceMethod yX1_valuesFit, Cond.selects RX1 yX1_valuesFit yX1_valuesFit, Cond.initialized RX1, Cond.code yX1_valuesFit cX1_valuesFit 2 (some .boolean)]) (by decide +kernel)
set_option maxRecDepth 20000 in
theorem gD_79 : GoodIn tT (wsV RX1 79 RX1 yX1_endItemsOfSet (tC yX1_endItemsOfSet cX1_endItemsOfSet 3 none)) := gdT (ws := [Cond.methodLink RX1 79 yX1_endItemsOfSet, Cond.instanceMethod yX1_endItemsOfSet, Cond.selects RX1 yX1_endItemsOfSet yX1_endItemsOfSet, Cond.initialized RX1, Cond.code yX1_endItemsOfSet cX1_endItemsOfSet 3 none]) (by decide +kernel)
set_option maxRecDepth 20000 in
theorem gD_82 : GoodIn tT (tC yX0_amountFor cX0_amountFor 3 (some .long)) ∧ Cond.methodLinkNest RX1 82 yX0_amountFor RX1 ∈ nW ∧ Cond.initialized yX0_amountFor.cls ∈ tT ∧ Cond.instanceMethod yX0_amountFor ∈ tT ∧ Cond.selects RX0 yX0_amountFor yX0_amountFor ∈ tT := ⟨gdC (by decide +kernel), by decide +kernel, by decide +kernel, by decide +kernel, by decide +kernel⟩
set_option maxRecDepth 20000 in
theorem gD_90 : GoodIn tT (wsV RX1 90 RX1 yX1_startWithAllThere (tC yX1_startWithAllThere cX1_startWithAllThere 3 none)) := gdT (ws := [Cond.methodLink RX1 90 yX1_startWithAllThere, Cond.instanceMethod yX1_startWithAllThere, Cond.selects RX1 yX1_startWithAllThere yX1_startWithAllThere, Cond.initialized RX1, Cond.code yX1_startWithAllThere cX1_startWithAllThere 3 none]) (by decide +kernel)
set_option maxRecDepth 20000 in
theorem gD_93 : GoodIn tT (wsV RX1 93 RX1 yX1_dropHopeless (tC yX1_dropHopeless cX1_dropHopeless 4 (some .boolean))) := gdT (ws := [Cond.methodLink RX1 93 yX1_dropHopeless, Cond.instanceMethod yX1_dropHopeless, Cond.selects RX1 yX1_dropHopeless yX1_dropHopeless, Cond.initialized RX1, Cond.code yX1_dropHopeless cX1_dropHopeless 4 (some .boolean)]) (by decide +kernel)
set_option maxRecDepth 20000 in
theorem gD_96 : GoodIn tT (wsV RX1 96 RX1 yX1_startRows (tC yX1_startRows cX1_startRows 2 none)) := gdT (ws := [Cond.methodLink RX1 96 yX1_startRows, Cond.instanceMethod yX1_startRows, Cond.selects RX1 yX1_startRows yX1_startRows, Cond.initialized RX1, Cond.code yX1_startRows cX1_startRows 2 none]) (by decide +kernel)
set_option maxRecDepth 20000 in
theorem gD_99 : GoodIn tT (wsV RX1 99 RX1 yX1_giveAll (tC yX1_giveAll cX1_giveAll 4 none)) := gdT (ws := [Cond.methodLink RX1 99 yX1_giveAll, Cond.instanceMethod yX1_giveAll, Cond.selects RX1 yX1_giveAll yX1_giveAll, Cond.initialized RX1, Cond.code yX1_giveAll cX1_giveAll 4 none]) (by decide +kernel)
set_option maxRecDepth 20000 in
theorem gD_102 : GoodIn tT (wsV RX1 102 RX1 yX1_canTake (tC yX1_canTake cX1_canTake 6 (some .boolean))) := gdT (ws := [Cond.methodLink RX1 102 yX1_canTake, Cond.instanceMethod yX1_canTake, Cond.selects RX1 yX1_canTake yX1_canTake, Cond.initialized RX1, Cond.code yX1_canTake cX1_canTake 6 (some .boolean)]) (by decide +kernel)
set_option maxRecDepth 20000 in
theorem gD_106 : GoodIn tT (wsV RX1 106 RX1 yX1_take (tC yX1_take cX1_take 3 none)) := gdT (ws := [Cond.methodLink RX1 106 yX1_take, Cond.instanceMethod yX1_take, Cond.selects RX1 yX1_take yX1_take, Cond.initialized RX1, Cond.code yX1_take cX1_take 3 none]) (by decide +kernel)
set_option maxRecDepth 20000 in
theorem gD_110 : GoodIn tT (wsV RX1 110 RX1 yX1_drop (tC yX1_drop cX1_drop 3 none)) := gdT (ws := [Cond.methodLink RX1 110 yX1_drop, Cond.instanceMethod yX1_drop, Cond.selects RX1 yX1_drop yX1_drop, Cond.initialized RX1, Cond.code yX1_drop cX1_drop 3 none]) (by decide +kernel)
set_option maxRecDepth 20000 in
theorem gM_37 : GoodIn tT (wsS RX2 37 yX2_isPosition (tC yX2_isPosition cX2_isPosition 1 (some .boolean))) := gdT (ws := [Cond.methodLink RX2 37 yX2_isPosition, Cond.static yX2_isPosition, Cond.initialized RX2, Cond.code yX2_isPosition cX2_isPosition 1 (some .boolean)]) (by decide +kernel)
set_option maxRecDepth 20000 in
theorem gM_41 : GoodIn tT (wsS RX2 41 yX2_isValue (tC yX2_isValue cX2_isValue 2 (some .boolean))) := gdT (ws := [Cond.methodLink RX2 41 yX2_isValue, Cond.static yX2_isValue, Cond.initialized RX2, Cond.code yX2_isValue cX2_isValue 2 (some .boolean)]) (by decide +kernel)
set_option maxRecDepth 20000 in
theorem gM_49 : GoodIn tT (wsV RX2 49 RX2 yX2_find (tC yX2_find cX2_find 4 (some .int))) := gdT (ws := [Cond.methodLink RX2 49 yX2_find, Cond.instanceMethod yX2_find, Cond.selects RX2 yX2_find yX2_find, Cond.initialized RX2, Cond.code yX2_find cX2_find 4 (some .int)]) (by decide +kernel)
set_option maxRecDepth 20000 in
theorem gM_53 : GoodIn tT (wsV RX2 53 RX2 yX2_isThere (tC yX2_isThere cX2_isThere 2 (some .boolean))) := gdT (ws := [Cond.methodLink RX2 53 yX2_isThere, Cond.instanceMethod yX2_isThere, Cond.selects RX2 yX2_isThere yX2_isThere, Cond.initialized RX2, Cond.code yX2_isThere cX2_isThere 2 (some .boolean)]) (by decide +kernel)
set_option maxRecDepth 20000 in
theorem gM_60 : GoodIn tT (wsV RX2 60 RX2 yX2_netAt (tC yX2_netAt cX2_netAt 4 (some .long))) := gdT (ws := [Cond.methodLink RX2 60 yX2_netAt, Cond.instanceMethod yX2_netAt, Cond.selects RX2 yX2_netAt yX2_netAt, Cond.initialized RX2, Cond.code yX2_netAt cX2_netAt 4 (some .long)]) (by decide +kernel)
set_option maxRecDepth 20000 in
theorem gM_68 : GoodIn tT (wsV RX2 68 RX2 yX2_meet (tC yX2_meet cX2_meet 5 (some .boolean))) := gdT (ws := [Cond.methodLink RX2 68 yX2_meet, Cond.instanceMethod yX2_meet, Cond.selects RX2 yX2_meet yX2_meet, Cond.initialized RX2, Cond.code yX2_meet cX2_meet 5 (some .boolean)]) (by decide +kernel)
set_option maxRecDepth 20000 in
theorem gM_72 : GoodIn tT (wsV RX2 72 RX2 yX2_total (tC yX2_total cX2_total 5 (some .long))) := gdT (ws := [Cond.methodLink RX2 72 yX2_total, Cond.instanceMethod yX2_total, Cond.selects RX2 yX2_total yX2_total, Cond.initialized RX2, Cond.code yX2_total cX2_total 5 (some .long)]) (by decide +kernel)
set_option maxRecDepth 20000 in
theorem gM_76 : GoodIn tT (wsV RX2 76 RX2 yX2_lastTaker (tC yX2_lastTaker cX2_lastTaker 4 (some .int))) := gdT (ws := [Cond.methodLink RX2 76 yX2_lastTaker, Cond.instanceMethod yX2_lastTaker, Cond.selects RX2 yX2_lastTaker yX2_lastTaker, Cond.initialized RX2, Cond.code yX2_lastTaker cX2_lastTaker 4 (some .int)]) (by decide +kernel)
set_option maxRecDepth 20000 in
theorem gM_80 : GoodIn tT (wsV RX2 80 RX2 yX2_lacks (tC yX2_lacks cX2_lacks 4 (some .boolean))) := gdT (ws := [Cond.methodLink RX2 80 yX2_lacks, Cond.instanceMethod yX2_lacks, Cond.selects RX2 yX2_lacks yX2_lacks, Cond.initialized RX2, Cond.code yX2_lacks cX2_lacks 4 (some .boolean)]) (by decide +kernel)
set_option maxRecDepth 20000 in
theorem gM_83 : GoodIn tT (wsV RX2 83 RX2 yX2_count (tC yX2_count cX2_count 5 (some .int))) := gdT (ws := [Cond.methodLink RX2 83 yX2_count, Cond.instanceMethod yX2_count, Cond.selects RX2 yX2_count yX2_count, Cond.initialized RX2, Cond.code yX2_count cX2_count 5 (some .int)]) (by decide +kernel)
set_option maxRecDepth 20000 in
theorem gM_86 : GoodIn tT (wsV RX2 86 RX2 yX2_solve (tC yX2_solve cX2_solve 3 (some .int))) := gdT (ws := [Cond.methodLink RX2 86 yX2_solve, Cond.instanceMethod yX2_solve, Cond.selects RX2 yX2_solve yX2_solve, Cond.initialized RX2, Cond.code yX2_solve cX2_solve 3 (some .int)]) (by decide +kernel)
set_option maxRecDepth 20000 in
theorem gI_27 : GoodIn tT (wsV RX0 27 RX0 yX0_slotOf (tC yX0_slotOf cX0_slotOf 3 (some .int))) := gdT (ws := [Cond.methodLink RX0 27 yX0_slotOf, Cond.instanceMethod yX0_slotOf, Cond.selects RX0 yX0_slotOf yX0_slotOf, Cond.initialized RX0, Cond.code yX0_slotOf cX0_slotOf 3 (some .int)]) (by decide +kernel)
set_option maxRecDepth 20000 in
theorem gI_35 : GoodIn tT (wsV RX0 35 RX0 yX0_amountFor (tC yX0_amountFor cX0_amountFor 3 (some .long))) := gdT (ws := [Cond.methodLink RX0 35 yX0_amountFor, Cond.instanceMethod yX0_amountFor, Cond.selects RX0 yX0_amountFor yX0_amountFor, Cond.initialized RX0, Cond.code yX0_amountFor cX0_amountFor 3 (some .long)]) (by decide +kernel)
set_option maxRecDepth 20000 in
theorem gI_43 : GoodIn tT (wsV RX0 43 RX0 yX0_addSlot (tC yX0_addSlot cX0_addSlot 4 (some .boolean))) := gdT (ws := [Cond.methodLink RX0 43 yX0_addSlot, Cond.instanceMethod yX0_addSlot, Cond.selects RX0 yX0_addSlot yX0_addSlot, Cond.initialized RX0, Cond.code yX0_addSlot cX0_addSlot 4 (some .boolean)]) (by decide +kernel)
set_option maxRecDepth 20000 in
theorem gI_47 : GoodIn tT (wsV RX0 47 RX0 yX0_freeSlot (tC yX0_freeSlot cX0_freeSlot 2 none)) := gdT (ws := [Cond.methodLink RX0 47 yX0_freeSlot, Cond.instanceMethod yX0_freeSlot, Cond.selects RX0 yX0_freeSlot yX0_freeSlot, Cond.initialized RX0, Cond.code yX0_freeSlot cX0_freeSlot 2 none]) (by decide +kernel)
set_option maxRecDepth 20000 in
theorem gL_9 : GoodIn tT (tC yX1_init cX1_init 1 none) ∧ Cond.initialized RX1 ∈ tT ∧ Cond.methodLink RL 9 yX1_init ∈ tT ∧ Cond.instanceMethod yX1_init ∈ tT := ⟨gdC (by decide +kernel), by decide +kernel, by decide +kernel, by decide +kernel⟩
set_option maxRecDepth 20000 in
theorem gL_12 : GoodIn tT (tC yX2_init cX2_init 1 none) ∧ Cond.initialized RX2 ∈ tT ∧ Cond.methodLink RL 12 yX2_init ∈ tT ∧ Cond.instanceMethod yX2_init ∈ tT := ⟨gdC (by decide +kernel), by decide +kernel, by decide +kernel, by decide +kernel⟩
set_option maxRecDepth 20000 in
theorem gL_15 : GoodIn tT (wsV RL 15 RX1 yX1_place (tC yX1_place cX1_place 6 (some .boolean))) := gdT (ws := [Cond.methodLink RL 15 yX1_place, Cond.instanceMethod yX1_place, Cond.selects RX1 yX1_place yX1_place, Cond.initialized RX1, Cond.code yX1_place cX1_place 6 (some .boolean)]) (by decide +kernel)
set_option maxRecDepth 20000 in
theorem gL_19 : GoodIn tT (wsV RL 19 RX2 yX2_place (tC yX2_place cX2_place 6 (some .boolean))) := gdT (ws := [Cond.methodLink RL 19 yX2_place, Cond.instanceMethod yX2_place, Cond.selects RX2 yX2_place yX2_place, Cond.initialized RX2, Cond.code yX2_place cX2_place 6 (some .boolean)]) (by decide +kernel)
set_option maxRecDepth 20000 in
theorem gL_20 : GoodIn tT (wsV RL 20 RX1 yX1_item (tC yX1_item cX1_item 1 (some .int))) := gdT (ws := [Cond.methodLink RL 20 yX1_item, Cond.instanceMethod yX1_item, Cond.selects RX1 yX1_item yX1_item, Cond.initialized RX1, Cond.code yX1_item cX1_item 1 (some .int)]) (by decide +kernel)
set_option maxRecDepth 20000 in
theorem gL_24 : GoodIn tT (wsV RL 24 RX2 yX2_item (tC yX2_item cX2_item 1 (some .int))) := gdT (ws := [Cond.methodLink RL 24 yX2_item, Cond.instanceMethod yX2_item, Cond.selects RX2 yX2_item yX2_item, Cond.initialized RX2, Cond.code yX2_item cX2_item 1 (some .int)]) (by decide +kernel)
set_option maxRecDepth 20000 in
theorem gL_25 : GoodIn tT (wsV RL 25 RX1 yX1_net (tC yX1_net cX1_net 6 (some .boolean))) := gdT (ws := [Cond.methodLink RL 25 yX1_net, Cond.instanceMethod yX1_net, Cond.selects RX1 yX1_net yX1_net, Cond.initialized RX1, Cond.code yX1_net cX1_net 6 (some .boolean)]) (by decide +kernel)
set_option maxRecDepth 20000 in
theorem gL_29 : GoodIn tT (wsV RL 29 RX2 yX2_net (tC yX2_net cX2_net 9 (some .boolean))) := gdT (ws := [Cond.methodLink RL 29 yX2_net, Cond.instanceMethod yX2_net, Cond.selects RX2 yX2_net yX2_net, Cond.initialized RX2, Cond.code yX2_net cX2_net 9 (some .boolean)]) (by decide +kernel)
set_option maxRecDepth 20000 in
theorem gL_30 : GoodIn tT (wsV RL 30 RX1 yX1_go (tC yX1_go cX1_go 3 (some .boolean))) := gdT (ws := [Cond.methodLink RL 30 yX1_go, Cond.instanceMethod yX1_go, Cond.selects RX1 yX1_go yX1_go, Cond.initialized RX1, Cond.code yX1_go cX1_go 3 (some .boolean)]) (by decide +kernel)
set_option maxRecDepth 20000 in
theorem gL_34 : GoodIn tT (wsV RL 34 RX2 yX2_go (tC yX2_go cX2_go 2 (some .boolean))) := gdT (ws := [Cond.methodLink RL 34 yX2_go, Cond.instanceMethod yX2_go, Cond.selects RX2 yX2_go yX2_go, Cond.initialized RX2, Cond.code yX2_go cX2_go 2 (some .boolean)]) (by decide +kernel)
set_option maxRecDepth 20000 in
theorem gL_35 : GoodIn tT (wsV RL 35 RX1 yX1_solve (tC yX1_solve cX1_solve 1 (some .int))) := gdT (ws := [Cond.methodLink RL 35 yX1_solve, Cond.instanceMethod yX1_solve, Cond.selects RX1 yX1_solve yX1_solve, Cond.initialized RX1, Cond.code yX1_solve cX1_solve 1 (some .int)]) (by decide +kernel)
set_option maxRecDepth 20000 in
theorem gL_38 : GoodIn tT (wsV RL 38 RX2 yX2_solve (tC yX2_solve cX2_solve 3 (some .int))) := gdT (ws := [Cond.methodLink RL 38 yX2_solve, Cond.instanceMethod yX2_solve, Cond.selects RX2 yX2_solve yX2_solve, Cond.initialized RX2, Cond.code yX2_solve cX2_solve 3 (some .int)]) (by decide +kernel)
set_option maxRecDepth 20000 in
theorem gL_39 : GoodIn tT (wsV RL 39 RX1 yX1_in (tC yX1_in cX1_in 3 (some .boolean))) := gdT (ws := [Cond.methodLink RL 39 yX1_in, Cond.instanceMethod yX1_in, Cond.selects RX1 yX1_in yX1_in, Cond.initialized RX1, Cond.code yX1_in cX1_in 3 (some .boolean)]) (by decide +kernel)
set_option maxRecDepth 20000 in
theorem gL_42 : GoodIn tT (wsV RL 42 RX2 yX2_in (tC yX2_in cX2_in 2 (some .boolean))) := gdT (ws := [Cond.methodLink RL 42 yX2_in, Cond.instanceMethod yX2_in, Cond.selects RX2 yX2_in yX2_in, Cond.initialized RX2, Cond.code yX2_in cX2_in 2 (some .boolean)]) (by decide +kernel)
set_option maxRecDepth 20000 in
theorem gL_43 : GoodIn tT (wsV RL 43 RX1 yX1_perform (tC yX1_perform cX1_perform 1 (some .int))) := gdT (ws := [Cond.methodLink RL 43 yX1_perform, Cond.instanceMethod yX1_perform, Cond.selects RX1 yX1_perform yX1_perform, Cond.initialized RX1, Cond.code yX1_perform cX1_perform 1 (some .int)]) (by decide +kernel)
set_option maxRecDepth 20000 in
theorem gL_46 : GoodIn tT (wsV RL 46 RX2 yX2_perform (tC yX2_perform cX2_perform 3 (some .int))) := gdT (ws := [Cond.methodLink RL 46 yX2_perform, Cond.instanceMethod yX2_perform, Cond.selects RX2 yX2_perform yX2_perform, Cond.initialized RX2, Cond.code yX2_perform cX2_perform 3 (some .int)]) (by decide +kernel)
set_option maxRecDepth 20000 in
theorem gL_47 : GoodIn tT (wsV RL 47 RX1 yX1_value (tC yX1_value cX1_value 2 (some .long))) := gdT (ws := [Cond.methodLink RL 47 yX1_value, Cond.instanceMethod yX1_value, Cond.selects RX1 yX1_value yX1_value, Cond.initialized RX1, Cond.code yX1_value cX1_value 2 (some .long)]) (by decide +kernel)
set_option maxRecDepth 20000 in
theorem gL_51 : GoodIn tT (wsV RL 51 RX2 yX2_value (tC yX2_value cX2_value 2 (some .long))) := gdT (ws := [Cond.methodLink RL 51 yX2_value, Cond.instanceMethod yX2_value, Cond.selects RX2 yX2_value yX2_value, Cond.initialized RX2, Cond.code yX2_value cX2_value 2 (some .long)]) (by decide +kernel)
set_option maxRecDepth 20000 in
theorem gL_52 : GoodIn tT (wsV RL 52 RX1 yX1_netOf (tC yX1_netOf cX1_netOf 4 (some .long))) := gdT (ws := [Cond.methodLink RL 52 yX1_netOf, Cond.instanceMethod yX1_netOf, Cond.selects RX1 yX1_netOf yX1_netOf, Cond.initialized RX1, Cond.code yX1_netOf cX1_netOf 4 (some .long)]) (by decide +kernel)
set_option maxRecDepth 20000 in
theorem gL_56 : GoodIn tT (wsV RL 56 RX2 yX2_netOf (tC yX2_netOf cX2_netOf 3 (some .long))) := gdT (ws := [Cond.methodLink RL 56 yX2_netOf, Cond.instanceMethod yX2_netOf, Cond.selects RX2 yX2_netOf yX2_netOf, Cond.initialized RX2, Cond.code yX2_netOf cX2_netOf 3 (some .long)]) (by decide +kernel)
set_option maxRecDepth 20000 in
theorem gL_57 : GoodIn tT (wsV RL 57 RX1 yX1_count (tC yX1_count cX1_count 2 (some .int))) := gdT (ws := [Cond.methodLink RL 57 yX1_count, Cond.instanceMethod yX1_count, Cond.selects RX1 yX1_count yX1_count, Cond.initialized RX1, Cond.code yX1_count cX1_count 2 (some .int)]) (by decide +kernel)
set_option maxRecDepth 20000 in
theorem gL_61 : GoodIn tT (wsV RL 61 RX2 yX2_count (tC yX2_count cX2_count 5 (some .int))) := gdT (ws := [Cond.methodLink RL 61 yX2_count, Cond.instanceMethod yX2_count, Cond.selects RX2 yX2_count yX2_count, Cond.initialized RX2, Cond.code yX2_count cX2_count 5 (some .int)]) (by decide +kernel)
