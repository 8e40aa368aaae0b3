set_option maxRecDepth 20000 in
theorem wl_RL_32 : Cond.methodLink RL 32 yX11_feed ∈ lw_tb := tb_at 443 rfl rfl
set_option maxRecDepth 20000 in
theorem wi_X11_feed : Cond.instanceMethod yX11_feed ∈ lw_tb := tb_at 444 rfl rfl
set_option maxRecDepth 20000 in
theorem wx_X11_feed : Cond.selects yX11_feed.cls yX11_feed yX11_feed ∈ lw_tb := tb_at 445 rfl rfl
set_option maxRecDepth 20000 in
theorem wc_X11_feed : Cond.code yX11_feed cX11_feed 6 (some .int) ∈ lw_tb := tb_at 446 rfl rfl
theorem lv_RL_32 : fw_lv RL 32 yX11_feed cX11_feed 6 (some .int) 5 := fw_lv_mk wl_RL_32 wi_X11_feed wx_X11_feed wn_RX11 wc_X11_feed ⟨by decide +kernel, by decide +kernel, by decide +kernel⟩
set_option maxRecDepth 20000 in
theorem wl_RL_36 : Cond.methodLink RL 36 yX12_feed ∈ lw_tb := tb_at 1339 rfl rfl
set_option maxRecDepth 20000 in
theorem wi_X12_feed : Cond.instanceMethod yX12_feed ∈ lw_tb := tb_at 1340 rfl rfl
set_option maxRecDepth 20000 in
theorem wx_X12_feed : Cond.selects yX12_feed.cls yX12_feed yX12_feed ∈ lw_tb := tb_at 1341 rfl rfl
set_option maxRecDepth 20000 in
theorem wc_X12_feed : Cond.code yX12_feed cX12_feed 6 (some .int) ∈ lw_tb := tb_at 1342 rfl rfl
theorem lv_RL_36 : fw_lv RL 36 yX12_feed cX12_feed 6 (some .int) 5 := fw_lv_mk wl_RL_36 wi_X12_feed wx_X12_feed wn_RX12 wc_X12_feed ⟨by decide +kernel, by decide +kernel, by decide +kernel⟩
set_option maxRecDepth 20000 in
theorem wl_RL_37 : Cond.methodLink RL 37 yX11_end ∈ lw_tb := tb_at 451 rfl rfl
set_option maxRecDepth 20000 in
theorem wi_X11_end : Cond.instanceMethod yX11_end ∈ lw_tb := tb_at 452 rfl rfl
set_option maxRecDepth 20000 in
theorem wx_X11_end : Cond.selects yX11_end.cls yX11_end yX11_end ∈ lw_tb := tb_at 453 rfl rfl
set_option maxRecDepth 20000 in
theorem wc_X11_end : Cond.code yX11_end cX11_end 2 (some .boolean) ∈ lw_tb := tb_at 454 rfl rfl
theorem lv_RL_37 : fw_lv RL 37 yX11_end cX11_end 2 (some .boolean) 1 := fw_lv_mk wl_RL_37 wi_X11_end wx_X11_end wn_RX11 wc_X11_end ⟨by decide +kernel, by decide +kernel, by decide +kernel⟩
set_option maxRecDepth 20000 in
theorem wl_RL_41 : Cond.methodLink RL 41 yX12_end ∈ lw_tb := tb_at 1347 rfl rfl
set_option maxRecDepth 20000 in
theorem wi_X12_end : Cond.instanceMethod yX12_end ∈ lw_tb := tb_at 1348 rfl rfl
set_option maxRecDepth 20000 in
theorem wx_X12_end : Cond.selects yX12_end.cls yX12_end yX12_end ∈ lw_tb := tb_at 1349 rfl rfl
set_option maxRecDepth 20000 in
theorem wc_X12_end : Cond.code yX12_end cX12_end 2 (some .boolean) ∈ lw_tb := tb_at 1350 rfl rfl
theorem lv_RL_41 : fw_lv RL 41 yX12_end cX12_end 2 (some .boolean) 1 := fw_lv_mk wl_RL_41 wi_X12_end wx_X12_end wn_RX12 wc_X12_end ⟨by decide +kernel, by decide +kernel, by decide +kernel⟩
set_option maxRecDepth 20000 in
theorem wl_RL_42 : Cond.methodLink RL 42 yX11_river ∈ lw_tb := tb_at 455 rfl rfl
set_option maxRecDepth 20000 in
theorem wi_X11_river : Cond.instanceMethod yX11_river ∈ lw_tb := tb_at 456 rfl rfl
set_option maxRecDepth 20000 in
theorem wx_X11_river : Cond.selects yX11_river.cls yX11_river yX11_river ∈ lw_tb := tb_at 457 rfl rfl
set_option maxRecDepth 20000 in
theorem wc_X11_river : Cond.code yX11_river cX11_river 2 (some .int) ∈ lw_tb := tb_at 458 rfl rfl
theorem lv_RL_42 : fw_lv RL 42 yX11_river cX11_river 2 (some .int) 0 := fw_lv_mk wl_RL_42 wi_X11_river wx_X11_river wn_RX11 wc_X11_river ⟨by decide +kernel, by decide +kernel, by decide +kernel⟩
set_option maxRecDepth 20000 in
theorem wl_RL_46 : Cond.methodLink RL 46 yX12_river ∈ lw_tb := tb_at 1351 rfl rfl
set_option maxRecDepth 20000 in
theorem wi_X12_river : Cond.instanceMethod yX12_river ∈ lw_tb := tb_at 1352 rfl rfl
set_option maxRecDepth 20000 in
theorem wx_X12_river : Cond.selects yX12_river.cls yX12_river yX12_river ∈ lw_tb := tb_at 1353 rfl rfl
set_option maxRecDepth 20000 in
theorem wc_X12_river : Cond.code yX12_river cX12_river 3 (some .int) ∈ lw_tb := tb_at 1354 rfl rfl
theorem lv_RL_46 : fw_lv RL 46 yX12_river cX12_river 3 (some .int) 0 := fw_lv_mk wl_RL_46 wi_X12_river wx_X12_river wn_RX12 wc_X12_river ⟨by decide +kernel, by decide +kernel, by decide +kernel⟩
set_option maxRecDepth 20000 in
theorem wl_RL_47 : Cond.methodLink RL 47 yX11_fault ∈ lw_tb := tb_at 649 rfl rfl
set_option maxRecDepth 20000 in
theorem wi_X11_fault : Cond.instanceMethod yX11_fault ∈ lw_tb := tb_at 650 rfl rfl
set_option maxRecDepth 20000 in
theorem wx_X11_fault : Cond.selects yX11_fault.cls yX11_fault yX11_fault ∈ lw_tb := tb_at 651 rfl rfl
set_option maxRecDepth 20000 in
theorem wc_X11_fault : Cond.code yX11_fault cX11_fault 1 (some .int) ∈ lw_tb := tb_at 652 rfl rfl
theorem lv_RL_47 : fw_lv RL 47 yX11_fault cX11_fault 1 (some .int) 0 := fw_lv_mk wl_RL_47 wi_X11_fault wx_X11_fault wn_RX11 wc_X11_fault ⟨by decide +kernel, by decide +kernel, by decide +kernel⟩
set_option maxRecDepth 20000 in
theorem wl_RL_50 : Cond.methodLink RL 50 yX12_fault ∈ lw_tb := tb_at 1477 rfl rfl
set_option maxRecDepth 20000 in
theorem wi_X12_fault : Cond.instanceMethod yX12_fault ∈ lw_tb := tb_at 1478 rfl rfl
set_option maxRecDepth 20000 in
theorem wx_X12_fault : Cond.selects yX12_fault.cls yX12_fault yX12_fault ∈ lw_tb := tb_at 1479 rfl rfl
set_option maxRecDepth 20000 in
theorem wc_X12_fault : Cond.code yX12_fault cX12_fault 1 (some .int) ∈ lw_tb := tb_at 1480 rfl rfl
theorem lv_RL_50 : fw_lv RL 50 yX12_fault cX12_fault 1 (some .int) 0 := fw_lv_mk wl_RL_50 wi_X12_fault wx_X12_fault wn_RX12 wc_X12_fault ⟨by decide +kernel, by decide +kernel, by decide +kernel⟩
set_option maxRecDepth 20000 in
theorem wl_RL_56 : Cond.methodLink RL 56 yX12_reach ∈ lw_tb := tb_at 1481 rfl rfl
set_option maxRecDepth 20000 in
theorem wi_X12_reach : Cond.instanceMethod yX12_reach ∈ lw_tb := tb_at 1482 rfl rfl
set_option maxRecDepth 20000 in
theorem wx_X12_reach : Cond.selects yX12_reach.cls yX12_reach yX12_reach ∈ lw_tb := tb_at 1483 rfl rfl
set_option maxRecDepth 20000 in
theorem wc_X12_reach : Cond.code yX12_reach cX12_reach 3 (some .int) ∈ lw_tb := tb_at 1484 rfl rfl
theorem lv_RL_56 : fw_lv RL 56 yX12_reach cX12_reach 3 (some .int) 2 := fw_lv_mk wl_RL_56 wi_X12_reach wx_X12_reach wn_RX12 wc_X12_reach ⟨by decide +kernel, by decide +kernel, by decide +kernel⟩
set_option maxRecDepth 20000 in
theorem wl_RL_57 : Cond.methodLink RL 57 yX12_thrown ∈ lw_tb := tb_at 1335 rfl rfl
set_option maxRecDepth 20000 in
theorem wi_X12_thrown : Cond.instanceMethod yX12_thrown ∈ lw_tb := tb_at 1336 rfl rfl
set_option maxRecDepth 20000 in
theorem wx_X12_thrown : Cond.selects yX12_thrown.cls yX12_thrown yX12_thrown ∈ lw_tb := tb_at 1337 rfl rfl
set_option maxRecDepth 20000 in
theorem wc_X12_thrown : Cond.code yX12_thrown cX12_thrown 1 (some .int) ∈ lw_tb := tb_at 1338 rfl rfl
theorem lv_RL_57 : fw_lv RL 57 yX12_thrown cX12_thrown 1 (some .int) 0 := fw_lv_mk wl_RL_57 wi_X12_thrown wx_X12_thrown wn_RX12 wc_X12_thrown ⟨by decide +kernel, by decide +kernel, by decide +kernel⟩
set_option maxRecDepth 20000 in
theorem wl_RL_62 : Cond.methodLink RL 62 yX12_guild ∈ lw_tb := tb_at 1497 rfl rfl
set_option maxRecDepth 20000 in
theorem wi_X12_guild : Cond.instanceMethod yX12_guild ∈ lw_tb := tb_at 1498 rfl rfl
set_option maxRecDepth 20000 in
theorem wx_X12_guild : Cond.selects yX12_guild.cls yX12_guild yX12_guild ∈ lw_tb := tb_at 1499 rfl rfl
set_option maxRecDepth 20000 in
theorem wc_X12_guild : Cond.code yX12_guild cX12_guild 3 (some .int) ∈ lw_tb := tb_at 1500 rfl rfl
theorem lv_RL_62 : fw_lv RL 62 yX12_guild cX12_guild 3 (some .int) 2 := fw_lv_mk wl_RL_62 wi_X12_guild wx_X12_guild wn_RX12 wc_X12_guild ⟨by decide +kernel, by decide +kernel, by decide +kernel⟩
set_option maxRecDepth 20000 in
theorem wl_RL_65 : Cond.methodLink RL 65 yX12_user ∈ lw_tb := tb_at 1513 rfl rfl
set_option maxRecDepth 20000 in
theorem wi_X12_user : Cond.instanceMethod yX12_user ∈ lw_tb := tb_at 1514 rfl rfl
set_option maxRecDepth 20000 in
theorem wx_X12_user : Cond.selects yX12_user.cls yX12_user yX12_user ∈ lw_tb := tb_at 1515 rfl rfl
set_option maxRecDepth 20000 in
theorem wc_X12_user : Cond.code yX12_user cX12_user 3 (some .int) ∈ lw_tb := tb_at 1516 rfl rfl
theorem lv_RL_65 : fw_lv RL 65 yX12_user cX12_user 3 (some .int) 2 := fw_lv_mk wl_RL_65 wi_X12_user wx_X12_user wn_RX12 wc_X12_user ⟨by decide +kernel, by decide +kernel, by decide +kernel⟩
set_option maxRecDepth 20000 in
theorem wl_RL_69 : Cond.methodLink RL 69 yX12_flow ∈ lw_tb := tb_at 1525 rfl rfl
set_option maxRecDepth 20000 in
theorem wi_X12_flow : Cond.instanceMethod yX12_flow ∈ lw_tb := tb_at 1526 rfl rfl
set_option maxRecDepth 20000 in
theorem wx_X12_flow : Cond.selects yX12_flow.cls yX12_flow yX12_flow ∈ lw_tb := tb_at 1527 rfl rfl
set_option maxRecDepth 20000 in
theorem wc_X12_flow : Cond.code yX12_flow cX12_flow 2 (some .int) ∈ lw_tb := tb_at 1528 rfl rfl
theorem lv_RL_69 : fw_lv RL 69 yX12_flow cX12_flow 2 (some .int) 1 := fw_lv_mk wl_RL_69 wi_X12_flow wx_X12_flow wn_RX12 wc_X12_flow ⟨by decide +kernel, by decide +kernel, by decide +kernel⟩
set_option maxRecDepth 20000 in
theorem wl_RL_70 : Cond.methodLink RL 70 yX11_order ∈ lw_tb := tb_at 653 rfl rfl
set_option maxRecDepth 20000 in
theorem wi_X11_order : Cond.instanceMethod yX11_order ∈ lw_tb := tb_at 654 rfl rfl
set_option maxRecDepth 20000 in
theorem wx_X11_order : Cond.selects yX11_order.cls yX11_order yX11_order ∈ lw_tb := tb_at 655 rfl rfl
set_option maxRecDepth 20000 in
theorem wc_X11_order : Cond.code yX11_order cX11_order 1 (some .int) ∈ lw_tb := tb_at 656 rfl rfl
theorem lv_RL_70 : fw_lv RL 70 yX11_order cX11_order 1 (some .int) 0 := fw_lv_mk wl_RL_70 wi_X11_order wx_X11_order wn_RX11 wc_X11_order ⟨by decide +kernel, by decide +kernel, by decide +kernel⟩
set_option maxRecDepth 20000 in
theorem wl_RL_73 : Cond.methodLink RL 73 yX12_order ∈ lw_tb := tb_at 1529 rfl rfl
set_option maxRecDepth 20000 in
theorem wi_X12_order : Cond.instanceMethod yX12_order ∈ lw_tb := tb_at 1530 rfl rfl
set_option maxRecDepth 20000 in
theorem wx_X12_order : Cond.selects yX12_order.cls yX12_order yX12_order ∈ lw_tb := tb_at 1531 rfl rfl
set_option maxRecDepth 20000 in
theorem wc_X12_order : Cond.code yX12_order cX12_order 2 (some .int) ∈ lw_tb := tb_at 1532 rfl rfl
theorem lv_RL_73 : fw_lv RL 73 yX12_order cX12_order 2 (some .int) 0 := fw_lv_mk wl_RL_73 wi_X12_order wx_X12_order wn_RX12 wc_X12_order ⟨by decide +kernel, by decide +kernel, by decide +kernel⟩
set_option maxRecDepth 20000 in
theorem wl_RL_74 : Cond.methodLink RL 74 yX11_ring ∈ lw_tb := tb_at 681 rfl rfl
set_option maxRecDepth 20000 in
theorem wi_X11_ring : Cond.instanceMethod yX11_ring ∈ lw_tb := tb_at 682 rfl rfl
set_option maxRecDepth 20000 in
theorem wx_X11_ring : Cond.selects yX11_ring.cls yX11_ring yX11_ring ∈ lw_tb := tb_at 683 rfl rfl
set_option maxRecDepth 20000 in
theorem wc_X11_ring : Cond.code yX11_ring cX11_ring 5 (some .int) ∈ lw_tb := tb_at 684 rfl rfl
theorem lv_RL_74 : fw_lv RL 74 yX11_ring cX11_ring 5 (some .int) 3 := fw_lv_mk wl_RL_74 wi_X11_ring wx_X11_ring wn_RX11 wc_X11_ring ⟨by decide +kernel, by decide +kernel, by decide +kernel⟩
set_option maxRecDepth 20000 in
theorem wl_RL_78 : Cond.methodLink RL 78 yX12_ring ∈ lw_tb := tb_at 1537 rfl rfl
set_option maxRecDepth 20000 in
theorem wi_X12_ring : Cond.instanceMethod yX12_ring ∈ lw_tb := tb_at 1538 rfl rfl
set_option maxRecDepth 20000 in
theorem wx_X12_ring : Cond.selects yX12_ring.cls yX12_ring yX12_ring ∈ lw_tb := tb_at 1539 rfl rfl
set_option maxRecDepth 20000 in
theorem wc_X12_ring : Cond.code yX12_ring cX12_ring 4 (some .int) ∈ lw_tb := tb_at 1540 rfl rfl
theorem lv_RL_78 : fw_lv RL 78 yX12_ring cX12_ring 4 (some .int) 3 := fw_lv_mk wl_RL_78 wi_X12_ring wx_X12_ring wn_RX12 wc_X12_ring ⟨by decide +kernel, by decide +kernel, by decide +kernel⟩
set_option maxRecDepth 20000 in
theorem wl_RL_79 : Cond.methodLink RL 79 yX11_undo ∈ lw_tb := tb_at 694 rfl rfl
set_option maxRecDepth 20000 in
theorem wi_X11_undo : Cond.instanceMethod yX11_undo ∈ lw_tb := tb_at 695 rfl rfl
set_option maxRecDepth 20000 in
theorem wx_X11_undo : Cond.selects yX11_undo.cls yX11_undo yX11_undo ∈ lw_tb := tb_at 696 rfl rfl
set_option maxRecDepth 20000 in
theorem wc_X11_undo : Cond.code yX11_undo cX11_undo 1 (some .int) ∈ lw_tb := tb_at 697 rfl rfl
theorem lv_RL_79 : fw_lv RL 79 yX11_undo cX11_undo 1 (some .int) 0 := fw_lv_mk wl_RL_79 wi_X11_undo wx_X11_undo wn_RX11 wc_X11_undo ⟨by decide +kernel, by decide +kernel, by decide +kernel⟩
set_option maxRecDepth 20000 in
theorem wl_RL_82 : Cond.methodLink RL 82 yX12_undo ∈ lw_tb := tb_at 1549 rfl rfl
set_option maxRecDepth 20000 in
theorem wi_X12_undo : Cond.instanceMethod yX12_undo ∈ lw_tb := tb_at 1550 rfl rfl
set_option maxRecDepth 20000 in
theorem wx_X12_undo : Cond.selects yX12_undo.cls yX12_undo yX12_undo ∈ lw_tb := tb_at 1551 rfl rfl
set_option maxRecDepth 20000 in
theorem wc_X12_undo : Cond.code yX12_undo cX12_undo 1 (some .int) ∈ lw_tb := tb_at 1552 rfl rfl
theorem lv_RL_82 : fw_lv RL 82 yX12_undo cX12_undo 1 (some .int) 0 := fw_lv_mk wl_RL_82 wi_X12_undo wx_X12_undo wn_RX12 wc_X12_undo ⟨by decide +kernel, by decide +kernel, by decide +kernel⟩
set_option maxRecDepth 20000 in
theorem wl_RL_85 : Cond.methodLink RL 85 yX12_bell ∈ lw_tb := tb_at 1553 rfl rfl
set_option maxRecDepth 20000 in
theorem wi_X12_bell : Cond.instanceMethod yX12_bell ∈ lw_tb := tb_at 1554 rfl rfl
set_option maxRecDepth 20000 in
theorem wx_X12_bell : Cond.selects yX12_bell.cls yX12_bell yX12_bell ∈ lw_tb := tb_at 1555 rfl rfl
set_option maxRecDepth 20000 in
theorem wc_X12_bell : Cond.code yX12_bell cX12_bell 3 (some .int) ∈ lw_tb := tb_at 1556 rfl rfl
theorem lv_RL_85 : fw_lv RL 85 yX12_bell cX12_bell 3 (some .int) 2 := fw_lv_mk wl_RL_85 wi_X12_bell wx_X12_bell wn_RX12 wc_X12_bell ⟨by decide +kernel, by decide +kernel, by decide +kernel⟩
set_option maxRecDepth 20000 in
theorem wl_RL_86 : Cond.methodLink RL 86 yX11_at ∈ lw_tb := tb_at 698 rfl rfl
set_option maxRecDepth 20000 in
theorem wi_X11_at : Cond.instanceMethod yX11_at ∈ lw_tb := tb_at 699 rfl rfl
set_option maxRecDepth 20000 in
theorem wx_X11_at : Cond.selects yX11_at.cls yX11_at yX11_at ∈ lw_tb := tb_at 700 rfl rfl
set_option maxRecDepth 20000 in
theorem wc_X11_at : Cond.code yX11_at cX11_at 7 (some .int) ∈ lw_tb := tb_at 701 rfl rfl
theorem lv_RL_86 : fw_lv RL 86 yX11_at cX11_at 7 (some .int) 4 := fw_lv_mk wl_RL_86 wi_X11_at wx_X11_at wn_RX11 wc_X11_at ⟨by decide +kernel, by decide +kernel, by decide +kernel⟩
set_option maxRecDepth 20000 in
theorem wl_RL_90 : Cond.methodLink RL 90 yX12_at ∈ lw_tb := tb_at 1557 rfl rfl
set_option maxRecDepth 20000 in
theorem wi_X12_at : Cond.instanceMethod yX12_at ∈ lw_tb := tb_at 1558 rfl rfl
set_option maxRecDepth 20000 in
theorem wx_X12_at : Cond.selects yX12_at.cls yX12_at yX12_at ∈ lw_tb := tb_at 1559 rfl rfl
set_option maxRecDepth 20000 in
theorem wc_X12_at : Cond.code yX12_at cX12_at 6 (some .int) ∈ lw_tb := tb_at 1560 rfl rfl
theorem lv_RL_90 : fw_lv RL 90 yX12_at cX12_at 6 (some .int) 4 := fw_lv_mk wl_RL_90 wi_X12_at wx_X12_at wn_RX12 wc_X12_at ⟨by decide +kernel, by decide +kernel, by decide +kernel⟩
set_option maxRecDepth 20000 in
theorem wl_RL_91 : Cond.methodLink RL 91 yX11_passed ∈ lw_tb := tb_at 793 rfl rfl
set_option maxRecDepth 20000 in
theorem wi_X11_passed : Cond.instanceMethod yX11_passed ∈ lw_tb := tb_at 794 rfl rfl
set_option maxRecDepth 20000 in
theorem wx_X11_passed : Cond.selects yX11_passed.cls yX11_passed yX11_passed ∈ lw_tb := tb_at 795 rfl rfl
set_option maxRecDepth 20000 in
theorem wc_X11_passed : Cond.code yX11_passed cX11_passed 3 (some .int) ∈ lw_tb := tb_at 796 rfl rfl
theorem lv_RL_91 : fw_lv RL 91 yX11_passed cX11_passed 3 (some .int) 2 := fw_lv_mk wl_RL_91 wi_X11_passed wx_X11_passed wn_RX11 wc_X11_passed ⟨by decide +kernel, by decide +kernel, by decide +kernel⟩
set_option maxRecDepth 20000 in
theorem wl_RL_94 : Cond.methodLink RL 94 yX12_passed ∈ lw_tb := tb_at 1594 rfl rfl
set_option maxRecDepth 20000 in
theorem wi_X12_passed : Cond.instanceMethod yX12_passed ∈ lw_tb := tb_at 1595 rfl rfl
set_option maxRecDepth 20000 in
theorem wx_X12_passed : Cond.selects yX12_passed.cls yX12_passed yX12_passed ∈ lw_tb := tb_at 1596 rfl rfl
set_option maxRecDepth 20000 in
theorem wc_X12_passed : Cond.code yX12_passed cX12_passed 3 (some .int) ∈ lw_tb := tb_at 1597 rfl rfl
theorem lv_RL_94 : fw_lv RL 94 yX12_passed cX12_passed 3 (some .int) 2 := fw_lv_mk wl_RL_94 wi_X12_passed wx_X12_passed wn_RX12 wc_X12_passed ⟨by decide +kernel, by decide +kernel, by decide +kernel⟩
set_option maxRecDepth 20000 in
theorem wl_RL_95 : Cond.methodLink RL 95 yX11_sum ∈ lw_tb := tb_at 797 rfl rfl
set_option maxRecDepth 20000 in
theorem wi_X11_sum : Cond.instanceMethod yX11_sum ∈ lw_tb := tb_at 798 rfl rfl
set_option maxRecDepth 20000 in
theorem wx_X11_sum : Cond.selects yX11_sum.cls yX11_sum yX11_sum ∈ lw_tb := tb_at 799 rfl rfl
set_option maxRecDepth 20000 in
theorem wc_X11_sum : Cond.code yX11_sum cX11_sum 4 (some .int) ∈ lw_tb := tb_at 800 rfl rfl
theorem lv_RL_95 : fw_lv RL 95 yX11_sum cX11_sum 4 (some .int) 2 := fw_lv_mk wl_RL_95 wi_X11_sum wx_X11_sum wn_RX11 wc_X11_sum ⟨by decide +kernel, by decide +kernel, by decide +kernel⟩
set_option maxRecDepth 20000 in
theorem wl_RL_98 : Cond.methodLink RL 98 yX12_sum ∈ lw_tb := tb_at 1598 rfl rfl
set_option maxRecDepth 20000 in
theorem wi_X12_sum : Cond.instanceMethod yX12_sum ∈ lw_tb := tb_at 1599 rfl rfl
set_option maxRecDepth 20000 in
theorem wx_X12_sum : Cond.selects yX12_sum.cls yX12_sum yX12_sum ∈ lw_tb := tb_at 1600 rfl rfl
set_option maxRecDepth 20000 in
theorem wc_X12_sum : Cond.code yX12_sum cX12_sum 5 (some .int) ∈ lw_tb := tb_at 1601 rfl rfl
theorem lv_RL_98 : fw_lv RL 98 yX12_sum cX12_sum 5 (some .int) 2 := fw_lv_mk wl_RL_98 wi_X12_sum wx_X12_sum wn_RX12 wc_X12_sum ⟨by decide +kernel, by decide +kernel, by decide +kernel⟩
set_option maxRecDepth 20000 in
theorem wl_RL_99 : Cond.methodLink RL 99 yX11_fine ∈ lw_tb := tb_at 813 rfl rfl
set_option maxRecDepth 20000 in
theorem wi_X11_fine : Cond.instanceMethod yX11_fine ∈ lw_tb := tb_at 814 rfl rfl
set_option maxRecDepth 20000 in
theorem wx_X11_fine : Cond.selects yX11_fine.cls yX11_fine yX11_fine ∈ lw_tb := tb_at 815 rfl rfl
set_option maxRecDepth 20000 in
theorem wc_X11_fine : Cond.code yX11_fine cX11_fine 6 (some .int) ∈ lw_tb := tb_at 816 rfl rfl
theorem lv_RL_99 : fw_lv RL 99 yX11_fine cX11_fine 6 (some .int) 2 := fw_lv_mk wl_RL_99 wi_X11_fine wx_X11_fine wn_RX11 wc_X11_fine ⟨by decide +kernel, by decide +kernel, by decide +kernel⟩
set_option maxRecDepth 20000 in
theorem wl_RL_102 : Cond.methodLink RL 102 yX12_fine ∈ lw_tb := tb_at 1602 rfl rfl
set_option maxRecDepth 20000 in
theorem wi_X12_fine : Cond.instanceMethod yX12_fine ∈ lw_tb := tb_at 1603 rfl rfl
set_option maxRecDepth 20000 in
theorem wx_X12_fine : Cond.selects yX12_fine.cls yX12_fine yX12_fine ∈ lw_tb := tb_at 1604 rfl rfl
set_option maxRecDepth 20000 in
theorem wc_X12_fine : Cond.code yX12_fine cX12_fine 10 (some .int) ∈ lw_tb := tb_at 1605 rfl rfl
theorem lv_RL_102 : fw_lv RL 102 yX12_fine cX12_fine 10 (some .int) 2 := fw_lv_mk wl_RL_102 wi_X12_fine wx_X12_fine wn_RX12 wc_X12_fine ⟨by decide +kernel, by decide +kernel, by decide +kernel⟩
set_option maxRecDepth 20000 in
theorem wl_RL_103 : Cond.methodLink RL 103 yX11_harmed ∈ lw_tb := tb_at 826 rfl rfl
set_option maxRecDepth 20000 in
theorem wi_X11_harmed : Cond.instanceMethod yX11_harmed ∈ lw_tb := tb_at 827 rfl rfl
set_option maxRecDepth 20000 in
theorem wx_X11_harmed : Cond.selects yX11_harmed.cls yX11_harmed yX11_harmed ∈ lw_tb := tb_at 828 rfl rfl
set_option maxRecDepth 20000 in
theorem wc_X11_harmed : Cond.code yX11_harmed cX11_harmed 6 (some .int) ∈ lw_tb := tb_at 829 rfl rfl
theorem lv_RL_103 : fw_lv RL 103 yX11_harmed cX11_harmed 6 (some .int) 2 := fw_lv_mk wl_RL_103 wi_X11_harmed wx_X11_harmed wn_RX11 wc_X11_harmed ⟨by decide +kernel, by decide +kernel, by decide +kernel⟩
set_option maxRecDepth 20000 in
theorem wl_RL_106 : Cond.methodLink RL 106 yX12_harmed ∈ lw_tb := tb_at 1606 rfl rfl
set_option maxRecDepth 20000 in
theorem wi_X12_harmed : Cond.instanceMethod yX12_harmed ∈ lw_tb := tb_at 1607 rfl rfl
set_option maxRecDepth 20000 in
theorem wx_X12_harmed : Cond.selects yX12_harmed.cls yX12_harmed yX12_harmed ∈ lw_tb := tb_at 1608 rfl rfl
set_option maxRecDepth 20000 in
theorem wc_X12_harmed : Cond.code yX12_harmed cX12_harmed 5 (some .int) ∈ lw_tb := tb_at 1609 rfl rfl
theorem lv_RL_106 : fw_lv RL 106 yX12_harmed cX12_harmed 5 (some .int) 2 := fw_lv_mk wl_RL_106 wi_X12_harmed wx_X12_harmed wn_RX12 wc_X12_harmed ⟨by decide +kernel, by decide +kernel, by decide +kernel⟩
set_option maxRecDepth 20000 in
theorem wl_RL_107 : Cond.methodLink RL 107 yX11_harm ∈ lw_tb := tb_at 838 rfl rfl
set_option maxRecDepth 20000 in
theorem wi_X11_harm : Cond.instanceMethod yX11_harm ∈ lw_tb := tb_at 839 rfl rfl
set_option maxRecDepth 20000 in
theorem wx_X11_harm : Cond.selects yX11_harm.cls yX11_harm yX11_harm ∈ lw_tb := tb_at 840 rfl rfl
set_option maxRecDepth 20000 in
theorem wc_X11_harm : Cond.code yX11_harm cX11_harm 1 (some .int) ∈ lw_tb := tb_at 841 rfl rfl
theorem lv_RL_107 : fw_lv RL 107 yX11_harm cX11_harm 1 (some .int) 0 := fw_lv_mk wl_RL_107 wi_X11_harm wx_X11_harm wn_RX11 wc_X11_harm ⟨by decide +kernel, by decide +kernel, by decide +kernel⟩
set_option maxRecDepth 20000 in
theorem wl_RL_110 : Cond.methodLink RL 110 yX12_harm ∈ lw_tb := tb_at 1614 rfl rfl
set_option maxRecDepth 20000 in
theorem wi_X12_harm : Cond.instanceMethod yX12_harm ∈ lw_tb := tb_at 1615 rfl rfl
set_option maxRecDepth 20000 in
theorem wx_X12_harm : Cond.selects yX12_harm.cls yX12_harm yX12_harm ∈ lw_tb := tb_at 1616 rfl rfl
set_option maxRecDepth 20000 in
theorem wc_X12_harm : Cond.code yX12_harm cX12_harm 1 (some .int) ∈ lw_tb := tb_at 1617 rfl rfl
theorem lv_RL_110 : fw_lv RL 110 yX12_harm cX12_harm 1 (some .int) 0 := fw_lv_mk wl_RL_110 wi_X12_harm wx_X12_harm wn_RX12 wc_X12_harm ⟨by decide +kernel, by decide +kernel, by decide +kernel⟩
set_option maxRecDepth 20000 in
theorem wl_RL_111 : Cond.methodLink RL 111 yX11_blame ∈ lw_tb := tb_at 842 rfl rfl
set_option maxRecDepth 20000 in
theorem wi_X11_blame : Cond.instanceMethod yX11_blame ∈ lw_tb := tb_at 843 rfl rfl
set_option maxRecDepth 20000 in
theorem wx_X11_blame : Cond.selects yX11_blame.cls yX11_blame yX11_blame ∈ lw_tb := tb_at 844 rfl rfl
set_option maxRecDepth 20000 in
theorem wc_X11_blame : Cond.code yX11_blame cX11_blame 6 (some .int) ∈ lw_tb := tb_at 845 rfl rfl
theorem lv_RL_111 : fw_lv RL 111 yX11_blame cX11_blame 6 (some .int) 2 := fw_lv_mk wl_RL_111 wi_X11_blame wx_X11_blame wn_RX11 wc_X11_blame ⟨by decide +kernel, by decide +kernel, by decide +kernel⟩
set_option maxRecDepth 20000 in
theorem wl_RL_114 : Cond.methodLink RL 114 yX12_blame ∈ lw_tb := tb_at 1626 rfl rfl
set_option maxRecDepth 20000 in
theorem wi_X12_blame : Cond.instanceMethod yX12_blame ∈ lw_tb := tb_at 1627 rfl rfl
set_option maxRecDepth 20000 in
theorem wx_X12_blame : Cond.selects yX12_blame.cls yX12_blame yX12_blame ∈ lw_tb := tb_at 1628 rfl rfl
set_option maxRecDepth 20000 in
theorem wc_X12_blame : Cond.code yX12_blame cX12_blame 5 (some .int) ∈ lw_tb := tb_at 1629 rfl rfl
theorem lv_RL_114 : fw_lv RL 114 yX12_blame cX12_blame 5 (some .int) 2 := fw_lv_mk wl_RL_114 wi_X12_blame wx_X12_blame wn_RX12 wc_X12_blame ⟨by decide +kernel, by decide +kernel, by decide +kernel⟩
set_option maxRecDepth 20000 in
theorem wl_RL_115 : Cond.methodLink RL 115 yX11_duty ∈ lw_tb := tb_at 847 rfl rfl
set_option maxRecDepth 20000 in
theorem wi_X11_duty : Cond.instanceMethod yX11_duty ∈ lw_tb := tb_at 848 rfl rfl
set_option maxRecDepth 20000 in
theorem wx_X11_duty : Cond.selects yX11_duty.cls yX11_duty yX11_duty ∈ lw_tb := tb_at 849 rfl rfl
set_option maxRecDepth 20000 in
theorem wc_X11_duty : Cond.code yX11_duty cX11_duty 5 (some .int) ∈ lw_tb := tb_at 850 rfl rfl
theorem lv_RL_115 : fw_lv RL 115 yX11_duty cX11_duty 5 (some .int) 1 := fw_lv_mk wl_RL_115 wi_X11_duty wx_X11_duty wn_RX11 wc_X11_duty ⟨by decide +kernel, by decide +kernel, by decide +kernel⟩
set_option maxRecDepth 20000 in
theorem wl_RL_118 : Cond.methodLink RL 118 yX12_duty ∈ lw_tb := tb_at 1630 rfl rfl
set_option maxRecDepth 20000 in
theorem wi_X12_duty : Cond.instanceMethod yX12_duty ∈ lw_tb := tb_at 1631 rfl rfl
set_option maxRecDepth 20000 in
theorem wx_X12_duty : Cond.selects yX12_duty.cls yX12_duty yX12_duty ∈ lw_tb := tb_at 1632 rfl rfl
set_option maxRecDepth 20000 in
theorem wc_X12_duty : Cond.code yX12_duty cX12_duty 4 (some .int) ∈ lw_tb := tb_at 1633 rfl rfl
theorem lv_RL_118 : fw_lv RL 118 yX12_duty cX12_duty 4 (some .int) 1 := fw_lv_mk wl_RL_118 wi_X12_duty wx_X12_duty wn_RX12 wc_X12_duty ⟨by decide +kernel, by decide +kernel, by decide +kernel⟩
set_option maxRecDepth 20000 in
theorem wl_RL_119 : Cond.methodLink RL 119 yX11_pulse ∈ lw_tb := tb_at 852 rfl rfl
set_option maxRecDepth 20000 in
theorem wi_X11_pulse : Cond.instanceMethod yX11_pulse ∈ lw_tb := tb_at 853 rfl rfl
set_option maxRecDepth 20000 in
theorem wx_X11_pulse : Cond.selects yX11_pulse.cls yX11_pulse yX11_pulse ∈ lw_tb := tb_at 854 rfl rfl
set_option maxRecDepth 20000 in
theorem wc_X11_pulse : Cond.code yX11_pulse cX11_pulse 11 (some .int) ∈ lw_tb := tb_at 855 rfl rfl
theorem lv_RL_119 : fw_lv RL 119 yX11_pulse cX11_pulse 11 (some .int) 4 := fw_lv_mk wl_RL_119 wi_X11_pulse wx_X11_pulse wn_RX11 wc_X11_pulse ⟨by decide +kernel, by decide +kernel, by decide +kernel⟩
set_option maxRecDepth 20000 in
theorem wl_RL_122 : Cond.methodLink RL 122 yX12_pulse ∈ lw_tb := tb_at 1634 rfl rfl
set_option maxRecDepth 20000 in
theorem wi_X12_pulse : Cond.instanceMethod yX12_pulse ∈ lw_tb := tb_at 1635 rfl rfl
set_option maxRecDepth 20000 in
theorem wx_X12_pulse : Cond.selects yX12_pulse.cls yX12_pulse yX12_pulse ∈ lw_tb := tb_at 1636 rfl rfl
set_option maxRecDepth 20000 in
theorem wc_X12_pulse : Cond.code yX12_pulse cX12_pulse 10 (some .int) ∈ lw_tb := tb_at 1637 rfl rfl
theorem lv_RL_122 : fw_lv RL 122 yX12_pulse cX12_pulse 10 (some .int) 4 := fw_lv_mk wl_RL_122 wi_X12_pulse wx_X12_pulse wn_RX12 wc_X12_pulse ⟨by decide +kernel, by decide +kernel, by decide +kernel⟩
set_option maxRecDepth 20000 in
theorem wl_RL_123 : Cond.methodLink RL 123 yX11_days ∈ lw_tb := tb_at 858 rfl rfl
set_option maxRecDepth 20000 in
theorem wi_X11_days : Cond.instanceMethod yX11_days ∈ lw_tb := tb_at 859 rfl rfl
set_option maxRecDepth 20000 in
theorem wx_X11_days : Cond.selects yX11_days.cls yX11_days yX11_days ∈ lw_tb := tb_at 860 rfl rfl
set_option maxRecDepth 20000 in
theorem wc_X11_days : Cond.code yX11_days cX11_days 4 (some .int) ∈ lw_tb := tb_at 861 rfl rfl
theorem lv_RL_123 : fw_lv RL 123 yX11_days cX11_days 4 (some .int) 1 := fw_lv_mk wl_RL_123 wi_X11_days wx_X11_days wn_RX11 wc_X11_days ⟨by decide +kernel, by decide +kernel, by decide +kernel⟩
set_option maxRecDepth 20000 in
theorem wl_RL_126 : Cond.methodLink RL 126 yX12_days ∈ lw_tb := tb_at 1638 rfl rfl
set_option maxRecDepth 20000 in
theorem wi_X12_days : Cond.instanceMethod yX12_days ∈ lw_tb := tb_at 1639 rfl rfl
set_option maxRecDepth 20000 in
theorem wx_X12_days : Cond.selects yX12_days.cls yX12_days yX12_days ∈ lw_tb := tb_at 1640 rfl rfl
set_option maxRecDepth 20000 in
theorem wc_X12_days : Cond.code yX12_days cX12_days 5 (some .int) ∈ lw_tb := tb_at 1641 rfl rfl
theorem lv_RL_126 : fw_lv RL 126 yX12_days cX12_days 5 (some .int) 1 := fw_lv_mk wl_RL_126 wi_X12_days wx_X12_days wn_RX12 wc_X12_days ⟨by decide +kernel, by decide +kernel, by decide +kernel⟩
set_option maxRecDepth 20000 in
theorem wl_RL_127 : Cond.methodLink RL 127 yX11_dayOf ∈ lw_tb := tb_at 901 rfl rfl
set_option maxRecDepth 20000 in
theorem wi_X11_dayOf : Cond.instanceMethod yX11_dayOf ∈ lw_tb := tb_at 902 rfl rfl
set_option maxRecDepth 20000 in
theorem wx_X11_dayOf : Cond.selects yX11_dayOf.cls yX11_dayOf yX11_dayOf ∈ lw_tb := tb_at 903 rfl rfl
set_option maxRecDepth 20000 in
theorem wc_X11_dayOf : Cond.code yX11_dayOf cX11_dayOf 2 (some .int) ∈ lw_tb := tb_at 904 rfl rfl
theorem lv_RL_127 : fw_lv RL 127 yX11_dayOf cX11_dayOf 2 (some .int) 1 := fw_lv_mk wl_RL_127 wi_X11_dayOf wx_X11_dayOf wn_RX11 wc_X11_dayOf ⟨by decide +kernel, by decide +kernel, by decide +kernel⟩
set_option maxRecDepth 20000 in
theorem wl_RL_130 : Cond.methodLink RL 130 yX12_dayOf ∈ lw_tb := tb_at 1646 rfl rfl
set_option maxRecDepth 20000 in
theorem wi_X12_dayOf : Cond.instanceMethod yX12_dayOf ∈ lw_tb := tb_at 1647 rfl rfl
set_option maxRecDepth 20000 in
theorem wx_X12_dayOf : Cond.selects yX12_dayOf.cls yX12_dayOf yX12_dayOf ∈ lw_tb := tb_at 1648 rfl rfl
set_option maxRecDepth 20000 in
theorem wc_X12_dayOf : Cond.code yX12_dayOf cX12_dayOf 2 (some .int) ∈ lw_tb := tb_at 1649 rfl rfl
theorem lv_RL_130 : fw_lv RL 130 yX12_dayOf cX12_dayOf 2 (some .int) 1 := fw_lv_mk wl_RL_130 wi_X12_dayOf wx_X12_dayOf wn_RX12 wc_X12_dayOf ⟨by decide +kernel, by decide +kernel, by decide +kernel⟩
set_option maxRecDepth 20000 in
theorem wl_RL_131 : Cond.methodLink RL 131 yX11_exchange ∈ lw_tb := tb_at 905 rfl rfl
set_option maxRecDepth 20000 in
theorem wi_X11_exchange : Cond.instanceMethod yX11_exchange ∈ lw_tb := tb_at 906 rfl rfl
set_option maxRecDepth 20000 in
theorem wx_X11_exchange : Cond.selects yX11_exchange.cls yX11_exchange yX11_exchange ∈ lw_tb := tb_at 907 rfl rfl
set_option maxRecDepth 20000 in
theorem wc_X11_exchange : Cond.code yX11_exchange cX11_exchange 4 (some .int) ∈ lw_tb := tb_at 908 rfl rfl
theorem lv_RL_131 : fw_lv RL 131 yX11_exchange cX11_exchange 4 (some .int) 0 := fw_lv_mk wl_RL_131 wi_X11_exchange wx_X11_exchange wn_RX11 wc_X11_exchange ⟨by decide +kernel, by decide +kernel, by decide +kernel⟩
set_option maxRecDepth 20000 in
theorem wl_RL_134 : Cond.methodLink RL 134 yX12_exchange ∈ lw_tb := tb_at 1650 rfl rfl
set_option maxRecDepth 20000 in
theorem wi_X12_exchange : Cond.instanceMethod yX12_exchange ∈ lw_tb := tb_at 1651 rfl rfl
set_option maxRecDepth 20000 in
theorem wx_X12_exchange : Cond.selects yX12_exchange.cls yX12_exchange yX12_exchange ∈ lw_tb := tb_at 1652 rfl rfl
set_option maxRecDepth 20000 in
theorem wc_X12_exchange : Cond.code yX12_exchange cX12_exchange 4 (some .int) ∈ lw_tb := tb_at 1653 rfl rfl
theorem lv_RL_134 : fw_lv RL 134 yX12_exchange cX12_exchange 4 (some .int) 0 := fw_lv_mk wl_RL_134 wi_X12_exchange wx_X12_exchange wn_RX12 wc_X12_exchange ⟨by decide +kernel, by decide +kernel, by decide +kernel⟩
set_option maxRecDepth 20000 in
theorem wl_RL_135 : Cond.methodLink RL 135 yX11_exchanges ∈ lw_tb := tb_at 917 rfl rfl
set_option maxRecDepth 20000 in
theorem wi_X11_exchanges : Cond.instanceMethod yX11_exchanges ∈ lw_tb := tb_at 918 rfl rfl
set_option maxRecDepth 20000 in
theorem wx_X11_exchanges : Cond.selects yX11_exchanges.cls yX11_exchanges yX11_exchanges ∈ lw_tb := tb_at 919 rfl rfl
set_option maxRecDepth 20000 in
theorem wc_X11_exchanges : Cond.code yX11_exchanges cX11_exchanges 1 (some .int) ∈ lw_tb := tb_at 920 rfl rfl
theorem lv_RL_135 : fw_lv RL 135 yX11_exchanges cX11_exchanges 1 (some .int) 0 := fw_lv_mk wl_RL_135 wi_X11_exchanges wx_X11_exchanges wn_RX11 wc_X11_exchanges ⟨by decide +kernel, by decide +kernel, by decide +kernel⟩
set_option maxRecDepth 20000 in
theorem wl_RL_138 : Cond.methodLink RL 138 yX12_exchanges ∈ lw_tb := tb_at 1662 rfl rfl
set_option maxRecDepth 20000 in
theorem wi_X12_exchanges : Cond.instanceMethod yX12_exchanges ∈ lw_tb := tb_at 1663 rfl rfl
set_option maxRecDepth 20000 in
theorem wx_X12_exchanges : Cond.selects yX12_exchanges.cls yX12_exchanges yX12_exchanges ∈ lw_tb := tb_at 1664 rfl rfl
set_option maxRecDepth 20000 in
theorem wc_X12_exchanges : Cond.code yX12_exchanges cX12_exchanges 1 (some .int) ∈ lw_tb := tb_at 1665 rfl rfl
theorem lv_RL_138 : fw_lv RL 138 yX12_exchanges cX12_exchanges 1 (some .int) 0 := fw_lv_mk wl_RL_138 wi_X12_exchanges wx_X12_exchanges wn_RX12 wc_X12_exchanges ⟨by decide +kernel, by decide +kernel, by decide +kernel⟩
set_option maxRecDepth 20000 in
theorem wl_RL_139 : Cond.methodLink RL 139 yX11_late ∈ lw_tb := tb_at 921 rfl rfl
set_option maxRecDepth 20000 in
theorem wi_X11_late : Cond.instanceMethod yX11_late ∈ lw_tb := tb_at 922 rfl rfl
set_option maxRecDepth 20000 in
theorem wx_X11_late : Cond.selects yX11_late.cls yX11_late yX11_late ∈ lw_tb := tb_at 923 rfl rfl
set_option maxRecDepth 20000 in
theorem wc_X11_late : Cond.code yX11_late cX11_late 8 (some .int) ∈ lw_tb := tb_at 924 rfl rfl
theorem lv_RL_139 : fw_lv RL 139 yX11_late cX11_late 8 (some .int) 1 := fw_lv_mk wl_RL_139 wi_X11_late wx_X11_late wn_RX11 wc_X11_late ⟨by decide +kernel, by decide +kernel, by decide +kernel⟩
set_option maxRecDepth 20000 in
theorem wl_RL_142 : Cond.methodLink RL 142 yX12_late ∈ lw_tb := tb_at 1666 rfl rfl
set_option maxRecDepth 20000 in
theorem wi_X12_late : Cond.instanceMethod yX12_late ∈ lw_tb := tb_at 1667 rfl rfl
set_option maxRecDepth 20000 in
theorem wx_X12_late : Cond.selects yX12_late.cls yX12_late yX12_late ∈ lw_tb := tb_at 1668 rfl rfl
set_option maxRecDepth 20000 in
theorem wc_X12_late : Cond.code yX12_late cX12_late 6 (some .int) ∈ lw_tb := tb_at 1669 rfl rfl
theorem lv_RL_142 : fw_lv RL 142 yX12_late cX12_late 6 (some .int) 1 := fw_lv_mk wl_RL_142 wi_X12_late wx_X12_late wn_RX12 wc_X12_late ⟨by decide +kernel, by decide +kernel, by decide +kernel⟩
set_option maxRecDepth 20000 in
theorem wl_RL_143 : Cond.methodLink RL 143 yX11_see ∈ lw_tb := tb_at 929 rfl rfl
set_option maxRecDepth 20000 in
theorem wi_X11_see : Cond.instanceMethod yX11_see ∈ lw_tb := tb_at 930 rfl rfl
set_option maxRecDepth 20000 in
theorem wx_X11_see : Cond.selects yX11_see.cls yX11_see yX11_see ∈ lw_tb := tb_at 931 rfl rfl
set_option maxRecDepth 20000 in
theorem wc_X11_see : Cond.code yX11_see cX11_see 4 (some .int) ∈ lw_tb := tb_at 932 rfl rfl
theorem lv_RL_143 : fw_lv RL 143 yX11_see cX11_see 4 (some .int) 3 := fw_lv_mk wl_RL_143 wi_X11_see wx_X11_see wn_RX11 wc_X11_see ⟨by decide +kernel, by decide +kernel, by decide +kernel⟩
set_option maxRecDepth 20000 in
theorem wl_RL_146 : Cond.methodLink RL 146 yX12_see ∈ lw_tb := tb_at 1670 rfl rfl
set_option maxRecDepth 20000 in
theorem wi_X12_see : Cond.instanceMethod yX12_see ∈ lw_tb := tb_at 1671 rfl rfl
set_option maxRecDepth 20000 in
theorem wx_X12_see : Cond.selects yX12_see.cls yX12_see yX12_see ∈ lw_tb := tb_at 1672 rfl rfl
set_option maxRecDepth 20000 in
theorem wc_X12_see : Cond.code yX12_see cX12_see 5 (some .int) ∈ lw_tb := tb_at 1673 rfl rfl
theorem lv_RL_146 : fw_lv RL 146 yX12_see cX12_see 5 (some .int) 3 := fw_lv_mk wl_RL_146 wi_X12_see wx_X12_see wn_RX12 wc_X12_see ⟨by decide +kernel, by decide +kernel, by decide +kernel⟩
set_option maxRecDepth 20000 in
theorem wl_RL_147 : Cond.methodLink RL 147 yX11_night ∈ lw_tb := tb_at 937 rfl rfl
set_option maxRecDepth 20000 in
theorem wi_X11_night : Cond.instanceMethod yX11_night ∈ lw_tb := tb_at 938 rfl rfl
set_option maxRecDepth 20000 in
theorem wx_X11_night : Cond.selects yX11_night.cls yX11_night yX11_night ∈ lw_tb := tb_at 939 rfl rfl
set_option maxRecDepth 20000 in
theorem wc_X11_night : Cond.code yX11_night cX11_night 6 (some .int) ∈ lw_tb := tb_at 940 rfl rfl
theorem lv_RL_147 : fw_lv RL 147 yX11_night cX11_night 6 (some .int) 0 := fw_lv_mk wl_RL_147 wi_X11_night wx_X11_night wn_RX11 wc_X11_night ⟨by decide +kernel, by decide +kernel, by decide +kernel⟩
set_option maxRecDepth 20000 in
theorem wl_RL_150 : Cond.methodLink RL 150 yX12_night ∈ lw_tb := tb_at 1674 rfl rfl
set_option maxRecDepth 20000 in
theorem wi_X12_night : Cond.instanceMethod yX12_night ∈ lw_tb := tb_at 1675 rfl rfl
set_option maxRecDepth 20000 in
theorem wx_X12_night : Cond.selects yX12_night.cls yX12_night yX12_night ∈ lw_tb := tb_at 1676 rfl rfl
set_option maxRecDepth 20000 in
theorem wc_X12_night : Cond.code yX12_night cX12_night 5 (some .int) ∈ lw_tb := tb_at 1677 rfl rfl
theorem lv_RL_150 : fw_lv RL 150 yX12_night cX12_night 5 (some .int) 0 := fw_lv_mk wl_RL_150 wi_X12_night wx_X12_night wn_RX12 wc_X12_night ⟨by decide +kernel, by decide +kernel, by decide +kernel⟩
set_option maxRecDepth 20000 in
theorem wl_RL_151 : Cond.methodLink RL 151 yX11_led ∈ lw_tb := tb_at 963 rfl rfl
set_option maxRecDepth 20000 in
theorem wi_X11_led : Cond.instanceMethod yX11_led ∈ lw_tb := tb_at 964 rfl rfl
set_option maxRecDepth 20000 in
theorem wx_X11_led : Cond.selects yX11_led.cls yX11_led yX11_led ∈ lw_tb := tb_at 965 rfl rfl
set_option maxRecDepth 20000 in
theorem wc_X11_led : Cond.code yX11_led cX11_led 2 (some .int) ∈ lw_tb := tb_at 966 rfl rfl
theorem lv_RL_151 : fw_lv RL 151 yX11_led cX11_led 2 (some .int) 1 := fw_lv_mk wl_RL_151 wi_X11_led wx_X11_led wn_RX11 wc_X11_led ⟨by decide +kernel, by decide +kernel, by decide +kernel⟩
set_option maxRecDepth 20000 in
theorem wl_RL_154 : Cond.methodLink RL 154 yX12_led ∈ lw_tb := tb_at 1682 rfl rfl
set_option maxRecDepth 20000 in
theorem wi_X12_led : Cond.instanceMethod yX12_led ∈ lw_tb := tb_at 1683 rfl rfl
set_option maxRecDepth 20000 in
theorem wx_X12_led : Cond.selects yX12_led.cls yX12_led yX12_led ∈ lw_tb := tb_at 1684 rfl rfl
set_option maxRecDepth 20000 in
theorem wc_X12_led : Cond.code yX12_led cX12_led 2 (some .int) ∈ lw_tb := tb_at 1685 rfl rfl
theorem lv_RL_154 : fw_lv RL 154 yX12_led cX12_led 2 (some .int) 1 := fw_lv_mk wl_RL_154 wi_X12_led wx_X12_led wn_RX12 wc_X12_led ⟨by decide +kernel, by decide +kernel, by decide +kernel⟩
set_option maxRecDepth 20000 in
theorem wl_RL_155 : Cond.methodLink RL 155 yX11_dam ∈ lw_tb := tb_at 967 rfl rfl
set_option maxRecDepth 20000 in
theorem wi_X11_dam : Cond.instanceMethod yX11_dam ∈ lw_tb := tb_at 968 rfl rfl
set_option maxRecDepth 20000 in
theorem wx_X11_dam : Cond.selects yX11_dam.cls yX11_dam yX11_dam ∈ lw_tb := tb_at 969 rfl rfl
set_option maxRecDepth 20000 in
theorem wc_X11_dam : Cond.code yX11_dam cX11_dam 3 (some .int) ∈ lw_tb := tb_at 970 rfl rfl
theorem lv_RL_155 : fw_lv RL 155 yX11_dam cX11_dam 3 (some .int) 2 := fw_lv_mk wl_RL_155 wi_X11_dam wx_X11_dam wn_RX11 wc_X11_dam ⟨by decide +kernel, by decide +kernel, by decide +kernel⟩
set_option maxRecDepth 20000 in
theorem wl_RL_158 : Cond.methodLink RL 158 yX12_dam ∈ lw_tb := tb_at 1686 rfl rfl
set_option maxRecDepth 20000 in
theorem wi_X12_dam : Cond.instanceMethod yX12_dam ∈ lw_tb := tb_at 1687 rfl rfl
set_option maxRecDepth 20000 in
theorem wx_X12_dam : Cond.selects yX12_dam.cls yX12_dam yX12_dam ∈ lw_tb := tb_at 1688 rfl rfl
set_option maxRecDepth 20000 in
theorem wc_X12_dam : Cond.code yX12_dam cX12_dam 5 (some .int) ∈ lw_tb := tb_at 1689 rfl rfl
theorem lv_RL_158 : fw_lv RL 158 yX12_dam cX12_dam 5 (some .int) 2 := fw_lv_mk wl_RL_158 wi_X12_dam wx_X12_dam wn_RX12 wc_X12_dam ⟨by decide +kernel, by decide +kernel, by decide +kernel⟩
set_option maxRecDepth 20000 in
theorem wl_RL_159 : Cond.methodLink RL 159 yX11_rain ∈ lw_tb := tb_at 975 rfl rfl
set_option maxRecDepth 20000 in
theorem wi_X11_rain : Cond.instanceMethod yX11_rain ∈ lw_tb := tb_at 976 rfl rfl
set_option maxRecDepth 20000 in
theorem wx_X11_rain : Cond.selects yX11_rain.cls yX11_rain yX11_rain ∈ lw_tb := tb_at 977 rfl rfl
set_option maxRecDepth 20000 in
theorem wc_X11_rain : Cond.code yX11_rain cX11_rain 7 (some .int) ∈ lw_tb := tb_at 978 rfl rfl
theorem lv_RL_159 : fw_lv RL 159 yX11_rain cX11_rain 7 (some .int) 2 := fw_lv_mk wl_RL_159 wi_X11_rain wx_X11_rain wn_RX11 wc_X11_rain ⟨by decide +kernel, by decide +kernel, by decide +kernel⟩
set_option maxRecDepth 20000 in
theorem wl_RL_162 : Cond.methodLink RL 162 yX12_rain ∈ lw_tb := tb_at 1690 rfl rfl
set_option maxRecDepth 20000 in
theorem wi_X12_rain : Cond.instanceMethod yX12_rain ∈ lw_tb := tb_at 1691 rfl rfl
set_option maxRecDepth 20000 in
theorem wx_X12_rain : Cond.selects yX12_rain.cls yX12_rain yX12_rain ∈ lw_tb := tb_at 1692 rfl rfl
set_option maxRecDepth 20000 in
theorem wc_X12_rain : Cond.code yX12_rain cX12_rain 8 (some .int) ∈ lw_tb := tb_at 1693 rfl rfl
theorem lv_RL_162 : fw_lv RL 162 yX12_rain cX12_rain 8 (some .int) 2 := fw_lv_mk wl_RL_162 wi_X12_rain wx_X12_rain wn_RX12 wc_X12_rain ⟨by decide +kernel, by decide +kernel, by decide +kernel⟩
set_option maxRecDepth 20000 in
theorem wl_RL_163 : Cond.methodLink RL 163 yX11_sentence ∈ lw_tb := tb_at 984 rfl rfl
set_option maxRecDepth 20000 in
theorem wi_X11_sentence : Cond.instanceMethod yX11_sentence ∈ lw_tb := tb_at 985 rfl rfl
set_option maxRecDepth 20000 in
theorem wx_X11_sentence : Cond.selects yX11_sentence.cls yX11_sentence yX11_sentence ∈ lw_tb := tb_at 986 rfl rfl
set_option maxRecDepth 20000 in
theorem wc_X11_sentence : Cond.code yX11_sentence cX11_sentence 1 (some .int) ∈ lw_tb := tb_at 987 rfl rfl
theorem lv_RL_163 : fw_lv RL 163 yX11_sentence cX11_sentence 1 (some .int) 0 := fw_lv_mk wl_RL_163 wi_X11_sentence wx_X11_sentence wn_RX11 wc_X11_sentence ⟨by decide +kernel, by decide +kernel, by decide +kernel⟩
set_option maxRecDepth 20000 in
theorem wl_RL_166 : Cond.methodLink RL 166 yX12_sentence ∈ lw_tb := tb_at 1699 rfl rfl
set_option maxRecDepth 20000 in
theorem wi_X12_sentence : Cond.instanceMethod yX12_sentence ∈ lw_tb := tb_at 1700 rfl rfl
set_option maxRecDepth 20000 in
theorem wx_X12_sentence : Cond.selects yX12_sentence.cls yX12_sentence yX12_sentence ∈ lw_tb := tb_at 1701 rfl rfl
set_option maxRecDepth 20000 in
theorem wc_X12_sentence : Cond.code yX12_sentence cX12_sentence 2 (some .int) ∈ lw_tb := tb_at 1702 rfl rfl
theorem lv_RL_166 : fw_lv RL 166 yX12_sentence cX12_sentence 2 (some .int) 0 := fw_lv_mk wl_RL_166 wi_X12_sentence wx_X12_sentence wn_RX12 wc_X12_sentence ⟨by decide +kernel, by decide +kernel, by decide +kernel⟩
set_option maxRecDepth 20000 in
theorem wl_RL_167 : Cond.methodLink RL 167 yX11_said ∈ lw_tb := tb_at 1034 rfl rfl
set_option maxRecDepth 20000 in
theorem wi_X11_said : Cond.instanceMethod yX11_said ∈ lw_tb := tb_at 1035 rfl rfl
set_option maxRecDepth 20000 in
theorem wx_X11_said : Cond.selects yX11_said.cls yX11_said yX11_said ∈ lw_tb := tb_at 1036 rfl rfl
set_option maxRecDepth 20000 in
theorem wc_X11_said : Cond.code yX11_said cX11_said 5 (some .int) ∈ lw_tb := tb_at 1037 rfl rfl
theorem lv_RL_167 : fw_lv RL 167 yX11_said cX11_said 5 (some .int) 1 := fw_lv_mk wl_RL_167 wi_X11_said wx_X11_said wn_RX11 wc_X11_said ⟨by decide +kernel, by decide +kernel, by decide +kernel⟩
set_option maxRecDepth 20000 in
theorem wl_RL_170 : Cond.methodLink RL 170 yX12_said ∈ lw_tb := tb_at 1739 rfl rfl
set_option maxRecDepth 20000 in
theorem wi_X12_said : Cond.instanceMethod yX12_said ∈ lw_tb := tb_at 1740 rfl rfl
set_option maxRecDepth 20000 in
theorem wx_X12_said : Cond.selects yX12_said.cls yX12_said yX12_said ∈ lw_tb := tb_at 1741 rfl rfl
set_option maxRecDepth 20000 in
theorem wc_X12_said : Cond.code yX12_said cX12_said 4 (some .int) ∈ lw_tb := tb_at 1742 rfl rfl
theorem lv_RL_170 : fw_lv RL 170 yX12_said cX12_said 4 (some .int) 1 := fw_lv_mk wl_RL_170 wi_X12_said wx_X12_said wn_RX12 wc_X12_said ⟨by decide +kernel, by decide +kernel, by decide +kernel⟩
set_option maxRecDepth 20000 in
theorem wl_RL_171 : Cond.methodLink RL 171 yX11_image ∈ lw_tb := tb_at 1056 rfl rfl
set_option maxRecDepth 20000 in
theorem wi_X11_image : Cond.instanceMethod yX11_image ∈ lw_tb := tb_at 1057 rfl rfl
set_option maxRecDepth 20000 in
theorem wx_X11_image : Cond.selects yX11_image.cls yX11_image yX11_image ∈ lw_tb := tb_at 1058 rfl rfl
set_option maxRecDepth 20000 in
theorem wc_X11_image : Cond.code yX11_image cX11_image 2 (some .boolean) ∈ lw_tb := tb_at 1059 rfl rfl
theorem lv_RL_171 : fw_lv RL 171 yX11_image cX11_image 2 (some .boolean) 1 := fw_lv_mk wl_RL_171 wi_X11_image wx_X11_image wn_RX11 wc_X11_image ⟨by decide +kernel, by decide +kernel, by decide +kernel⟩
set_option maxRecDepth 20000 in
theorem wl_RL_174 : Cond.methodLink RL 174 yX12_image ∈ lw_tb := tb_at 1751 rfl rfl
set_option maxRecDepth 20000 in
theorem wi_X12_image : Cond.instanceMethod yX12_image ∈ lw_tb := tb_at 1752 rfl rfl
set_option maxRecDepth 20000 in
theorem wx_X12_image : Cond.selects yX12_image.cls yX12_image yX12_image ∈ lw_tb := tb_at 1753 rfl rfl
set_option maxRecDepth 20000 in
theorem wc_X12_image : Cond.code yX12_image cX12_image 3 (some .boolean) ∈ lw_tb := tb_at 1754 rfl rfl
theorem lv_RL_174 : fw_lv RL 174 yX12_image cX12_image 3 (some .boolean) 1 := fw_lv_mk wl_RL_174 wi_X12_image wx_X12_image wn_RX12 wc_X12_image ⟨by decide +kernel, by decide +kernel, by decide +kernel⟩
set_option maxRecDepth 20000 in
theorem wl_RL_175 : Cond.methodLink RL 175 yX11_restore ∈ lw_tb := tb_at 1060 rfl rfl
set_option maxRecDepth 20000 in
theorem wi_X11_restore : Cond.instanceMethod yX11_restore ∈ lw_tb := tb_at 1061 rfl rfl
set_option maxRecDepth 20000 in
theorem wx_X11_restore : Cond.selects yX11_restore.cls yX11_restore yX11_restore ∈ lw_tb := tb_at 1062 rfl rfl
set_option maxRecDepth 20000 in
theorem wc_X11_restore : Cond.code yX11_restore cX11_restore 3 (some .boolean) ∈ lw_tb := tb_at 1063 rfl rfl
theorem lv_RL_175 : fw_lv RL 175 yX11_restore cX11_restore 3 (some .boolean) 1 := fw_lv_mk wl_RL_175 wi_X11_restore wx_X11_restore wn_RX11 wc_X11_restore ⟨by decide +kernel, by decide +kernel, by decide +kernel⟩
set_option maxRecDepth 20000 in
theorem wl_RL_178 : Cond.methodLink RL 178 yX12_restore ∈ lw_tb := tb_at 1755 rfl rfl
set_option maxRecDepth 20000 in
theorem wi_X12_restore : Cond.instanceMethod yX12_restore ∈ lw_tb := tb_at 1756 rfl rfl
set_option maxRecDepth 20000 in
theorem wx_X12_restore : Cond.selects yX12_restore.cls yX12_restore yX12_restore ∈ lw_tb := tb_at 1757 rfl rfl
set_option maxRecDepth 20000 in
theorem wc_X12_restore : Cond.code yX12_restore cX12_restore 3 (some .boolean) ∈ lw_tb := tb_at 1758 rfl rfl
theorem lv_RL_178 : fw_lv RL 178 yX12_restore cX12_restore 3 (some .boolean) 1 := fw_lv_mk wl_RL_178 wi_X12_restore wx_X12_restore wn_RX12 wc_X12_restore ⟨by decide +kernel, by decide +kernel, by decide +kernel⟩
set_option maxRecDepth 20000 in
theorem wl_RL_179 : Cond.methodLink RL 179 yX11_count ∈ lw_tb := tb_at 1064 rfl rfl
set_option maxRecDepth 20000 in
theorem wi_X11_count : Cond.instanceMethod yX11_count ∈ lw_tb := tb_at 1065 rfl rfl
set_option maxRecDepth 20000 in
theorem wx_X11_count : Cond.selects yX11_count.cls yX11_count yX11_count ∈ lw_tb := tb_at 1066 rfl rfl
set_option maxRecDepth 20000 in
theorem wc_X11_count : Cond.code yX11_count cX11_count 2 (some .int) ∈ lw_tb := tb_at 1067 rfl rfl
theorem lv_RL_179 : fw_lv RL 179 yX11_count cX11_count 2 (some .int) 1 := fw_lv_mk wl_RL_179 wi_X11_count wx_X11_count wn_RX11 wc_X11_count ⟨by decide +kernel, by decide +kernel, by decide +kernel⟩
set_option maxRecDepth 20000 in
theorem wl_RL_182 : Cond.methodLink RL 182 yX12_count ∈ lw_tb := tb_at 1759 rfl rfl
set_option maxRecDepth 20000 in
theorem wi_X12_count : Cond.instanceMethod yX12_count ∈ lw_tb := tb_at 1760 rfl rfl
set_option maxRecDepth 20000 in
theorem wx_X12_count : Cond.selects yX12_count.cls yX12_count yX12_count ∈ lw_tb := tb_at 1761 rfl rfl
set_option maxRecDepth 20000 in
theorem wc_X12_count : Cond.code yX12_count cX12_count 2 (some .int) ∈ lw_tb := tb_at 1762 rfl rfl
theorem lv_RL_182 : fw_lv RL 182 yX12_count cX12_count 2 (some .int) 1 := fw_lv_mk wl_RL_182 wi_X12_count wx_X12_count wn_RX12 wc_X12_count ⟨by decide +kernel, by decide +kernel, by decide +kernel⟩
set_option maxRecDepth 20000 in
theorem wl_RL_7 : Cond.methodLink RL 7 yX11_reach ∈ lw_tb := tb_at 1072 rfl rfl
set_option maxRecDepth 20000 in
theorem wi_X11_reach : Cond.instanceMethod yX11_reach ∈ lw_tb := tb_at 1073 rfl rfl
set_option maxRecDepth 20000 in
theorem wx_X11_reach : Cond.selects yX11_reach.cls yX11_reach yX11_reach ∈ lw_tb := tb_at 1074 rfl rfl
set_option maxRecDepth 20000 in
theorem wc_X11_reach : Cond.code yX11_reach cX11_reach 3 (some .int) ∈ lw_tb := tb_at 1075 rfl rfl
theorem lv_RL_7 : fw_lv RL 7 yX11_reach cX11_reach 3 (some .int) 2 := fw_lv_mk wl_RL_7 wi_X11_reach wx_X11_reach wn_RX11 wc_X11_reach ⟨by decide +kernel, by decide +kernel, by decide +kernel⟩
set_option maxRecDepth 20000 in
theorem wl_RL_15 : Cond.methodLink RL 15 yX11_guild ∈ lw_tb := tb_at 1140 rfl rfl
set_option maxRecDepth 20000 in
theorem wi_X11_guild : Cond.instanceMethod yX11_guild ∈ lw_tb := tb_at 1141 rfl rfl
set_option maxRecDepth 20000 in
theorem wx_X11_guild : Cond.selects yX11_guild.cls yX11_guild yX11_guild ∈ lw_tb := tb_at 1142 rfl rfl
set_option maxRecDepth 20000 in
theorem wc_X11_guild : Cond.code yX11_guild cX11_guild 3 (some .int) ∈ lw_tb := tb_at 1143 rfl rfl
theorem lv_RL_15 : fw_lv RL 15 yX11_guild cX11_guild 3 (some .int) 2 := fw_lv_mk wl_RL_15 wi_X11_guild wx_X11_guild wn_RX11 wc_X11_guild ⟨by decide +kernel, by decide +kernel, by decide +kernel⟩
set_option maxRecDepth 20000 in
theorem wl_RL_18 : Cond.methodLink RL 18 yX11_user ∈ lw_tb := tb_at 1147 rfl rfl
set_option maxRecDepth 20000 in
theorem wi_X11_user : Cond.instanceMethod yX11_user ∈ lw_tb := tb_at 1148 rfl rfl
set_option maxRecDepth 20000 in
theorem wx_X11_user : Cond.selects yX11_user.cls yX11_user yX11_user ∈ lw_tb := tb_at 1149 rfl rfl
set_option maxRecDepth 20000 in
theorem wc_X11_user : Cond.code yX11_user cX11_user 3 (some .int) ∈ lw_tb := tb_at 1150 rfl rfl
theorem lv_RL_18 : fw_lv RL 18 yX11_user cX11_user 3 (some .int) 2 := fw_lv_mk wl_RL_18 wi_X11_user wx_X11_user wn_RX11 wc_X11_user ⟨by decide +kernel, by decide +kernel, by decide +kernel⟩
set_option maxRecDepth 20000 in
theorem wl_RL_21 : Cond.methodLink RL 21 yX11_flow ∈ lw_tb := tb_at 1154 rfl rfl
set_option maxRecDepth 20000 in
theorem wi_X11_flow : Cond.instanceMethod yX11_flow ∈ lw_tb := tb_at 1155 rfl rfl
set_option maxRecDepth 20000 in
theorem wx_X11_flow : Cond.selects yX11_flow.cls yX11_flow yX11_flow ∈ lw_tb := tb_at 1156 rfl rfl
set_option maxRecDepth 20000 in
theorem wc_X11_flow : Cond.code yX11_flow cX11_flow 2 (some .int) ∈ lw_tb := tb_at 1157 rfl rfl
theorem lv_RL_21 : fw_lv RL 21 yX11_flow cX11_flow 2 (some .int) 1 := fw_lv_mk wl_RL_21 wi_X11_flow wx_X11_flow wn_RX11 wc_X11_flow ⟨by decide +kernel, by decide +kernel, by decide +kernel⟩
set_option maxRecDepth 20000 in
theorem wl_RL_25 : Cond.methodLink RL 25 yX11_bell ∈ lw_tb := tb_at 1161 rfl rfl
set_option maxRecDepth 20000 in
theorem wi_X11_bell : Cond.instanceMethod yX11_bell ∈ lw_tb := tb_at 1162 rfl rfl
set_option maxRecDepth 20000 in
theorem wx_X11_bell : Cond.selects yX11_bell.cls yX11_bell yX11_bell ∈ lw_tb := tb_at 1163 rfl rfl
set_option maxRecDepth 20000 in
theorem wc_X11_bell : Cond.code yX11_bell cX11_bell 3 (some .int) ∈ lw_tb := tb_at 1164 rfl rfl
theorem lv_RL_25 : fw_lv RL 25 yX11_bell cX11_bell 3 (some .int) 2 := fw_lv_mk wl_RL_25 wi_X11_bell wx_X11_bell wn_RX11 wc_X11_bell ⟨by decide +kernel, by decide +kernel, by decide +kernel⟩
set_option maxRecDepth 20000 in
theorem wk_cl_RL_8 : Cond.classLink RL 8 RX11 ∈ lw_tb := tb_at 21 rfl rfl
set_option maxRecDepth 20000 in
theorem wk_in_X11 : Cond.instantiable RX11 17 ∈ lw_tb := tb_at 22 rfl rfl
set_option maxRecDepth 20000 in
theorem wk_cl_RL_29 : Cond.classLink RL 29 RX12 ∈ lw_tb := tb_at 1165 rfl rfl
set_option maxRecDepth 20000 in
theorem wk_in_X12 : Cond.instantiable RX12 54 ∈ lw_tb := tb_at 1166 rfl rfl
set_option maxRecDepth 20000 in
theorem wl_RL_28 : Cond.methodLink RL 28 yX11_init ∈ lw_tb := tb_at 23 rfl rfl
set_option maxRecDepth 20000 in
theorem wi_X11_init : Cond.instanceMethod yX11_init ∈ lw_tb := tb_at 24 rfl rfl
set_option maxRecDepth 20000 in
theorem wc_X11_init : Cond.code yX11_init cX11_init 1 none ∈ lw_tb := tb_at 25 rfl rfl
set_option maxRecDepth 20000 in
theorem wl_RL_31 : Cond.methodLink RL 31 yX12_init ∈ lw_tb := tb_at 1167 rfl rfl
set_option maxRecDepth 20000 in
theorem wi_X12_init : Cond.instanceMethod yX12_init ∈ lw_tb := tb_at 1168 rfl rfl
set_option maxRecDepth 20000 in
theorem wc_X12_init : Cond.code yX12_init cX12_init 1 none ∈ lw_tb := tb_at 1169 rfl rfl
set_option maxRecDepth 20000 in
theorem wc_L_reach : Cond.codeWith yL_reach cL_reach 5 (some .int) [(0, 10, 13, 13)] ∈ lw_tb := tb_at 1070 rfl rfl
set_option maxRecDepth 20000 in
theorem wl_RL_51 : Cond.methodLink RL 51 yL_reach ∈ lw_tb := tb_at 1068 rfl rfl
set_option maxRecDepth 20000 in
theorem ws_L_reach : Cond.static yL_reach ∈ lw_tb := tb_at 1069 rfl rfl
set_option maxRecDepth 20000 in
theorem wc_L_guild : Cond.codeWith yL_guild cL_guild 5 (some .int) [(0, 10, 13, 13)] ∈ lw_tb := tb_at 1139 rfl rfl
set_option maxRecDepth 20000 in
theorem wl_RL_60 : Cond.methodLink RL 60 yL_guild ∈ lw_tb := tb_at 1137 rfl rfl
set_option maxRecDepth 20000 in
theorem ws_L_guild : Cond.static yL_guild ∈ lw_tb := tb_at 1138 rfl rfl
set_option maxRecDepth 20000 in
theorem wc_L_user : Cond.codeWith yL_user cL_user 5 (some .int) [(0, 10, 13, 13)] ∈ lw_tb := tb_at 1146 rfl rfl
set_option maxRecDepth 20000 in
theorem wl_RL_63 : Cond.methodLink RL 63 yL_user ∈ lw_tb := tb_at 1144 rfl rfl
set_option maxRecDepth 20000 in
theorem ws_L_user : Cond.static yL_user ∈ lw_tb := tb_at 1145 rfl rfl
set_option maxRecDepth 20000 in
theorem wc_L_flow : Cond.codeWith yL_flow cL_flow 4 (some .int) [(0, 9, 12, 13)] ∈ lw_tb := tb_at 1153 rfl rfl
set_option maxRecDepth 20000 in
theorem wl_RL_66 : Cond.methodLink RL 66 yL_flow ∈ lw_tb := tb_at 1151 rfl rfl
set_option maxRecDepth 20000 in
theorem ws_L_flow : Cond.static yL_flow ∈ lw_tb := tb_at 1152 rfl rfl
set_option maxRecDepth 20000 in
theorem wc_L_bell : Cond.codeWith yL_bell cL_bell 5 (some .int) [(0, 10, 13, 13)] ∈ lw_tb := tb_at 1160 rfl rfl
set_option maxRecDepth 20000 in
theorem wl_RL_83 : Cond.methodLink RL 83 yL_bell ∈ lw_tb := tb_at 1158 rfl rfl
set_option maxRecDepth 20000 in
theorem ws_L_bell : Cond.static yL_bell ∈ lw_tb := tb_at 1159 rfl rfl
set_option maxRecDepth 20000 in
theorem wn_RL : Cond.initialized RL ∈ lw_tb := tb_at 0 rfl rfl
set_option maxRecDepth 20000 in
theorem wk_cl_RL_13 : Cond.classLink RL 13 "java/util/NoSuchElementException" ∈ lw_tb := tb_at 1071 rfl rfl
set_option maxRecDepth 20000 in
theorem wk_cl_RX11_105 : Cond.classLink RX11 105 "java/util/NoSuchElementException" ∈ lw_tb := tb_at 1076 rfl rfl
set_option maxRecDepth 20000 in
theorem wn_NSE : Cond.initialized "java/util/NoSuchElementException" ∈ lw_tb := tb_at 18 rfl rfl
