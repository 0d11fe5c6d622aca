theorem ml_L_59 : Cond.methodLink RL 59 yX11_read ∈ lw_gd := zm (List.mem_of_getElem? (i := 1168) (by decide +kernel)) rfl
theorem im_X11_read : Cond.instanceMethod yX11_read ∈ lw_gd := zm (List.mem_of_getElem? (i := 1169) (by decide +kernel)) rfl
theorem se_X11_read : Cond.selects RX11 yX11_read yX11_read ∈ lw_gd := zm (List.mem_of_getElem? (i := 1170) (by decide +kernel)) rfl
theorem co_X11_read : Cond.code yX11_read cX11_read 3 (some .int) ∈ lw_gd := zm (List.mem_of_getElem? (i := 1171) (by decide +kernel)) rfl
theorem ml_L_62 : Cond.methodLink RL 62 yX12_read ∈ lw_gd := zm (List.mem_of_getElem? (i := 2321) (by decide +kernel)) rfl
theorem im_X12_read : Cond.instanceMethod yX12_read ∈ lw_gd := zm (List.mem_of_getElem? (i := 2322) (by decide +kernel)) rfl
theorem se_X12_read : Cond.selects RX12 yX12_read yX12_read ∈ lw_gd := zm (List.mem_of_getElem? (i := 2323) (by decide +kernel)) rfl
theorem co_X12_read : Cond.code yX12_read cX12_read 3 (some .int) ∈ lw_gd := zm (List.mem_of_getElem? (i := 2324) (by decide +kernel)) rfl
theorem ml_L_63 : Cond.methodLink RL 63 yX11_key ∈ lw_gd := zm (List.mem_of_getElem? (i := 1173) (by decide +kernel)) rfl
theorem im_X11_key : Cond.instanceMethod yX11_key ∈ lw_gd := zm (List.mem_of_getElem? (i := 1174) (by decide +kernel)) rfl
theorem se_X11_key : Cond.selects RX11 yX11_key yX11_key ∈ lw_gd := zm (List.mem_of_getElem? (i := 1175) (by decide +kernel)) rfl
theorem co_X11_key : Cond.code yX11_key cX11_key 4 (some .int) ∈ lw_gd := zm (List.mem_of_getElem? (i := 1176) (by decide +kernel)) rfl
theorem ml_L_66 : Cond.methodLink RL 66 yX12_key ∈ lw_gd := zm (List.mem_of_getElem? (i := 2325) (by decide +kernel)) rfl
theorem im_X12_key : Cond.instanceMethod yX12_key ∈ lw_gd := zm (List.mem_of_getElem? (i := 2326) (by decide +kernel)) rfl
theorem se_X12_key : Cond.selects RX12 yX12_key yX12_key ∈ lw_gd := zm (List.mem_of_getElem? (i := 2327) (by decide +kernel)) rfl
theorem co_X12_key : Cond.code yX12_key cX12_key 3 (some .int) ∈ lw_gd := zm (List.mem_of_getElem? (i := 2328) (by decide +kernel)) rfl
theorem ml_L_67 : Cond.methodLink RL 67 yX11_total ∈ lw_gd := zm (List.mem_of_getElem? (i := 1177) (by decide +kernel)) rfl
theorem im_X11_total : Cond.instanceMethod yX11_total ∈ lw_gd := zm (List.mem_of_getElem? (i := 1178) (by decide +kernel)) rfl
theorem se_X11_total : Cond.selects RX11 yX11_total yX11_total ∈ lw_gd := zm (List.mem_of_getElem? (i := 1179) (by decide +kernel)) rfl
theorem co_X11_total : Cond.code yX11_total cX11_total 8 (some .int) ∈ lw_gd := zm (List.mem_of_getElem? (i := 1180) (by decide +kernel)) rfl
theorem ml_L_70 : Cond.methodLink RL 70 yX12_total ∈ lw_gd := zm (List.mem_of_getElem? (i := 2329) (by decide +kernel)) rfl
theorem im_X12_total : Cond.instanceMethod yX12_total ∈ lw_gd := zm (List.mem_of_getElem? (i := 2330) (by decide +kernel)) rfl
theorem se_X12_total : Cond.selects RX12 yX12_total yX12_total ∈ lw_gd := zm (List.mem_of_getElem? (i := 2331) (by decide +kernel)) rfl
theorem co_X12_total : Cond.code yX12_total cX12_total 6 (some .int) ∈ lw_gd := zm (List.mem_of_getElem? (i := 2332) (by decide +kernel)) rfl
theorem ml_L_71 : Cond.methodLink RL 71 yX11_path ∈ lw_gd := zm (List.mem_of_getElem? (i := 1181) (by decide +kernel)) rfl
theorem im_X11_path : Cond.instanceMethod yX11_path ∈ lw_gd := zm (List.mem_of_getElem? (i := 1182) (by decide +kernel)) rfl
theorem se_X11_path : Cond.selects RX11 yX11_path yX11_path ∈ lw_gd := zm (List.mem_of_getElem? (i := 1183) (by decide +kernel)) rfl
theorem co_X11_path : Cond.code yX11_path cX11_path 7 (some .int) ∈ lw_gd := zm (List.mem_of_getElem? (i := 1184) (by decide +kernel)) rfl
theorem ml_L_74 : Cond.methodLink RL 74 yX12_path ∈ lw_gd := zm (List.mem_of_getElem? (i := 2333) (by decide +kernel)) rfl
theorem im_X12_path : Cond.instanceMethod yX12_path ∈ lw_gd := zm (List.mem_of_getElem? (i := 2334) (by decide +kernel)) rfl
theorem se_X12_path : Cond.selects RX12 yX12_path yX12_path ∈ lw_gd := zm (List.mem_of_getElem? (i := 2335) (by decide +kernel)) rfl
theorem co_X12_path : Cond.code yX12_path cX12_path 6 (some .int) ∈ lw_gd := zm (List.mem_of_getElem? (i := 2336) (by decide +kernel)) rfl
theorem ml_L_75 : Cond.methodLink RL 75 yX11_shared ∈ lw_gd := zm (List.mem_of_getElem? (i := 1189) (by decide +kernel)) rfl
theorem im_X11_shared : Cond.instanceMethod yX11_shared ∈ lw_gd := zm (List.mem_of_getElem? (i := 1190) (by decide +kernel)) rfl
theorem se_X11_shared : Cond.selects RX11 yX11_shared yX11_shared ∈ lw_gd := zm (List.mem_of_getElem? (i := 1191) (by decide +kernel)) rfl
theorem co_X11_shared : Cond.code yX11_shared cX11_shared 4 (some .int) ∈ lw_gd := zm (List.mem_of_getElem? (i := 1192) (by decide +kernel)) rfl
theorem ml_L_78 : Cond.methodLink RL 78 yX12_shared ∈ lw_gd := zm (List.mem_of_getElem? (i := 2338) (by decide +kernel)) rfl
theorem im_X12_shared : Cond.instanceMethod yX12_shared ∈ lw_gd := zm (List.mem_of_getElem? (i := 2339) (by decide +kernel)) rfl
theorem se_X12_shared : Cond.selects RX12 yX12_shared yX12_shared ∈ lw_gd := zm (List.mem_of_getElem? (i := 2340) (by decide +kernel)) rfl
theorem co_X12_shared : Cond.code yX12_shared cX12_shared 5 (some .int) ∈ lw_gd := zm (List.mem_of_getElem? (i := 2341) (by decide +kernel)) rfl
theorem ml_L_79 : Cond.methodLink RL 79 yX11_differs ∈ lw_gd := zm (List.mem_of_getElem? (i := 1193) (by decide +kernel)) rfl
theorem im_X11_differs : Cond.instanceMethod yX11_differs ∈ lw_gd := zm (List.mem_of_getElem? (i := 1194) (by decide +kernel)) rfl
theorem se_X11_differs : Cond.selects RX11 yX11_differs yX11_differs ∈ lw_gd := zm (List.mem_of_getElem? (i := 1195) (by decide +kernel)) rfl
theorem co_X11_differs : Cond.code yX11_differs cX11_differs 5 (some .int) ∈ lw_gd := zm (List.mem_of_getElem? (i := 1196) (by decide +kernel)) rfl
theorem ml_L_82 : Cond.methodLink RL 82 yX12_differs ∈ lw_gd := zm (List.mem_of_getElem? (i := 2342) (by decide +kernel)) rfl
theorem im_X12_differs : Cond.instanceMethod yX12_differs ∈ lw_gd := zm (List.mem_of_getElem? (i := 2343) (by decide +kernel)) rfl
theorem se_X12_differs : Cond.selects RX12 yX12_differs yX12_differs ∈ lw_gd := zm (List.mem_of_getElem? (i := 2344) (by decide +kernel)) rfl
theorem co_X12_differs : Cond.code yX12_differs cX12_differs 4 (some .int) ∈ lw_gd := zm (List.mem_of_getElem? (i := 2345) (by decide +kernel)) rfl
theorem ml_L_83 : Cond.methodLink RL 83 yX11_writes ∈ lw_gd := zm (List.mem_of_getElem? (i := 1202) (by decide +kernel)) rfl
theorem im_X11_writes : Cond.instanceMethod yX11_writes ∈ lw_gd := zm (List.mem_of_getElem? (i := 1203) (by decide +kernel)) rfl
theorem se_X11_writes : Cond.selects RX11 yX11_writes yX11_writes ∈ lw_gd := zm (List.mem_of_getElem? (i := 1204) (by decide +kernel)) rfl
theorem co_X11_writes : Cond.code yX11_writes cX11_writes 4 (some .int) ∈ lw_gd := zm (List.mem_of_getElem? (i := 1205) (by decide +kernel)) rfl
theorem ml_L_86 : Cond.methodLink RL 86 yX12_writes ∈ lw_gd := zm (List.mem_of_getElem? (i := 2350) (by decide +kernel)) rfl
theorem im_X12_writes : Cond.instanceMethod yX12_writes ∈ lw_gd := zm (List.mem_of_getElem? (i := 2351) (by decide +kernel)) rfl
theorem se_X12_writes : Cond.selects RX12 yX12_writes yX12_writes ∈ lw_gd := zm (List.mem_of_getElem? (i := 2352) (by decide +kernel)) rfl
theorem co_X12_writes : Cond.code yX12_writes cX12_writes 4 (some .int) ∈ lw_gd := zm (List.mem_of_getElem? (i := 2353) (by decide +kernel)) rfl
theorem ml_L_87 : Cond.methodLink RL 87 yX11_spread ∈ lw_gd := zm (List.mem_of_getElem? (i := 1243) (by decide +kernel)) rfl
theorem im_X11_spread : Cond.instanceMethod yX11_spread ∈ lw_gd := zm (List.mem_of_getElem? (i := 1244) (by decide +kernel)) rfl
theorem se_X11_spread : Cond.selects RX11 yX11_spread yX11_spread ∈ lw_gd := zm (List.mem_of_getElem? (i := 1245) (by decide +kernel)) rfl
theorem co_X11_spread : Cond.code yX11_spread cX11_spread 5 (some .int) ∈ lw_gd := zm (List.mem_of_getElem? (i := 1246) (by decide +kernel)) rfl
theorem ml_L_90 : Cond.methodLink RL 90 yX12_spread ∈ lw_gd := zm (List.mem_of_getElem? (i := 2374) (by decide +kernel)) rfl
theorem im_X12_spread : Cond.instanceMethod yX12_spread ∈ lw_gd := zm (List.mem_of_getElem? (i := 2375) (by decide +kernel)) rfl
theorem se_X12_spread : Cond.selects RX12 yX12_spread yX12_spread ∈ lw_gd := zm (List.mem_of_getElem? (i := 2376) (by decide +kernel)) rfl
theorem co_X12_spread : Cond.code yX12_spread cX12_spread 5 (some .int) ∈ lw_gd := zm (List.mem_of_getElem? (i := 2377) (by decide +kernel)) rfl
theorem ml_L_91 : Cond.methodLink RL 91 yX11_lost ∈ lw_gd := zm (List.mem_of_getElem? (i := 1247) (by decide +kernel)) rfl
theorem im_X11_lost : Cond.instanceMethod yX11_lost ∈ lw_gd := zm (List.mem_of_getElem? (i := 1248) (by decide +kernel)) rfl
theorem se_X11_lost : Cond.selects RX11 yX11_lost yX11_lost ∈ lw_gd := zm (List.mem_of_getElem? (i := 1249) (by decide +kernel)) rfl
theorem co_X11_lost : Cond.code yX11_lost cX11_lost 2 (some .int) ∈ lw_gd := zm (List.mem_of_getElem? (i := 1250) (by decide +kernel)) rfl
theorem ml_L_94 : Cond.methodLink RL 94 yX12_lost ∈ lw_gd := zm (List.mem_of_getElem? (i := 2378) (by decide +kernel)) rfl
theorem im_X12_lost : Cond.instanceMethod yX12_lost ∈ lw_gd := zm (List.mem_of_getElem? (i := 2379) (by decide +kernel)) rfl
theorem se_X12_lost : Cond.selects RX12 yX12_lost yX12_lost ∈ lw_gd := zm (List.mem_of_getElem? (i := 2380) (by decide +kernel)) rfl
theorem co_X12_lost : Cond.code yX12_lost cX12_lost 2 (some .int) ∈ lw_gd := zm (List.mem_of_getElem? (i := 2381) (by decide +kernel)) rfl
theorem ml_L_95 : Cond.methodLink RL 95 yX11_worst ∈ lw_gd := zm (List.mem_of_getElem? (i := 1259) (by decide +kernel)) rfl
theorem im_X11_worst : Cond.instanceMethod yX11_worst ∈ lw_gd := zm (List.mem_of_getElem? (i := 1260) (by decide +kernel)) rfl
theorem se_X11_worst : Cond.selects RX11 yX11_worst yX11_worst ∈ lw_gd := zm (List.mem_of_getElem? (i := 1261) (by decide +kernel)) rfl
theorem co_X11_worst : Cond.code yX11_worst cX11_worst 6 (some .int) ∈ lw_gd := zm (List.mem_of_getElem? (i := 1262) (by decide +kernel)) rfl
theorem ml_L_98 : Cond.methodLink RL 98 yX12_worst ∈ lw_gd := zm (List.mem_of_getElem? (i := 2386) (by decide +kernel)) rfl
theorem im_X12_worst : Cond.instanceMethod yX12_worst ∈ lw_gd := zm (List.mem_of_getElem? (i := 2387) (by decide +kernel)) rfl
theorem se_X12_worst : Cond.selects RX12 yX12_worst yX12_worst ∈ lw_gd := zm (List.mem_of_getElem? (i := 2388) (by decide +kernel)) rfl
theorem co_X12_worst : Cond.code yX12_worst cX12_worst 4 (some .int) ∈ lw_gd := zm (List.mem_of_getElem? (i := 2389) (by decide +kernel)) rfl
theorem dL_law_528 : decode cL_law 528 = .ok (.aload_n 1, 1) := by decide +kernel
theorem dL_law_529 : decode cL_law 529 = .ok (.aload_n 0, 1) := by decide +kernel
theorem dL_law_530 : decode cL_law 530 = .ok (.iload_n 3, 1) := by decide +kernel
theorem dL_law_531 : decode cL_law 531 = .ok (.iconst 1, 1) := by decide +kernel
theorem dL_law_532 : decode cL_law 532 = .ok (.iadd, 1) := by decide +kernel
theorem dL_law_533 : decode cL_law 533 = .ok (.iaload, 1) := by decide +kernel
theorem dL_law_534 : decode cL_law 534 = .ok (.aload_n 0, 1) := by decide +kernel
theorem dL_law_535 : decode cL_law 535 = .ok (.iload_n 3, 1) := by decide +kernel
theorem dL_law_536 : decode cL_law 536 = .ok (.iconst 2, 1) := by decide +kernel
theorem dL_law_537 : decode cL_law 537 = .ok (.iadd, 1) := by decide +kernel
theorem dL_law_538 : decode cL_law 538 = .ok (.iaload, 1) := by decide +kernel
theorem dL_law_539 : decode cL_law 539 = .ok (.invokevirtual 59, 3) := by decide +kernel
theorem dL_law_542 : decode cL_law 542 = .ok (.aload_n 2, 1) := by decide +kernel
theorem dL_law_543 : decode cL_law 543 = .ok (.aload_n 0, 1) := by decide +kernel
theorem dL_law_544 : decode cL_law 544 = .ok (.iload_n 3, 1) := by decide +kernel
theorem dL_law_545 : decode cL_law 545 = .ok (.iconst 1, 1) := by decide +kernel
theorem dL_law_546 : decode cL_law 546 = .ok (.iadd, 1) := by decide +kernel
theorem dL_law_547 : decode cL_law 547 = .ok (.iaload, 1) := by decide +kernel
theorem dL_law_548 : decode cL_law 548 = .ok (.aload_n 0, 1) := by decide +kernel
theorem dL_law_549 : decode cL_law 549 = .ok (.iload_n 3, 1) := by decide +kernel
theorem dL_law_550 : decode cL_law 550 = .ok (.iconst 2, 1) := by decide +kernel
theorem dL_law_551 : decode cL_law 551 = .ok (.iadd, 1) := by decide +kernel
theorem dL_law_552 : decode cL_law 552 = .ok (.iaload, 1) := by decide +kernel
theorem dL_law_553 : decode cL_law 553 = .ok (.invokevirtual 62, 3) := by decide +kernel
theorem dL_law_556 : decode cL_law 556 = .ok (.if_icmp .eq 743, 3) := by decide +kernel
theorem dL_law_561 : decode cL_law 561 = .ok (.aload_n 1, 1) := by decide +kernel
theorem dL_law_562 : decode cL_law 562 = .ok (.aload_n 0, 1) := by decide +kernel
theorem dL_law_563 : decode cL_law 563 = .ok (.iload_n 3, 1) := by decide +kernel
theorem dL_law_564 : decode cL_law 564 = .ok (.iconst 1, 1) := by decide +kernel
theorem dL_law_565 : decode cL_law 565 = .ok (.iadd, 1) := by decide +kernel
theorem dL_law_566 : decode cL_law 566 = .ok (.iaload, 1) := by decide +kernel
theorem dL_law_567 : decode cL_law 567 = .ok (.aload_n 0, 1) := by decide +kernel
theorem dL_law_568 : decode cL_law 568 = .ok (.iload_n 3, 1) := by decide +kernel
theorem dL_law_569 : decode cL_law 569 = .ok (.iconst 2, 1) := by decide +kernel
theorem dL_law_570 : decode cL_law 570 = .ok (.iadd, 1) := by decide +kernel
theorem dL_law_571 : decode cL_law 571 = .ok (.iaload, 1) := by decide +kernel
theorem dL_law_572 : decode cL_law 572 = .ok (.invokevirtual 63, 3) := by decide +kernel
theorem dL_law_575 : decode cL_law 575 = .ok (.aload_n 2, 1) := by decide +kernel
theorem dL_law_576 : decode cL_law 576 = .ok (.aload_n 0, 1) := by decide +kernel
theorem dL_law_577 : decode cL_law 577 = .ok (.iload_n 3, 1) := by decide +kernel
theorem dL_law_578 : decode cL_law 578 = .ok (.iconst 1, 1) := by decide +kernel
theorem dL_law_579 : decode cL_law 579 = .ok (.iadd, 1) := by decide +kernel
theorem dL_law_580 : decode cL_law 580 = .ok (.iaload, 1) := by decide +kernel
theorem dL_law_581 : decode cL_law 581 = .ok (.aload_n 0, 1) := by decide +kernel
theorem dL_law_582 : decode cL_law 582 = .ok (.iload_n 3, 1) := by decide +kernel
theorem dL_law_583 : decode cL_law 583 = .ok (.iconst 2, 1) := by decide +kernel
theorem dL_law_584 : decode cL_law 584 = .ok (.iadd, 1) := by decide +kernel
theorem dL_law_585 : decode cL_law 585 = .ok (.iaload, 1) := by decide +kernel
theorem dL_law_586 : decode cL_law 586 = .ok (.invokevirtual 66, 3) := by decide +kernel
theorem dL_law_589 : decode cL_law 589 = .ok (.if_icmp .eq 710, 3) := by decide +kernel
theorem dL_law_594 : decode cL_law 594 = .ok (.aload_n 1, 1) := by decide +kernel
theorem dL_law_595 : decode cL_law 595 = .ok (.aload_n 0, 1) := by decide +kernel
theorem dL_law_596 : decode cL_law 596 = .ok (.iload_n 3, 1) := by decide +kernel
theorem dL_law_597 : decode cL_law 597 = .ok (.iconst 1, 1) := by decide +kernel
theorem dL_law_598 : decode cL_law 598 = .ok (.iadd, 1) := by decide +kernel
theorem dL_law_599 : decode cL_law 599 = .ok (.iaload, 1) := by decide +kernel
theorem dL_law_600 : decode cL_law 600 = .ok (.aload_n 0, 1) := by decide +kernel
theorem dL_law_601 : decode cL_law 601 = .ok (.iload_n 3, 1) := by decide +kernel
theorem dL_law_602 : decode cL_law 602 = .ok (.iconst 2, 1) := by decide +kernel
theorem dL_law_603 : decode cL_law 603 = .ok (.iadd, 1) := by decide +kernel
theorem dL_law_604 : decode cL_law 604 = .ok (.iaload, 1) := by decide +kernel
theorem dL_law_605 : decode cL_law 605 = .ok (.aload_n 0, 1) := by decide +kernel
theorem dL_law_606 : decode cL_law 606 = .ok (.iload_n 3, 1) := by decide +kernel
theorem dL_law_607 : decode cL_law 607 = .ok (.iconst 3, 1) := by decide +kernel
theorem dL_law_608 : decode cL_law 608 = .ok (.iadd, 1) := by decide +kernel
theorem dL_law_609 : decode cL_law 609 = .ok (.iaload, 1) := by decide +kernel
theorem dL_law_610 : decode cL_law 610 = .ok (.invokevirtual 67, 3) := by decide +kernel
theorem dL_law_613 : decode cL_law 613 = .ok (.aload_n 2, 1) := by decide +kernel
theorem dL_law_614 : decode cL_law 614 = .ok (.aload_n 0, 1) := by decide +kernel
theorem dL_law_615 : decode cL_law 615 = .ok (.iload_n 3, 1) := by decide +kernel
theorem dL_law_616 : decode cL_law 616 = .ok (.iconst 1, 1) := by decide +kernel
theorem dL_law_617 : decode cL_law 617 = .ok (.iadd, 1) := by decide +kernel
theorem dL_law_618 : decode cL_law 618 = .ok (.iaload, 1) := by decide +kernel
theorem dL_law_619 : decode cL_law 619 = .ok (.aload_n 0, 1) := by decide +kernel
theorem dL_law_620 : decode cL_law 620 = .ok (.iload_n 3, 1) := by decide +kernel
theorem dL_law_621 : decode cL_law 621 = .ok (.iconst 2, 1) := by decide +kernel
theorem dL_law_622 : decode cL_law 622 = .ok (.iadd, 1) := by decide +kernel
theorem dL_law_623 : decode cL_law 623 = .ok (.iaload, 1) := by decide +kernel
theorem dL_law_624 : decode cL_law 624 = .ok (.aload_n 0, 1) := by decide +kernel
theorem dL_law_625 : decode cL_law 625 = .ok (.iload_n 3, 1) := by decide +kernel
theorem dL_law_626 : decode cL_law 626 = .ok (.iconst 3, 1) := by decide +kernel
theorem dL_law_627 : decode cL_law 627 = .ok (.iadd, 1) := by decide +kernel
theorem dL_law_628 : decode cL_law 628 = .ok (.iaload, 1) := by decide +kernel
theorem dL_law_629 : decode cL_law 629 = .ok (.invokevirtual 70, 3) := by decide +kernel
theorem dL_law_632 : decode cL_law 632 = .ok (.if_icmp .eq 667, 3) := by decide +kernel
theorem dL_law_637 : decode cL_law 637 = .ok (.aload_n 1, 1) := by decide +kernel
theorem dL_law_638 : decode cL_law 638 = .ok (.aload_n 0, 1) := by decide +kernel
theorem dL_law_639 : decode cL_law 639 = .ok (.iload_n 3, 1) := by decide +kernel
theorem dL_law_640 : decode cL_law 640 = .ok (.iconst 1, 1) := by decide +kernel
theorem dL_law_641 : decode cL_law 641 = .ok (.iadd, 1) := by decide +kernel
theorem dL_law_642 : decode cL_law 642 = .ok (.iaload, 1) := by decide +kernel
theorem dL_law_643 : decode cL_law 643 = .ok (.aload_n 0, 1) := by decide +kernel
theorem dL_law_644 : decode cL_law 644 = .ok (.iload_n 3, 1) := by decide +kernel
theorem dL_law_645 : decode cL_law 645 = .ok (.iconst 2, 1) := by decide +kernel
theorem dL_law_646 : decode cL_law 646 = .ok (.iadd, 1) := by decide +kernel
theorem dL_law_647 : decode cL_law 647 = .ok (.iaload, 1) := by decide +kernel
theorem dL_law_648 : decode cL_law 648 = .ok (.aload_n 0, 1) := by decide +kernel
theorem dL_law_649 : decode cL_law 649 = .ok (.iload_n 3, 1) := by decide +kernel
theorem dL_law_650 : decode cL_law 650 = .ok (.iconst 3, 1) := by decide +kernel
theorem dL_law_651 : decode cL_law 651 = .ok (.iadd, 1) := by decide +kernel
theorem dL_law_652 : decode cL_law 652 = .ok (.iaload, 1) := by decide +kernel
theorem dL_law_653 : decode cL_law 653 = .ok (.invokevirtual 71, 3) := by decide +kernel
theorem dL_law_656 : decode cL_law 656 = .ok (.aload_n 2, 1) := by decide +kernel
theorem dL_law_657 : decode cL_law 657 = .ok (.aload_n 0, 1) := by decide +kernel
theorem dL_law_658 : decode cL_law 658 = .ok (.iload_n 3, 1) := by decide +kernel
theorem dL_law_659 : decode cL_law 659 = .ok (.iconst 1, 1) := by decide +kernel
theorem dL_law_660 : decode cL_law 660 = .ok (.iadd, 1) := by decide +kernel
theorem dL_law_661 : decode cL_law 661 = .ok (.iaload, 1) := by decide +kernel
theorem dL_law_662 : decode cL_law 662 = .ok (.aload_n 0, 1) := by decide +kernel
theorem dL_law_663 : decode cL_law 663 = .ok (.iload_n 3, 1) := by decide +kernel
theorem dL_law_664 : decode cL_law 664 = .ok (.iconst 2, 1) := by decide +kernel
theorem dL_law_665 : decode cL_law 665 = .ok (.iadd, 1) := by decide +kernel
theorem dL_law_666 : decode cL_law 666 = .ok (.iaload, 1) := by decide +kernel
theorem dL_law_667 : decode cL_law 667 = .ok (.aload_n 0, 1) := by decide +kernel
theorem dL_law_668 : decode cL_law 668 = .ok (.iload_n 3, 1) := by decide +kernel
theorem dL_law_669 : decode cL_law 669 = .ok (.iconst 3, 1) := by decide +kernel
theorem dL_law_670 : decode cL_law 670 = .ok (.iadd, 1) := by decide +kernel
theorem dL_law_671 : decode cL_law 671 = .ok (.iaload, 1) := by decide +kernel
theorem dL_law_672 : decode cL_law 672 = .ok (.invokevirtual 74, 3) := by decide +kernel
theorem dL_law_675 : decode cL_law 675 = .ok (.if_icmp .eq 624, 3) := by decide +kernel
theorem dL_law_680 : decode cL_law 680 = .ok (.aload_n 1, 1) := by decide +kernel
theorem dL_law_681 : decode cL_law 681 = .ok (.aload_n 0, 1) := by decide +kernel
theorem dL_law_682 : decode cL_law 682 = .ok (.iload_n 3, 1) := by decide +kernel
theorem dL_law_683 : decode cL_law 683 = .ok (.iconst 1, 1) := by decide +kernel
theorem dL_law_684 : decode cL_law 684 = .ok (.iadd, 1) := by decide +kernel
theorem dL_law_685 : decode cL_law 685 = .ok (.iaload, 1) := by decide +kernel
theorem dL_law_686 : decode cL_law 686 = .ok (.aload_n 0, 1) := by decide +kernel
theorem dL_law_687 : decode cL_law 687 = .ok (.iload_n 3, 1) := by decide +kernel
theorem dL_law_688 : decode cL_law 688 = .ok (.iconst 2, 1) := by decide +kernel
theorem dL_law_689 : decode cL_law 689 = .ok (.iadd, 1) := by decide +kernel
theorem dL_law_690 : decode cL_law 690 = .ok (.iaload, 1) := by decide +kernel
theorem dL_law_691 : decode cL_law 691 = .ok (.invokevirtual 75, 3) := by decide +kernel
theorem dL_law_694 : decode cL_law 694 = .ok (.aload_n 2, 1) := by decide +kernel
theorem dL_law_695 : decode cL_law 695 = .ok (.aload_n 0, 1) := by decide +kernel
theorem dL_law_696 : decode cL_law 696 = .ok (.iload_n 3, 1) := by decide +kernel
theorem dL_law_697 : decode cL_law 697 = .ok (.iconst 1, 1) := by decide +kernel
theorem dL_law_698 : decode cL_law 698 = .ok (.iadd, 1) := by decide +kernel
theorem dL_law_699 : decode cL_law 699 = .ok (.iaload, 1) := by decide +kernel
theorem dL_law_700 : decode cL_law 700 = .ok (.aload_n 0, 1) := by decide +kernel
theorem dL_law_701 : decode cL_law 701 = .ok (.iload_n 3, 1) := by decide +kernel
theorem dL_law_702 : decode cL_law 702 = .ok (.iconst 2, 1) := by decide +kernel
theorem dL_law_703 : decode cL_law 703 = .ok (.iadd, 1) := by decide +kernel
theorem dL_law_704 : decode cL_law 704 = .ok (.iaload, 1) := by decide +kernel
theorem dL_law_705 : decode cL_law 705 = .ok (.invokevirtual 78, 3) := by decide +kernel
theorem dL_law_708 : decode cL_law 708 = .ok (.if_icmp .eq 591, 3) := by decide +kernel
theorem dL_law_713 : decode cL_law 713 = .ok (.aload_n 1, 1) := by decide +kernel
theorem dL_law_714 : decode cL_law 714 = .ok (.aload_n 0, 1) := by decide +kernel
theorem dL_law_715 : decode cL_law 715 = .ok (.iload_n 3, 1) := by decide +kernel
theorem dL_law_716 : decode cL_law 716 = .ok (.iconst 1, 1) := by decide +kernel
theorem dL_law_717 : decode cL_law 717 = .ok (.iadd, 1) := by decide +kernel
theorem dL_law_718 : decode cL_law 718 = .ok (.iaload, 1) := by decide +kernel
theorem dL_law_719 : decode cL_law 719 = .ok (.aload_n 0, 1) := by decide +kernel
theorem dL_law_720 : decode cL_law 720 = .ok (.iload_n 3, 1) := by decide +kernel
theorem dL_law_721 : decode cL_law 721 = .ok (.iconst 2, 1) := by decide +kernel
theorem dL_law_722 : decode cL_law 722 = .ok (.iadd, 1) := by decide +kernel
theorem dL_law_723 : decode cL_law 723 = .ok (.iaload, 1) := by decide +kernel
theorem dL_law_724 : decode cL_law 724 = .ok (.aload_n 0, 1) := by decide +kernel
theorem dL_law_725 : decode cL_law 725 = .ok (.iload_n 3, 1) := by decide +kernel
theorem dL_law_726 : decode cL_law 726 = .ok (.iconst 3, 1) := by decide +kernel
theorem dL_law_727 : decode cL_law 727 = .ok (.iadd, 1) := by decide +kernel
theorem dL_law_728 : decode cL_law 728 = .ok (.iaload, 1) := by decide +kernel
theorem dL_law_729 : decode cL_law 729 = .ok (.invokevirtual 79, 3) := by decide +kernel
theorem dL_law_732 : decode cL_law 732 = .ok (.aload_n 2, 1) := by decide +kernel
theorem dL_law_733 : decode cL_law 733 = .ok (.aload_n 0, 1) := by decide +kernel
theorem dL_law_734 : decode cL_law 734 = .ok (.iload_n 3, 1) := by decide +kernel
theorem dL_law_735 : decode cL_law 735 = .ok (.iconst 1, 1) := by decide +kernel
theorem dL_law_736 : decode cL_law 736 = .ok (.iadd, 1) := by decide +kernel
theorem dL_law_737 : decode cL_law 737 = .ok (.iaload, 1) := by decide +kernel
theorem dL_law_738 : decode cL_law 738 = .ok (.aload_n 0, 1) := by decide +kernel
theorem dL_law_739 : decode cL_law 739 = .ok (.iload_n 3, 1) := by decide +kernel
theorem dL_law_740 : decode cL_law 740 = .ok (.iconst 2, 1) := by decide +kernel
theorem dL_law_741 : decode cL_law 741 = .ok (.iadd, 1) := by decide +kernel
theorem dL_law_742 : decode cL_law 742 = .ok (.iaload, 1) := by decide +kernel
theorem dL_law_743 : decode cL_law 743 = .ok (.aload_n 0, 1) := by decide +kernel
theorem dL_law_744 : decode cL_law 744 = .ok (.iload_n 3, 1) := by decide +kernel
theorem dL_law_745 : decode cL_law 745 = .ok (.iconst 3, 1) := by decide +kernel
theorem dL_law_746 : decode cL_law 746 = .ok (.iadd, 1) := by decide +kernel
theorem dL_law_747 : decode cL_law 747 = .ok (.iaload, 1) := by decide +kernel
theorem dL_law_748 : decode cL_law 748 = .ok (.invokevirtual 82, 3) := by decide +kernel
theorem dL_law_751 : decode cL_law 751 = .ok (.if_icmp .eq 548, 3) := by decide +kernel
theorem dL_law_756 : decode cL_law 756 = .ok (.aload_n 1, 1) := by decide +kernel
theorem dL_law_757 : decode cL_law 757 = .ok (.aload_n 0, 1) := by decide +kernel
theorem dL_law_758 : decode cL_law 758 = .ok (.iload_n 3, 1) := by decide +kernel
theorem dL_law_759 : decode cL_law 759 = .ok (.iconst 1, 1) := by decide +kernel
theorem dL_law_760 : decode cL_law 760 = .ok (.iadd, 1) := by decide +kernel
theorem dL_law_761 : decode cL_law 761 = .ok (.iaload, 1) := by decide +kernel
theorem dL_law_762 : decode cL_law 762 = .ok (.aload_n 0, 1) := by decide +kernel
theorem dL_law_763 : decode cL_law 763 = .ok (.iload_n 3, 1) := by decide +kernel
theorem dL_law_764 : decode cL_law 764 = .ok (.iconst 2, 1) := by decide +kernel
theorem dL_law_765 : decode cL_law 765 = .ok (.iadd, 1) := by decide +kernel
theorem dL_law_766 : decode cL_law 766 = .ok (.iaload, 1) := by decide +kernel
theorem dL_law_767 : decode cL_law 767 = .ok (.aload_n 0, 1) := by decide +kernel
theorem dL_law_768 : decode cL_law 768 = .ok (.iload_n 3, 1) := by decide +kernel
theorem dL_law_769 : decode cL_law 769 = .ok (.iconst 3, 1) := by decide +kernel
theorem dL_law_770 : decode cL_law 770 = .ok (.iadd, 1) := by decide +kernel
theorem dL_law_771 : decode cL_law 771 = .ok (.iaload, 1) := by decide +kernel
theorem dL_law_772 : decode cL_law 772 = .ok (.invokevirtual 83, 3) := by decide +kernel
theorem dL_law_775 : decode cL_law 775 = .ok (.aload_n 2, 1) := by decide +kernel
theorem dL_law_776 : decode cL_law 776 = .ok (.aload_n 0, 1) := by decide +kernel
theorem dL_law_777 : decode cL_law 777 = .ok (.iload_n 3, 1) := by decide +kernel
theorem dL_law_778 : decode cL_law 778 = .ok (.iconst 1, 1) := by decide +kernel
theorem dL_law_779 : decode cL_law 779 = .ok (.iadd, 1) := by decide +kernel
theorem dL_law_780 : decode cL_law 780 = .ok (.iaload, 1) := by decide +kernel
theorem dL_law_781 : decode cL_law 781 = .ok (.aload_n 0, 1) := by decide +kernel
theorem dL_law_782 : decode cL_law 782 = .ok (.iload_n 3, 1) := by decide +kernel
theorem dL_law_783 : decode cL_law 783 = .ok (.iconst 2, 1) := by decide +kernel
theorem dL_law_784 : decode cL_law 784 = .ok (.iadd, 1) := by decide +kernel
theorem dL_law_785 : decode cL_law 785 = .ok (.iaload, 1) := by decide +kernel
theorem dL_law_786 : decode cL_law 786 = .ok (.aload_n 0, 1) := by decide +kernel
theorem dL_law_787 : decode cL_law 787 = .ok (.iload_n 3, 1) := by decide +kernel
theorem dL_law_788 : decode cL_law 788 = .ok (.iconst 3, 1) := by decide +kernel
theorem dL_law_789 : decode cL_law 789 = .ok (.iadd, 1) := by decide +kernel
theorem dL_law_790 : decode cL_law 790 = .ok (.iaload, 1) := by decide +kernel
theorem dL_law_791 : decode cL_law 791 = .ok (.invokevirtual 86, 3) := by decide +kernel
theorem dL_law_794 : decode cL_law 794 = .ok (.if_icmp .eq 505, 3) := by decide +kernel
theorem dL_law_799 : decode cL_law 799 = .ok (.aload_n 1, 1) := by decide +kernel
theorem dL_law_800 : decode cL_law 800 = .ok (.aload_n 0, 1) := by decide +kernel
theorem dL_law_801 : decode cL_law 801 = .ok (.iload_n 3, 1) := by decide +kernel
theorem dL_law_802 : decode cL_law 802 = .ok (.iconst 1, 1) := by decide +kernel
theorem dL_law_803 : decode cL_law 803 = .ok (.iadd, 1) := by decide +kernel
theorem dL_law_804 : decode cL_law 804 = .ok (.iaload, 1) := by decide +kernel
theorem dL_law_805 : decode cL_law 805 = .ok (.aload_n 0, 1) := by decide +kernel
theorem dL_law_806 : decode cL_law 806 = .ok (.iload_n 3, 1) := by decide +kernel
theorem dL_law_807 : decode cL_law 807 = .ok (.iconst 2, 1) := by decide +kernel
theorem dL_law_808 : decode cL_law 808 = .ok (.iadd, 1) := by decide +kernel
theorem dL_law_809 : decode cL_law 809 = .ok (.iaload, 1) := by decide +kernel
theorem dL_law_810 : decode cL_law 810 = .ok (.invokevirtual 87, 3) := by decide +kernel
theorem dL_law_813 : decode cL_law 813 = .ok (.aload_n 2, 1) := by decide +kernel
theorem dL_law_814 : decode cL_law 814 = .ok (.aload_n 0, 1) := by decide +kernel
theorem dL_law_815 : decode cL_law 815 = .ok (.iload_n 3, 1) := by decide +kernel
theorem dL_law_816 : decode cL_law 816 = .ok (.iconst 1, 1) := by decide +kernel
theorem dL_law_817 : decode cL_law 817 = .ok (.iadd, 1) := by decide +kernel
theorem dL_law_818 : decode cL_law 818 = .ok (.iaload, 1) := by decide +kernel
theorem dL_law_819 : decode cL_law 819 = .ok (.aload_n 0, 1) := by decide +kernel
theorem dL_law_820 : decode cL_law 820 = .ok (.iload_n 3, 1) := by decide +kernel
theorem dL_law_821 : decode cL_law 821 = .ok (.iconst 2, 1) := by decide +kernel
theorem dL_law_822 : decode cL_law 822 = .ok (.iadd, 1) := by decide +kernel
theorem dL_law_823 : decode cL_law 823 = .ok (.iaload, 1) := by decide +kernel
theorem dL_law_824 : decode cL_law 824 = .ok (.invokevirtual 90, 3) := by decide +kernel
theorem dL_law_827 : decode cL_law 827 = .ok (.if_icmp .eq 472, 3) := by decide +kernel
theorem dL_law_832 : decode cL_law 832 = .ok (.aload_n 1, 1) := by decide +kernel
theorem dL_law_833 : decode cL_law 833 = .ok (.aload_n 0, 1) := by decide +kernel
theorem dL_law_834 : decode cL_law 834 = .ok (.iload_n 3, 1) := by decide +kernel
theorem dL_law_835 : decode cL_law 835 = .ok (.iconst 1, 1) := by decide +kernel
theorem dL_law_836 : decode cL_law 836 = .ok (.iadd, 1) := by decide +kernel
theorem dL_law_837 : decode cL_law 837 = .ok (.iaload, 1) := by decide +kernel
theorem dL_law_838 : decode cL_law 838 = .ok (.invokevirtual 91, 3) := by decide +kernel
theorem dL_law_841 : decode cL_law 841 = .ok (.aload_n 2, 1) := by decide +kernel
theorem dL_law_842 : decode cL_law 842 = .ok (.aload_n 0, 1) := by decide +kernel
theorem dL_law_843 : decode cL_law 843 = .ok (.iload_n 3, 1) := by decide +kernel
theorem dL_law_844 : decode cL_law 844 = .ok (.iconst 1, 1) := by decide +kernel
theorem dL_law_845 : decode cL_law 845 = .ok (.iadd, 1) := by decide +kernel
theorem dL_law_846 : decode cL_law 846 = .ok (.iaload, 1) := by decide +kernel
theorem dL_law_847 : decode cL_law 847 = .ok (.invokevirtual 94, 3) := by decide +kernel
theorem dL_law_850 : decode cL_law 850 = .ok (.if_icmp .eq 449, 3) := by decide +kernel
theorem dL_law_855 : decode cL_law 855 = .ok (.aload_n 1, 1) := by decide +kernel
theorem dL_law_856 : decode cL_law 856 = .ok (.aload_n 0, 1) := by decide +kernel
theorem dL_law_857 : decode cL_law 857 = .ok (.iload_n 3, 1) := by decide +kernel
theorem dL_law_858 : decode cL_law 858 = .ok (.iconst 1, 1) := by decide +kernel
theorem dL_law_859 : decode cL_law 859 = .ok (.iadd, 1) := by decide +kernel
theorem dL_law_860 : decode cL_law 860 = .ok (.iaload, 1) := by decide +kernel
theorem dL_law_861 : decode cL_law 861 = .ok (.invokevirtual 95, 3) := by decide +kernel
theorem dL_law_864 : decode cL_law 864 = .ok (.aload_n 2, 1) := by decide +kernel
theorem dL_law_865 : decode cL_law 865 = .ok (.aload_n 0, 1) := by decide +kernel
theorem dL_law_866 : decode cL_law 866 = .ok (.iload_n 3, 1) := by decide +kernel
theorem dL_law_867 : decode cL_law 867 = .ok (.iconst 1, 1) := by decide +kernel
theorem dL_law_868 : decode cL_law 868 = .ok (.iadd, 1) := by decide +kernel
theorem dL_law_869 : decode cL_law 869 = .ok (.iaload, 1) := by decide +kernel
theorem dL_law_870 : decode cL_law 870 = .ok (.invokevirtual 98, 3) := by decide +kernel
theorem dL_law_873 : decode cL_law 873 = .ok (.if_icmp .eq 426, 3) := by decide +kernel
set_option maxHeartbeats 4000000 in
set_option maxRecDepth 100000 in
/-- read -/
theorem lc_10 {p : Program} (l : Launch) {e : Env} {s : State} {m : MethodId} {below : List Frame} {meth : Method} {c : Code} {b : Nat} {xs : Nat → Int32} {H : Heap} {locs : List Loc} {ls : Array Slot} {A : Nat → Prop} {D : va_G} {ax am : Nat → Nat} (hx : p.tables.exec = Jvm.exec) (hb : c.code = cL_law) (hr : meth.sig.returnType = ret) (hlocks : meth.locks = false) (hml : c.maxLocals = 4) (hown : s.vm.findClass RL = some m.cls) (ht : ∀ w ∈ lw_gd, w.before #[Value.ref b] s = true) (hX : va_X b 6 xs s s.heap) (hbl : b < s.heap.size) (hA : ∀ q, s.heap.size ≤ q → A q) (hAs : ∀ q, A q → s.heap.size ≤ q) (hK : va_K D vwCl (TY D) s) (hP : va_P D vwCl [((ax 0), .inr (11, [.ref (ax 1), .ref (ax 2), .ref (ax 3), .ref (ax 4), .ref (ax 5), .ref (ax 6), .ref (ax 7), .ref (ax 8), .ref (ax 9), .ref (ax 10), .ref (ax 11), .ref (ax 12), .int 0])), ((ax 12), .inr (1, [.ref (ax 13), .ref (ax 14), .ref (ax 15), .int 1, .ref (ax 10), .ref (ax 16), .ref (ax 17), .ref (ax 18), .ref (ax 19)])), ((ax 13), .inr (8, [.int 0, .int 0, .long 0, .ref (ax 60), .ref (ax 61), .ref (ax 62), .ref (ax 63), .ref (ax 64), .ref (ax 65), .ref (ax 66), .ref (ax 67)])), ((ax 66), .inl (D.1 13, 8, .inl (fun _ => (-2)))), ((am 200), .inr (12, mO am 0 0 0 0 0 0 0 (-1) 0 0 1 0))] H) (hD : va_D A [((ax 0), .inr (11, [.ref (ax 1), .ref (ax 2), .ref (ax 3), .ref (ax 4), .ref (ax 5), .ref (ax 6), .ref (ax 7), .ref (ax 8), .ref (ax 9), .ref (ax 10), .ref (ax 11), .ref (ax 12), .int 0])), ((ax 12), .inr (1, [.ref (ax 13), .ref (ax 14), .ref (ax 15), .int 1, .ref (ax 10), .ref (ax 16), .ref (ax 17), .ref (ax 18), .ref (ax 19)])), ((ax 13), .inr (8, [.int 0, .int 0, .long 0, .ref (ax 60), .ref (ax 61), .ref (ax 62), .ref (ax 63), .ref (ax 64), .ref (ax 65), .ref (ax 66), .ref (ax 67)])), ((ax 66), .inl (D.1 13, 8, .inl (fun _ => (-2)))), ((am 200), .inr (12, mO am 0 0 0 0 0 0 0 (-1) 0 0 1 0))]) (hS : va_S A s.heap H locs) (hl : lv_has ls 4 [(3, .int 0), (2, .ref (am 200)), (1, .ref (ax 0)), (0, .ref b)]) : W p l e room_1 s m #[Value.ref b] below meth c H locs 164 46440 (lw_Z below #[Value.ref b] s) (F0 m 528 ls []) := by
  have hbA : ¬ A b := fun h => absurd (hAs b h) (Nat.not_le.mpr hbl)
  refine lv_aload_n hx hb dL_law_528 rfl (lv_at hl 2 rfl) ?_
  refine lv_aload_n hx hb dL_law_529 rfl (lv_at hl 3 rfl) ?_
  refine lv_iload_n hx hb dL_law_530 rfl (lv_at hl 0 rfl) ?_
  refine lv_iconst (v := 1) hx hb dL_law_531 (by decide) ?_
  refine lv_iadd hx hb dL_law_532 ?_
  refine z_topi (y := 1) (by decide) ?_
  refine va_sld hx hb hX hbl hbA hS (z_in (by decide) (by decide)) dL_law_533 ?_
  refine lv_topi (fun p1 e1 => ?_)
  refine lv_aload_n hx hb dL_law_534 rfl (lv_at hl 3 rfl) ?_
  refine lv_iload_n hx hb dL_law_535 rfl (lv_at hl 0 rfl) ?_
  refine lv_iconst (v := 2) hx hb dL_law_536 (by decide) ?_
  refine lv_iadd hx hb dL_law_537 ?_
  refine z_topi (y := 2) (by decide) ?_
  refine va_sld hx hb hX hbl hbA hS (z_in (by decide) (by decide)) dL_law_538 ?_
  refine lv_topi (fun p2 e2 => ?_)
  refine zcV (As := [.int p1, .int p2]) (rest := []) (C := RX11) (n := 2) ⟨hx, hb, hml, hown, ht⟩ (k_X11_read l D ax p1 p2) (zgV ml_L_59 im_X11_read se_X11_read in_X11 co_X11_read) rfl rfl (by decide +kernel) ⟨Nat.le_of_ble_eq_true rfl, Nat.le_of_ble_eq_true rfl⟩ hK hP hS [0, 1, 2, 3] rfl 0 rfl rfl rfl rfl hl.1 rfl (Nat.le_of_ble_eq_true rfl) dL_law_539 ⟨Nat.le_of_ble_eq_true rfl, Nat.le_of_ble_eq_true rfl⟩ (fun r_1 H locs hw hP hS => ?_)
  subst hw
  refine lv_aload_n hx hb dL_law_542 rfl (lv_at hl 1 rfl) ?_
  refine lv_aload_n hx hb dL_law_543 rfl (lv_at hl 3 rfl) ?_
  refine lv_iload_n hx hb dL_law_544 rfl (lv_at hl 0 rfl) ?_
  refine lv_iconst (v := 1) hx hb dL_law_545 (by decide) ?_
  refine lv_iadd hx hb dL_law_546 ?_
  refine z_topi (y := 1) (by decide) ?_
  refine va_sld hx hb hX hbl hbA hS (z_in (by decide) (by decide)) dL_law_547 ?_
  refine z_topi (y := p1) e1.symm ?_
  refine lv_aload_n hx hb dL_law_548 rfl (lv_at hl 3 rfl) ?_
  refine lv_iload_n hx hb dL_law_549 rfl (lv_at hl 0 rfl) ?_
  refine lv_iconst (v := 2) hx hb dL_law_550 (by decide) ?_
  refine lv_iadd hx hb dL_law_551 ?_
  refine z_topi (y := 2) (by decide) ?_
  refine va_sld hx hb hX hbl hbA hS (z_in (by decide) (by decide)) dL_law_552 ?_
  refine z_topi (y := p2) e2.symm ?_
  refine zcV (As := [.int p1, .int p2]) (rest := [.int (-1)]) (C := RX12) (n := 2) ⟨hx, hb, hml, hown, ht⟩ (k_X12_read l D am p1 p2) (zgV ml_L_62 im_X12_read se_X12_read in_X12 co_X12_read) rfl rfl (by decide +kernel) ⟨Nat.le_of_ble_eq_true rfl, Nat.le_of_ble_eq_true rfl⟩ hK hP hS [4] rfl 0 rfl rfl rfl rfl hl.1 rfl (Nat.le_of_ble_eq_true rfl) dL_law_553 ⟨Nat.le_of_ble_eq_true rfl, Nat.le_of_ble_eq_true rfl⟩ (fun r_2 H locs hw hP hS => ?_)
  subst hw
  refine lv_icmp_eq (tgt := 1299) hx hb dL_law_556 (by decide) (fun _ => ?_) (fun c_3 => (z_abs c_3 (by decide)).elim)
  exact lc_end hx hb hr hlocks hX hbl hAs hS (lv_sub hl [0, 3] rfl) (Nat.le_of_ble_eq_true rfl) (Nat.le_of_ble_eq_true rfl)
set_option maxHeartbeats 4000000 in
set_option maxRecDepth 100000 in
/-- key -/
theorem lc_11 {p : Program} (l : Launch) {e : Env} {s : State} {m : MethodId} {below : List Frame} {meth : Method} {c : Code} {b : Nat} {xs : Nat → Int32} {H : Heap} {locs : List Loc} {ls : Array Slot} {A : Nat → Prop} {D : va_G} {ax am : Nat → Nat} (hx : p.tables.exec = Jvm.exec) (hb : c.code = cL_law) (hr : meth.sig.returnType = ret) (hlocks : meth.locks = false) (hml : c.maxLocals = 4) (hown : s.vm.findClass RL = some m.cls) (ht : ∀ w ∈ lw_gd, w.before #[Value.ref b] s = true) (hX : va_X b 6 xs s s.heap) (hbl : b < s.heap.size) (hA : ∀ q, s.heap.size ≤ q → A q) (hAs : ∀ q, A q → s.heap.size ≤ q) (hK : va_K D vwCl (TY D) s) (hP : va_P D vwCl [((ax 0), .inr (11, [.ref (ax 1), .ref (ax 2), .ref (ax 3), .ref (ax 4), .ref (ax 5), .ref (ax 6), .ref (ax 7), .ref (ax 8), .ref (ax 9), .ref (ax 10), .ref (ax 11), .ref (ax 12), .int 0])), ((ax 12), .inr (1, [.ref (ax 13), .ref (ax 14), .ref (ax 15), .int 1, .ref (ax 10), .ref (ax 16), .ref (ax 17), .ref (ax 18), .ref (ax 19)])), ((ax 13), .inr (8, [.int 0, .int 0, .long 0, .ref (ax 60), .ref (ax 61), .ref (ax 62), .ref (ax 63), .ref (ax 64), .ref (ax 65), .ref (ax 66), .ref (ax 67)])), ((ax 66), .inl (D.1 13, 8, .inl (fun _ => (-2)))), ((am 200), .inr (12, mO am 0 0 0 0 0 0 0 (-1) 0 0 1 0))] H) (hD : va_D A [((ax 0), .inr (11, [.ref (ax 1), .ref (ax 2), .ref (ax 3), .ref (ax 4), .ref (ax 5), .ref (ax 6), .ref (ax 7), .ref (ax 8), .ref (ax 9), .ref (ax 10), .ref (ax 11), .ref (ax 12), .int 0])), ((ax 12), .inr (1, [.ref (ax 13), .ref (ax 14), .ref (ax 15), .int 1, .ref (ax 10), .ref (ax 16), .ref (ax 17), .ref (ax 18), .ref (ax 19)])), ((ax 13), .inr (8, [.int 0, .int 0, .long 0, .ref (ax 60), .ref (ax 61), .ref (ax 62), .ref (ax 63), .ref (ax 64), .ref (ax 65), .ref (ax 66), .ref (ax 67)])), ((ax 66), .inl (D.1 13, 8, .inl (fun _ => (-2)))), ((am 200), .inr (12, mO am 0 0 0 0 0 0 0 (-1) 0 0 1 0))]) (hS : va_S A s.heap H locs) (hl : lv_has ls 4 [(3, .int 0), (2, .ref (am 200)), (1, .ref (ax 0)), (0, .ref b)]) : W p l e room_1 s m #[Value.ref b] below meth c H locs 164 46440 (lw_Z below #[Value.ref b] s) (F0 m 561 ls []) := by
  have hbA : ¬ A b := fun h => absurd (hAs b h) (Nat.not_le.mpr hbl)
  refine lv_aload_n hx hb dL_law_561 rfl (lv_at hl 2 rfl) ?_
  refine lv_aload_n hx hb dL_law_562 rfl (lv_at hl 3 rfl) ?_
  refine lv_iload_n hx hb dL_law_563 rfl (lv_at hl 0 rfl) ?_
  refine lv_iconst (v := 1) hx hb dL_law_564 (by decide) ?_
  refine lv_iadd hx hb dL_law_565 ?_
  refine z_topi (y := 1) (by decide) ?_
  refine va_sld hx hb hX hbl hbA hS (z_in (by decide) (by decide)) dL_law_566 ?_
  refine lv_topi (fun p1 e1 => ?_)
  refine lv_aload_n hx hb dL_law_567 rfl (lv_at hl 3 rfl) ?_
  refine lv_iload_n hx hb dL_law_568 rfl (lv_at hl 0 rfl) ?_
  refine lv_iconst (v := 2) hx hb dL_law_569 (by decide) ?_
  refine lv_iadd hx hb dL_law_570 ?_
  refine z_topi (y := 2) (by decide) ?_
  refine va_sld hx hb hX hbl hbA hS (z_in (by decide) (by decide)) dL_law_571 ?_
  refine lv_topi (fun p2 e2 => ?_)
  refine zcV (As := [.int p1, .int p2]) (rest := []) (C := RX11) (n := 2) ⟨hx, hb, hml, hown, ht⟩ (k_X11_key l D ax p1 p2) (zgV ml_L_63 im_X11_key se_X11_key in_X11 co_X11_key) rfl rfl (by decide +kernel) ⟨Nat.le_of_ble_eq_true rfl, Nat.le_of_ble_eq_true rfl⟩ hK hP hS [0, 1, 2, 3] rfl 0 rfl rfl rfl rfl hl.1 rfl (Nat.le_of_ble_eq_true rfl) dL_law_572 ⟨Nat.le_of_ble_eq_true rfl, Nat.le_of_ble_eq_true rfl⟩ (fun r_1 H locs hw hP hS => ?_)
  subst hw
  refine lv_aload_n hx hb dL_law_575 rfl (lv_at hl 1 rfl) ?_
  refine lv_aload_n hx hb dL_law_576 rfl (lv_at hl 3 rfl) ?_
  refine lv_iload_n hx hb dL_law_577 rfl (lv_at hl 0 rfl) ?_
  refine lv_iconst (v := 1) hx hb dL_law_578 (by decide) ?_
  refine lv_iadd hx hb dL_law_579 ?_
  refine z_topi (y := 1) (by decide) ?_
  refine va_sld hx hb hX hbl hbA hS (z_in (by decide) (by decide)) dL_law_580 ?_
  refine z_topi (y := p1) e1.symm ?_
  refine lv_aload_n hx hb dL_law_581 rfl (lv_at hl 3 rfl) ?_
  refine lv_iload_n hx hb dL_law_582 rfl (lv_at hl 0 rfl) ?_
  refine lv_iconst (v := 2) hx hb dL_law_583 (by decide) ?_
  refine lv_iadd hx hb dL_law_584 ?_
  refine z_topi (y := 2) (by decide) ?_
  refine va_sld hx hb hX hbl hbA hS (z_in (by decide) (by decide)) dL_law_585 ?_
  refine z_topi (y := p2) e2.symm ?_
  refine zcV (As := [.int p1, .int p2]) (rest := [.int (-1)]) (C := RX12) (n := 2) ⟨hx, hb, hml, hown, ht⟩ (k_X12_key l D am p1 p2) (zgV ml_L_66 im_X12_key se_X12_key in_X12 co_X12_key) rfl rfl (by decide +kernel) ⟨Nat.le_of_ble_eq_true rfl, Nat.le_of_ble_eq_true rfl⟩ hK hP hS [4] rfl 0 rfl rfl rfl rfl hl.1 rfl (Nat.le_of_ble_eq_true rfl) dL_law_586 ⟨Nat.le_of_ble_eq_true rfl, Nat.le_of_ble_eq_true rfl⟩ (fun r_2 H locs hw hP hS => ?_)
  subst hw
  refine lv_icmp_eq (tgt := 1299) hx hb dL_law_589 (by decide) (fun _ => ?_) (fun c_3 => (z_abs c_3 (by decide)).elim)
  exact lc_end hx hb hr hlocks hX hbl hAs hS (lv_sub hl [0, 3] rfl) (Nat.le_of_ble_eq_true rfl) (Nat.le_of_ble_eq_true rfl)
set_option maxHeartbeats 4000000 in
set_option maxRecDepth 100000 in
/-- total -/
theorem lc_12 {p : Program} (l : Launch) {e : Env} {s : State} {m : MethodId} {below : List Frame} {meth : Method} {c : Code} {b : Nat} {xs : Nat → Int32} {H : Heap} {locs : List Loc} {ls : Array Slot} {A : Nat → Prop} {D : va_G} {ax am : Nat → Nat} (hx : p.tables.exec = Jvm.exec) (hb : c.code = cL_law) (hr : meth.sig.returnType = ret) (hlocks : meth.locks = false) (hml : c.maxLocals = 4) (hown : s.vm.findClass RL = some m.cls) (ht : ∀ w ∈ lw_gd, w.before #[Value.ref b] s = true) (hX : va_X b 6 xs s s.heap) (hbl : b < s.heap.size) (hA : ∀ q, s.heap.size ≤ q → A q) (hAs : ∀ q, A q → s.heap.size ≤ q) (hK : va_K D vwCl (TY D) s) (hP : va_P D vwCl [((ax 0), .inr (11, [.ref (ax 1), .ref (ax 2), .ref (ax 3), .ref (ax 4), .ref (ax 5), .ref (ax 6), .ref (ax 7), .ref (ax 8), .ref (ax 9), .ref (ax 10), .ref (ax 11), .ref (ax 12), .int 0])), ((ax 12), .inr (1, [.ref (ax 13), .ref (ax 14), .ref (ax 15), .int 1, .ref (ax 10), .ref (ax 16), .ref (ax 17), .ref (ax 18), .ref (ax 19)])), ((ax 13), .inr (8, [.int 0, .int 0, .long 0, .ref (ax 60), .ref (ax 61), .ref (ax 62), .ref (ax 63), .ref (ax 64), .ref (ax 65), .ref (ax 66), .ref (ax 67)])), ((ax 66), .inl (D.1 13, 8, .inl (fun _ => (-2)))), ((am 200), .inr (12, mO am 0 0 0 0 0 0 0 (-1) 0 0 1 0))] H) (hD : va_D A [((ax 0), .inr (11, [.ref (ax 1), .ref (ax 2), .ref (ax 3), .ref (ax 4), .ref (ax 5), .ref (ax 6), .ref (ax 7), .ref (ax 8), .ref (ax 9), .ref (ax 10), .ref (ax 11), .ref (ax 12), .int 0])), ((ax 12), .inr (1, [.ref (ax 13), .ref (ax 14), .ref (ax 15), .int 1, .ref (ax 10), .ref (ax 16), .ref (ax 17), .ref (ax 18), .ref (ax 19)])), ((ax 13), .inr (8, [.int 0, .int 0, .long 0, .ref (ax 60), .ref (ax 61), .ref (ax 62), .ref (ax 63), .ref (ax 64), .ref (ax 65), .ref (ax 66), .ref (ax 67)])), ((ax 66), .inl (D.1 13, 8, .inl (fun _ => (-2)))), ((am 200), .inr (12, mO am 0 0 0 0 0 0 0 (-1) 0 0 1 0))]) (hS : va_S A s.heap H locs) (hl : lv_has ls 4 [(3, .int 0), (2, .ref (am 200)), (1, .ref (ax 0)), (0, .ref b)]) : W p l e room_1 s m #[Value.ref b] below meth c H locs 164 46440 (lw_Z below #[Value.ref b] s) (F0 m 594 ls []) := by
  have hbA : ¬ A b := fun h => absurd (hAs b h) (Nat.not_le.mpr hbl)
  refine lv_aload_n hx hb dL_law_594 rfl (lv_at hl 2 rfl) ?_
  refine lv_aload_n hx hb dL_law_595 rfl (lv_at hl 3 rfl) ?_
  refine lv_iload_n hx hb dL_law_596 rfl (lv_at hl 0 rfl) ?_
  refine lv_iconst (v := 1) hx hb dL_law_597 (by decide) ?_
  refine lv_iadd hx hb dL_law_598 ?_
  refine z_topi (y := 1) (by decide) ?_
  refine va_sld hx hb hX hbl hbA hS (z_in (by decide) (by decide)) dL_law_599 ?_
  refine lv_topi (fun p1 e1 => ?_)
  refine lv_aload_n hx hb dL_law_600 rfl (lv_at hl 3 rfl) ?_
  refine lv_iload_n hx hb dL_law_601 rfl (lv_at hl 0 rfl) ?_
  refine lv_iconst (v := 2) hx hb dL_law_602 (by decide) ?_
  refine lv_iadd hx hb dL_law_603 ?_
  refine z_topi (y := 2) (by decide) ?_
  refine va_sld hx hb hX hbl hbA hS (z_in (by decide) (by decide)) dL_law_604 ?_
  refine lv_topi (fun p2 e2 => ?_)
  refine lv_aload_n hx hb dL_law_605 rfl (lv_at hl 3 rfl) ?_
  refine lv_iload_n hx hb dL_law_606 rfl (lv_at hl 0 rfl) ?_
  refine lv_iconst (v := 3) hx hb dL_law_607 (by decide) ?_
  refine lv_iadd hx hb dL_law_608 ?_
  refine z_topi (y := 3) (by decide) ?_
  refine va_sld hx hb hX hbl hbA hS (z_in (by decide) (by decide)) dL_law_609 ?_
  refine lv_topi (fun p3 e3 => ?_)
  refine zcV (As := [.int p1, .int p2, .int p3]) (rest := []) (C := RX11) (n := 3) ⟨hx, hb, hml, hown, ht⟩ (k_X11_total l D ax p1 p2 p3) (zgV ml_L_67 im_X11_total se_X11_total in_X11 co_X11_total) rfl rfl (by decide +kernel) ⟨Nat.le_of_ble_eq_true rfl, Nat.le_of_ble_eq_true rfl⟩ hK hP hS [0, 1, 2, 3] rfl 0 rfl rfl rfl rfl hl.1 rfl (Nat.le_of_ble_eq_true rfl) dL_law_610 ⟨Nat.le_of_ble_eq_true rfl, Nat.le_of_ble_eq_true rfl⟩ (fun r_1 H locs hw hP hS => ?_)
  subst hw
  refine lv_aload_n hx hb dL_law_613 rfl (lv_at hl 1 rfl) ?_
  refine lv_aload_n hx hb dL_law_614 rfl (lv_at hl 3 rfl) ?_
  refine lv_iload_n hx hb dL_law_615 rfl (lv_at hl 0 rfl) ?_
  refine lv_iconst (v := 1) hx hb dL_law_616 (by decide) ?_
  refine lv_iadd hx hb dL_law_617 ?_
  refine z_topi (y := 1) (by decide) ?_
  refine va_sld hx hb hX hbl hbA hS (z_in (by decide) (by decide)) dL_law_618 ?_
  refine z_topi (y := p1) e1.symm ?_
  refine lv_aload_n hx hb dL_law_619 rfl (lv_at hl 3 rfl) ?_
  refine lv_iload_n hx hb dL_law_620 rfl (lv_at hl 0 rfl) ?_
  refine lv_iconst (v := 2) hx hb dL_law_621 (by decide) ?_
  refine lv_iadd hx hb dL_law_622 ?_
  refine z_topi (y := 2) (by decide) ?_
  refine va_sld hx hb hX hbl hbA hS (z_in (by decide) (by decide)) dL_law_623 ?_
  refine z_topi (y := p2) e2.symm ?_
  refine lv_aload_n hx hb dL_law_624 rfl (lv_at hl 3 rfl) ?_
  refine lv_iload_n hx hb dL_law_625 rfl (lv_at hl 0 rfl) ?_
  refine lv_iconst (v := 3) hx hb dL_law_626 (by decide) ?_
  refine lv_iadd hx hb dL_law_627 ?_
  refine z_topi (y := 3) (by decide) ?_
  refine va_sld hx hb hX hbl hbA hS (z_in (by decide) (by decide)) dL_law_628 ?_
  refine z_topi (y := p3) e3.symm ?_
  refine zcV (As := [.int p1, .int p2, .int p3]) (rest := [.int (-1)]) (C := RX12) (n := 3) ⟨hx, hb, hml, hown, ht⟩ (k_X12_total l D am p1 p2 p3) (zgV ml_L_70 im_X12_total se_X12_total in_X12 co_X12_total) rfl rfl (by decide +kernel) ⟨Nat.le_of_ble_eq_true rfl, Nat.le_of_ble_eq_true rfl⟩ hK hP hS [4] rfl 0 rfl rfl rfl rfl hl.1 rfl (Nat.le_of_ble_eq_true rfl) dL_law_629 ⟨Nat.le_of_ble_eq_true rfl, Nat.le_of_ble_eq_true rfl⟩ (fun r_2 H locs hw hP hS => ?_)
  subst hw
  refine lv_icmp_eq (tgt := 1299) hx hb dL_law_632 (by decide) (fun _ => ?_) (fun c_3 => (z_abs c_3 (by decide)).elim)
  exact lc_end hx hb hr hlocks hX hbl hAs hS (lv_sub hl [0, 3] rfl) (Nat.le_of_ble_eq_true rfl) (Nat.le_of_ble_eq_true rfl)
set_option maxHeartbeats 4000000 in
set_option maxRecDepth 100000 in
/-- path -/
theorem lc_13 {p : Program} (l : Launch) {e : Env} {s : State} {m : MethodId} {below : List Frame} {meth : Method} {c : Code} {b : Nat} {xs : Nat → Int32} {H : Heap} {locs : List Loc} {ls : Array Slot} {A : Nat → Prop} {D : va_G} {ax am : Nat → Nat} (hx : p.tables.exec = Jvm.exec) (hb : c.code = cL_law) (hr : meth.sig.returnType = ret) (hlocks : meth.locks = false) (hml : c.maxLocals = 4) (hown : s.vm.findClass RL = some m.cls) (ht : ∀ w ∈ lw_gd, w.before #[Value.ref b] s = true) (hX : va_X b 6 xs s s.heap) (hbl : b < s.heap.size) (hA : ∀ q, s.heap.size ≤ q → A q) (hAs : ∀ q, A q → s.heap.size ≤ q) (hK : va_K D vwCl (TY D) s) (hP : va_P D vwCl [((ax 0), .inr (11, [.ref (ax 1), .ref (ax 2), .ref (ax 3), .ref (ax 4), .ref (ax 5), .ref (ax 6), .ref (ax 7), .ref (ax 8), .ref (ax 9), .ref (ax 10), .ref (ax 11), .ref (ax 12), .int 0])), ((ax 12), .inr (1, [.ref (ax 13), .ref (ax 14), .ref (ax 15), .int 1, .ref (ax 10), .ref (ax 16), .ref (ax 17), .ref (ax 18), .ref (ax 19)])), ((ax 13), .inr (8, [.int 0, .int 0, .long 0, .ref (ax 60), .ref (ax 61), .ref (ax 62), .ref (ax 63), .ref (ax 64), .ref (ax 65), .ref (ax 66), .ref (ax 67)])), ((ax 66), .inl (D.1 13, 8, .inl (fun _ => (-2)))), ((am 200), .inr (12, mO am 0 0 0 0 0 0 0 (-1) 0 0 1 0))] H) (hD : va_D A [((ax 0), .inr (11, [.ref (ax 1), .ref (ax 2), .ref (ax 3), .ref (ax 4), .ref (ax 5), .ref (ax 6), .ref (ax 7), .ref (ax 8), .ref (ax 9), .ref (ax 10), .ref (ax 11), .ref (ax 12), .int 0])), ((ax 12), .inr (1, [.ref (ax 13), .ref (ax 14), .ref (ax 15), .int 1, .ref (ax 10), .ref (ax 16), .ref (ax 17), .ref (ax 18), .ref (ax 19)])), ((ax 13), .inr (8, [.int 0, .int 0, .long 0, .ref (ax 60), .ref (ax 61), .ref (ax 62), .ref (ax 63), .ref (ax 64), .ref (ax 65), .ref (ax 66), .ref (ax 67)])), ((ax 66), .inl (D.1 13, 8, .inl (fun _ => (-2)))), ((am 200), .inr (12, mO am 0 0 0 0 0 0 0 (-1) 0 0 1 0))]) (hS : va_S A s.heap H locs) (hl : lv_has ls 4 [(3, .int 0), (2, .ref (am 200)), (1, .ref (ax 0)), (0, .ref b)]) : W p l e room_1 s m #[Value.ref b] below meth c H locs 164 46440 (lw_Z below #[Value.ref b] s) (F0 m 637 ls []) := by
  have hbA : ¬ A b := fun h => absurd (hAs b h) (Nat.not_le.mpr hbl)
  refine lv_aload_n hx hb dL_law_637 rfl (lv_at hl 2 rfl) ?_
  refine lv_aload_n hx hb dL_law_638 rfl (lv_at hl 3 rfl) ?_
  refine lv_iload_n hx hb dL_law_639 rfl (lv_at hl 0 rfl) ?_
  refine lv_iconst (v := 1) hx hb dL_law_640 (by decide) ?_
  refine lv_iadd hx hb dL_law_641 ?_
  refine z_topi (y := 1) (by decide) ?_
  refine va_sld hx hb hX hbl hbA hS (z_in (by decide) (by decide)) dL_law_642 ?_
  refine lv_topi (fun p1 e1 => ?_)
  refine lv_aload_n hx hb dL_law_643 rfl (lv_at hl 3 rfl) ?_
  refine lv_iload_n hx hb dL_law_644 rfl (lv_at hl 0 rfl) ?_
  refine lv_iconst (v := 2) hx hb dL_law_645 (by decide) ?_
  refine lv_iadd hx hb dL_law_646 ?_
  refine z_topi (y := 2) (by decide) ?_
  refine va_sld hx hb hX hbl hbA hS (z_in (by decide) (by decide)) dL_law_647 ?_
  refine lv_topi (fun p2 e2 => ?_)
  refine lv_aload_n hx hb dL_law_648 rfl (lv_at hl 3 rfl) ?_
  refine lv_iload_n hx hb dL_law_649 rfl (lv_at hl 0 rfl) ?_
  refine lv_iconst (v := 3) hx hb dL_law_650 (by decide) ?_
  refine lv_iadd hx hb dL_law_651 ?_
  refine z_topi (y := 3) (by decide) ?_
  refine va_sld hx hb hX hbl hbA hS (z_in (by decide) (by decide)) dL_law_652 ?_
  refine lv_topi (fun p3 e3 => ?_)
  refine zcV (As := [.int p1, .int p2, .int p3]) (rest := []) (C := RX11) (n := 3) ⟨hx, hb, hml, hown, ht⟩ (k_X11_path l D ax p1 p2 p3) (zgV ml_L_71 im_X11_path se_X11_path in_X11 co_X11_path) rfl rfl (by decide +kernel) ⟨Nat.le_of_ble_eq_true rfl, Nat.le_of_ble_eq_true rfl⟩ hK hP hS [0, 1, 2, 3] rfl 0 rfl rfl rfl rfl hl.1 rfl (Nat.le_of_ble_eq_true rfl) dL_law_653 ⟨Nat.le_of_ble_eq_true rfl, Nat.le_of_ble_eq_true rfl⟩ (fun r_1 H locs hw hP hS => ?_)
  subst hw
  refine lv_aload_n hx hb dL_law_656 rfl (lv_at hl 1 rfl) ?_
  refine lv_aload_n hx hb dL_law_657 rfl (lv_at hl 3 rfl) ?_
  refine lv_iload_n hx hb dL_law_658 rfl (lv_at hl 0 rfl) ?_
  refine lv_iconst (v := 1) hx hb dL_law_659 (by decide) ?_
  refine lv_iadd hx hb dL_law_660 ?_
  refine z_topi (y := 1) (by decide) ?_
  refine va_sld hx hb hX hbl hbA hS (z_in (by decide) (by decide)) dL_law_661 ?_
  refine z_topi (y := p1) e1.symm ?_
  refine lv_aload_n hx hb dL_law_662 rfl (lv_at hl 3 rfl) ?_
  refine lv_iload_n hx hb dL_law_663 rfl (lv_at hl 0 rfl) ?_
  refine lv_iconst (v := 2) hx hb dL_law_664 (by decide) ?_
  refine lv_iadd hx hb dL_law_665 ?_
  refine z_topi (y := 2) (by decide) ?_
  refine va_sld hx hb hX hbl hbA hS (z_in (by decide) (by decide)) dL_law_666 ?_
  refine z_topi (y := p2) e2.symm ?_
  refine lv_aload_n hx hb dL_law_667 rfl (lv_at hl 3 rfl) ?_
  refine lv_iload_n hx hb dL_law_668 rfl (lv_at hl 0 rfl) ?_
  refine lv_iconst (v := 3) hx hb dL_law_669 (by decide) ?_
  refine lv_iadd hx hb dL_law_670 ?_
  refine z_topi (y := 3) (by decide) ?_
  refine va_sld hx hb hX hbl hbA hS (z_in (by decide) (by decide)) dL_law_671 ?_
  refine z_topi (y := p3) e3.symm ?_
  refine zcV (As := [.int p1, .int p2, .int p3]) (rest := [.int (-1)]) (C := RX12) (n := 3) ⟨hx, hb, hml, hown, ht⟩ (k_X12_path l D am p1 p2 p3) (zgV ml_L_74 im_X12_path se_X12_path in_X12 co_X12_path) rfl rfl (by decide +kernel) ⟨Nat.le_of_ble_eq_true rfl, Nat.le_of_ble_eq_true rfl⟩ hK hP hS [4] rfl 0 rfl rfl rfl rfl hl.1 rfl (Nat.le_of_ble_eq_true rfl) dL_law_672 ⟨Nat.le_of_ble_eq_true rfl, Nat.le_of_ble_eq_true rfl⟩ (fun r_2 H locs hw hP hS => ?_)
  subst hw
  refine lv_icmp_eq (tgt := 1299) hx hb dL_law_675 (by decide) (fun _ => ?_) (fun c_3 => (z_abs c_3 (by decide)).elim)
  exact lc_end hx hb hr hlocks hX hbl hAs hS (lv_sub hl [0, 3] rfl) (Nat.le_of_ble_eq_true rfl) (Nat.le_of_ble_eq_true rfl)
set_option maxHeartbeats 4000000 in
set_option maxRecDepth 100000 in
/-- shared -/
theorem lc_14 {p : Program} (l : Launch) {e : Env} {s : State} {m : MethodId} {below : List Frame} {meth : Method} {c : Code} {b : Nat} {xs : Nat → Int32} {H : Heap} {locs : List Loc} {ls : Array Slot} {A : Nat → Prop} {D : va_G} {ax am : Nat → Nat} (hx : p.tables.exec = Jvm.exec) (hb : c.code = cL_law) (hr : meth.sig.returnType = ret) (hlocks : meth.locks = false) (hml : c.maxLocals = 4) (hown : s.vm.findClass RL = some m.cls) (ht : ∀ w ∈ lw_gd, w.before #[Value.ref b] s = true) (hX : va_X b 6 xs s s.heap) (hbl : b < s.heap.size) (hA : ∀ q, s.heap.size ≤ q → A q) (hAs : ∀ q, A q → s.heap.size ≤ q) (hK : va_K D vwCl (TY D) s) (hP : va_P D vwCl [((ax 0), .inr (11, [.ref (ax 1), .ref (ax 2), .ref (ax 3), .ref (ax 4), .ref (ax 5), .ref (ax 6), .ref (ax 7), .ref (ax 8), .ref (ax 9), .ref (ax 10), .ref (ax 11), .ref (ax 12), .int 0])), ((ax 12), .inr (1, [.ref (ax 13), .ref (ax 14), .ref (ax 15), .int 1, .ref (ax 10), .ref (ax 16), .ref (ax 17), .ref (ax 18), .ref (ax 19)])), ((ax 13), .inr (8, [.int 0, .int 0, .long 0, .ref (ax 60), .ref (ax 61), .ref (ax 62), .ref (ax 63), .ref (ax 64), .ref (ax 65), .ref (ax 66), .ref (ax 67)])), ((ax 66), .inl (D.1 13, 8, .inl (fun _ => (-2)))), ((am 200), .inr (12, mO am 0 0 0 0 0 0 0 (-1) 0 0 1 0))] H) (hD : va_D A [((ax 0), .inr (11, [.ref (ax 1), .ref (ax 2), .ref (ax 3), .ref (ax 4), .ref (ax 5), .ref (ax 6), .ref (ax 7), .ref (ax 8), .ref (ax 9), .ref (ax 10), .ref (ax 11), .ref (ax 12), .int 0])), ((ax 12), .inr (1, [.ref (ax 13), .ref (ax 14), .ref (ax 15), .int 1, .ref (ax 10), .ref (ax 16), .ref (ax 17), .ref (ax 18), .ref (ax 19)])), ((ax 13), .inr (8, [.int 0, .int 0, .long 0, .ref (ax 60), .ref (ax 61), .ref (ax 62), .ref (ax 63), .ref (ax 64), .ref (ax 65), .ref (ax 66), .ref (ax 67)])), ((ax 66), .inl (D.1 13, 8, .inl (fun _ => (-2)))), ((am 200), .inr (12, mO am 0 0 0 0 0 0 0 (-1) 0 0 1 0))]) (hS : va_S A s.heap H locs) (hl : lv_has ls 4 [(3, .int 0), (2, .ref (am 200)), (1, .ref (ax 0)), (0, .ref b)]) : W p l e room_1 s m #[Value.ref b] below meth c H locs 164 46440 (lw_Z below #[Value.ref b] s) (F0 m 680 ls []) := by
  have hbA : ¬ A b := fun h => absurd (hAs b h) (Nat.not_le.mpr hbl)
  refine lv_aload_n hx hb dL_law_680 rfl (lv_at hl 2 rfl) ?_
  refine lv_aload_n hx hb dL_law_681 rfl (lv_at hl 3 rfl) ?_
  refine lv_iload_n hx hb dL_law_682 rfl (lv_at hl 0 rfl) ?_
  refine lv_iconst (v := 1) hx hb dL_law_683 (by decide) ?_
  refine lv_iadd hx hb dL_law_684 ?_
  refine z_topi (y := 1) (by decide) ?_
  refine va_sld hx hb hX hbl hbA hS (z_in (by decide) (by decide)) dL_law_685 ?_
  refine lv_topi (fun p1 e1 => ?_)
  refine lv_aload_n hx hb dL_law_686 rfl (lv_at hl 3 rfl) ?_
  refine lv_iload_n hx hb dL_law_687 rfl (lv_at hl 0 rfl) ?_
  refine lv_iconst (v := 2) hx hb dL_law_688 (by decide) ?_
  refine lv_iadd hx hb dL_law_689 ?_
  refine z_topi (y := 2) (by decide) ?_
  refine va_sld hx hb hX hbl hbA hS (z_in (by decide) (by decide)) dL_law_690 ?_
  refine lv_topi (fun p2 e2 => ?_)
  refine zcV (As := [.int p1, .int p2]) (rest := []) (C := RX11) (n := 2) ⟨hx, hb, hml, hown, ht⟩ (k_X11_shared l D ax p1 p2) (zgV ml_L_75 im_X11_shared se_X11_shared in_X11 co_X11_shared) rfl rfl (by decide +kernel) ⟨Nat.le_of_ble_eq_true rfl, Nat.le_of_ble_eq_true rfl⟩ hK hP hS [0, 1, 2, 3] rfl 0 rfl rfl rfl rfl hl.1 rfl (Nat.le_of_ble_eq_true rfl) dL_law_691 ⟨Nat.le_of_ble_eq_true rfl, Nat.le_of_ble_eq_true rfl⟩ (fun r_1 H locs hw hP hS => ?_)
  subst hw
  refine lv_aload_n hx hb dL_law_694 rfl (lv_at hl 1 rfl) ?_
  refine lv_aload_n hx hb dL_law_695 rfl (lv_at hl 3 rfl) ?_
  refine lv_iload_n hx hb dL_law_696 rfl (lv_at hl 0 rfl) ?_
  refine lv_iconst (v := 1) hx hb dL_law_697 (by decide) ?_
  refine lv_iadd hx hb dL_law_698 ?_
  refine z_topi (y := 1) (by decide) ?_
  refine va_sld hx hb hX hbl hbA hS (z_in (by decide) (by decide)) dL_law_699 ?_
  refine z_topi (y := p1) e1.symm ?_
  refine lv_aload_n hx hb dL_law_700 rfl (lv_at hl 3 rfl) ?_
  refine lv_iload_n hx hb dL_law_701 rfl (lv_at hl 0 rfl) ?_
  refine lv_iconst (v := 2) hx hb dL_law_702 (by decide) ?_
  refine lv_iadd hx hb dL_law_703 ?_
  refine z_topi (y := 2) (by decide) ?_
  refine va_sld hx hb hX hbl hbA hS (z_in (by decide) (by decide)) dL_law_704 ?_
  refine z_topi (y := p2) e2.symm ?_
  refine zcV (As := [.int p1, .int p2]) (rest := [.int (-1)]) (C := RX12) (n := 2) ⟨hx, hb, hml, hown, ht⟩ (k_X12_shared l D am p1 p2) (zgV ml_L_78 im_X12_shared se_X12_shared in_X12 co_X12_shared) rfl rfl (by decide +kernel) ⟨Nat.le_of_ble_eq_true rfl, Nat.le_of_ble_eq_true rfl⟩ hK hP hS [4] rfl 0 rfl rfl rfl rfl hl.1 rfl (Nat.le_of_ble_eq_true rfl) dL_law_705 ⟨Nat.le_of_ble_eq_true rfl, Nat.le_of_ble_eq_true rfl⟩ (fun r_2 H locs hw hP hS => ?_)
  subst hw
  refine lv_icmp_eq (tgt := 1299) hx hb dL_law_708 (by decide) (fun _ => ?_) (fun c_3 => (z_abs c_3 (by decide)).elim)
  exact lc_end hx hb hr hlocks hX hbl hAs hS (lv_sub hl [0, 3] rfl) (Nat.le_of_ble_eq_true rfl) (Nat.le_of_ble_eq_true rfl)
set_option maxHeartbeats 4000000 in
set_option maxRecDepth 100000 in
/-- differs -/
theorem lc_15 {p : Program} (l : Launch) {e : Env} {s : State} {m : MethodId} {below : List Frame} {meth : Method} {c : Code} {b : Nat} {xs : Nat → Int32} {H : Heap} {locs : List Loc} {ls : Array Slot} {A : Nat → Prop} {D : va_G} {ax am : Nat → Nat} (hx : p.tables.exec = Jvm.exec) (hb : c.code = cL_law) (hr : meth.sig.returnType = ret) (hlocks : meth.locks = false) (hml : c.maxLocals = 4) (hown : s.vm.findClass RL = some m.cls) (ht : ∀ w ∈ lw_gd, w.before #[Value.ref b] s = true) (hX : va_X b 6 xs s s.heap) (hbl : b < s.heap.size) (hA : ∀ q, s.heap.size ≤ q → A q) (hAs : ∀ q, A q → s.heap.size ≤ q) (hK : va_K D vwCl (TY D) s) (hP : va_P D vwCl [((ax 0), .inr (11, [.ref (ax 1), .ref (ax 2), .ref (ax 3), .ref (ax 4), .ref (ax 5), .ref (ax 6), .ref (ax 7), .ref (ax 8), .ref (ax 9), .ref (ax 10), .ref (ax 11), .ref (ax 12), .int 0])), ((ax 12), .inr (1, [.ref (ax 13), .ref (ax 14), .ref (ax 15), .int 1, .ref (ax 10), .ref (ax 16), .ref (ax 17), .ref (ax 18), .ref (ax 19)])), ((ax 13), .inr (8, [.int 0, .int 0, .long 0, .ref (ax 60), .ref (ax 61), .ref (ax 62), .ref (ax 63), .ref (ax 64), .ref (ax 65), .ref (ax 66), .ref (ax 67)])), ((ax 66), .inl (D.1 13, 8, .inl (fun _ => (-2)))), ((am 200), .inr (12, mO am 0 0 0 0 0 0 0 (-1) 0 0 1 0))] H) (hD : va_D A [((ax 0), .inr (11, [.ref (ax 1), .ref (ax 2), .ref (ax 3), .ref (ax 4), .ref (ax 5), .ref (ax 6), .ref (ax 7), .ref (ax 8), .ref (ax 9), .ref (ax 10), .ref (ax 11), .ref (ax 12), .int 0])), ((ax 12), .inr (1, [.ref (ax 13), .ref (ax 14), .ref (ax 15), .int 1, .ref (ax 10), .ref (ax 16), .ref (ax 17), .ref (ax 18), .ref (ax 19)])), ((ax 13), .inr (8, [.int 0, .int 0, .long 0, .ref (ax 60), .ref (ax 61), .ref (ax 62), .ref (ax 63), .ref (ax 64), .ref (ax 65), .ref (ax 66), .ref (ax 67)])), ((ax 66), .inl (D.1 13, 8, .inl (fun _ => (-2)))), ((am 200), .inr (12, mO am 0 0 0 0 0 0 0 (-1) 0 0 1 0))]) (hS : va_S A s.heap H locs) (hl : lv_has ls 4 [(3, .int 0), (2, .ref (am 200)), (1, .ref (ax 0)), (0, .ref b)]) : W p l e room_1 s m #[Value.ref b] below meth c H locs 164 46440 (lw_Z below #[Value.ref b] s) (F0 m 713 ls []) := by
  have hbA : ¬ A b := fun h => absurd (hAs b h) (Nat.not_le.mpr hbl)
  refine lv_aload_n hx hb dL_law_713 rfl (lv_at hl 2 rfl) ?_
  refine lv_aload_n hx hb dL_law_714 rfl (lv_at hl 3 rfl) ?_
  refine lv_iload_n hx hb dL_law_715 rfl (lv_at hl 0 rfl) ?_
  refine lv_iconst (v := 1) hx hb dL_law_716 (by decide) ?_
  refine lv_iadd hx hb dL_law_717 ?_
  refine z_topi (y := 1) (by decide) ?_
  refine va_sld hx hb hX hbl hbA hS (z_in (by decide) (by decide)) dL_law_718 ?_
  refine lv_topi (fun p1 e1 => ?_)
  refine lv_aload_n hx hb dL_law_719 rfl (lv_at hl 3 rfl) ?_
  refine lv_iload_n hx hb dL_law_720 rfl (lv_at hl 0 rfl) ?_
  refine lv_iconst (v := 2) hx hb dL_law_721 (by decide) ?_
  refine lv_iadd hx hb dL_law_722 ?_
  refine z_topi (y := 2) (by decide) ?_
  refine va_sld hx hb hX hbl hbA hS (z_in (by decide) (by decide)) dL_law_723 ?_
  refine lv_topi (fun p2 e2 => ?_)
  refine lv_aload_n hx hb dL_law_724 rfl (lv_at hl 3 rfl) ?_
  refine lv_iload_n hx hb dL_law_725 rfl (lv_at hl 0 rfl) ?_
  refine lv_iconst (v := 3) hx hb dL_law_726 (by decide) ?_
  refine lv_iadd hx hb dL_law_727 ?_
  refine z_topi (y := 3) (by decide) ?_
  refine va_sld hx hb hX hbl hbA hS (z_in (by decide) (by decide)) dL_law_728 ?_
  refine lv_topi (fun p3 e3 => ?_)
  refine zcV (As := [.int p1, .int p2, .int p3]) (rest := []) (C := RX11) (n := 3) ⟨hx, hb, hml, hown, ht⟩ (k_X11_differs l D ax p1 p2 p3) (zgV ml_L_79 im_X11_differs se_X11_differs in_X11 co_X11_differs) rfl rfl (by decide +kernel) ⟨Nat.le_of_ble_eq_true rfl, Nat.le_of_ble_eq_true rfl⟩ hK hP hS [0, 1, 2, 3] rfl 0 rfl rfl rfl rfl hl.1 rfl (Nat.le_of_ble_eq_true rfl) dL_law_729 ⟨Nat.le_of_ble_eq_true rfl, Nat.le_of_ble_eq_true rfl⟩ (fun r_1 H locs hw hP hS => ?_)
  subst hw
  refine lv_aload_n hx hb dL_law_732 rfl (lv_at hl 1 rfl) ?_
  refine lv_aload_n hx hb dL_law_733 rfl (lv_at hl 3 rfl) ?_
  refine lv_iload_n hx hb dL_law_734 rfl (lv_at hl 0 rfl) ?_
  refine lv_iconst (v := 1) hx hb dL_law_735 (by decide) ?_
  refine lv_iadd hx hb dL_law_736 ?_
  refine z_topi (y := 1) (by decide) ?_
  refine va_sld hx hb hX hbl hbA hS (z_in (by decide) (by decide)) dL_law_737 ?_
  refine z_topi (y := p1) e1.symm ?_
  refine lv_aload_n hx hb dL_law_738 rfl (lv_at hl 3 rfl) ?_
  refine lv_iload_n hx hb dL_law_739 rfl (lv_at hl 0 rfl) ?_
  refine lv_iconst (v := 2) hx hb dL_law_740 (by decide) ?_
  refine lv_iadd hx hb dL_law_741 ?_
  refine z_topi (y := 2) (by decide) ?_
  refine va_sld hx hb hX hbl hbA hS (z_in (by decide) (by decide)) dL_law_742 ?_
  refine z_topi (y := p2) e2.symm ?_
  refine lv_aload_n hx hb dL_law_743 rfl (lv_at hl 3 rfl) ?_
  refine lv_iload_n hx hb dL_law_744 rfl (lv_at hl 0 rfl) ?_
  refine lv_iconst (v := 3) hx hb dL_law_745 (by decide) ?_
  refine lv_iadd hx hb dL_law_746 ?_
  refine z_topi (y := 3) (by decide) ?_
  refine va_sld hx hb hX hbl hbA hS (z_in (by decide) (by decide)) dL_law_747 ?_
  refine z_topi (y := p3) e3.symm ?_
  refine zcV (As := [.int p1, .int p2, .int p3]) (rest := [.int (-1)]) (C := RX12) (n := 3) ⟨hx, hb, hml, hown, ht⟩ (k_X12_differs l D am p1 p2 p3) (zgV ml_L_82 im_X12_differs se_X12_differs in_X12 co_X12_differs) rfl rfl (by decide +kernel) ⟨Nat.le_of_ble_eq_true rfl, Nat.le_of_ble_eq_true rfl⟩ hK hP hS [4] rfl 0 rfl rfl rfl rfl hl.1 rfl (Nat.le_of_ble_eq_true rfl) dL_law_748 ⟨Nat.le_of_ble_eq_true rfl, Nat.le_of_ble_eq_true rfl⟩ (fun r_2 H locs hw hP hS => ?_)
  subst hw
  refine lv_icmp_eq (tgt := 1299) hx hb dL_law_751 (by decide) (fun _ => ?_) (fun c_3 => (z_abs c_3 (by decide)).elim)
  exact lc_end hx hb hr hlocks hX hbl hAs hS (lv_sub hl [0, 3] rfl) (Nat.le_of_ble_eq_true rfl) (Nat.le_of_ble_eq_true rfl)
set_option maxHeartbeats 4000000 in
set_option maxRecDepth 100000 in
/-- writes -/
theorem lc_16 {p : Program} (l : Launch) {e : Env} {s : State} {m : MethodId} {below : List Frame} {meth : Method} {c : Code} {b : Nat} {xs : Nat → Int32} {H : Heap} {locs : List Loc} {ls : Array Slot} {A : Nat → Prop} {D : va_G} {ax am : Nat → Nat} (hx : p.tables.exec = Jvm.exec) (hb : c.code = cL_law) (hr : meth.sig.returnType = ret) (hlocks : meth.locks = false) (hml : c.maxLocals = 4) (hown : s.vm.findClass RL = some m.cls) (ht : ∀ w ∈ lw_gd, w.before #[Value.ref b] s = true) (hX : va_X b 6 xs s s.heap) (hbl : b < s.heap.size) (hA : ∀ q, s.heap.size ≤ q → A q) (hAs : ∀ q, A q → s.heap.size ≤ q) (hK : va_K D vwCl (TY D) s) (hP : va_P D vwCl [((ax 0), .inr (11, [.ref (ax 1), .ref (ax 2), .ref (ax 3), .ref (ax 4), .ref (ax 5), .ref (ax 6), .ref (ax 7), .ref (ax 8), .ref (ax 9), .ref (ax 10), .ref (ax 11), .ref (ax 12), .int 0])), ((ax 12), .inr (1, [.ref (ax 13), .ref (ax 14), .ref (ax 15), .int 1, .ref (ax 10), .ref (ax 16), .ref (ax 17), .ref (ax 18), .ref (ax 19)])), ((ax 13), .inr (8, [.int 0, .int 0, .long 0, .ref (ax 60), .ref (ax 61), .ref (ax 62), .ref (ax 63), .ref (ax 64), .ref (ax 65), .ref (ax 66), .ref (ax 67)])), ((ax 66), .inl (D.1 13, 8, .inl (fun _ => (-2)))), ((am 200), .inr (12, mO am 0 0 0 0 0 0 0 (-1) 0 0 1 0))] H) (hD : va_D A [((ax 0), .inr (11, [.ref (ax 1), .ref (ax 2), .ref (ax 3), .ref (ax 4), .ref (ax 5), .ref (ax 6), .ref (ax 7), .ref (ax 8), .ref (ax 9), .ref (ax 10), .ref (ax 11), .ref (ax 12), .int 0])), ((ax 12), .inr (1, [.ref (ax 13), .ref (ax 14), .ref (ax 15), .int 1, .ref (ax 10), .ref (ax 16), .ref (ax 17), .ref (ax 18), .ref (ax 19)])), ((ax 13), .inr (8, [.int 0, .int 0, .long 0, .ref (ax 60), .ref (ax 61), .ref (ax 62), .ref (ax 63), .ref (ax 64), .ref (ax 65), .ref (ax 66), .ref (ax 67)])), ((ax 66), .inl (D.1 13, 8, .inl (fun _ => (-2)))), ((am 200), .inr (12, mO am 0 0 0 0 0 0 0 (-1) 0 0 1 0))]) (hS : va_S A s.heap H locs) (hl : lv_has ls 4 [(3, .int 0), (2, .ref (am 200)), (1, .ref (ax 0)), (0, .ref b)]) : W p l e room_1 s m #[Value.ref b] below meth c H locs 164 46440 (lw_Z below #[Value.ref b] s) (F0 m 756 ls []) := by
  have hbA : ¬ A b := fun h => absurd (hAs b h) (Nat.not_le.mpr hbl)
  refine lv_aload_n hx hb dL_law_756 rfl (lv_at hl 2 rfl) ?_
  refine lv_aload_n hx hb dL_law_757 rfl (lv_at hl 3 rfl) ?_
  refine lv_iload_n hx hb dL_law_758 rfl (lv_at hl 0 rfl) ?_
  refine lv_iconst (v := 1) hx hb dL_law_759 (by decide) ?_
  refine lv_iadd hx hb dL_law_760 ?_
  refine z_topi (y := 1) (by decide) ?_
  refine va_sld hx hb hX hbl hbA hS (z_in (by decide) (by decide)) dL_law_761 ?_
  refine lv_topi (fun p1 e1 => ?_)
  refine lv_aload_n hx hb dL_law_762 rfl (lv_at hl 3 rfl) ?_
  refine lv_iload_n hx hb dL_law_763 rfl (lv_at hl 0 rfl) ?_
  refine lv_iconst (v := 2) hx hb dL_law_764 (by decide) ?_
  refine lv_iadd hx hb dL_law_765 ?_
  refine z_topi (y := 2) (by decide) ?_
  refine va_sld hx hb hX hbl hbA hS (z_in (by decide) (by decide)) dL_law_766 ?_
  refine lv_topi (fun p2 e2 => ?_)
  refine lv_aload_n hx hb dL_law_767 rfl (lv_at hl 3 rfl) ?_
  refine lv_iload_n hx hb dL_law_768 rfl (lv_at hl 0 rfl) ?_
  refine lv_iconst (v := 3) hx hb dL_law_769 (by decide) ?_
  refine lv_iadd hx hb dL_law_770 ?_
  refine z_topi (y := 3) (by decide) ?_
  refine va_sld hx hb hX hbl hbA hS (z_in (by decide) (by decide)) dL_law_771 ?_
  refine lv_topi (fun p3 e3 => ?_)
  refine zcV (As := [.int p1, .int p2, .int p3]) (rest := []) (C := RX11) (n := 3) ⟨hx, hb, hml, hown, ht⟩ (k_X11_writes l D ax p1 p2 p3) (zgV ml_L_83 im_X11_writes se_X11_writes in_X11 co_X11_writes) rfl rfl (by decide +kernel) ⟨Nat.le_of_ble_eq_true rfl, Nat.le_of_ble_eq_true rfl⟩ hK hP hS [0, 1, 2, 3] rfl 0 rfl rfl rfl rfl hl.1 rfl (Nat.le_of_ble_eq_true rfl) dL_law_772 ⟨Nat.le_of_ble_eq_true rfl, Nat.le_of_ble_eq_true rfl⟩ (fun r_1 H locs hw hP hS => ?_)
  subst hw
  refine lv_aload_n hx hb dL_law_775 rfl (lv_at hl 1 rfl) ?_
  refine lv_aload_n hx hb dL_law_776 rfl (lv_at hl 3 rfl) ?_
  refine lv_iload_n hx hb dL_law_777 rfl (lv_at hl 0 rfl) ?_
  refine lv_iconst (v := 1) hx hb dL_law_778 (by decide) ?_
  refine lv_iadd hx hb dL_law_779 ?_
  refine z_topi (y := 1) (by decide) ?_
  refine va_sld hx hb hX hbl hbA hS (z_in (by decide) (by decide)) dL_law_780 ?_
  refine z_topi (y := p1) e1.symm ?_
  refine lv_aload_n hx hb dL_law_781 rfl (lv_at hl 3 rfl) ?_
  refine lv_iload_n hx hb dL_law_782 rfl (lv_at hl 0 rfl) ?_
  refine lv_iconst (v := 2) hx hb dL_law_783 (by decide) ?_
  refine lv_iadd hx hb dL_law_784 ?_
  refine z_topi (y := 2) (by decide) ?_
  refine va_sld hx hb hX hbl hbA hS (z_in (by decide) (by decide)) dL_law_785 ?_
  refine z_topi (y := p2) e2.symm ?_
  refine lv_aload_n hx hb dL_law_786 rfl (lv_at hl 3 rfl) ?_
  refine lv_iload_n hx hb dL_law_787 rfl (lv_at hl 0 rfl) ?_
  refine lv_iconst (v := 3) hx hb dL_law_788 (by decide) ?_
  refine lv_iadd hx hb dL_law_789 ?_
  refine z_topi (y := 3) (by decide) ?_
  refine va_sld hx hb hX hbl hbA hS (z_in (by decide) (by decide)) dL_law_790 ?_
  refine z_topi (y := p3) e3.symm ?_
  refine zcV (As := [.int p1, .int p2, .int p3]) (rest := [.int (-1)]) (C := RX12) (n := 3) ⟨hx, hb, hml, hown, ht⟩ (k_X12_writes l D am p1 p2 p3) (zgV ml_L_86 im_X12_writes se_X12_writes in_X12 co_X12_writes) rfl rfl (by decide +kernel) ⟨Nat.le_of_ble_eq_true rfl, Nat.le_of_ble_eq_true rfl⟩ hK hP hS [4] rfl 0 rfl rfl rfl rfl hl.1 rfl (Nat.le_of_ble_eq_true rfl) dL_law_791 ⟨Nat.le_of_ble_eq_true rfl, Nat.le_of_ble_eq_true rfl⟩ (fun r_2 H locs hw hP hS => ?_)
  subst hw
  refine lv_icmp_eq (tgt := 1299) hx hb dL_law_794 (by decide) (fun _ => ?_) (fun c_3 => (z_abs c_3 (by decide)).elim)
  exact lc_end hx hb hr hlocks hX hbl hAs hS (lv_sub hl [0, 3] rfl) (Nat.le_of_ble_eq_true rfl) (Nat.le_of_ble_eq_true rfl)
set_option maxHeartbeats 4000000 in
set_option maxRecDepth 100000 in
/-- spread -/
theorem lc_17 {p : Program} (l : Launch) {e : Env} {s : State} {m : MethodId} {below : List Frame} {meth : Method} {c : Code} {b : Nat} {xs : Nat → Int32} {H : Heap} {locs : List Loc} {ls : Array Slot} {A : Nat → Prop} {D : va_G} {ax am : Nat → Nat} (hx : p.tables.exec = Jvm.exec) (hb : c.code = cL_law) (hr : meth.sig.returnType = ret) (hlocks : meth.locks = false) (hml : c.maxLocals = 4) (hown : s.vm.findClass RL = some m.cls) (ht : ∀ w ∈ lw_gd, w.before #[Value.ref b] s = true) (hX : va_X b 6 xs s s.heap) (hbl : b < s.heap.size) (hA : ∀ q, s.heap.size ≤ q → A q) (hAs : ∀ q, A q → s.heap.size ≤ q) (hK : va_K D vwCl (TY D) s) (hP : va_P D vwCl [((ax 0), .inr (11, [.ref (ax 1), .ref (ax 2), .ref (ax 3), .ref (ax 4), .ref (ax 5), .ref (ax 6), .ref (ax 7), .ref (ax 8), .ref (ax 9), .ref (ax 10), .ref (ax 11), .ref (ax 12), .int 0])), ((ax 12), .inr (1, [.ref (ax 13), .ref (ax 14), .ref (ax 15), .int 1, .ref (ax 10), .ref (ax 16), .ref (ax 17), .ref (ax 18), .ref (ax 19)])), ((ax 13), .inr (8, [.int 0, .int 0, .long 0, .ref (ax 60), .ref (ax 61), .ref (ax 62), .ref (ax 63), .ref (ax 64), .ref (ax 65), .ref (ax 66), .ref (ax 67)])), ((ax 66), .inl (D.1 13, 8, .inl (fun _ => (-2)))), ((am 200), .inr (12, mO am 0 0 0 0 0 0 0 (-1) 0 0 1 0))] H) (hD : va_D A [((ax 0), .inr (11, [.ref (ax 1), .ref (ax 2), .ref (ax 3), .ref (ax 4), .ref (ax 5), .ref (ax 6), .ref (ax 7), .ref (ax 8), .ref (ax 9), .ref (ax 10), .ref (ax 11), .ref (ax 12), .int 0])), ((ax 12), .inr (1, [.ref (ax 13), .ref (ax 14), .ref (ax 15), .int 1, .ref (ax 10), .ref (ax 16), .ref (ax 17), .ref (ax 18), .ref (ax 19)])), ((ax 13), .inr (8, [.int 0, .int 0, .long 0, .ref (ax 60), .ref (ax 61), .ref (ax 62), .ref (ax 63), .ref (ax 64), .ref (ax 65), .ref (ax 66), .ref (ax 67)])), ((ax 66), .inl (D.1 13, 8, .inl (fun _ => (-2)))), ((am 200), .inr (12, mO am 0 0 0 0 0 0 0 (-1) 0 0 1 0))]) (hS : va_S A s.heap H locs) (hl : lv_has ls 4 [(3, .int 0), (2, .ref (am 200)), (1, .ref (ax 0)), (0, .ref b)]) : W p l e room_1 s m #[Value.ref b] below meth c H locs 164 46440 (lw_Z below #[Value.ref b] s) (F0 m 799 ls []) := by
  have hbA : ¬ A b := fun h => absurd (hAs b h) (Nat.not_le.mpr hbl)
  refine lv_aload_n hx hb dL_law_799 rfl (lv_at hl 2 rfl) ?_
  refine lv_aload_n hx hb dL_law_800 rfl (lv_at hl 3 rfl) ?_
  refine lv_iload_n hx hb dL_law_801 rfl (lv_at hl 0 rfl) ?_
  refine lv_iconst (v := 1) hx hb dL_law_802 (by decide) ?_
  refine lv_iadd hx hb dL_law_803 ?_
  refine z_topi (y := 1) (by decide) ?_
  refine va_sld hx hb hX hbl hbA hS (z_in (by decide) (by decide)) dL_law_804 ?_
  refine lv_topi (fun p1 e1 => ?_)
  refine lv_aload_n hx hb dL_law_805 rfl (lv_at hl 3 rfl) ?_
  refine lv_iload_n hx hb dL_law_806 rfl (lv_at hl 0 rfl) ?_
  refine lv_iconst (v := 2) hx hb dL_law_807 (by decide) ?_
  refine lv_iadd hx hb dL_law_808 ?_
  refine z_topi (y := 2) (by decide) ?_
  refine va_sld hx hb hX hbl hbA hS (z_in (by decide) (by decide)) dL_law_809 ?_
  refine lv_topi (fun p2 e2 => ?_)
  refine zcV (As := [.int p1, .int p2]) (rest := []) (C := RX11) (n := 2) ⟨hx, hb, hml, hown, ht⟩ (k_X11_spread l D ax p1 p2) (zgV ml_L_87 im_X11_spread se_X11_spread in_X11 co_X11_spread) rfl rfl (by decide +kernel) ⟨Nat.le_of_ble_eq_true rfl, Nat.le_of_ble_eq_true rfl⟩ hK hP hS [0, 1, 2, 3] rfl 0 rfl rfl rfl rfl hl.1 rfl (Nat.le_of_ble_eq_true rfl) dL_law_810 ⟨Nat.le_of_ble_eq_true rfl, Nat.le_of_ble_eq_true rfl⟩ (fun r_1 H locs hw hP hS => ?_)
  subst hw
  refine lv_aload_n hx hb dL_law_813 rfl (lv_at hl 1 rfl) ?_
  refine lv_aload_n hx hb dL_law_814 rfl (lv_at hl 3 rfl) ?_
  refine lv_iload_n hx hb dL_law_815 rfl (lv_at hl 0 rfl) ?_
  refine lv_iconst (v := 1) hx hb dL_law_816 (by decide) ?_
  refine lv_iadd hx hb dL_law_817 ?_
  refine z_topi (y := 1) (by decide) ?_
  refine va_sld hx hb hX hbl hbA hS (z_in (by decide) (by decide)) dL_law_818 ?_
  refine z_topi (y := p1) e1.symm ?_
  refine lv_aload_n hx hb dL_law_819 rfl (lv_at hl 3 rfl) ?_
  refine lv_iload_n hx hb dL_law_820 rfl (lv_at hl 0 rfl) ?_
  refine lv_iconst (v := 2) hx hb dL_law_821 (by decide) ?_
  refine lv_iadd hx hb dL_law_822 ?_
  refine z_topi (y := 2) (by decide) ?_
  refine va_sld hx hb hX hbl hbA hS (z_in (by decide) (by decide)) dL_law_823 ?_
  refine z_topi (y := p2) e2.symm ?_
  refine zcV (As := [.int p1, .int p2]) (rest := [.int (-1)]) (C := RX12) (n := 2) ⟨hx, hb, hml, hown, ht⟩ (k_X12_spread l D am p1 p2) (zgV ml_L_90 im_X12_spread se_X12_spread in_X12 co_X12_spread) rfl rfl (by decide +kernel) ⟨Nat.le_of_ble_eq_true rfl, Nat.le_of_ble_eq_true rfl⟩ hK hP hS [4] rfl 0 rfl rfl rfl rfl hl.1 rfl (Nat.le_of_ble_eq_true rfl) dL_law_824 ⟨Nat.le_of_ble_eq_true rfl, Nat.le_of_ble_eq_true rfl⟩ (fun r_2 H locs hw hP hS => ?_)
  subst hw
  refine lv_icmp_eq (tgt := 1299) hx hb dL_law_827 (by decide) (fun _ => ?_) (fun c_3 => (z_abs c_3 (by decide)).elim)
  exact lc_end hx hb hr hlocks hX hbl hAs hS (lv_sub hl [0, 3] rfl) (Nat.le_of_ble_eq_true rfl) (Nat.le_of_ble_eq_true rfl)
set_option maxHeartbeats 4000000 in
set_option maxRecDepth 100000 in
/-- lost -/
theorem lc_18 {p : Program} (l : Launch) {e : Env} {s : State} {m : MethodId} {below : List Frame} {meth : Method} {c : Code} {b : Nat} {xs : Nat → Int32} {H : Heap} {locs : List Loc} {ls : Array Slot} {A : Nat → Prop} {D : va_G} {ax am : Nat → Nat} (hx : p.tables.exec = Jvm.exec) (hb : c.code = cL_law) (hr : meth.sig.returnType = ret) (hlocks : meth.locks = false) (hml : c.maxLocals = 4) (hown : s.vm.findClass RL = some m.cls) (ht : ∀ w ∈ lw_gd, w.before #[Value.ref b] s = true) (hX : va_X b 6 xs s s.heap) (hbl : b < s.heap.size) (hA : ∀ q, s.heap.size ≤ q → A q) (hAs : ∀ q, A q → s.heap.size ≤ q) (hK : va_K D vwCl (TY D) s) (hP : va_P D vwCl [((ax 0), .inr (11, [.ref (ax 1), .ref (ax 2), .ref (ax 3), .ref (ax 4), .ref (ax 5), .ref (ax 6), .ref (ax 7), .ref (ax 8), .ref (ax 9), .ref (ax 10), .ref (ax 11), .ref (ax 12), .int 0])), ((ax 12), .inr (1, [.ref (ax 13), .ref (ax 14), .ref (ax 15), .int 1, .ref (ax 10), .ref (ax 16), .ref (ax 17), .ref (ax 18), .ref (ax 19)])), ((ax 13), .inr (8, [.int 0, .int 0, .long 0, .ref (ax 60), .ref (ax 61), .ref (ax 62), .ref (ax 63), .ref (ax 64), .ref (ax 65), .ref (ax 66), .ref (ax 67)])), ((am 200), .inr (12, mO am 0 0 0 0 0 0 0 (-1) 0 0 1 0)), ((am 39), .inl (D.1 13, 10, .inl (fun _ => 0)))] H) (hD : va_D A [((ax 0), .inr (11, [.ref (ax 1), .ref (ax 2), .ref (ax 3), .ref (ax 4), .ref (ax 5), .ref (ax 6), .ref (ax 7), .ref (ax 8), .ref (ax 9), .ref (ax 10), .ref (ax 11), .ref (ax 12), .int 0])), ((ax 12), .inr (1, [.ref (ax 13), .ref (ax 14), .ref (ax 15), .int 1, .ref (ax 10), .ref (ax 16), .ref (ax 17), .ref (ax 18), .ref (ax 19)])), ((ax 13), .inr (8, [.int 0, .int 0, .long 0, .ref (ax 60), .ref (ax 61), .ref (ax 62), .ref (ax 63), .ref (ax 64), .ref (ax 65), .ref (ax 66), .ref (ax 67)])), ((am 200), .inr (12, mO am 0 0 0 0 0 0 0 (-1) 0 0 1 0)), ((am 39), .inl (D.1 13, 10, .inl (fun _ => 0)))]) (hS : va_S A s.heap H locs) (hl : lv_has ls 4 [(3, .int 0), (2, .ref (am 200)), (1, .ref (ax 0)), (0, .ref b)]) : W p l e room_1 s m #[Value.ref b] below meth c H locs 164 46440 (lw_Z below #[Value.ref b] s) (F0 m 832 ls []) := by
  have hbA : ¬ A b := fun h => absurd (hAs b h) (Nat.not_le.mpr hbl)
  refine lv_aload_n hx hb dL_law_832 rfl (lv_at hl 2 rfl) ?_
  refine lv_aload_n hx hb dL_law_833 rfl (lv_at hl 3 rfl) ?_
  refine lv_iload_n hx hb dL_law_834 rfl (lv_at hl 0 rfl) ?_
  refine lv_iconst (v := 1) hx hb dL_law_835 (by decide) ?_
  refine lv_iadd hx hb dL_law_836 ?_
  refine z_topi (y := 1) (by decide) ?_
  refine va_sld hx hb hX hbl hbA hS (z_in (by decide) (by decide)) dL_law_837 ?_
  refine lv_topi (fun p1 e1 => ?_)
  refine zcV (As := [.int p1]) (rest := []) (C := RX11) (n := 1) ⟨hx, hb, hml, hown, ht⟩ (k_X11_lost l D ax p1) (zgV ml_L_91 im_X11_lost se_X11_lost in_X11 co_X11_lost) rfl rfl (by decide +kernel) ⟨Nat.le_of_ble_eq_true rfl, Nat.le_of_ble_eq_true rfl⟩ hK hP hS [0, 1, 2] rfl 0 rfl rfl rfl rfl hl.1 rfl (Nat.le_of_ble_eq_true rfl) dL_law_838 ⟨Nat.le_of_ble_eq_true rfl, Nat.le_of_ble_eq_true rfl⟩ (fun r_1 H locs hw hP hS => ?_)
  subst hw
  refine lv_aload_n hx hb dL_law_841 rfl (lv_at hl 1 rfl) ?_
  refine lv_aload_n hx hb dL_law_842 rfl (lv_at hl 3 rfl) ?_
  refine lv_iload_n hx hb dL_law_843 rfl (lv_at hl 0 rfl) ?_
  refine lv_iconst (v := 1) hx hb dL_law_844 (by decide) ?_
  refine lv_iadd hx hb dL_law_845 ?_
  refine z_topi (y := 1) (by decide) ?_
  refine va_sld hx hb hX hbl hbA hS (z_in (by decide) (by decide)) dL_law_846 ?_
  refine z_topi (y := p1) e1.symm ?_
  refine zcV (As := [.int p1]) (rest := [.int (-1)]) (C := RX12) (n := 1) ⟨hx, hb, hml, hown, ht⟩ (k_X12_lost l D am p1) (zgV ml_L_94 im_X12_lost se_X12_lost in_X12 co_X12_lost) rfl rfl (by decide +kernel) ⟨Nat.le_of_ble_eq_true rfl, Nat.le_of_ble_eq_true rfl⟩ hK hP hS [3, 4] rfl 0 rfl rfl rfl rfl hl.1 rfl (Nat.le_of_ble_eq_true rfl) dL_law_847 ⟨Nat.le_of_ble_eq_true rfl, Nat.le_of_ble_eq_true rfl⟩ (fun r_2 H locs hw hP hS => ?_)
  subst hw
  refine lv_icmp_eq (tgt := 1299) hx hb dL_law_850 (by decide) (fun _ => ?_) (fun c_3 => (z_abs c_3 (by decide)).elim)
  exact lc_end hx hb hr hlocks hX hbl hAs hS (lv_sub hl [0, 3] rfl) (Nat.le_of_ble_eq_true rfl) (Nat.le_of_ble_eq_true rfl)
set_option maxHeartbeats 4000000 in
set_option maxRecDepth 100000 in
/-- worst -/
theorem lc_19 {p : Program} (l : Launch) {e : Env} {s : State} {m : MethodId} {below : List Frame} {meth : Method} {c : Code} {b : Nat} {xs : Nat → Int32} {H : Heap} {locs : List Loc} {ls : Array Slot} {A : Nat → Prop} {D : va_G} {ax am : Nat → Nat} (hx : p.tables.exec = Jvm.exec) (hb : c.code = cL_law) (hr : meth.sig.returnType = ret) (hlocks : meth.locks = false) (hml : c.maxLocals = 4) (hown : s.vm.findClass RL = some m.cls) (ht : ∀ w ∈ lw_gd, w.before #[Value.ref b] s = true) (hX : va_X b 6 xs s s.heap) (hbl : b < s.heap.size) (hA : ∀ q, s.heap.size ≤ q → A q) (hAs : ∀ q, A q → s.heap.size ≤ q) (hK : va_K D vwCl (TY D) s) (hP : va_P D vwCl [((ax 0), .inr (11, [.ref (ax 1), .ref (ax 2), .ref (ax 3), .ref (ax 4), .ref (ax 5), .ref (ax 6), .ref (ax 7), .ref (ax 8), .ref (ax 9), .ref (ax 10), .ref (ax 11), .ref (ax 12), .int 0])), ((ax 12), .inr (1, [.ref (ax 13), .ref (ax 14), .ref (ax 15), .int 1, .ref (ax 10), .ref (ax 16), .ref (ax 17), .ref (ax 18), .ref (ax 19)])), ((ax 13), .inr (8, [.int 0, .int 0, .long 0, .ref (ax 60), .ref (ax 61), .ref (ax 62), .ref (ax 63), .ref (ax 64), .ref (ax 65), .ref (ax 66), .ref (ax 67)])), ((ax 66), .inl (D.1 13, 8, .inl (fun _ => (-2)))), ((ax 8), .inl (D.1 15, 8, .inr (.inl (fun _ => 0)))), ((am 200), .inr (12, mO am 0 0 0 0 0 0 0 (-1) 0 0 1 0)), ((am 72), .inl (D.1 13, 48, .inl (fun _ => 0)))] H) (hD : va_D A [((ax 0), .inr (11, [.ref (ax 1), .ref (ax 2), .ref (ax 3), .ref (ax 4), .ref (ax 5), .ref (ax 6), .ref (ax 7), .ref (ax 8), .ref (ax 9), .ref (ax 10), .ref (ax 11), .ref (ax 12), .int 0])), ((ax 12), .inr (1, [.ref (ax 13), .ref (ax 14), .ref (ax 15), .int 1, .ref (ax 10), .ref (ax 16), .ref (ax 17), .ref (ax 18), .ref (ax 19)])), ((ax 13), .inr (8, [.int 0, .int 0, .long 0, .ref (ax 60), .ref (ax 61), .ref (ax 62), .ref (ax 63), .ref (ax 64), .ref (ax 65), .ref (ax 66), .ref (ax 67)])), ((ax 66), .inl (D.1 13, 8, .inl (fun _ => (-2)))), ((ax 8), .inl (D.1 15, 8, .inr (.inl (fun _ => 0)))), ((am 200), .inr (12, mO am 0 0 0 0 0 0 0 (-1) 0 0 1 0)), ((am 72), .inl (D.1 13, 48, .inl (fun _ => 0)))]) (hS : va_S A s.heap H locs) (hl : lv_has ls 4 [(3, .int 0), (2, .ref (am 200)), (1, .ref (ax 0)), (0, .ref b)]) : W p l e room_1 s m #[Value.ref b] below meth c H locs 164 46440 (lw_Z below #[Value.ref b] s) (F0 m 855 ls []) := by
  have hbA : ¬ A b := fun h => absurd (hAs b h) (Nat.not_le.mpr hbl)
  refine lv_aload_n hx hb dL_law_855 rfl (lv_at hl 2 rfl) ?_
  refine lv_aload_n hx hb dL_law_856 rfl (lv_at hl 3 rfl) ?_
  refine lv_iload_n hx hb dL_law_857 rfl (lv_at hl 0 rfl) ?_
  refine lv_iconst (v := 1) hx hb dL_law_858 (by decide) ?_
  refine lv_iadd hx hb dL_law_859 ?_
  refine z_topi (y := 1) (by decide) ?_
  refine va_sld hx hb hX hbl hbA hS (z_in (by decide) (by decide)) dL_law_860 ?_
  refine lv_topi (fun p1 e1 => ?_)
  refine zwV (As := [.int p1]) (rest := []) (C := RX11) (n := 1) (wr := [((am 200), .inr (12, mO am 0 0 0 0 0 0 0 (-1) 0 0 1 0)), ((am 72), .inl (D.1 13, 48, .inl (fun _ => 0)))]) ⟨hx, hb, hml, hown, ht⟩ (k_X11_worst l D _ ax p1) (zgV ml_L_95 im_X11_worst se_X11_worst in_X11 co_X11_worst) rfl rfl (by decide +kernel) ⟨Nat.le_of_ble_eq_true rfl, Nat.le_of_ble_eq_true rfl⟩ hK hP hD hS hA [0, 1, 2, 3, 4] [5, 6] rfl rfl rfl rfl (by decide) 0 rfl rfl rfl rfl hl.1 rfl (Nat.le_of_ble_eq_true rfl) dL_law_861 ⟨Nat.le_of_ble_eq_true rfl, Nat.le_of_ble_eq_true rfl⟩ (fun r_2 u_1 H locs hw hP hD hS => ?_)
  have hP : va_P D vwCl [((am 200), .inr (12, mO am 0 0 0 0 0 0 0 (-1) 0 0 1 0)), ((am 72), .inl (D.1 13, 48, .inl (fun _ => 0)))] H := hP
  have hD : va_D A [((am 200), .inr (12, mO am 0 0 0 0 0 0 0 (-1) 0 0 1 0)), ((am 72), .inl (D.1 13, 48, .inl (fun _ => 0)))] := hD
  subst hw
  refine lv_aload_n hx hb dL_law_864 rfl (lv_at hl 1 rfl) ?_
  refine lv_aload_n hx hb dL_law_865 rfl (lv_at hl 3 rfl) ?_
  refine lv_iload_n hx hb dL_law_866 rfl (lv_at hl 0 rfl) ?_
  refine lv_iconst (v := 1) hx hb dL_law_867 (by decide) ?_
  refine lv_iadd hx hb dL_law_868 ?_
  refine z_topi (y := 1) (by decide) ?_
  refine va_sld hx hb hX hbl hbA hS (z_in (by decide) (by decide)) dL_law_869 ?_
  refine z_topi (y := p1) e1.symm ?_
  refine zwV (As := [.int p1]) (rest := [.int (-1)]) (C := RX12) (n := 1) (wr := []) ⟨hx, hb, hml, hown, ht⟩ (k_X12_worst l D _ am p1) (zgV ml_L_98 im_X12_worst se_X12_worst in_X12 co_X12_worst) rfl rfl (by decide +kernel) ⟨Nat.le_of_ble_eq_true rfl, Nat.le_of_ble_eq_true rfl⟩ hK hP hD hS hA [0, 1] [] rfl rfl rfl rfl (by decide) 0 rfl rfl rfl rfl hl.1 rfl (Nat.le_of_ble_eq_true rfl) dL_law_870 ⟨Nat.le_of_ble_eq_true rfl, Nat.le_of_ble_eq_true rfl⟩ (fun r_4 u_3 H locs hw hP hD hS => ?_)
  have hP : va_P D vwCl [] H := hP
  have hD : va_D A [] := hD
  subst hw
  refine lv_icmp_eq (tgt := 1299) hx hb dL_law_873 (by decide) (fun _ => ?_) (fun c_5 => (z_abs c_5 (by decide)).elim)
  exact lc_end hx hb hr hlocks hX hbl hAs hS (lv_sub hl [0, 3] rfl) (Nat.le_of_ble_eq_true rfl) (Nat.le_of_ble_eq_true rfl)
