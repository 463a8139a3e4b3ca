theorem zdX12_layFits_2 : (and (and (and (and (and (zk cX12_layFits 2 (.iload_n 3) 1) (zk cX12_layFits 3 (.bipush 61) 2)) (and (zk cX12_layFits 5 (.if_icmp .ge 16) 3) (zk cX12_layFits 8 (.aload_n 0) 1))) (and (and (zk cX12_layFits 9 (.getfield 121) 3) (zk cX12_layFits 12 (.iload_n 3) 1)) (and (zk cX12_layFits 13 (.iconst 1) 1) (zk cX12_layFits 14 (.bastore) 1)))) (and (and (and (zk cX12_layFits 15 (.iinc 3 1) 3) (zk cX12_layFits 18 (.goto (-16)) 3)) (and (zk cX12_layFits 119 (.bastore) 1) (zk cX12_layFits 120 (.iinc 4 1) 3))) (and (and (zk cX12_layFits 123 (.goto (-65)) 3) (zk cX12_layFits 118 (.iconst 0) 1)) (and (zk cX12_layFits 58 (.iload 4) 2) (zk cX12_layFits 60 (.bipush 61) 2))))) (and (and (and (and (zk cX12_layFits 62 (.if_icmp .ge 64) 3) (zk cX12_layFits 65 (.aload_n 0) 1)) (and (zk cX12_layFits 66 (.iload_n 1) 1) (zk cX12_layFits 67 (.iload 4) 2))) (and (and (zk cX12_layFits 69 (.aload_n 0) 1) (zk cX12_layFits 70 (.iload_n 3) 1)) (and (zk cX12_layFits 71 (.iconst 5) 1) (zk cX12_layFits 72 (.invokevirtual 340) 3)))) (and (and (and (zk cX12_layFits 75 (.invokevirtual 427) 3) (zk cX12_layFits 78 (.istore 5) 2)) (and (zk cX12_layFits 80 (.aload_n 0) 1) (zk cX12_layFits 81 (.getfield 121) 3))) (and (and (zk cX12_layFits 84 (.iload 4) 2) (zk cX12_layFits 86 (.aload_n 0) 1)) (and (zk cX12_layFits 87 (.getfield 121) 3) (zk cX12_layFits 90 (.iload 4) 2)))))) = true := by decide +kernel
theorem dX12_layFits_2 : decode cX12_layFits 2 = .ok (.iload_n 3, 1) := zk_of (zk_l (zk_l (zk_l (zk_l (zk_l zdX12_layFits_2)))))
theorem dX12_layFits_3 : decode cX12_layFits 3 = .ok (.bipush 61, 2) := zk_of (zk_r (zk_l (zk_l (zk_l (zk_l zdX12_layFits_2)))))
theorem dX12_layFits_5 : decode cX12_layFits 5 = .ok (.if_icmp .ge 16, 3) := zk_of (zk_l (zk_r (zk_l (zk_l (zk_l zdX12_layFits_2)))))
theorem dX12_layFits_8 : decode cX12_layFits 8 = .ok (.aload_n 0, 1) := zk_of (zk_r (zk_r (zk_l (zk_l (zk_l zdX12_layFits_2)))))
theorem dX12_layFits_9 : decode cX12_layFits 9 = .ok (.getfield 121, 3) := zk_of (zk_l (zk_l (zk_r (zk_l (zk_l zdX12_layFits_2)))))
theorem dX12_layFits_12 : decode cX12_layFits 12 = .ok (.iload_n 3, 1) := zk_of (zk_r (zk_l (zk_r (zk_l (zk_l zdX12_layFits_2)))))
theorem dX12_layFits_13 : decode cX12_layFits 13 = .ok (.iconst 1, 1) := zk_of (zk_l (zk_r (zk_r (zk_l (zk_l zdX12_layFits_2)))))
theorem dX12_layFits_14 : decode cX12_layFits 14 = .ok (.bastore, 1) := zk_of (zk_r (zk_r (zk_r (zk_l (zk_l zdX12_layFits_2)))))
theorem dX12_layFits_15 : decode cX12_layFits 15 = .ok (.iinc 3 1, 3) := zk_of (zk_l (zk_l (zk_l (zk_r (zk_l zdX12_layFits_2)))))
theorem dX12_layFits_18 : decode cX12_layFits 18 = .ok (.goto (-16), 3) := zk_of (zk_r (zk_l (zk_l (zk_r (zk_l zdX12_layFits_2)))))
theorem dX12_layFits_119 : decode cX12_layFits 119 = .ok (.bastore, 1) := zk_of (zk_l (zk_r (zk_l (zk_r (zk_l zdX12_layFits_2)))))
theorem dX12_layFits_120 : decode cX12_layFits 120 = .ok (.iinc 4 1, 3) := zk_of (zk_r (zk_r (zk_l (zk_r (zk_l zdX12_layFits_2)))))
theorem dX12_layFits_123 : decode cX12_layFits 123 = .ok (.goto (-65), 3) := zk_of (zk_l (zk_l (zk_r (zk_r (zk_l zdX12_layFits_2)))))
theorem dX12_layFits_118 : decode cX12_layFits 118 = .ok (.iconst 0, 1) := zk_of (zk_r (zk_l (zk_r (zk_r (zk_l zdX12_layFits_2)))))
theorem dX12_layFits_58 : decode cX12_layFits 58 = .ok (.iload 4, 2) := zk_of (zk_l (zk_r (zk_r (zk_r (zk_l zdX12_layFits_2)))))
theorem dX12_layFits_60 : decode cX12_layFits 60 = .ok (.bipush 61, 2) := zk_of (zk_r (zk_r (zk_r (zk_r (zk_l zdX12_layFits_2)))))
theorem dX12_layFits_62 : decode cX12_layFits 62 = .ok (.if_icmp .ge 64, 3) := zk_of (zk_l (zk_l (zk_l (zk_l (zk_r zdX12_layFits_2)))))
theorem dX12_layFits_65 : decode cX12_layFits 65 = .ok (.aload_n 0, 1) := zk_of (zk_r (zk_l (zk_l (zk_l (zk_r zdX12_layFits_2)))))
theorem dX12_layFits_66 : decode cX12_layFits 66 = .ok (.iload_n 1, 1) := zk_of (zk_l (zk_r (zk_l (zk_l (zk_r zdX12_layFits_2)))))
theorem dX12_layFits_67 : decode cX12_layFits 67 = .ok (.iload 4, 2) := zk_of (zk_r (zk_r (zk_l (zk_l (zk_r zdX12_layFits_2)))))
theorem dX12_layFits_69 : decode cX12_layFits 69 = .ok (.aload_n 0, 1) := zk_of (zk_l (zk_l (zk_r (zk_l (zk_r zdX12_layFits_2)))))
theorem dX12_layFits_70 : decode cX12_layFits 70 = .ok (.iload_n 3, 1) := zk_of (zk_r (zk_l (zk_r (zk_l (zk_r zdX12_layFits_2)))))
theorem dX12_layFits_71 : decode cX12_layFits 71 = .ok (.iconst 5, 1) := zk_of (zk_l (zk_r (zk_r (zk_l (zk_r zdX12_layFits_2)))))
theorem dX12_layFits_72 : decode cX12_layFits 72 = .ok (.invokevirtual 340, 3) := zk_of (zk_r (zk_r (zk_r (zk_l (zk_r zdX12_layFits_2)))))
theorem dX12_layFits_75 : decode cX12_layFits 75 = .ok (.invokevirtual 427, 3) := zk_of (zk_l (zk_l (zk_l (zk_r (zk_r zdX12_layFits_2)))))
theorem dX12_layFits_78 : decode cX12_layFits 78 = .ok (.istore 5, 2) := zk_of (zk_r (zk_l (zk_l (zk_r (zk_r zdX12_layFits_2)))))
theorem dX12_layFits_80 : decode cX12_layFits 80 = .ok (.aload_n 0, 1) := zk_of (zk_l (zk_r (zk_l (zk_r (zk_r zdX12_layFits_2)))))
theorem dX12_layFits_81 : decode cX12_layFits 81 = .ok (.getfield 121, 3) := zk_of (zk_r (zk_r (zk_l (zk_r (zk_r zdX12_layFits_2)))))
theorem dX12_layFits_84 : decode cX12_layFits 84 = .ok (.iload 4, 2) := zk_of (zk_l (zk_l (zk_r (zk_r (zk_r zdX12_layFits_2)))))
theorem dX12_layFits_86 : decode cX12_layFits 86 = .ok (.aload_n 0, 1) := zk_of (zk_r (zk_l (zk_r (zk_r (zk_r zdX12_layFits_2)))))
theorem dX12_layFits_87 : decode cX12_layFits 87 = .ok (.getfield 121, 3) := zk_of (zk_l (zk_r (zk_r (zk_r (zk_r zdX12_layFits_2)))))
theorem dX12_layFits_90 : decode cX12_layFits 90 = .ok (.iload 4, 2) := zk_of (zk_r (zk_r (zk_r (zk_r (zk_r zdX12_layFits_2)))))
set_option maxRecDepth 20000 in
theorem ggX12_layFits_X12_aimOf : GoodIn wsX12_layFits wsX12_aimOf := ggi (fun w h => List.mem_cons_of_mem _ (List.mem_append_left _ (List.mem_append_right _ (List.mem_append_left _ h)))) gs_X12_aimOf
set_option maxRecDepth 20000 in
theorem gX12_layFits_X12_aimOf : GoodIn wsX12_layFits (wsV RX12 340 RX12 yX12_aimOf wsX12_aimOf) := goodIn_app (goodIn_of _ (by decide +kernel)) ggX12_layFits_X12_aimOf
set_option maxRecDepth 20000 in
theorem ggX12_layFits_X12_guessWorth : GoodIn wsX12_layFits wsX12_guessWorth := ggi (fun w h => List.mem_cons_of_mem _ (List.mem_append_left _ (List.mem_append_right _ (List.mem_append_right _ (List.mem_append_left _ h))))) gs_X12_guessWorth
set_option maxRecDepth 20000 in
theorem gX12_layFits_X12_guessWorth : GoodIn wsX12_layFits (wsV RX12 427 RX12 yX12_guessWorth wsX12_guessWorth) := goodIn_app (goodIn_of _ (by decide +kernel)) ggX12_layFits_X12_guessWorth
theorem zdX12_layFits_92 : (and (and (and (and (and (zk cX12_layFits 92 (.baload) 1) (zk cX12_layFits 93 (.ifCond .eq 25) 3)) (and (zk cX12_layFits 96 (.iload 5) 2) (zk cX12_layFits 98 (.aload_n 0) 1))) (and (and (zk cX12_layFits 99 (.getfield 346) 3) (zk cX12_layFits 102 (.if_icmp .lt 16) 3)) (and (zk cX12_layFits 105 (.iload 5) 2) (zk cX12_layFits 107 (.aload_n 0) 1)))) (and (and (and (zk cX12_layFits 108 (.getfield 349) 3) (zk cX12_layFits 111 (.if_icmp .gt 7) 3)) (and (zk cX12_layFits 114 (.iconst 1) 1) (zk cX12_layFits 115 (.goto 4) 3))) (and (and (zk cX12_layFits 126 (.iinc 3 1) 3) (zk cX12_layFits 129 (.goto (-101)) 3)) (and (zk cX12_layFits 28 (.iload_n 3) 1) (zk cX12_layFits 29 (.aload_n 0) 1))))) (and (and (and (and (zk cX12_layFits 30 (.getfield 335) 3) (zk cX12_layFits 33 (.if_icmp .ge 99) 3)) (and (zk cX12_layFits 132 (.return_) 1) (zk cX12_layFits 36 (.aload_n 0) 1))) (and (and (zk cX12_layFits 37 (.getfield 80) 3) (zk cX12_layFits 40 (.iload_n 3) 1)) (and (zk cX12_layFits 41 (.iaload) 1) (zk cX12_layFits 42 (.iload_n 2) 1)))) (and (and (and (zk cX12_layFits 43 (.if_icmp .le 6) 3) (zk cX12_layFits 49 (.aload_n 0) 1)) (and (zk cX12_layFits 50 (.iload_n 3) 1) (zk cX12_layFits 51 (.iload_n 2) 1))) (and (and (zk cX12_layFits 52 (.invokevirtual 361) 3) (zk cX12_layFits 55 (.iconst 0) 1)) (and (zk cX12_layFits 56 (.istore 4) 2) (zk cX12_layFits 46 (.goto 80) 3)))))) = true := by decide +kernel
theorem dX12_layFits_92 : decode cX12_layFits 92 = .ok (.baload, 1) := zk_of (zk_l (zk_l (zk_l (zk_l (zk_l zdX12_layFits_92)))))
theorem dX12_layFits_93 : decode cX12_layFits 93 = .ok (.ifCond .eq 25, 3) := zk_of (zk_r (zk_l (zk_l (zk_l (zk_l zdX12_layFits_92)))))
theorem dX12_layFits_96 : decode cX12_layFits 96 = .ok (.iload 5, 2) := zk_of (zk_l (zk_r (zk_l (zk_l (zk_l zdX12_layFits_92)))))
theorem dX12_layFits_98 : decode cX12_layFits 98 = .ok (.aload_n 0, 1) := zk_of (zk_r (zk_r (zk_l (zk_l (zk_l zdX12_layFits_92)))))
theorem dX12_layFits_99 : decode cX12_layFits 99 = .ok (.getfield 346, 3) := zk_of (zk_l (zk_l (zk_r (zk_l (zk_l zdX12_layFits_92)))))
theorem dX12_layFits_102 : decode cX12_layFits 102 = .ok (.if_icmp .lt 16, 3) := zk_of (zk_r (zk_l (zk_r (zk_l (zk_l zdX12_layFits_92)))))
theorem dX12_layFits_105 : decode cX12_layFits 105 = .ok (.iload 5, 2) := zk_of (zk_l (zk_r (zk_r (zk_l (zk_l zdX12_layFits_92)))))
theorem dX12_layFits_107 : decode cX12_layFits 107 = .ok (.aload_n 0, 1) := zk_of (zk_r (zk_r (zk_r (zk_l (zk_l zdX12_layFits_92)))))
theorem dX12_layFits_108 : decode cX12_layFits 108 = .ok (.getfield 349, 3) := zk_of (zk_l (zk_l (zk_l (zk_r (zk_l zdX12_layFits_92)))))
theorem dX12_layFits_111 : decode cX12_layFits 111 = .ok (.if_icmp .gt 7, 3) := zk_of (zk_r (zk_l (zk_l (zk_r (zk_l zdX12_layFits_92)))))
theorem dX12_layFits_114 : decode cX12_layFits 114 = .ok (.iconst 1, 1) := zk_of (zk_l (zk_r (zk_l (zk_r (zk_l zdX12_layFits_92)))))
theorem dX12_layFits_115 : decode cX12_layFits 115 = .ok (.goto 4, 3) := zk_of (zk_r (zk_r (zk_l (zk_r (zk_l zdX12_layFits_92)))))
theorem dX12_layFits_126 : decode cX12_layFits 126 = .ok (.iinc 3 1, 3) := zk_of (zk_l (zk_l (zk_r (zk_r (zk_l zdX12_layFits_92)))))
theorem dX12_layFits_129 : decode cX12_layFits 129 = .ok (.goto (-101), 3) := zk_of (zk_r (zk_l (zk_r (zk_r (zk_l zdX12_layFits_92)))))
theorem dX12_layFits_28 : decode cX12_layFits 28 = .ok (.iload_n 3, 1) := zk_of (zk_l (zk_r (zk_r (zk_r (zk_l zdX12_layFits_92)))))
theorem dX12_layFits_29 : decode cX12_layFits 29 = .ok (.aload_n 0, 1) := zk_of (zk_r (zk_r (zk_r (zk_r (zk_l zdX12_layFits_92)))))
theorem dX12_layFits_30 : decode cX12_layFits 30 = .ok (.getfield 335, 3) := zk_of (zk_l (zk_l (zk_l (zk_l (zk_r zdX12_layFits_92)))))
theorem dX12_layFits_33 : decode cX12_layFits 33 = .ok (.if_icmp .ge 99, 3) := zk_of (zk_r (zk_l (zk_l (zk_l (zk_r zdX12_layFits_92)))))
theorem dX12_layFits_132 : decode cX12_layFits 132 = .ok (.return_, 1) := zk_of (zk_l (zk_r (zk_l (zk_l (zk_r zdX12_layFits_92)))))
theorem dX12_layFits_36 : decode cX12_layFits 36 = .ok (.aload_n 0, 1) := zk_of (zk_r (zk_r (zk_l (zk_l (zk_r zdX12_layFits_92)))))
theorem dX12_layFits_37 : decode cX12_layFits 37 = .ok (.getfield 80, 3) := zk_of (zk_l (zk_l (zk_r (zk_l (zk_r zdX12_layFits_92)))))
theorem dX12_layFits_40 : decode cX12_layFits 40 = .ok (.iload_n 3, 1) := zk_of (zk_r (zk_l (zk_r (zk_l (zk_r zdX12_layFits_92)))))
theorem dX12_layFits_41 : decode cX12_layFits 41 = .ok (.iaload, 1) := zk_of (zk_l (zk_r (zk_r (zk_l (zk_r zdX12_layFits_92)))))
theorem dX12_layFits_42 : decode cX12_layFits 42 = .ok (.iload_n 2, 1) := zk_of (zk_r (zk_r (zk_r (zk_l (zk_r zdX12_layFits_92)))))
theorem dX12_layFits_43 : decode cX12_layFits 43 = .ok (.if_icmp .le 6, 3) := zk_of (zk_l (zk_l (zk_l (zk_r (zk_r zdX12_layFits_92)))))
theorem dX12_layFits_49 : decode cX12_layFits 49 = .ok (.aload_n 0, 1) := zk_of (zk_r (zk_l (zk_l (zk_r (zk_r zdX12_layFits_92)))))
theorem dX12_layFits_50 : decode cX12_layFits 50 = .ok (.iload_n 3, 1) := zk_of (zk_l (zk_r (zk_l (zk_r (zk_r zdX12_layFits_92)))))
theorem dX12_layFits_51 : decode cX12_layFits 51 = .ok (.iload_n 2, 1) := zk_of (zk_r (zk_r (zk_l (zk_r (zk_r zdX12_layFits_92)))))
theorem dX12_layFits_52 : decode cX12_layFits 52 = .ok (.invokevirtual 361, 3) := zk_of (zk_l (zk_l (zk_r (zk_r (zk_r zdX12_layFits_92)))))
theorem dX12_layFits_55 : decode cX12_layFits 55 = .ok (.iconst 0, 1) := zk_of (zk_r (zk_l (zk_r (zk_r (zk_r zdX12_layFits_92)))))
theorem dX12_layFits_56 : decode cX12_layFits 56 = .ok (.istore 4, 2) := zk_of (zk_l (zk_r (zk_r (zk_r (zk_r zdX12_layFits_92)))))
theorem dX12_layFits_46 : decode cX12_layFits 46 = .ok (.goto 80, 3) := zk_of (zk_r (zk_r (zk_r (zk_r (zk_r zdX12_layFits_92)))))
set_option maxRecDepth 20000 in
theorem ggX12_layFits_X12_layLeft : GoodIn wsX12_layFits wsX12_layLeft := ggi (fun w h => List.mem_cons_of_mem _ (List.mem_append_left _ (List.mem_append_right _ (List.mem_append_right _ (List.mem_append_right _ (List.mem_append_left _ h)))))) gs_X12_layLeft
set_option maxRecDepth 20000 in
theorem gX12_layFits_X12_layLeft : GoodIn wsX12_layFits (wsV RX12 361 RX12 yX12_layLeft wsX12_layLeft) := goodIn_app (goodIn_of _ (by decide +kernel)) ggX12_layFits_X12_layLeft
theorem zdX12_layFits_21 : (and (and (and (zk cX12_layFits 21 (.aload_n 0) 1) (zk cX12_layFits 22 (.iload_n 2) 1)) (and (zk cX12_layFits 23 (.invokevirtual 313) 3) (zk cX12_layFits 26 (.iconst 0) 1))) (and (and (zk cX12_layFits 27 (.istore_n 3) 1) (zk cX12_layFits 0 (.iconst 0) 1)) (zk cX12_layFits 1 (.istore_n 3) 1))) = true := by decide +kernel
theorem dX12_layFits_21 : decode cX12_layFits 21 = .ok (.aload_n 0, 1) := zk_of (zk_l (zk_l (zk_l zdX12_layFits_21)))
theorem dX12_layFits_22 : decode cX12_layFits 22 = .ok (.iload_n 2, 1) := zk_of (zk_r (zk_l (zk_l zdX12_layFits_21)))
theorem dX12_layFits_23 : decode cX12_layFits 23 = .ok (.invokevirtual 313, 3) := zk_of (zk_l (zk_r (zk_l zdX12_layFits_21)))
theorem dX12_layFits_26 : decode cX12_layFits 26 = .ok (.iconst 0, 1) := zk_of (zk_r (zk_r (zk_l zdX12_layFits_21)))
theorem dX12_layFits_27 : decode cX12_layFits 27 = .ok (.istore_n 3, 1) := zk_of (zk_l (zk_l (zk_r zdX12_layFits_21)))
theorem dX12_layFits_0 : decode cX12_layFits 0 = .ok (.iconst 0, 1) := zk_of (zk_r (zk_l (zk_r zdX12_layFits_21)))
theorem dX12_layFits_1 : decode cX12_layFits 1 = .ok (.istore_n 3, 1) := zk_of (zk_r (zk_r zdX12_layFits_21))
set_option maxRecDepth 20000 in
theorem ggX12_layFits_X12_laySpansOf : GoodIn wsX12_layFits wsX12_laySpansOf := ggi (fun w h => List.mem_cons_of_mem _ (List.mem_append_left _ (List.mem_append_right _ (List.mem_append_right _ (List.mem_append_right _ (List.mem_append_right _ h)))))) gs_X12_laySpansOf
set_option maxRecDepth 20000 in
theorem gX12_layFits_X12_laySpansOf : GoodIn wsX12_layFits (wsV RX12 313 RX12 yX12_laySpansOf wsX12_laySpansOf) := goodIn_app (goodIn_of _ (by decide +kernel)) ggX12_layFits_X12_laySpansOf
/-- HissHornModel.layFits(II)V of cell 0 -/
def rmX12_layFits_0 : Room := { frames := 142, cells := 0, slots := 0, locals := 8525 }
theorem hX12_layFits_0_X12 : ∀ w ∈ u_ws RX12 TX12 69, w ∈ wsX12_layFits := fun w h => (List.mem_cons_of_mem _ (List.mem_append_right _ h))
theorem mX12_layFits_0_1 : Cond.fieldLink RX12 121 "HissHornModel" "fit" "[Z" ∈ wsX12_layFits := (List.mem_cons_of_mem _ (List.mem_append_left _ (List.mem_append_left _ (List.mem_of_getElem? (i := 13) rfl))))
def LX12_layFits_0_2 (k21 : Int32 → Int32 → SX → Option (Int32 × SX)) : Nat → Int32 → Int32 → Int32 → SX → Option (Int32 × SX)
  | 0, _, _, _, _ => none
  | n + 1, z1, z2, z3, u => (if 61 ≤ z3 then (k21 z1 z2 u) else (gd (inb z3 61) (lt (sA u 34 (upd (u.2.1 34) z3.toNatClampNeg (vp_nar .boolean 1))) fun u2 => ((LX12_layFits_0_2 k21 n) z1 z2 (z3 + 1) u2))))
theorem mX12_layFits_0_2 : Cond.fieldLink RX12 335 "HissHornModel" "readings" "I" ∈ wsX12_layFits := (List.mem_cons_of_mem _ (List.mem_append_left _ (List.mem_append_left _ (List.mem_of_getElem? (i := 14) rfl))))
theorem mX12_layFits_0_3 : Cond.fieldLink RX12 80 "HissHornModel" "readDay" "[I" ∈ wsX12_layFits := (List.mem_cons_of_mem _ (List.mem_append_left _ (List.mem_append_left _ (List.mem_of_getElem? (i := 15) rfl))))
def GX12_layFits_0_119 (k58 : Int32 → Int32 → Int32 → Int32 → SX → Option (Int32 × SX)) (z1 : Int32) (z2 : Int32) (z3 : Int32) (z4 : Int32) (y0 : Int32) (y1 : Int32) (u : SX) : Option (Int32 × SX) := (gd (inb y1 61) (lt (sA u 34 (upd (u.2.1 34) y1.toNatClampNeg (vp_nar .boolean y0))) fun u19 => (k58 z1 z2 z3 (z4 + 1) u19)))
def GX12_layFits_0_118 (k58 : Int32 → Int32 → Int32 → Int32 → SX → Option (Int32 × SX)) (z1 : Int32) (z2 : Int32) (z3 : Int32) (z4 : Int32) (y0 : Int32) (u : SX) : Option (Int32 × SX) := (GX12_layFits_0_119 k58 z1 z2 z3 z4 0 y0 u)
theorem mX12_layFits_0_4 : Cond.fieldLink RX12 346 "HissHornModel" "leftFrom" "I" ∈ wsX12_layFits := (List.mem_cons_of_mem _ (List.mem_append_left _ (List.mem_append_left _ (List.mem_of_getElem? (i := 16) rfl))))
theorem mX12_layFits_0_5 : Cond.fieldLink RX12 349 "HissHornModel" "leftTo" "I" ∈ wsX12_layFits := (List.mem_cons_of_mem _ (List.mem_append_left _ (List.mem_append_left _ (List.mem_of_getElem? (i := 17) rfl))))
def LX12_layFits_0_58 (k126 : Int32 → Int32 → Int32 → SX → Option (Int32 × SX)) : Nat → Int32 → Int32 → Int32 → Int32 → SX → Option (Int32 × SX)
  | 0, _, _, _, _, _ => none
  | n + 1, z1, z2, z3, z4, u => (if 61 ≤ z4 then (k126 z1 z2 z3 u) else ((fX12_aimOf_0 z3 5 u).bind fun q => match q with | (r11, u12) => ((fX12_guessWorth_0 z1 z4 r11 u12).bind fun q => match q with | (r14, u15) => (gd (inb z4 61) (if (u15.2.1 34 z4.toNatClampNeg) = 0 then (GX12_layFits_0_118 (LX12_layFits_0_58 k126 n) z1 z2 z3 z4 z4 u15) else (if r14 < (u15.1 16) then (GX12_layFits_0_118 (LX12_layFits_0_58 k126 n) z1 z2 z3 z4 z4 u15) else (if (u15.1 17) < r14 then (GX12_layFits_0_118 (LX12_layFits_0_58 k126 n) z1 z2 z3 z4 z4 u15) else (GX12_layFits_0_119 (LX12_layFits_0_58 k126 n) z1 z2 z3 z4 1 z4 u15))))))))
def GX12_layFits_0_126 (k28 : Int32 → Int32 → Int32 → SX → Option (Int32 × SX)) (z1 : Int32) (z2 : Int32) (z3 : Int32) (u : SX) : Option (Int32 × SX) := (k28 z1 z2 (z3 + 1) u)
def LX12_layFits_0_28  : Nat → Int32 → Int32 → Int32 → SX → Option (Int32 × SX)
  | 0, _, _, _, _ => none
  | n + 1, z1, z2, z3, u => (if (u.1 15) ≤ z3 then (some (0, u)) else (gd (inb z3 80) (if (u.2.1 21 z3.toNatClampNeg) ≤ z2 then ((fX12_layLeft_0 z3 z2 u).bind fun q => match q with | (r8, u9) => (LX12_layFits_0_58 (GX12_layFits_0_126 (LX12_layFits_0_28 n)) 5000 z1 z2 z3 0 u9)) else (GX12_layFits_0_126 (LX12_layFits_0_28 n) z1 z2 z3 u))))
def GX12_layFits_0_21 (z1 : Int32) (z2 : Int32) (u : SX) : Option (Int32 × SX) := ((fX12_laySpansOf_0 z2 u).bind fun q => match q with | (r4, u5) => (LX12_layFits_0_28  5000 z1 z2 0 u5))
def fX12_layFits_0 (x1 : Int32) (x2 : Int32) (u : SX) : Option (Int32 × SX) := (LX12_layFits_0_2 GX12_layFits_0_21 5000 x1 x2 0 u)
set_option maxHeartbeats 4000000 in
set_option maxRecDepth 100000 in
theorem wLX12_layFits_0_2 {p : Program} {l : Launch} {e : Env} {s : State} {m : MethodId} {args : Array Value} {below : List Frame} {meth : Method} {c : Code} {D : va_G} {cy : Nat → ClassId} {ad st : Nat → Nat} (C : Cx RX12 cX12_layFits 6 none wsX12_layFits p s m args meth c) (hK : Ky D [(cy 0, .int), (cy 1, .long), (cy 2, .boolean), (cy 3, .byte), (cy 4, .object "HissHorn$Text")] st s) (hJ : JM ad st) {r : Int32} {u' : SX} {k21 : Int32 → Int32 → SX → Option (Int32 × SX)} (hk21 : ∀ (z1 : Int32) (z2 : Int32) (u : SX) (H : Heap) (locs : List Loc) (ls : Array Slot), k21 z1 z2 u = some (r, u') → va_P D vwCl (VM cy ad st u) H → va_S (Ax (AM ad) s.heap.size) s.heap H locs → lv_has ls 6 [(0, .ref (ad 0)), (1, .int z1), (2, .int z2)] → W p l e rmX12_layFits_0 s m args below meth c H locs 0 0 (MQ below (Qv D (VM cy ad st) (AM ad) s.heap.size r u') args s 0 0 (Ax (AM ad) s.heap.size)) (F0 m 21 ls [])) : ∀ (n : Nat) (z1 : Int32) (z2 : Int32) (z3 : Int32) (u : SX) (H : Heap) (locs : List Loc) (ls : Array Slot), LX12_layFits_0_2 k21 n z1 z2 z3 u = some (r, u') → va_P D vwCl (VM cy ad st u) H → va_S (Ax (AM ad) s.heap.size) s.heap H locs → lv_has ls 6 [(0, .ref (ad 0)), (1, .int z1), (2, .int z2), (3, .int z3)] → W p l e rmX12_layFits_0 s m args below meth c H locs 0 0 (MQ below (Qv D (VM cy ad st) (AM ad) s.heap.size r u') args s 0 0 (Ax (AM ad) s.heap.size)) (F0 m 2 ls []) := by
  intro n
  induction n with
  | zero =>
    intro z1 z2 z3 u H locs ls h
    exact absurd h (by intro q; cases q)
  | succ n ih =>
    intro z1 z2 z3 u H locs ls h hP hS hl
    rw [LX12_layFits_0_2] at h
    refine lv_iload_n C.1 C.2.1 dX12_layFits_2 rfl (lv_at hl 3 rfl) ?_
    refine lv_bipush (v := 61) C.1 C.2.1 dX12_layFits_3 (by decide) ?_
    refine lv_icmp_ge (tgt := 21) C.1 C.2.1 dX12_layFits_5 (by decide) (fun c5 => ?_) (fun c5 => ?_)
    · rw [if_pos c5] at h
      exact hk21 _ _ _ _ _ _ h hP hS (lv_sub hl [0, 1, 2] rfl)
    · rw [if_neg c5] at h
      refine lv_aload_n C.1 C.2.1 dX12_layFits_8 rfl (lv_at hl 0 rfl) ?_
      refine gM_0_fit C hX12_layFits_0_X12 hK hP mX12_layFits_0_1 dX12_layFits_9 ?_
      refine lv_iload_n C.1 C.2.1 dX12_layFits_12 rfl (lv_at hl 3 rfl) ?_
      refine lv_iconst (v := 1) C.1 C.2.1 dX12_layFits_13 (by decide) ?_
      obtain ⟨hg1, h⟩ := gd_some h
      refine tM_34 C hK hP hJ hS hg1 dX12_layFits_14 (fun H locs hP hS => ?_)
      obtain ⟨u2, hu3, h⟩ := lt_some h
      rw [← hu3] at hP
      refine lv_iinc (v := z3 + 1) (lv' := [(3, .int (z3 + 1)), (0, .ref (ad 0)), (1, .int z1), (2, .int z2)]) C.1 C.2.1 dX12_layFits_15 hl (k := 3) rfl rfl (by decide) rfl (fun ls hl => ?_)
      replace hl := lv_sub (l' := [(0, .ref (ad 0)), (1, .int z1), (2, .int z2), (3, .int (z3 + 1))]) hl [1, 2, 3, 0] rfl
      refine lv_goto (tgt := 2) C.1 C.2.1 dX12_layFits_18 (by decide) ?_
      exact ih _ _ _ _ _ _ _ h hP hS hl
set_option maxHeartbeats 4000000 in
set_option maxRecDepth 100000 in
theorem wGX12_layFits_0_119 {p : Program} {l : Launch} {e : Env} {s : State} {m : MethodId} {args : Array Value} {below : List Frame} {meth : Method} {c : Code} {D : va_G} {cy : Nat → ClassId} {ad st : Nat → Nat} (C : Cx RX12 cX12_layFits 6 none wsX12_layFits p s m args meth c) (hK : Ky D [(cy 0, .int), (cy 1, .long), (cy 2, .boolean), (cy 3, .byte), (cy 4, .object "HissHorn$Text")] st s) (hJ : JM ad st) {r : Int32} {u' : SX} {k58 : Int32 → Int32 → Int32 → Int32 → SX → Option (Int32 × SX)} (hk58 : ∀ (z1 : Int32) (z2 : Int32) (z3 : Int32) (z4 : Int32) (u : SX) (H : Heap) (locs : List Loc) (ls : Array Slot), k58 z1 z2 z3 z4 u = some (r, u') → va_P D vwCl (VM cy ad st u) H → va_S (Ax (AM ad) s.heap.size) s.heap H locs → lv_has ls 6 [(0, .ref (ad 0)), (1, .int z1), (2, .int z2), (3, .int z3), (4, .int z4)] → W p l e rmX12_layFits_0 s m args below meth c H locs 0 0 (MQ below (Qv D (VM cy ad st) (AM ad) s.heap.size r u') args s 0 0 (Ax (AM ad) s.heap.size)) (F0 m 58 ls [])) (z1 : Int32) (z2 : Int32) (z3 : Int32) (z4 : Int32) (y0 : Int32) (y1 : Int32) (u : SX) (H : Heap) (locs : List Loc) (ls : Array Slot) (h : GX12_layFits_0_119 k58 z1 z2 z3 z4 y0 y1 u = some (r, u')) (hP : va_P D vwCl (VM cy ad st u) H) (hS : va_S (Ax (AM ad) s.heap.size) s.heap H locs) (hl : lv_has ls 6 [(0, .ref (ad 0)), (1, .int z1), (2, .int z2), (3, .int z3), (4, .int z4)]) : W p l e rmX12_layFits_0 s m args below meth c H locs 0 0 (MQ below (Qv D (VM cy ad st) (AM ad) s.heap.size r u') args s 0 0 (Ax (AM ad) s.heap.size)) (F0 m 119 ls [.int y0, .int y1, .ref (ad 34)]) := by
  unfold GX12_layFits_0_119 at h
  obtain ⟨hg18, h⟩ := gd_some h
  refine tM_34 C hK hP hJ hS hg18 dX12_layFits_119 (fun H locs hP hS => ?_)
  obtain ⟨u19, hu20, h⟩ := lt_some h
  rw [← hu20] at hP
  refine lv_iinc (v := z4 + 1) (lv' := [(4, .int (z4 + 1)), (0, .ref (ad 0)), (1, .int z1), (2, .int z2), (3, .int z3)]) C.1 C.2.1 dX12_layFits_120 hl (k := 4) rfl rfl (by decide) rfl (fun ls hl => ?_)
  replace hl := lv_sub (l' := [(0, .ref (ad 0)), (1, .int z1), (2, .int z2), (3, .int z3), (4, .int (z4 + 1))]) hl [1, 2, 3, 4, 0] rfl
  refine lv_goto (tgt := 58) C.1 C.2.1 dX12_layFits_123 (by decide) ?_
  exact hk58 _ _ _ _ _ _ _ _ h hP hS hl
set_option maxHeartbeats 4000000 in
set_option maxRecDepth 100000 in
theorem wGX12_layFits_0_118 {p : Program} {l : Launch} {e : Env} {s : State} {m : MethodId} {args : Array Value} {below : List Frame} {meth : Method} {c : Code} {D : va_G} {cy : Nat → ClassId} {ad st : Nat → Nat} (C : Cx RX12 cX12_layFits 6 none wsX12_layFits p s m args meth c) (hK : Ky D [(cy 0, .int), (cy 1, .long), (cy 2, .boolean), (cy 3, .byte), (cy 4, .object "HissHorn$Text")] st s) (hJ : JM ad st) {r : Int32} {u' : SX} {k58 : Int32 → Int32 → Int32 → Int32 → SX → Option (Int32 × SX)} (hk58 : ∀ (z1 : Int32) (z2 : Int32) (z3 : Int32) (z4 : Int32) (u : SX) (H : Heap) (locs : List Loc) (ls : Array Slot), k58 z1 z2 z3 z4 u = some (r, u') → va_P D vwCl (VM cy ad st u) H → va_S (Ax (AM ad) s.heap.size) s.heap H locs → lv_has ls 6 [(0, .ref (ad 0)), (1, .int z1), (2, .int z2), (3, .int z3), (4, .int z4)] → W p l e rmX12_layFits_0 s m args below meth c H locs 0 0 (MQ below (Qv D (VM cy ad st) (AM ad) s.heap.size r u') args s 0 0 (Ax (AM ad) s.heap.size)) (F0 m 58 ls [])) (z1 : Int32) (z2 : Int32) (z3 : Int32) (z4 : Int32) (y0 : Int32) (u : SX) (H : Heap) (locs : List Loc) (ls : Array Slot) (h : GX12_layFits_0_118 k58 z1 z2 z3 z4 y0 u = some (r, u')) (hP : va_P D vwCl (VM cy ad st u) H) (hS : va_S (Ax (AM ad) s.heap.size) s.heap H locs) (hl : lv_has ls 6 [(0, .ref (ad 0)), (1, .int z1), (2, .int z2), (3, .int z3), (4, .int z4)]) : W p l e rmX12_layFits_0 s m args below meth c H locs 0 0 (MQ below (Qv D (VM cy ad st) (AM ad) s.heap.size r u') args s 0 0 (Ax (AM ad) s.heap.size)) (F0 m 118 ls [.int y0, .ref (ad 34)]) := by
  unfold GX12_layFits_0_118 at h
  refine lv_iconst (v := 0) C.1 C.2.1 dX12_layFits_118 (by decide) ?_
  exact wGX12_layFits_0_119 C hK hJ hk58 _ _ _ _ _ _ _ _ _ _ h hP hS hl
set_option maxHeartbeats 4000000 in
set_option maxRecDepth 100000 in
theorem wLX12_layFits_0_58 {p : Program} {l : Launch} {e : Env} {s : State} {m : MethodId} {args : Array Value} {below : List Frame} {meth : Method} {c : Code} {D : va_G} {cy : Nat → ClassId} {ad st : Nat → Nat} (C : Cx RX12 cX12_layFits 6 none wsX12_layFits p s m args meth c) (hK : Ky D [(cy 0, .int), (cy 1, .long), (cy 2, .boolean), (cy 3, .byte), (cy 4, .object "HissHorn$Text")] st s) (hJ : JM ad st) {r : Int32} {u' : SX} {k126 : Int32 → Int32 → Int32 → SX → Option (Int32 × SX)} (hk126 : ∀ (z1 : Int32) (z2 : Int32) (z3 : Int32) (u : SX) (H : Heap) (locs : List Loc) (ls : Array Slot), k126 z1 z2 z3 u = some (r, u') → va_P D vwCl (VM cy ad st u) H → va_S (Ax (AM ad) s.heap.size) s.heap H locs → lv_has ls 6 [(0, .ref (ad 0)), (1, .int z1), (2, .int z2), (3, .int z3)] → W p l e rmX12_layFits_0 s m args below meth c H locs 0 0 (MQ below (Qv D (VM cy ad st) (AM ad) s.heap.size r u') args s 0 0 (Ax (AM ad) s.heap.size)) (F0 m 126 ls [])) : ∀ (n : Nat) (z1 : Int32) (z2 : Int32) (z3 : Int32) (z4 : Int32) (u : SX) (H : Heap) (locs : List Loc) (ls : Array Slot), LX12_layFits_0_58 k126 n z1 z2 z3 z4 u = some (r, u') → va_P D vwCl (VM cy ad st u) H → va_S (Ax (AM ad) s.heap.size) s.heap H locs → lv_has ls 6 [(0, .ref (ad 0)), (1, .int z1), (2, .int z2), (3, .int z3), (4, .int z4)] → W p l e rmX12_layFits_0 s m args below meth c H locs 0 0 (MQ below (Qv D (VM cy ad st) (AM ad) s.heap.size r u') args s 0 0 (Ax (AM ad) s.heap.size)) (F0 m 58 ls []) := by
  intro n
  induction n with
  | zero =>
    intro z1 z2 z3 z4 u H locs ls h
    exact absurd h (by intro q; cases q)
  | succ n ih =>
    intro z1 z2 z3 z4 u H locs ls h hP hS hl
    rw [LX12_layFits_0_58] at h
    refine lv_iload C.1 C.2.1 dX12_layFits_58 (lv_at hl 4 rfl) ?_
    refine lv_bipush (v := 61) C.1 C.2.1 dX12_layFits_60 (by decide) ?_
    refine lv_icmp_ge (tgt := 126) C.1 C.2.1 dX12_layFits_62 (by decide) (fun c62 => ?_) (fun c62 => ?_)
    · rw [if_pos c62] at h
      exact hk126 _ _ _ _ _ _ _ h hP hS (lv_sub hl [0, 1, 2, 3] rfl)
    · rw [if_neg c62] at h
      refine lv_aload_n C.1 C.2.1 dX12_layFits_65 rfl (lv_at hl 0 rfl) ?_
      refine lv_iload_n C.1 C.2.1 dX12_layFits_66 rfl (lv_at hl 1 rfl) ?_
      refine lv_iload C.1 C.2.1 dX12_layFits_67 (lv_at hl 4 rfl) ?_
      refine lv_aload_n C.1 C.2.1 dX12_layFits_69 rfl (lv_at hl 0 rfl) ?_
      refine lv_iload_n C.1 C.2.1 dX12_layFits_70 rfl (lv_at hl 3 rfl) ?_
      refine lv_iconst (v := 5) C.1 C.2.1 dX12_layFits_71 (by decide) ?_
      obtain ⟨⟨r11, u12⟩, hc13, h⟩ := bd_some h
      try dsimp only at h
      refine cg_i (As := [.int z3, .int 5]) (rest := [.int z4, .int z1, .ref (ad 0)]) (AM_ge hJ) C hK hP hS (metX12_aimOf_0 l D cy ad st hJ _ z3 5 hc13) (cwV 2 C.2.2.2.2.2.1 gX12_layFits_X12_aimOf rfl rfl rfl (by decide +kernel) ⟨(Nat.le_of_ble_eq_true rfl), (Nat.le_of_ble_eq_true rfl)⟩) 0 12 rfl rfl rfl hl.1 rfl (Nat.le_of_ble_eq_true rfl) dX12_layFits_72 ⟨Nat.zero_le _, Nat.zero_le _⟩ (fun H locs hP hS => ?_)
      obtain ⟨⟨r14, u15⟩, hc16, h⟩ := bd_some h
      try dsimp only at h
      refine cg_i (As := [.int z1, .int z4, .int r11]) (rest := []) (AM_ge hJ) C hK hP hS (metX12_guessWorth_0 l D cy ad st hJ _ z1 z4 r11 hc16) (cwV 3 C.2.2.2.2.2.1 gX12_layFits_X12_guessWorth rfl rfl rfl (by decide +kernel) ⟨(Nat.le_of_ble_eq_true rfl), (Nat.le_of_ble_eq_true rfl)⟩) 0 12 rfl rfl rfl hl.1 rfl (Nat.le_of_ble_eq_true rfl) dX12_layFits_75 ⟨Nat.zero_le _, Nat.zero_le _⟩ (fun H locs hP hS => ?_)
      refine lv_istore (lv' := [(5, .int r14), (0, .ref (ad 0)), (1, .int z1), (2, .int z2), (3, .int z3), (4, .int z4)]) C.1 C.2.1 dX12_layFits_78 hl (by decide) rfl (fun ls hl => ?_)
      replace hl := lv_sub (l' := [(0, .ref (ad 0)), (1, .int z1), (2, .int z2), (3, .int z3), (4, .int z4), (5, .int r14)]) hl [1, 2, 3, 4, 5, 0] rfl
      refine lv_aload_n C.1 C.2.1 dX12_layFits_80 rfl (lv_at hl 0 rfl) ?_
      refine gM_0_fit C hX12_layFits_0_X12 hK hP mX12_layFits_0_1 dX12_layFits_81 ?_
      refine lv_iload C.1 C.2.1 dX12_layFits_84 (lv_at hl 4 rfl) ?_
      refine lv_aload_n C.1 C.2.1 dX12_layFits_86 rfl (lv_at hl 0 rfl) ?_
      refine gM_0_fit C hX12_layFits_0_X12 hK hP mX12_layFits_0_1 dX12_layFits_87 ?_
      refine lv_iload C.1 C.2.1 dX12_layFits_90 (lv_at hl 4 rfl) ?_
      obtain ⟨hg17, h⟩ := gd_some h
      refine lM_34 C hK hP hg17 dX12_layFits_92 ?_
      refine lv_if_eq (tgt := 118) C.1 C.2.1 dX12_layFits_93 (by decide) (fun c93 => ?_) (fun c93 => ?_)
      · rw [if_pos c93] at h
        exact wGX12_layFits_0_118 C hK hJ ih _ _ _ _ _ _ _ _ _ h hP hS (lv_sub hl [0, 1, 2, 3, 4] rfl)
      · rw [if_neg c93] at h
        refine lv_iload C.1 C.2.1 dX12_layFits_96 (lv_at hl 5 rfl) ?_
        refine lv_aload_n C.1 C.2.1 dX12_layFits_98 rfl (lv_at hl 0 rfl) ?_
        refine gM_0_leftFrom C hX12_layFits_0_X12 hK hP mX12_layFits_0_4 dX12_layFits_99 ?_
        refine lv_icmp_lt (tgt := 118) C.1 C.2.1 dX12_layFits_102 (by decide) (fun c102 => ?_) (fun c102 => ?_)
        · rw [if_pos c102] at h
          exact wGX12_layFits_0_118 C hK hJ ih _ _ _ _ _ _ _ _ _ h hP hS (lv_sub hl [0, 1, 2, 3, 4] rfl)
        · rw [if_neg c102] at h
          refine lv_iload C.1 C.2.1 dX12_layFits_105 (lv_at hl 5 rfl) ?_
          refine lv_aload_n C.1 C.2.1 dX12_layFits_107 rfl (lv_at hl 0 rfl) ?_
          refine gM_0_leftTo C hX12_layFits_0_X12 hK hP mX12_layFits_0_5 dX12_layFits_108 ?_
          refine lv_icmp_gt (tgt := 118) C.1 C.2.1 dX12_layFits_111 (by decide) (fun c111 => ?_) (fun c111 => ?_)
          · rw [if_pos c111] at h
            exact wGX12_layFits_0_118 C hK hJ ih _ _ _ _ _ _ _ _ _ h hP hS (lv_sub hl [0, 1, 2, 3, 4] rfl)
          · rw [if_neg c111] at h
            refine lv_iconst (v := 1) C.1 C.2.1 dX12_layFits_114 (by decide) ?_
            refine lv_goto (tgt := 119) C.1 C.2.1 dX12_layFits_115 (by decide) ?_
            exact wGX12_layFits_0_119 C hK hJ ih _ _ _ _ _ _ _ _ _ _ h hP hS (lv_sub hl [0, 1, 2, 3, 4] rfl)
set_option maxHeartbeats 4000000 in
set_option maxRecDepth 100000 in
theorem wGX12_layFits_0_126 {p : Program} {l : Launch} {e : Env} {s : State} {m : MethodId} {args : Array Value} {below : List Frame} {meth : Method} {c : Code} {D : va_G} {cy : Nat → ClassId} {ad st : Nat → Nat} (C : Cx RX12 cX12_layFits 6 none wsX12_layFits p s m args meth c) (hK : Ky D [(cy 0, .int), (cy 1, .long), (cy 2, .boolean), (cy 3, .byte), (cy 4, .object "HissHorn$Text")] st s) (hJ : JM ad st) {r : Int32} {u' : SX} {k28 : Int32 → Int32 → Int32 → SX → Option (Int32 × SX)} (hk28 : ∀ (z1 : Int32) (z2 : Int32) (z3 : Int32) (u : SX) (H : Heap) (locs : List Loc) (ls : Array Slot), k28 z1 z2 z3 u = some (r, u') → va_P D vwCl (VM cy ad st u) H → va_S (Ax (AM ad) s.heap.size) s.heap H locs → lv_has ls 6 [(0, .ref (ad 0)), (1, .int z1), (2, .int z2), (3, .int z3)] → W p l e rmX12_layFits_0 s m args below meth c H locs 0 0 (MQ below (Qv D (VM cy ad st) (AM ad) s.heap.size r u') args s 0 0 (Ax (AM ad) s.heap.size)) (F0 m 28 ls [])) (z1 : Int32) (z2 : Int32) (z3 : Int32) (u : SX) (H : Heap) (locs : List Loc) (ls : Array Slot) (h : GX12_layFits_0_126 k28 z1 z2 z3 u = some (r, u')) (hP : va_P D vwCl (VM cy ad st u) H) (hS : va_S (Ax (AM ad) s.heap.size) s.heap H locs) (hl : lv_has ls 6 [(0, .ref (ad 0)), (1, .int z1), (2, .int z2), (3, .int z3)]) : W p l e rmX12_layFits_0 s m args below meth c H locs 0 0 (MQ below (Qv D (VM cy ad st) (AM ad) s.heap.size r u') args s 0 0 (Ax (AM ad) s.heap.size)) (F0 m 126 ls []) := by
  unfold GX12_layFits_0_126 at h
  refine lv_iinc (v := z3 + 1) (lv' := [(3, .int (z3 + 1)), (0, .ref (ad 0)), (1, .int z1), (2, .int z2)]) C.1 C.2.1 dX12_layFits_126 hl (k := 3) rfl rfl (by decide) rfl (fun ls hl => ?_)
  replace hl := lv_sub (l' := [(0, .ref (ad 0)), (1, .int z1), (2, .int z2), (3, .int (z3 + 1))]) hl [1, 2, 3, 0] rfl
  refine lv_goto (tgt := 28) C.1 C.2.1 dX12_layFits_129 (by decide) ?_
  exact hk28 _ _ _ _ _ _ _ h hP hS hl
set_option maxHeartbeats 4000000 in
set_option maxRecDepth 100000 in
theorem wLX12_layFits_0_28 {p : Program} {l : Launch} {e : Env} {s : State} {m : MethodId} {args : Array Value} {below : List Frame} {meth : Method} {c : Code} {D : va_G} {cy : Nat → ClassId} {ad st : Nat → Nat} (C : Cx RX12 cX12_layFits 6 none wsX12_layFits p s m args meth c) (hK : Ky D [(cy 0, .int), (cy 1, .long), (cy 2, .boolean), (cy 3, .byte), (cy 4, .object "HissHorn$Text")] st s) (hJ : JM ad st) {r : Int32} {u' : SX}   : ∀ (n : Nat) (z1 : Int32) (z2 : Int32) (z3 : Int32) (u : SX) (H : Heap) (locs : List Loc) (ls : Array Slot), LX12_layFits_0_28  n z1 z2 z3 u = some (r, u') → va_P D vwCl (VM cy ad st u) H → va_S (Ax (AM ad) s.heap.size) s.heap H locs → lv_has ls 6 [(0, .ref (ad 0)), (1, .int z1), (2, .int z2), (3, .int z3)] → W p l e rmX12_layFits_0 s m args below meth c H locs 0 0 (MQ below (Qv D (VM cy ad st) (AM ad) s.heap.size r u') args s 0 0 (Ax (AM ad) s.heap.size)) (F0 m 28 ls []) := by
  intro n
  induction n with
  | zero =>
    intro z1 z2 z3 u H locs ls h
    exact absurd h (by intro q; cases q)
  | succ n ih =>
    intro z1 z2 z3 u H locs ls h hP hS hl
    rw [LX12_layFits_0_28] at h
    refine lv_iload_n C.1 C.2.1 dX12_layFits_28 rfl (lv_at hl 3 rfl) ?_
    refine lv_aload_n C.1 C.2.1 dX12_layFits_29 rfl (lv_at hl 0 rfl) ?_
    refine gM_0_readings C hX12_layFits_0_X12 hK hP mX12_layFits_0_2 dX12_layFits_30 ?_
    refine lv_icmp_ge (tgt := 132) C.1 C.2.1 dX12_layFits_33 (by decide) (fun c33 => ?_) (fun c33 => ?_)
    · rw [if_pos c33] at h
      cases h
      exact rt_v C hP hS dX12_layFits_132
    · rw [if_neg c33] at h
      refine lv_aload_n C.1 C.2.1 dX12_layFits_36 rfl (lv_at hl 0 rfl) ?_
      refine gM_0_readDay C hX12_layFits_0_X12 hK hP mX12_layFits_0_3 dX12_layFits_37 ?_
      refine lv_iload_n C.1 C.2.1 dX12_layFits_40 rfl (lv_at hl 3 rfl) ?_
      obtain ⟨hg7, h⟩ := gd_some h
      refine lM_21 C hK hP hg7 dX12_layFits_41 ?_
      refine lv_iload_n C.1 C.2.1 dX12_layFits_42 rfl (lv_at hl 2 rfl) ?_
      refine lv_icmp_le (tgt := 49) C.1 C.2.1 dX12_layFits_43 (by decide) (fun c43 => ?_) (fun c43 => ?_)
      · rw [if_pos c43] at h
        refine lv_aload_n C.1 C.2.1 dX12_layFits_49 rfl (lv_at hl 0 rfl) ?_
        refine lv_iload_n C.1 C.2.1 dX12_layFits_50 rfl (lv_at hl 3 rfl) ?_
        refine lv_iload_n C.1 C.2.1 dX12_layFits_51 rfl (lv_at hl 2 rfl) ?_
        obtain ⟨⟨r8, u9⟩, hc10, h⟩ := bd_some h
        try dsimp only at h
        refine cg_v (As := [.int z3, .int z2]) (rest := []) (AM_ge hJ) C hK hP hS (metX12_layLeft_0 l D cy ad st hJ _ z3 z2 hc10) (cwV 2 C.2.2.2.2.2.1 gX12_layFits_X12_layLeft rfl rfl rfl (by decide +kernel) ⟨(Nat.le_of_ble_eq_true rfl), (Nat.le_of_ble_eq_true rfl)⟩) 0 12 rfl rfl rfl hl.1 rfl (Nat.le_of_ble_eq_true rfl) dX12_layFits_52 ⟨Nat.zero_le _, Nat.zero_le _⟩ (fun H locs hP hS => ?_)
        refine lv_iconst (v := 0) C.1 C.2.1 dX12_layFits_55 (by decide) ?_
        refine lv_istore (lv' := [(4, .int 0), (0, .ref (ad 0)), (1, .int z1), (2, .int z2), (3, .int z3)]) C.1 C.2.1 dX12_layFits_56 hl (by decide) rfl (fun ls hl => ?_)
        replace hl := lv_sub (l' := [(0, .ref (ad 0)), (1, .int z1), (2, .int z2), (3, .int z3), (4, .int 0)]) hl [1, 2, 3, 4, 0] rfl
        exact wLX12_layFits_0_58 C hK hJ (wGX12_layFits_0_126 C hK hJ ih) 5000 _ _ _ _ _ _ _ _ h hP hS hl
      · rw [if_neg c43] at h
        refine lv_goto (tgt := 126) C.1 C.2.1 dX12_layFits_46 (by decide) ?_
        exact wGX12_layFits_0_126 C hK hJ ih _ _ _ _ _ _ _ h hP hS hl
set_option maxHeartbeats 4000000 in
set_option maxRecDepth 100000 in
theorem wGX12_layFits_0_21 {p : Program} {l : Launch} {e : Env} {s : State} {m : MethodId} {args : Array Value} {below : List Frame} {meth : Method} {c : Code} {D : va_G} {cy : Nat → ClassId} {ad st : Nat → Nat} (C : Cx RX12 cX12_layFits 6 none wsX12_layFits p s m args meth c) (hK : Ky D [(cy 0, .int), (cy 1, .long), (cy 2, .boolean), (cy 3, .byte), (cy 4, .object "HissHorn$Text")] st s) (hJ : JM ad st) {r : Int32} {u' : SX}   (z1 : Int32) (z2 : Int32) (u : SX) (H : Heap) (locs : List Loc) (ls : Array Slot) (h : GX12_layFits_0_21 z1 z2 u = some (r, u')) (hP : va_P D vwCl (VM cy ad st u) H) (hS : va_S (Ax (AM ad) s.heap.size) s.heap H locs) (hl : lv_has ls 6 [(0, .ref (ad 0)), (1, .int z1), (2, .int z2)]) : W p l e rmX12_layFits_0 s m args below meth c H locs 0 0 (MQ below (Qv D (VM cy ad st) (AM ad) s.heap.size r u') args s 0 0 (Ax (AM ad) s.heap.size)) (F0 m 21 ls []) := by
  unfold GX12_layFits_0_21 at h
  refine lv_aload_n C.1 C.2.1 dX12_layFits_21 rfl (lv_at hl 0 rfl) ?_
  refine lv_iload_n C.1 C.2.1 dX12_layFits_22 rfl (lv_at hl 2 rfl) ?_
  obtain ⟨⟨r4, u5⟩, hc6, h⟩ := bd_some h
  try dsimp only at h
  refine cg_v (As := [.int z2]) (rest := []) (AM_ge hJ) C hK hP hS (metX12_laySpansOf_0 l D cy ad st hJ _ z2 hc6) (cwV 1 C.2.2.2.2.2.1 gX12_layFits_X12_laySpansOf rfl rfl rfl (by decide +kernel) ⟨(Nat.le_of_ble_eq_true rfl), (Nat.le_of_ble_eq_true rfl)⟩) 0 12 rfl rfl rfl hl.1 rfl (Nat.le_of_ble_eq_true rfl) dX12_layFits_23 ⟨Nat.zero_le _, Nat.zero_le _⟩ (fun H locs hP hS => ?_)
  refine lv_iconst (v := 0) C.1 C.2.1 dX12_layFits_26 (by decide) ?_
  refine lv_istore_n (lv' := [(3, .int 0), (0, .ref (ad 0)), (1, .int z1), (2, .int z2)]) C.1 C.2.1 dX12_layFits_27 rfl hl (by decide) rfl (fun ls hl => ?_)
  replace hl := lv_sub (l' := [(0, .ref (ad 0)), (1, .int z1), (2, .int z2), (3, .int 0)]) hl [1, 2, 3, 0] rfl
  exact wLX12_layFits_0_28 C hK hJ  5000 _ _ _ _ _ _ _ h hP hS hl
set_option maxHeartbeats 4000000 in
set_option maxRecDepth 100000 in
theorem wX12_layFits_0 {p : Program} {l : Launch} {e : Env} {s : State} {m : MethodId} {args : Array Value} {below : List Frame} {meth : Method} {c : Code} {D : va_G} {cy : Nat → ClassId} {ad st : Nat → Nat} (C : Cx RX12 cX12_layFits 6 none wsX12_layFits p s m args meth c) (hK : Ky D [(cy 0, .int), (cy 1, .long), (cy 2, .boolean), (cy 3, .byte), (cy 4, .object "HissHorn$Text")] st s) (hJ : JM ad st) (x1 : Int32) (x2 : Int32) {u : SX} {r : Int32} {u' : SX} {H : Heap} {locs : List Loc} {ls : Array Slot} (h : fX12_layFits_0 x1 x2 u = some (r, u')) (hP : va_P D vwCl (VM cy ad st u) H) (hS : va_S (Ax (AM ad) s.heap.size) s.heap H locs) (hl : lv_has ls 6 [(0, .ref (ad 0)), (1, .int x1), (2, .int x2)]) : W p l e rmX12_layFits_0 s m args below meth c H locs 0 0 (MQ below (Qv D (VM cy ad st) (AM ad) s.heap.size r u') args s 0 0 (Ax (AM ad) s.heap.size)) (F0 m 0 ls []) := by
  unfold fX12_layFits_0 at h
  refine lv_iconst (v := 0) C.1 C.2.1 dX12_layFits_0 (by decide) ?_
  refine lv_istore_n (lv' := [(3, .int 0), (0, .ref (ad 0)), (1, .int x1), (2, .int x2)]) C.1 C.2.1 dX12_layFits_1 rfl hl (by decide) rfl (fun ls hl => ?_)
  replace hl := lv_sub (l' := [(0, .ref (ad 0)), (1, .int x1), (2, .int x2), (3, .int 0)]) hl [1, 2, 3, 0] rfl
  exact wLX12_layFits_0_2 C hK hJ (wGX12_layFits_0_21 C hK hJ ) 5000 _ _ _ _ _ _ _ h hP hS hl
theorem metX12_layFits_0 (l : Launch) (D : va_G) (cy : Nat → ClassId) (ad st : Nat → Nat) (hJ : JM ad st) (sz : Nat) (x1 : Int32) (x2 : Int32) {u : SX} {r : Int32} {u' : SX} (h : fX12_layFits_0 x1 x2 u = some (r, u')) : Met l yX12_layFits wsX12_layFits rmX12_layFits_0 (va_Pc [.ref (ad 0), .int x1, .int x2] (Px D [(cy 0, .int), (cy 1, .long), (cy 2, .boolean), (cy 3, .byte), (cy 4, .object "HissHorn$Text")] st (VM cy ad st) sz u)) (Qv D (VM cy ad st) (AM ad) sz r u') 0 0 (Ax (AM ad) sz) := by
  refine Met.ofW (cc := cX12_layFits) (maxL := 6) (ret := none) (by decide) rfl ?_
  intro p e s m args below meth c s₁ B hml hv
  obtain ⟨rfl, hsz, hP, hK⟩ := hv
  subst hsz
  have C : Cx RX12 cX12_layFits 6 none wsX12_layFits p s m _ meth c := ⟨B.exec, B.bytes, hml, B.returns, findClass_of_methodNamed B.named, atoms_spec (ws := wsX12_layFits) B.pre, B.notSynchronized⟩
  have hl := lv_entry ([.ref (ad 0), .int x1, .int x2]) (n := 6) (Nat.le_of_ble_eq_true rfl)
  rw [lg_entry_eq]
  exact wX12_layFits_0 C hK hJ x1 x2 h hP va_S.rf hl

theorem zdX12_isGuess_0 : (and (and (and (and (zk cX12_isGuess 0 (.iload_n 1) 1) (zk cX12_isGuess 1 (.iconst 0) 1)) (zk cX12_isGuess 2 (.aload_n 0) 1)) (and (zk cX12_isGuess 3 (.getfield 20) 3) (zk cX12_isGuess 6 (.iconst 1) 1))) (and (and (and (zk cX12_isGuess 7 (.iaload) 1) (zk cX12_isGuess 8 (.iconst 1) 1)) (zk cX12_isGuess 9 (.isub) 1)) (and (zk cX12_isGuess 10 (.invokestatic 155) 3) (zk cX12_isGuess 13 (.ireturn) 1)))) = true := by decide +kernel
theorem dX12_isGuess_0 : decode cX12_isGuess 0 = .ok (.iload_n 1, 1) := zk_of (zk_l (zk_l (zk_l (zk_l zdX12_isGuess_0))))
theorem dX12_isGuess_1 : decode cX12_isGuess 1 = .ok (.iconst 0, 1) := zk_of (zk_r (zk_l (zk_l (zk_l zdX12_isGuess_0))))
theorem dX12_isGuess_2 : decode cX12_isGuess 2 = .ok (.aload_n 0, 1) := zk_of (zk_r (zk_l (zk_l zdX12_isGuess_0)))
theorem dX12_isGuess_3 : decode cX12_isGuess 3 = .ok (.getfield 20, 3) := zk_of (zk_l (zk_r (zk_l zdX12_isGuess_0)))
theorem dX12_isGuess_6 : decode cX12_isGuess 6 = .ok (.iconst 1, 1) := zk_of (zk_r (zk_r (zk_l zdX12_isGuess_0)))
theorem dX12_isGuess_7 : decode cX12_isGuess 7 = .ok (.iaload, 1) := zk_of (zk_l (zk_l (zk_l (zk_r zdX12_isGuess_0))))
theorem dX12_isGuess_8 : decode cX12_isGuess 8 = .ok (.iconst 1, 1) := zk_of (zk_r (zk_l (zk_l (zk_r zdX12_isGuess_0))))
theorem dX12_isGuess_9 : decode cX12_isGuess 9 = .ok (.isub, 1) := zk_of (zk_r (zk_l (zk_r zdX12_isGuess_0)))
theorem dX12_isGuess_10 : decode cX12_isGuess 10 = .ok (.invokestatic 155, 3) := zk_of (zk_l (zk_r (zk_r zdX12_isGuess_0)))
theorem dX12_isGuess_13 : decode cX12_isGuess 13 = .ok (.ireturn, 1) := zk_of (zk_r (zk_r (zk_r zdX12_isGuess_0)))
set_option maxRecDepth 20000 in
theorem ggX12_isGuess_X12_isIn : GoodIn wsX12_isGuess wsX12_isIn := ggi (fun w h => List.mem_cons_of_mem _ (List.mem_append_left _ (List.mem_append_right _ h))) gs_X12_isIn
set_option maxRecDepth 20000 in
theorem gX12_isGuess_X12_isIn : GoodIn wsX12_isGuess (va_wsS RX12 155 yX12_isIn wsX12_isIn) := goodIn_app (goodIn_of _ (by decide +kernel)) ggX12_isGuess_X12_isIn
/-- HissHornModel.isGuess(I)Z of cell 0 -/
def rmX12_isGuess_0 : Room := { frames := 1, cells := 0, slots := 0, locals := 22 }
theorem hX12_isGuess_0_X12 : ∀ w ∈ u_ws RX12 TX12 69, w ∈ wsX12_isGuess := fun w h => (List.mem_cons_of_mem _ (List.mem_append_right _ h))
theorem mX12_isGuess_0_1 : Cond.fieldLink RX12 20 "HissHornModel" "textMany" "[I" ∈ wsX12_isGuess := (List.mem_cons_of_mem _ (List.mem_append_left _ (List.mem_append_left _ (List.mem_of_getElem? (i := 3) rfl))))
def fX12_isGuess_0 (x1 : Int32) (u : SX) : Option (Int32 × SX) := (gd (inb 1 3) ((fX12_isIn x1 0 ((u.2.1 4 (1 : Int32).toNatClampNeg) - 1)).bind fun r2 => (gd (isB r2) (some (r2, u)))))
set_option maxHeartbeats 4000000 in
set_option maxRecDepth 100000 in
theorem wX12_isGuess_0 {p : Program} {l : Launch} {e : Env} {s : State} {m : MethodId} {args : Array Value} {below : List Frame} {meth : Method} {c : Code} {D : va_G} {cy : Nat → ClassId} {ad st : Nat → Nat} (C : Cx RX12 cX12_isGuess 2 (some .boolean) wsX12_isGuess p s m args meth c) (hK : Ky D [(cy 0, .int), (cy 1, .long), (cy 2, .boolean), (cy 3, .byte), (cy 4, .object "HissHorn$Text")] st s) (hJ : JM ad st) (x1 : Int32) {u : SX} {r : Int32} {u' : SX} {H : Heap} {locs : List Loc} {ls : Array Slot} (h : fX12_isGuess_0 x1 u = some (r, u')) (hP : va_P D vwCl (VM cy ad st u) H) (hS : va_S (Ax (AM ad) s.heap.size) s.heap H locs) (hl : lv_has ls 2 [(0, .ref (ad 0)), (1, .int x1)]) : W p l e rmX12_isGuess_0 s m args below meth c H locs 0 0 (MQ below (Qi D (VM cy ad st) (AM ad) s.heap.size r u') args s 0 0 (Ax (AM ad) s.heap.size)) (F0 m 0 ls []) := by
  unfold fX12_isGuess_0 at h
  refine lv_iload_n C.1 C.2.1 dX12_isGuess_0 rfl (lv_at hl 1 rfl) ?_
  refine lv_iconst (v := 0) C.1 C.2.1 dX12_isGuess_1 (by decide) ?_
  refine lv_aload_n C.1 C.2.1 dX12_isGuess_2 rfl (lv_at hl 0 rfl) ?_
  refine gM_0_textMany C hX12_isGuess_0_X12 hK hP mX12_isGuess_0_1 dX12_isGuess_3 ?_
  refine lv_iconst (v := 1) C.1 C.2.1 dX12_isGuess_6 (by decide) ?_
  obtain ⟨hg1, h⟩ := gd_some h
  refine lM_4 C hK hP hg1 dX12_isGuess_7 ?_
  refine lv_iconst (v := 1) C.1 C.2.1 dX12_isGuess_8 (by decide) ?_
  refine lv_isub C.1 C.2.1 dX12_isGuess_9 ?_
  obtain ⟨r2, hc4, h⟩ := bd_some h
  refine cs_i (As := [.int x1, .int 0, .int ((u.2.1 4 (1 : Int32).toNatClampNeg) - 1)]) (rest := []) (AM_ge hJ) C hK hP hS (metX12_isIn l D cy st _ x1 0 ((u.2.1 4 (1 : Int32).toNatClampNeg) - 1) hc4) (va_cwS 3 C.2.2.2.2.2.1 gX12_isGuess_X12_isIn rfl rfl rfl (by decide +kernel) ⟨(Nat.le_of_ble_eq_true rfl), (Nat.le_of_ble_eq_true rfl)⟩) rfl hl.1 rfl (Nat.le_of_ble_eq_true rfl) dX12_isGuess_10 ⟨Nat.zero_le _, Nat.zero_le _⟩ (fun H locs hP hS => ?_)
  obtain ⟨hg5, h⟩ := gd_some h
  cases h
  exact rt_z hg5 C hP hS dX12_isGuess_13
theorem metX12_isGuess_0 (l : Launch) (D : va_G) (cy : Nat → ClassId) (ad st : Nat → Nat) (hJ : JM ad st) (sz : Nat) (x1 : Int32) {u : SX} {r : Int32} {u' : SX} (h : fX12_isGuess_0 x1 u = some (r, u')) : Met l yX12_isGuess wsX12_isGuess rmX12_isGuess_0 (va_Pc [.ref (ad 0), .int x1] (Px D [(cy 0, .int), (cy 1, .long), (cy 2, .boolean), (cy 3, .byte), (cy 4, .object "HissHorn$Text")] st (VM cy ad st) sz u)) (Qi D (VM cy ad st) (AM ad) sz r u') 0 0 (Ax (AM ad) sz) := by
  refine Met.ofW (cc := cX12_isGuess) (maxL := 2) (ret := (some .boolean)) (by decide) rfl ?_
  intro p e s m args below meth c s₁ B hml hv
  obtain ⟨rfl, hsz, hP, hK⟩ := hv
  subst hsz
  have C : Cx RX12 cX12_isGuess 2 (some .boolean) wsX12_isGuess p s m _ meth c := ⟨B.exec, B.bytes, hml, B.returns, findClass_of_methodNamed B.named, atoms_spec (ws := wsX12_isGuess) B.pre, B.notSynchronized⟩
  have hl := lv_entry ([.ref (ad 0), .int x1]) (n := 2) (Nat.le_of_ble_eq_true rfl)
  rw [lg_entry_eq]
  exact wX12_isGuess_0 C hK hJ x1 h hP va_S.rf hl

theorem zdX12_fits_96 : (and (and (and (and (and (zk cX12_fits 96 (.iinc 7 1) 3) (zk cX12_fits 99 (.goto (-45)) 3)) (and (zk cX12_fits 87 (.istore 4) 2) (zk cX12_fits 89 (.iload 7) 2))) (and (and (zk cX12_fits 91 (.istore 5) 2) (zk cX12_fits 93 (.iinc 6 1) 3)) (and (zk cX12_fits 54 (.iload 7) 2) (zk cX12_fits 56 (.bipush 61) 2)))) (and (and (and (zk cX12_fits 58 (.if_icmp .ge 44) 3) (zk cX12_fits 61 (.aload_n 0) 1)) (and (zk cX12_fits 62 (.getfield 121) 3) (zk cX12_fits 65 (.iload 7) 2))) (and (and (zk cX12_fits 67 (.baload) 1) (zk cX12_fits 68 (.ifCond .ne 6) 3)) (and (zk cX12_fits 74 (.iload 4) 2) (zk cX12_fits 76 (.iconst (-1)) 1))))) (and (and (and (and (zk cX12_fits 77 (.if_icmp .ne 8) 3) (zk cX12_fits 85 (.iload 4) 2)) (and (zk cX12_fits 80 (.iload 7) 2) (zk cX12_fits 82 (.goto 5) 3))) (and (and (zk cX12_fits 71 (.goto 25) 3) (zk cX12_fits 102 (.iload_n 3) 1)) (and (zk cX12_fits 103 (.ifCond .ne 8) 3) (zk cX12_fits 111 (.iload_n 3) 1)))) (and (and (and (zk cX12_fits 112 (.iconst 1) 1) (zk cX12_fits 113 (.if_icmp .ne 8) 3)) (and (zk cX12_fits 121 (.iload 6) 2) (zk cX12_fits 123 (.ireturn) 1))) (and (and (zk cX12_fits 116 (.iload 5) 2) (zk cX12_fits 118 (.goto 5) 3)) (and (zk cX12_fits 106 (.iload 4) 2) (zk cX12_fits 108 (.goto 15) 3)))))) = true := by decide +kernel
theorem dX12_fits_96 : decode cX12_fits 96 = .ok (.iinc 7 1, 3) := zk_of (zk_l (zk_l (zk_l (zk_l (zk_l zdX12_fits_96)))))
theorem dX12_fits_99 : decode cX12_fits 99 = .ok (.goto (-45), 3) := zk_of (zk_r (zk_l (zk_l (zk_l (zk_l zdX12_fits_96)))))
theorem dX12_fits_87 : decode cX12_fits 87 = .ok (.istore 4, 2) := zk_of (zk_l (zk_r (zk_l (zk_l (zk_l zdX12_fits_96)))))
theorem dX12_fits_89 : decode cX12_fits 89 = .ok (.iload 7, 2) := zk_of (zk_r (zk_r (zk_l (zk_l (zk_l zdX12_fits_96)))))
theorem dX12_fits_91 : decode cX12_fits 91 = .ok (.istore 5, 2) := zk_of (zk_l (zk_l (zk_r (zk_l (zk_l zdX12_fits_96)))))
theorem dX12_fits_93 : decode cX12_fits 93 = .ok (.iinc 6 1, 3) := zk_of (zk_r (zk_l (zk_r (zk_l (zk_l zdX12_fits_96)))))
theorem dX12_fits_54 : decode cX12_fits 54 = .ok (.iload 7, 2) := zk_of (zk_l (zk_r (zk_r (zk_l (zk_l zdX12_fits_96)))))
theorem dX12_fits_56 : decode cX12_fits 56 = .ok (.bipush 61, 2) := zk_of (zk_r (zk_r (zk_r (zk_l (zk_l zdX12_fits_96)))))
theorem dX12_fits_58 : decode cX12_fits 58 = .ok (.if_icmp .ge 44, 3) := zk_of (zk_l (zk_l (zk_l (zk_r (zk_l zdX12_fits_96)))))
theorem dX12_fits_61 : decode cX12_fits 61 = .ok (.aload_n 0, 1) := zk_of (zk_r (zk_l (zk_l (zk_r (zk_l zdX12_fits_96)))))
theorem dX12_fits_62 : decode cX12_fits 62 = .ok (.getfield 121, 3) := zk_of (zk_l (zk_r (zk_l (zk_r (zk_l zdX12_fits_96)))))
theorem dX12_fits_65 : decode cX12_fits 65 = .ok (.iload 7, 2) := zk_of (zk_r (zk_r (zk_l (zk_r (zk_l zdX12_fits_96)))))
theorem dX12_fits_67 : decode cX12_fits 67 = .ok (.baload, 1) := zk_of (zk_l (zk_l (zk_r (zk_r (zk_l zdX12_fits_96)))))
theorem dX12_fits_68 : decode cX12_fits 68 = .ok (.ifCond .ne 6, 3) := zk_of (zk_r (zk_l (zk_r (zk_r (zk_l zdX12_fits_96)))))
theorem dX12_fits_74 : decode cX12_fits 74 = .ok (.iload 4, 2) := zk_of (zk_l (zk_r (zk_r (zk_r (zk_l zdX12_fits_96)))))
theorem dX12_fits_76 : decode cX12_fits 76 = .ok (.iconst (-1), 1) := zk_of (zk_r (zk_r (zk_r (zk_r (zk_l zdX12_fits_96)))))
theorem dX12_fits_77 : decode cX12_fits 77 = .ok (.if_icmp .ne 8, 3) := zk_of (zk_l (zk_l (zk_l (zk_l (zk_r zdX12_fits_96)))))
theorem dX12_fits_85 : decode cX12_fits 85 = .ok (.iload 4, 2) := zk_of (zk_r (zk_l (zk_l (zk_l (zk_r zdX12_fits_96)))))
theorem dX12_fits_80 : decode cX12_fits 80 = .ok (.iload 7, 2) := zk_of (zk_l (zk_r (zk_l (zk_l (zk_r zdX12_fits_96)))))
theorem dX12_fits_82 : decode cX12_fits 82 = .ok (.goto 5, 3) := zk_of (zk_r (zk_r (zk_l (zk_l (zk_r zdX12_fits_96)))))
theorem dX12_fits_71 : decode cX12_fits 71 = .ok (.goto 25, 3) := zk_of (zk_l (zk_l (zk_r (zk_l (zk_r zdX12_fits_96)))))
theorem dX12_fits_102 : decode cX12_fits 102 = .ok (.iload_n 3, 1) := zk_of (zk_r (zk_l (zk_r (zk_l (zk_r zdX12_fits_96)))))
theorem dX12_fits_103 : decode cX12_fits 103 = .ok (.ifCond .ne 8, 3) := zk_of (zk_l (zk_r (zk_r (zk_l (zk_r zdX12_fits_96)))))
theorem dX12_fits_111 : decode cX12_fits 111 = .ok (.iload_n 3, 1) := zk_of (zk_r (zk_r (zk_r (zk_l (zk_r zdX12_fits_96)))))
theorem dX12_fits_112 : decode cX12_fits 112 = .ok (.iconst 1, 1) := zk_of (zk_l (zk_l (zk_l (zk_r (zk_r zdX12_fits_96)))))
theorem dX12_fits_113 : decode cX12_fits 113 = .ok (.if_icmp .ne 8, 3) := zk_of (zk_r (zk_l (zk_l (zk_r (zk_r zdX12_fits_96)))))
theorem dX12_fits_121 : decode cX12_fits 121 = .ok (.iload 6, 2) := zk_of (zk_l (zk_r (zk_l (zk_r (zk_r zdX12_fits_96)))))
theorem dX12_fits_123 : decode cX12_fits 123 = .ok (.ireturn, 1) := zk_of (zk_r (zk_r (zk_l (zk_r (zk_r zdX12_fits_96)))))
theorem dX12_fits_116 : decode cX12_fits 116 = .ok (.iload 5, 2) := zk_of (zk_l (zk_l (zk_r (zk_r (zk_r zdX12_fits_96)))))
theorem dX12_fits_118 : decode cX12_fits 118 = .ok (.goto 5, 3) := zk_of (zk_r (zk_l (zk_r (zk_r (zk_r zdX12_fits_96)))))
theorem dX12_fits_106 : decode cX12_fits 106 = .ok (.iload 4, 2) := zk_of (zk_l (zk_r (zk_r (zk_r (zk_r zdX12_fits_96)))))
theorem dX12_fits_108 : decode cX12_fits 108 = .ok (.goto 15, 3) := zk_of (zk_r (zk_r (zk_r (zk_r (zk_r zdX12_fits_96)))))
theorem zdX12_fits_0 : (and (and (and (and (and (zk cX12_fits 0 (.aload_n 0) 1) (zk cX12_fits 1 (.iconst 0) 1)) (and (zk cX12_fits 2 (.putfield 151) 3) (zk cX12_fits 5 (.aload_n 0) 1))) (and (and (zk cX12_fits 6 (.iload_n 1) 1) (zk cX12_fits 7 (.invokevirtual 430) 3)) (and (zk cX12_fits 10 (.ifCond .eq 24) 3) (zk cX12_fits 34 (.iconst (-1)) 1)))) (and (and (and (zk cX12_fits 35 (.ireturn) 1) (zk cX12_fits 13 (.iload_n 2) 1)) (and (zk cX12_fits 14 (.iconst 0) 1) (zk cX12_fits 15 (.aload_n 0) 1))) (and (and (zk cX12_fits 16 (.getfield 159) 3) (zk cX12_fits 19 (.invokestatic 155) 3)) (and (zk cX12_fits 22 (.ifCond .eq 12) 3) (zk cX12_fits 25 (.iload_n 3) 1))))) (and (and (and (and (zk cX12_fits 26 (.iconst 0) 1) (zk cX12_fits 27 (.iconst 2) 1)) (and (zk cX12_fits 28 (.invokestatic 155) 3) (zk cX12_fits 31 (.ifCond .ne 5) 3))) (and (and (zk cX12_fits 36 (.aload_n 0) 1) (zk cX12_fits 37 (.iload_n 1) 1)) (and (zk cX12_fits 38 (.iload_n 2) 1) (zk cX12_fits 39 (.invokevirtual 433) 3)))) (and (and (and (zk cX12_fits 42 (.iconst (-1)) 1) (zk cX12_fits 43 (.istore 4) 2)) (and (zk cX12_fits 45 (.iconst (-1)) 1) (zk cX12_fits 46 (.istore 5) 2))) (and (and (zk cX12_fits 48 (.iconst 0) 1) (zk cX12_fits 49 (.istore 6) 2)) (and (zk cX12_fits 51 (.iconst 0) 1) (zk cX12_fits 52 (.istore 7) 2)))))) = true := by decide +kernel
theorem dX12_fits_0 : decode cX12_fits 0 = .ok (.aload_n 0, 1) := zk_of (zk_l (zk_l (zk_l (zk_l (zk_l zdX12_fits_0)))))
theorem dX12_fits_1 : decode cX12_fits 1 = .ok (.iconst 0, 1) := zk_of (zk_r (zk_l (zk_l (zk_l (zk_l zdX12_fits_0)))))
theorem dX12_fits_2 : decode cX12_fits 2 = .ok (.putfield 151, 3) := zk_of (zk_l (zk_r (zk_l (zk_l (zk_l zdX12_fits_0)))))
theorem dX12_fits_5 : decode cX12_fits 5 = .ok (.aload_n 0, 1) := zk_of (zk_r (zk_r (zk_l (zk_l (zk_l zdX12_fits_0)))))
theorem dX12_fits_6 : decode cX12_fits 6 = .ok (.iload_n 1, 1) := zk_of (zk_l (zk_l (zk_r (zk_l (zk_l zdX12_fits_0)))))
theorem dX12_fits_7 : decode cX12_fits 7 = .ok (.invokevirtual 430, 3) := zk_of (zk_r (zk_l (zk_r (zk_l (zk_l zdX12_fits_0)))))
theorem dX12_fits_10 : decode cX12_fits 10 = .ok (.ifCond .eq 24, 3) := zk_of (zk_l (zk_r (zk_r (zk_l (zk_l zdX12_fits_0)))))
theorem dX12_fits_34 : decode cX12_fits 34 = .ok (.iconst (-1), 1) := zk_of (zk_r (zk_r (zk_r (zk_l (zk_l zdX12_fits_0)))))
theorem dX12_fits_35 : decode cX12_fits 35 = .ok (.ireturn, 1) := zk_of (zk_l (zk_l (zk_l (zk_r (zk_l zdX12_fits_0)))))
theorem dX12_fits_13 : decode cX12_fits 13 = .ok (.iload_n 2, 1) := zk_of (zk_r (zk_l (zk_l (zk_r (zk_l zdX12_fits_0)))))
theorem dX12_fits_14 : decode cX12_fits 14 = .ok (.iconst 0, 1) := zk_of (zk_l (zk_r (zk_l (zk_r (zk_l zdX12_fits_0)))))
theorem dX12_fits_15 : decode cX12_fits 15 = .ok (.aload_n 0, 1) := zk_of (zk_r (zk_r (zk_l (zk_r (zk_l zdX12_fits_0)))))
theorem dX12_fits_16 : decode cX12_fits 16 = .ok (.getfield 159, 3) := zk_of (zk_l (zk_l (zk_r (zk_r (zk_l zdX12_fits_0)))))
theorem dX12_fits_19 : decode cX12_fits 19 = .ok (.invokestatic 155, 3) := zk_of (zk_r (zk_l (zk_r (zk_r (zk_l zdX12_fits_0)))))
theorem dX12_fits_22 : decode cX12_fits 22 = .ok (.ifCond .eq 12, 3) := zk_of (zk_l (zk_r (zk_r (zk_r (zk_l zdX12_fits_0)))))
theorem dX12_fits_25 : decode cX12_fits 25 = .ok (.iload_n 3, 1) := zk_of (zk_r (zk_r (zk_r (zk_r (zk_l zdX12_fits_0)))))
theorem dX12_fits_26 : decode cX12_fits 26 = .ok (.iconst 0, 1) := zk_of (zk_l (zk_l (zk_l (zk_l (zk_r zdX12_fits_0)))))
theorem dX12_fits_27 : decode cX12_fits 27 = .ok (.iconst 2, 1) := zk_of (zk_r (zk_l (zk_l (zk_l (zk_r zdX12_fits_0)))))
theorem dX12_fits_28 : decode cX12_fits 28 = .ok (.invokestatic 155, 3) := zk_of (zk_l (zk_r (zk_l (zk_l (zk_r zdX12_fits_0)))))
theorem dX12_fits_31 : decode cX12_fits 31 = .ok (.ifCond .ne 5, 3) := zk_of (zk_r (zk_r (zk_l (zk_l (zk_r zdX12_fits_0)))))
theorem dX12_fits_36 : decode cX12_fits 36 = .ok (.aload_n 0, 1) := zk_of (zk_l (zk_l (zk_r (zk_l (zk_r zdX12_fits_0)))))
theorem dX12_fits_37 : decode cX12_fits 37 = .ok (.iload_n 1, 1) := zk_of (zk_r (zk_l (zk_r (zk_l (zk_r zdX12_fits_0)))))
theorem dX12_fits_38 : decode cX12_fits 38 = .ok (.iload_n 2, 1) := zk_of (zk_l (zk_r (zk_r (zk_l (zk_r zdX12_fits_0)))))
theorem dX12_fits_39 : decode cX12_fits 39 = .ok (.invokevirtual 433, 3) := zk_of (zk_r (zk_r (zk_r (zk_l (zk_r zdX12_fits_0)))))
theorem dX12_fits_42 : decode cX12_fits 42 = .ok (.iconst (-1), 1) := zk_of (zk_l (zk_l (zk_l (zk_r (zk_r zdX12_fits_0)))))
theorem dX12_fits_43 : decode cX12_fits 43 = .ok (.istore 4, 2) := zk_of (zk_r (zk_l (zk_l (zk_r (zk_r zdX12_fits_0)))))
theorem dX12_fits_45 : decode cX12_fits 45 = .ok (.iconst (-1), 1) := zk_of (zk_l (zk_r (zk_l (zk_r (zk_r zdX12_fits_0)))))
theorem dX12_fits_46 : decode cX12_fits 46 = .ok (.istore 5, 2) := zk_of (zk_r (zk_r (zk_l (zk_r (zk_r zdX12_fits_0)))))
theorem dX12_fits_48 : decode cX12_fits 48 = .ok (.iconst 0, 1) := zk_of (zk_l (zk_l (zk_r (zk_r (zk_r zdX12_fits_0)))))
theorem dX12_fits_49 : decode cX12_fits 49 = .ok (.istore 6, 2) := zk_of (zk_r (zk_l (zk_r (zk_r (zk_r zdX12_fits_0)))))
theorem dX12_fits_51 : decode cX12_fits 51 = .ok (.iconst 0, 1) := zk_of (zk_l (zk_r (zk_r (zk_r (zk_r zdX12_fits_0)))))
theorem dX12_fits_52 : decode cX12_fits 52 = .ok (.istore 7, 2) := zk_of (zk_r (zk_r (zk_r (zk_r (zk_r zdX12_fits_0)))))
set_option maxRecDepth 20000 in
theorem ggX12_fits_X12_isGuess : GoodIn wsX12_fits wsX12_isGuess := ggi (fun w h => List.mem_cons_of_mem _ (List.mem_append_left _ (List.mem_append_right _ (List.mem_append_left _ h)))) gs_X12_isGuess
set_option maxRecDepth 20000 in
theorem gX12_fits_X12_isGuess : GoodIn wsX12_fits (wsV RX12 430 RX12 yX12_isGuess wsX12_isGuess) := goodIn_app (goodIn_of _ (by decide +kernel)) ggX12_fits_X12_isGuess
set_option maxRecDepth 20000 in
theorem ggX12_fits_X12_isIn : GoodIn wsX12_fits wsX12_isIn := ggi (fun w h => List.mem_cons_of_mem _ (List.mem_append_left _ (List.mem_append_right _ (List.mem_append_right _ (List.mem_append_left _ h))))) gs_X12_isIn
set_option maxRecDepth 20000 in
theorem gX12_fits_X12_isIn : GoodIn wsX12_fits (va_wsS RX12 155 yX12_isIn wsX12_isIn) := goodIn_app (goodIn_of _ (by decide +kernel)) ggX12_fits_X12_isIn
set_option maxRecDepth 20000 in
theorem ggX12_fits_X12_layFits : GoodIn wsX12_fits wsX12_layFits := ggi (fun w h => List.mem_cons_of_mem _ (List.mem_append_left _ (List.mem_append_right _ (List.mem_append_right _ (List.mem_append_right _ h))))) gs_X12_layFits
set_option maxRecDepth 20000 in
theorem gX12_fits_X12_layFits : GoodIn wsX12_fits (wsV RX12 433 RX12 yX12_layFits wsX12_layFits) := goodIn_app (goodIn_of _ (by decide +kernel)) ggX12_fits_X12_layFits
/-- HissHornModel.fits(III)I of cell 0 -/
def rmX12_fits_0 : Room := { frames := 143, cells := 0, slots := 0, locals := 8550 }
theorem hX12_fits_0_X12 : ∀ w ∈ u_ws RX12 TX12 69, w ∈ wsX12_fits := fun w h => (List.mem_cons_of_mem _ (List.mem_append_right _ h))
theorem mX12_fits_0_1 : Cond.fieldLink RX12 151 "HissHornModel" "thrown" "I" ∈ wsX12_fits := (List.mem_cons_of_mem _ (List.mem_append_left _ (List.mem_append_left _ (List.mem_of_getElem? (i := 9) rfl))))
theorem mX12_fits_0_2 : Cond.fieldLink RX12 159 "HissHornModel" "now" "I" ∈ wsX12_fits := (List.mem_cons_of_mem _ (List.mem_append_left _ (List.mem_append_left _ (List.mem_of_getElem? (i := 10) rfl))))
theorem mX12_fits_0_3 : Cond.fieldLink RX12 121 "HissHornModel" "fit" "[Z" ∈ wsX12_fits := (List.mem_cons_of_mem _ (List.mem_append_left _ (List.mem_append_left _ (List.mem_of_getElem? (i := 11) rfl))))
def GX12_fits_0_96 (k54 : Int32 → Int32 → Int32 → Int32 → Int32 → SX → Option (Int32 × SX)) (z3 : Int32) (z4 : Int32) (z5 : Int32) (z6 : Int32) (z7 : Int32) (u : SX) : Option (Int32 × SX) := (k54 z3 z4 z5 z6 (z7 + 1) u)
def GX12_fits_0_87 (k54 : Int32 → Int32 → Int32 → Int32 → Int32 → SX → Option (Int32 × SX)) (z3 : Int32) (z6 : Int32) (z7 : Int32) (y0 : Int32) (u : SX) : Option (Int32 × SX) := (GX12_fits_0_96 k54 z3 y0 z7 (z6 + 1) z7 u)
def LX12_fits_0_54 (k102 : Int32 → Int32 → Int32 → Int32 → SX → Option (Int32 × SX)) : Nat → Int32 → Int32 → Int32 → Int32 → Int32 → SX → Option (Int32 × SX)
  | 0, _, _, _, _, _, _ => none
  | n + 1, z3, z4, z5, z6, z7, u => (if 61 ≤ z7 then (k102 z3 z4 z5 z6 u) else (gd (inb z7 61) (if (u.2.1 34 z7.toNatClampNeg) = 0 then (GX12_fits_0_96 (LX12_fits_0_54 k102 n) z3 z4 z5 z6 z7 u) else (if z4 = (-1) then (GX12_fits_0_87 (LX12_fits_0_54 k102 n) z3 z6 z7 z7 u) else (GX12_fits_0_87 (LX12_fits_0_54 k102 n) z3 z6 z7 z4 u)))))
def GX12_fits_0_102 (z3 : Int32) (z4 : Int32) (z5 : Int32) (z6 : Int32) (u : SX) : Option (Int32 × SX) := (if z3 = 0 then (some (z4, u)) else (if z3 = 1 then (some (z5, u)) else (some (z6, u))))
def fX12_fits_0 (x1 : Int32) (x2 : Int32) (x3 : Int32) (u : SX) : Option (Int32 × SX) := (lt (sI u 0 0) fun u1 => ((fX12_isGuess_0 x1 u1).bind fun q => match q with | (r3, u4) => (if r3 = 0 then (some ((-1), u4)) else ((fX12_isIn x2 0 (u4.1 1)).bind fun r6 => (if r6 = 0 then (some ((-1), u4)) else ((fX12_isIn x3 0 2).bind fun r9 => (if r9 = 0 then (some ((-1), u4)) else ((fX12_layFits_0 x1 x2 u4).bind fun q => match q with | (r12, u13) => (LX12_fits_0_54 GX12_fits_0_102 5000 x3 (-1) (-1) 0 0 u13)))))))))
set_option maxHeartbeats 4000000 in
set_option maxRecDepth 100000 in
theorem wGX12_fits_0_96 {p : Program} {l : Launch} {e : Env} {s : State} {m : MethodId} {args : Array Value} {below : List Frame} {meth : Method} {c : Code} {D : va_G} {cy : Nat → ClassId} {ad st : Nat → Nat} (C : Cx RX12 cX12_fits 8 (some .int) wsX12_fits p s m args meth c) (hK : Ky D [(cy 0, .int), (cy 1, .long), (cy 2, .boolean), (cy 3, .byte), (cy 4, .object "HissHorn$Text")] st s) (hJ : JM ad st) {r : Int32} {u' : SX} {k54 : Int32 → Int32 → Int32 → Int32 → Int32 → SX → Option (Int32 × SX)} (hk54 : ∀ (z3 : Int32) (z4 : Int32) (z5 : Int32) (z6 : Int32) (z7 : Int32) (u : SX) (H : Heap) (locs : List Loc) (ls : Array Slot), k54 z3 z4 z5 z6 z7 u = some (r, u') → va_P D vwCl (VM cy ad st u) H → va_S (Ax (AM ad) s.heap.size) s.heap H locs → lv_has ls 8 [(0, .ref (ad 0)), (3, .int z3), (4, .int z4), (5, .int z5), (6, .int z6), (7, .int z7)] → W p l e rmX12_fits_0 s m args below meth c H locs 0 0 (MQ below (Qi D (VM cy ad st) (AM ad) s.heap.size r u') args s 0 0 (Ax (AM ad) s.heap.size)) (F0 m 54 ls [])) (z3 : Int32) (z4 : Int32) (z5 : Int32) (z6 : Int32) (z7 : Int32) (u : SX) (H : Heap) (locs : List Loc) (ls : Array Slot) (h : GX12_fits_0_96 k54 z3 z4 z5 z6 z7 u = some (r, u')) (hP : va_P D vwCl (VM cy ad st u) H) (hS : va_S (Ax (AM ad) s.heap.size) s.heap H locs) (hl : lv_has ls 8 [(0, .ref (ad 0)), (3, .int z3), (4, .int z4), (5, .int z5), (6, .int z6), (7, .int z7)]) : W p l e rmX12_fits_0 s m args below meth c H locs 0 0 (MQ below (Qi D (VM cy ad st) (AM ad) s.heap.size r u') args s 0 0 (Ax (AM ad) s.heap.size)) (F0 m 96 ls []) := by
  unfold GX12_fits_0_96 at h
  refine lv_iinc (v := z7 + 1) (lv' := [(7, .int (z7 + 1)), (0, .ref (ad 0)), (3, .int z3), (4, .int z4), (5, .int z5), (6, .int z6)]) C.1 C.2.1 dX12_fits_96 hl (k := 5) rfl rfl (by decide) rfl (fun ls hl => ?_)
  replace hl := lv_sub (l' := [(0, .ref (ad 0)), (3, .int z3), (4, .int z4), (5, .int z5), (6, .int z6), (7, .int (z7 + 1))]) hl [1, 2, 3, 4, 5, 0] rfl
  refine lv_goto (tgt := 54) C.1 C.2.1 dX12_fits_99 (by decide) ?_
  exact hk54 _ _ _ _ _ _ _ _ _ h hP hS hl
set_option maxHeartbeats 4000000 in
set_option maxRecDepth 100000 in
theorem wGX12_fits_0_87 {p : Program} {l : Launch} {e : Env} {s : State} {m : MethodId} {args : Array Value} {below : List Frame} {meth : Method} {c : Code} {D : va_G} {cy : Nat → ClassId} {ad st : Nat → Nat} (C : Cx RX12 cX12_fits 8 (some .int) wsX12_fits p s m args meth c) (hK : Ky D [(cy 0, .int), (cy 1, .long), (cy 2, .boolean), (cy 3, .byte), (cy 4, .object "HissHorn$Text")] st s) (hJ : JM ad st) {r : Int32} {u' : SX} {k54 : Int32 → Int32 → Int32 → Int32 → Int32 → SX → Option (Int32 × SX)} (hk54 : ∀ (z3 : Int32) (z4 : Int32) (z5 : Int32) (z6 : Int32) (z7 : Int32) (u : SX) (H : Heap) (locs : List Loc) (ls : Array Slot), k54 z3 z4 z5 z6 z7 u = some (r, u') → va_P D vwCl (VM cy ad st u) H → va_S (Ax (AM ad) s.heap.size) s.heap H locs → lv_has ls 8 [(0, .ref (ad 0)), (3, .int z3), (4, .int z4), (5, .int z5), (6, .int z6), (7, .int z7)] → W p l e rmX12_fits_0 s m args below meth c H locs 0 0 (MQ below (Qi D (VM cy ad st) (AM ad) s.heap.size r u') args s 0 0 (Ax (AM ad) s.heap.size)) (F0 m 54 ls [])) (z3 : Int32) (z6 : Int32) (z7 : Int32) (y0 : Int32) (u : SX) (H : Heap) (locs : List Loc) (ls : Array Slot) (h : GX12_fits_0_87 k54 z3 z6 z7 y0 u = some (r, u')) (hP : va_P D vwCl (VM cy ad st u) H) (hS : va_S (Ax (AM ad) s.heap.size) s.heap H locs) (hl : lv_has ls 8 [(0, .ref (ad 0)), (3, .int z3), (6, .int z6), (7, .int z7)]) : W p l e rmX12_fits_0 s m args below meth c H locs 0 0 (MQ below (Qi D (VM cy ad st) (AM ad) s.heap.size r u') args s 0 0 (Ax (AM ad) s.heap.size)) (F0 m 87 ls [.int y0]) := by
  unfold GX12_fits_0_87 at h
  refine lv_istore (lv' := [(4, .int y0), (0, .ref (ad 0)), (3, .int z3), (6, .int z6), (7, .int z7)]) C.1 C.2.1 dX12_fits_87 hl (by decide) rfl (fun ls hl => ?_)
  replace hl := lv_sub (l' := [(0, .ref (ad 0)), (3, .int z3), (4, .int y0), (6, .int z6), (7, .int z7)]) hl [1, 2, 0, 3, 4] rfl
  refine lv_iload C.1 C.2.1 dX12_fits_89 (lv_at hl 4 rfl) ?_
  refine lv_istore (lv' := [(5, .int z7), (0, .ref (ad 0)), (3, .int z3), (4, .int y0), (6, .int z6), (7, .int z7)]) C.1 C.2.1 dX12_fits_91 hl (by decide) rfl (fun ls hl => ?_)
  replace hl := lv_sub (l' := [(0, .ref (ad 0)), (3, .int z3), (4, .int y0), (5, .int z7), (6, .int z6), (7, .int z7)]) hl [1, 2, 3, 0, 4, 5] rfl
  refine lv_iinc (v := z6 + 1) (lv' := [(6, .int (z6 + 1)), (0, .ref (ad 0)), (3, .int z3), (4, .int y0), (5, .int z7), (7, .int z7)]) C.1 C.2.1 dX12_fits_93 hl (k := 4) rfl rfl (by decide) rfl (fun ls hl => ?_)
  replace hl := lv_sub (l' := [(0, .ref (ad 0)), (3, .int z3), (4, .int y0), (5, .int z7), (6, .int (z6 + 1)), (7, .int z7)]) hl [1, 2, 3, 4, 0, 5] rfl
  exact wGX12_fits_0_96 C hK hJ hk54 _ _ _ _ _ _ _ _ _ h hP hS hl
set_option maxHeartbeats 4000000 in
set_option maxRecDepth 100000 in
theorem wLX12_fits_0_54 {p : Program} {l : Launch} {e : Env} {s : State} {m : MethodId} {args : Array Value} {below : List Frame} {meth : Method} {c : Code} {D : va_G} {cy : Nat → ClassId} {ad st : Nat → Nat} (C : Cx RX12 cX12_fits 8 (some .int) wsX12_fits p s m args meth c) (hK : Ky D [(cy 0, .int), (cy 1, .long), (cy 2, .boolean), (cy 3, .byte), (cy 4, .object "HissHorn$Text")] st s) (hJ : JM ad st) {r : Int32} {u' : SX} {k102 : Int32 → Int32 → Int32 → Int32 → SX → Option (Int32 × SX)} (hk102 : ∀ (z3 : Int32) (z4 : Int32) (z5 : Int32) (z6 : Int32) (u : SX) (H : Heap) (locs : List Loc) (ls : Array Slot), k102 z3 z4 z5 z6 u = some (r, u') → va_P D vwCl (VM cy ad st u) H → va_S (Ax (AM ad) s.heap.size) s.heap H locs → lv_has ls 8 [(3, .int z3), (4, .int z4), (5, .int z5), (6, .int z6)] → W p l e rmX12_fits_0 s m args below meth c H locs 0 0 (MQ below (Qi D (VM cy ad st) (AM ad) s.heap.size r u') args s 0 0 (Ax (AM ad) s.heap.size)) (F0 m 102 ls [])) : ∀ (n : Nat) (z3 : Int32) (z4 : Int32) (z5 : Int32) (z6 : Int32) (z7 : Int32) (u : SX) (H : Heap) (locs : List Loc) (ls : Array Slot), LX12_fits_0_54 k102 n z3 z4 z5 z6 z7 u = some (r, u') → va_P D vwCl (VM cy ad st u) H → va_S (Ax (AM ad) s.heap.size) s.heap H locs → lv_has ls 8 [(0, .ref (ad 0)), (3, .int z3), (4, .int z4), (5, .int z5), (6, .int z6), (7, .int z7)] → W p l e rmX12_fits_0 s m args below meth c H locs 0 0 (MQ below (Qi D (VM cy ad st) (AM ad) s.heap.size r u') args s 0 0 (Ax (AM ad) s.heap.size)) (F0 m 54 ls []) := by
  intro n
  induction n with
  | zero =>
    intro z3 z4 z5 z6 z7 u H locs ls h
    exact absurd h (by intro q; cases q)
  | succ n ih =>
    intro z3 z4 z5 z6 z7 u H locs ls h hP hS hl
    rw [LX12_fits_0_54] at h
    refine lv_iload C.1 C.2.1 dX12_fits_54 (lv_at hl 5 rfl) ?_
    refine lv_bipush (v := 61) C.1 C.2.1 dX12_fits_56 (by decide) ?_
    refine lv_icmp_ge (tgt := 102) C.1 C.2.1 dX12_fits_58 (by decide) (fun c58 => ?_) (fun c58 => ?_)
    · rw [if_pos c58] at h
      exact hk102 _ _ _ _ _ _ _ _ h hP hS (lv_sub hl [1, 2, 3, 4] rfl)
    · rw [if_neg c58] at h
      refine lv_aload_n C.1 C.2.1 dX12_fits_61 rfl (lv_at hl 0 rfl) ?_
      refine gM_0_fit C hX12_fits_0_X12 hK hP mX12_fits_0_3 dX12_fits_62 ?_
      refine lv_iload C.1 C.2.1 dX12_fits_65 (lv_at hl 5 rfl) ?_
      obtain ⟨hg15, h⟩ := gd_some h
      refine lM_34 C hK hP hg15 dX12_fits_67 ?_
      refine lv_if_ne (tgt := 74) C.1 C.2.1 dX12_fits_68 (by decide) (fun c68 => ?_) (fun c68 => ?_)
      · rw [if_neg c68] at h
        refine lv_iload C.1 C.2.1 dX12_fits_74 (lv_at hl 2 rfl) ?_
        refine lv_iconst (v := (-1)) C.1 C.2.1 dX12_fits_76 (by decide) ?_
        refine lv_icmp_ne (tgt := 85) C.1 C.2.1 dX12_fits_77 (by decide) (fun c77 => ?_) (fun c77 => ?_)
        · rw [if_neg c77] at h
          refine lv_iload C.1 C.2.1 dX12_fits_85 (lv_at hl 2 rfl) ?_
          exact wGX12_fits_0_87 C hK hJ ih _ _ _ _ _ _ _ _ h hP hS (lv_sub hl [0, 1, 4, 5] rfl)
        · rw [if_pos c77] at h
          refine lv_iload C.1 C.2.1 dX12_fits_80 (lv_at hl 5 rfl) ?_
          refine lv_goto (tgt := 87) C.1 C.2.1 dX12_fits_82 (by decide) ?_
          exact wGX12_fits_0_87 C hK hJ ih _ _ _ _ _ _ _ _ h hP hS (lv_sub hl [0, 1, 4, 5] rfl)
      · rw [if_pos c68] at h
        refine lv_goto (tgt := 96) C.1 C.2.1 dX12_fits_71 (by decide) ?_
        exact wGX12_fits_0_96 C hK hJ ih _ _ _ _ _ _ _ _ _ h hP hS hl
set_option maxHeartbeats 4000000 in
set_option maxRecDepth 100000 in
theorem wGX12_fits_0_102 {p : Program} {l : Launch} {e : Env} {s : State} {m : MethodId} {args : Array Value} {below : List Frame} {meth : Method} {c : Code} {D : va_G} {cy : Nat → ClassId} {ad st : Nat → Nat} (C : Cx RX12 cX12_fits 8 (some .int) wsX12_fits p s m args meth c) (hK : Ky D [(cy 0, .int), (cy 1, .long), (cy 2, .boolean), (cy 3, .byte), (cy 4, .object "HissHorn$Text")] st s) (hJ : JM ad st) {r : Int32} {u' : SX}   (z3 : Int32) (z4 : Int32) (z5 : Int32) (z6 : Int32) (u : SX) (H : Heap) (locs : List Loc) (ls : Array Slot) (h : GX12_fits_0_102 z3 z4 z5 z6 u = some (r, u')) (hP : va_P D vwCl (VM cy ad st u) H) (hS : va_S (Ax (AM ad) s.heap.size) s.heap H locs) (hl : lv_has ls 8 [(3, .int z3), (4, .int z4), (5, .int z5), (6, .int z6)]) : W p l e rmX12_fits_0 s m args below meth c H locs 0 0 (MQ below (Qi D (VM cy ad st) (AM ad) s.heap.size r u') args s 0 0 (Ax (AM ad) s.heap.size)) (F0 m 102 ls []) := by
  unfold GX12_fits_0_102 at h
  refine lv_iload_n C.1 C.2.1 dX12_fits_102 rfl (lv_at hl 0 rfl) ?_
  refine lv_if_ne (tgt := 111) C.1 C.2.1 dX12_fits_103 (by decide) (fun c103 => ?_) (fun c103 => ?_)
  · rw [if_neg c103] at h
    refine lv_iload_n C.1 C.2.1 dX12_fits_111 rfl (lv_at hl 0 rfl) ?_
    refine lv_iconst (v := 1) C.1 C.2.1 dX12_fits_112 (by decide) ?_
    refine lv_icmp_ne (tgt := 121) C.1 C.2.1 dX12_fits_113 (by decide) (fun c113 => ?_) (fun c113 => ?_)
    · rw [if_neg c113] at h
      refine lv_iload C.1 C.2.1 dX12_fits_121 (lv_at hl 3 rfl) ?_
      cases h
      exact rt_i C hP hS dX12_fits_123
    · rw [if_pos c113] at h
      refine lv_iload C.1 C.2.1 dX12_fits_116 (lv_at hl 2 rfl) ?_
      refine lv_goto (tgt := 123) C.1 C.2.1 dX12_fits_118 (by decide) ?_
      cases h
      exact rt_i C hP hS dX12_fits_123
  · rw [if_pos c103] at h
    refine lv_iload C.1 C.2.1 dX12_fits_106 (lv_at hl 1 rfl) ?_
    refine lv_goto (tgt := 123) C.1 C.2.1 dX12_fits_108 (by decide) ?_
    cases h
    exact rt_i C hP hS dX12_fits_123
set_option maxHeartbeats 4000000 in
set_option maxRecDepth 100000 in
theorem wX12_fits_0 {p : Program} {l : Launch} {e : Env} {s : State} {m : MethodId} {args : Array Value} {below : List Frame} {meth : Method} {c : Code} {D : va_G} {cy : Nat → ClassId} {ad st : Nat → Nat} (C : Cx RX12 cX12_fits 8 (some .int) wsX12_fits p s m args meth c) (hK : Ky D [(cy 0, .int), (cy 1, .long), (cy 2, .boolean), (cy 3, .byte), (cy 4, .object "HissHorn$Text")] st s) (hJ : JM ad st) (x1 : Int32) (x2 : Int32) (x3 : Int32) {u : SX} {r : Int32} {u' : SX} {H : Heap} {locs : List Loc} {ls : Array Slot} (h : fX12_fits_0 x1 x2 x3 u = some (r, u')) (hP : va_P D vwCl (VM cy ad st u) H) (hS : va_S (Ax (AM ad) s.heap.size) s.heap H locs) (hl : lv_has ls 8 [(0, .ref (ad 0)), (1, .int x1), (2, .int x2), (3, .int x3)]) : W p l e rmX12_fits_0 s m args below meth c H locs 0 0 (MQ below (Qi D (VM cy ad st) (AM ad) s.heap.size r u') args s 0 0 (Ax (AM ad) s.heap.size)) (F0 m 0 ls []) := by
  unfold fX12_fits_0 at h
  refine lv_aload_n C.1 C.2.1 dX12_fits_0 rfl (lv_at hl 0 rfl) ?_
  refine lv_iconst (v := 0) C.1 C.2.1 dX12_fits_1 (by decide) ?_
  refine pM_0_thrown C hX12_fits_0_X12 hK hP hJ hS mX12_fits_0_1 dX12_fits_2 (fun H locs hP hS => ?_)
  obtain ⟨u1, hu2, h⟩ := lt_some h
  rw [← hu2] at hP
  refine lv_aload_n C.1 C.2.1 dX12_fits_5 rfl (lv_at hl 0 rfl) ?_
  refine lv_iload_n C.1 C.2.1 dX12_fits_6 rfl (lv_at hl 1 rfl) ?_
  obtain ⟨⟨r3, u4⟩, hc5, h⟩ := bd_some h
  try dsimp only at h
  refine cg_i (As := [.int x1]) (rest := []) (AM_ge hJ) C hK hP hS (metX12_isGuess_0 l D cy ad st hJ _ x1 hc5) (cwV 1 C.2.2.2.2.2.1 gX12_fits_X12_isGuess rfl rfl rfl (by decide +kernel) ⟨(Nat.le_of_ble_eq_true rfl), (Nat.le_of_ble_eq_true rfl)⟩) 0 12 rfl rfl rfl hl.1 rfl (Nat.le_of_ble_eq_true rfl) dX12_fits_7 ⟨Nat.zero_le _, Nat.zero_le _⟩ (fun H locs hP hS => ?_)
  refine lv_if_eq (tgt := 34) C.1 C.2.1 dX12_fits_10 (by decide) (fun c10 => ?_) (fun c10 => ?_)
  · rw [if_pos c10] at h
    refine lv_iconst (v := (-1)) C.1 C.2.1 dX12_fits_34 (by decide) ?_
    cases h
    exact rt_i C hP hS dX12_fits_35
  · rw [if_neg c10] at h
    refine lv_iload_n C.1 C.2.1 dX12_fits_13 rfl (lv_at hl 2 rfl) ?_
    refine lv_iconst (v := 0) C.1 C.2.1 dX12_fits_14 (by decide) ?_
    refine lv_aload_n C.1 C.2.1 dX12_fits_15 rfl (lv_at hl 0 rfl) ?_
    refine gM_0_now C hX12_fits_0_X12 hK hP mX12_fits_0_2 dX12_fits_16 ?_
    obtain ⟨r6, hc8, h⟩ := bd_some h
    refine cs_i (As := [.int x2, .int 0, .int (u4.1 1)]) (rest := []) (AM_ge hJ) C hK hP hS (metX12_isIn l D cy st _ x2 0 (u4.1 1) hc8) (va_cwS 3 C.2.2.2.2.2.1 gX12_fits_X12_isIn rfl rfl rfl (by decide +kernel) ⟨(Nat.le_of_ble_eq_true rfl), (Nat.le_of_ble_eq_true rfl)⟩) rfl hl.1 rfl (Nat.le_of_ble_eq_true rfl) dX12_fits_19 ⟨Nat.zero_le _, Nat.zero_le _⟩ (fun H locs hP hS => ?_)
    refine lv_if_eq (tgt := 34) C.1 C.2.1 dX12_fits_22 (by decide) (fun c22 => ?_) (fun c22 => ?_)
    · rw [if_pos c22] at h
      refine lv_iconst (v := (-1)) C.1 C.2.1 dX12_fits_34 (by decide) ?_
      cases h
      exact rt_i C hP hS dX12_fits_35
    · rw [if_neg c22] at h
      refine lv_iload_n C.1 C.2.1 dX12_fits_25 rfl (lv_at hl 3 rfl) ?_
      refine lv_iconst (v := 0) C.1 C.2.1 dX12_fits_26 (by decide) ?_
      refine lv_iconst (v := 2) C.1 C.2.1 dX12_fits_27 (by decide) ?_
      obtain ⟨r9, hc11, h⟩ := bd_some h
      refine cs_i (As := [.int x3, .int 0, .int 2]) (rest := []) (AM_ge hJ) C hK hP hS (metX12_isIn l D cy st _ x3 0 2 hc11) (va_cwS 3 C.2.2.2.2.2.1 gX12_fits_X12_isIn rfl rfl rfl (by decide +kernel) ⟨(Nat.le_of_ble_eq_true rfl), (Nat.le_of_ble_eq_true rfl)⟩) rfl hl.1 rfl (Nat.le_of_ble_eq_true rfl) dX12_fits_28 ⟨Nat.zero_le _, Nat.zero_le _⟩ (fun H locs hP hS => ?_)
      refine lv_if_ne (tgt := 36) C.1 C.2.1 dX12_fits_31 (by decide) (fun c31 => ?_) (fun c31 => ?_)
      · rw [if_neg c31] at h
        refine lv_aload_n C.1 C.2.1 dX12_fits_36 rfl (lv_at hl 0 rfl) ?_
        refine lv_iload_n C.1 C.2.1 dX12_fits_37 rfl (lv_at hl 1 rfl) ?_
        refine lv_iload_n C.1 C.2.1 dX12_fits_38 rfl (lv_at hl 2 rfl) ?_
        obtain ⟨⟨r12, u13⟩, hc14, h⟩ := bd_some h
        try dsimp only at h
        refine cg_v (As := [.int x1, .int x2]) (rest := []) (AM_ge hJ) C hK hP hS (metX12_layFits_0 l D cy ad st hJ _ x1 x2 hc14) (cwV 2 C.2.2.2.2.2.1 gX12_fits_X12_layFits rfl rfl rfl (by decide +kernel) ⟨(Nat.le_of_ble_eq_true rfl), (Nat.le_of_ble_eq_true rfl)⟩) 0 12 rfl rfl rfl hl.1 rfl (Nat.le_of_ble_eq_true rfl) dX12_fits_39 ⟨Nat.zero_le _, Nat.zero_le _⟩ (fun H locs hP hS => ?_)
        refine lv_iconst (v := (-1)) C.1 C.2.1 dX12_fits_42 (by decide) ?_
        refine lv_istore (lv' := [(4, .int (-1)), (0, .ref (ad 0)), (1, .int x1), (2, .int x2), (3, .int x3)]) C.1 C.2.1 dX12_fits_43 hl (by decide) rfl (fun ls hl => ?_)
        replace hl := lv_sub (l' := [(0, .ref (ad 0)), (1, .int x1), (2, .int x2), (3, .int x3), (4, .int (-1))]) hl [1, 2, 3, 4, 0] rfl
        refine lv_iconst (v := (-1)) C.1 C.2.1 dX12_fits_45 (by decide) ?_
        refine lv_istore (lv' := [(5, .int (-1)), (0, .ref (ad 0)), (1, .int x1), (2, .int x2), (3, .int x3), (4, .int (-1))]) C.1 C.2.1 dX12_fits_46 hl (by decide) rfl (fun ls hl => ?_)
        replace hl := lv_sub (l' := [(0, .ref (ad 0)), (1, .int x1), (2, .int x2), (3, .int x3), (4, .int (-1)), (5, .int (-1))]) hl [1, 2, 3, 4, 5, 0] rfl
        refine lv_iconst (v := 0) C.1 C.2.1 dX12_fits_48 (by decide) ?_
        refine lv_istore (lv' := [(6, .int 0), (0, .ref (ad 0)), (1, .int x1), (2, .int x2), (3, .int x3), (4, .int (-1)), (5, .int (-1))]) C.1 C.2.1 dX12_fits_49 hl (by decide) rfl (fun ls hl => ?_)
        replace hl := lv_sub (l' := [(0, .ref (ad 0)), (1, .int x1), (2, .int x2), (3, .int x3), (4, .int (-1)), (5, .int (-1)), (6, .int 0)]) hl [1, 2, 3, 4, 5, 6, 0] rfl
        refine lv_iconst (v := 0) C.1 C.2.1 dX12_fits_51 (by decide) ?_
        refine lv_istore (lv' := [(7, .int 0), (0, .ref (ad 0)), (1, .int x1), (2, .int x2), (3, .int x3), (4, .int (-1)), (5, .int (-1)), (6, .int 0)]) C.1 C.2.1 dX12_fits_52 hl (by decide) rfl (fun ls hl => ?_)
        replace hl := lv_sub (l' := [(0, .ref (ad 0)), (1, .int x1), (2, .int x2), (3, .int x3), (4, .int (-1)), (5, .int (-1)), (6, .int 0), (7, .int 0)]) hl [1, 2, 3, 4, 5, 6, 7, 0] rfl
        exact wLX12_fits_0_54 C hK hJ (wGX12_fits_0_102 C hK hJ ) 5000 _ _ _ _ _ _ _ _ _ h hP hS (lv_sub hl [0, 3, 4, 5, 6, 7] rfl)
      · rw [if_pos c31] at h
        refine lv_iconst (v := (-1)) C.1 C.2.1 dX12_fits_34 (by decide) ?_
        cases h
        exact rt_i C hP hS dX12_fits_35
theorem metX12_fits_0 (l : Launch) (D : va_G) (cy : Nat → ClassId) (ad st : Nat → Nat) (hJ : JM ad st) (sz : Nat) (x1 : Int32) (x2 : Int32) (x3 : Int32) {u : SX} {r : Int32} {u' : SX} (h : fX12_fits_0 x1 x2 x3 u = some (r, u')) : Met l yX12_fits wsX12_fits rmX12_fits_0 (va_Pc [.ref (ad 0), .int x1, .int x2, .int x3] (Px D [(cy 0, .int), (cy 1, .long), (cy 2, .boolean), (cy 3, .byte), (cy 4, .object "HissHorn$Text")] st (VM cy ad st) sz u)) (Qi D (VM cy ad st) (AM ad) sz r u') 0 0 (Ax (AM ad) sz) := by
  refine Met.ofW (cc := cX12_fits) (maxL := 8) (ret := (some .int)) (by decide) rfl ?_
  intro p e s m args below meth c s₁ B hml hv
  obtain ⟨rfl, hsz, hP, hK⟩ := hv
  subst hsz
  have C : Cx RX12 cX12_fits 8 (some .int) wsX12_fits p s m _ meth c := ⟨B.exec, B.bytes, hml, B.returns, findClass_of_methodNamed B.named, atoms_spec (ws := wsX12_fits) B.pre, B.notSynchronized⟩
  have hl := lv_entry ([.ref (ad 0), .int x1, .int x2, .int x3]) (n := 8) (Nat.le_of_ble_eq_true rfl)
  rw [lg_entry_eq]
  exact wX12_fits_0 C hK hJ x1 x2 x3 h hP va_S.rf hl

theorem zdX12_next_135 : (and (and (and (and (and (zk cX12_next 135 (.iinc 9 1) 3) (zk cX12_next 138 (.goto (-52)) 3)) (and (zk cX12_next 86 (.iload 9) 2) (zk cX12_next 88 (.bipush 40) 2))) (and (and (zk cX12_next 90 (.if_icmp .gt 51) 3) (zk cX12_next 93 (.aload_n 0) 1)) (and (zk cX12_next 94 (.iload_n 1) 1) (zk cX12_next 95 (.iload 5) 2)))) (and (and (and (zk cX12_next 97 (.iload 9) 2) (zk cX12_next 99 (.invokevirtual 427) 3)) (and (zk cX12_next 102 (.aload_n 0) 1) (zk cX12_next 103 (.iload_n 2) 1))) (and (and (zk cX12_next 104 (.iload 6) 2) (zk cX12_next 106 (.iload 9) 2)) (and (zk cX12_next 108 (.invokevirtual 427) 3) (zk cX12_next 111 (.isub) 1))))) (and (and (and (and (zk cX12_next 112 (.invokestatic 387) 3) (zk cX12_next 115 (.istore 10) 2)) (and (zk cX12_next 117 (.iload 10) 2) (zk cX12_next 119 (.iload 8) 2))) (and (and (zk cX12_next 121 (.if_icmp .gt 6) 3) (zk cX12_next 127 (.iload 10) 2)) (and (zk cX12_next 129 (.istore 8) 2) (zk cX12_next 131 (.iload 9) 2)))) (and (and (and (zk cX12_next 133 (.istore 7) 2) (zk cX12_next 124 (.goto 11) 3)) (and (zk cX12_next 141 (.iload 4) 2) (zk cX12_next 143 (.ifCond .ne 8) 3))) (and (and (zk cX12_next 151 (.iload 8) 2) (zk cX12_next 153 (.ireturn) 1)) (and (zk cX12_next 146 (.iload 7) 2) (zk cX12_next 148 (.goto 5) 3)))))) = true := by decide +kernel
theorem dX12_next_135 : decode cX12_next 135 = .ok (.iinc 9 1, 3) := zk_of (zk_l (zk_l (zk_l (zk_l (zk_l zdX12_next_135)))))
theorem dX12_next_138 : decode cX12_next 138 = .ok (.goto (-52), 3) := zk_of (zk_r (zk_l (zk_l (zk_l (zk_l zdX12_next_135)))))
theorem dX12_next_86 : decode cX12_next 86 = .ok (.iload 9, 2) := zk_of (zk_l (zk_r (zk_l (zk_l (zk_l zdX12_next_135)))))
theorem dX12_next_88 : decode cX12_next 88 = .ok (.bipush 40, 2) := zk_of (zk_r (zk_r (zk_l (zk_l (zk_l zdX12_next_135)))))
theorem dX12_next_90 : decode cX12_next 90 = .ok (.if_icmp .gt 51, 3) := zk_of (zk_l (zk_l (zk_r (zk_l (zk_l zdX12_next_135)))))
theorem dX12_next_93 : decode cX12_next 93 = .ok (.aload_n 0, 1) := zk_of (zk_r (zk_l (zk_r (zk_l (zk_l zdX12_next_135)))))
theorem dX12_next_94 : decode cX12_next 94 = .ok (.iload_n 1, 1) := zk_of (zk_l (zk_r (zk_r (zk_l (zk_l zdX12_next_135)))))
theorem dX12_next_95 : decode cX12_next 95 = .ok (.iload 5, 2) := zk_of (zk_r (zk_r (zk_r (zk_l (zk_l zdX12_next_135)))))
theorem dX12_next_97 : decode cX12_next 97 = .ok (.iload 9, 2) := zk_of (zk_l (zk_l (zk_l (zk_r (zk_l zdX12_next_135)))))
theorem dX12_next_99 : decode cX12_next 99 = .ok (.invokevirtual 427, 3) := zk_of (zk_r (zk_l (zk_l (zk_r (zk_l zdX12_next_135)))))
theorem dX12_next_102 : decode cX12_next 102 = .ok (.aload_n 0, 1) := zk_of (zk_l (zk_r (zk_l (zk_r (zk_l zdX12_next_135)))))
theorem dX12_next_103 : decode cX12_next 103 = .ok (.iload_n 2, 1) := zk_of (zk_r (zk_r (zk_l (zk_r (zk_l zdX12_next_135)))))
theorem dX12_next_104 : decode cX12_next 104 = .ok (.iload 6, 2) := zk_of (zk_l (zk_l (zk_r (zk_r (zk_l zdX12_next_135)))))
theorem dX12_next_106 : decode cX12_next 106 = .ok (.iload 9, 2) := zk_of (zk_r (zk_l (zk_r (zk_r (zk_l zdX12_next_135)))))
theorem dX12_next_108 : decode cX12_next 108 = .ok (.invokevirtual 427, 3) := zk_of (zk_l (zk_r (zk_r (zk_r (zk_l zdX12_next_135)))))
theorem dX12_next_111 : decode cX12_next 111 = .ok (.isub, 1) := zk_of (zk_r (zk_r (zk_r (zk_r (zk_l zdX12_next_135)))))
theorem dX12_next_112 : decode cX12_next 112 = .ok (.invokestatic 387, 3) := zk_of (zk_l (zk_l (zk_l (zk_l (zk_r zdX12_next_135)))))
theorem dX12_next_115 : decode cX12_next 115 = .ok (.istore 10, 2) := zk_of (zk_r (zk_l (zk_l (zk_l (zk_r zdX12_next_135)))))
theorem dX12_next_117 : decode cX12_next 117 = .ok (.iload 10, 2) := zk_of (zk_l (zk_r (zk_l (zk_l (zk_r zdX12_next_135)))))
theorem dX12_next_119 : decode cX12_next 119 = .ok (.iload 8, 2) := zk_of (zk_r (zk_r (zk_l (zk_l (zk_r zdX12_next_135)))))
theorem dX12_next_121 : decode cX12_next 121 = .ok (.if_icmp .gt 6, 3) := zk_of (zk_l (zk_l (zk_r (zk_l (zk_r zdX12_next_135)))))
theorem dX12_next_127 : decode cX12_next 127 = .ok (.iload 10, 2) := zk_of (zk_r (zk_l (zk_r (zk_l (zk_r zdX12_next_135)))))
theorem dX12_next_129 : decode cX12_next 129 = .ok (.istore 8, 2) := zk_of (zk_l (zk_r (zk_r (zk_l (zk_r zdX12_next_135)))))
theorem dX12_next_131 : decode cX12_next 131 = .ok (.iload 9, 2) := zk_of (zk_r (zk_r (zk_r (zk_l (zk_r zdX12_next_135)))))
theorem dX12_next_133 : decode cX12_next 133 = .ok (.istore 7, 2) := zk_of (zk_l (zk_l (zk_l (zk_r (zk_r zdX12_next_135)))))
theorem dX12_next_124 : decode cX12_next 124 = .ok (.goto 11, 3) := zk_of (zk_r (zk_l (zk_l (zk_r (zk_r zdX12_next_135)))))
theorem dX12_next_141 : decode cX12_next 141 = .ok (.iload 4, 2) := zk_of (zk_l (zk_r (zk_l (zk_r (zk_r zdX12_next_135)))))
theorem dX12_next_143 : decode cX12_next 143 = .ok (.ifCond .ne 8, 3) := zk_of (zk_r (zk_r (zk_l (zk_r (zk_r zdX12_next_135)))))
theorem dX12_next_151 : decode cX12_next 151 = .ok (.iload 8, 2) := zk_of (zk_l (zk_l (zk_r (zk_r (zk_r zdX12_next_135)))))
theorem dX12_next_153 : decode cX12_next 153 = .ok (.ireturn, 1) := zk_of (zk_r (zk_l (zk_r (zk_r (zk_r zdX12_next_135)))))
theorem dX12_next_146 : decode cX12_next 146 = .ok (.iload 7, 2) := zk_of (zk_l (zk_r (zk_r (zk_r (zk_r zdX12_next_135)))))
theorem dX12_next_148 : decode cX12_next 148 = .ok (.goto 5, 3) := zk_of (zk_r (zk_r (zk_r (zk_r (zk_r zdX12_next_135)))))
set_option maxRecDepth 20000 in
theorem ggX12_next_X12_guessWorth : GoodIn wsX12_next wsX12_guessWorth := ggi (fun w h => List.mem_cons_of_mem _ (List.mem_append_left _ (List.mem_append_right _ (List.mem_append_left _ h)))) gs_X12_guessWorth
set_option maxRecDepth 20000 in
theorem gX12_next_X12_guessWorth : GoodIn wsX12_next (wsV RX12 427 RX12 yX12_guessWorth wsX12_guessWorth) := goodIn_app (goodIn_of _ (by decide +kernel)) ggX12_next_X12_guessWorth
theorem zdX12_next_0 : (and (and (and (and (and (zk cX12_next 0 (.aload_n 0) 1) (zk cX12_next 1 (.iconst 0) 1)) (and (zk cX12_next 2 (.putfield 151) 3) (zk cX12_next 5 (.aload_n 0) 1))) (and (and (zk cX12_next 6 (.iload_n 1) 1) (zk cX12_next 7 (.invokevirtual 430) 3)) (and (zk cX12_next 10 (.ifCond .eq 33) 3) (zk cX12_next 43 (.iconst (-1)) 1)))) (and (and (and (zk cX12_next 44 (.ireturn) 1) (zk cX12_next 13 (.aload_n 0) 1)) (and (zk cX12_next 14 (.iload_n 2) 1) (zk cX12_next 15 (.invokevirtual 430) 3))) (and (and (zk cX12_next 18 (.ifCond .eq 25) 3) (zk cX12_next 21 (.iload_n 3) 1)) (and (zk cX12_next 22 (.iconst 0) 1) (zk cX12_next 23 (.aload_n 0) 1))))) (and (and (and (and (zk cX12_next 24 (.getfield 159) 3) (zk cX12_next 27 (.invokestatic 155) 3)) (and (zk cX12_next 30 (.ifCond .eq 13) 3) (zk cX12_next 33 (.iload 4) 2))) (and (and (zk cX12_next 35 (.iconst 0) 1) (zk cX12_next 36 (.iconst 1) 1)) (and (zk cX12_next 37 (.invokestatic 155) 3) (zk cX12_next 40 (.ifCond .ne 5) 3)))) (and (and (and (zk cX12_next 45 (.aload_n 0) 1) (zk cX12_next 46 (.iload_n 1) 1)) (and (zk cX12_next 47 (.iload_n 3) 1) (zk cX12_next 48 (.iconst 0) 1))) (and (and (zk cX12_next 49 (.invokevirtual 436) 3) (zk cX12_next 52 (.istore 5) 2)) (and (zk cX12_next 54 (.aload_n 0) 1) (zk cX12_next 55 (.iload_n 2) 1)))))) = true := by decide +kernel
theorem dX12_next_0 : decode cX12_next 0 = .ok (.aload_n 0, 1) := zk_of (zk_l (zk_l (zk_l (zk_l (zk_l zdX12_next_0)))))
theorem dX12_next_1 : decode cX12_next 1 = .ok (.iconst 0, 1) := zk_of (zk_r (zk_l (zk_l (zk_l (zk_l zdX12_next_0)))))
theorem dX12_next_2 : decode cX12_next 2 = .ok (.putfield 151, 3) := zk_of (zk_l (zk_r (zk_l (zk_l (zk_l zdX12_next_0)))))
theorem dX12_next_5 : decode cX12_next 5 = .ok (.aload_n 0, 1) := zk_of (zk_r (zk_r (zk_l (zk_l (zk_l zdX12_next_0)))))
theorem dX12_next_6 : decode cX12_next 6 = .ok (.iload_n 1, 1) := zk_of (zk_l (zk_l (zk_r (zk_l (zk_l zdX12_next_0)))))
theorem dX12_next_7 : decode cX12_next 7 = .ok (.invokevirtual 430, 3) := zk_of (zk_r (zk_l (zk_r (zk_l (zk_l zdX12_next_0)))))
theorem dX12_next_10 : decode cX12_next 10 = .ok (.ifCond .eq 33, 3) := zk_of (zk_l (zk_r (zk_r (zk_l (zk_l zdX12_next_0)))))
theorem dX12_next_43 : decode cX12_next 43 = .ok (.iconst (-1), 1) := zk_of (zk_r (zk_r (zk_r (zk_l (zk_l zdX12_next_0)))))
theorem dX12_next_44 : decode cX12_next 44 = .ok (.ireturn, 1) := zk_of (zk_l (zk_l (zk_l (zk_r (zk_l zdX12_next_0)))))
theorem dX12_next_13 : decode cX12_next 13 = .ok (.aload_n 0, 1) := zk_of (zk_r (zk_l (zk_l (zk_r (zk_l zdX12_next_0)))))
theorem dX12_next_14 : decode cX12_next 14 = .ok (.iload_n 2, 1) := zk_of (zk_l (zk_r (zk_l (zk_r (zk_l zdX12_next_0)))))
theorem dX12_next_15 : decode cX12_next 15 = .ok (.invokevirtual 430, 3) := zk_of (zk_r (zk_r (zk_l (zk_r (zk_l zdX12_next_0)))))
theorem dX12_next_18 : decode cX12_next 18 = .ok (.ifCond .eq 25, 3) := zk_of (zk_l (zk_l (zk_r (zk_r (zk_l zdX12_next_0)))))
theorem dX12_next_21 : decode cX12_next 21 = .ok (.iload_n 3, 1) := zk_of (zk_r (zk_l (zk_r (zk_r (zk_l zdX12_next_0)))))
theorem dX12_next_22 : decode cX12_next 22 = .ok (.iconst 0, 1) := zk_of (zk_l (zk_r (zk_r (zk_r (zk_l zdX12_next_0)))))
theorem dX12_next_23 : decode cX12_next 23 = .ok (.aload_n 0, 1) := zk_of (zk_r (zk_r (zk_r (zk_r (zk_l zdX12_next_0)))))
theorem dX12_next_24 : decode cX12_next 24 = .ok (.getfield 159, 3) := zk_of (zk_l (zk_l (zk_l (zk_l (zk_r zdX12_next_0)))))
theorem dX12_next_27 : decode cX12_next 27 = .ok (.invokestatic 155, 3) := zk_of (zk_r (zk_l (zk_l (zk_l (zk_r zdX12_next_0)))))
theorem dX12_next_30 : decode cX12_next 30 = .ok (.ifCond .eq 13, 3) := zk_of (zk_l (zk_r (zk_l (zk_l (zk_r zdX12_next_0)))))
theorem dX12_next_33 : decode cX12_next 33 = .ok (.iload 4, 2) := zk_of (zk_r (zk_r (zk_l (zk_l (zk_r zdX12_next_0)))))
theorem dX12_next_35 : decode cX12_next 35 = .ok (.iconst 0, 1) := zk_of (zk_l (zk_l (zk_r (zk_l (zk_r zdX12_next_0)))))
theorem dX12_next_36 : decode cX12_next 36 = .ok (.iconst 1, 1) := zk_of (zk_r (zk_l (zk_r (zk_l (zk_r zdX12_next_0)))))
theorem dX12_next_37 : decode cX12_next 37 = .ok (.invokestatic 155, 3) := zk_of (zk_l (zk_r (zk_r (zk_l (zk_r zdX12_next_0)))))
theorem dX12_next_40 : decode cX12_next 40 = .ok (.ifCond .ne 5, 3) := zk_of (zk_r (zk_r (zk_r (zk_l (zk_r zdX12_next_0)))))
theorem dX12_next_45 : decode cX12_next 45 = .ok (.aload_n 0, 1) := zk_of (zk_l (zk_l (zk_l (zk_r (zk_r zdX12_next_0)))))
theorem dX12_next_46 : decode cX12_next 46 = .ok (.iload_n 1, 1) := zk_of (zk_r (zk_l (zk_l (zk_r (zk_r zdX12_next_0)))))
theorem dX12_next_47 : decode cX12_next 47 = .ok (.iload_n 3, 1) := zk_of (zk_l (zk_r (zk_l (zk_r (zk_r zdX12_next_0)))))
theorem dX12_next_48 : decode cX12_next 48 = .ok (.iconst 0, 1) := zk_of (zk_r (zk_r (zk_l (zk_r (zk_r zdX12_next_0)))))
theorem dX12_next_49 : decode cX12_next 49 = .ok (.invokevirtual 436, 3) := zk_of (zk_l (zk_l (zk_r (zk_r (zk_r zdX12_next_0)))))
theorem dX12_next_52 : decode cX12_next 52 = .ok (.istore 5, 2) := zk_of (zk_r (zk_l (zk_r (zk_r (zk_r zdX12_next_0)))))
theorem dX12_next_54 : decode cX12_next 54 = .ok (.aload_n 0, 1) := zk_of (zk_l (zk_r (zk_r (zk_r (zk_r zdX12_next_0)))))
theorem dX12_next_55 : decode cX12_next 55 = .ok (.iload_n 2, 1) := zk_of (zk_r (zk_r (zk_r (zk_r (zk_r zdX12_next_0)))))
set_option maxRecDepth 20000 in
theorem ggX12_next_X12_isGuess : GoodIn wsX12_next wsX12_isGuess := ggi (fun w h => List.mem_cons_of_mem _ (List.mem_append_left _ (List.mem_append_right _ (List.mem_append_right _ (List.mem_append_left _ h))))) gs_X12_isGuess
set_option maxRecDepth 20000 in
theorem gX12_next_X12_isGuess : GoodIn wsX12_next (wsV RX12 430 RX12 yX12_isGuess wsX12_isGuess) := goodIn_app (goodIn_of _ (by decide +kernel)) ggX12_next_X12_isGuess
set_option maxRecDepth 20000 in
theorem ggX12_next_X12_isIn : GoodIn wsX12_next wsX12_isIn := ggi (fun w h => List.mem_cons_of_mem _ (List.mem_append_left _ (List.mem_append_right _ (List.mem_append_right _ (List.mem_append_right _ (List.mem_append_left _ h)))))) gs_X12_isIn
set_option maxRecDepth 20000 in
theorem gX12_next_X12_isIn : GoodIn wsX12_next (va_wsS RX12 155 yX12_isIn wsX12_isIn) := goodIn_app (goodIn_of _ (by decide +kernel)) ggX12_next_X12_isIn
set_option maxRecDepth 20000 in
theorem ggX12_next_X12_fits : GoodIn wsX12_next wsX12_fits := ggi (fun w h => List.mem_cons_of_mem _ (List.mem_append_left _ (List.mem_append_right _ (List.mem_append_right _ (List.mem_append_right _ (List.mem_append_right _ h)))))) gs_X12_fits
set_option maxRecDepth 20000 in
theorem gX12_next_X12_fits : GoodIn wsX12_next (wsV RX12 436 RX12 yX12_fits wsX12_fits) := goodIn_app (goodIn_of _ (by decide +kernel)) ggX12_next_X12_fits
theorem zdX12_next_56 : (and (and (and (and (and (zk cX12_next 56 (.iload_n 3) 1) (zk cX12_next 57 (.iconst 0) 1)) (zk cX12_next 58 (.invokevirtual 436) 3)) (and (zk cX12_next 61 (.istore 6) 2) (zk cX12_next 63 (.iload 5) 2))) (and (and (zk cX12_next 65 (.iconst (-1)) 1) (zk cX12_next 66 (.if_icmp .eq 9) 3)) (and (zk cX12_next 75 (.iconst (-1)) 1) (zk cX12_next 76 (.ireturn) 1)))) (and (and (and (and (zk cX12_next 69 (.iload 6) 2) (zk cX12_next 71 (.iconst (-1)) 1)) (zk cX12_next 72 (.if_icmp .ne 5) 3)) (and (zk cX12_next 77 (.iconst 0) 1) (zk cX12_next 78 (.istore 7) 2))) (and (and (zk cX12_next 80 (.iconst (-1)) 1) (zk cX12_next 81 (.istore 8) 2)) (and (zk cX12_next 83 (.iconst 1) 1) (zk cX12_next 84 (.istore 9) 2))))) = true := by decide +kernel
theorem dX12_next_56 : decode cX12_next 56 = .ok (.iload_n 3, 1) := zk_of (zk_l (zk_l (zk_l (zk_l (zk_l zdX12_next_56)))))
theorem dX12_next_57 : decode cX12_next 57 = .ok (.iconst 0, 1) := zk_of (zk_r (zk_l (zk_l (zk_l (zk_l zdX12_next_56)))))
theorem dX12_next_58 : decode cX12_next 58 = .ok (.invokevirtual 436, 3) := zk_of (zk_r (zk_l (zk_l (zk_l zdX12_next_56))))
theorem dX12_next_61 : decode cX12_next 61 = .ok (.istore 6, 2) := zk_of (zk_l (zk_r (zk_l (zk_l zdX12_next_56))))
theorem dX12_next_63 : decode cX12_next 63 = .ok (.iload 5, 2) := zk_of (zk_r (zk_r (zk_l (zk_l zdX12_next_56))))
theorem dX12_next_65 : decode cX12_next 65 = .ok (.iconst (-1), 1) := zk_of (zk_l (zk_l (zk_r (zk_l zdX12_next_56))))
theorem dX12_next_66 : decode cX12_next 66 = .ok (.if_icmp .eq 9, 3) := zk_of (zk_r (zk_l (zk_r (zk_l zdX12_next_56))))
theorem dX12_next_75 : decode cX12_next 75 = .ok (.iconst (-1), 1) := zk_of (zk_l (zk_r (zk_r (zk_l zdX12_next_56))))
theorem dX12_next_76 : decode cX12_next 76 = .ok (.ireturn, 1) := zk_of (zk_r (zk_r (zk_r (zk_l zdX12_next_56))))
theorem dX12_next_69 : decode cX12_next 69 = .ok (.iload 6, 2) := zk_of (zk_l (zk_l (zk_l (zk_l (zk_r zdX12_next_56)))))
theorem dX12_next_71 : decode cX12_next 71 = .ok (.iconst (-1), 1) := zk_of (zk_r (zk_l (zk_l (zk_l (zk_r zdX12_next_56)))))
theorem dX12_next_72 : decode cX12_next 72 = .ok (.if_icmp .ne 5, 3) := zk_of (zk_r (zk_l (zk_l (zk_r zdX12_next_56))))
theorem dX12_next_77 : decode cX12_next 77 = .ok (.iconst 0, 1) := zk_of (zk_l (zk_r (zk_l (zk_r zdX12_next_56))))
theorem dX12_next_78 : decode cX12_next 78 = .ok (.istore 7, 2) := zk_of (zk_r (zk_r (zk_l (zk_r zdX12_next_56))))
theorem dX12_next_80 : decode cX12_next 80 = .ok (.iconst (-1), 1) := zk_of (zk_l (zk_l (zk_r (zk_r zdX12_next_56))))
theorem dX12_next_81 : decode cX12_next 81 = .ok (.istore 8, 2) := zk_of (zk_r (zk_l (zk_r (zk_r zdX12_next_56))))
theorem dX12_next_83 : decode cX12_next 83 = .ok (.iconst 1, 1) := zk_of (zk_l (zk_r (zk_r (zk_r zdX12_next_56))))
theorem dX12_next_84 : decode cX12_next 84 = .ok (.istore 9, 2) := zk_of (zk_r (zk_r (zk_r (zk_r zdX12_next_56))))
/-- HissHornModel.next(IIII)I of cell 0 -/
def rmX12_next_0 : Room := { frames := 144, cells := 0, slots := 0, locals := 8577 }
theorem hX12_next_0_X12 : ∀ w ∈ u_ws RX12 TX12 69, w ∈ wsX12_next := fun w h => (List.mem_cons_of_mem _ (List.mem_append_right _ h))
theorem mX12_next_0_1 : Cond.fieldLink RX12 151 "HissHornModel" "thrown" "I" ∈ wsX12_next := (List.mem_cons_of_mem _ (List.mem_append_left _ (List.mem_append_left _ (List.mem_of_getElem? (i := 12) rfl))))
theorem mX12_next_0_2 : Cond.fieldLink RX12 159 "HissHornModel" "now" "I" ∈ wsX12_next := (List.mem_cons_of_mem _ (List.mem_append_left _ (List.mem_append_left _ (List.mem_of_getElem? (i := 13) rfl))))
theorem mX12_next_0_3 : Cond.methodLink RX12 387 Lib.Math.abs.name ∈ wsX12_next := (List.mem_cons_of_mem _ (List.mem_append_left _ (List.mem_append_left _ (List.mem_of_getElem? (i := 14) rfl))))
theorem mX12_next_0_4 : Cond.static Lib.Math.abs.name ∈ wsX12_next := (List.mem_cons_of_mem _ (List.mem_append_left _ (List.mem_append_left _ (List.mem_of_getElem? (i := 15) rfl))))
theorem mX12_next_0_5 : Cond.initialized "java/lang/Math" ∈ wsX12_next := (List.mem_cons_of_mem _ (List.mem_append_left _ (List.mem_append_left _ (List.mem_of_getElem? (i := 16) rfl))))
theorem mX12_next_0_6 : Cond.code Lib.Math.abs.name Lib.Math.abs.code 1 (some .int) ∈ wsX12_next := (List.mem_cons_of_mem _ (List.mem_append_left _ (List.mem_append_left _ (List.mem_of_getElem? (i := 17) rfl))))
def GX12_next_0_135 (k86 : Int32 → Int32 → Int32 → Int32 → Int32 → Int32 → Int32 → Int32 → SX → Option (Int32 × SX)) (z1 : Int32) (z2 : Int32) (z4 : Int32) (z5 : Int32) (z6 : Int32) (z7 : Int32) (z8 : Int32) (z9 : Int32) (u : SX) : Option (Int32 × SX) := (k86 z1 z2 z4 z5 z6 z7 z8 (z9 + 1) u)
def LX12_next_0_86 (k141 : Int32 → Int32 → Int32 → SX → Option (Int32 × SX)) : Nat → Int32 → Int32 → Int32 → Int32 → Int32 → Int32 → Int32 → Int32 → SX → Option (Int32 × SX)
  | 0, _, _, _, _, _, _, _, _, _ => none
  | n + 1, z1, z2, z4, z5, z6, z7, z8, z9, u => (if 40 < z9 then (k141 z4 z7 z8 u) else ((fX12_guessWorth_0 z1 z5 z9 u).bind fun q => match q with | (r21, u22) => ((fX12_guessWorth_0 z2 z6 z9 u22).bind fun q => match q with | (r24, u25) => (lt (if 0 ≤ (r21 - r24) then (r21 - r24) else 0 - (r21 - r24)) fun v27 => (if z8 < v27 then (GX12_next_0_135 (LX12_next_0_86 k141 n) z1 z2 z4 z5 z6 z9 v27 z9 u25) else (GX12_next_0_135 (LX12_next_0_86 k141 n) z1 z2 z4 z5 z6 z7 z8 z9 u25))))))
def GX12_next_0_141 (z4 : Int32) (z7 : Int32) (z8 : Int32) (u : SX) : Option (Int32 × SX) := (if z4 = 0 then (some (z7, u)) else (some (z8, u)))
def fX12_next_0 (x1 : Int32) (x2 : Int32) (x3 : Int32) (x4 : Int32) (u : SX) : Option (Int32 × SX) := (lt (sI u 0 0) fun u1 => ((fX12_isGuess_0 x1 u1).bind fun q => match q with | (r3, u4) => (if r3 = 0 then (some ((-1), u4)) else ((fX12_isGuess_0 x2 u4).bind fun q => match q with | (r6, u7) => (if r6 = 0 then (some ((-1), u7)) else ((fX12_isIn x3 0 (u7.1 1)).bind fun r9 => (if r9 = 0 then (some ((-1), u7)) else ((fX12_isIn x4 0 1).bind fun r12 => (if r12 = 0 then (some ((-1), u7)) else ((fX12_fits_0 x1 x3 0 u7).bind fun q => match q with | (r15, u16) => ((fX12_fits_0 x2 x3 0 u16).bind fun q => match q with | (r18, u19) => (if r15 = (-1) then (some ((-1), u19)) else (if r18 = (-1) then (some ((-1), u19)) else (LX12_next_0_86 GX12_next_0_141 5000 x1 x2 x4 r15 r18 0 (-1) 1 u19))))))))))))))
set_option maxHeartbeats 4000000 in
set_option maxRecDepth 100000 in
theorem wGX12_next_0_135 {p : Program} {l : Launch} {e : Env} {s : State} {m : MethodId} {args : Array Value} {below : List Frame} {meth : Method} {c : Code} {D : va_G} {cy : Nat → ClassId} {ad st : Nat → Nat} (C : Cx RX12 cX12_next 11 (some .int) wsX12_next p s m args meth c) (hK : Ky D [(cy 0, .int), (cy 1, .long), (cy 2, .boolean), (cy 3, .byte), (cy 4, .object "HissHorn$Text")] st s) (hJ : JM ad st) {r : Int32} {u' : SX} {k86 : Int32 → Int32 → Int32 → Int32 → Int32 → Int32 → Int32 → Int32 → SX → Option (Int32 × SX)} (hk86 : ∀ (z1 : Int32) (z2 : Int32) (z4 : Int32) (z5 : Int32) (z6 : Int32) (z7 : Int32) (z8 : Int32) (z9 : Int32) (u : SX) (H : Heap) (locs : List Loc) (ls : Array Slot), k86 z1 z2 z4 z5 z6 z7 z8 z9 u = some (r, u') → va_P D vwCl (VM cy ad st u) H → va_S (Ax (AM ad) s.heap.size) s.heap H locs → lv_has ls 11 [(0, .ref (ad 0)), (1, .int z1), (2, .int z2), (4, .int z4), (5, .int z5), (6, .int z6), (7, .int z7), (8, .int z8), (9, .int z9)] → W p l e rmX12_next_0 s m args below meth c H locs 0 0 (MQ below (Qi D (VM cy ad st) (AM ad) s.heap.size r u') args s 0 0 (Ax (AM ad) s.heap.size)) (F0 m 86 ls [])) (z1 : Int32) (z2 : Int32) (z4 : Int32) (z5 : Int32) (z6 : Int32) (z7 : Int32) (z8 : Int32) (z9 : Int32) (u : SX) (H : Heap) (locs : List Loc) (ls : Array Slot) (h : GX12_next_0_135 k86 z1 z2 z4 z5 z6 z7 z8 z9 u = some (r, u')) (hP : va_P D vwCl (VM cy ad st u) H) (hS : va_S (Ax (AM ad) s.heap.size) s.heap H locs) (hl : lv_has ls 11 [(0, .ref (ad 0)), (1, .int z1), (2, .int z2), (4, .int z4), (5, .int z5), (6, .int z6), (7, .int z7), (8, .int z8), (9, .int z9)]) : W p l e rmX12_next_0 s m args below meth c H locs 0 0 (MQ below (Qi D (VM cy ad st) (AM ad) s.heap.size r u') args s 0 0 (Ax (AM ad) s.heap.size)) (F0 m 135 ls []) := by
  unfold GX12_next_0_135 at h
  refine lv_iinc (v := z9 + 1) (lv' := [(9, .int (z9 + 1)), (0, .ref (ad 0)), (1, .int z1), (2, .int z2), (4, .int z4), (5, .int z5), (6, .int z6), (7, .int z7), (8, .int z8)]) C.1 C.2.1 dX12_next_135 hl (k := 8) rfl rfl (by decide) rfl (fun ls hl => ?_)
  replace hl := lv_sub (l' := [(0, .ref (ad 0)), (1, .int z1), (2, .int z2), (4, .int z4), (5, .int z5), (6, .int z6), (7, .int z7), (8, .int z8), (9, .int (z9 + 1))]) hl [1, 2, 3, 4, 5, 6, 7, 8, 0] rfl
  refine lv_goto (tgt := 86) C.1 C.2.1 dX12_next_138 (by decide) ?_
  exact hk86 _ _ _ _ _ _ _ _ _ _ _ _ h hP hS hl
set_option maxHeartbeats 4000000 in
set_option maxRecDepth 100000 in
theorem wLX12_next_0_86 {p : Program} {l : Launch} {e : Env} {s : State} {m : MethodId} {args : Array Value} {below : List Frame} {meth : Method} {c : Code} {D : va_G} {cy : Nat → ClassId} {ad st : Nat → Nat} (C : Cx RX12 cX12_next 11 (some .int) wsX12_next p s m args meth c) (hK : Ky D [(cy 0, .int), (cy 1, .long), (cy 2, .boolean), (cy 3, .byte), (cy 4, .object "HissHorn$Text")] st s) (hJ : JM ad st) {r : Int32} {u' : SX} {k141 : Int32 → Int32 → Int32 → SX → Option (Int32 × SX)} (hk141 : ∀ (z4 : Int32) (z7 : Int32) (z8 : Int32) (u : SX) (H : Heap) (locs : List Loc) (ls : Array Slot), k141 z4 z7 z8 u = some (r, u') → va_P D vwCl (VM cy ad st u) H → va_S (Ax (AM ad) s.heap.size) s.heap H locs → lv_has ls 11 [(4, .int z4), (7, .int z7), (8, .int z8)] → W p l e rmX12_next_0 s m args below meth c H locs 0 0 (MQ below (Qi D (VM cy ad st) (AM ad) s.heap.size r u') args s 0 0 (Ax (AM ad) s.heap.size)) (F0 m 141 ls [])) : ∀ (n : Nat) (z1 : Int32) (z2 : Int32) (z4 : Int32) (z5 : Int32) (z6 : Int32) (z7 : Int32) (z8 : Int32) (z9 : Int32) (u : SX) (H : Heap) (locs : List Loc) (ls : Array Slot), LX12_next_0_86 k141 n z1 z2 z4 z5 z6 z7 z8 z9 u = some (r, u') → va_P D vwCl (VM cy ad st u) H → va_S (Ax (AM ad) s.heap.size) s.heap H locs → lv_has ls 11 [(0, .ref (ad 0)), (1, .int z1), (2, .int z2), (4, .int z4), (5, .int z5), (6, .int z6), (7, .int z7), (8, .int z8), (9, .int z9)] → W p l e rmX12_next_0 s m args below meth c H locs 0 0 (MQ below (Qi D (VM cy ad st) (AM ad) s.heap.size r u') args s 0 0 (Ax (AM ad) s.heap.size)) (F0 m 86 ls []) := by
  intro n
  induction n with
  | zero =>
    intro z1 z2 z4 z5 z6 z7 z8 z9 u H locs ls h
    exact absurd h (by intro q; cases q)
  | succ n ih =>
    intro z1 z2 z4 z5 z6 z7 z8 z9 u H locs ls h hP hS hl
    rw [LX12_next_0_86] at h
    refine lv_iload C.1 C.2.1 dX12_next_86 (lv_at hl 8 rfl) ?_
    refine lv_bipush (v := 40) C.1 C.2.1 dX12_next_88 (by decide) ?_
    refine lv_icmp_gt (tgt := 141) C.1 C.2.1 dX12_next_90 (by decide) (fun c90 => ?_) (fun c90 => ?_)
    · rw [if_pos c90] at h
      exact hk141 _ _ _ _ _ _ _ h hP hS (lv_sub hl [3, 6, 7] rfl)
    · rw [if_neg c90] at h
      refine lv_aload_n C.1 C.2.1 dX12_next_93 rfl (lv_at hl 0 rfl) ?_
      refine lv_iload_n C.1 C.2.1 dX12_next_94 rfl (lv_at hl 1 rfl) ?_
      refine lv_iload C.1 C.2.1 dX12_next_95 (lv_at hl 4 rfl) ?_
      refine lv_iload C.1 C.2.1 dX12_next_97 (lv_at hl 8 rfl) ?_
      obtain ⟨⟨r21, u22⟩, hc23, h⟩ := bd_some h
      try dsimp only at h
      refine cg_i (As := [.int z1, .int z5, .int z9]) (rest := []) (AM_ge hJ) C hK hP hS (metX12_guessWorth_0 l D cy ad st hJ _ z1 z5 z9 hc23) (cwV 3 C.2.2.2.2.2.1 gX12_next_X12_guessWorth rfl rfl rfl (by decide +kernel) ⟨(Nat.le_of_ble_eq_true rfl), (Nat.le_of_ble_eq_true rfl)⟩) 0 12 rfl rfl rfl hl.1 rfl (Nat.le_of_ble_eq_true rfl) dX12_next_99 ⟨Nat.zero_le _, Nat.zero_le _⟩ (fun H locs hP hS => ?_)
      refine lv_aload_n C.1 C.2.1 dX12_next_102 rfl (lv_at hl 0 rfl) ?_
      refine lv_iload_n C.1 C.2.1 dX12_next_103 rfl (lv_at hl 2 rfl) ?_
      refine lv_iload C.1 C.2.1 dX12_next_104 (lv_at hl 5 rfl) ?_
      refine lv_iload C.1 C.2.1 dX12_next_106 (lv_at hl 8 rfl) ?_
      obtain ⟨⟨r24, u25⟩, hc26, h⟩ := bd_some h
      try dsimp only at h
      refine cg_i (As := [.int z2, .int z6, .int z9]) (rest := [.int r21]) (AM_ge hJ) C hK hP hS (metX12_guessWorth_0 l D cy ad st hJ _ z2 z6 z9 hc26) (cwV 3 C.2.2.2.2.2.1 gX12_next_X12_guessWorth rfl rfl rfl (by decide +kernel) ⟨(Nat.le_of_ble_eq_true rfl), (Nat.le_of_ble_eq_true rfl)⟩) 0 12 rfl rfl rfl hl.1 rfl (Nat.le_of_ble_eq_true rfl) dX12_next_108 ⟨Nat.zero_le _, Nat.zero_le _⟩ (fun H locs hP hS => ?_)
      refine lv_isub C.1 C.2.1 dX12_next_111 ?_
      refine va_mabs C.1 C.2.1 (C.2.2.1.trans hl.1.symm) C.2.2.2.2.1 (C.2.2.2.2.2.1 _ mX12_next_0_3) (C.2.2.2.2.2.1 _ mX12_next_0_4) (C.2.2.2.2.2.1 _ mX12_next_0_5) (C.2.2.2.2.2.1 _ mX12_next_0_6) (Nat.le_of_ble_eq_true rfl) (Nat.le_of_ble_eq_true rfl) (Nat.zero_le _) (Nat.zero_le _) dX12_next_112 ?_
      refine lv_topi (fun v27 hv28 => ?_)
      replace h := lt_e hv28 h
      try dsimp only at h
      refine lv_istore (lv' := [(10, .int v27), (0, .ref (ad 0)), (1, .int z1), (2, .int z2), (4, .int z4), (5, .int z5), (6, .int z6), (7, .int z7), (8, .int z8), (9, .int z9)]) C.1 C.2.1 dX12_next_115 hl (by decide) rfl (fun ls hl => ?_)
      replace hl := lv_sub (l' := [(0, .ref (ad 0)), (1, .int z1), (2, .int z2), (4, .int z4), (5, .int z5), (6, .int z6), (7, .int z7), (8, .int z8), (9, .int z9), (10, .int v27)]) hl [1, 2, 3, 4, 5, 6, 7, 8, 9, 0] rfl
      refine lv_iload C.1 C.2.1 dX12_next_117 (lv_at hl 9 rfl) ?_
      refine lv_iload C.1 C.2.1 dX12_next_119 (lv_at hl 7 rfl) ?_
      refine lv_icmp_gt (tgt := 127) C.1 C.2.1 dX12_next_121 (by decide) (fun c121 => ?_) (fun c121 => ?_)
      · rw [if_pos c121] at h
        refine lv_iload C.1 C.2.1 dX12_next_127 (lv_at hl 9 rfl) ?_
        refine lv_istore (lv' := [(8, .int v27), (0, .ref (ad 0)), (1, .int z1), (2, .int z2), (4, .int z4), (5, .int z5), (6, .int z6), (7, .int z7), (9, .int z9), (10, .int v27)]) C.1 C.2.1 dX12_next_129 hl (by decide) rfl (fun ls hl => ?_)
        replace hl := lv_sub (l' := [(0, .ref (ad 0)), (1, .int z1), (2, .int z2), (4, .int z4), (5, .int z5), (6, .int z6), (7, .int z7), (8, .int v27), (9, .int z9), (10, .int v27)]) hl [1, 2, 3, 4, 5, 6, 7, 0, 8, 9] rfl
        refine lv_iload C.1 C.2.1 dX12_next_131 (lv_at hl 8 rfl) ?_
        refine lv_istore (lv' := [(7, .int z9), (0, .ref (ad 0)), (1, .int z1), (2, .int z2), (4, .int z4), (5, .int z5), (6, .int z6), (8, .int v27), (9, .int z9), (10, .int v27)]) C.1 C.2.1 dX12_next_133 hl (by decide) rfl (fun ls hl => ?_)
        replace hl := lv_sub (l' := [(0, .ref (ad 0)), (1, .int z1), (2, .int z2), (4, .int z4), (5, .int z5), (6, .int z6), (7, .int z9), (8, .int v27), (9, .int z9), (10, .int v27)]) hl [1, 2, 3, 4, 5, 6, 0, 7, 8, 9] rfl
        exact wGX12_next_0_135 C hK hJ ih _ _ _ _ _ _ _ _ _ _ _ _ h hP hS (lv_sub hl [0, 1, 2, 3, 4, 5, 6, 7, 8] rfl)
      · rw [if_neg c121] at h
        refine lv_goto (tgt := 135) C.1 C.2.1 dX12_next_124 (by decide) ?_
        exact wGX12_next_0_135 C hK hJ ih _ _ _ _ _ _ _ _ _ _ _ _ h hP hS (lv_sub hl [0, 1, 2, 3, 4, 5, 6, 7, 8] rfl)
set_option maxHeartbeats 4000000 in
set_option maxRecDepth 100000 in
theorem wGX12_next_0_141 {p : Program} {l : Launch} {e : Env} {s : State} {m : MethodId} {args : Array Value} {below : List Frame} {meth : Method} {c : Code} {D : va_G} {cy : Nat → ClassId} {ad st : Nat → Nat} (C : Cx RX12 cX12_next 11 (some .int) wsX12_next p s m args meth c) (hK : Ky D [(cy 0, .int), (cy 1, .long), (cy 2, .boolean), (cy 3, .byte), (cy 4, .object "HissHorn$Text")] st s) (hJ : JM ad st) {r : Int32} {u' : SX}   (z4 : Int32) (z7 : Int32) (z8 : Int32) (u : SX) (H : Heap) (locs : List Loc) (ls : Array Slot) (h : GX12_next_0_141 z4 z7 z8 u = some (r, u')) (hP : va_P D vwCl (VM cy ad st u) H) (hS : va_S (Ax (AM ad) s.heap.size) s.heap H locs) (hl : lv_has ls 11 [(4, .int z4), (7, .int z7), (8, .int z8)]) : W p l e rmX12_next_0 s m args below meth c H locs 0 0 (MQ below (Qi D (VM cy ad st) (AM ad) s.heap.size r u') args s 0 0 (Ax (AM ad) s.heap.size)) (F0 m 141 ls []) := by
  unfold GX12_next_0_141 at h
  refine lv_iload C.1 C.2.1 dX12_next_141 (lv_at hl 0 rfl) ?_
  refine lv_if_ne (tgt := 151) C.1 C.2.1 dX12_next_143 (by decide) (fun c143 => ?_) (fun c143 => ?_)
  · rw [if_neg c143] at h
    refine lv_iload C.1 C.2.1 dX12_next_151 (lv_at hl 2 rfl) ?_
    cases h
    exact rt_i C hP hS dX12_next_153
  · rw [if_pos c143] at h
    refine lv_iload C.1 C.2.1 dX12_next_146 (lv_at hl 1 rfl) ?_
    refine lv_goto (tgt := 153) C.1 C.2.1 dX12_next_148 (by decide) ?_
    cases h
    exact rt_i C hP hS dX12_next_153
set_option maxHeartbeats 4000000 in
set_option maxRecDepth 100000 in
theorem wX12_next_0 {p : Program} {l : Launch} {e : Env} {s : State} {m : MethodId} {args : Array Value} {below : List Frame} {meth : Method} {c : Code} {D : va_G} {cy : Nat → ClassId} {ad st : Nat → Nat} (C : Cx RX12 cX12_next 11 (some .int) wsX12_next p s m args meth c) (hK : Ky D [(cy 0, .int), (cy 1, .long), (cy 2, .boolean), (cy 3, .byte), (cy 4, .object "HissHorn$Text")] st s) (hJ : JM ad st) (x1 : Int32) (x2 : Int32) (x3 : Int32) (x4 : Int32) {u : SX} {r : Int32} {u' : SX} {H : Heap} {locs : List Loc} {ls : Array Slot} (h : fX12_next_0 x1 x2 x3 x4 u = some (r, u')) (hP : va_P D vwCl (VM cy ad st u) H) (hS : va_S (Ax (AM ad) s.heap.size) s.heap H locs) (hl : lv_has ls 11 [(0, .ref (ad 0)), (1, .int x1), (2, .int x2), (3, .int x3), (4, .int x4)]) : W p l e rmX12_next_0 s m args below meth c H locs 0 0 (MQ below (Qi D (VM cy ad st) (AM ad) s.heap.size r u') args s 0 0 (Ax (AM ad) s.heap.size)) (F0 m 0 ls []) := by
  unfold fX12_next_0 at h
  refine lv_aload_n C.1 C.2.1 dX12_next_0 rfl (lv_at hl 0 rfl) ?_
  refine lv_iconst (v := 0) C.1 C.2.1 dX12_next_1 (by decide) ?_
  refine pM_0_thrown C hX12_next_0_X12 hK hP hJ hS mX12_next_0_1 dX12_next_2 (fun H locs hP hS => ?_)
  obtain ⟨u1, hu2, h⟩ := lt_some h
  rw [← hu2] at hP
  refine lv_aload_n C.1 C.2.1 dX12_next_5 rfl (lv_at hl 0 rfl) ?_
  refine lv_iload_n C.1 C.2.1 dX12_next_6 rfl (lv_at hl 1 rfl) ?_
  obtain ⟨⟨r3, u4⟩, hc5, h⟩ := bd_some h
  try dsimp only at h
  refine cg_i (As := [.int x1]) (rest := []) (AM_ge hJ) C hK hP hS (metX12_isGuess_0 l D cy ad st hJ _ x1 hc5) (cwV 1 C.2.2.2.2.2.1 gX12_next_X12_isGuess rfl rfl rfl (by decide +kernel) ⟨(Nat.le_of_ble_eq_true rfl), (Nat.le_of_ble_eq_true rfl)⟩) 0 12 rfl rfl rfl hl.1 rfl (Nat.le_of_ble_eq_true rfl) dX12_next_7 ⟨Nat.zero_le _, Nat.zero_le _⟩ (fun H locs hP hS => ?_)
  refine lv_if_eq (tgt := 43) C.1 C.2.1 dX12_next_10 (by decide) (fun c10 => ?_) (fun c10 => ?_)
  · rw [if_pos c10] at h
    refine lv_iconst (v := (-1)) C.1 C.2.1 dX12_next_43 (by decide) ?_
    cases h
    exact rt_i C hP hS dX12_next_44
  · rw [if_neg c10] at h
    refine lv_aload_n C.1 C.2.1 dX12_next_13 rfl (lv_at hl 0 rfl) ?_
    refine lv_iload_n C.1 C.2.1 dX12_next_14 rfl (lv_at hl 2 rfl) ?_
    obtain ⟨⟨r6, u7⟩, hc8, h⟩ := bd_some h
    try dsimp only at h
    refine cg_i (As := [.int x2]) (rest := []) (AM_ge hJ) C hK hP hS (metX12_isGuess_0 l D cy ad st hJ _ x2 hc8) (cwV 1 C.2.2.2.2.2.1 gX12_next_X12_isGuess rfl rfl rfl (by decide +kernel) ⟨(Nat.le_of_ble_eq_true rfl), (Nat.le_of_ble_eq_true rfl)⟩) 0 12 rfl rfl rfl hl.1 rfl (Nat.le_of_ble_eq_true rfl) dX12_next_15 ⟨Nat.zero_le _, Nat.zero_le _⟩ (fun H locs hP hS => ?_)
    refine lv_if_eq (tgt := 43) C.1 C.2.1 dX12_next_18 (by decide) (fun c18 => ?_) (fun c18 => ?_)
    · rw [if_pos c18] at h
      refine lv_iconst (v := (-1)) C.1 C.2.1 dX12_next_43 (by decide) ?_
      cases h
      exact rt_i C hP hS dX12_next_44
    · rw [if_neg c18] at h
      refine lv_iload_n C.1 C.2.1 dX12_next_21 rfl (lv_at hl 3 rfl) ?_
      refine lv_iconst (v := 0) C.1 C.2.1 dX12_next_22 (by decide) ?_
      refine lv_aload_n C.1 C.2.1 dX12_next_23 rfl (lv_at hl 0 rfl) ?_
      refine gM_0_now C hX12_next_0_X12 hK hP mX12_next_0_2 dX12_next_24 ?_
      obtain ⟨r9, hc11, h⟩ := bd_some h
      refine cs_i (As := [.int x3, .int 0, .int (u7.1 1)]) (rest := []) (AM_ge hJ) C hK hP hS (metX12_isIn l D cy st _ x3 0 (u7.1 1) hc11) (va_cwS 3 C.2.2.2.2.2.1 gX12_next_X12_isIn rfl rfl rfl (by decide +kernel) ⟨(Nat.le_of_ble_eq_true rfl), (Nat.le_of_ble_eq_true rfl)⟩) rfl hl.1 rfl (Nat.le_of_ble_eq_true rfl) dX12_next_27 ⟨Nat.zero_le _, Nat.zero_le _⟩ (fun H locs hP hS => ?_)
      refine lv_if_eq (tgt := 43) C.1 C.2.1 dX12_next_30 (by decide) (fun c30 => ?_) (fun c30 => ?_)
      · rw [if_pos c30] at h
        refine lv_iconst (v := (-1)) C.1 C.2.1 dX12_next_43 (by decide) ?_
        cases h
        exact rt_i C hP hS dX12_next_44
      · rw [if_neg c30] at h
        refine lv_iload C.1 C.2.1 dX12_next_33 (lv_at hl 4 rfl) ?_
        refine lv_iconst (v := 0) C.1 C.2.1 dX12_next_35 (by decide) ?_
        refine lv_iconst (v := 1) C.1 C.2.1 dX12_next_36 (by decide) ?_
        obtain ⟨r12, hc14, h⟩ := bd_some h
        refine cs_i (As := [.int x4, .int 0, .int 1]) (rest := []) (AM_ge hJ) C hK hP hS (metX12_isIn l D cy st _ x4 0 1 hc14) (va_cwS 3 C.2.2.2.2.2.1 gX12_next_X12_isIn rfl rfl rfl (by decide +kernel) ⟨(Nat.le_of_ble_eq_true rfl), (Nat.le_of_ble_eq_true rfl)⟩) rfl hl.1 rfl (Nat.le_of_ble_eq_true rfl) dX12_next_37 ⟨Nat.zero_le _, Nat.zero_le _⟩ (fun H locs hP hS => ?_)
        refine lv_if_ne (tgt := 45) C.1 C.2.1 dX12_next_40 (by decide) (fun c40 => ?_) (fun c40 => ?_)
        · rw [if_neg c40] at h
          refine lv_aload_n C.1 C.2.1 dX12_next_45 rfl (lv_at hl 0 rfl) ?_
          refine lv_iload_n C.1 C.2.1 dX12_next_46 rfl (lv_at hl 1 rfl) ?_
          refine lv_iload_n C.1 C.2.1 dX12_next_47 rfl (lv_at hl 3 rfl) ?_
          refine lv_iconst (v := 0) C.1 C.2.1 dX12_next_48 (by decide) ?_
          obtain ⟨⟨r15, u16⟩, hc17, h⟩ := bd_some h
          try dsimp only at h
          refine cg_i (As := [.int x1, .int x3, .int 0]) (rest := []) (AM_ge hJ) C hK hP hS (metX12_fits_0 l D cy ad st hJ _ x1 x3 0 hc17) (cwV 3 C.2.2.2.2.2.1 gX12_next_X12_fits rfl rfl rfl (by decide +kernel) ⟨(Nat.le_of_ble_eq_true rfl), (Nat.le_of_ble_eq_true rfl)⟩) 0 12 rfl rfl rfl hl.1 rfl (Nat.le_of_ble_eq_true rfl) dX12_next_49 ⟨Nat.zero_le _, Nat.zero_le _⟩ (fun H locs hP hS => ?_)
          refine lv_istore (lv' := [(5, .int r15), (0, .ref (ad 0)), (1, .int x1), (2, .int x2), (3, .int x3), (4, .int x4)]) C.1 C.2.1 dX12_next_52 hl (by decide) rfl (fun ls hl => ?_)
          replace hl := lv_sub (l' := [(0, .ref (ad 0)), (1, .int x1), (2, .int x2), (3, .int x3), (4, .int x4), (5, .int r15)]) hl [1, 2, 3, 4, 5, 0] rfl
          refine lv_aload_n C.1 C.2.1 dX12_next_54 rfl (lv_at hl 0 rfl) ?_
          refine lv_iload_n C.1 C.2.1 dX12_next_55 rfl (lv_at hl 2 rfl) ?_
          refine lv_iload_n C.1 C.2.1 dX12_next_56 rfl (lv_at hl 3 rfl) ?_
          refine lv_iconst (v := 0) C.1 C.2.1 dX12_next_57 (by decide) ?_
          obtain ⟨⟨r18, u19⟩, hc20, h⟩ := bd_some h
          try dsimp only at h
          refine cg_i (As := [.int x2, .int x3, .int 0]) (rest := []) (AM_ge hJ) C hK hP hS (metX12_fits_0 l D cy ad st hJ _ x2 x3 0 hc20) (cwV 3 C.2.2.2.2.2.1 gX12_next_X12_fits rfl rfl rfl (by decide +kernel) ⟨(Nat.le_of_ble_eq_true rfl), (Nat.le_of_ble_eq_true rfl)⟩) 0 12 rfl rfl rfl hl.1 rfl (Nat.le_of_ble_eq_true rfl) dX12_next_58 ⟨Nat.zero_le _, Nat.zero_le _⟩ (fun H locs hP hS => ?_)
          refine lv_istore (lv' := [(6, .int r18), (0, .ref (ad 0)), (1, .int x1), (2, .int x2), (3, .int x3), (4, .int x4), (5, .int r15)]) C.1 C.2.1 dX12_next_61 hl (by decide) rfl (fun ls hl => ?_)
          replace hl := lv_sub (l' := [(0, .ref (ad 0)), (1, .int x1), (2, .int x2), (3, .int x3), (4, .int x4), (5, .int r15), (6, .int r18)]) hl [1, 2, 3, 4, 5, 6, 0] rfl
          refine lv_iload C.1 C.2.1 dX12_next_63 (lv_at hl 5 rfl) ?_
          refine lv_iconst (v := (-1)) C.1 C.2.1 dX12_next_65 (by decide) ?_
          refine lv_icmp_eq (tgt := 75) C.1 C.2.1 dX12_next_66 (by decide) (fun c66 => ?_) (fun c66 => ?_)
          · rw [if_pos c66] at h
            refine lv_iconst (v := (-1)) C.1 C.2.1 dX12_next_75 (by decide) ?_
            cases h
            exact rt_i C hP hS dX12_next_76
          · rw [if_neg c66] at h
            refine lv_iload C.1 C.2.1 dX12_next_69 (lv_at hl 6 rfl) ?_
            refine lv_iconst (v := (-1)) C.1 C.2.1 dX12_next_71 (by decide) ?_
            refine lv_icmp_ne (tgt := 77) C.1 C.2.1 dX12_next_72 (by decide) (fun c72 => ?_) (fun c72 => ?_)
            · rw [if_neg c72] at h
              refine lv_iconst (v := 0) C.1 C.2.1 dX12_next_77 (by decide) ?_
              refine lv_istore (lv' := [(7, .int 0), (0, .ref (ad 0)), (1, .int x1), (2, .int x2), (3, .int x3), (4, .int x4), (5, .int r15), (6, .int r18)]) C.1 C.2.1 dX12_next_78 hl (by decide) rfl (fun ls hl => ?_)
              replace hl := lv_sub (l' := [(0, .ref (ad 0)), (1, .int x1), (2, .int x2), (3, .int x3), (4, .int x4), (5, .int r15), (6, .int r18), (7, .int 0)]) hl [1, 2, 3, 4, 5, 6, 7, 0] rfl
              refine lv_iconst (v := (-1)) C.1 C.2.1 dX12_next_80 (by decide) ?_
              refine lv_istore (lv' := [(8, .int (-1)), (0, .ref (ad 0)), (1, .int x1), (2, .int x2), (3, .int x3), (4, .int x4), (5, .int r15), (6, .int r18), (7, .int 0)]) C.1 C.2.1 dX12_next_81 hl (by decide) rfl (fun ls hl => ?_)
              replace hl := lv_sub (l' := [(0, .ref (ad 0)), (1, .int x1), (2, .int x2), (3, .int x3), (4, .int x4), (5, .int r15), (6, .int r18), (7, .int 0), (8, .int (-1))]) hl [1, 2, 3, 4, 5, 6, 7, 8, 0] rfl
              refine lv_iconst (v := 1) C.1 C.2.1 dX12_next_83 (by decide) ?_
              refine lv_istore (lv' := [(9, .int 1), (0, .ref (ad 0)), (1, .int x1), (2, .int x2), (3, .int x3), (4, .int x4), (5, .int r15), (6, .int r18), (7, .int 0), (8, .int (-1))]) C.1 C.2.1 dX12_next_84 hl (by decide) rfl (fun ls hl => ?_)
              replace hl := lv_sub (l' := [(0, .ref (ad 0)), (1, .int x1), (2, .int x2), (3, .int x3), (4, .int x4), (5, .int r15), (6, .int r18), (7, .int 0), (8, .int (-1)), (9, .int 1)]) hl [1, 2, 3, 4, 5, 6, 7, 8, 9, 0] rfl
              exact wLX12_next_0_86 C hK hJ (wGX12_next_0_141 C hK hJ ) 5000 _ _ _ _ _ _ _ _ _ _ _ _ h hP hS (lv_sub hl [0, 1, 2, 4, 5, 6, 7, 8, 9] rfl)
            · rw [if_pos c72] at h
              refine lv_iconst (v := (-1)) C.1 C.2.1 dX12_next_75 (by decide) ?_
              cases h
              exact rt_i C hP hS dX12_next_76
        · rw [if_pos c40] at h
          refine lv_iconst (v := (-1)) C.1 C.2.1 dX12_next_43 (by decide) ?_
          cases h
          exact rt_i C hP hS dX12_next_44
theorem metX12_next_0 (l : Launch) (D : va_G) (cy : Nat → ClassId) (ad st : Nat → Nat) (hJ : JM ad st) (sz : Nat) (x1 : Int32) (x2 : Int32) (x3 : Int32) (x4 : Int32) {u : SX} {r : Int32} {u' : SX} (h : fX12_next_0 x1 x2 x3 x4 u = some (r, u')) : Met l yX12_next wsX12_next rmX12_next_0 (va_Pc [.ref (ad 0), .int x1, .int x2, .int x3, .int x4] (Px D [(cy 0, .int), (cy 1, .long), (cy 2, .boolean), (cy 3, .byte), (cy 4, .object "HissHorn$Text")] st (VM cy ad st) sz u)) (Qi D (VM cy ad st) (AM ad) sz r u') 0 0 (Ax (AM ad) sz) := by
  refine Met.ofW (cc := cX12_next) (maxL := 11) (ret := (some .int)) (by decide) rfl ?_
  intro p e s m args below meth c s₁ B hml hv
  obtain ⟨rfl, hsz, hP, hK⟩ := hv
  subst hsz
  have C : Cx RX12 cX12_next 11 (some .int) wsX12_next p s m _ meth c := ⟨B.exec, B.bytes, hml, B.returns, findClass_of_methodNamed B.named, atoms_spec (ws := wsX12_next) B.pre, B.notSynchronized⟩
  have hl := lv_entry ([.ref (ad 0), .int x1, .int x2, .int x3, .int x4]) (n := 11) (Nat.le_of_ble_eq_true rfl)
  rw [lg_entry_eq]
  exact wX12_next_0 C hK hJ x1 x2 x3 x4 h hP va_S.rf hl

theorem zdX12_isHouse_0 : (and (and (and (and (zk cX12_isHouse 0 (.iload_n 1) 1) (zk cX12_isHouse 1 (.ifCond .lt 15) 3)) (zk cX12_isHouse 16 (.iconst 0) 1)) (and (zk cX12_isHouse 17 (.ireturn) 1) (zk cX12_isHouse 4 (.iload_n 1) 1))) (and (and (and (zk cX12_isHouse 5 (.aload_n 0) 1) (zk cX12_isHouse 6 (.getfield 439) 3)) (zk cX12_isHouse 9 (.if_icmp .ge 7) 3)) (and (zk cX12_isHouse 12 (.iconst 1) 1) (zk cX12_isHouse 13 (.goto 4) 3)))) = true := by decide +kernel
theorem dX12_isHouse_0 : decode cX12_isHouse 0 = .ok (.iload_n 1, 1) := zk_of (zk_l (zk_l (zk_l (zk_l zdX12_isHouse_0))))
theorem dX12_isHouse_1 : decode cX12_isHouse 1 = .ok (.ifCond .lt 15, 3) := zk_of (zk_r (zk_l (zk_l (zk_l zdX12_isHouse_0))))
theorem dX12_isHouse_16 : decode cX12_isHouse 16 = .ok (.iconst 0, 1) := zk_of (zk_r (zk_l (zk_l zdX12_isHouse_0)))
theorem dX12_isHouse_17 : decode cX12_isHouse 17 = .ok (.ireturn, 1) := zk_of (zk_l (zk_r (zk_l zdX12_isHouse_0)))
theorem dX12_isHouse_4 : decode cX12_isHouse 4 = .ok (.iload_n 1, 1) := zk_of (zk_r (zk_r (zk_l zdX12_isHouse_0)))
theorem dX12_isHouse_5 : decode cX12_isHouse 5 = .ok (.aload_n 0, 1) := zk_of (zk_l (zk_l (zk_l (zk_r zdX12_isHouse_0))))
theorem dX12_isHouse_6 : decode cX12_isHouse 6 = .ok (.getfield 439, 3) := zk_of (zk_r (zk_l (zk_l (zk_r zdX12_isHouse_0))))
theorem dX12_isHouse_9 : decode cX12_isHouse 9 = .ok (.if_icmp .ge 7, 3) := zk_of (zk_r (zk_l (zk_r zdX12_isHouse_0)))
theorem dX12_isHouse_12 : decode cX12_isHouse 12 = .ok (.iconst 1, 1) := zk_of (zk_l (zk_r (zk_r zdX12_isHouse_0)))
theorem dX12_isHouse_13 : decode cX12_isHouse 13 = .ok (.goto 4, 3) := zk_of (zk_r (zk_r (zk_r zdX12_isHouse_0)))
/-- HissHornModel.isHouse(I)Z of cell 0 -/
def rmX12_isHouse_0 : Room := { frames := 0, cells := 0, slots := 0, locals := 0 }
theorem hX12_isHouse_0_X12 : ∀ w ∈ u_ws RX12 TX12 69, w ∈ wsX12_isHouse := fun w h => (List.mem_cons_of_mem _ (List.mem_append_right _ h))
theorem mX12_isHouse_0_1 : Cond.fieldLink RX12 439 "HissHornModel" "houses" "I" ∈ wsX12_isHouse := (List.mem_cons_of_mem _ (List.mem_append_left _ (List.mem_of_getElem? (i := 0) rfl)))
def fX12_isHouse_0 (x1 : Int32) (u : SX) : Option (Int32 × SX) := (if x1 < 0 then (gd (isB 0) (some (0, u))) else (if (u.1 22) ≤ x1 then (gd (isB 0) (some (0, u))) else (gd (isB 1) (some (1, u)))))
set_option maxHeartbeats 4000000 in
set_option maxRecDepth 100000 in
theorem wX12_isHouse_0 {p : Program} {l : Launch} {e : Env} {s : State} {m : MethodId} {args : Array Value} {below : List Frame} {meth : Method} {c : Code} {D : va_G} {cy : Nat → ClassId} {ad st : Nat → Nat} (C : Cx RX12 cX12_isHouse 2 (some .boolean) wsX12_isHouse p s m args meth c) (hK : Ky D [(cy 0, .int), (cy 1, .long), (cy 2, .boolean), (cy 3, .byte), (cy 4, .object "HissHorn$Text")] st s) (hJ : JM ad st) (x1 : Int32) {u : SX} {r : Int32} {u' : SX} {H : Heap} {locs : List Loc} {ls : Array Slot} (h : fX12_isHouse_0 x1 u = some (r, u')) (hP : va_P D vwCl (VM cy ad st u) H) (hS : va_S (Ax (AM ad) s.heap.size) s.heap H locs) (hl : lv_has ls 2 [(0, .ref (ad 0)), (1, .int x1)]) : W p l e rmX12_isHouse_0 s m args below meth c H locs 0 0 (MQ below (Qi D (VM cy ad st) (AM ad) s.heap.size r u') args s 0 0 (Ax (AM ad) s.heap.size)) (F0 m 0 ls []) := by
  unfold fX12_isHouse_0 at h
  refine lv_iload_n C.1 C.2.1 dX12_isHouse_0 rfl (lv_at hl 1 rfl) ?_
  refine lv_if_lt (tgt := 16) C.1 C.2.1 dX12_isHouse_1 (by decide) (fun c1 => ?_) (fun c1 => ?_)
  · rw [if_pos c1] at h
    refine lv_iconst (v := 0) C.1 C.2.1 dX12_isHouse_16 (by decide) ?_
    obtain ⟨hg1, h⟩ := gd_some h
    cases h
    exact rt_z hg1 C hP hS dX12_isHouse_17
  · rw [if_neg c1] at h
    refine lv_iload_n C.1 C.2.1 dX12_isHouse_4 rfl (lv_at hl 1 rfl) ?_
    refine lv_aload_n C.1 C.2.1 dX12_isHouse_5 rfl (lv_at hl 0 rfl) ?_
    refine gM_0_houses C hX12_isHouse_0_X12 hK hP mX12_isHouse_0_1 dX12_isHouse_6 ?_
    refine lv_icmp_ge (tgt := 16) C.1 C.2.1 dX12_isHouse_9 (by decide) (fun c9 => ?_) (fun c9 => ?_)
    · rw [if_pos c9] at h
      refine lv_iconst (v := 0) C.1 C.2.1 dX12_isHouse_16 (by decide) ?_
      obtain ⟨hg2, h⟩ := gd_some h
      cases h
      exact rt_z hg2 C hP hS dX12_isHouse_17
    · rw [if_neg c9] at h
      refine lv_iconst (v := 1) C.1 C.2.1 dX12_isHouse_12 (by decide) ?_
      refine lv_goto (tgt := 17) C.1 C.2.1 dX12_isHouse_13 (by decide) ?_
      obtain ⟨hg3, h⟩ := gd_some h
      cases h
      exact rt_z hg3 C hP hS dX12_isHouse_17
theorem metX12_isHouse_0 (l : Launch) (D : va_G) (cy : Nat → ClassId) (ad st : Nat → Nat) (hJ : JM ad st) (sz : Nat) (x1 : Int32) {u : SX} {r : Int32} {u' : SX} (h : fX12_isHouse_0 x1 u = some (r, u')) : Met l yX12_isHouse wsX12_isHouse rmX12_isHouse_0 (va_Pc [.ref (ad 0), .int x1] (Px D [(cy 0, .int), (cy 1, .long), (cy 2, .boolean), (cy 3, .byte), (cy 4, .object "HissHorn$Text")] st (VM cy ad st) sz u)) (Qi D (VM cy ad st) (AM ad) sz r u') 0 0 (Ax (AM ad) sz) := by
  refine Met.ofW (cc := cX12_isHouse) (maxL := 2) (ret := (some .boolean)) (by decide) rfl ?_
  intro p e s m args below meth c s₁ B hml hv
  obtain ⟨rfl, hsz, hP, hK⟩ := hv
  subst hsz
  have C : Cx RX12 cX12_isHouse 2 (some .boolean) wsX12_isHouse p s m _ meth c := ⟨B.exec, B.bytes, hml, B.returns, findClass_of_methodNamed B.named, atoms_spec (ws := wsX12_isHouse) B.pre, B.notSynchronized⟩
  have hl := lv_entry ([.ref (ad 0), .int x1]) (n := 2) (Nat.le_of_ble_eq_true rfl)
  rw [lg_entry_eq]
  exact wX12_isHouse_0 C hK hJ x1 h hP va_S.rf hl

theorem zdX12_house_0 : (and (and (and (and (and (zk cX12_house 0 (.aload_n 0) 1) (zk cX12_house 1 (.iconst 0) 1)) (zk cX12_house 2 (.putfield 151) 3)) (and (zk cX12_house 5 (.aload_n 0) 1) (zk cX12_house 6 (.getfield 439) 3))) (and (and (and (zk cX12_house 9 (.bipush 8) 2) (zk cX12_house 11 (.if_icmp .ne 5) 3)) (zk cX12_house 16 (.aload_n 0) 1)) (and (zk cX12_house 17 (.dup) 1) (zk cX12_house 18 (.getfield 439) 3)))) (and (and (and (and (zk cX12_house 21 (.iconst 1) 1) (zk cX12_house 22 (.iadd) 1)) (zk cX12_house 23 (.putfield 439) 3)) (and (zk cX12_house 26 (.aload_n 0) 1) (zk cX12_house 27 (.getfield 439) 3))) (and (and (and (zk cX12_house 30 (.iconst 1) 1) (zk cX12_house 31 (.isub) 1)) (zk cX12_house 32 (.ireturn) 1)) (and (zk cX12_house 14 (.iconst (-1)) 1) (zk cX12_house 15 (.ireturn) 1))))) = true := by decide +kernel
theorem dX12_house_0 : decode cX12_house 0 = .ok (.aload_n 0, 1) := zk_of (zk_l (zk_l (zk_l (zk_l (zk_l zdX12_house_0)))))
theorem dX12_house_1 : decode cX12_house 1 = .ok (.iconst 0, 1) := zk_of (zk_r (zk_l (zk_l (zk_l (zk_l zdX12_house_0)))))
theorem dX12_house_2 : decode cX12_house 2 = .ok (.putfield 151, 3) := zk_of (zk_r (zk_l (zk_l (zk_l zdX12_house_0))))
theorem dX12_house_5 : decode cX12_house 5 = .ok (.aload_n 0, 1) := zk_of (zk_l (zk_r (zk_l (zk_l zdX12_house_0))))
theorem dX12_house_6 : decode cX12_house 6 = .ok (.getfield 439, 3) := zk_of (zk_r (zk_r (zk_l (zk_l zdX12_house_0))))
theorem dX12_house_9 : decode cX12_house 9 = .ok (.bipush 8, 2) := zk_of (zk_l (zk_l (zk_l (zk_r (zk_l zdX12_house_0)))))
theorem dX12_house_11 : decode cX12_house 11 = .ok (.if_icmp .ne 5, 3) := zk_of (zk_r (zk_l (zk_l (zk_r (zk_l zdX12_house_0)))))
theorem dX12_house_16 : decode cX12_house 16 = .ok (.aload_n 0, 1) := zk_of (zk_r (zk_l (zk_r (zk_l zdX12_house_0))))
theorem dX12_house_17 : decode cX12_house 17 = .ok (.dup, 1) := zk_of (zk_l (zk_r (zk_r (zk_l zdX12_house_0))))
theorem dX12_house_18 : decode cX12_house 18 = .ok (.getfield 439, 3) := zk_of (zk_r (zk_r (zk_r (zk_l zdX12_house_0))))
theorem dX12_house_21 : decode cX12_house 21 = .ok (.iconst 1, 1) := zk_of (zk_l (zk_l (zk_l (zk_l (zk_r zdX12_house_0)))))
theorem dX12_house_22 : decode cX12_house 22 = .ok (.iadd, 1) := zk_of (zk_r (zk_l (zk_l (zk_l (zk_r zdX12_house_0)))))
theorem dX12_house_23 : decode cX12_house 23 = .ok (.putfield 439, 3) := zk_of (zk_r (zk_l (zk_l (zk_r zdX12_house_0))))
theorem dX12_house_26 : decode cX12_house 26 = .ok (.aload_n 0, 1) := zk_of (zk_l (zk_r (zk_l (zk_r zdX12_house_0))))
theorem dX12_house_27 : decode cX12_house 27 = .ok (.getfield 439, 3) := zk_of (zk_r (zk_r (zk_l (zk_r zdX12_house_0))))
theorem dX12_house_30 : decode cX12_house 30 = .ok (.iconst 1, 1) := zk_of (zk_l (zk_l (zk_l (zk_r (zk_r zdX12_house_0)))))
theorem dX12_house_31 : decode cX12_house 31 = .ok (.isub, 1) := zk_of (zk_r (zk_l (zk_l (zk_r (zk_r zdX12_house_0)))))
theorem dX12_house_32 : decode cX12_house 32 = .ok (.ireturn, 1) := zk_of (zk_r (zk_l (zk_r (zk_r zdX12_house_0))))
theorem dX12_house_14 : decode cX12_house 14 = .ok (.iconst (-1), 1) := zk_of (zk_l (zk_r (zk_r (zk_r zdX12_house_0))))
theorem dX12_house_15 : decode cX12_house 15 = .ok (.ireturn, 1) := zk_of (zk_r (zk_r (zk_r (zk_r zdX12_house_0))))
/-- HissHornModel.house()I of cell 0 -/
def rmX12_house_0 : Room := { frames := 0, cells := 0, slots := 0, locals := 0 }
theorem hX12_house_0_X12 : ∀ w ∈ u_ws RX12 TX12 69, w ∈ wsX12_house := fun w h => (List.mem_cons_of_mem _ (List.mem_append_right _ h))
theorem mX12_house_0_1 : Cond.fieldLink RX12 151 "HissHornModel" "thrown" "I" ∈ wsX12_house := (List.mem_cons_of_mem _ (List.mem_append_left _ (List.mem_of_getElem? (i := 0) rfl)))
theorem mX12_house_0_2 : Cond.fieldLink RX12 439 "HissHornModel" "houses" "I" ∈ wsX12_house := (List.mem_cons_of_mem _ (List.mem_append_left _ (List.mem_of_getElem? (i := 1) rfl)))
def fX12_house_0  (u : SX) : Option (Int32 × SX) := (lt (sI u 0 0) fun u1 => (if (u1.1 22) = 8 then (some ((-1), u1)) else (lt (sI u1 22 ((u1.1 22) + 1)) fun u3 => (some ((u3.1 22) - 1, u3)))))
set_option maxHeartbeats 4000000 in
set_option maxRecDepth 100000 in
theorem wX12_house_0 {p : Program} {l : Launch} {e : Env} {s : State} {m : MethodId} {args : Array Value} {below : List Frame} {meth : Method} {c : Code} {D : va_G} {cy : Nat → ClassId} {ad st : Nat → Nat} (C : Cx RX12 cX12_house 1 (some .int) wsX12_house p s m args meth c) (hK : Ky D [(cy 0, .int), (cy 1, .long), (cy 2, .boolean), (cy 3, .byte), (cy 4, .object "HissHorn$Text")] st s) (hJ : JM ad st)  {u : SX} {r : Int32} {u' : SX} {H : Heap} {locs : List Loc} {ls : Array Slot} (h : fX12_house_0  u = some (r, u')) (hP : va_P D vwCl (VM cy ad st u) H) (hS : va_S (Ax (AM ad) s.heap.size) s.heap H locs) (hl : lv_has ls 1 [(0, .ref (ad 0))]) : W p l e rmX12_house_0 s m args below meth c H locs 0 0 (MQ below (Qi D (VM cy ad st) (AM ad) s.heap.size r u') args s 0 0 (Ax (AM ad) s.heap.size)) (F0 m 0 ls []) := by
  unfold fX12_house_0 at h
  refine lv_aload_n C.1 C.2.1 dX12_house_0 rfl (lv_at hl 0 rfl) ?_
  refine lv_iconst (v := 0) C.1 C.2.1 dX12_house_1 (by decide) ?_
  refine pM_0_thrown C hX12_house_0_X12 hK hP hJ hS mX12_house_0_1 dX12_house_2 (fun H locs hP hS => ?_)
  obtain ⟨u1, hu2, h⟩ := lt_some h
  rw [← hu2] at hP
  refine lv_aload_n C.1 C.2.1 dX12_house_5 rfl (lv_at hl 0 rfl) ?_
  refine gM_0_houses C hX12_house_0_X12 hK hP mX12_house_0_2 dX12_house_6 ?_
  refine lv_bipush (v := 8) C.1 C.2.1 dX12_house_9 (by decide) ?_
  refine lv_icmp_ne (tgt := 16) C.1 C.2.1 dX12_house_11 (by decide) (fun c11 => ?_) (fun c11 => ?_)
  · rw [if_neg c11] at h
    refine lv_aload_n C.1 C.2.1 dX12_house_16 rfl (lv_at hl 0 rfl) ?_
    refine lv_dup C.1 C.2.1 dX12_house_17 rfl ?_
    refine gM_0_houses C hX12_house_0_X12 hK hP mX12_house_0_2 dX12_house_18 ?_
    refine lv_iconst (v := 1) C.1 C.2.1 dX12_house_21 (by decide) ?_
    refine lv_iadd C.1 C.2.1 dX12_house_22 ?_
    refine pM_0_houses C hX12_house_0_X12 hK hP hJ hS mX12_house_0_2 dX12_house_23 (fun H locs hP hS => ?_)
    obtain ⟨u3, hu4, h⟩ := lt_some h
    rw [← hu4] at hP
    refine lv_aload_n C.1 C.2.1 dX12_house_26 rfl (lv_at hl 0 rfl) ?_
    refine gM_0_houses C hX12_house_0_X12 hK hP mX12_house_0_2 dX12_house_27 ?_
    refine lv_iconst (v := 1) C.1 C.2.1 dX12_house_30 (by decide) ?_
    refine lv_isub C.1 C.2.1 dX12_house_31 ?_
    cases h
    exact rt_i C hP hS dX12_house_32
  · rw [if_pos c11] at h
    refine lv_iconst (v := (-1)) C.1 C.2.1 dX12_house_14 (by decide) ?_
    cases h
    exact rt_i C hP hS dX12_house_15
theorem metX12_house_0 (l : Launch) (D : va_G) (cy : Nat → ClassId) (ad st : Nat → Nat) (hJ : JM ad st) (sz : Nat)  {u : SX} {r : Int32} {u' : SX} (h : fX12_house_0  u = some (r, u')) : Met l yX12_house wsX12_house rmX12_house_0 (va_Pc [.ref (ad 0)] (Px D [(cy 0, .int), (cy 1, .long), (cy 2, .boolean), (cy 3, .byte), (cy 4, .object "HissHorn$Text")] st (VM cy ad st) sz u)) (Qi D (VM cy ad st) (AM ad) sz r u') 0 0 (Ax (AM ad) sz) := by
  refine Met.ofW (cc := cX12_house) (maxL := 1) (ret := (some .int)) (by decide) rfl ?_
  intro p e s m args below meth c s₁ B hml hv
  obtain ⟨rfl, hsz, hP, hK⟩ := hv
  subst hsz
  have C : Cx RX12 cX12_house 1 (some .int) wsX12_house p s m _ meth c := ⟨B.exec, B.bytes, hml, B.returns, findClass_of_methodNamed B.named, atoms_spec (ws := wsX12_house) B.pre, B.notSynchronized⟩
  have hl := lv_entry ([.ref (ad 0)]) (n := 1) (Nat.le_of_ble_eq_true rfl)
  rw [lg_entry_eq]
  exact wX12_house_0 C hK hJ h hP va_S.rf hl

theorem zdX12_print_148 : (and (and (and (and (and (zk cX12_print 148 (.iload_n 2) 1) (zk cX12_print 149 (.ifCond .eq 12) 3)) (and (zk cX12_print 161 (.aload_n 0) 1) (zk cX12_print 162 (.getfield 448) 3))) (and (and (zk cX12_print 165 (.iconst 1) 1) (zk cX12_print 166 (.isub) 1)) (and (zk cX12_print 167 (.ireturn) 1) (zk cX12_print 152 (.aload_n 0) 1)))) (and (and (and (zk cX12_print 153 (.getfield 445) 3) (zk cX12_print 156 (.iconst 1) 1)) (and (zk cX12_print 157 (.isub) 1) (zk cX12_print 158 (.goto 9) 3))) (and (and (zk cX12_print 83 (.istore 5) 2) (zk cX12_print 85 (.aload_n 0) 1)) (and (zk cX12_print 86 (.getfield 124) 3) (zk cX12_print 89 (.iload 5) 2))))) (and (and (and (and (zk cX12_print 91 (.iload_n 1) 1) (zk cX12_print 92 (.iastore) 1)) (and (zk cX12_print 93 (.aload_n 0) 1) (zk cX12_print 94 (.getfield 127) 3))) (and (and (zk cX12_print 97 (.iload 5) 2) (zk cX12_print 99 (.iload_n 3) 1)) (and (zk cX12_print 100 (.iastore) 1) (zk cX12_print 101 (.aload_n 0) 1)))) (and (and (and (zk cX12_print 102 (.getfield 130) 3) (zk cX12_print 105 (.iload 5) 2)) (and (zk cX12_print 107 (.iload 4) 2) (zk cX12_print 109 (.iastore) 1))) (and (and (zk cX12_print 110 (.aload_n 0) 1) (zk cX12_print 111 (.getfield 133) 3)) (and (zk cX12_print 114 (.iload 5) 2) (zk cX12_print 116 (.aload_n 0) 1)))))) = true := by decide +kernel
theorem dX12_print_148 : decode cX12_print 148 = .ok (.iload_n 2, 1) := zk_of (zk_l (zk_l (zk_l (zk_l (zk_l zdX12_print_148)))))
theorem dX12_print_149 : decode cX12_print 149 = .ok (.ifCond .eq 12, 3) := zk_of (zk_r (zk_l (zk_l (zk_l (zk_l zdX12_print_148)))))
theorem dX12_print_161 : decode cX12_print 161 = .ok (.aload_n 0, 1) := zk_of (zk_l (zk_r (zk_l (zk_l (zk_l zdX12_print_148)))))
theorem dX12_print_162 : decode cX12_print 162 = .ok (.getfield 448, 3) := zk_of (zk_r (zk_r (zk_l (zk_l (zk_l zdX12_print_148)))))
theorem dX12_print_165 : decode cX12_print 165 = .ok (.iconst 1, 1) := zk_of (zk_l (zk_l (zk_r (zk_l (zk_l zdX12_print_148)))))
theorem dX12_print_166 : decode cX12_print 166 = .ok (.isub, 1) := zk_of (zk_r (zk_l (zk_r (zk_l (zk_l zdX12_print_148)))))
theorem dX12_print_167 : decode cX12_print 167 = .ok (.ireturn, 1) := zk_of (zk_l (zk_r (zk_r (zk_l (zk_l zdX12_print_148)))))
theorem dX12_print_152 : decode cX12_print 152 = .ok (.aload_n 0, 1) := zk_of (zk_r (zk_r (zk_r (zk_l (zk_l zdX12_print_148)))))
theorem dX12_print_153 : decode cX12_print 153 = .ok (.getfield 445, 3) := zk_of (zk_l (zk_l (zk_l (zk_r (zk_l zdX12_print_148)))))
theorem dX12_print_156 : decode cX12_print 156 = .ok (.iconst 1, 1) := zk_of (zk_r (zk_l (zk_l (zk_r (zk_l zdX12_print_148)))))
theorem dX12_print_157 : decode cX12_print 157 = .ok (.isub, 1) := zk_of (zk_l (zk_r (zk_l (zk_r (zk_l zdX12_print_148)))))
theorem dX12_print_158 : decode cX12_print 158 = .ok (.goto 9, 3) := zk_of (zk_r (zk_r (zk_l (zk_r (zk_l zdX12_print_148)))))
theorem dX12_print_83 : decode cX12_print 83 = .ok (.istore 5, 2) := zk_of (zk_l (zk_l (zk_r (zk_r (zk_l zdX12_print_148)))))
theorem dX12_print_85 : decode cX12_print 85 = .ok (.aload_n 0, 1) := zk_of (zk_r (zk_l (zk_r (zk_r (zk_l zdX12_print_148)))))
theorem dX12_print_86 : decode cX12_print 86 = .ok (.getfield 124, 3) := zk_of (zk_l (zk_r (zk_r (zk_r (zk_l zdX12_print_148)))))
theorem dX12_print_89 : decode cX12_print 89 = .ok (.iload 5, 2) := zk_of (zk_r (zk_r (zk_r (zk_r (zk_l zdX12_print_148)))))
theorem dX12_print_91 : decode cX12_print 91 = .ok (.iload_n 1, 1) := zk_of (zk_l (zk_l (zk_l (zk_l (zk_r zdX12_print_148)))))
theorem dX12_print_92 : decode cX12_print 92 = .ok (.iastore, 1) := zk_of (zk_r (zk_l (zk_l (zk_l (zk_r zdX12_print_148)))))
theorem dX12_print_93 : decode cX12_print 93 = .ok (.aload_n 0, 1) := zk_of (zk_l (zk_r (zk_l (zk_l (zk_r zdX12_print_148)))))
theorem dX12_print_94 : decode cX12_print 94 = .ok (.getfield 127, 3) := zk_of (zk_r (zk_r (zk_l (zk_l (zk_r zdX12_print_148)))))
theorem dX12_print_97 : decode cX12_print 97 = .ok (.iload 5, 2) := zk_of (zk_l (zk_l (zk_r (zk_l (zk_r zdX12_print_148)))))
theorem dX12_print_99 : decode cX12_print 99 = .ok (.iload_n 3, 1) := zk_of (zk_r (zk_l (zk_r (zk_l (zk_r zdX12_print_148)))))
theorem dX12_print_100 : decode cX12_print 100 = .ok (.iastore, 1) := zk_of (zk_l (zk_r (zk_r (zk_l (zk_r zdX12_print_148)))))
theorem dX12_print_101 : decode cX12_print 101 = .ok (.aload_n 0, 1) := zk_of (zk_r (zk_r (zk_r (zk_l (zk_r zdX12_print_148)))))
theorem dX12_print_102 : decode cX12_print 102 = .ok (.getfield 130, 3) := zk_of (zk_l (zk_l (zk_l (zk_r (zk_r zdX12_print_148)))))
theorem dX12_print_105 : decode cX12_print 105 = .ok (.iload 5, 2) := zk_of (zk_r (zk_l (zk_l (zk_r (zk_r zdX12_print_148)))))
theorem dX12_print_107 : decode cX12_print 107 = .ok (.iload 4, 2) := zk_of (zk_l (zk_r (zk_l (zk_r (zk_r zdX12_print_148)))))
theorem dX12_print_109 : decode cX12_print 109 = .ok (.iastore, 1) := zk_of (zk_r (zk_r (zk_l (zk_r (zk_r zdX12_print_148)))))
theorem dX12_print_110 : decode cX12_print 110 = .ok (.aload_n 0, 1) := zk_of (zk_l (zk_l (zk_r (zk_r (zk_r zdX12_print_148)))))
theorem dX12_print_111 : decode cX12_print 111 = .ok (.getfield 133, 3) := zk_of (zk_r (zk_l (zk_r (zk_r (zk_r zdX12_print_148)))))
theorem dX12_print_114 : decode cX12_print 114 = .ok (.iload 5, 2) := zk_of (zk_l (zk_r (zk_r (zk_r (zk_r zdX12_print_148)))))
theorem dX12_print_116 : decode cX12_print 116 = .ok (.aload_n 0, 1) := zk_of (zk_r (zk_r (zk_r (zk_r (zk_r zdX12_print_148)))))
theorem zdX12_print_117 : (and (and (and (and (and (zk cX12_print 117 (.getfield 159) 3) (zk cX12_print 120 (.iastore) 1)) (and (zk cX12_print 121 (.iload_n 2) 1) (zk cX12_print 122 (.ifCond .eq 16) 3))) (and (and (zk cX12_print 138 (.aload_n 0) 1) (zk cX12_print 139 (.dup) 1)) (and (zk cX12_print 140 (.getfield 448) 3) (zk cX12_print 143 (.iconst 1) 1)))) (and (and (and (zk cX12_print 144 (.iadd) 1) (zk cX12_print 145 (.putfield 448) 3)) (and (zk cX12_print 125 (.aload_n 0) 1) (zk cX12_print 126 (.dup) 1))) (and (and (zk cX12_print 127 (.getfield 445) 3) (zk cX12_print 130 (.iconst 1) 1)) (and (zk cX12_print 131 (.iadd) 1) (zk cX12_print 132 (.putfield 445) 3))))) (and (and (and (and (zk cX12_print 135 (.goto 13) 3) (zk cX12_print 65 (.iload_n 2) 1)) (and (zk cX12_print 66 (.ifCond .eq 13) 3) (zk cX12_print 79 (.aload_n 0) 1))) (and (and (zk cX12_print 80 (.getfield 448) 3) (zk cX12_print 69 (.bipush 40) 2)) (and (zk cX12_print 71 (.aload_n 0) 1) (zk cX12_print 72 (.getfield 445) 3)))) (and (and (and (zk cX12_print 75 (.iadd) 1) (zk cX12_print 76 (.goto 7) 3)) (and (zk cX12_print 0 (.aload_n 0) 1) (zk cX12_print 1 (.iconst 0) 1))) (and (and (zk cX12_print 2 (.putfield 151) 3) (zk cX12_print 5 (.aload_n 0) 1)) (and (zk cX12_print 6 (.iload_n 1) 1) (zk cX12_print 7 (.invokevirtual 442) 3)))))) = true := by decide +kernel
theorem dX12_print_117 : decode cX12_print 117 = .ok (.getfield 159, 3) := zk_of (zk_l (zk_l (zk_l (zk_l (zk_l zdX12_print_117)))))
theorem dX12_print_120 : decode cX12_print 120 = .ok (.iastore, 1) := zk_of (zk_r (zk_l (zk_l (zk_l (zk_l zdX12_print_117)))))
theorem dX12_print_121 : decode cX12_print 121 = .ok (.iload_n 2, 1) := zk_of (zk_l (zk_r (zk_l (zk_l (zk_l zdX12_print_117)))))
theorem dX12_print_122 : decode cX12_print 122 = .ok (.ifCond .eq 16, 3) := zk_of (zk_r (zk_r (zk_l (zk_l (zk_l zdX12_print_117)))))
theorem dX12_print_138 : decode cX12_print 138 = .ok (.aload_n 0, 1) := zk_of (zk_l (zk_l (zk_r (zk_l (zk_l zdX12_print_117)))))
theorem dX12_print_139 : decode cX12_print 139 = .ok (.dup, 1) := zk_of (zk_r (zk_l (zk_r (zk_l (zk_l zdX12_print_117)))))
theorem dX12_print_140 : decode cX12_print 140 = .ok (.getfield 448, 3) := zk_of (zk_l (zk_r (zk_r (zk_l (zk_l zdX12_print_117)))))
theorem dX12_print_143 : decode cX12_print 143 = .ok (.iconst 1, 1) := zk_of (zk_r (zk_r (zk_r (zk_l (zk_l zdX12_print_117)))))
theorem dX12_print_144 : decode cX12_print 144 = .ok (.iadd, 1) := zk_of (zk_l (zk_l (zk_l (zk_r (zk_l zdX12_print_117)))))
theorem dX12_print_145 : decode cX12_print 145 = .ok (.putfield 448, 3) := zk_of (zk_r (zk_l (zk_l (zk_r (zk_l zdX12_print_117)))))
theorem dX12_print_125 : decode cX12_print 125 = .ok (.aload_n 0, 1) := zk_of (zk_l (zk_r (zk_l (zk_r (zk_l zdX12_print_117)))))
theorem dX12_print_126 : decode cX12_print 126 = .ok (.dup, 1) := zk_of (zk_r (zk_r (zk_l (zk_r (zk_l zdX12_print_117)))))
theorem dX12_print_127 : decode cX12_print 127 = .ok (.getfield 445, 3) := zk_of (zk_l (zk_l (zk_r (zk_r (zk_l zdX12_print_117)))))
theorem dX12_print_130 : decode cX12_print 130 = .ok (.iconst 1, 1) := zk_of (zk_r (zk_l (zk_r (zk_r (zk_l zdX12_print_117)))))
theorem dX12_print_131 : decode cX12_print 131 = .ok (.iadd, 1) := zk_of (zk_l (zk_r (zk_r (zk_r (zk_l zdX12_print_117)))))
theorem dX12_print_132 : decode cX12_print 132 = .ok (.putfield 445, 3) := zk_of (zk_r (zk_r (zk_r (zk_r (zk_l zdX12_print_117)))))
theorem dX12_print_135 : decode cX12_print 135 = .ok (.goto 13, 3) := zk_of (zk_l (zk_l (zk_l (zk_l (zk_r zdX12_print_117)))))
theorem dX12_print_65 : decode cX12_print 65 = .ok (.iload_n 2, 1) := zk_of (zk_r (zk_l (zk_l (zk_l (zk_r zdX12_print_117)))))
theorem dX12_print_66 : decode cX12_print 66 = .ok (.ifCond .eq 13, 3) := zk_of (zk_l (zk_r (zk_l (zk_l (zk_r zdX12_print_117)))))
theorem dX12_print_79 : decode cX12_print 79 = .ok (.aload_n 0, 1) := zk_of (zk_r (zk_r (zk_l (zk_l (zk_r zdX12_print_117)))))
theorem dX12_print_80 : decode cX12_print 80 = .ok (.getfield 448, 3) := zk_of (zk_l (zk_l (zk_r (zk_l (zk_r zdX12_print_117)))))
theorem dX12_print_69 : decode cX12_print 69 = .ok (.bipush 40, 2) := zk_of (zk_r (zk_l (zk_r (zk_l (zk_r zdX12_print_117)))))
theorem dX12_print_71 : decode cX12_print 71 = .ok (.aload_n 0, 1) := zk_of (zk_l (zk_r (zk_r (zk_l (zk_r zdX12_print_117)))))
theorem dX12_print_72 : decode cX12_print 72 = .ok (.getfield 445, 3) := zk_of (zk_r (zk_r (zk_r (zk_l (zk_r zdX12_print_117)))))
theorem dX12_print_75 : decode cX12_print 75 = .ok (.iadd, 1) := zk_of (zk_l (zk_l (zk_l (zk_r (zk_r zdX12_print_117)))))
theorem dX12_print_76 : decode cX12_print 76 = .ok (.goto 7, 3) := zk_of (zk_r (zk_l (zk_l (zk_r (zk_r zdX12_print_117)))))
theorem dX12_print_0 : decode cX12_print 0 = .ok (.aload_n 0, 1) := zk_of (zk_l (zk_r (zk_l (zk_r (zk_r zdX12_print_117)))))
theorem dX12_print_1 : decode cX12_print 1 = .ok (.iconst 0, 1) := zk_of (zk_r (zk_r (zk_l (zk_r (zk_r zdX12_print_117)))))
theorem dX12_print_2 : decode cX12_print 2 = .ok (.putfield 151, 3) := zk_of (zk_l (zk_l (zk_r (zk_r (zk_r zdX12_print_117)))))
theorem dX12_print_5 : decode cX12_print 5 = .ok (.aload_n 0, 1) := zk_of (zk_r (zk_l (zk_r (zk_r (zk_r zdX12_print_117)))))
theorem dX12_print_6 : decode cX12_print 6 = .ok (.iload_n 1, 1) := zk_of (zk_l (zk_r (zk_r (zk_r (zk_r zdX12_print_117)))))
theorem dX12_print_7 : decode cX12_print 7 = .ok (.invokevirtual 442, 3) := zk_of (zk_r (zk_r (zk_r (zk_r (zk_r zdX12_print_117)))))
set_option maxRecDepth 20000 in
theorem ggX12_print_X12_isHouse : GoodIn wsX12_print wsX12_isHouse := ggi (fun w h => List.mem_cons_of_mem _ (List.mem_append_left _ (List.mem_append_right _ (List.mem_append_left _ h)))) gs_X12_isHouse
set_option maxRecDepth 20000 in
theorem gX12_print_X12_isHouse : GoodIn wsX12_print (wsV RX12 442 RX12 yX12_isHouse wsX12_isHouse) := goodIn_app (goodIn_of _ (by decide +kernel)) ggX12_print_X12_isHouse
theorem zdX12_print_10 : (and (and (and (and (and (zk cX12_print 10 (.ifCond .eq 53) 3) (zk cX12_print 63 (.iconst (-1)) 1)) (zk cX12_print 64 (.ireturn) 1)) (and (and (zk cX12_print 13 (.iload_n 3) 1) (zk cX12_print 14 (.sipush (-400)) 3)) (zk cX12_print 17 (.sipush 400) 3))) (and (and (and (zk cX12_print 20 (.invokestatic 155) 3) (zk cX12_print 23 (.ifCond .eq 40) 3)) (zk cX12_print 26 (.iload 4) 2)) (and (and (zk cX12_print 28 (.iload_n 3) 1) (zk cX12_print 29 (.sipush 400) 3)) (zk cX12_print 32 (.invokestatic 155) 3)))) (and (and (and (and (zk cX12_print 35 (.ifCond .eq 28) 3) (zk cX12_print 38 (.iload_n 2) 1)) (zk cX12_print 39 (.ifCond .eq 15) 3)) (and (and (zk cX12_print 54 (.aload_n 0) 1) (zk cX12_print 55 (.getfield 448) 3)) (zk cX12_print 58 (.bipush 40) 2))) (and (and (and (zk cX12_print 60 (.if_icmp .ne 5) 3) (zk cX12_print 42 (.aload_n 0) 1)) (zk cX12_print 43 (.getfield 445) 3)) (and (and (zk cX12_print 46 (.bipush 20) 2) (zk cX12_print 48 (.if_icmp .ne 17) 3)) (zk cX12_print 51 (.goto 12) 3))))) = true := by decide +kernel
theorem dX12_print_10 : decode cX12_print 10 = .ok (.ifCond .eq 53, 3) := zk_of (zk_l (zk_l (zk_l (zk_l (zk_l zdX12_print_10)))))
theorem dX12_print_63 : decode cX12_print 63 = .ok (.iconst (-1), 1) := zk_of (zk_r (zk_l (zk_l (zk_l (zk_l zdX12_print_10)))))
theorem dX12_print_64 : decode cX12_print 64 = .ok (.ireturn, 1) := zk_of (zk_r (zk_l (zk_l (zk_l zdX12_print_10))))
theorem dX12_print_13 : decode cX12_print 13 = .ok (.iload_n 3, 1) := zk_of (zk_l (zk_l (zk_r (zk_l (zk_l zdX12_print_10)))))
theorem dX12_print_14 : decode cX12_print 14 = .ok (.sipush (-400), 3) := zk_of (zk_r (zk_l (zk_r (zk_l (zk_l zdX12_print_10)))))
theorem dX12_print_17 : decode cX12_print 17 = .ok (.sipush 400, 3) := zk_of (zk_r (zk_r (zk_l (zk_l zdX12_print_10))))
theorem dX12_print_20 : decode cX12_print 20 = .ok (.invokestatic 155, 3) := zk_of (zk_l (zk_l (zk_l (zk_r (zk_l zdX12_print_10)))))
theorem dX12_print_23 : decode cX12_print 23 = .ok (.ifCond .eq 40, 3) := zk_of (zk_r (zk_l (zk_l (zk_r (zk_l zdX12_print_10)))))
theorem dX12_print_26 : decode cX12_print 26 = .ok (.iload 4, 2) := zk_of (zk_r (zk_l (zk_r (zk_l zdX12_print_10))))
theorem dX12_print_28 : decode cX12_print 28 = .ok (.iload_n 3, 1) := zk_of (zk_l (zk_l (zk_r (zk_r (zk_l zdX12_print_10)))))
theorem dX12_print_29 : decode cX12_print 29 = .ok (.sipush 400, 3) := zk_of (zk_r (zk_l (zk_r (zk_r (zk_l zdX12_print_10)))))
theorem dX12_print_32 : decode cX12_print 32 = .ok (.invokestatic 155, 3) := zk_of (zk_r (zk_r (zk_r (zk_l zdX12_print_10))))
theorem dX12_print_35 : decode cX12_print 35 = .ok (.ifCond .eq 28, 3) := zk_of (zk_l (zk_l (zk_l (zk_l (zk_r zdX12_print_10)))))
theorem dX12_print_38 : decode cX12_print 38 = .ok (.iload_n 2, 1) := zk_of (zk_r (zk_l (zk_l (zk_l (zk_r zdX12_print_10)))))
theorem dX12_print_39 : decode cX12_print 39 = .ok (.ifCond .eq 15, 3) := zk_of (zk_r (zk_l (zk_l (zk_r zdX12_print_10))))
theorem dX12_print_54 : decode cX12_print 54 = .ok (.aload_n 0, 1) := zk_of (zk_l (zk_l (zk_r (zk_l (zk_r zdX12_print_10)))))
theorem dX12_print_55 : decode cX12_print 55 = .ok (.getfield 448, 3) := zk_of (zk_r (zk_l (zk_r (zk_l (zk_r zdX12_print_10)))))
theorem dX12_print_58 : decode cX12_print 58 = .ok (.bipush 40, 2) := zk_of (zk_r (zk_r (zk_l (zk_r zdX12_print_10))))
theorem dX12_print_60 : decode cX12_print 60 = .ok (.if_icmp .ne 5, 3) := zk_of (zk_l (zk_l (zk_l (zk_r (zk_r zdX12_print_10)))))
theorem dX12_print_42 : decode cX12_print 42 = .ok (.aload_n 0, 1) := zk_of (zk_r (zk_l (zk_l (zk_r (zk_r zdX12_print_10)))))
theorem dX12_print_43 : decode cX12_print 43 = .ok (.getfield 445, 3) := zk_of (zk_r (zk_l (zk_r (zk_r zdX12_print_10))))
theorem dX12_print_46 : decode cX12_print 46 = .ok (.bipush 20, 2) := zk_of (zk_l (zk_l (zk_r (zk_r (zk_r zdX12_print_10)))))
theorem dX12_print_48 : decode cX12_print 48 = .ok (.if_icmp .ne 17, 3) := zk_of (zk_r (zk_l (zk_r (zk_r (zk_r zdX12_print_10)))))
theorem dX12_print_51 : decode cX12_print 51 = .ok (.goto 12, 3) := zk_of (zk_r (zk_r (zk_r (zk_r zdX12_print_10))))
set_option maxRecDepth 20000 in
theorem ggX12_print_X12_isIn : GoodIn wsX12_print wsX12_isIn := ggi (fun w h => List.mem_cons_of_mem _ (List.mem_append_left _ (List.mem_append_right _ (List.mem_append_right _ h)))) gs_X12_isIn
set_option maxRecDepth 20000 in
theorem gX12_print_X12_isIn : GoodIn wsX12_print (va_wsS RX12 155 yX12_isIn wsX12_isIn) := goodIn_app (goodIn_of _ (by decide +kernel)) ggX12_print_X12_isIn
/-- HissHornModel.print(IZII)I of cell 0 -/
def rmX12_print_0 : Room := { frames := 1, cells := 0, slots := 0, locals := 22 }
theorem hX12_print_0_X12 : ∀ w ∈ u_ws RX12 TX12 69, w ∈ wsX12_print := fun w h => (List.mem_cons_of_mem _ (List.mem_append_right _ h))
theorem mX12_print_0_1 : Cond.fieldLink RX12 151 "HissHornModel" "thrown" "I" ∈ wsX12_print := (List.mem_cons_of_mem _ (List.mem_append_left _ (List.mem_append_left _ (List.mem_of_getElem? (i := 6) rfl))))
theorem mX12_print_0_2 : Cond.fieldLink RX12 448 "HissHornModel" "prints" "I" ∈ wsX12_print := (List.mem_cons_of_mem _ (List.mem_append_left _ (List.mem_append_left _ (List.mem_of_getElem? (i := 7) rfl))))
theorem mX12_print_0_3 : Cond.fieldLink RX12 124 "HissHornModel" "printHouse" "[I" ∈ wsX12_print := (List.mem_cons_of_mem _ (List.mem_append_left _ (List.mem_append_left _ (List.mem_of_getElem? (i := 8) rfl))))
theorem mX12_print_0_4 : Cond.fieldLink RX12 127 "HissHornModel" "printFrom" "[I" ∈ wsX12_print := (List.mem_cons_of_mem _ (List.mem_append_left _ (List.mem_append_left _ (List.mem_of_getElem? (i := 9) rfl))))
theorem mX12_print_0_5 : Cond.fieldLink RX12 130 "HissHornModel" "printTo" "[I" ∈ wsX12_print := (List.mem_cons_of_mem _ (List.mem_append_left _ (List.mem_append_left _ (List.mem_of_getElem? (i := 10) rfl))))
theorem mX12_print_0_6 : Cond.fieldLink RX12 133 "HissHornModel" "printDay" "[I" ∈ wsX12_print := (List.mem_cons_of_mem _ (List.mem_append_left _ (List.mem_append_left _ (List.mem_of_getElem? (i := 11) rfl))))
theorem mX12_print_0_7 : Cond.fieldLink RX12 159 "HissHornModel" "now" "I" ∈ wsX12_print := (List.mem_cons_of_mem _ (List.mem_append_left _ (List.mem_append_left _ (List.mem_of_getElem? (i := 12) rfl))))
theorem mX12_print_0_8 : Cond.fieldLink RX12 445 "HissHornModel" "papers" "I" ∈ wsX12_print := (List.mem_cons_of_mem _ (List.mem_append_left _ (List.mem_append_left _ (List.mem_of_getElem? (i := 13) rfl))))
def GX12_print_0_148 (z2 : Int32) (u : SX) : Option (Int32 × SX) := (if z2 = 0 then (some ((u.1 23) - 1, u)) else (some ((u.1 24) - 1, u)))
def GX12_print_0_83 (z1 : Int32) (z2 : Int32) (z3 : Int32) (z4 : Int32) (y0 : Int32) (u : SX) : Option (Int32 × SX) := (gd (inb y0 60) (lt (sA u 35 (upd (u.2.1 35) y0.toNatClampNeg z1)) fun u13 => (gd (inb y0 60) (lt (sA u13 36 (upd (u13.2.1 36) y0.toNatClampNeg z3)) fun u16 => (gd (inb y0 60) (lt (sA u16 37 (upd (u16.2.1 37) y0.toNatClampNeg z4)) fun u19 => (gd (inb y0 60) (lt (sA u19 38 (upd (u19.2.1 38) y0.toNatClampNeg (u19.1 1))) fun u22 => (if z2 = 0 then (lt (sI u22 23 ((u22.1 23) + 1)) fun u24 => (GX12_print_0_148 z2 u24)) else (lt (sI u22 24 ((u22.1 24) + 1)) fun u26 => (GX12_print_0_148 z2 u26)))))))))))
def GX12_print_0_65 (z1 : Int32) (z2 : Int32) (z3 : Int32) (z4 : Int32) (u : SX) : Option (Int32 × SX) := (if z2 = 0 then (GX12_print_0_83 z1 z2 z3 z4 (u.1 23) u) else (GX12_print_0_83 z1 z2 z3 z4 (40 + (u.1 24)) u))
def fX12_print_0 (x1 : Int32) (x2 : Int32) (x3 : Int32) (x4 : Int32) (u : SX) : Option (Int32 × SX) := (lt (sI u 0 0) fun u1 => ((fX12_isHouse_0 x1 u1).bind fun q => match q with | (r3, u4) => (if r3 = 0 then (some ((-1), u4)) else ((fX12_isIn x3 (-400) 400).bind fun r6 => (if r6 = 0 then (some ((-1), u4)) else ((fX12_isIn x4 x3 400).bind fun r9 => (if r9 = 0 then (some ((-1), u4)) else (if x2 = 0 then (if (u4.1 23) = 40 then (some ((-1), u4)) else (GX12_print_0_65 x1 x2 x3 x4 u4)) else (if (u4.1 24) = 20 then (some ((-1), u4)) else (GX12_print_0_65 x1 x2 x3 x4 u4))))))))))
set_option maxHeartbeats 4000000 in
set_option maxRecDepth 100000 in
theorem wGX12_print_0_148 {p : Program} {l : Launch} {e : Env} {s : State} {m : MethodId} {args : Array Value} {below : List Frame} {meth : Method} {c : Code} {D : va_G} {cy : Nat → ClassId} {ad st : Nat → Nat} (C : Cx RX12 cX12_print 6 (some .int) wsX12_print p s m args meth c) (hK : Ky D [(cy 0, .int), (cy 1, .long), (cy 2, .boolean), (cy 3, .byte), (cy 4, .object "HissHorn$Text")] st s) (hJ : JM ad st) {r : Int32} {u' : SX}   (z2 : Int32) (u : SX) (H : Heap) (locs : List Loc) (ls : Array Slot) (h : GX12_print_0_148 z2 u = some (r, u')) (hP : va_P D vwCl (VM cy ad st u) H) (hS : va_S (Ax (AM ad) s.heap.size) s.heap H locs) (hl : lv_has ls 6 [(0, .ref (ad 0)), (2, .int z2)]) : W p l e rmX12_print_0 s m args below meth c H locs 0 0 (MQ below (Qi D (VM cy ad st) (AM ad) s.heap.size r u') args s 0 0 (Ax (AM ad) s.heap.size)) (F0 m 148 ls []) := by
  unfold GX12_print_0_148 at h
  refine lv_iload_n C.1 C.2.1 dX12_print_148 rfl (lv_at hl 1 rfl) ?_
  refine lv_if_eq (tgt := 161) C.1 C.2.1 dX12_print_149 (by decide) (fun c149 => ?_) (fun c149 => ?_)
  · rw [if_pos c149] at h
    refine lv_aload_n C.1 C.2.1 dX12_print_161 rfl (lv_at hl 0 rfl) ?_
    refine gM_0_prints C hX12_print_0_X12 hK hP mX12_print_0_2 dX12_print_162 ?_
    refine lv_iconst (v := 1) C.1 C.2.1 dX12_print_165 (by decide) ?_
    refine lv_isub C.1 C.2.1 dX12_print_166 ?_
    cases h
    exact rt_i C hP hS dX12_print_167
  · rw [if_neg c149] at h
    refine lv_aload_n C.1 C.2.1 dX12_print_152 rfl (lv_at hl 0 rfl) ?_
    refine gM_0_papers C hX12_print_0_X12 hK hP mX12_print_0_8 dX12_print_153 ?_
    refine lv_iconst (v := 1) C.1 C.2.1 dX12_print_156 (by decide) ?_
    refine lv_isub C.1 C.2.1 dX12_print_157 ?_
    refine lv_goto (tgt := 167) C.1 C.2.1 dX12_print_158 (by decide) ?_
    cases h
    exact rt_i C hP hS dX12_print_167
set_option maxHeartbeats 4000000 in
set_option maxRecDepth 100000 in
theorem wGX12_print_0_83 {p : Program} {l : Launch} {e : Env} {s : State} {m : MethodId} {args : Array Value} {below : List Frame} {meth : Method} {c : Code} {D : va_G} {cy : Nat → ClassId} {ad st : Nat → Nat} (C : Cx RX12 cX12_print 6 (some .int) wsX12_print p s m args meth c) (hK : Ky D [(cy 0, .int), (cy 1, .long), (cy 2, .boolean), (cy 3, .byte), (cy 4, .object "HissHorn$Text")] st s) (hJ : JM ad st) {r : Int32} {u' : SX}   (z1 : Int32) (z2 : Int32) (z3 : Int32) (z4 : Int32) (y0 : Int32) (u : SX) (H : Heap) (locs : List Loc) (ls : Array Slot) (h : GX12_print_0_83 z1 z2 z3 z4 y0 u = some (r, u')) (hP : va_P D vwCl (VM cy ad st u) H) (hS : va_S (Ax (AM ad) s.heap.size) s.heap H locs) (hl : lv_has ls 6 [(0, .ref (ad 0)), (1, .int z1), (2, .int z2), (3, .int z3), (4, .int z4)]) : W p l e rmX12_print_0 s m args below meth c H locs 0 0 (MQ below (Qi D (VM cy ad st) (AM ad) s.heap.size r u') args s 0 0 (Ax (AM ad) s.heap.size)) (F0 m 83 ls [.int y0]) := by
  unfold GX12_print_0_83 at h
  refine lv_istore (lv' := [(5, .int y0), (0, .ref (ad 0)), (1, .int z1), (2, .int z2), (3, .int z3), (4, .int z4)]) C.1 C.2.1 dX12_print_83 hl (by decide) rfl (fun ls hl => ?_)
  replace hl := lv_sub (l' := [(0, .ref (ad 0)), (1, .int z1), (2, .int z2), (3, .int z3), (4, .int z4), (5, .int y0)]) hl [1, 2, 3, 4, 5, 0] rfl
  refine lv_aload_n C.1 C.2.1 dX12_print_85 rfl (lv_at hl 0 rfl) ?_
  refine gM_0_printHouse C hX12_print_0_X12 hK hP mX12_print_0_3 dX12_print_86 ?_
  refine lv_iload C.1 C.2.1 dX12_print_89 (lv_at hl 5 rfl) ?_
  refine lv_iload_n C.1 C.2.1 dX12_print_91 rfl (lv_at hl 1 rfl) ?_
  obtain ⟨hg12, h⟩ := gd_some h
  refine tM_35 C hK hP hJ hS hg12 dX12_print_92 (fun H locs hP hS => ?_)
  obtain ⟨u13, hu14, h⟩ := lt_some h
  rw [← hu14] at hP
  refine lv_aload_n C.1 C.2.1 dX12_print_93 rfl (lv_at hl 0 rfl) ?_
  refine gM_0_printFrom C hX12_print_0_X12 hK hP mX12_print_0_4 dX12_print_94 ?_
  refine lv_iload C.1 C.2.1 dX12_print_97 (lv_at hl 5 rfl) ?_
  refine lv_iload_n C.1 C.2.1 dX12_print_99 rfl (lv_at hl 3 rfl) ?_
  obtain ⟨hg15, h⟩ := gd_some h
  refine tM_36 C hK hP hJ hS hg15 dX12_print_100 (fun H locs hP hS => ?_)
  obtain ⟨u16, hu17, h⟩ := lt_some h
  rw [← hu17] at hP
  refine lv_aload_n C.1 C.2.1 dX12_print_101 rfl (lv_at hl 0 rfl) ?_
  refine gM_0_printTo C hX12_print_0_X12 hK hP mX12_print_0_5 dX12_print_102 ?_
  refine lv_iload C.1 C.2.1 dX12_print_105 (lv_at hl 5 rfl) ?_
  refine lv_iload C.1 C.2.1 dX12_print_107 (lv_at hl 4 rfl) ?_
  obtain ⟨hg18, h⟩ := gd_some h
  refine tM_37 C hK hP hJ hS hg18 dX12_print_109 (fun H locs hP hS => ?_)
  obtain ⟨u19, hu20, h⟩ := lt_some h
  rw [← hu20] at hP
  refine lv_aload_n C.1 C.2.1 dX12_print_110 rfl (lv_at hl 0 rfl) ?_
  refine gM_0_printDay C hX12_print_0_X12 hK hP mX12_print_0_6 dX12_print_111 ?_
  refine lv_iload C.1 C.2.1 dX12_print_114 (lv_at hl 5 rfl) ?_
  refine lv_aload_n C.1 C.2.1 dX12_print_116 rfl (lv_at hl 0 rfl) ?_
  refine gM_0_now C hX12_print_0_X12 hK hP mX12_print_0_7 dX12_print_117 ?_
  obtain ⟨hg21, h⟩ := gd_some h
  refine tM_38 C hK hP hJ hS hg21 dX12_print_120 (fun H locs hP hS => ?_)
  obtain ⟨u22, hu23, h⟩ := lt_some h
  rw [← hu23] at hP
  refine lv_iload_n C.1 C.2.1 dX12_print_121 rfl (lv_at hl 2 rfl) ?_
  refine lv_if_eq (tgt := 138) C.1 C.2.1 dX12_print_122 (by decide) (fun c122 => ?_) (fun c122 => ?_)
  · rw [if_pos c122] at h
    refine lv_aload_n C.1 C.2.1 dX12_print_138 rfl (lv_at hl 0 rfl) ?_
    refine lv_dup C.1 C.2.1 dX12_print_139 rfl ?_
    refine gM_0_prints C hX12_print_0_X12 hK hP mX12_print_0_2 dX12_print_140 ?_
    refine lv_iconst (v := 1) C.1 C.2.1 dX12_print_143 (by decide) ?_
    refine lv_iadd C.1 C.2.1 dX12_print_144 ?_
    refine pM_0_prints C hX12_print_0_X12 hK hP hJ hS mX12_print_0_2 dX12_print_145 (fun H locs hP hS => ?_)
    obtain ⟨u24, hu25, h⟩ := lt_some h
    rw [← hu25] at hP
    exact wGX12_print_0_148 C hK hJ _ _ _ _ _ h hP hS (lv_sub hl [0, 2] rfl)
  · rw [if_neg c122] at h
    refine lv_aload_n C.1 C.2.1 dX12_print_125 rfl (lv_at hl 0 rfl) ?_
    refine lv_dup C.1 C.2.1 dX12_print_126 rfl ?_
    refine gM_0_papers C hX12_print_0_X12 hK hP mX12_print_0_8 dX12_print_127 ?_
    refine lv_iconst (v := 1) C.1 C.2.1 dX12_print_130 (by decide) ?_
    refine lv_iadd C.1 C.2.1 dX12_print_131 ?_
    refine pM_0_papers C hX12_print_0_X12 hK hP hJ hS mX12_print_0_8 dX12_print_132 (fun H locs hP hS => ?_)
    obtain ⟨u26, hu27, h⟩ := lt_some h
    rw [← hu27] at hP
    refine lv_goto (tgt := 148) C.1 C.2.1 dX12_print_135 (by decide) ?_
    exact wGX12_print_0_148 C hK hJ _ _ _ _ _ h hP hS (lv_sub hl [0, 2] rfl)
set_option maxHeartbeats 4000000 in
set_option maxRecDepth 100000 in
theorem wGX12_print_0_65 {p : Program} {l : Launch} {e : Env} {s : State} {m : MethodId} {args : Array Value} {below : List Frame} {meth : Method} {c : Code} {D : va_G} {cy : Nat → ClassId} {ad st : Nat → Nat} (C : Cx RX12 cX12_print 6 (some .int) wsX12_print p s m args meth c) (hK : Ky D [(cy 0, .int), (cy 1, .long), (cy 2, .boolean), (cy 3, .byte), (cy 4, .object "HissHorn$Text")] st s) (hJ : JM ad st) {r : Int32} {u' : SX}   (z1 : Int32) (z2 : Int32) (z3 : Int32) (z4 : Int32) (u : SX) (H : Heap) (locs : List Loc) (ls : Array Slot) (h : GX12_print_0_65 z1 z2 z3 z4 u = some (r, u')) (hP : va_P D vwCl (VM cy ad st u) H) (hS : va_S (Ax (AM ad) s.heap.size) s.heap H locs) (hl : lv_has ls 6 [(0, .ref (ad 0)), (1, .int z1), (2, .int z2), (3, .int z3), (4, .int z4)]) : W p l e rmX12_print_0 s m args below meth c H locs 0 0 (MQ below (Qi D (VM cy ad st) (AM ad) s.heap.size r u') args s 0 0 (Ax (AM ad) s.heap.size)) (F0 m 65 ls []) := by
  unfold GX12_print_0_65 at h
  refine lv_iload_n C.1 C.2.1 dX12_print_65 rfl (lv_at hl 2 rfl) ?_
  refine lv_if_eq (tgt := 79) C.1 C.2.1 dX12_print_66 (by decide) (fun c66 => ?_) (fun c66 => ?_)
  · rw [if_pos c66] at h
    refine lv_aload_n C.1 C.2.1 dX12_print_79 rfl (lv_at hl 0 rfl) ?_
    refine gM_0_prints C hX12_print_0_X12 hK hP mX12_print_0_2 dX12_print_80 ?_
    exact wGX12_print_0_83 C hK hJ _ _ _ _ _ _ _ _ _ h hP hS hl
  · rw [if_neg c66] at h
    refine lv_bipush (v := 40) C.1 C.2.1 dX12_print_69 (by decide) ?_
    refine lv_aload_n C.1 C.2.1 dX12_print_71 rfl (lv_at hl 0 rfl) ?_
    refine gM_0_papers C hX12_print_0_X12 hK hP mX12_print_0_8 dX12_print_72 ?_
    refine lv_iadd C.1 C.2.1 dX12_print_75 ?_
    refine lv_goto (tgt := 83) C.1 C.2.1 dX12_print_76 (by decide) ?_
    exact wGX12_print_0_83 C hK hJ _ _ _ _ _ _ _ _ _ h hP hS hl
set_option maxHeartbeats 4000000 in
set_option maxRecDepth 100000 in
theorem wX12_print_0 {p : Program} {l : Launch} {e : Env} {s : State} {m : MethodId} {args : Array Value} {below : List Frame} {meth : Method} {c : Code} {D : va_G} {cy : Nat → ClassId} {ad st : Nat → Nat} (C : Cx RX12 cX12_print 6 (some .int) wsX12_print p s m args meth c) (hK : Ky D [(cy 0, .int), (cy 1, .long), (cy 2, .boolean), (cy 3, .byte), (cy 4, .object "HissHorn$Text")] st s) (hJ : JM ad st) (x1 : Int32) (x2 : Int32) (x3 : Int32) (x4 : Int32) {u : SX} {r : Int32} {u' : SX} {H : Heap} {locs : List Loc} {ls : Array Slot} (h : fX12_print_0 x1 x2 x3 x4 u = some (r, u')) (hP : va_P D vwCl (VM cy ad st u) H) (hS : va_S (Ax (AM ad) s.heap.size) s.heap H locs) (hl : lv_has ls 6 [(0, .ref (ad 0)), (1, .int x1), (2, .int x2), (3, .int x3), (4, .int x4)]) : W p l e rmX12_print_0 s m args below meth c H locs 0 0 (MQ below (Qi D (VM cy ad st) (AM ad) s.heap.size r u') args s 0 0 (Ax (AM ad) s.heap.size)) (F0 m 0 ls []) := by
  unfold fX12_print_0 at h
  refine lv_aload_n C.1 C.2.1 dX12_print_0 rfl (lv_at hl 0 rfl) ?_
  refine lv_iconst (v := 0) C.1 C.2.1 dX12_print_1 (by decide) ?_
  refine pM_0_thrown C hX12_print_0_X12 hK hP hJ hS mX12_print_0_1 dX12_print_2 (fun H locs hP hS => ?_)
  obtain ⟨u1, hu2, h⟩ := lt_some h
  rw [← hu2] at hP
  refine lv_aload_n C.1 C.2.1 dX12_print_5 rfl (lv_at hl 0 rfl) ?_
  refine lv_iload_n C.1 C.2.1 dX12_print_6 rfl (lv_at hl 1 rfl) ?_
  obtain ⟨⟨r3, u4⟩, hc5, h⟩ := bd_some h
  try dsimp only at h
  refine cg_i (As := [.int x1]) (rest := []) (AM_ge hJ) C hK hP hS (metX12_isHouse_0 l D cy ad st hJ _ x1 hc5) (cwV 1 C.2.2.2.2.2.1 gX12_print_X12_isHouse rfl rfl rfl (by decide +kernel) ⟨(Nat.le_of_ble_eq_true rfl), (Nat.le_of_ble_eq_true rfl)⟩) 0 12 rfl rfl rfl hl.1 rfl (Nat.le_of_ble_eq_true rfl) dX12_print_7 ⟨Nat.zero_le _, Nat.zero_le _⟩ (fun H locs hP hS => ?_)
  refine lv_if_eq (tgt := 63) C.1 C.2.1 dX12_print_10 (by decide) (fun c10 => ?_) (fun c10 => ?_)
  · rw [if_pos c10] at h
    refine lv_iconst (v := (-1)) C.1 C.2.1 dX12_print_63 (by decide) ?_
    cases h
    exact rt_i C hP hS dX12_print_64
  · rw [if_neg c10] at h
    refine lv_iload_n C.1 C.2.1 dX12_print_13 rfl (lv_at hl 3 rfl) ?_
    refine lv_sipush (v := (-400)) C.1 C.2.1 dX12_print_14 (by decide) ?_
    refine lv_sipush (v := 400) C.1 C.2.1 dX12_print_17 (by decide) ?_
    obtain ⟨r6, hc8, h⟩ := bd_some h
    refine cs_i (As := [.int x3, .int (-400), .int 400]) (rest := []) (AM_ge hJ) C hK hP hS (metX12_isIn l D cy st _ x3 (-400) 400 hc8) (va_cwS 3 C.2.2.2.2.2.1 gX12_print_X12_isIn rfl rfl rfl (by decide +kernel) ⟨(Nat.le_of_ble_eq_true rfl), (Nat.le_of_ble_eq_true rfl)⟩) rfl hl.1 rfl (Nat.le_of_ble_eq_true rfl) dX12_print_20 ⟨Nat.zero_le _, Nat.zero_le _⟩ (fun H locs hP hS => ?_)
    refine lv_if_eq (tgt := 63) C.1 C.2.1 dX12_print_23 (by decide) (fun c23 => ?_) (fun c23 => ?_)
    · rw [if_pos c23] at h
      refine lv_iconst (v := (-1)) C.1 C.2.1 dX12_print_63 (by decide) ?_
      cases h
      exact rt_i C hP hS dX12_print_64
    · rw [if_neg c23] at h
      refine lv_iload C.1 C.2.1 dX12_print_26 (lv_at hl 4 rfl) ?_
      refine lv_iload_n C.1 C.2.1 dX12_print_28 rfl (lv_at hl 3 rfl) ?_
      refine lv_sipush (v := 400) C.1 C.2.1 dX12_print_29 (by decide) ?_
      obtain ⟨r9, hc11, h⟩ := bd_some h
      refine cs_i (As := [.int x4, .int x3, .int 400]) (rest := []) (AM_ge hJ) C hK hP hS (metX12_isIn l D cy st _ x4 x3 400 hc11) (va_cwS 3 C.2.2.2.2.2.1 gX12_print_X12_isIn rfl rfl rfl (by decide +kernel) ⟨(Nat.le_of_ble_eq_true rfl), (Nat.le_of_ble_eq_true rfl)⟩) rfl hl.1 rfl (Nat.le_of_ble_eq_true rfl) dX12_print_32 ⟨Nat.zero_le _, Nat.zero_le _⟩ (fun H locs hP hS => ?_)
      refine lv_if_eq (tgt := 63) C.1 C.2.1 dX12_print_35 (by decide) (fun c35 => ?_) (fun c35 => ?_)
      · rw [if_pos c35] at h
        refine lv_iconst (v := (-1)) C.1 C.2.1 dX12_print_63 (by decide) ?_
        cases h
        exact rt_i C hP hS dX12_print_64
      · rw [if_neg c35] at h
        refine lv_iload_n C.1 C.2.1 dX12_print_38 rfl (lv_at hl 2 rfl) ?_
        refine lv_if_eq (tgt := 54) C.1 C.2.1 dX12_print_39 (by decide) (fun c39 => ?_) (fun c39 => ?_)
        · rw [if_pos c39] at h
          refine lv_aload_n C.1 C.2.1 dX12_print_54 rfl (lv_at hl 0 rfl) ?_
          refine gM_0_prints C hX12_print_0_X12 hK hP mX12_print_0_2 dX12_print_55 ?_
          refine lv_bipush (v := 40) C.1 C.2.1 dX12_print_58 (by decide) ?_
          refine lv_icmp_ne (tgt := 65) C.1 C.2.1 dX12_print_60 (by decide) (fun c60 => ?_) (fun c60 => ?_)
          · rw [if_neg c60] at h
            exact wGX12_print_0_65 C hK hJ _ _ _ _ _ _ _ _ h hP hS hl
          · rw [if_pos c60] at h
            refine lv_iconst (v := (-1)) C.1 C.2.1 dX12_print_63 (by decide) ?_
            cases h
            exact rt_i C hP hS dX12_print_64
        · rw [if_neg c39] at h
          refine lv_aload_n C.1 C.2.1 dX12_print_42 rfl (lv_at hl 0 rfl) ?_
          refine gM_0_papers C hX12_print_0_X12 hK hP mX12_print_0_8 dX12_print_43 ?_
          refine lv_bipush (v := 20) C.1 C.2.1 dX12_print_46 (by decide) ?_
          refine lv_icmp_ne (tgt := 65) C.1 C.2.1 dX12_print_48 (by decide) (fun c48 => ?_) (fun c48 => ?_)
          · rw [if_neg c48] at h
            exact wGX12_print_0_65 C hK hJ _ _ _ _ _ _ _ _ h hP hS hl
          · rw [if_pos c48] at h
            refine lv_goto (tgt := 63) C.1 C.2.1 dX12_print_51 (by decide) ?_
            refine lv_iconst (v := (-1)) C.1 C.2.1 dX12_print_63 (by decide) ?_
            cases h
            exact rt_i C hP hS dX12_print_64
theorem metX12_print_0 (l : Launch) (D : va_G) (cy : Nat → ClassId) (ad st : Nat → Nat) (hJ : JM ad st) (sz : Nat) (x1 : Int32) (x2 : Int32) (x3 : Int32) (x4 : Int32) {u : SX} {r : Int32} {u' : SX} (h : fX12_print_0 x1 x2 x3 x4 u = some (r, u')) : Met l yX12_print wsX12_print rmX12_print_0 (va_Pc [.ref (ad 0), .int x1, .int x2, .int x3, .int x4] (Px D [(cy 0, .int), (cy 1, .long), (cy 2, .boolean), (cy 3, .byte), (cy 4, .object "HissHorn$Text")] st (VM cy ad st) sz u)) (Qi D (VM cy ad st) (AM ad) sz r u') 0 0 (Ax (AM ad) sz) := by
  refine Met.ofW (cc := cX12_print) (maxL := 6) (ret := (some .int)) (by decide) rfl ?_
  intro p e s m args below meth c s₁ B hml hv
  obtain ⟨rfl, hsz, hP, hK⟩ := hv
  subst hsz
  have C : Cx RX12 cX12_print 6 (some .int) wsX12_print p s m _ meth c := ⟨B.exec, B.bytes, hml, B.returns, findClass_of_methodNamed B.named, atoms_spec (ws := wsX12_print) B.pre, B.notSynchronized⟩
  have hl := lv_entry ([.ref (ad 0), .int x1, .int x2, .int x3, .int x4]) (n := 6) (Nat.le_of_ble_eq_true rfl)
  rw [lg_entry_eq]
  exact wX12_print_0 C hK hJ x1 x2 x3 x4 h hP va_S.rf hl

theorem zdX12_had_96 : (and (and (and (and (and (zk cX12_had 96 (.iadd) 1) (zk cX12_had 97 (.istore_n 3) 1)) (and (zk cX12_had 98 (.iinc 4 1) 3) (zk cX12_had 101 (.goto (-68)) 3))) (and (and (zk cX12_had 95 (.iconst 0) 1) (zk cX12_had 91 (.iconst 1) 1)) (and (zk cX12_had 92 (.goto 4) 3) (zk cX12_had 33 (.iload 4) 2)))) (and (and (and (zk cX12_had 35 (.aload_n 0) 1) (zk cX12_had 36 (.getfield 448) 3)) (and (zk cX12_had 39 (.if_icmp .ge 65) 3) (zk cX12_had 104 (.iload_n 3) 1))) (and (and (zk cX12_had 105 (.ireturn) 1) (zk cX12_had 42 (.iload_n 3) 1)) (and (zk cX12_had 43 (.aload_n 0) 1) (zk cX12_had 44 (.getfield 133) 3))))) (and (and (and (and (zk cX12_had 47 (.iload 4) 2) (zk cX12_had 49 (.iaload) 1)) (and (zk cX12_had 50 (.iload_n 1) 1) (zk cX12_had 51 (.if_icmp .gt 44) 3))) (and (and (zk cX12_had 54 (.iload_n 2) 1) (zk cX12_had 55 (.ifCond .ne 16) 3)) (and (zk cX12_had 71 (.aload_n 0) 1) (zk cX12_had 72 (.getfield 127) 3)))) (and (and (and (zk cX12_had 75 (.iload 4) 2) (zk cX12_had 77 (.iaload) 1)) (and (zk cX12_had 78 (.ifCond .gt 17) 3) (zk cX12_had 81 (.aload_n 0) 1))) (and (and (zk cX12_had 82 (.getfield 130) 3) (zk cX12_had 85 (.iload 4) 2)) (and (zk cX12_had 87 (.iaload) 1) (zk cX12_had 88 (.ifCond .le 7) 3)))))) = true := by decide +kernel
theorem dX12_had_96 : decode cX12_had 96 = .ok (.iadd, 1) := zk_of (zk_l (zk_l (zk_l (zk_l (zk_l zdX12_had_96)))))
theorem dX12_had_97 : decode cX12_had 97 = .ok (.istore_n 3, 1) := zk_of (zk_r (zk_l (zk_l (zk_l (zk_l zdX12_had_96)))))
theorem dX12_had_98 : decode cX12_had 98 = .ok (.iinc 4 1, 3) := zk_of (zk_l (zk_r (zk_l (zk_l (zk_l zdX12_had_96)))))
theorem dX12_had_101 : decode cX12_had 101 = .ok (.goto (-68), 3) := zk_of (zk_r (zk_r (zk_l (zk_l (zk_l zdX12_had_96)))))
theorem dX12_had_95 : decode cX12_had 95 = .ok (.iconst 0, 1) := zk_of (zk_l (zk_l (zk_r (zk_l (zk_l zdX12_had_96)))))
theorem dX12_had_91 : decode cX12_had 91 = .ok (.iconst 1, 1) := zk_of (zk_r (zk_l (zk_r (zk_l (zk_l zdX12_had_96)))))
theorem dX12_had_92 : decode cX12_had 92 = .ok (.goto 4, 3) := zk_of (zk_l (zk_r (zk_r (zk_l (zk_l zdX12_had_96)))))
theorem dX12_had_33 : decode cX12_had 33 = .ok (.iload 4, 2) := zk_of (zk_r (zk_r (zk_r (zk_l (zk_l zdX12_had_96)))))
theorem dX12_had_35 : decode cX12_had 35 = .ok (.aload_n 0, 1) := zk_of (zk_l (zk_l (zk_l (zk_r (zk_l zdX12_had_96)))))
theorem dX12_had_36 : decode cX12_had 36 = .ok (.getfield 448, 3) := zk_of (zk_r (zk_l (zk_l (zk_r (zk_l zdX12_had_96)))))
theorem dX12_had_39 : decode cX12_had 39 = .ok (.if_icmp .ge 65, 3) := zk_of (zk_l (zk_r (zk_l (zk_r (zk_l zdX12_had_96)))))
theorem dX12_had_104 : decode cX12_had 104 = .ok (.iload_n 3, 1) := zk_of (zk_r (zk_r (zk_l (zk_r (zk_l zdX12_had_96)))))
theorem dX12_had_105 : decode cX12_had 105 = .ok (.ireturn, 1) := zk_of (zk_l (zk_l (zk_r (zk_r (zk_l zdX12_had_96)))))
theorem dX12_had_42 : decode cX12_had 42 = .ok (.iload_n 3, 1) := zk_of (zk_r (zk_l (zk_r (zk_r (zk_l zdX12_had_96)))))
theorem dX12_had_43 : decode cX12_had 43 = .ok (.aload_n 0, 1) := zk_of (zk_l (zk_r (zk_r (zk_r (zk_l zdX12_had_96)))))
theorem dX12_had_44 : decode cX12_had 44 = .ok (.getfield 133, 3) := zk_of (zk_r (zk_r (zk_r (zk_r (zk_l zdX12_had_96)))))
theorem dX12_had_47 : decode cX12_had 47 = .ok (.iload 4, 2) := zk_of (zk_l (zk_l (zk_l (zk_l (zk_r zdX12_had_96)))))
theorem dX12_had_49 : decode cX12_had 49 = .ok (.iaload, 1) := zk_of (zk_r (zk_l (zk_l (zk_l (zk_r zdX12_had_96)))))
theorem dX12_had_50 : decode cX12_had 50 = .ok (.iload_n 1, 1) := zk_of (zk_l (zk_r (zk_l (zk_l (zk_r zdX12_had_96)))))
theorem dX12_had_51 : decode cX12_had 51 = .ok (.if_icmp .gt 44, 3) := zk_of (zk_r (zk_r (zk_l (zk_l (zk_r zdX12_had_96)))))
theorem dX12_had_54 : decode cX12_had 54 = .ok (.iload_n 2, 1) := zk_of (zk_l (zk_l (zk_r (zk_l (zk_r zdX12_had_96)))))
theorem dX12_had_55 : decode cX12_had 55 = .ok (.ifCond .ne 16, 3) := zk_of (zk_r (zk_l (zk_r (zk_l (zk_r zdX12_had_96)))))
theorem dX12_had_71 : decode cX12_had 71 = .ok (.aload_n 0, 1) := zk_of (zk_l (zk_r (zk_r (zk_l (zk_r zdX12_had_96)))))
theorem dX12_had_72 : decode cX12_had 72 = .ok (.getfield 127, 3) := zk_of (zk_r (zk_r (zk_r (zk_l (zk_r zdX12_had_96)))))
theorem dX12_had_75 : decode cX12_had 75 = .ok (.iload 4, 2) := zk_of (zk_l (zk_l (zk_l (zk_r (zk_r zdX12_had_96)))))
theorem dX12_had_77 : decode cX12_had 77 = .ok (.iaload, 1) := zk_of (zk_r (zk_l (zk_l (zk_r (zk_r zdX12_had_96)))))
theorem dX12_had_78 : decode cX12_had 78 = .ok (.ifCond .gt 17, 3) := zk_of (zk_l (zk_r (zk_l (zk_r (zk_r zdX12_had_96)))))
theorem dX12_had_81 : decode cX12_had 81 = .ok (.aload_n 0, 1) := zk_of (zk_r (zk_r (zk_l (zk_r (zk_r zdX12_had_96)))))
theorem dX12_had_82 : decode cX12_had 82 = .ok (.getfield 130, 3) := zk_of (zk_l (zk_l (zk_r (zk_r (zk_r zdX12_had_96)))))
theorem dX12_had_85 : decode cX12_had 85 = .ok (.iload 4, 2) := zk_of (zk_r (zk_l (zk_r (zk_r (zk_r zdX12_had_96)))))
theorem dX12_had_87 : decode cX12_had 87 = .ok (.iaload, 1) := zk_of (zk_l (zk_r (zk_r (zk_r (zk_r zdX12_had_96)))))
theorem dX12_had_88 : decode cX12_had 88 = .ok (.ifCond .le 7, 3) := zk_of (zk_r (zk_r (zk_r (zk_r (zk_r zdX12_had_96)))))
theorem zdX12_had_58 : (and (and (and (and (and (zk cX12_had 58 (.aload_n 0) 1) (zk cX12_had 59 (.getfield 127) 3)) (and (zk cX12_had 62 (.iload 4) 2) (zk cX12_had 64 (.iaload) 1))) (and (and (zk cX12_had 65 (.ifCond .le 30) 3) (zk cX12_had 68 (.goto 23) 3)) (zk cX12_had 0 (.aload_n 0) 1))) (and (and (and (zk cX12_had 1 (.iconst 0) 1) (zk cX12_had 2 (.putfield 151) 3)) (zk cX12_had 5 (.iload_n 1) 1)) (and (and (zk cX12_had 6 (.iconst 0) 1) (zk cX12_had 7 (.aload_n 0) 1)) (zk cX12_had 8 (.getfield 159) 3)))) (and (and (and (and (zk cX12_had 11 (.invokestatic 155) 3) (zk cX12_had 14 (.ifCond .eq 12) 3)) (and (zk cX12_had 26 (.iconst (-1)) 1) (zk cX12_had 27 (.ireturn) 1))) (and (and (zk cX12_had 17 (.iload_n 2) 1) (zk cX12_had 18 (.iconst 0) 1)) (zk cX12_had 19 (.iconst 1) 1))) (and (and (and (zk cX12_had 20 (.invokestatic 155) 3) (zk cX12_had 23 (.ifCond .ne 5) 3)) (zk cX12_had 28 (.iconst 0) 1)) (and (and (zk cX12_had 29 (.istore_n 3) 1) (zk cX12_had 30 (.iconst 0) 1)) (zk cX12_had 31 (.istore 4) 2))))) = true := by decide +kernel
theorem dX12_had_58 : decode cX12_had 58 = .ok (.aload_n 0, 1) := zk_of (zk_l (zk_l (zk_l (zk_l (zk_l zdX12_had_58)))))
theorem dX12_had_59 : decode cX12_had 59 = .ok (.getfield 127, 3) := zk_of (zk_r (zk_l (zk_l (zk_l (zk_l zdX12_had_58)))))
theorem dX12_had_62 : decode cX12_had 62 = .ok (.iload 4, 2) := zk_of (zk_l (zk_r (zk_l (zk_l (zk_l zdX12_had_58)))))
theorem dX12_had_64 : decode cX12_had 64 = .ok (.iaload, 1) := zk_of (zk_r (zk_r (zk_l (zk_l (zk_l zdX12_had_58)))))
theorem dX12_had_65 : decode cX12_had 65 = .ok (.ifCond .le 30, 3) := zk_of (zk_l (zk_l (zk_r (zk_l (zk_l zdX12_had_58)))))
theorem dX12_had_68 : decode cX12_had 68 = .ok (.goto 23, 3) := zk_of (zk_r (zk_l (zk_r (zk_l (zk_l zdX12_had_58)))))
theorem dX12_had_0 : decode cX12_had 0 = .ok (.aload_n 0, 1) := zk_of (zk_r (zk_r (zk_l (zk_l zdX12_had_58))))
theorem dX12_had_1 : decode cX12_had 1 = .ok (.iconst 0, 1) := zk_of (zk_l (zk_l (zk_l (zk_r (zk_l zdX12_had_58)))))
theorem dX12_had_2 : decode cX12_had 2 = .ok (.putfield 151, 3) := zk_of (zk_r (zk_l (zk_l (zk_r (zk_l zdX12_had_58)))))
theorem dX12_had_5 : decode cX12_had 5 = .ok (.iload_n 1, 1) := zk_of (zk_r (zk_l (zk_r (zk_l zdX12_had_58))))
theorem dX12_had_6 : decode cX12_had 6 = .ok (.iconst 0, 1) := zk_of (zk_l (zk_l (zk_r (zk_r (zk_l zdX12_had_58)))))
theorem dX12_had_7 : decode cX12_had 7 = .ok (.aload_n 0, 1) := zk_of (zk_r (zk_l (zk_r (zk_r (zk_l zdX12_had_58)))))
theorem dX12_had_8 : decode cX12_had 8 = .ok (.getfield 159, 3) := zk_of (zk_r (zk_r (zk_r (zk_l zdX12_had_58))))
theorem dX12_had_11 : decode cX12_had 11 = .ok (.invokestatic 155, 3) := zk_of (zk_l (zk_l (zk_l (zk_l (zk_r zdX12_had_58)))))
theorem dX12_had_14 : decode cX12_had 14 = .ok (.ifCond .eq 12, 3) := zk_of (zk_r (zk_l (zk_l (zk_l (zk_r zdX12_had_58)))))
theorem dX12_had_26 : decode cX12_had 26 = .ok (.iconst (-1), 1) := zk_of (zk_l (zk_r (zk_l (zk_l (zk_r zdX12_had_58)))))
theorem dX12_had_27 : decode cX12_had 27 = .ok (.ireturn, 1) := zk_of (zk_r (zk_r (zk_l (zk_l (zk_r zdX12_had_58)))))
theorem dX12_had_17 : decode cX12_had 17 = .ok (.iload_n 2, 1) := zk_of (zk_l (zk_l (zk_r (zk_l (zk_r zdX12_had_58)))))
theorem dX12_had_18 : decode cX12_had 18 = .ok (.iconst 0, 1) := zk_of (zk_r (zk_l (zk_r (zk_l (zk_r zdX12_had_58)))))
theorem dX12_had_19 : decode cX12_had 19 = .ok (.iconst 1, 1) := zk_of (zk_r (zk_r (zk_l (zk_r zdX12_had_58))))
theorem dX12_had_20 : decode cX12_had 20 = .ok (.invokestatic 155, 3) := zk_of (zk_l (zk_l (zk_l (zk_r (zk_r zdX12_had_58)))))
theorem dX12_had_23 : decode cX12_had 23 = .ok (.ifCond .ne 5, 3) := zk_of (zk_r (zk_l (zk_l (zk_r (zk_r zdX12_had_58)))))
theorem dX12_had_28 : decode cX12_had 28 = .ok (.iconst 0, 1) := zk_of (zk_r (zk_l (zk_r (zk_r zdX12_had_58))))
theorem dX12_had_29 : decode cX12_had 29 = .ok (.istore_n 3, 1) := zk_of (zk_l (zk_l (zk_r (zk_r (zk_r zdX12_had_58)))))
theorem dX12_had_30 : decode cX12_had 30 = .ok (.iconst 0, 1) := zk_of (zk_r (zk_l (zk_r (zk_r (zk_r zdX12_had_58)))))
theorem dX12_had_31 : decode cX12_had 31 = .ok (.istore 4, 2) := zk_of (zk_r (zk_r (zk_r (zk_r zdX12_had_58))))
set_option maxRecDepth 20000 in
theorem ggX12_had_X12_isIn : GoodIn wsX12_had wsX12_isIn := ggi (fun w h => List.mem_cons_of_mem _ (List.mem_append_left _ (List.mem_append_right _ h))) gs_X12_isIn
set_option maxRecDepth 20000 in
theorem gX12_had_X12_isIn : GoodIn wsX12_had (va_wsS RX12 155 yX12_isIn wsX12_isIn) := goodIn_app (goodIn_of _ (by decide +kernel)) ggX12_had_X12_isIn
/-- HissHornModel.had(II)I of cell 0 -/
def rmX12_had_0 : Room := { frames := 1, cells := 0, slots := 0, locals := 22 }
theorem hX12_had_0_X12 : ∀ w ∈ u_ws RX12 TX12 69, w ∈ wsX12_had := fun w h => (List.mem_cons_of_mem _ (List.mem_append_right _ h))
theorem mX12_had_0_1 : Cond.fieldLink RX12 151 "HissHornModel" "thrown" "I" ∈ wsX12_had := (List.mem_cons_of_mem _ (List.mem_append_left _ (List.mem_append_left _ (List.mem_of_getElem? (i := 3) rfl))))
theorem mX12_had_0_2 : Cond.fieldLink RX12 159 "HissHornModel" "now" "I" ∈ wsX12_had := (List.mem_cons_of_mem _ (List.mem_append_left _ (List.mem_append_left _ (List.mem_of_getElem? (i := 4) rfl))))
theorem mX12_had_0_3 : Cond.fieldLink RX12 448 "HissHornModel" "prints" "I" ∈ wsX12_had := (List.mem_cons_of_mem _ (List.mem_append_left _ (List.mem_append_left _ (List.mem_of_getElem? (i := 5) rfl))))
theorem mX12_had_0_4 : Cond.fieldLink RX12 133 "HissHornModel" "printDay" "[I" ∈ wsX12_had := (List.mem_cons_of_mem _ (List.mem_append_left _ (List.mem_append_left _ (List.mem_of_getElem? (i := 6) rfl))))
def GX12_had_0_96 (k33 : Int32 → Int32 → Int32 → Int32 → SX → Option (Int32 × SX)) (z1 : Int32) (z2 : Int32) (z4 : Int32) (y0 : Int32) (y1 : Int32) (u : SX) : Option (Int32 × SX) := (lt (y1 + y0) fun v10 => (k33 z1 z2 v10 (z4 + 1) u))
def GX12_had_0_95 (k33 : Int32 → Int32 → Int32 → Int32 → SX → Option (Int32 × SX)) (z1 : Int32) (z2 : Int32) (z4 : Int32) (y0 : Int32) (u : SX) : Option (Int32 × SX) := (GX12_had_0_96 k33 z1 z2 z4 0 y0 u)
theorem mX12_had_0_5 : Cond.fieldLink RX12 127 "HissHornModel" "printFrom" "[I" ∈ wsX12_had := (List.mem_cons_of_mem _ (List.mem_append_left _ (List.mem_append_left _ (List.mem_of_getElem? (i := 7) rfl))))
theorem mX12_had_0_6 : Cond.fieldLink RX12 130 "HissHornModel" "printTo" "[I" ∈ wsX12_had := (List.mem_cons_of_mem _ (List.mem_append_left _ (List.mem_append_left _ (List.mem_of_getElem? (i := 8) rfl))))
def GX12_had_0_91 (k33 : Int32 → Int32 → Int32 → Int32 → SX → Option (Int32 × SX)) (z1 : Int32) (z2 : Int32) (z4 : Int32) (y0 : Int32) (u : SX) : Option (Int32 × SX) := (GX12_had_0_96 k33 z1 z2 z4 1 y0 u)
def LX12_had_0_33  : Nat → Int32 → Int32 → Int32 → Int32 → SX → Option (Int32 × SX)
  | 0, _, _, _, _, _ => none
  | n + 1, z1, z2, z3, z4, u => (if (u.1 23) ≤ z4 then (some (z3, u)) else (gd (inb z4 60) (if z1 < (u.2.1 38 z4.toNatClampNeg) then (GX12_had_0_95 (LX12_had_0_33 n) z1 z2 z4 z3 u) else (if z2 = 0 then (gd (inb z4 60) (if (u.2.1 36 z4.toNatClampNeg) ≤ 0 then (GX12_had_0_95 (LX12_had_0_33 n) z1 z2 z4 z3 u) else (GX12_had_0_91 (LX12_had_0_33 n) z1 z2 z4 z3 u))) else (gd (inb z4 60) (if 0 < (u.2.1 36 z4.toNatClampNeg) then (GX12_had_0_95 (LX12_had_0_33 n) z1 z2 z4 z3 u) else (gd (inb z4 60) (if (u.2.1 37 z4.toNatClampNeg) ≤ 0 then (GX12_had_0_95 (LX12_had_0_33 n) z1 z2 z4 z3 u) else (GX12_had_0_91 (LX12_had_0_33 n) z1 z2 z4 z3 u)))))))))
def fX12_had_0 (x1 : Int32) (x2 : Int32) (u : SX) : Option (Int32 × SX) := (lt (sI u 0 0) fun u1 => ((fX12_isIn x1 0 (u1.1 1)).bind fun r3 => (if r3 = 0 then (some ((-1), u1)) else ((fX12_isIn x2 0 1).bind fun r6 => (if r6 = 0 then (some ((-1), u1)) else (LX12_had_0_33  5000 x1 x2 0 0 u1))))))
set_option maxHeartbeats 4000000 in
set_option maxRecDepth 100000 in
theorem wGX12_had_0_96 {p : Program} {l : Launch} {e : Env} {s : State} {m : MethodId} {args : Array Value} {below : List Frame} {meth : Method} {c : Code} {D : va_G} {cy : Nat → ClassId} {ad st : Nat → Nat} (C : Cx RX12 cX12_had 5 (some .int) wsX12_had p s m args meth c) (hK : Ky D [(cy 0, .int), (cy 1, .long), (cy 2, .boolean), (cy 3, .byte), (cy 4, .object "HissHorn$Text")] st s) (hJ : JM ad st) {r : Int32} {u' : SX} {k33 : Int32 → Int32 → Int32 → Int32 → SX → Option (Int32 × SX)} (hk33 : ∀ (z1 : Int32) (z2 : Int32) (z3 : Int32) (z4 : Int32) (u : SX) (H : Heap) (locs : List Loc) (ls : Array Slot), k33 z1 z2 z3 z4 u = some (r, u') → va_P D vwCl (VM cy ad st u) H → va_S (Ax (AM ad) s.heap.size) s.heap H locs → lv_has ls 5 [(0, .ref (ad 0)), (1, .int z1), (2, .int z2), (3, .int z3), (4, .int z4)] → W p l e rmX12_had_0 s m args below meth c H locs 0 0 (MQ below (Qi D (VM cy ad st) (AM ad) s.heap.size r u') args s 0 0 (Ax (AM ad) s.heap.size)) (F0 m 33 ls [])) (z1 : Int32) (z2 : Int32) (z4 : Int32) (y0 : Int32) (y1 : Int32) (u : SX) (H : Heap) (locs : List Loc) (ls : Array Slot) (h : GX12_had_0_96 k33 z1 z2 z4 y0 y1 u = some (r, u')) (hP : va_P D vwCl (VM cy ad st u) H) (hS : va_S (Ax (AM ad) s.heap.size) s.heap H locs) (hl : lv_has ls 5 [(0, .ref (ad 0)), (1, .int z1), (2, .int z2), (4, .int z4)]) : W p l e rmX12_had_0 s m args below meth c H locs 0 0 (MQ below (Qi D (VM cy ad st) (AM ad) s.heap.size r u') args s 0 0 (Ax (AM ad) s.heap.size)) (F0 m 96 ls [.int y0, .int y1]) := by
  unfold GX12_had_0_96 at h
  refine lv_iadd C.1 C.2.1 dX12_had_96 ?_
  refine lv_topi (fun v10 hv11 => ?_)
  replace h := lt_e hv11 h
  try dsimp only at h
  refine lv_istore_n (lv' := [(3, .int v10), (0, .ref (ad 0)), (1, .int z1), (2, .int z2), (4, .int z4)]) C.1 C.2.1 dX12_had_97 rfl hl (by decide) rfl (fun ls hl => ?_)
  replace hl := lv_sub (l' := [(0, .ref (ad 0)), (1, .int z1), (2, .int z2), (3, .int v10), (4, .int z4)]) hl [1, 2, 3, 0, 4] rfl
  refine lv_iinc (v := z4 + 1) (lv' := [(4, .int (z4 + 1)), (0, .ref (ad 0)), (1, .int z1), (2, .int z2), (3, .int v10)]) C.1 C.2.1 dX12_had_98 hl (k := 4) rfl rfl (by decide) rfl (fun ls hl => ?_)
  replace hl := lv_sub (l' := [(0, .ref (ad 0)), (1, .int z1), (2, .int z2), (3, .int v10), (4, .int (z4 + 1))]) hl [1, 2, 3, 4, 0] rfl
  refine lv_goto (tgt := 33) C.1 C.2.1 dX12_had_101 (by decide) ?_
  exact hk33 _ _ _ _ _ _ _ _ h hP hS hl
set_option maxHeartbeats 4000000 in
set_option maxRecDepth 100000 in
theorem wGX12_had_0_95 {p : Program} {l : Launch} {e : Env} {s : State} {m : MethodId} {args : Array Value} {below : List Frame} {meth : Method} {c : Code} {D : va_G} {cy : Nat → ClassId} {ad st : Nat → Nat} (C : Cx RX12 cX12_had 5 (some .int) wsX12_had p s m args meth c) (hK : Ky D [(cy 0, .int), (cy 1, .long), (cy 2, .boolean), (cy 3, .byte), (cy 4, .object "HissHorn$Text")] st s) (hJ : JM ad st) {r : Int32} {u' : SX} {k33 : Int32 → Int32 → Int32 → Int32 → SX → Option (Int32 × SX)} (hk33 : ∀ (z1 : Int32) (z2 : Int32) (z3 : Int32) (z4 : Int32) (u : SX) (H : Heap) (locs : List Loc) (ls : Array Slot), k33 z1 z2 z3 z4 u = some (r, u') → va_P D vwCl (VM cy ad st u) H → va_S (Ax (AM ad) s.heap.size) s.heap H locs → lv_has ls 5 [(0, .ref (ad 0)), (1, .int z1), (2, .int z2), (3, .int z3), (4, .int z4)] → W p l e rmX12_had_0 s m args below meth c H locs 0 0 (MQ below (Qi D (VM cy ad st) (AM ad) s.heap.size r u') args s 0 0 (Ax (AM ad) s.heap.size)) (F0 m 33 ls [])) (z1 : Int32) (z2 : Int32) (z4 : Int32) (y0 : Int32) (u : SX) (H : Heap) (locs : List Loc) (ls : Array Slot) (h : GX12_had_0_95 k33 z1 z2 z4 y0 u = some (r, u')) (hP : va_P D vwCl (VM cy ad st u) H) (hS : va_S (Ax (AM ad) s.heap.size) s.heap H locs) (hl : lv_has ls 5 [(0, .ref (ad 0)), (1, .int z1), (2, .int z2), (4, .int z4)]) : W p l e rmX12_had_0 s m args below meth c H locs 0 0 (MQ below (Qi D (VM cy ad st) (AM ad) s.heap.size r u') args s 0 0 (Ax (AM ad) s.heap.size)) (F0 m 95 ls [.int y0]) := by
  unfold GX12_had_0_95 at h
  refine lv_iconst (v := 0) C.1 C.2.1 dX12_had_95 (by decide) ?_
  exact wGX12_had_0_96 C hK hJ hk33 _ _ _ _ _ _ _ _ _ h hP hS hl
set_option maxHeartbeats 4000000 in
set_option maxRecDepth 100000 in
theorem wGX12_had_0_91 {p : Program} {l : Launch} {e : Env} {s : State} {m : MethodId} {args : Array Value} {below : List Frame} {meth : Method} {c : Code} {D : va_G} {cy : Nat → ClassId} {ad st : Nat → Nat} (C : Cx RX12 cX12_had 5 (some .int) wsX12_had p s m args meth c) (hK : Ky D [(cy 0, .int), (cy 1, .long), (cy 2, .boolean), (cy 3, .byte), (cy 4, .object "HissHorn$Text")] st s) (hJ : JM ad st) {r : Int32} {u' : SX} {k33 : Int32 → Int32 → Int32 → Int32 → SX → Option (Int32 × SX)} (hk33 : ∀ (z1 : Int32) (z2 : Int32) (z3 : Int32) (z4 : Int32) (u : SX) (H : Heap) (locs : List Loc) (ls : Array Slot), k33 z1 z2 z3 z4 u = some (r, u') → va_P D vwCl (VM cy ad st u) H → va_S (Ax (AM ad) s.heap.size) s.heap H locs → lv_has ls 5 [(0, .ref (ad 0)), (1, .int z1), (2, .int z2), (3, .int z3), (4, .int z4)] → W p l e rmX12_had_0 s m args below meth c H locs 0 0 (MQ below (Qi D (VM cy ad st) (AM ad) s.heap.size r u') args s 0 0 (Ax (AM ad) s.heap.size)) (F0 m 33 ls [])) (z1 : Int32) (z2 : Int32) (z4 : Int32) (y0 : Int32) (u : SX) (H : Heap) (locs : List Loc) (ls : Array Slot) (h : GX12_had_0_91 k33 z1 z2 z4 y0 u = some (r, u')) (hP : va_P D vwCl (VM cy ad st u) H) (hS : va_S (Ax (AM ad) s.heap.size) s.heap H locs) (hl : lv_has ls 5 [(0, .ref (ad 0)), (1, .int z1), (2, .int z2), (4, .int z4)]) : W p l e rmX12_had_0 s m args below meth c H locs 0 0 (MQ below (Qi D (VM cy ad st) (AM ad) s.heap.size r u') args s 0 0 (Ax (AM ad) s.heap.size)) (F0 m 91 ls [.int y0]) := by
  unfold GX12_had_0_91 at h
  refine lv_iconst (v := 1) C.1 C.2.1 dX12_had_91 (by decide) ?_
  refine lv_goto (tgt := 96) C.1 C.2.1 dX12_had_92 (by decide) ?_
  exact wGX12_had_0_96 C hK hJ hk33 _ _ _ _ _ _ _ _ _ h hP hS hl
set_option maxHeartbeats 4000000 in
set_option maxRecDepth 100000 in
theorem wLX12_had_0_33 {p : Program} {l : Launch} {e : Env} {s : State} {m : MethodId} {args : Array Value} {below : List Frame} {meth : Method} {c : Code} {D : va_G} {cy : Nat → ClassId} {ad st : Nat → Nat} (C : Cx RX12 cX12_had 5 (some .int) wsX12_had p s m args meth c) (hK : Ky D [(cy 0, .int), (cy 1, .long), (cy 2, .boolean), (cy 3, .byte), (cy 4, .object "HissHorn$Text")] st s) (hJ : JM ad st) {r : Int32} {u' : SX}   : ∀ (n : Nat) (z1 : Int32) (z2 : Int32) (z3 : Int32) (z4 : Int32) (u : SX) (H : Heap) (locs : List Loc) (ls : Array Slot), LX12_had_0_33  n z1 z2 z3 z4 u = some (r, u') → va_P D vwCl (VM cy ad st u) H → va_S (Ax (AM ad) s.heap.size) s.heap H locs → lv_has ls 5 [(0, .ref (ad 0)), (1, .int z1), (2, .int z2), (3, .int z3), (4, .int z4)] → W p l e rmX12_had_0 s m args below meth c H locs 0 0 (MQ below (Qi D (VM cy ad st) (AM ad) s.heap.size r u') args s 0 0 (Ax (AM ad) s.heap.size)) (F0 m 33 ls []) := by
  intro n
  induction n with
  | zero =>
    intro z1 z2 z3 z4 u H locs ls h
    exact absurd h (by intro q; cases q)
  | succ n ih =>
    intro z1 z2 z3 z4 u H locs ls h hP hS hl
    rw [LX12_had_0_33] at h
    refine lv_iload C.1 C.2.1 dX12_had_33 (lv_at hl 4 rfl) ?_
    refine lv_aload_n C.1 C.2.1 dX12_had_35 rfl (lv_at hl 0 rfl) ?_
    refine gM_0_prints C hX12_had_0_X12 hK hP mX12_had_0_3 dX12_had_36 ?_
    refine lv_icmp_ge (tgt := 104) C.1 C.2.1 dX12_had_39 (by decide) (fun c39 => ?_) (fun c39 => ?_)
    · rw [if_pos c39] at h
      refine lv_iload_n C.1 C.2.1 dX12_had_104 rfl (lv_at hl 3 rfl) ?_
      cases h
      exact rt_i C hP hS dX12_had_105
    · rw [if_neg c39] at h
      refine lv_iload_n C.1 C.2.1 dX12_had_42 rfl (lv_at hl 3 rfl) ?_
      refine lv_aload_n C.1 C.2.1 dX12_had_43 rfl (lv_at hl 0 rfl) ?_
      refine gM_0_printDay C hX12_had_0_X12 hK hP mX12_had_0_4 dX12_had_44 ?_
      refine lv_iload C.1 C.2.1 dX12_had_47 (lv_at hl 4 rfl) ?_
      obtain ⟨hg9, h⟩ := gd_some h
      refine lM_38 C hK hP hg9 dX12_had_49 ?_
      refine lv_iload_n C.1 C.2.1 dX12_had_50 rfl (lv_at hl 1 rfl) ?_
      refine lv_icmp_gt (tgt := 95) C.1 C.2.1 dX12_had_51 (by decide) (fun c51 => ?_) (fun c51 => ?_)
      · rw [if_pos c51] at h
        exact wGX12_had_0_95 C hK hJ ih _ _ _ _ _ _ _ _ h hP hS (lv_sub hl [0, 1, 2, 4] rfl)
      · rw [if_neg c51] at h
        refine lv_iload_n C.1 C.2.1 dX12_had_54 rfl (lv_at hl 2 rfl) ?_
        refine lv_if_ne (tgt := 71) C.1 C.2.1 dX12_had_55 (by decide) (fun c55 => ?_) (fun c55 => ?_)
        · rw [if_neg c55] at h
          refine lv_aload_n C.1 C.2.1 dX12_had_71 rfl (lv_at hl 0 rfl) ?_
          refine gM_0_printFrom C hX12_had_0_X12 hK hP mX12_had_0_5 dX12_had_72 ?_
          refine lv_iload C.1 C.2.1 dX12_had_75 (lv_at hl 4 rfl) ?_
          obtain ⟨hg12, h⟩ := gd_some h
          refine lM_36 C hK hP hg12 dX12_had_77 ?_
          refine lv_if_gt (tgt := 95) C.1 C.2.1 dX12_had_78 (by decide) (fun c78 => ?_) (fun c78 => ?_)
          · rw [if_pos c78] at h
            exact wGX12_had_0_95 C hK hJ ih _ _ _ _ _ _ _ _ h hP hS (lv_sub hl [0, 1, 2, 4] rfl)
          · rw [if_neg c78] at h
            refine lv_aload_n C.1 C.2.1 dX12_had_81 rfl (lv_at hl 0 rfl) ?_
            refine gM_0_printTo C hX12_had_0_X12 hK hP mX12_had_0_6 dX12_had_82 ?_
            refine lv_iload C.1 C.2.1 dX12_had_85 (lv_at hl 4 rfl) ?_
            obtain ⟨hg13, h⟩ := gd_some h
            refine lM_37 C hK hP hg13 dX12_had_87 ?_
            refine lv_if_le (tgt := 95) C.1 C.2.1 dX12_had_88 (by decide) (fun c88 => ?_) (fun c88 => ?_)
            · rw [if_pos c88] at h
              exact wGX12_had_0_95 C hK hJ ih _ _ _ _ _ _ _ _ h hP hS (lv_sub hl [0, 1, 2, 4] rfl)
            · rw [if_neg c88] at h
              exact wGX12_had_0_91 C hK hJ ih _ _ _ _ _ _ _ _ h hP hS (lv_sub hl [0, 1, 2, 4] rfl)
        · rw [if_pos c55] at h
          refine lv_aload_n C.1 C.2.1 dX12_had_58 rfl (lv_at hl 0 rfl) ?_
          refine gM_0_printFrom C hX12_had_0_X12 hK hP mX12_had_0_5 dX12_had_59 ?_
          refine lv_iload C.1 C.2.1 dX12_had_62 (lv_at hl 4 rfl) ?_
          obtain ⟨hg14, h⟩ := gd_some h
          refine lM_36 C hK hP hg14 dX12_had_64 ?_
          refine lv_if_le (tgt := 95) C.1 C.2.1 dX12_had_65 (by decide) (fun c65 => ?_) (fun c65 => ?_)
          · rw [if_pos c65] at h
            exact wGX12_had_0_95 C hK hJ ih _ _ _ _ _ _ _ _ h hP hS (lv_sub hl [0, 1, 2, 4] rfl)
          · rw [if_neg c65] at h
            refine lv_goto (tgt := 91) C.1 C.2.1 dX12_had_68 (by decide) ?_
            exact wGX12_had_0_91 C hK hJ ih _ _ _ _ _ _ _ _ h hP hS (lv_sub hl [0, 1, 2, 4] rfl)
set_option maxHeartbeats 4000000 in
set_option maxRecDepth 100000 in
theorem wX12_had_0 {p : Program} {l : Launch} {e : Env} {s : State} {m : MethodId} {args : Array Value} {below : List Frame} {meth : Method} {c : Code} {D : va_G} {cy : Nat → ClassId} {ad st : Nat → Nat} (C : Cx RX12 cX12_had 5 (some .int) wsX12_had p s m args meth c) (hK : Ky D [(cy 0, .int), (cy 1, .long), (cy 2, .boolean), (cy 3, .byte), (cy 4, .object "HissHorn$Text")] st s) (hJ : JM ad st) (x1 : Int32) (x2 : Int32) {u : SX} {r : Int32} {u' : SX} {H : Heap} {locs : List Loc} {ls : Array Slot} (h : fX12_had_0 x1 x2 u = some (r, u')) (hP : va_P D vwCl (VM cy ad st u) H) (hS : va_S (Ax (AM ad) s.heap.size) s.heap H locs) (hl : lv_has ls 5 [(0, .ref (ad 0)), (1, .int x1), (2, .int x2)]) : W p l e rmX12_had_0 s m args below meth c H locs 0 0 (MQ below (Qi D (VM cy ad st) (AM ad) s.heap.size r u') args s 0 0 (Ax (AM ad) s.heap.size)) (F0 m 0 ls []) := by
  unfold fX12_had_0 at h
  refine lv_aload_n C.1 C.2.1 dX12_had_0 rfl (lv_at hl 0 rfl) ?_
  refine lv_iconst (v := 0) C.1 C.2.1 dX12_had_1 (by decide) ?_
  refine pM_0_thrown C hX12_had_0_X12 hK hP hJ hS mX12_had_0_1 dX12_had_2 (fun H locs hP hS => ?_)
  obtain ⟨u1, hu2, h⟩ := lt_some h
  rw [← hu2] at hP
  refine lv_iload_n C.1 C.2.1 dX12_had_5 rfl (lv_at hl 1 rfl) ?_
  refine lv_iconst (v := 0) C.1 C.2.1 dX12_had_6 (by decide) ?_
  refine lv_aload_n C.1 C.2.1 dX12_had_7 rfl (lv_at hl 0 rfl) ?_
  refine gM_0_now C hX12_had_0_X12 hK hP mX12_had_0_2 dX12_had_8 ?_
  obtain ⟨r3, hc5, h⟩ := bd_some h
  refine cs_i (As := [.int x1, .int 0, .int (u1.1 1)]) (rest := []) (AM_ge hJ) C hK hP hS (metX12_isIn l D cy st _ x1 0 (u1.1 1) hc5) (va_cwS 3 C.2.2.2.2.2.1 gX12_had_X12_isIn rfl rfl rfl (by decide +kernel) ⟨(Nat.le_of_ble_eq_true rfl), (Nat.le_of_ble_eq_true rfl)⟩) rfl hl.1 rfl (Nat.le_of_ble_eq_true rfl) dX12_had_11 ⟨Nat.zero_le _, Nat.zero_le _⟩ (fun H locs hP hS => ?_)
  refine lv_if_eq (tgt := 26) C.1 C.2.1 dX12_had_14 (by decide) (fun c14 => ?_) (fun c14 => ?_)
  · rw [if_pos c14] at h
    refine lv_iconst (v := (-1)) C.1 C.2.1 dX12_had_26 (by decide) ?_
    cases h
    exact rt_i C hP hS dX12_had_27
  · rw [if_neg c14] at h
    refine lv_iload_n C.1 C.2.1 dX12_had_17 rfl (lv_at hl 2 rfl) ?_
    refine lv_iconst (v := 0) C.1 C.2.1 dX12_had_18 (by decide) ?_
    refine lv_iconst (v := 1) C.1 C.2.1 dX12_had_19 (by decide) ?_
    obtain ⟨r6, hc8, h⟩ := bd_some h
    refine cs_i (As := [.int x2, .int 0, .int 1]) (rest := []) (AM_ge hJ) C hK hP hS (metX12_isIn l D cy st _ x2 0 1 hc8) (va_cwS 3 C.2.2.2.2.2.1 gX12_had_X12_isIn rfl rfl rfl (by decide +kernel) ⟨(Nat.le_of_ble_eq_true rfl), (Nat.le_of_ble_eq_true rfl)⟩) rfl hl.1 rfl (Nat.le_of_ble_eq_true rfl) dX12_had_20 ⟨Nat.zero_le _, Nat.zero_le _⟩ (fun H locs hP hS => ?_)
    refine lv_if_ne (tgt := 28) C.1 C.2.1 dX12_had_23 (by decide) (fun c23 => ?_) (fun c23 => ?_)
    · rw [if_neg c23] at h
      refine lv_iconst (v := 0) C.1 C.2.1 dX12_had_28 (by decide) ?_
      refine lv_istore_n (lv' := [(3, .int 0), (0, .ref (ad 0)), (1, .int x1), (2, .int x2)]) C.1 C.2.1 dX12_had_29 rfl hl (by decide) rfl (fun ls hl => ?_)
      replace hl := lv_sub (l' := [(0, .ref (ad 0)), (1, .int x1), (2, .int x2), (3, .int 0)]) hl [1, 2, 3, 0] rfl
      refine lv_iconst (v := 0) C.1 C.2.1 dX12_had_30 (by decide) ?_
      refine lv_istore (lv' := [(4, .int 0), (0, .ref (ad 0)), (1, .int x1), (2, .int x2), (3, .int 0)]) C.1 C.2.1 dX12_had_31 hl (by decide) rfl (fun ls hl => ?_)
      replace hl := lv_sub (l' := [(0, .ref (ad 0)), (1, .int x1), (2, .int x2), (3, .int 0), (4, .int 0)]) hl [1, 2, 3, 4, 0] rfl
      exact wLX12_had_0_33 C hK hJ  5000 _ _ _ _ _ _ _ _ h hP hS hl
    · rw [if_pos c23] at h
      refine lv_iconst (v := (-1)) C.1 C.2.1 dX12_had_26 (by decide) ?_
      cases h
      exact rt_i C hP hS dX12_had_27
theorem metX12_had_0 (l : Launch) (D : va_G) (cy : Nat → ClassId) (ad st : Nat → Nat) (hJ : JM ad st) (sz : Nat) (x1 : Int32) (x2 : Int32) {u : SX} {r : Int32} {u' : SX} (h : fX12_had_0 x1 x2 u = some (r, u')) : Met l yX12_had wsX12_had rmX12_had_0 (va_Pc [.ref (ad 0), .int x1, .int x2] (Px D [(cy 0, .int), (cy 1, .long), (cy 2, .boolean), (cy 3, .byte), (cy 4, .object "HissHorn$Text")] st (VM cy ad st) sz u)) (Qi D (VM cy ad st) (AM ad) sz r u') 0 0 (Ax (AM ad) sz) := by
  refine Met.ofW (cc := cX12_had) (maxL := 5) (ret := (some .int)) (by decide) rfl ?_
  intro p e s m args below meth c s₁ B hml hv
  obtain ⟨rfl, hsz, hP, hK⟩ := hv
  subst hsz
  have C : Cx RX12 cX12_had 5 (some .int) wsX12_had p s m _ meth c := ⟨B.exec, B.bytes, hml, B.returns, findClass_of_methodNamed B.named, atoms_spec (ws := wsX12_had) B.pre, B.notSynchronized⟩
  have hl := lv_entry ([.ref (ad 0), .int x1, .int x2]) (n := 5) (Nat.le_of_ble_eq_true rfl)
  rw [lg_entry_eq]
  exact wX12_had_0 C hK hJ x1 x2 h hP va_S.rf hl

theorem zdX12_letter_0 : (and (and (and (and (and (zk cX12_letter 0 (.aload_n 0) 1) (zk cX12_letter 1 (.iconst 0) 1)) (and (zk cX12_letter 2 (.putfield 151) 3) (zk cX12_letter 5 (.aload_n 0) 1))) (and (and (zk cX12_letter 6 (.getfield 451) 3) (zk cX12_letter 9 (.bipush 60) 2)) (and (zk cX12_letter 11 (.if_icmp .eq 24) 3) (zk cX12_letter 35 (.iconst 0) 1)))) (and (and (and (zk cX12_letter 36 (.ireturn) 1) (zk cX12_letter 14 (.aload_n 0) 1)) (and (zk cX12_letter 15 (.iload_n 1) 1) (zk cX12_letter 16 (.invokevirtual 442) 3))) (and (and (zk cX12_letter 19 (.ifCond .eq 16) 3) (zk cX12_letter 22 (.aload_n 0) 1)) (and (zk cX12_letter 23 (.iload_n 2) 1) (zk cX12_letter 24 (.invokevirtual 442) 3))))) (and (and (and (and (zk cX12_letter 27 (.ifCond .eq 8) 3) (zk cX12_letter 30 (.iload_n 1) 1)) (and (zk cX12_letter 31 (.iload_n 2) 1) (zk cX12_letter 32 (.if_icmp .ne 5) 3))) (and (and (zk cX12_letter 37 (.aload_n 0) 1) (zk cX12_letter 38 (.getfield 136) 3)) (and (zk cX12_letter 41 (.aload_n 0) 1) (zk cX12_letter 42 (.getfield 451) 3)))) (and (and (and (zk cX12_letter 45 (.iload_n 1) 1) (zk cX12_letter 46 (.iastore) 1)) (and (zk cX12_letter 47 (.aload_n 0) 1) (zk cX12_letter 48 (.getfield 139) 3))) (and (and (zk cX12_letter 51 (.aload_n 0) 1) (zk cX12_letter 52 (.getfield 451) 3)) (and (zk cX12_letter 55 (.iload_n 2) 1) (zk cX12_letter 56 (.iastore) 1)))))) = true := by decide +kernel
theorem dX12_letter_0 : decode cX12_letter 0 = .ok (.aload_n 0, 1) := zk_of (zk_l (zk_l (zk_l (zk_l (zk_l zdX12_letter_0)))))
theorem dX12_letter_1 : decode cX12_letter 1 = .ok (.iconst 0, 1) := zk_of (zk_r (zk_l (zk_l (zk_l (zk_l zdX12_letter_0)))))
theorem dX12_letter_2 : decode cX12_letter 2 = .ok (.putfield 151, 3) := zk_of (zk_l (zk_r (zk_l (zk_l (zk_l zdX12_letter_0)))))
theorem dX12_letter_5 : decode cX12_letter 5 = .ok (.aload_n 0, 1) := zk_of (zk_r (zk_r (zk_l (zk_l (zk_l zdX12_letter_0)))))
theorem dX12_letter_6 : decode cX12_letter 6 = .ok (.getfield 451, 3) := zk_of (zk_l (zk_l (zk_r (zk_l (zk_l zdX12_letter_0)))))
theorem dX12_letter_9 : decode cX12_letter 9 = .ok (.bipush 60, 2) := zk_of (zk_r (zk_l (zk_r (zk_l (zk_l zdX12_letter_0)))))
theorem dX12_letter_11 : decode cX12_letter 11 = .ok (.if_icmp .eq 24, 3) := zk_of (zk_l (zk_r (zk_r (zk_l (zk_l zdX12_letter_0)))))
theorem dX12_letter_35 : decode cX12_letter 35 = .ok (.iconst 0, 1) := zk_of (zk_r (zk_r (zk_r (zk_l (zk_l zdX12_letter_0)))))
theorem dX12_letter_36 : decode cX12_letter 36 = .ok (.ireturn, 1) := zk_of (zk_l (zk_l (zk_l (zk_r (zk_l zdX12_letter_0)))))
theorem dX12_letter_14 : decode cX12_letter 14 = .ok (.aload_n 0, 1) := zk_of (zk_r (zk_l (zk_l (zk_r (zk_l zdX12_letter_0)))))
theorem dX12_letter_15 : decode cX12_letter 15 = .ok (.iload_n 1, 1) := zk_of (zk_l (zk_r (zk_l (zk_r (zk_l zdX12_letter_0)))))
theorem dX12_letter_16 : decode cX12_letter 16 = .ok (.invokevirtual 442, 3) := zk_of (zk_r (zk_r (zk_l (zk_r (zk_l zdX12_letter_0)))))
theorem dX12_letter_19 : decode cX12_letter 19 = .ok (.ifCond .eq 16, 3) := zk_of (zk_l (zk_l (zk_r (zk_r (zk_l zdX12_letter_0)))))
theorem dX12_letter_22 : decode cX12_letter 22 = .ok (.aload_n 0, 1) := zk_of (zk_r (zk_l (zk_r (zk_r (zk_l zdX12_letter_0)))))
theorem dX12_letter_23 : decode cX12_letter 23 = .ok (.iload_n 2, 1) := zk_of (zk_l (zk_r (zk_r (zk_r (zk_l zdX12_letter_0)))))
theorem dX12_letter_24 : decode cX12_letter 24 = .ok (.invokevirtual 442, 3) := zk_of (zk_r (zk_r (zk_r (zk_r (zk_l zdX12_letter_0)))))
theorem dX12_letter_27 : decode cX12_letter 27 = .ok (.ifCond .eq 8, 3) := zk_of (zk_l (zk_l (zk_l (zk_l (zk_r zdX12_letter_0)))))
theorem dX12_letter_30 : decode cX12_letter 30 = .ok (.iload_n 1, 1) := zk_of (zk_r (zk_l (zk_l (zk_l (zk_r zdX12_letter_0)))))
theorem dX12_letter_31 : decode cX12_letter 31 = .ok (.iload_n 2, 1) := zk_of (zk_l (zk_r (zk_l (zk_l (zk_r zdX12_letter_0)))))
theorem dX12_letter_32 : decode cX12_letter 32 = .ok (.if_icmp .ne 5, 3) := zk_of (zk_r (zk_r (zk_l (zk_l (zk_r zdX12_letter_0)))))
theorem dX12_letter_37 : decode cX12_letter 37 = .ok (.aload_n 0, 1) := zk_of (zk_l (zk_l (zk_r (zk_l (zk_r zdX12_letter_0)))))
theorem dX12_letter_38 : decode cX12_letter 38 = .ok (.getfield 136, 3) := zk_of (zk_r (zk_l (zk_r (zk_l (zk_r zdX12_letter_0)))))
theorem dX12_letter_41 : decode cX12_letter 41 = .ok (.aload_n 0, 1) := zk_of (zk_l (zk_r (zk_r (zk_l (zk_r zdX12_letter_0)))))
theorem dX12_letter_42 : decode cX12_letter 42 = .ok (.getfield 451, 3) := zk_of (zk_r (zk_r (zk_r (zk_l (zk_r zdX12_letter_0)))))
theorem dX12_letter_45 : decode cX12_letter 45 = .ok (.iload_n 1, 1) := zk_of (zk_l (zk_l (zk_l (zk_r (zk_r zdX12_letter_0)))))
theorem dX12_letter_46 : decode cX12_letter 46 = .ok (.iastore, 1) := zk_of (zk_r (zk_l (zk_l (zk_r (zk_r zdX12_letter_0)))))
theorem dX12_letter_47 : decode cX12_letter 47 = .ok (.aload_n 0, 1) := zk_of (zk_l (zk_r (zk_l (zk_r (zk_r zdX12_letter_0)))))
theorem dX12_letter_48 : decode cX12_letter 48 = .ok (.getfield 139, 3) := zk_of (zk_r (zk_r (zk_l (zk_r (zk_r zdX12_letter_0)))))
theorem dX12_letter_51 : decode cX12_letter 51 = .ok (.aload_n 0, 1) := zk_of (zk_l (zk_l (zk_r (zk_r (zk_r zdX12_letter_0)))))
theorem dX12_letter_52 : decode cX12_letter 52 = .ok (.getfield 451, 3) := zk_of (zk_r (zk_l (zk_r (zk_r (zk_r zdX12_letter_0)))))
theorem dX12_letter_55 : decode cX12_letter 55 = .ok (.iload_n 2, 1) := zk_of (zk_l (zk_r (zk_r (zk_r (zk_r zdX12_letter_0)))))
theorem dX12_letter_56 : decode cX12_letter 56 = .ok (.iastore, 1) := zk_of (zk_r (zk_r (zk_r (zk_r (zk_r zdX12_letter_0)))))
set_option maxRecDepth 20000 in
theorem ggX12_letter_X12_isHouse : GoodIn wsX12_letter wsX12_isHouse := ggi (fun w h => List.mem_cons_of_mem _ (List.mem_append_left _ (List.mem_append_right _ h))) gs_X12_isHouse
set_option maxRecDepth 20000 in
theorem gX12_letter_X12_isHouse : GoodIn wsX12_letter (wsV RX12 442 RX12 yX12_isHouse wsX12_isHouse) := goodIn_app (goodIn_of _ (by decide +kernel)) ggX12_letter_X12_isHouse
theorem zdX12_letter_57 : (and (and (and (and (zk cX12_letter 57 (.aload_n 0) 1) (zk cX12_letter 58 (.getfield 142) 3)) (and (zk cX12_letter 61 (.aload_n 0) 1) (zk cX12_letter 62 (.getfield 451) 3))) (and (and (zk cX12_letter 65 (.aload_n 0) 1) (zk cX12_letter 66 (.getfield 159) 3)) (and (zk cX12_letter 69 (.iastore) 1) (zk cX12_letter 70 (.aload_n 0) 1)))) (and (and (and (zk cX12_letter 71 (.dup) 1) (zk cX12_letter 72 (.getfield 451) 3)) (and (zk cX12_letter 75 (.iconst 1) 1) (zk cX12_letter 76 (.iadd) 1))) (and (and (zk cX12_letter 77 (.putfield 451) 3) (zk cX12_letter 80 (.iconst 1) 1)) (zk cX12_letter 81 (.ireturn) 1)))) = true := by decide +kernel
theorem dX12_letter_57 : decode cX12_letter 57 = .ok (.aload_n 0, 1) := zk_of (zk_l (zk_l (zk_l (zk_l zdX12_letter_57))))
theorem dX12_letter_58 : decode cX12_letter 58 = .ok (.getfield 142, 3) := zk_of (zk_r (zk_l (zk_l (zk_l zdX12_letter_57))))
theorem dX12_letter_61 : decode cX12_letter 61 = .ok (.aload_n 0, 1) := zk_of (zk_l (zk_r (zk_l (zk_l zdX12_letter_57))))
theorem dX12_letter_62 : decode cX12_letter 62 = .ok (.getfield 451, 3) := zk_of (zk_r (zk_r (zk_l (zk_l zdX12_letter_57))))
theorem dX12_letter_65 : decode cX12_letter 65 = .ok (.aload_n 0, 1) := zk_of (zk_l (zk_l (zk_r (zk_l zdX12_letter_57))))
theorem dX12_letter_66 : decode cX12_letter 66 = .ok (.getfield 159, 3) := zk_of (zk_r (zk_l (zk_r (zk_l zdX12_letter_57))))
theorem dX12_letter_69 : decode cX12_letter 69 = .ok (.iastore, 1) := zk_of (zk_l (zk_r (zk_r (zk_l zdX12_letter_57))))
theorem dX12_letter_70 : decode cX12_letter 70 = .ok (.aload_n 0, 1) := zk_of (zk_r (zk_r (zk_r (zk_l zdX12_letter_57))))
theorem dX12_letter_71 : decode cX12_letter 71 = .ok (.dup, 1) := zk_of (zk_l (zk_l (zk_l (zk_r zdX12_letter_57))))
theorem dX12_letter_72 : decode cX12_letter 72 = .ok (.getfield 451, 3) := zk_of (zk_r (zk_l (zk_l (zk_r zdX12_letter_57))))
theorem dX12_letter_75 : decode cX12_letter 75 = .ok (.iconst 1, 1) := zk_of (zk_l (zk_r (zk_l (zk_r zdX12_letter_57))))
theorem dX12_letter_76 : decode cX12_letter 76 = .ok (.iadd, 1) := zk_of (zk_r (zk_r (zk_l (zk_r zdX12_letter_57))))
theorem dX12_letter_77 : decode cX12_letter 77 = .ok (.putfield 451, 3) := zk_of (zk_l (zk_l (zk_r (zk_r zdX12_letter_57))))
theorem dX12_letter_80 : decode cX12_letter 80 = .ok (.iconst 1, 1) := zk_of (zk_r (zk_l (zk_r (zk_r zdX12_letter_57))))
theorem dX12_letter_81 : decode cX12_letter 81 = .ok (.ireturn, 1) := zk_of (zk_r (zk_r (zk_r zdX12_letter_57)))
/-- HissHornModel.letter(II)Z of cell 0 -/
def rmX12_letter_0 : Room := { frames := 1, cells := 0, slots := 0, locals := 21 }
theorem hX12_letter_0_X12 : ∀ w ∈ u_ws RX12 TX12 69, w ∈ wsX12_letter := fun w h => (List.mem_cons_of_mem _ (List.mem_append_right _ h))
theorem mX12_letter_0_1 : Cond.fieldLink RX12 151 "HissHornModel" "thrown" "I" ∈ wsX12_letter := (List.mem_cons_of_mem _ (List.mem_append_left _ (List.mem_append_left _ (List.mem_of_getElem? (i := 4) rfl))))
theorem mX12_letter_0_2 : Cond.fieldLink RX12 451 "HissHornModel" "letterMany" "I" ∈ wsX12_letter := (List.mem_cons_of_mem _ (List.mem_append_left _ (List.mem_append_left _ (List.mem_of_getElem? (i := 5) rfl))))
theorem mX12_letter_0_3 : Cond.fieldLink RX12 136 "HissHornModel" "letterFrom" "[I" ∈ wsX12_letter := (List.mem_cons_of_mem _ (List.mem_append_left _ (List.mem_append_left _ (List.mem_of_getElem? (i := 6) rfl))))
theorem mX12_letter_0_4 : Cond.fieldLink RX12 139 "HissHornModel" "letterTo" "[I" ∈ wsX12_letter := (List.mem_cons_of_mem _ (List.mem_append_left _ (List.mem_append_left _ (List.mem_of_getElem? (i := 7) rfl))))
theorem mX12_letter_0_5 : Cond.fieldLink RX12 142 "HissHornModel" "letterDay" "[I" ∈ wsX12_letter := (List.mem_cons_of_mem _ (List.mem_append_left _ (List.mem_append_left _ (List.mem_of_getElem? (i := 8) rfl))))
theorem mX12_letter_0_6 : Cond.fieldLink RX12 159 "HissHornModel" "now" "I" ∈ wsX12_letter := (List.mem_cons_of_mem _ (List.mem_append_left _ (List.mem_append_left _ (List.mem_of_getElem? (i := 9) rfl))))
def fX12_letter_0 (x1 : Int32) (x2 : Int32) (u : SX) : Option (Int32 × SX) := (lt (sI u 0 0) fun u1 => (if (u1.1 25) = 60 then (gd (isB 0) (some (0, u1))) else ((fX12_isHouse_0 x1 u1).bind fun q => match q with | (r4, u5) => (if r4 = 0 then (gd (isB 0) (some (0, u5))) else ((fX12_isHouse_0 x2 u5).bind fun q => match q with | (r8, u9) => (if r8 = 0 then (gd (isB 0) (some (0, u9))) else (if x1 = x2 then (gd (isB 0) (some (0, u9))) else (gd (inb (u9.1 25) 61) (lt (sA u9 39 (upd (u9.2.1 39) (u9.1 25).toNatClampNeg x1)) fun u13 => (gd (inb (u13.1 25) 61) (lt (sA u13 40 (upd (u13.2.1 40) (u13.1 25).toNatClampNeg x2)) fun u16 => (gd (inb (u16.1 25) 61) (lt (sA u16 41 (upd (u16.2.1 41) (u16.1 25).toNatClampNeg (u16.1 1))) fun u19 => (lt (sI u19 25 ((u19.1 25) + 1)) fun u21 => (gd (isB 1) (some (1, u21)))))))))))))))))
set_option maxHeartbeats 4000000 in
set_option maxRecDepth 100000 in
theorem wX12_letter_0 {p : Program} {l : Launch} {e : Env} {s : State} {m : MethodId} {args : Array Value} {below : List Frame} {meth : Method} {c : Code} {D : va_G} {cy : Nat → ClassId} {ad st : Nat → Nat} (C : Cx RX12 cX12_letter 3 (some .boolean) wsX12_letter p s m args meth c) (hK : Ky D [(cy 0, .int), (cy 1, .long), (cy 2, .boolean), (cy 3, .byte), (cy 4, .object "HissHorn$Text")] st s) (hJ : JM ad st) (x1 : Int32) (x2 : Int32) {u : SX} {r : Int32} {u' : SX} {H : Heap} {locs : List Loc} {ls : Array Slot} (h : fX12_letter_0 x1 x2 u = some (r, u')) (hP : va_P D vwCl (VM cy ad st u) H) (hS : va_S (Ax (AM ad) s.heap.size) s.heap H locs) (hl : lv_has ls 3 [(0, .ref (ad 0)), (1, .int x1), (2, .int x2)]) : W p l e rmX12_letter_0 s m args below meth c H locs 0 0 (MQ below (Qi D (VM cy ad st) (AM ad) s.heap.size r u') args s 0 0 (Ax (AM ad) s.heap.size)) (F0 m 0 ls []) := by
  unfold fX12_letter_0 at h
  refine lv_aload_n C.1 C.2.1 dX12_letter_0 rfl (lv_at hl 0 rfl) ?_
  refine lv_iconst (v := 0) C.1 C.2.1 dX12_letter_1 (by decide) ?_
  refine pM_0_thrown C hX12_letter_0_X12 hK hP hJ hS mX12_letter_0_1 dX12_letter_2 (fun H locs hP hS => ?_)
  obtain ⟨u1, hu2, h⟩ := lt_some h
  rw [← hu2] at hP
  refine lv_aload_n C.1 C.2.1 dX12_letter_5 rfl (lv_at hl 0 rfl) ?_
  refine gM_0_letterMany C hX12_letter_0_X12 hK hP mX12_letter_0_2 dX12_letter_6 ?_
  refine lv_bipush (v := 60) C.1 C.2.1 dX12_letter_9 (by decide) ?_
  refine lv_icmp_eq (tgt := 35) C.1 C.2.1 dX12_letter_11 (by decide) (fun c11 => ?_) (fun c11 => ?_)
  · rw [if_pos c11] at h
    refine lv_iconst (v := 0) C.1 C.2.1 dX12_letter_35 (by decide) ?_
    obtain ⟨hg3, h⟩ := gd_some h
    cases h
    exact rt_z hg3 C hP hS dX12_letter_36
  · rw [if_neg c11] at h
    refine lv_aload_n C.1 C.2.1 dX12_letter_14 rfl (lv_at hl 0 rfl) ?_
    refine lv_iload_n C.1 C.2.1 dX12_letter_15 rfl (lv_at hl 1 rfl) ?_
    obtain ⟨⟨r4, u5⟩, hc6, h⟩ := bd_some h
    try dsimp only at h
    refine cg_i (As := [.int x1]) (rest := []) (AM_ge hJ) C hK hP hS (metX12_isHouse_0 l D cy ad st hJ _ x1 hc6) (cwV 1 C.2.2.2.2.2.1 gX12_letter_X12_isHouse rfl rfl rfl (by decide +kernel) ⟨(Nat.le_of_ble_eq_true rfl), (Nat.le_of_ble_eq_true rfl)⟩) 0 12 rfl rfl rfl hl.1 rfl (Nat.le_of_ble_eq_true rfl) dX12_letter_16 ⟨Nat.zero_le _, Nat.zero_le _⟩ (fun H locs hP hS => ?_)
    refine lv_if_eq (tgt := 35) C.1 C.2.1 dX12_letter_19 (by decide) (fun c19 => ?_) (fun c19 => ?_)
    · rw [if_pos c19] at h
      refine lv_iconst (v := 0) C.1 C.2.1 dX12_letter_35 (by decide) ?_
      obtain ⟨hg7, h⟩ := gd_some h
      cases h
      exact rt_z hg7 C hP hS dX12_letter_36
    · rw [if_neg c19] at h
      refine lv_aload_n C.1 C.2.1 dX12_letter_22 rfl (lv_at hl 0 rfl) ?_
      refine lv_iload_n C.1 C.2.1 dX12_letter_23 rfl (lv_at hl 2 rfl) ?_
      obtain ⟨⟨r8, u9⟩, hc10, h⟩ := bd_some h
      try dsimp only at h
      refine cg_i (As := [.int x2]) (rest := []) (AM_ge hJ) C hK hP hS (metX12_isHouse_0 l D cy ad st hJ _ x2 hc10) (cwV 1 C.2.2.2.2.2.1 gX12_letter_X12_isHouse rfl rfl rfl (by decide +kernel) ⟨(Nat.le_of_ble_eq_true rfl), (Nat.le_of_ble_eq_true rfl)⟩) 0 12 rfl rfl rfl hl.1 rfl (Nat.le_of_ble_eq_true rfl) dX12_letter_24 ⟨Nat.zero_le _, Nat.zero_le _⟩ (fun H locs hP hS => ?_)
      refine lv_if_eq (tgt := 35) C.1 C.2.1 dX12_letter_27 (by decide) (fun c27 => ?_) (fun c27 => ?_)
      · rw [if_pos c27] at h
        refine lv_iconst (v := 0) C.1 C.2.1 dX12_letter_35 (by decide) ?_
        obtain ⟨hg11, h⟩ := gd_some h
        cases h
        exact rt_z hg11 C hP hS dX12_letter_36
      · rw [if_neg c27] at h
        refine lv_iload_n C.1 C.2.1 dX12_letter_30 rfl (lv_at hl 1 rfl) ?_
        refine lv_iload_n C.1 C.2.1 dX12_letter_31 rfl (lv_at hl 2 rfl) ?_
        refine lv_icmp_ne (tgt := 37) C.1 C.2.1 dX12_letter_32 (by decide) (fun c32 => ?_) (fun c32 => ?_)
        · rw [if_neg c32] at h
          refine lv_aload_n C.1 C.2.1 dX12_letter_37 rfl (lv_at hl 0 rfl) ?_
          refine gM_0_letterFrom C hX12_letter_0_X12 hK hP mX12_letter_0_3 dX12_letter_38 ?_
          refine lv_aload_n C.1 C.2.1 dX12_letter_41 rfl (lv_at hl 0 rfl) ?_
          refine gM_0_letterMany C hX12_letter_0_X12 hK hP mX12_letter_0_2 dX12_letter_42 ?_
          refine lv_iload_n C.1 C.2.1 dX12_letter_45 rfl (lv_at hl 1 rfl) ?_
          obtain ⟨hg12, h⟩ := gd_some h
          refine tM_39 C hK hP hJ hS hg12 dX12_letter_46 (fun H locs hP hS => ?_)
          obtain ⟨u13, hu14, h⟩ := lt_some h
          rw [← hu14] at hP
          refine lv_aload_n C.1 C.2.1 dX12_letter_47 rfl (lv_at hl 0 rfl) ?_
          refine gM_0_letterTo C hX12_letter_0_X12 hK hP mX12_letter_0_4 dX12_letter_48 ?_
          refine lv_aload_n C.1 C.2.1 dX12_letter_51 rfl (lv_at hl 0 rfl) ?_
          refine gM_0_letterMany C hX12_letter_0_X12 hK hP mX12_letter_0_2 dX12_letter_52 ?_
          refine lv_iload_n C.1 C.2.1 dX12_letter_55 rfl (lv_at hl 2 rfl) ?_
          obtain ⟨hg15, h⟩ := gd_some h
          refine tM_40 C hK hP hJ hS hg15 dX12_letter_56 (fun H locs hP hS => ?_)
          obtain ⟨u16, hu17, h⟩ := lt_some h
          rw [← hu17] at hP
          refine lv_aload_n C.1 C.2.1 dX12_letter_57 rfl (lv_at hl 0 rfl) ?_
          refine gM_0_letterDay C hX12_letter_0_X12 hK hP mX12_letter_0_5 dX12_letter_58 ?_
          refine lv_aload_n C.1 C.2.1 dX12_letter_61 rfl (lv_at hl 0 rfl) ?_
          refine gM_0_letterMany C hX12_letter_0_X12 hK hP mX12_letter_0_2 dX12_letter_62 ?_
          refine lv_aload_n C.1 C.2.1 dX12_letter_65 rfl (lv_at hl 0 rfl) ?_
          refine gM_0_now C hX12_letter_0_X12 hK hP mX12_letter_0_6 dX12_letter_66 ?_
          obtain ⟨hg18, h⟩ := gd_some h
          refine tM_41 C hK hP hJ hS hg18 dX12_letter_69 (fun H locs hP hS => ?_)
          obtain ⟨u19, hu20, h⟩ := lt_some h
          rw [← hu20] at hP
          refine lv_aload_n C.1 C.2.1 dX12_letter_70 rfl (lv_at hl 0 rfl) ?_
          refine lv_dup C.1 C.2.1 dX12_letter_71 rfl ?_
          refine gM_0_letterMany C hX12_letter_0_X12 hK hP mX12_letter_0_2 dX12_letter_72 ?_
          refine lv_iconst (v := 1) C.1 C.2.1 dX12_letter_75 (by decide) ?_
          refine lv_iadd C.1 C.2.1 dX12_letter_76 ?_
          refine pM_0_letterMany C hX12_letter_0_X12 hK hP hJ hS mX12_letter_0_2 dX12_letter_77 (fun H locs hP hS => ?_)
          obtain ⟨u21, hu22, h⟩ := lt_some h
          rw [← hu22] at hP
          refine lv_iconst (v := 1) C.1 C.2.1 dX12_letter_80 (by decide) ?_
          obtain ⟨hg23, h⟩ := gd_some h
          cases h
          exact rt_z hg23 C hP hS dX12_letter_81
        · rw [if_pos c32] at h
          refine lv_iconst (v := 0) C.1 C.2.1 dX12_letter_35 (by decide) ?_
          obtain ⟨hg24, h⟩ := gd_some h
          cases h
          exact rt_z hg24 C hP hS dX12_letter_36
theorem metX12_letter_0 (l : Launch) (D : va_G) (cy : Nat → ClassId) (ad st : Nat → Nat) (hJ : JM ad st) (sz : Nat) (x1 : Int32) (x2 : Int32) {u : SX} {r : Int32} {u' : SX} (h : fX12_letter_0 x1 x2 u = some (r, u')) : Met l yX12_letter wsX12_letter rmX12_letter_0 (va_Pc [.ref (ad 0), .int x1, .int x2] (Px D [(cy 0, .int), (cy 1, .long), (cy 2, .boolean), (cy 3, .byte), (cy 4, .object "HissHorn$Text")] st (VM cy ad st) sz u)) (Qi D (VM cy ad st) (AM ad) sz r u') 0 0 (Ax (AM ad) sz) := by
  refine Met.ofW (cc := cX12_letter) (maxL := 3) (ret := (some .boolean)) (by decide) rfl ?_
  intro p e s m args below meth c s₁ B hml hv
  obtain ⟨rfl, hsz, hP, hK⟩ := hv
  subst hsz
  have C : Cx RX12 cX12_letter 3 (some .boolean) wsX12_letter p s m _ meth c := ⟨B.exec, B.bytes, hml, B.returns, findClass_of_methodNamed B.named, atoms_spec (ws := wsX12_letter) B.pre, B.notSynchronized⟩
  have hl := lv_entry ([.ref (ad 0), .int x1, .int x2]) (n := 3) (Nat.le_of_ble_eq_true rfl)
  rw [lg_entry_eq]
  exact wX12_letter_0 C hK hJ x1 x2 h hP va_S.rf hl

theorem zdX12_isThere_0 : (and (and (and (and (and (zk cX12_isThere 0 (.iload_n 1) 1) (zk cX12_isThere 1 (.bipush 40) 2)) (zk cX12_isThere 3 (.if_icmp .ge 19) 3)) (and (and (zk cX12_isThere 22 (.iload_n 1) 1) (zk cX12_isThere 23 (.bipush 40) 2)) (zk cX12_isThere 25 (.isub) 1))) (and (and (and (zk cX12_isThere 26 (.aload_n 0) 1) (zk cX12_isThere 27 (.getfield 445) 3)) (zk cX12_isThere 30 (.if_icmp .ge 7) 3)) (and (zk cX12_isThere 37 (.iconst 0) 1) (zk cX12_isThere 38 (.ireturn) 1)))) (and (and (and (and (zk cX12_isThere 33 (.iconst 1) 1) (zk cX12_isThere 34 (.goto 4) 3)) (zk cX12_isThere 6 (.iload_n 1) 1)) (and (zk cX12_isThere 7 (.aload_n 0) 1) (zk cX12_isThere 8 (.getfield 448) 3))) (and (and (and (zk cX12_isThere 11 (.if_icmp .ge 7) 3) (zk cX12_isThere 18 (.iconst 0) 1)) (zk cX12_isThere 19 (.goto 19) 3)) (and (zk cX12_isThere 14 (.iconst 1) 1) (zk cX12_isThere 15 (.goto 23) 3))))) = true := by decide +kernel
theorem dX12_isThere_0 : decode cX12_isThere 0 = .ok (.iload_n 1, 1) := zk_of (zk_l (zk_l (zk_l (zk_l (zk_l zdX12_isThere_0)))))
theorem dX12_isThere_1 : decode cX12_isThere 1 = .ok (.bipush 40, 2) := zk_of (zk_r (zk_l (zk_l (zk_l (zk_l zdX12_isThere_0)))))
theorem dX12_isThere_3 : decode cX12_isThere 3 = .ok (.if_icmp .ge 19, 3) := zk_of (zk_r (zk_l (zk_l (zk_l zdX12_isThere_0))))
theorem dX12_isThere_22 : decode cX12_isThere 22 = .ok (.iload_n 1, 1) := zk_of (zk_l (zk_l (zk_r (zk_l (zk_l zdX12_isThere_0)))))
theorem dX12_isThere_23 : decode cX12_isThere 23 = .ok (.bipush 40, 2) := zk_of (zk_r (zk_l (zk_r (zk_l (zk_l zdX12_isThere_0)))))
theorem dX12_isThere_25 : decode cX12_isThere 25 = .ok (.isub, 1) := zk_of (zk_r (zk_r (zk_l (zk_l zdX12_isThere_0))))
theorem dX12_isThere_26 : decode cX12_isThere 26 = .ok (.aload_n 0, 1) := zk_of (zk_l (zk_l (zk_l (zk_r (zk_l zdX12_isThere_0)))))
theorem dX12_isThere_27 : decode cX12_isThere 27 = .ok (.getfield 445, 3) := zk_of (zk_r (zk_l (zk_l (zk_r (zk_l zdX12_isThere_0)))))
theorem dX12_isThere_30 : decode cX12_isThere 30 = .ok (.if_icmp .ge 7, 3) := zk_of (zk_r (zk_l (zk_r (zk_l zdX12_isThere_0))))
theorem dX12_isThere_37 : decode cX12_isThere 37 = .ok (.iconst 0, 1) := zk_of (zk_l (zk_r (zk_r (zk_l zdX12_isThere_0))))
theorem dX12_isThere_38 : decode cX12_isThere 38 = .ok (.ireturn, 1) := zk_of (zk_r (zk_r (zk_r (zk_l zdX12_isThere_0))))
theorem dX12_isThere_33 : decode cX12_isThere 33 = .ok (.iconst 1, 1) := zk_of (zk_l (zk_l (zk_l (zk_l (zk_r zdX12_isThere_0)))))
theorem dX12_isThere_34 : decode cX12_isThere 34 = .ok (.goto 4, 3) := zk_of (zk_r (zk_l (zk_l (zk_l (zk_r zdX12_isThere_0)))))
theorem dX12_isThere_6 : decode cX12_isThere 6 = .ok (.iload_n 1, 1) := zk_of (zk_r (zk_l (zk_l (zk_r zdX12_isThere_0))))
theorem dX12_isThere_7 : decode cX12_isThere 7 = .ok (.aload_n 0, 1) := zk_of (zk_l (zk_r (zk_l (zk_r zdX12_isThere_0))))
theorem dX12_isThere_8 : decode cX12_isThere 8 = .ok (.getfield 448, 3) := zk_of (zk_r (zk_r (zk_l (zk_r zdX12_isThere_0))))
theorem dX12_isThere_11 : decode cX12_isThere 11 = .ok (.if_icmp .ge 7, 3) := zk_of (zk_l (zk_l (zk_l (zk_r (zk_r zdX12_isThere_0)))))
theorem dX12_isThere_18 : decode cX12_isThere 18 = .ok (.iconst 0, 1) := zk_of (zk_r (zk_l (zk_l (zk_r (zk_r zdX12_isThere_0)))))
theorem dX12_isThere_19 : decode cX12_isThere 19 = .ok (.goto 19, 3) := zk_of (zk_r (zk_l (zk_r (zk_r zdX12_isThere_0))))
theorem dX12_isThere_14 : decode cX12_isThere 14 = .ok (.iconst 1, 1) := zk_of (zk_l (zk_r (zk_r (zk_r zdX12_isThere_0))))
theorem dX12_isThere_15 : decode cX12_isThere 15 = .ok (.goto 23, 3) := zk_of (zk_r (zk_r (zk_r (zk_r zdX12_isThere_0))))
/-- HissHornModel.isThere(I)Z of cell 0 -/
def rmX12_isThere_0 : Room := { frames := 0, cells := 0, slots := 0, locals := 0 }
theorem hX12_isThere_0_X12 : ∀ w ∈ u_ws RX12 TX12 69, w ∈ wsX12_isThere := fun w h => (List.mem_cons_of_mem _ (List.mem_append_right _ h))
theorem mX12_isThere_0_1 : Cond.fieldLink RX12 445 "HissHornModel" "papers" "I" ∈ wsX12_isThere := (List.mem_cons_of_mem _ (List.mem_append_left _ (List.mem_of_getElem? (i := 1) rfl)))
theorem mX12_isThere_0_2 : Cond.fieldLink RX12 448 "HissHornModel" "prints" "I" ∈ wsX12_isThere := (List.mem_cons_of_mem _ (List.mem_append_left _ (List.mem_of_getElem? (i := 0) rfl)))
def fX12_isThere_0 (x1 : Int32) (u : SX) : Option (Int32 × SX) := (if 40 ≤ x1 then (if (u.1 24) ≤ (x1 - 40) then (gd (isB 0) (some (0, u))) else (gd (isB 1) (some (1, u)))) else (if (u.1 23) ≤ x1 then (gd (isB 0) (some (0, u))) else (gd (isB 1) (some (1, u)))))
set_option maxHeartbeats 4000000 in
set_option maxRecDepth 100000 in
theorem wX12_isThere_0 {p : Program} {l : Launch} {e : Env} {s : State} {m : MethodId} {args : Array Value} {below : List Frame} {meth : Method} {c : Code} {D : va_G} {cy : Nat → ClassId} {ad st : Nat → Nat} (C : Cx RX12 cX12_isThere 2 (some .boolean) wsX12_isThere p s m args meth c) (hK : Ky D [(cy 0, .int), (cy 1, .long), (cy 2, .boolean), (cy 3, .byte), (cy 4, .object "HissHorn$Text")] st s) (hJ : JM ad st) (x1 : Int32) {u : SX} {r : Int32} {u' : SX} {H : Heap} {locs : List Loc} {ls : Array Slot} (h : fX12_isThere_0 x1 u = some (r, u')) (hP : va_P D vwCl (VM cy ad st u) H) (hS : va_S (Ax (AM ad) s.heap.size) s.heap H locs) (hl : lv_has ls 2 [(0, .ref (ad 0)), (1, .int x1)]) : W p l e rmX12_isThere_0 s m args below meth c H locs 0 0 (MQ below (Qi D (VM cy ad st) (AM ad) s.heap.size r u') args s 0 0 (Ax (AM ad) s.heap.size)) (F0 m 0 ls []) := by
  unfold fX12_isThere_0 at h
  refine lv_iload_n C.1 C.2.1 dX12_isThere_0 rfl (lv_at hl 1 rfl) ?_
  refine lv_bipush (v := 40) C.1 C.2.1 dX12_isThere_1 (by decide) ?_
  refine lv_icmp_ge (tgt := 22) C.1 C.2.1 dX12_isThere_3 (by decide) (fun c3 => ?_) (fun c3 => ?_)
  · rw [if_pos c3] at h
    refine lv_iload_n C.1 C.2.1 dX12_isThere_22 rfl (lv_at hl 1 rfl) ?_
    refine lv_bipush (v := 40) C.1 C.2.1 dX12_isThere_23 (by decide) ?_
    refine lv_isub C.1 C.2.1 dX12_isThere_25 ?_
    refine lv_aload_n C.1 C.2.1 dX12_isThere_26 rfl (lv_at hl 0 rfl) ?_
    refine gM_0_papers C hX12_isThere_0_X12 hK hP mX12_isThere_0_1 dX12_isThere_27 ?_
    refine lv_icmp_ge (tgt := 37) C.1 C.2.1 dX12_isThere_30 (by decide) (fun c30 => ?_) (fun c30 => ?_)
    · rw [if_pos c30] at h
      refine lv_iconst (v := 0) C.1 C.2.1 dX12_isThere_37 (by decide) ?_
      obtain ⟨hg1, h⟩ := gd_some h
      cases h
      exact rt_z hg1 C hP hS dX12_isThere_38
    · rw [if_neg c30] at h
      refine lv_iconst (v := 1) C.1 C.2.1 dX12_isThere_33 (by decide) ?_
      refine lv_goto (tgt := 38) C.1 C.2.1 dX12_isThere_34 (by decide) ?_
      obtain ⟨hg2, h⟩ := gd_some h
      cases h
      exact rt_z hg2 C hP hS dX12_isThere_38
  · rw [if_neg c3] at h
    refine lv_iload_n C.1 C.2.1 dX12_isThere_6 rfl (lv_at hl 1 rfl) ?_
    refine lv_aload_n C.1 C.2.1 dX12_isThere_7 rfl (lv_at hl 0 rfl) ?_
    refine gM_0_prints C hX12_isThere_0_X12 hK hP mX12_isThere_0_2 dX12_isThere_8 ?_
    refine lv_icmp_ge (tgt := 18) C.1 C.2.1 dX12_isThere_11 (by decide) (fun c11 => ?_) (fun c11 => ?_)
    · rw [if_pos c11] at h
      refine lv_iconst (v := 0) C.1 C.2.1 dX12_isThere_18 (by decide) ?_
      refine lv_goto (tgt := 38) C.1 C.2.1 dX12_isThere_19 (by decide) ?_
      obtain ⟨hg3, h⟩ := gd_some h
      cases h
      exact rt_z hg3 C hP hS dX12_isThere_38
    · rw [if_neg c11] at h
      refine lv_iconst (v := 1) C.1 C.2.1 dX12_isThere_14 (by decide) ?_
      refine lv_goto (tgt := 38) C.1 C.2.1 dX12_isThere_15 (by decide) ?_
      obtain ⟨hg4, h⟩ := gd_some h
      cases h
      exact rt_z hg4 C hP hS dX12_isThere_38
theorem metX12_isThere_0 (l : Launch) (D : va_G) (cy : Nat → ClassId) (ad st : Nat → Nat) (hJ : JM ad st) (sz : Nat) (x1 : Int32) {u : SX} {r : Int32} {u' : SX} (h : fX12_isThere_0 x1 u = some (r, u')) : Met l yX12_isThere wsX12_isThere rmX12_isThere_0 (va_Pc [.ref (ad 0), .int x1] (Px D [(cy 0, .int), (cy 1, .long), (cy 2, .boolean), (cy 3, .byte), (cy 4, .object "HissHorn$Text")] st (VM cy ad st) sz u)) (Qi D (VM cy ad st) (AM ad) sz r u') 0 0 (Ax (AM ad) sz) := by
  refine Met.ofW (cc := cX12_isThere) (maxL := 2) (ret := (some .boolean)) (by decide) rfl ?_
  intro p e s m args below meth c s₁ B hml hv
  obtain ⟨rfl, hsz, hP, hK⟩ := hv
  subst hsz
  have C : Cx RX12 cX12_isThere 2 (some .boolean) wsX12_isThere p s m _ meth c := ⟨B.exec, B.bytes, hml, B.returns, findClass_of_methodNamed B.named, atoms_spec (ws := wsX12_isThere) B.pre, B.notSynchronized⟩
  have hl := lv_entry ([.ref (ad 0), .int x1]) (n := 2) (Nat.le_of_ble_eq_true rfl)
  rw [lg_entry_eq]
  exact wX12_isThere_0 C hK hJ x1 h hP va_S.rf hl

theorem zdX12_knowsNow_0 : (and (and (and (and (and (zk cX12_knowsNow 0 (.aload_n 0) 1) (zk cX12_knowsNow 1 (.getfield 145) 3)) (and (zk cX12_knowsNow 4 (.bipush 60) 2) (zk cX12_knowsNow 6 (.iload_n 1) 1))) (and (and (zk cX12_knowsNow 7 (.imul) 1) (zk cX12_knowsNow 8 (.iload_n 2) 1)) (and (zk cX12_knowsNow 9 (.iadd) 1) (zk cX12_knowsNow 10 (.baload) 1)))) (and (and (and (zk cX12_knowsNow 11 (.ifCond .ne 31) 3) (zk cX12_knowsNow 42 (.iconst 1) 1)) (and (zk cX12_knowsNow 43 (.goto 4) 3) (zk cX12_knowsNow 47 (.ireturn) 1))) (and (and (zk cX12_knowsNow 14 (.aload_n 0) 1) (zk cX12_knowsNow 15 (.iload_n 2) 1)) (zk cX12_knowsNow 16 (.invokevirtual 454) 3)))) (and (and (and (and (zk cX12_knowsNow 19 (.ifCond .eq 27) 3) (zk cX12_knowsNow 46 (.iconst 0) 1)) (and (zk cX12_knowsNow 22 (.aload_n 0) 1) (zk cX12_knowsNow 23 (.getfield 124) 3))) (and (and (zk cX12_knowsNow 26 (.iload_n 2) 1) (zk cX12_knowsNow 27 (.iaload) 1)) (zk cX12_knowsNow 28 (.iload_n 1) 1))) (and (and (and (zk cX12_knowsNow 29 (.if_icmp .ne 17) 3) (zk cX12_knowsNow 32 (.aload_n 0) 1)) (and (zk cX12_knowsNow 33 (.getfield 133) 3) (zk cX12_knowsNow 36 (.iload_n 2) 1))) (and (and (zk cX12_knowsNow 37 (.iaload) 1) (zk cX12_knowsNow 38 (.iload_n 3) 1)) (zk cX12_knowsNow 39 (.if_icmp .gt 7) 3))))) = true := by decide +kernel
theorem dX12_knowsNow_0 : decode cX12_knowsNow 0 = .ok (.aload_n 0, 1) := zk_of (zk_l (zk_l (zk_l (zk_l (zk_l zdX12_knowsNow_0)))))
theorem dX12_knowsNow_1 : decode cX12_knowsNow 1 = .ok (.getfield 145, 3) := zk_of (zk_r (zk_l (zk_l (zk_l (zk_l zdX12_knowsNow_0)))))
theorem dX12_knowsNow_4 : decode cX12_knowsNow 4 = .ok (.bipush 60, 2) := zk_of (zk_l (zk_r (zk_l (zk_l (zk_l zdX12_knowsNow_0)))))
theorem dX12_knowsNow_6 : decode cX12_knowsNow 6 = .ok (.iload_n 1, 1) := zk_of (zk_r (zk_r (zk_l (zk_l (zk_l zdX12_knowsNow_0)))))
theorem dX12_knowsNow_7 : decode cX12_knowsNow 7 = .ok (.imul, 1) := zk_of (zk_l (zk_l (zk_r (zk_l (zk_l zdX12_knowsNow_0)))))
theorem dX12_knowsNow_8 : decode cX12_knowsNow 8 = .ok (.iload_n 2, 1) := zk_of (zk_r (zk_l (zk_r (zk_l (zk_l zdX12_knowsNow_0)))))
theorem dX12_knowsNow_9 : decode cX12_knowsNow 9 = .ok (.iadd, 1) := zk_of (zk_l (zk_r (zk_r (zk_l (zk_l zdX12_knowsNow_0)))))
theorem dX12_knowsNow_10 : decode cX12_knowsNow 10 = .ok (.baload, 1) := zk_of (zk_r (zk_r (zk_r (zk_l (zk_l zdX12_knowsNow_0)))))
theorem dX12_knowsNow_11 : decode cX12_knowsNow 11 = .ok (.ifCond .ne 31, 3) := zk_of (zk_l (zk_l (zk_l (zk_r (zk_l zdX12_knowsNow_0)))))
theorem dX12_knowsNow_42 : decode cX12_knowsNow 42 = .ok (.iconst 1, 1) := zk_of (zk_r (zk_l (zk_l (zk_r (zk_l zdX12_knowsNow_0)))))
theorem dX12_knowsNow_43 : decode cX12_knowsNow 43 = .ok (.goto 4, 3) := zk_of (zk_l (zk_r (zk_l (zk_r (zk_l zdX12_knowsNow_0)))))
theorem dX12_knowsNow_47 : decode cX12_knowsNow 47 = .ok (.ireturn, 1) := zk_of (zk_r (zk_r (zk_l (zk_r (zk_l zdX12_knowsNow_0)))))
theorem dX12_knowsNow_14 : decode cX12_knowsNow 14 = .ok (.aload_n 0, 1) := zk_of (zk_l (zk_l (zk_r (zk_r (zk_l zdX12_knowsNow_0)))))
theorem dX12_knowsNow_15 : decode cX12_knowsNow 15 = .ok (.iload_n 2, 1) := zk_of (zk_r (zk_l (zk_r (zk_r (zk_l zdX12_knowsNow_0)))))
theorem dX12_knowsNow_16 : decode cX12_knowsNow 16 = .ok (.invokevirtual 454, 3) := zk_of (zk_r (zk_r (zk_r (zk_l zdX12_knowsNow_0))))
theorem dX12_knowsNow_19 : decode cX12_knowsNow 19 = .ok (.ifCond .eq 27, 3) := zk_of (zk_l (zk_l (zk_l (zk_l (zk_r zdX12_knowsNow_0)))))
theorem dX12_knowsNow_46 : decode cX12_knowsNow 46 = .ok (.iconst 0, 1) := zk_of (zk_r (zk_l (zk_l (zk_l (zk_r zdX12_knowsNow_0)))))
theorem dX12_knowsNow_22 : decode cX12_knowsNow 22 = .ok (.aload_n 0, 1) := zk_of (zk_l (zk_r (zk_l (zk_l (zk_r zdX12_knowsNow_0)))))
theorem dX12_knowsNow_23 : decode cX12_knowsNow 23 = .ok (.getfield 124, 3) := zk_of (zk_r (zk_r (zk_l (zk_l (zk_r zdX12_knowsNow_0)))))
theorem dX12_knowsNow_26 : decode cX12_knowsNow 26 = .ok (.iload_n 2, 1) := zk_of (zk_l (zk_l (zk_r (zk_l (zk_r zdX12_knowsNow_0)))))
theorem dX12_knowsNow_27 : decode cX12_knowsNow 27 = .ok (.iaload, 1) := zk_of (zk_r (zk_l (zk_r (zk_l (zk_r zdX12_knowsNow_0)))))
theorem dX12_knowsNow_28 : decode cX12_knowsNow 28 = .ok (.iload_n 1, 1) := zk_of (zk_r (zk_r (zk_l (zk_r zdX12_knowsNow_0))))
theorem dX12_knowsNow_29 : decode cX12_knowsNow 29 = .ok (.if_icmp .ne 17, 3) := zk_of (zk_l (zk_l (zk_l (zk_r (zk_r zdX12_knowsNow_0)))))
theorem dX12_knowsNow_32 : decode cX12_knowsNow 32 = .ok (.aload_n 0, 1) := zk_of (zk_r (zk_l (zk_l (zk_r (zk_r zdX12_knowsNow_0)))))
theorem dX12_knowsNow_33 : decode cX12_knowsNow 33 = .ok (.getfield 133, 3) := zk_of (zk_l (zk_r (zk_l (zk_r (zk_r zdX12_knowsNow_0)))))
theorem dX12_knowsNow_36 : decode cX12_knowsNow 36 = .ok (.iload_n 2, 1) := zk_of (zk_r (zk_r (zk_l (zk_r (zk_r zdX12_knowsNow_0)))))
theorem dX12_knowsNow_37 : decode cX12_knowsNow 37 = .ok (.iaload, 1) := zk_of (zk_l (zk_l (zk_r (zk_r (zk_r zdX12_knowsNow_0)))))
theorem dX12_knowsNow_38 : decode cX12_knowsNow 38 = .ok (.iload_n 3, 1) := zk_of (zk_r (zk_l (zk_r (zk_r (zk_r zdX12_knowsNow_0)))))
theorem dX12_knowsNow_39 : decode cX12_knowsNow 39 = .ok (.if_icmp .gt 7, 3) := zk_of (zk_r (zk_r (zk_r (zk_r zdX12_knowsNow_0))))
set_option maxRecDepth 20000 in
theorem ggX12_knowsNow_X12_isThere : GoodIn wsX12_knowsNow wsX12_isThere := ggi (fun w h => List.mem_cons_of_mem _ (List.mem_append_left _ (List.mem_append_right _ h))) gs_X12_isThere
set_option maxRecDepth 20000 in
theorem gX12_knowsNow_X12_isThere : GoodIn wsX12_knowsNow (wsV RX12 454 RX12 yX12_isThere wsX12_isThere) := goodIn_app (goodIn_of _ (by decide +kernel)) ggX12_knowsNow_X12_isThere
/-- HissHornModel.knowsNow(III)Z of cell 0 -/
def rmX12_knowsNow_0 : Room := { frames := 1, cells := 0, slots := 0, locals := 21 }
theorem hX12_knowsNow_0_X12 : ∀ w ∈ u_ws RX12 TX12 69, w ∈ wsX12_knowsNow := fun w h => (List.mem_cons_of_mem _ (List.mem_append_right _ h))
theorem mX12_knowsNow_0_1 : Cond.fieldLink RX12 145 "HissHornModel" "known" "[Z" ∈ wsX12_knowsNow := (List.mem_cons_of_mem _ (List.mem_append_left _ (List.mem_append_left _ (List.mem_of_getElem? (i := 4) rfl))))
theorem mX12_knowsNow_0_2 : Cond.fieldLink RX12 124 "HissHornModel" "printHouse" "[I" ∈ wsX12_knowsNow := (List.mem_cons_of_mem _ (List.mem_append_left _ (List.mem_append_left _ (List.mem_of_getElem? (i := 5) rfl))))
theorem mX12_knowsNow_0_3 : Cond.fieldLink RX12 133 "HissHornModel" "printDay" "[I" ∈ wsX12_knowsNow := (List.mem_cons_of_mem _ (List.mem_append_left _ (List.mem_append_left _ (List.mem_of_getElem? (i := 6) rfl))))
def fX12_knowsNow_0 (x1 : Int32) (x2 : Int32) (x3 : Int32) (u : SX) : Option (Int32 × SX) := (gd (inb ((60 * x1) + x2) 480) (if (u.2.1 42 ((60 * x1) + x2).toNatClampNeg) = 0 then ((fX12_isThere_0 x2 u).bind fun q => match q with | (r3, u4) => (if r3 = 0 then (gd (isB 0) (some (0, u4))) else (gd (inb x2 60) (if (u4.2.1 35 x2.toNatClampNeg) = x1 then (gd (inb x2 60) (if x3 < (u4.2.1 38 x2.toNatClampNeg) then (gd (isB 0) (some (0, u4))) else (gd (isB 1) (some (1, u4))))) else (gd (isB 0) (some (0, u4))))))) else (gd (isB 1) (some (1, u)))))
set_option maxHeartbeats 4000000 in
set_option maxRecDepth 100000 in
theorem wX12_knowsNow_0 {p : Program} {l : Launch} {e : Env} {s : State} {m : MethodId} {args : Array Value} {below : List Frame} {meth : Method} {c : Code} {D : va_G} {cy : Nat → ClassId} {ad st : Nat → Nat} (C : Cx RX12 cX12_knowsNow 4 (some .boolean) wsX12_knowsNow p s m args meth c) (hK : Ky D [(cy 0, .int), (cy 1, .long), (cy 2, .boolean), (cy 3, .byte), (cy 4, .object "HissHorn$Text")] st s) (hJ : JM ad st) (x1 : Int32) (x2 : Int32) (x3 : Int32) {u : SX} {r : Int32} {u' : SX} {H : Heap} {locs : List Loc} {ls : Array Slot} (h : fX12_knowsNow_0 x1 x2 x3 u = some (r, u')) (hP : va_P D vwCl (VM cy ad st u) H) (hS : va_S (Ax (AM ad) s.heap.size) s.heap H locs) (hl : lv_has ls 4 [(0, .ref (ad 0)), (1, .int x1), (2, .int x2), (3, .int x3)]) : W p l e rmX12_knowsNow_0 s m args below meth c H locs 0 0 (MQ below (Qi D (VM cy ad st) (AM ad) s.heap.size r u') args s 0 0 (Ax (AM ad) s.heap.size)) (F0 m 0 ls []) := by
  unfold fX12_knowsNow_0 at h
  refine lv_aload_n C.1 C.2.1 dX12_knowsNow_0 rfl (lv_at hl 0 rfl) ?_
  refine gM_0_known C hX12_knowsNow_0_X12 hK hP mX12_knowsNow_0_1 dX12_knowsNow_1 ?_
  refine lv_bipush (v := 60) C.1 C.2.1 dX12_knowsNow_4 (by decide) ?_
  refine lv_iload_n C.1 C.2.1 dX12_knowsNow_6 rfl (lv_at hl 1 rfl) ?_
  refine lv_imul C.1 C.2.1 dX12_knowsNow_7 ?_
  refine lv_iload_n C.1 C.2.1 dX12_knowsNow_8 rfl (lv_at hl 2 rfl) ?_
  refine lv_iadd C.1 C.2.1 dX12_knowsNow_9 ?_
  obtain ⟨hg1, h⟩ := gd_some h
  refine lM_42 C hK hP hg1 dX12_knowsNow_10 ?_
  refine lv_if_ne (tgt := 42) C.1 C.2.1 dX12_knowsNow_11 (by decide) (fun c11 => ?_) (fun c11 => ?_)
  · rw [if_neg c11] at h
    refine lv_iconst (v := 1) C.1 C.2.1 dX12_knowsNow_42 (by decide) ?_
    refine lv_goto (tgt := 47) C.1 C.2.1 dX12_knowsNow_43 (by decide) ?_
    obtain ⟨hg2, h⟩ := gd_some h
    cases h
    exact rt_z hg2 C hP hS dX12_knowsNow_47
  · rw [if_pos c11] at h
    refine lv_aload_n C.1 C.2.1 dX12_knowsNow_14 rfl (lv_at hl 0 rfl) ?_
    refine lv_iload_n C.1 C.2.1 dX12_knowsNow_15 rfl (lv_at hl 2 rfl) ?_
    obtain ⟨⟨r3, u4⟩, hc5, h⟩ := bd_some h
    try dsimp only at h
    refine cg_i (As := [.int x2]) (rest := []) (AM_ge hJ) C hK hP hS (metX12_isThere_0 l D cy ad st hJ _ x2 hc5) (cwV 1 C.2.2.2.2.2.1 gX12_knowsNow_X12_isThere rfl rfl rfl (by decide +kernel) ⟨(Nat.le_of_ble_eq_true rfl), (Nat.le_of_ble_eq_true rfl)⟩) 0 12 rfl rfl rfl hl.1 rfl (Nat.le_of_ble_eq_true rfl) dX12_knowsNow_16 ⟨Nat.zero_le _, Nat.zero_le _⟩ (fun H locs hP hS => ?_)
    refine lv_if_eq (tgt := 46) C.1 C.2.1 dX12_knowsNow_19 (by decide) (fun c19 => ?_) (fun c19 => ?_)
    · rw [if_pos c19] at h
      refine lv_iconst (v := 0) C.1 C.2.1 dX12_knowsNow_46 (by decide) ?_
      obtain ⟨hg6, h⟩ := gd_some h
      cases h
      exact rt_z hg6 C hP hS dX12_knowsNow_47
    · rw [if_neg c19] at h
      refine lv_aload_n C.1 C.2.1 dX12_knowsNow_22 rfl (lv_at hl 0 rfl) ?_
      refine gM_0_printHouse C hX12_knowsNow_0_X12 hK hP mX12_knowsNow_0_2 dX12_knowsNow_23 ?_
      refine lv_iload_n C.1 C.2.1 dX12_knowsNow_26 rfl (lv_at hl 2 rfl) ?_
      obtain ⟨hg7, h⟩ := gd_some h
      refine lM_35 C hK hP hg7 dX12_knowsNow_27 ?_
      refine lv_iload_n C.1 C.2.1 dX12_knowsNow_28 rfl (lv_at hl 1 rfl) ?_
      refine lv_icmp_ne (tgt := 46) C.1 C.2.1 dX12_knowsNow_29 (by decide) (fun c29 => ?_) (fun c29 => ?_)
      · rw [if_neg c29] at h
        refine lv_iconst (v := 0) C.1 C.2.1 dX12_knowsNow_46 (by decide) ?_
        obtain ⟨hg8, h⟩ := gd_some h
        cases h
        exact rt_z hg8 C hP hS dX12_knowsNow_47
      · rw [if_pos c29] at h
        refine lv_aload_n C.1 C.2.1 dX12_knowsNow_32 rfl (lv_at hl 0 rfl) ?_
        refine gM_0_printDay C hX12_knowsNow_0_X12 hK hP mX12_knowsNow_0_3 dX12_knowsNow_33 ?_
        refine lv_iload_n C.1 C.2.1 dX12_knowsNow_36 rfl (lv_at hl 2 rfl) ?_
        obtain ⟨hg9, h⟩ := gd_some h
        refine lM_38 C hK hP hg9 dX12_knowsNow_37 ?_
        refine lv_iload_n C.1 C.2.1 dX12_knowsNow_38 rfl (lv_at hl 3 rfl) ?_
        refine lv_icmp_gt (tgt := 46) C.1 C.2.1 dX12_knowsNow_39 (by decide) (fun c39 => ?_) (fun c39 => ?_)
        · rw [if_pos c39] at h
          refine lv_iconst (v := 0) C.1 C.2.1 dX12_knowsNow_46 (by decide) ?_
          obtain ⟨hg10, h⟩ := gd_some h
          cases h
          exact rt_z hg10 C hP hS dX12_knowsNow_47
        · rw [if_neg c39] at h
          refine lv_iconst (v := 1) C.1 C.2.1 dX12_knowsNow_42 (by decide) ?_
          refine lv_goto (tgt := 47) C.1 C.2.1 dX12_knowsNow_43 (by decide) ?_
          obtain ⟨hg11, h⟩ := gd_some h
          cases h
          exact rt_z hg11 C hP hS dX12_knowsNow_47
theorem metX12_knowsNow_0 (l : Launch) (D : va_G) (cy : Nat → ClassId) (ad st : Nat → Nat) (hJ : JM ad st) (sz : Nat) (x1 : Int32) (x2 : Int32) (x3 : Int32) {u : SX} {r : Int32} {u' : SX} (h : fX12_knowsNow_0 x1 x2 x3 u = some (r, u')) : Met l yX12_knowsNow wsX12_knowsNow rmX12_knowsNow_0 (va_Pc [.ref (ad 0), .int x1, .int x2, .int x3] (Px D [(cy 0, .int), (cy 1, .long), (cy 2, .boolean), (cy 3, .byte), (cy 4, .object "HissHorn$Text")] st (VM cy ad st) sz u)) (Qi D (VM cy ad st) (AM ad) sz r u') 0 0 (Ax (AM ad) sz) := by
  refine Met.ofW (cc := cX12_knowsNow) (maxL := 4) (ret := (some .boolean)) (by decide) rfl ?_
  intro p e s m args below meth c s₁ B hml hv
  obtain ⟨rfl, hsz, hP, hK⟩ := hv
  subst hsz
  have C : Cx RX12 cX12_knowsNow 4 (some .boolean) wsX12_knowsNow p s m _ meth c := ⟨B.exec, B.bytes, hml, B.returns, findClass_of_methodNamed B.named, atoms_spec (ws := wsX12_knowsNow) B.pre, B.notSynchronized⟩
  have hl := lv_entry ([.ref (ad 0), .int x1, .int x2, .int x3]) (n := 4) (Nat.le_of_ble_eq_true rfl)
  rw [lg_entry_eq]
  exact wX12_knowsNow_0 C hK hJ x1 x2 x3 h hP va_S.rf hl

theorem zdX12_nobodyKnows_2 : (and (and (and (and (zk cX12_nobodyKnows 2 (.iload_n 1) 1) (zk cX12_nobodyKnows 3 (.aload_n 0) 1)) (and (zk cX12_nobodyKnows 4 (.getfield 145) 3) (zk cX12_nobodyKnows 7 (.arraylength) 1))) (and (and (zk cX12_nobodyKnows 8 (.if_icmp .ge 16) 3) (zk cX12_nobodyKnows 24 (.return_) 1)) (and (zk cX12_nobodyKnows 11 (.aload_n 0) 1) (zk cX12_nobodyKnows 12 (.getfield 145) 3)))) (and (and (and (zk cX12_nobodyKnows 15 (.iload_n 1) 1) (zk cX12_nobodyKnows 16 (.iconst 0) 1)) (and (zk cX12_nobodyKnows 17 (.bastore) 1) (zk cX12_nobodyKnows 18 (.iinc 1 1) 3))) (and (and (zk cX12_nobodyKnows 21 (.goto (-19)) 3) (zk cX12_nobodyKnows 0 (.iconst 0) 1)) (zk cX12_nobodyKnows 1 (.istore_n 1) 1)))) = true := by decide +kernel
theorem dX12_nobodyKnows_2 : decode cX12_nobodyKnows 2 = .ok (.iload_n 1, 1) := zk_of (zk_l (zk_l (zk_l (zk_l zdX12_nobodyKnows_2))))
theorem dX12_nobodyKnows_3 : decode cX12_nobodyKnows 3 = .ok (.aload_n 0, 1) := zk_of (zk_r (zk_l (zk_l (zk_l zdX12_nobodyKnows_2))))
theorem dX12_nobodyKnows_4 : decode cX12_nobodyKnows 4 = .ok (.getfield 145, 3) := zk_of (zk_l (zk_r (zk_l (zk_l zdX12_nobodyKnows_2))))
theorem dX12_nobodyKnows_7 : decode cX12_nobodyKnows 7 = .ok (.arraylength, 1) := zk_of (zk_r (zk_r (zk_l (zk_l zdX12_nobodyKnows_2))))
theorem dX12_nobodyKnows_8 : decode cX12_nobodyKnows 8 = .ok (.if_icmp .ge 16, 3) := zk_of (zk_l (zk_l (zk_r (zk_l zdX12_nobodyKnows_2))))
theorem dX12_nobodyKnows_24 : decode cX12_nobodyKnows 24 = .ok (.return_, 1) := zk_of (zk_r (zk_l (zk_r (zk_l zdX12_nobodyKnows_2))))
theorem dX12_nobodyKnows_11 : decode cX12_nobodyKnows 11 = .ok (.aload_n 0, 1) := zk_of (zk_l (zk_r (zk_r (zk_l zdX12_nobodyKnows_2))))
theorem dX12_nobodyKnows_12 : decode cX12_nobodyKnows 12 = .ok (.getfield 145, 3) := zk_of (zk_r (zk_r (zk_r (zk_l zdX12_nobodyKnows_2))))
theorem dX12_nobodyKnows_15 : decode cX12_nobodyKnows 15 = .ok (.iload_n 1, 1) := zk_of (zk_l (zk_l (zk_l (zk_r zdX12_nobodyKnows_2))))
theorem dX12_nobodyKnows_16 : decode cX12_nobodyKnows 16 = .ok (.iconst 0, 1) := zk_of (zk_r (zk_l (zk_l (zk_r zdX12_nobodyKnows_2))))
theorem dX12_nobodyKnows_17 : decode cX12_nobodyKnows 17 = .ok (.bastore, 1) := zk_of (zk_l (zk_r (zk_l (zk_r zdX12_nobodyKnows_2))))
theorem dX12_nobodyKnows_18 : decode cX12_nobodyKnows 18 = .ok (.iinc 1 1, 3) := zk_of (zk_r (zk_r (zk_l (zk_r zdX12_nobodyKnows_2))))
theorem dX12_nobodyKnows_21 : decode cX12_nobodyKnows 21 = .ok (.goto (-19), 3) := zk_of (zk_l (zk_l (zk_r (zk_r zdX12_nobodyKnows_2))))
theorem dX12_nobodyKnows_0 : decode cX12_nobodyKnows 0 = .ok (.iconst 0, 1) := zk_of (zk_r (zk_l (zk_r (zk_r zdX12_nobodyKnows_2))))
theorem dX12_nobodyKnows_1 : decode cX12_nobodyKnows 1 = .ok (.istore_n 1, 1) := zk_of (zk_r (zk_r (zk_r zdX12_nobodyKnows_2)))
/-- HissHornModel.nobodyKnows()V of cell 0 -/
def rmX12_nobodyKnows_0 : Room := { frames := 0, cells := 0, slots := 0, locals := 0 }
theorem hX12_nobodyKnows_0_X12 : ∀ w ∈ u_ws RX12 TX12 69, w ∈ wsX12_nobodyKnows := fun w h => (List.mem_cons_of_mem _ (List.mem_append_right _ h))
theorem mX12_nobodyKnows_0_1 : Cond.fieldLink RX12 145 "HissHornModel" "known" "[Z" ∈ wsX12_nobodyKnows := (List.mem_cons_of_mem _ (List.mem_append_left _ (List.mem_of_getElem? (i := 0) rfl)))
def LX12_nobodyKnows_0_2  : Nat → Int32 → SX → Option (Int32 × SX)
  | 0, _, _ => none
  | n + 1, z1, u => (if 480 ≤ z1 then (some (0, u)) else (gd (inb z1 480) (lt (sA u 42 (upd (u.2.1 42) z1.toNatClampNeg (vp_nar .boolean 0))) fun u2 => ((LX12_nobodyKnows_0_2 n) (z1 + 1) u2))))
def fX12_nobodyKnows_0  (u : SX) : Option (Int32 × SX) := (LX12_nobodyKnows_0_2  5000 0 u)
set_option maxHeartbeats 4000000 in
set_option maxRecDepth 100000 in
theorem wLX12_nobodyKnows_0_2 {p : Program} {l : Launch} {e : Env} {s : State} {m : MethodId} {args : Array Value} {below : List Frame} {meth : Method} {c : Code} {D : va_G} {cy : Nat → ClassId} {ad st : Nat → Nat} (C : Cx RX12 cX12_nobodyKnows 2 none wsX12_nobodyKnows p s m args meth c) (hK : Ky D [(cy 0, .int), (cy 1, .long), (cy 2, .boolean), (cy 3, .byte), (cy 4, .object "HissHorn$Text")] st s) (hJ : JM ad st) {r : Int32} {u' : SX}   : ∀ (n : Nat) (z1 : Int32) (u : SX) (H : Heap) (locs : List Loc) (ls : Array Slot), LX12_nobodyKnows_0_2  n z1 u = some (r, u') → va_P D vwCl (VM cy ad st u) H → va_S (Ax (AM ad) s.heap.size) s.heap H locs → lv_has ls 2 [(0, .ref (ad 0)), (1, .int z1)] → W p l e rmX12_nobodyKnows_0 s m args below meth c H locs 0 0 (MQ below (Qv D (VM cy ad st) (AM ad) s.heap.size r u') args s 0 0 (Ax (AM ad) s.heap.size)) (F0 m 2 ls []) := by
  intro n
  induction n with
  | zero =>
    intro z1 u H locs ls h
    exact absurd h (by intro q; cases q)
  | succ n ih =>
    intro z1 u H locs ls h hP hS hl
    rw [LX12_nobodyKnows_0_2] at h
    refine lv_iload_n C.1 C.2.1 dX12_nobodyKnows_2 rfl (lv_at hl 1 rfl) ?_
    refine lv_aload_n C.1 C.2.1 dX12_nobodyKnows_3 rfl (lv_at hl 0 rfl) ?_
    refine gM_0_known C hX12_nobodyKnows_0_X12 hK hP mX12_nobodyKnows_0_1 dX12_nobodyKnows_4 ?_
    refine va_alen (v := 480) C.1 C.2.1 hK.1 hP 42 2 rfl rfl rfl dX12_nobodyKnows_7 ?_
    refine lv_icmp_ge (tgt := 24) C.1 C.2.1 dX12_nobodyKnows_8 (by decide) (fun c8 => ?_) (fun c8 => ?_)
    · rw [if_pos c8] at h
      cases h
      exact rt_v C hP hS dX12_nobodyKnows_24
    · rw [if_neg c8] at h
      refine lv_aload_n C.1 C.2.1 dX12_nobodyKnows_11 rfl (lv_at hl 0 rfl) ?_
      refine gM_0_known C hX12_nobodyKnows_0_X12 hK hP mX12_nobodyKnows_0_1 dX12_nobodyKnows_12 ?_
      refine lv_iload_n C.1 C.2.1 dX12_nobodyKnows_15 rfl (lv_at hl 1 rfl) ?_
      refine lv_iconst (v := 0) C.1 C.2.1 dX12_nobodyKnows_16 (by decide) ?_
      obtain ⟨hg1, h⟩ := gd_some h
      refine tM_42 C hK hP hJ hS hg1 dX12_nobodyKnows_17 (fun H locs hP hS => ?_)
      obtain ⟨u2, hu3, h⟩ := lt_some h
      rw [← hu3] at hP
      refine lv_iinc (v := z1 + 1) (lv' := [(1, .int (z1 + 1)), (0, .ref (ad 0))]) C.1 C.2.1 dX12_nobodyKnows_18 hl (k := 1) rfl rfl (by decide) rfl (fun ls hl => ?_)
      replace hl := lv_sub (l' := [(0, .ref (ad 0)), (1, .int (z1 + 1))]) hl [1, 0] rfl
      refine lv_goto (tgt := 2) C.1 C.2.1 dX12_nobodyKnows_21 (by decide) ?_
      exact ih _ _ _ _ _ h hP hS hl
set_option maxHeartbeats 4000000 in
set_option maxRecDepth 100000 in
theorem wX12_nobodyKnows_0 {p : Program} {l : Launch} {e : Env} {s : State} {m : MethodId} {args : Array Value} {below : List Frame} {meth : Method} {c : Code} {D : va_G} {cy : Nat → ClassId} {ad st : Nat → Nat} (C : Cx RX12 cX12_nobodyKnows 2 none wsX12_nobodyKnows p s m args meth c) (hK : Ky D [(cy 0, .int), (cy 1, .long), (cy 2, .boolean), (cy 3, .byte), (cy 4, .object "HissHorn$Text")] st s) (hJ : JM ad st)  {u : SX} {r : Int32} {u' : SX} {H : Heap} {locs : List Loc} {ls : Array Slot} (h : fX12_nobodyKnows_0  u = some (r, u')) (hP : va_P D vwCl (VM cy ad st u) H) (hS : va_S (Ax (AM ad) s.heap.size) s.heap H locs) (hl : lv_has ls 2 [(0, .ref (ad 0))]) : W p l e rmX12_nobodyKnows_0 s m args below meth c H locs 0 0 (MQ below (Qv D (VM cy ad st) (AM ad) s.heap.size r u') args s 0 0 (Ax (AM ad) s.heap.size)) (F0 m 0 ls []) := by
  unfold fX12_nobodyKnows_0 at h
  refine lv_iconst (v := 0) C.1 C.2.1 dX12_nobodyKnows_0 (by decide) ?_
  refine lv_istore_n (lv' := [(1, .int 0), (0, .ref (ad 0))]) C.1 C.2.1 dX12_nobodyKnows_1 rfl hl (by decide) rfl (fun ls hl => ?_)
  replace hl := lv_sub (l' := [(0, .ref (ad 0)), (1, .int 0)]) hl [1, 0] rfl
  exact wLX12_nobodyKnows_0_2 C hK hJ  5000 _ _ _ _ _ h hP hS hl
theorem metX12_nobodyKnows_0 (l : Launch) (D : va_G) (cy : Nat → ClassId) (ad st : Nat → Nat) (hJ : JM ad st) (sz : Nat)  {u : SX} {r : Int32} {u' : SX} (h : fX12_nobodyKnows_0  u = some (r, u')) : Met l yX12_nobodyKnows wsX12_nobodyKnows rmX12_nobodyKnows_0 (va_Pc [.ref (ad 0)] (Px D [(cy 0, .int), (cy 1, .long), (cy 2, .boolean), (cy 3, .byte), (cy 4, .object "HissHorn$Text")] st (VM cy ad st) sz u)) (Qv D (VM cy ad st) (AM ad) sz r u') 0 0 (Ax (AM ad) sz) := by
  refine Met.ofW (cc := cX12_nobodyKnows) (maxL := 2) (ret := none) (by decide) rfl ?_
  intro p e s m args below meth c s₁ B hml hv
  obtain ⟨rfl, hsz, hP, hK⟩ := hv
  subst hsz
  have C : Cx RX12 cX12_nobodyKnows 2 none wsX12_nobodyKnows p s m _ meth c := ⟨B.exec, B.bytes, hml, B.returns, findClass_of_methodNamed B.named, atoms_spec (ws := wsX12_nobodyKnows) B.pre, B.notSynchronized⟩
  have hl := lv_entry ([.ref (ad 0)]) (n := 2) (Nat.le_of_ble_eq_true rfl)
  rw [lg_entry_eq]
  exact wX12_nobodyKnows_0 C hK hJ h hP va_S.rf hl

theorem zdX12_passes_13 : (and (and (and (and (and (zk cX12_passes 13 (.iload 4) 2) (zk cX12_passes 15 (.bipush 60) 2)) (and (zk cX12_passes 17 (.if_icmp .ge 29) 3) (zk cX12_passes 20 (.aload_n 0) 1))) (and (and (zk cX12_passes 21 (.getfield 148) 3) (zk cX12_passes 24 (.bipush 60) 2)) (and (zk cX12_passes 26 (.iload_n 3) 1) (zk cX12_passes 27 (.imul) 1)))) (and (and (and (zk cX12_passes 28 (.iload 4) 2) (zk cX12_passes 30 (.iadd) 1)) (and (zk cX12_passes 31 (.aload_n 0) 1) (zk cX12_passes 32 (.iload_n 3) 1))) (and (and (zk cX12_passes 33 (.iload 4) 2) (zk cX12_passes 35 (.iload_n 1) 1)) (and (zk cX12_passes 36 (.invokevirtual 457) 3) (zk cX12_passes 39 (.bastore) 1))))) (and (and (and (and (zk cX12_passes 40 (.iinc 4 1) 3) (zk cX12_passes 43 (.goto (-30)) 3)) (and (zk cX12_passes 46 (.iinc 3 1) 3) (zk cX12_passes 49 (.goto (-47)) 3))) (and (and (zk cX12_passes 2 (.iload_n 3) 1) (zk cX12_passes 3 (.aload_n 0) 1)) (and (zk cX12_passes 4 (.getfield 439) 3) (zk cX12_passes 7 (.if_icmp .ge 45) 3)))) (and (and (and (zk cX12_passes 10 (.iconst 0) 1) (zk cX12_passes 11 (.istore 4) 2)) (and (zk cX12_passes 120 (.iinc 4 1) 3) (zk cX12_passes 123 (.goto (-48)) 3))) (and (and (zk cX12_passes 75 (.iload 4) 2) (zk cX12_passes 77 (.bipush 60) 2)) (and (zk cX12_passes 79 (.if_icmp .ge 47) 3) (zk cX12_passes 82 (.aload_n 0) 1)))))) = true := by decide +kernel
theorem dX12_passes_13 : decode cX12_passes 13 = .ok (.iload 4, 2) := zk_of (zk_l (zk_l (zk_l (zk_l (zk_l zdX12_passes_13)))))
theorem dX12_passes_15 : decode cX12_passes 15 = .ok (.bipush 60, 2) := zk_of (zk_r (zk_l (zk_l (zk_l (zk_l zdX12_passes_13)))))
theorem dX12_passes_17 : decode cX12_passes 17 = .ok (.if_icmp .ge 29, 3) := zk_of (zk_l (zk_r (zk_l (zk_l (zk_l zdX12_passes_13)))))
theorem dX12_passes_20 : decode cX12_passes 20 = .ok (.aload_n 0, 1) := zk_of (zk_r (zk_r (zk_l (zk_l (zk_l zdX12_passes_13)))))
theorem dX12_passes_21 : decode cX12_passes 21 = .ok (.getfield 148, 3) := zk_of (zk_l (zk_l (zk_r (zk_l (zk_l zdX12_passes_13)))))
theorem dX12_passes_24 : decode cX12_passes 24 = .ok (.bipush 60, 2) := zk_of (zk_r (zk_l (zk_r (zk_l (zk_l zdX12_passes_13)))))
theorem dX12_passes_26 : decode cX12_passes 26 = .ok (.iload_n 3, 1) := zk_of (zk_l (zk_r (zk_r (zk_l (zk_l zdX12_passes_13)))))
theorem dX12_passes_27 : decode cX12_passes 27 = .ok (.imul, 1) := zk_of (zk_r (zk_r (zk_r (zk_l (zk_l zdX12_passes_13)))))
theorem dX12_passes_28 : decode cX12_passes 28 = .ok (.iload 4, 2) := zk_of (zk_l (zk_l (zk_l (zk_r (zk_l zdX12_passes_13)))))
theorem dX12_passes_30 : decode cX12_passes 30 = .ok (.iadd, 1) := zk_of (zk_r (zk_l (zk_l (zk_r (zk_l zdX12_passes_13)))))
theorem dX12_passes_31 : decode cX12_passes 31 = .ok (.aload_n 0, 1) := zk_of (zk_l (zk_r (zk_l (zk_r (zk_l zdX12_passes_13)))))
theorem dX12_passes_32 : decode cX12_passes 32 = .ok (.iload_n 3, 1) := zk_of (zk_r (zk_r (zk_l (zk_r (zk_l zdX12_passes_13)))))
theorem dX12_passes_33 : decode cX12_passes 33 = .ok (.iload 4, 2) := zk_of (zk_l (zk_l (zk_r (zk_r (zk_l zdX12_passes_13)))))
theorem dX12_passes_35 : decode cX12_passes 35 = .ok (.iload_n 1, 1) := zk_of (zk_r (zk_l (zk_r (zk_r (zk_l zdX12_passes_13)))))
theorem dX12_passes_36 : decode cX12_passes 36 = .ok (.invokevirtual 457, 3) := zk_of (zk_l (zk_r (zk_r (zk_r (zk_l zdX12_passes_13)))))
theorem dX12_passes_39 : decode cX12_passes 39 = .ok (.bastore, 1) := zk_of (zk_r (zk_r (zk_r (zk_r (zk_l zdX12_passes_13)))))
theorem dX12_passes_40 : decode cX12_passes 40 = .ok (.iinc 4 1, 3) := zk_of (zk_l (zk_l (zk_l (zk_l (zk_r zdX12_passes_13)))))
theorem dX12_passes_43 : decode cX12_passes 43 = .ok (.goto (-30), 3) := zk_of (zk_r (zk_l (zk_l (zk_l (zk_r zdX12_passes_13)))))
theorem dX12_passes_46 : decode cX12_passes 46 = .ok (.iinc 3 1, 3) := zk_of (zk_l (zk_r (zk_l (zk_l (zk_r zdX12_passes_13)))))
theorem dX12_passes_49 : decode cX12_passes 49 = .ok (.goto (-47), 3) := zk_of (zk_r (zk_r (zk_l (zk_l (zk_r zdX12_passes_13)))))
theorem dX12_passes_2 : decode cX12_passes 2 = .ok (.iload_n 3, 1) := zk_of (zk_l (zk_l (zk_r (zk_l (zk_r zdX12_passes_13)))))
theorem dX12_passes_3 : decode cX12_passes 3 = .ok (.aload_n 0, 1) := zk_of (zk_r (zk_l (zk_r (zk_l (zk_r zdX12_passes_13)))))
theorem dX12_passes_4 : decode cX12_passes 4 = .ok (.getfield 439, 3) := zk_of (zk_l (zk_r (zk_r (zk_l (zk_r zdX12_passes_13)))))
theorem dX12_passes_7 : decode cX12_passes 7 = .ok (.if_icmp .ge 45, 3) := zk_of (zk_r (zk_r (zk_r (zk_l (zk_r zdX12_passes_13)))))
theorem dX12_passes_10 : decode cX12_passes 10 = .ok (.iconst 0, 1) := zk_of (zk_l (zk_l (zk_l (zk_r (zk_r zdX12_passes_13)))))
theorem dX12_passes_11 : decode cX12_passes 11 = .ok (.istore 4, 2) := zk_of (zk_r (zk_l (zk_l (zk_r (zk_r zdX12_passes_13)))))
theorem dX12_passes_120 : decode cX12_passes 120 = .ok (.iinc 4 1, 3) := zk_of (zk_l (zk_r (zk_l (zk_r (zk_r zdX12_passes_13)))))
theorem dX12_passes_123 : decode cX12_passes 123 = .ok (.goto (-48), 3) := zk_of (zk_r (zk_r (zk_l (zk_r (zk_r zdX12_passes_13)))))
theorem dX12_passes_75 : decode cX12_passes 75 = .ok (.iload 4, 2) := zk_of (zk_l (zk_l (zk_r (zk_r (zk_r zdX12_passes_13)))))
theorem dX12_passes_77 : decode cX12_passes 77 = .ok (.bipush 60, 2) := zk_of (zk_r (zk_l (zk_r (zk_r (zk_r zdX12_passes_13)))))
theorem dX12_passes_79 : decode cX12_passes 79 = .ok (.if_icmp .ge 47, 3) := zk_of (zk_l (zk_r (zk_r (zk_r (zk_r zdX12_passes_13)))))
theorem dX12_passes_82 : decode cX12_passes 82 = .ok (.aload_n 0, 1) := zk_of (zk_r (zk_r (zk_r (zk_r (zk_r zdX12_passes_13)))))
set_option maxRecDepth 20000 in
theorem ggX12_passes_X12_knowsNow : GoodIn wsX12_passes wsX12_knowsNow := ggi (fun w h => List.mem_cons_of_mem _ (List.mem_append_left _ (List.mem_append_right _ h))) gs_X12_knowsNow
set_option maxRecDepth 20000 in
theorem gX12_passes_X12_knowsNow : GoodIn wsX12_passes (wsV RX12 457 RX12 yX12_knowsNow wsX12_knowsNow) := goodIn_app (goodIn_of _ (by decide +kernel)) ggX12_passes_X12_knowsNow
theorem zdX12_passes_83 : (and (and (and (and (and (zk cX12_passes 83 (.getfield 145) 3) (zk cX12_passes 86 (.bipush 60) 2)) (and (zk cX12_passes 88 (.aload_n 0) 1) (zk cX12_passes 89 (.getfield 136) 3))) (and (and (zk cX12_passes 92 (.iload_n 3) 1) (zk cX12_passes 93 (.iaload) 1)) (and (zk cX12_passes 94 (.imul) 1) (zk cX12_passes 95 (.iload 4) 2)))) (and (and (and (zk cX12_passes 97 (.iadd) 1) (zk cX12_passes 98 (.baload) 1)) (and (zk cX12_passes 99 (.ifCond .eq 21) 3) (zk cX12_passes 102 (.aload_n 0) 1))) (and (and (zk cX12_passes 103 (.getfield 148) 3) (zk cX12_passes 106 (.bipush 60) 2)) (and (zk cX12_passes 108 (.aload_n 0) 1) (zk cX12_passes 109 (.getfield 139) 3))))) (and (and (and (and (zk cX12_passes 112 (.iload_n 3) 1) (zk cX12_passes 113 (.iaload) 1)) (and (zk cX12_passes 114 (.imul) 1) (zk cX12_passes 115 (.iload 4) 2))) (and (and (zk cX12_passes 117 (.iadd) 1) (zk cX12_passes 118 (.iconst 1) 1)) (and (zk cX12_passes 119 (.bastore) 1) (zk cX12_passes 126 (.iinc 3 1) 3)))) (and (and (and (zk cX12_passes 129 (.goto (-75)) 3) (zk cX12_passes 54 (.iload_n 3) 1)) (and (zk cX12_passes 55 (.iload_n 2) 1) (zk cX12_passes 56 (.if_icmp .ge 76) 3))) (and (and (zk cX12_passes 59 (.aload_n 0) 1) (zk cX12_passes 60 (.getfield 142) 3)) (and (zk cX12_passes 63 (.iload_n 3) 1) (zk cX12_passes 64 (.iaload) 1)))))) = true := by decide +kernel
theorem dX12_passes_83 : decode cX12_passes 83 = .ok (.getfield 145, 3) := zk_of (zk_l (zk_l (zk_l (zk_l (zk_l zdX12_passes_83)))))
theorem dX12_passes_86 : decode cX12_passes 86 = .ok (.bipush 60, 2) := zk_of (zk_r (zk_l (zk_l (zk_l (zk_l zdX12_passes_83)))))
theorem dX12_passes_88 : decode cX12_passes 88 = .ok (.aload_n 0, 1) := zk_of (zk_l (zk_r (zk_l (zk_l (zk_l zdX12_passes_83)))))
theorem dX12_passes_89 : decode cX12_passes 89 = .ok (.getfield 136, 3) := zk_of (zk_r (zk_r (zk_l (zk_l (zk_l zdX12_passes_83)))))
theorem dX12_passes_92 : decode cX12_passes 92 = .ok (.iload_n 3, 1) := zk_of (zk_l (zk_l (zk_r (zk_l (zk_l zdX12_passes_83)))))
theorem dX12_passes_93 : decode cX12_passes 93 = .ok (.iaload, 1) := zk_of (zk_r (zk_l (zk_r (zk_l (zk_l zdX12_passes_83)))))
theorem dX12_passes_94 : decode cX12_passes 94 = .ok (.imul, 1) := zk_of (zk_l (zk_r (zk_r (zk_l (zk_l zdX12_passes_83)))))
theorem dX12_passes_95 : decode cX12_passes 95 = .ok (.iload 4, 2) := zk_of (zk_r (zk_r (zk_r (zk_l (zk_l zdX12_passes_83)))))
theorem dX12_passes_97 : decode cX12_passes 97 = .ok (.iadd, 1) := zk_of (zk_l (zk_l (zk_l (zk_r (zk_l zdX12_passes_83)))))
theorem dX12_passes_98 : decode cX12_passes 98 = .ok (.baload, 1) := zk_of (zk_r (zk_l (zk_l (zk_r (zk_l zdX12_passes_83)))))
theorem dX12_passes_99 : decode cX12_passes 99 = .ok (.ifCond .eq 21, 3) := zk_of (zk_l (zk_r (zk_l (zk_r (zk_l zdX12_passes_83)))))
theorem dX12_passes_102 : decode cX12_passes 102 = .ok (.aload_n 0, 1) := zk_of (zk_r (zk_r (zk_l (zk_r (zk_l zdX12_passes_83)))))
theorem dX12_passes_103 : decode cX12_passes 103 = .ok (.getfield 148, 3) := zk_of (zk_l (zk_l (zk_r (zk_r (zk_l zdX12_passes_83)))))
theorem dX12_passes_106 : decode cX12_passes 106 = .ok (.bipush 60, 2) := zk_of (zk_r (zk_l (zk_r (zk_r (zk_l zdX12_passes_83)))))
theorem dX12_passes_108 : decode cX12_passes 108 = .ok (.aload_n 0, 1) := zk_of (zk_l (zk_r (zk_r (zk_r (zk_l zdX12_passes_83)))))
theorem dX12_passes_109 : decode cX12_passes 109 = .ok (.getfield 139, 3) := zk_of (zk_r (zk_r (zk_r (zk_r (zk_l zdX12_passes_83)))))
theorem dX12_passes_112 : decode cX12_passes 112 = .ok (.iload_n 3, 1) := zk_of (zk_l (zk_l (zk_l (zk_l (zk_r zdX12_passes_83)))))
theorem dX12_passes_113 : decode cX12_passes 113 = .ok (.iaload, 1) := zk_of (zk_r (zk_l (zk_l (zk_l (zk_r zdX12_passes_83)))))
theorem dX12_passes_114 : decode cX12_passes 114 = .ok (.imul, 1) := zk_of (zk_l (zk_r (zk_l (zk_l (zk_r zdX12_passes_83)))))
theorem dX12_passes_115 : decode cX12_passes 115 = .ok (.iload 4, 2) := zk_of (zk_r (zk_r (zk_l (zk_l (zk_r zdX12_passes_83)))))
theorem dX12_passes_117 : decode cX12_passes 117 = .ok (.iadd, 1) := zk_of (zk_l (zk_l (zk_r (zk_l (zk_r zdX12_passes_83)))))
theorem dX12_passes_118 : decode cX12_passes 118 = .ok (.iconst 1, 1) := zk_of (zk_r (zk_l (zk_r (zk_l (zk_r zdX12_passes_83)))))
theorem dX12_passes_119 : decode cX12_passes 119 = .ok (.bastore, 1) := zk_of (zk_l (zk_r (zk_r (zk_l (zk_r zdX12_passes_83)))))
theorem dX12_passes_126 : decode cX12_passes 126 = .ok (.iinc 3 1, 3) := zk_of (zk_r (zk_r (zk_r (zk_l (zk_r zdX12_passes_83)))))
theorem dX12_passes_129 : decode cX12_passes 129 = .ok (.goto (-75), 3) := zk_of (zk_l (zk_l (zk_l (zk_r (zk_r zdX12_passes_83)))))
theorem dX12_passes_54 : decode cX12_passes 54 = .ok (.iload_n 3, 1) := zk_of (zk_r (zk_l (zk_l (zk_r (zk_r zdX12_passes_83)))))
theorem dX12_passes_55 : decode cX12_passes 55 = .ok (.iload_n 2, 1) := zk_of (zk_l (zk_r (zk_l (zk_r (zk_r zdX12_passes_83)))))
theorem dX12_passes_56 : decode cX12_passes 56 = .ok (.if_icmp .ge 76, 3) := zk_of (zk_r (zk_r (zk_l (zk_r (zk_r zdX12_passes_83)))))
theorem dX12_passes_59 : decode cX12_passes 59 = .ok (.aload_n 0, 1) := zk_of (zk_l (zk_l (zk_r (zk_r (zk_r zdX12_passes_83)))))
theorem dX12_passes_60 : decode cX12_passes 60 = .ok (.getfield 142, 3) := zk_of (zk_r (zk_l (zk_r (zk_r (zk_r zdX12_passes_83)))))
theorem dX12_passes_63 : decode cX12_passes 63 = .ok (.iload_n 3, 1) := zk_of (zk_l (zk_r (zk_r (zk_r (zk_r zdX12_passes_83)))))
theorem dX12_passes_64 : decode cX12_passes 64 = .ok (.iaload, 1) := zk_of (zk_r (zk_r (zk_r (zk_r (zk_r zdX12_passes_83)))))
theorem zdX12_passes_65 : (and (and (and (and (and (zk cX12_passes 65 (.iload_n 1) 1) (zk cX12_passes 66 (.if_icmp .eq 6) 3)) (and (zk cX12_passes 72 (.iconst 0) 1) (zk cX12_passes 73 (.istore 4) 2))) (and (and (zk cX12_passes 69 (.goto 57) 3) (zk cX12_passes 134 (.iload_n 3) 1)) (zk cX12_passes 135 (.aload_n 0) 1))) (and (and (and (zk cX12_passes 136 (.getfield 145) 3) (zk cX12_passes 139 (.arraylength) 1)) (and (zk cX12_passes 140 (.if_icmp .ge 21) 3) (zk cX12_passes 161 (.return_) 1))) (and (and (zk cX12_passes 143 (.aload_n 0) 1) (zk cX12_passes 144 (.getfield 145) 3)) (zk cX12_passes 147 (.iload_n 3) 1)))) (and (and (and (and (zk cX12_passes 148 (.aload_n 0) 1) (zk cX12_passes 149 (.getfield 148) 3)) (and (zk cX12_passes 152 (.iload_n 3) 1) (zk cX12_passes 153 (.baload) 1))) (and (and (zk cX12_passes 154 (.bastore) 1) (zk cX12_passes 155 (.iinc 3 1) 3)) (zk cX12_passes 158 (.goto (-24)) 3))) (and (and (and (zk cX12_passes 132 (.iconst 0) 1) (zk cX12_passes 133 (.istore_n 3) 1)) (zk cX12_passes 52 (.iconst 0) 1)) (and (and (zk cX12_passes 53 (.istore_n 3) 1) (zk cX12_passes 0 (.iconst 0) 1)) (zk cX12_passes 1 (.istore_n 3) 1))))) = true := by decide +kernel
theorem dX12_passes_65 : decode cX12_passes 65 = .ok (.iload_n 1, 1) := zk_of (zk_l (zk_l (zk_l (zk_l (zk_l zdX12_passes_65)))))
theorem dX12_passes_66 : decode cX12_passes 66 = .ok (.if_icmp .eq 6, 3) := zk_of (zk_r (zk_l (zk_l (zk_l (zk_l zdX12_passes_65)))))
theorem dX12_passes_72 : decode cX12_passes 72 = .ok (.iconst 0, 1) := zk_of (zk_l (zk_r (zk_l (zk_l (zk_l zdX12_passes_65)))))
theorem dX12_passes_73 : decode cX12_passes 73 = .ok (.istore 4, 2) := zk_of (zk_r (zk_r (zk_l (zk_l (zk_l zdX12_passes_65)))))
theorem dX12_passes_69 : decode cX12_passes 69 = .ok (.goto 57, 3) := zk_of (zk_l (zk_l (zk_r (zk_l (zk_l zdX12_passes_65)))))
theorem dX12_passes_134 : decode cX12_passes 134 = .ok (.iload_n 3, 1) := zk_of (zk_r (zk_l (zk_r (zk_l (zk_l zdX12_passes_65)))))
theorem dX12_passes_135 : decode cX12_passes 135 = .ok (.aload_n 0, 1) := zk_of (zk_r (zk_r (zk_l (zk_l zdX12_passes_65))))
theorem dX12_passes_136 : decode cX12_passes 136 = .ok (.getfield 145, 3) := zk_of (zk_l (zk_l (zk_l (zk_r (zk_l zdX12_passes_65)))))
theorem dX12_passes_139 : decode cX12_passes 139 = .ok (.arraylength, 1) := zk_of (zk_r (zk_l (zk_l (zk_r (zk_l zdX12_passes_65)))))
theorem dX12_passes_140 : decode cX12_passes 140 = .ok (.if_icmp .ge 21, 3) := zk_of (zk_l (zk_r (zk_l (zk_r (zk_l zdX12_passes_65)))))
theorem dX12_passes_161 : decode cX12_passes 161 = .ok (.return_, 1) := zk_of (zk_r (zk_r (zk_l (zk_r (zk_l zdX12_passes_65)))))
theorem dX12_passes_143 : decode cX12_passes 143 = .ok (.aload_n 0, 1) := zk_of (zk_l (zk_l (zk_r (zk_r (zk_l zdX12_passes_65)))))
theorem dX12_passes_144 : decode cX12_passes 144 = .ok (.getfield 145, 3) := zk_of (zk_r (zk_l (zk_r (zk_r (zk_l zdX12_passes_65)))))
theorem dX12_passes_147 : decode cX12_passes 147 = .ok (.iload_n 3, 1) := zk_of (zk_r (zk_r (zk_r (zk_l zdX12_passes_65))))
theorem dX12_passes_148 : decode cX12_passes 148 = .ok (.aload_n 0, 1) := zk_of (zk_l (zk_l (zk_l (zk_l (zk_r zdX12_passes_65)))))
theorem dX12_passes_149 : decode cX12_passes 149 = .ok (.getfield 148, 3) := zk_of (zk_r (zk_l (zk_l (zk_l (zk_r zdX12_passes_65)))))
theorem dX12_passes_152 : decode cX12_passes 152 = .ok (.iload_n 3, 1) := zk_of (zk_l (zk_r (zk_l (zk_l (zk_r zdX12_passes_65)))))
theorem dX12_passes_153 : decode cX12_passes 153 = .ok (.baload, 1) := zk_of (zk_r (zk_r (zk_l (zk_l (zk_r zdX12_passes_65)))))
theorem dX12_passes_154 : decode cX12_passes 154 = .ok (.bastore, 1) := zk_of (zk_l (zk_l (zk_r (zk_l (zk_r zdX12_passes_65)))))
theorem dX12_passes_155 : decode cX12_passes 155 = .ok (.iinc 3 1, 3) := zk_of (zk_r (zk_l (zk_r (zk_l (zk_r zdX12_passes_65)))))
theorem dX12_passes_158 : decode cX12_passes 158 = .ok (.goto (-24), 3) := zk_of (zk_r (zk_r (zk_l (zk_r zdX12_passes_65))))
theorem dX12_passes_132 : decode cX12_passes 132 = .ok (.iconst 0, 1) := zk_of (zk_l (zk_l (zk_l (zk_r (zk_r zdX12_passes_65)))))
theorem dX12_passes_133 : decode cX12_passes 133 = .ok (.istore_n 3, 1) := zk_of (zk_r (zk_l (zk_l (zk_r (zk_r zdX12_passes_65)))))
theorem dX12_passes_52 : decode cX12_passes 52 = .ok (.iconst 0, 1) := zk_of (zk_r (zk_l (zk_r (zk_r zdX12_passes_65))))
theorem dX12_passes_53 : decode cX12_passes 53 = .ok (.istore_n 3, 1) := zk_of (zk_l (zk_l (zk_r (zk_r (zk_r zdX12_passes_65)))))
theorem dX12_passes_0 : decode cX12_passes 0 = .ok (.iconst 0, 1) := zk_of (zk_r (zk_l (zk_r (zk_r (zk_r zdX12_passes_65)))))
theorem dX12_passes_1 : decode cX12_passes 1 = .ok (.istore_n 3, 1) := zk_of (zk_r (zk_r (zk_r (zk_r zdX12_passes_65))))
/-- HissHornModel.passes(II)V of cell 0 -/
def rmX12_passes_0 : Room := { frames := 2, cells := 0, slots := 0, locals := 44 }
theorem hX12_passes_0_X12 : ∀ w ∈ u_ws RX12 TX12 69, w ∈ wsX12_passes := fun w h => (List.mem_cons_of_mem _ (List.mem_append_right _ h))
theorem mX12_passes_0_1 : Cond.fieldLink RX12 439 "HissHornModel" "houses" "I" ∈ wsX12_passes := (List.mem_cons_of_mem _ (List.mem_append_left _ (List.mem_append_left _ (List.mem_of_getElem? (i := 4) rfl))))
theorem mX12_passes_0_2 : Cond.fieldLink RX12 148 "HissHornModel" "newly" "[Z" ∈ wsX12_passes := (List.mem_cons_of_mem _ (List.mem_append_left _ (List.mem_append_left _ (List.mem_of_getElem? (i := 5) rfl))))
def LX12_passes_0_13 (k46 : Int32 → Int32 → Int32 → SX → Option (Int32 × SX)) : Nat → Int32 → Int32 → Int32 → Int32 → SX → Option (Int32 × SX)
  | 0, _, _, _, _, _ => none
  | n + 1, z1, z2, z3, z4, u => (if 60 ≤ z4 then (k46 z1 z2 z3 u) else ((fX12_knowsNow_0 z3 z4 z1 u).bind fun q => match q with | (r1, u2) => (gd (inb ((60 * z3) + z4) 480) (lt (sA u2 43 (upd (u2.2.1 43) ((60 * z3) + z4).toNatClampNeg (vp_nar .boolean r1))) fun u5 => ((LX12_passes_0_13 k46 n) z1 z2 z3 (z4 + 1) u5)))))
def GX12_passes_0_46 (k2 : Int32 → Int32 → Int32 → SX → Option (Int32 × SX)) (z1 : Int32) (z2 : Int32) (z3 : Int32) (u : SX) : Option (Int32 × SX) := (k2 z1 z2 (z3 + 1) u)
def LX12_passes_0_2 (k52 : Int32 → Int32 → SX → Option (Int32 × SX)) : Nat → Int32 → Int32 → Int32 → SX → Option (Int32 × SX)
  | 0, _, _, _, _ => none
  | n + 1, z1, z2, z3, u => (if (u.1 22) ≤ z3 then (k52 z1 z2 u) else (LX12_passes_0_13 (GX12_passes_0_46 (LX12_passes_0_2 k52 n)) 5000 z1 z2 z3 0 u))
theorem mX12_passes_0_3 : Cond.fieldLink RX12 142 "HissHornModel" "letterDay" "[I" ∈ wsX12_passes := (List.mem_cons_of_mem _ (List.mem_append_left _ (List.mem_append_left _ (List.mem_of_getElem? (i := 6) rfl))))
theorem mX12_passes_0_4 : Cond.fieldLink RX12 145 "HissHornModel" "known" "[Z" ∈ wsX12_passes := (List.mem_cons_of_mem _ (List.mem_append_left _ (List.mem_append_left _ (List.mem_of_getElem? (i := 7) rfl))))
theorem mX12_passes_0_5 : Cond.fieldLink RX12 136 "HissHornModel" "letterFrom" "[I" ∈ wsX12_passes := (List.mem_cons_of_mem _ (List.mem_append_left _ (List.mem_append_left _ (List.mem_of_getElem? (i := 8) rfl))))
def GX12_passes_0_120 (k75 : Int32 → Int32 → Int32 → Int32 → SX → Option (Int32 × SX)) (z1 : Int32) (z2 : Int32) (z3 : Int32) (z4 : Int32) (u : SX) : Option (Int32 × SX) := (k75 z1 z2 z3 (z4 + 1) u)
theorem mX12_passes_0_6 : Cond.fieldLink RX12 139 "HissHornModel" "letterTo" "[I" ∈ wsX12_passes := (List.mem_cons_of_mem _ (List.mem_append_left _ (List.mem_append_left _ (List.mem_of_getElem? (i := 9) rfl))))
def LX12_passes_0_75 (k126 : Int32 → Int32 → Int32 → SX → Option (Int32 × SX)) : Nat → Int32 → Int32 → Int32 → Int32 → SX → Option (Int32 × SX)
  | 0, _, _, _, _, _ => none
  | n + 1, z1, z2, z3, z4, u => (if 60 ≤ z4 then (k126 z1 z2 z3 u) else (gd (inb z3 61) (gd (inb ((60 * (u.2.1 39 z3.toNatClampNeg)) + z4) 480) (if (u.2.1 42 ((60 * (u.2.1 39 z3.toNatClampNeg)) + z4).toNatClampNeg) = 0 then (GX12_passes_0_120 (LX12_passes_0_75 k126 n) z1 z2 z3 z4 u) else (gd (inb z3 61) (gd (inb ((60 * (u.2.1 40 z3.toNatClampNeg)) + z4) 480) (lt (sA u 43 (upd (u.2.1 43) ((60 * (u.2.1 40 z3.toNatClampNeg)) + z4).toNatClampNeg (vp_nar .boolean 1))) fun u12 => (GX12_passes_0_120 (LX12_passes_0_75 k126 n) z1 z2 z3 z4 u12))))))))
def GX12_passes_0_126 (k54 : Int32 → Int32 → Int32 → SX → Option (Int32 × SX)) (z1 : Int32) (z2 : Int32) (z3 : Int32) (u : SX) : Option (Int32 × SX) := (k54 z1 z2 (z3 + 1) u)
def LX12_passes_0_54 (k132 : SX → Option (Int32 × SX)) : Nat → Int32 → Int32 → Int32 → SX → Option (Int32 × SX)
  | 0, _, _, _, _ => none
  | n + 1, z1, z2, z3, u => (if z2 ≤ z3 then (k132 u) else (gd (inb z3 61) (if (u.2.1 41 z3.toNatClampNeg) = z1 then (LX12_passes_0_75 (GX12_passes_0_126 (LX12_passes_0_54 k132 n)) 5000 z1 z2 z3 0 u) else (GX12_passes_0_126 (LX12_passes_0_54 k132 n) z1 z2 z3 u))))
def LX12_passes_0_134  : Nat → Int32 → SX → Option (Int32 × SX)
  | 0, _, _ => none
  | n + 1, z3, u => (if 480 ≤ z3 then (some (0, u)) else (gd (inb z3 480) (gd (inb z3 480) (lt (sA u 42 (upd (u.2.1 42) z3.toNatClampNeg (vp_nar .boolean (u.2.1 43 z3.toNatClampNeg)))) fun u16 => ((LX12_passes_0_134 n) (z3 + 1) u16)))))
def GX12_passes_0_132  (u : SX) : Option (Int32 × SX) := (LX12_passes_0_134  5000 0 u)
def GX12_passes_0_52 (z1 : Int32) (z2 : Int32) (u : SX) : Option (Int32 × SX) := (LX12_passes_0_54 GX12_passes_0_132 5000 z1 z2 0 u)
def fX12_passes_0 (x1 : Int32) (x2 : Int32) (u : SX) : Option (Int32 × SX) := (LX12_passes_0_2 GX12_passes_0_52 5000 x1 x2 0 u)
set_option maxHeartbeats 4000000 in
set_option maxRecDepth 100000 in
theorem wLX12_passes_0_13 {p : Program} {l : Launch} {e : Env} {s : State} {m : MethodId} {args : Array Value} {below : List Frame} {meth : Method} {c : Code} {D : va_G} {cy : Nat → ClassId} {ad st : Nat → Nat} (C : Cx RX12 cX12_passes 5 none wsX12_passes p s m args meth c) (hK : Ky D [(cy 0, .int), (cy 1, .long), (cy 2, .boolean), (cy 3, .byte), (cy 4, .object "HissHorn$Text")] st s) (hJ : JM ad st) {r : Int32} {u' : SX} {k46 : Int32 → Int32 → Int32 → SX → Option (Int32 × SX)} (hk46 : ∀ (z1 : Int32) (z2 : Int32) (z3 : Int32) (u : SX) (H : Heap) (locs : List Loc) (ls : Array Slot), k46 z1 z2 z3 u = some (r, u') → va_P D vwCl (VM cy ad st u) H → va_S (Ax (AM ad) s.heap.size) s.heap H locs → lv_has ls 5 [(0, .ref (ad 0)), (1, .int z1), (2, .int z2), (3, .int z3)] → W p l e rmX12_passes_0 s m args below meth c H locs 0 0 (MQ below (Qv D (VM cy ad st) (AM ad) s.heap.size r u') args s 0 0 (Ax (AM ad) s.heap.size)) (F0 m 46 ls [])) : ∀ (n : Nat) (z1 : Int32) (z2 : Int32) (z3 : Int32) (z4 : Int32) (u : SX) (H : Heap) (locs : List Loc) (ls : Array Slot), LX12_passes_0_13 k46 n z1 z2 z3 z4 u = some (r, u') → va_P D vwCl (VM cy ad st u) H → va_S (Ax (AM ad) s.heap.size) s.heap H locs → lv_has ls 5 [(0, .ref (ad 0)), (1, .int z1), (2, .int z2), (3, .int z3), (4, .int z4)] → W p l e rmX12_passes_0 s m args below meth c H locs 0 0 (MQ below (Qv D (VM cy ad st) (AM ad) s.heap.size r u') args s 0 0 (Ax (AM ad) s.heap.size)) (F0 m 13 ls []) := by
  intro n
  induction n with
  | zero =>
    intro z1 z2 z3 z4 u H locs ls h
    exact absurd h (by intro q; cases q)
  | succ n ih =>
    intro z1 z2 z3 z4 u H locs ls h hP hS hl
    rw [LX12_passes_0_13] at h
    refine lv_iload C.1 C.2.1 dX12_passes_13 (lv_at hl 4 rfl) ?_
    refine lv_bipush (v := 60) C.1 C.2.1 dX12_passes_15 (by decide) ?_
    refine lv_icmp_ge (tgt := 46) C.1 C.2.1 dX12_passes_17 (by decide) (fun c17 => ?_) (fun c17 => ?_)
    · rw [if_pos c17] at h
      exact hk46 _ _ _ _ _ _ _ h hP hS (lv_sub hl [0, 1, 2, 3] rfl)
    · rw [if_neg c17] at h
      refine lv_aload_n C.1 C.2.1 dX12_passes_20 rfl (lv_at hl 0 rfl) ?_
      refine gM_0_newly C hX12_passes_0_X12 hK hP mX12_passes_0_2 dX12_passes_21 ?_
      refine lv_bipush (v := 60) C.1 C.2.1 dX12_passes_24 (by decide) ?_
      refine lv_iload_n C.1 C.2.1 dX12_passes_26 rfl (lv_at hl 3 rfl) ?_
      refine lv_imul C.1 C.2.1 dX12_passes_27 ?_
      refine lv_iload C.1 C.2.1 dX12_passes_28 (lv_at hl 4 rfl) ?_
      refine lv_iadd C.1 C.2.1 dX12_passes_30 ?_
      refine lv_aload_n C.1 C.2.1 dX12_passes_31 rfl (lv_at hl 0 rfl) ?_
      refine lv_iload_n C.1 C.2.1 dX12_passes_32 rfl (lv_at hl 3 rfl) ?_
      refine lv_iload C.1 C.2.1 dX12_passes_33 (lv_at hl 4 rfl) ?_
      refine lv_iload_n C.1 C.2.1 dX12_passes_35 rfl (lv_at hl 1 rfl) ?_
      obtain ⟨⟨r1, u2⟩, hc3, h⟩ := bd_some h
      try dsimp only at h
      refine cg_i (As := [.int z3, .int z4, .int z1]) (rest := [.int ((60 * z3) + z4), .ref (ad 43)]) (AM_ge hJ) C hK hP hS (metX12_knowsNow_0 l D cy ad st hJ _ z3 z4 z1 hc3) (cwV 3 C.2.2.2.2.2.1 gX12_passes_X12_knowsNow rfl rfl rfl (by decide +kernel) ⟨(Nat.le_of_ble_eq_true rfl), (Nat.le_of_ble_eq_true rfl)⟩) 0 12 rfl rfl rfl hl.1 rfl (Nat.le_of_ble_eq_true rfl) dX12_passes_36 ⟨Nat.zero_le _, Nat.zero_le _⟩ (fun H locs hP hS => ?_)
      obtain ⟨hg4, h⟩ := gd_some h
      refine tM_43 C hK hP hJ hS hg4 dX12_passes_39 (fun H locs hP hS => ?_)
      obtain ⟨u5, hu6, h⟩ := lt_some h
      rw [← hu6] at hP
      refine lv_iinc (v := z4 + 1) (lv' := [(4, .int (z4 + 1)), (0, .ref (ad 0)), (1, .int z1), (2, .int z2), (3, .int z3)]) C.1 C.2.1 dX12_passes_40 hl (k := 4) rfl rfl (by decide) rfl (fun ls hl => ?_)
      replace hl := lv_sub (l' := [(0, .ref (ad 0)), (1, .int z1), (2, .int z2), (3, .int z3), (4, .int (z4 + 1))]) hl [1, 2, 3, 4, 0] rfl
      refine lv_goto (tgt := 13) C.1 C.2.1 dX12_passes_43 (by decide) ?_
      exact ih _ _ _ _ _ _ _ _ h hP hS hl
set_option maxHeartbeats 4000000 in
set_option maxRecDepth 100000 in
theorem wGX12_passes_0_46 {p : Program} {l : Launch} {e : Env} {s : State} {m : MethodId} {args : Array Value} {below : List Frame} {meth : Method} {c : Code} {D : va_G} {cy : Nat → ClassId} {ad st : Nat → Nat} (C : Cx RX12 cX12_passes 5 none wsX12_passes p s m args meth c) (hK : Ky D [(cy 0, .int), (cy 1, .long), (cy 2, .boolean), (cy 3, .byte), (cy 4, .object "HissHorn$Text")] st s) (hJ : JM ad st) {r : Int32} {u' : SX} {k2 : Int32 → Int32 → Int32 → SX → Option (Int32 × SX)} (hk2 : ∀ (z1 : Int32) (z2 : Int32) (z3 : Int32) (u : SX) (H : Heap) (locs : List Loc) (ls : Array Slot), k2 z1 z2 z3 u = some (r, u') → va_P D vwCl (VM cy ad st u) H → va_S (Ax (AM ad) s.heap.size) s.heap H locs → lv_has ls 5 [(0, .ref (ad 0)), (1, .int z1), (2, .int z2), (3, .int z3)] → W p l e rmX12_passes_0 s m args below meth c H locs 0 0 (MQ below (Qv D (VM cy ad st) (AM ad) s.heap.size r u') args s 0 0 (Ax (AM ad) s.heap.size)) (F0 m 2 ls [])) (z1 : Int32) (z2 : Int32) (z3 : Int32) (u : SX) (H : Heap) (locs : List Loc) (ls : Array Slot) (h : GX12_passes_0_46 k2 z1 z2 z3 u = some (r, u')) (hP : va_P D vwCl (VM cy ad st u) H) (hS : va_S (Ax (AM ad) s.heap.size) s.heap H locs) (hl : lv_has ls 5 [(0, .ref (ad 0)), (1, .int z1), (2, .int z2), (3, .int z3)]) : W p l e rmX12_passes_0 s m args below meth c H locs 0 0 (MQ below (Qv D (VM cy ad st) (AM ad) s.heap.size r u') args s 0 0 (Ax (AM ad) s.heap.size)) (F0 m 46 ls []) := by
  unfold GX12_passes_0_46 at h
  refine lv_iinc (v := z3 + 1) (lv' := [(3, .int (z3 + 1)), (0, .ref (ad 0)), (1, .int z1), (2, .int z2)]) C.1 C.2.1 dX12_passes_46 hl (k := 3) rfl rfl (by decide) rfl (fun ls hl => ?_)
  replace hl := lv_sub (l' := [(0, .ref (ad 0)), (1, .int z1), (2, .int z2), (3, .int (z3 + 1))]) hl [1, 2, 3, 0] rfl
  refine lv_goto (tgt := 2) C.1 C.2.1 dX12_passes_49 (by decide) ?_
  exact hk2 _ _ _ _ _ _ _ h hP hS hl
set_option maxHeartbeats 4000000 in
set_option maxRecDepth 100000 in
theorem wLX12_passes_0_2 {p : Program} {l : Launch} {e : Env} {s : State} {m : MethodId} {args : Array Value} {below : List Frame} {meth : Method} {c : Code} {D : va_G} {cy : Nat → ClassId} {ad st : Nat → Nat} (C : Cx RX12 cX12_passes 5 none wsX12_passes p s m args meth c) (hK : Ky D [(cy 0, .int), (cy 1, .long), (cy 2, .boolean), (cy 3, .byte), (cy 4, .object "HissHorn$Text")] st s) (hJ : JM ad st) {r : Int32} {u' : SX} {k52 : Int32 → Int32 → SX → Option (Int32 × SX)} (hk52 : ∀ (z1 : Int32) (z2 : Int32) (u : SX) (H : Heap) (locs : List Loc) (ls : Array Slot), k52 z1 z2 u = some (r, u') → va_P D vwCl (VM cy ad st u) H → va_S (Ax (AM ad) s.heap.size) s.heap H locs → lv_has ls 5 [(0, .ref (ad 0)), (1, .int z1), (2, .int z2)] → W p l e rmX12_passes_0 s m args below meth c H locs 0 0 (MQ below (Qv D (VM cy ad st) (AM ad) s.heap.size r u') args s 0 0 (Ax (AM ad) s.heap.size)) (F0 m 52 ls [])) : ∀ (n : Nat) (z1 : Int32) (z2 : Int32) (z3 : Int32) (u : SX) (H : Heap) (locs : List Loc) (ls : Array Slot), LX12_passes_0_2 k52 n z1 z2 z3 u = some (r, u') → va_P D vwCl (VM cy ad st u) H → va_S (Ax (AM ad) s.heap.size) s.heap H locs → lv_has ls 5 [(0, .ref (ad 0)), (1, .int z1), (2, .int z2), (3, .int z3)] → W p l e rmX12_passes_0 s m args below meth c H locs 0 0 (MQ below (Qv D (VM cy ad st) (AM ad) s.heap.size r u') args s 0 0 (Ax (AM ad) s.heap.size)) (F0 m 2 ls []) := by
  intro n
  induction n with
  | zero =>
    intro z1 z2 z3 u H locs ls h
    exact absurd h (by intro q; cases q)
  | succ n ih =>
    intro z1 z2 z3 u H locs ls h hP hS hl
    rw [LX12_passes_0_2] at h
    refine lv_iload_n C.1 C.2.1 dX12_passes_2 rfl (lv_at hl 3 rfl) ?_
    refine lv_aload_n C.1 C.2.1 dX12_passes_3 rfl (lv_at hl 0 rfl) ?_
    refine gM_0_houses C hX12_passes_0_X12 hK hP mX12_passes_0_1 dX12_passes_4 ?_
    refine lv_icmp_ge (tgt := 52) C.1 C.2.1 dX12_passes_7 (by decide) (fun c7 => ?_) (fun c7 => ?_)
    · rw [if_pos c7] at h
      exact hk52 _ _ _ _ _ _ h hP hS (lv_sub hl [0, 1, 2] rfl)
    · rw [if_neg c7] at h
      refine lv_iconst (v := 0) C.1 C.2.1 dX12_passes_10 (by decide) ?_
      refine lv_istore (lv' := [(4, .int 0), (0, .ref (ad 0)), (1, .int z1), (2, .int z2), (3, .int z3)]) C.1 C.2.1 dX12_passes_11 hl (by decide) rfl (fun ls hl => ?_)
      replace hl := lv_sub (l' := [(0, .ref (ad 0)), (1, .int z1), (2, .int z2), (3, .int z3), (4, .int 0)]) hl [1, 2, 3, 4, 0] rfl
      exact wLX12_passes_0_13 C hK hJ (wGX12_passes_0_46 C hK hJ ih) 5000 _ _ _ _ _ _ _ _ h hP hS hl
set_option maxHeartbeats 4000000 in
set_option maxRecDepth 100000 in
theorem wGX12_passes_0_120 {p : Program} {l : Launch} {e : Env} {s : State} {m : MethodId} {args : Array Value} {below : List Frame} {meth : Method} {c : Code} {D : va_G} {cy : Nat → ClassId} {ad st : Nat → Nat} (C : Cx RX12 cX12_passes 5 none wsX12_passes p s m args meth c) (hK : Ky D [(cy 0, .int), (cy 1, .long), (cy 2, .boolean), (cy 3, .byte), (cy 4, .object "HissHorn$Text")] st s) (hJ : JM ad st) {r : Int32} {u' : SX} {k75 : Int32 → Int32 → Int32 → Int32 → SX → Option (Int32 × SX)} (hk75 : ∀ (z1 : Int32) (z2 : Int32) (z3 : Int32) (z4 : Int32) (u : SX) (H : Heap) (locs : List Loc) (ls : Array Slot), k75 z1 z2 z3 z4 u = some (r, u') → va_P D vwCl (VM cy ad st u) H → va_S (Ax (AM ad) s.heap.size) s.heap H locs → lv_has ls 5 [(0, .ref (ad 0)), (1, .int z1), (2, .int z2), (3, .int z3), (4, .int z4)] → W p l e rmX12_passes_0 s m args below meth c H locs 0 0 (MQ below (Qv D (VM cy ad st) (AM ad) s.heap.size r u') args s 0 0 (Ax (AM ad) s.heap.size)) (F0 m 75 ls [])) (z1 : Int32) (z2 : Int32) (z3 : Int32) (z4 : Int32) (u : SX) (H : Heap) (locs : List Loc) (ls : Array Slot) (h : GX12_passes_0_120 k75 z1 z2 z3 z4 u = some (r, u')) (hP : va_P D vwCl (VM cy ad st u) H) (hS : va_S (Ax (AM ad) s.heap.size) s.heap H locs) (hl : lv_has ls 5 [(0, .ref (ad 0)), (1, .int z1), (2, .int z2), (3, .int z3), (4, .int z4)]) : W p l e rmX12_passes_0 s m args below meth c H locs 0 0 (MQ below (Qv D (VM cy ad st) (AM ad) s.heap.size r u') args s 0 0 (Ax (AM ad) s.heap.size)) (F0 m 120 ls []) := by
  unfold GX12_passes_0_120 at h
  refine lv_iinc (v := z4 + 1) (lv' := [(4, .int (z4 + 1)), (0, .ref (ad 0)), (1, .int z1), (2, .int z2), (3, .int z3)]) C.1 C.2.1 dX12_passes_120 hl (k := 4) rfl rfl (by decide) rfl (fun ls hl => ?_)
  replace hl := lv_sub (l' := [(0, .ref (ad 0)), (1, .int z1), (2, .int z2), (3, .int z3), (4, .int (z4 + 1))]) hl [1, 2, 3, 4, 0] rfl
  refine lv_goto (tgt := 75) C.1 C.2.1 dX12_passes_123 (by decide) ?_
  exact hk75 _ _ _ _ _ _ _ _ h hP hS hl
set_option maxHeartbeats 4000000 in
set_option maxRecDepth 100000 in
theorem wLX12_passes_0_75 {p : Program} {l : Launch} {e : Env} {s : State} {m : MethodId} {args : Array Value} {below : List Frame} {meth : Method} {c : Code} {D : va_G} {cy : Nat → ClassId} {ad st : Nat → Nat} (C : Cx RX12 cX12_passes 5 none wsX12_passes p s m args meth c) (hK : Ky D [(cy 0, .int), (cy 1, .long), (cy 2, .boolean), (cy 3, .byte), (cy 4, .object "HissHorn$Text")] st s) (hJ : JM ad st) {r : Int32} {u' : SX} {k126 : Int32 → Int32 → Int32 → SX → Option (Int32 × SX)} (hk126 : ∀ (z1 : Int32) (z2 : Int32) (z3 : Int32) (u : SX) (H : Heap) (locs : List Loc) (ls : Array Slot), k126 z1 z2 z3 u = some (r, u') → va_P D vwCl (VM cy ad st u) H → va_S (Ax (AM ad) s.heap.size) s.heap H locs → lv_has ls 5 [(0, .ref (ad 0)), (1, .int z1), (2, .int z2), (3, .int z3)] → W p l e rmX12_passes_0 s m args below meth c H locs 0 0 (MQ below (Qv D (VM cy ad st) (AM ad) s.heap.size r u') args s 0 0 (Ax (AM ad) s.heap.size)) (F0 m 126 ls [])) : ∀ (n : Nat) (z1 : Int32) (z2 : Int32) (z3 : Int32) (z4 : Int32) (u : SX) (H : Heap) (locs : List Loc) (ls : Array Slot), LX12_passes_0_75 k126 n z1 z2 z3 z4 u = some (r, u') → va_P D vwCl (VM cy ad st u) H → va_S (Ax (AM ad) s.heap.size) s.heap H locs → lv_has ls 5 [(0, .ref (ad 0)), (1, .int z1), (2, .int z2), (3, .int z3), (4, .int z4)] → W p l e rmX12_passes_0 s m args below meth c H locs 0 0 (MQ below (Qv D (VM cy ad st) (AM ad) s.heap.size r u') args s 0 0 (Ax (AM ad) s.heap.size)) (F0 m 75 ls []) := by
  intro n
  induction n with
  | zero =>
    intro z1 z2 z3 z4 u H locs ls h
    exact absurd h (by intro q; cases q)
  | succ n ih =>
    intro z1 z2 z3 z4 u H locs ls h hP hS hl
    rw [LX12_passes_0_75] at h
    refine lv_iload C.1 C.2.1 dX12_passes_75 (lv_at hl 4 rfl) ?_
    refine lv_bipush (v := 60) C.1 C.2.1 dX12_passes_77 (by decide) ?_
    refine lv_icmp_ge (tgt := 126) C.1 C.2.1 dX12_passes_79 (by decide) (fun c79 => ?_) (fun c79 => ?_)
    · rw [if_pos c79] at h
      exact hk126 _ _ _ _ _ _ _ h hP hS (lv_sub hl [0, 1, 2, 3] rfl)
    · rw [if_neg c79] at h
      refine lv_aload_n C.1 C.2.1 dX12_passes_82 rfl (lv_at hl 0 rfl) ?_
      refine gM_0_known C hX12_passes_0_X12 hK hP mX12_passes_0_4 dX12_passes_83 ?_
      refine lv_bipush (v := 60) C.1 C.2.1 dX12_passes_86 (by decide) ?_
      refine lv_aload_n C.1 C.2.1 dX12_passes_88 rfl (lv_at hl 0 rfl) ?_
      refine gM_0_letterFrom C hX12_passes_0_X12 hK hP mX12_passes_0_5 dX12_passes_89 ?_
      refine lv_iload_n C.1 C.2.1 dX12_passes_92 rfl (lv_at hl 3 rfl) ?_
      obtain ⟨hg8, h⟩ := gd_some h
      refine lM_39 C hK hP hg8 dX12_passes_93 ?_
      refine lv_imul C.1 C.2.1 dX12_passes_94 ?_
      refine lv_iload C.1 C.2.1 dX12_passes_95 (lv_at hl 4 rfl) ?_
      refine lv_iadd C.1 C.2.1 dX12_passes_97 ?_
      obtain ⟨hg9, h⟩ := gd_some h
      refine lM_42 C hK hP hg9 dX12_passes_98 ?_
      refine lv_if_eq (tgt := 120) C.1 C.2.1 dX12_passes_99 (by decide) (fun c99 => ?_) (fun c99 => ?_)
      · rw [if_pos c99] at h
        exact wGX12_passes_0_120 C hK hJ ih _ _ _ _ _ _ _ _ h hP hS hl
      · rw [if_neg c99] at h
        refine lv_aload_n C.1 C.2.1 dX12_passes_102 rfl (lv_at hl 0 rfl) ?_
        refine gM_0_newly C hX12_passes_0_X12 hK hP mX12_passes_0_2 dX12_passes_103 ?_
        refine lv_bipush (v := 60) C.1 C.2.1 dX12_passes_106 (by decide) ?_
        refine lv_aload_n C.1 C.2.1 dX12_passes_108 rfl (lv_at hl 0 rfl) ?_
        refine gM_0_letterTo C hX12_passes_0_X12 hK hP mX12_passes_0_6 dX12_passes_109 ?_
        refine lv_iload_n C.1 C.2.1 dX12_passes_112 rfl (lv_at hl 3 rfl) ?_
        obtain ⟨hg10, h⟩ := gd_some h
        refine lM_40 C hK hP hg10 dX12_passes_113 ?_
        refine lv_imul C.1 C.2.1 dX12_passes_114 ?_
        refine lv_iload C.1 C.2.1 dX12_passes_115 (lv_at hl 4 rfl) ?_
        refine lv_iadd C.1 C.2.1 dX12_passes_117 ?_
        refine lv_iconst (v := 1) C.1 C.2.1 dX12_passes_118 (by decide) ?_
        obtain ⟨hg11, h⟩ := gd_some h
        refine tM_43 C hK hP hJ hS hg11 dX12_passes_119 (fun H locs hP hS => ?_)
        obtain ⟨u12, hu13, h⟩ := lt_some h
        rw [← hu13] at hP
        exact wGX12_passes_0_120 C hK hJ ih _ _ _ _ _ _ _ _ h hP hS hl
set_option maxHeartbeats 4000000 in
set_option maxRecDepth 100000 in
theorem wGX12_passes_0_126 {p : Program} {l : Launch} {e : Env} {s : State} {m : MethodId} {args : Array Value} {below : List Frame} {meth : Method} {c : Code} {D : va_G} {cy : Nat → ClassId} {ad st : Nat → Nat} (C : Cx RX12 cX12_passes 5 none wsX12_passes p s m args meth c) (hK : Ky D [(cy 0, .int), (cy 1, .long), (cy 2, .boolean), (cy 3, .byte), (cy 4, .object "HissHorn$Text")] st s) (hJ : JM ad st) {r : Int32} {u' : SX} {k54 : Int32 → Int32 → Int32 → SX → Option (Int32 × SX)} (hk54 : ∀ (z1 : Int32) (z2 : Int32) (z3 : Int32) (u : SX) (H : Heap) (locs : List Loc) (ls : Array Slot), k54 z1 z2 z3 u = some (r, u') → va_P D vwCl (VM cy ad st u) H → va_S (Ax (AM ad) s.heap.size) s.heap H locs → lv_has ls 5 [(0, .ref (ad 0)), (1, .int z1), (2, .int z2), (3, .int z3)] → W p l e rmX12_passes_0 s m args below meth c H locs 0 0 (MQ below (Qv D (VM cy ad st) (AM ad) s.heap.size r u') args s 0 0 (Ax (AM ad) s.heap.size)) (F0 m 54 ls [])) (z1 : Int32) (z2 : Int32) (z3 : Int32) (u : SX) (H : Heap) (locs : List Loc) (ls : Array Slot) (h : GX12_passes_0_126 k54 z1 z2 z3 u = some (r, u')) (hP : va_P D vwCl (VM cy ad st u) H) (hS : va_S (Ax (AM ad) s.heap.size) s.heap H locs) (hl : lv_has ls 5 [(0, .ref (ad 0)), (1, .int z1), (2, .int z2), (3, .int z3)]) : W p l e rmX12_passes_0 s m args below meth c H locs 0 0 (MQ below (Qv D (VM cy ad st) (AM ad) s.heap.size r u') args s 0 0 (Ax (AM ad) s.heap.size)) (F0 m 126 ls []) := by
  unfold GX12_passes_0_126 at h
  refine lv_iinc (v := z3 + 1) (lv' := [(3, .int (z3 + 1)), (0, .ref (ad 0)), (1, .int z1), (2, .int z2)]) C.1 C.2.1 dX12_passes_126 hl (k := 3) rfl rfl (by decide) rfl (fun ls hl => ?_)
  replace hl := lv_sub (l' := [(0, .ref (ad 0)), (1, .int z1), (2, .int z2), (3, .int (z3 + 1))]) hl [1, 2, 3, 0] rfl
  refine lv_goto (tgt := 54) C.1 C.2.1 dX12_passes_129 (by decide) ?_
  exact hk54 _ _ _ _ _ _ _ h hP hS hl
set_option maxHeartbeats 4000000 in
set_option maxRecDepth 100000 in
theorem wLX12_passes_0_54 {p : Program} {l : Launch} {e : Env} {s : State} {m : MethodId} {args : Array Value} {below : List Frame} {meth : Method} {c : Code} {D : va_G} {cy : Nat → ClassId} {ad st : Nat → Nat} (C : Cx RX12 cX12_passes 5 none wsX12_passes p s m args meth c) (hK : Ky D [(cy 0, .int), (cy 1, .long), (cy 2, .boolean), (cy 3, .byte), (cy 4, .object "HissHorn$Text")] st s) (hJ : JM ad st) {r : Int32} {u' : SX} {k132 : SX → Option (Int32 × SX)} (hk132 : ∀  (u : SX) (H : Heap) (locs : List Loc) (ls : Array Slot), k132 u = some (r, u') → va_P D vwCl (VM cy ad st u) H → va_S (Ax (AM ad) s.heap.size) s.heap H locs → lv_has ls 5 [(0, .ref (ad 0))] → W p l e rmX12_passes_0 s m args below meth c H locs 0 0 (MQ below (Qv D (VM cy ad st) (AM ad) s.heap.size r u') args s 0 0 (Ax (AM ad) s.heap.size)) (F0 m 132 ls [])) : ∀ (n : Nat) (z1 : Int32) (z2 : Int32) (z3 : Int32) (u : SX) (H : Heap) (locs : List Loc) (ls : Array Slot), LX12_passes_0_54 k132 n z1 z2 z3 u = some (r, u') → va_P D vwCl (VM cy ad st u) H → va_S (Ax (AM ad) s.heap.size) s.heap H locs → lv_has ls 5 [(0, .ref (ad 0)), (1, .int z1), (2, .int z2), (3, .int z3)] → W p l e rmX12_passes_0 s m args below meth c H locs 0 0 (MQ below (Qv D (VM cy ad st) (AM ad) s.heap.size r u') args s 0 0 (Ax (AM ad) s.heap.size)) (F0 m 54 ls []) := by
  intro n
  induction n with
  | zero =>
    intro z1 z2 z3 u H locs ls h
    exact absurd h (by intro q; cases q)
  | succ n ih =>
    intro z1 z2 z3 u H locs ls h hP hS hl
    rw [LX12_passes_0_54] at h
    refine lv_iload_n C.1 C.2.1 dX12_passes_54 rfl (lv_at hl 3 rfl) ?_
    refine lv_iload_n C.1 C.2.1 dX12_passes_55 rfl (lv_at hl 2 rfl) ?_
    refine lv_icmp_ge (tgt := 132) C.1 C.2.1 dX12_passes_56 (by decide) (fun c56 => ?_) (fun c56 => ?_)
    · rw [if_pos c56] at h
      exact hk132 _ _ _ _ h hP hS (lv_sub hl [0] rfl)
    · rw [if_neg c56] at h
      refine lv_aload_n C.1 C.2.1 dX12_passes_59 rfl (lv_at hl 0 rfl) ?_
      refine gM_0_letterDay C hX12_passes_0_X12 hK hP mX12_passes_0_3 dX12_passes_60 ?_
      refine lv_iload_n C.1 C.2.1 dX12_passes_63 rfl (lv_at hl 3 rfl) ?_
      obtain ⟨hg7, h⟩ := gd_some h
      refine lM_41 C hK hP hg7 dX12_passes_64 ?_
      refine lv_iload_n C.1 C.2.1 dX12_passes_65 rfl (lv_at hl 1 rfl) ?_
      refine lv_icmp_eq (tgt := 72) C.1 C.2.1 dX12_passes_66 (by decide) (fun c66 => ?_) (fun c66 => ?_)
      · rw [if_pos c66] at h
        refine lv_iconst (v := 0) C.1 C.2.1 dX12_passes_72 (by decide) ?_
        refine lv_istore (lv' := [(4, .int 0), (0, .ref (ad 0)), (1, .int z1), (2, .int z2), (3, .int z3)]) C.1 C.2.1 dX12_passes_73 hl (by decide) rfl (fun ls hl => ?_)
        replace hl := lv_sub (l' := [(0, .ref (ad 0)), (1, .int z1), (2, .int z2), (3, .int z3), (4, .int 0)]) hl [1, 2, 3, 4, 0] rfl
        exact wLX12_passes_0_75 C hK hJ (wGX12_passes_0_126 C hK hJ ih) 5000 _ _ _ _ _ _ _ _ h hP hS hl
      · rw [if_neg c66] at h
        refine lv_goto (tgt := 126) C.1 C.2.1 dX12_passes_69 (by decide) ?_
        exact wGX12_passes_0_126 C hK hJ ih _ _ _ _ _ _ _ h hP hS hl
set_option maxHeartbeats 4000000 in
set_option maxRecDepth 100000 in
theorem wLX12_passes_0_134 {p : Program} {l : Launch} {e : Env} {s : State} {m : MethodId} {args : Array Value} {below : List Frame} {meth : Method} {c : Code} {D : va_G} {cy : Nat → ClassId} {ad st : Nat → Nat} (C : Cx RX12 cX12_passes 5 none wsX12_passes p s m args meth c) (hK : Ky D [(cy 0, .int), (cy 1, .long), (cy 2, .boolean), (cy 3, .byte), (cy 4, .object "HissHorn$Text")] st s) (hJ : JM ad st) {r : Int32} {u' : SX}   : ∀ (n : Nat) (z3 : Int32) (u : SX) (H : Heap) (locs : List Loc) (ls : Array Slot), LX12_passes_0_134  n z3 u = some (r, u') → va_P D vwCl (VM cy ad st u) H → va_S (Ax (AM ad) s.heap.size) s.heap H locs → lv_has ls 5 [(0, .ref (ad 0)), (3, .int z3)] → W p l e rmX12_passes_0 s m args below meth c H locs 0 0 (MQ below (Qv D (VM cy ad st) (AM ad) s.heap.size r u') args s 0 0 (Ax (AM ad) s.heap.size)) (F0 m 134 ls []) := by
  intro n
  induction n with
  | zero =>
    intro z3 u H locs ls h
    exact absurd h (by intro q; cases q)
  | succ n ih =>
    intro z3 u H locs ls h hP hS hl
    rw [LX12_passes_0_134] at h
    refine lv_iload_n C.1 C.2.1 dX12_passes_134 rfl (lv_at hl 1 rfl) ?_
    refine lv_aload_n C.1 C.2.1 dX12_passes_135 rfl (lv_at hl 0 rfl) ?_
    refine gM_0_known C hX12_passes_0_X12 hK hP mX12_passes_0_4 dX12_passes_136 ?_
    refine va_alen (v := 480) C.1 C.2.1 hK.1 hP 42 2 rfl rfl rfl dX12_passes_139 ?_
    refine lv_icmp_ge (tgt := 161) C.1 C.2.1 dX12_passes_140 (by decide) (fun c140 => ?_) (fun c140 => ?_)
    · rw [if_pos c140] at h
      cases h
      exact rt_v C hP hS dX12_passes_161
    · rw [if_neg c140] at h
      refine lv_aload_n C.1 C.2.1 dX12_passes_143 rfl (lv_at hl 0 rfl) ?_
      refine gM_0_known C hX12_passes_0_X12 hK hP mX12_passes_0_4 dX12_passes_144 ?_
      refine lv_iload_n C.1 C.2.1 dX12_passes_147 rfl (lv_at hl 1 rfl) ?_
      refine lv_aload_n C.1 C.2.1 dX12_passes_148 rfl (lv_at hl 0 rfl) ?_
      refine gM_0_newly C hX12_passes_0_X12 hK hP mX12_passes_0_2 dX12_passes_149 ?_
      refine lv_iload_n C.1 C.2.1 dX12_passes_152 rfl (lv_at hl 1 rfl) ?_
      obtain ⟨hg14, h⟩ := gd_some h
      refine lM_43 C hK hP hg14 dX12_passes_153 ?_
      obtain ⟨hg15, h⟩ := gd_some h
      refine tM_42 C hK hP hJ hS hg15 dX12_passes_154 (fun H locs hP hS => ?_)
      obtain ⟨u16, hu17, h⟩ := lt_some h
      rw [← hu17] at hP
      refine lv_iinc (v := z3 + 1) (lv' := [(3, .int (z3 + 1)), (0, .ref (ad 0))]) C.1 C.2.1 dX12_passes_155 hl (k := 1) rfl rfl (by decide) rfl (fun ls hl => ?_)
      replace hl := lv_sub (l' := [(0, .ref (ad 0)), (3, .int (z3 + 1))]) hl [1, 0] rfl
      refine lv_goto (tgt := 134) C.1 C.2.1 dX12_passes_158 (by decide) ?_
      exact ih _ _ _ _ _ h hP hS hl
set_option maxHeartbeats 4000000 in
set_option maxRecDepth 100000 in
theorem wGX12_passes_0_132 {p : Program} {l : Launch} {e : Env} {s : State} {m : MethodId} {args : Array Value} {below : List Frame} {meth : Method} {c : Code} {D : va_G} {cy : Nat → ClassId} {ad st : Nat → Nat} (C : Cx RX12 cX12_passes 5 none wsX12_passes p s m args meth c) (hK : Ky D [(cy 0, .int), (cy 1, .long), (cy 2, .boolean), (cy 3, .byte), (cy 4, .object "HissHorn$Text")] st s) (hJ : JM ad st) {r : Int32} {u' : SX}   (u : SX) (H : Heap) (locs : List Loc) (ls : Array Slot) (h : GX12_passes_0_132  u = some (r, u')) (hP : va_P D vwCl (VM cy ad st u) H) (hS : va_S (Ax (AM ad) s.heap.size) s.heap H locs) (hl : lv_has ls 5 [(0, .ref (ad 0))]) : W p l e rmX12_passes_0 s m args below meth c H locs 0 0 (MQ below (Qv D (VM cy ad st) (AM ad) s.heap.size r u') args s 0 0 (Ax (AM ad) s.heap.size)) (F0 m 132 ls []) := by
  unfold GX12_passes_0_132 at h
  refine lv_iconst (v := 0) C.1 C.2.1 dX12_passes_132 (by decide) ?_
  refine lv_istore_n (lv' := [(3, .int 0), (0, .ref (ad 0))]) C.1 C.2.1 dX12_passes_133 rfl hl (by decide) rfl (fun ls hl => ?_)
  replace hl := lv_sub (l' := [(0, .ref (ad 0)), (3, .int 0)]) hl [1, 0] rfl
  exact wLX12_passes_0_134 C hK hJ  5000 _ _ _ _ _ h hP hS hl
set_option maxHeartbeats 4000000 in
set_option maxRecDepth 100000 in
theorem wGX12_passes_0_52 {p : Program} {l : Launch} {e : Env} {s : State} {m : MethodId} {args : Array Value} {below : List Frame} {meth : Method} {c : Code} {D : va_G} {cy : Nat → ClassId} {ad st : Nat → Nat} (C : Cx RX12 cX12_passes 5 none wsX12_passes p s m args meth c) (hK : Ky D [(cy 0, .int), (cy 1, .long), (cy 2, .boolean), (cy 3, .byte), (cy 4, .object "HissHorn$Text")] st s) (hJ : JM ad st) {r : Int32} {u' : SX}   (z1 : Int32) (z2 : Int32) (u : SX) (H : Heap) (locs : List Loc) (ls : Array Slot) (h : GX12_passes_0_52 z1 z2 u = some (r, u')) (hP : va_P D vwCl (VM cy ad st u) H) (hS : va_S (Ax (AM ad) s.heap.size) s.heap H locs) (hl : lv_has ls 5 [(0, .ref (ad 0)), (1, .int z1), (2, .int z2)]) : W p l e rmX12_passes_0 s m args below meth c H locs 0 0 (MQ below (Qv D (VM cy ad st) (AM ad) s.heap.size r u') args s 0 0 (Ax (AM ad) s.heap.size)) (F0 m 52 ls []) := by
  unfold GX12_passes_0_52 at h
  refine lv_iconst (v := 0) C.1 C.2.1 dX12_passes_52 (by decide) ?_
  refine lv_istore_n (lv' := [(3, .int 0), (0, .ref (ad 0)), (1, .int z1), (2, .int z2)]) C.1 C.2.1 dX12_passes_53 rfl hl (by decide) rfl (fun ls hl => ?_)
  replace hl := lv_sub (l' := [(0, .ref (ad 0)), (1, .int z1), (2, .int z2), (3, .int 0)]) hl [1, 2, 3, 0] rfl
  exact wLX12_passes_0_54 C hK hJ (wGX12_passes_0_132 C hK hJ ) 5000 _ _ _ _ _ _ _ h hP hS hl
set_option maxHeartbeats 4000000 in
set_option maxRecDepth 100000 in
theorem wX12_passes_0 {p : Program} {l : Launch} {e : Env} {s : State} {m : MethodId} {args : Array Value} {below : List Frame} {meth : Method} {c : Code} {D : va_G} {cy : Nat → ClassId} {ad st : Nat → Nat} (C : Cx RX12 cX12_passes 5 none wsX12_passes p s m args meth c) (hK : Ky D [(cy 0, .int), (cy 1, .long), (cy 2, .boolean), (cy 3, .byte), (cy 4, .object "HissHorn$Text")] st s) (hJ : JM ad st) (x1 : Int32) (x2 : Int32) {u : SX} {r : Int32} {u' : SX} {H : Heap} {locs : List Loc} {ls : Array Slot} (h : fX12_passes_0 x1 x2 u = some (r, u')) (hP : va_P D vwCl (VM cy ad st u) H) (hS : va_S (Ax (AM ad) s.heap.size) s.heap H locs) (hl : lv_has ls 5 [(0, .ref (ad 0)), (1, .int x1), (2, .int x2)]) : W p l e rmX12_passes_0 s m args below meth c H locs 0 0 (MQ below (Qv D (VM cy ad st) (AM ad) s.heap.size r u') args s 0 0 (Ax (AM ad) s.heap.size)) (F0 m 0 ls []) := by
  unfold fX12_passes_0 at h
  refine lv_iconst (v := 0) C.1 C.2.1 dX12_passes_0 (by decide) ?_
  refine lv_istore_n (lv' := [(3, .int 0), (0, .ref (ad 0)), (1, .int x1), (2, .int x2)]) C.1 C.2.1 dX12_passes_1 rfl hl (by decide) rfl (fun ls hl => ?_)
  replace hl := lv_sub (l' := [(0, .ref (ad 0)), (1, .int x1), (2, .int x2), (3, .int 0)]) hl [1, 2, 3, 0] rfl
  exact wLX12_passes_0_2 C hK hJ (wGX12_passes_0_52 C hK hJ ) 5000 _ _ _ _ _ _ _ h hP hS hl
theorem metX12_passes_0 (l : Launch) (D : va_G) (cy : Nat → ClassId) (ad st : Nat → Nat) (hJ : JM ad st) (sz : Nat) (x1 : Int32) (x2 : Int32) {u : SX} {r : Int32} {u' : SX} (h : fX12_passes_0 x1 x2 u = some (r, u')) : Met l yX12_passes wsX12_passes rmX12_passes_0 (va_Pc [.ref (ad 0), .int x1, .int x2] (Px D [(cy 0, .int), (cy 1, .long), (cy 2, .boolean), (cy 3, .byte), (cy 4, .object "HissHorn$Text")] st (VM cy ad st) sz u)) (Qv D (VM cy ad st) (AM ad) sz r u') 0 0 (Ax (AM ad) sz) := by
  refine Met.ofW (cc := cX12_passes) (maxL := 5) (ret := none) (by decide) rfl ?_
  intro p e s m args below meth c s₁ B hml hv
  obtain ⟨rfl, hsz, hP, hK⟩ := hv
  subst hsz
  have C : Cx RX12 cX12_passes 5 none wsX12_passes p s m _ meth c := ⟨B.exec, B.bytes, hml, B.returns, findClass_of_methodNamed B.named, atoms_spec (ws := wsX12_passes) B.pre, B.notSynchronized⟩
  have hl := lv_entry ([.ref (ad 0), .int x1, .int x2]) (n := 5) (Nat.le_of_ble_eq_true rfl)
  rw [lg_entry_eq]
  exact wX12_passes_0 C hK hJ x1 x2 h hP va_S.rf hl
