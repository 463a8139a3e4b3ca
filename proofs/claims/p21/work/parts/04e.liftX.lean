theorem zdX7_leave_7 : (and (and (and (and (and (zk cX7_leave 7 (.iload 4) 2) (zk cX7_leave 9 (.aload_n 0) 1)) (and (zk cX7_leave 10 (.getfield 34) 3) (zk cX7_leave 13 (.getfield 69) 3))) (and (and (zk cX7_leave 16 (.if_icmp .ge 72) 3) (zk cX7_leave 19 (.aload_n 0) 1)) (and (zk cX7_leave 20 (.iload_n 1) 1) (zk cX7_leave 21 (.iload 4) 2)))) (and (and (and (zk cX7_leave 23 (.invokevirtual 86) 3) (zk cX7_leave 26 (.istore 5) 2)) (and (zk cX7_leave 28 (.aload_n 0) 1) (zk cX7_leave 29 (.getfield 34) 3))) (and (and (zk cX7_leave 32 (.getfield 90) 3) (zk cX7_leave 35 (.iload 4) 2)) (and (zk cX7_leave 37 (.iaload) 1) (zk cX7_leave 38 (.iload 5) 2))))) (and (and (and (and (zk cX7_leave 40 (.invokestatic 93) 3) (zk cX7_leave 43 (.istore 6) 2)) (and (zk cX7_leave 45 (.aload_n 0) 1) (zk cX7_leave 46 (.getfield 34) 3))) (and (and (zk cX7_leave 49 (.getfield 96) 3) (zk cX7_leave 52 (.iload 4) 2)) (and (zk cX7_leave 54 (.iaload) 1) (zk cX7_leave 55 (.iload 5) 2)))) (and (and (and (zk cX7_leave 57 (.invokestatic 93) 3) (zk cX7_leave 60 (.istore 7) 2)) (and (zk cX7_leave 62 (.iload_n 2) 1) (zk cX7_leave 63 (.iload 6) 2))) (and (and (zk cX7_leave 65 (.iload 7) 2) (zk cX7_leave 67 (.invokestatic 99) 3)) (and (zk cX7_leave 70 (.iadd) 1) (zk cX7_leave 71 (.istore_n 2) 1)))))) = true := by decide +kernel
theorem dX7_leave_7 : decode cX7_leave 7 = .ok (.iload 4, 2) := zk_of (zk_l (zk_l (zk_l (zk_l (zk_l zdX7_leave_7)))))
theorem dX7_leave_9 : decode cX7_leave 9 = .ok (.aload_n 0, 1) := zk_of (zk_r (zk_l (zk_l (zk_l (zk_l zdX7_leave_7)))))
theorem dX7_leave_10 : decode cX7_leave 10 = .ok (.getfield 34, 3) := zk_of (zk_l (zk_r (zk_l (zk_l (zk_l zdX7_leave_7)))))
theorem dX7_leave_13 : decode cX7_leave 13 = .ok (.getfield 69, 3) := zk_of (zk_r (zk_r (zk_l (zk_l (zk_l zdX7_leave_7)))))
theorem dX7_leave_16 : decode cX7_leave 16 = .ok (.if_icmp .ge 72, 3) := zk_of (zk_l (zk_l (zk_r (zk_l (zk_l zdX7_leave_7)))))
theorem dX7_leave_19 : decode cX7_leave 19 = .ok (.aload_n 0, 1) := zk_of (zk_r (zk_l (zk_r (zk_l (zk_l zdX7_leave_7)))))
theorem dX7_leave_20 : decode cX7_leave 20 = .ok (.iload_n 1, 1) := zk_of (zk_l (zk_r (zk_r (zk_l (zk_l zdX7_leave_7)))))
theorem dX7_leave_21 : decode cX7_leave 21 = .ok (.iload 4, 2) := zk_of (zk_r (zk_r (zk_r (zk_l (zk_l zdX7_leave_7)))))
theorem dX7_leave_23 : decode cX7_leave 23 = .ok (.invokevirtual 86, 3) := zk_of (zk_l (zk_l (zk_l (zk_r (zk_l zdX7_leave_7)))))
theorem dX7_leave_26 : decode cX7_leave 26 = .ok (.istore 5, 2) := zk_of (zk_r (zk_l (zk_l (zk_r (zk_l zdX7_leave_7)))))
theorem dX7_leave_28 : decode cX7_leave 28 = .ok (.aload_n 0, 1) := zk_of (zk_l (zk_r (zk_l (zk_r (zk_l zdX7_leave_7)))))
theorem dX7_leave_29 : decode cX7_leave 29 = .ok (.getfield 34, 3) := zk_of (zk_r (zk_r (zk_l (zk_r (zk_l zdX7_leave_7)))))
theorem dX7_leave_32 : decode cX7_leave 32 = .ok (.getfield 90, 3) := zk_of (zk_l (zk_l (zk_r (zk_r (zk_l zdX7_leave_7)))))
theorem dX7_leave_35 : decode cX7_leave 35 = .ok (.iload 4, 2) := zk_of (zk_r (zk_l (zk_r (zk_r (zk_l zdX7_leave_7)))))
theorem dX7_leave_37 : decode cX7_leave 37 = .ok (.iaload, 1) := zk_of (zk_l (zk_r (zk_r (zk_r (zk_l zdX7_leave_7)))))
theorem dX7_leave_38 : decode cX7_leave 38 = .ok (.iload 5, 2) := zk_of (zk_r (zk_r (zk_r (zk_r (zk_l zdX7_leave_7)))))
theorem dX7_leave_40 : decode cX7_leave 40 = .ok (.invokestatic 93, 3) := zk_of (zk_l (zk_l (zk_l (zk_l (zk_r zdX7_leave_7)))))
theorem dX7_leave_43 : decode cX7_leave 43 = .ok (.istore 6, 2) := zk_of (zk_r (zk_l (zk_l (zk_l (zk_r zdX7_leave_7)))))
theorem dX7_leave_45 : decode cX7_leave 45 = .ok (.aload_n 0, 1) := zk_of (zk_l (zk_r (zk_l (zk_l (zk_r zdX7_leave_7)))))
theorem dX7_leave_46 : decode cX7_leave 46 = .ok (.getfield 34, 3) := zk_of (zk_r (zk_r (zk_l (zk_l (zk_r zdX7_leave_7)))))
theorem dX7_leave_49 : decode cX7_leave 49 = .ok (.getfield 96, 3) := zk_of (zk_l (zk_l (zk_r (zk_l (zk_r zdX7_leave_7)))))
theorem dX7_leave_52 : decode cX7_leave 52 = .ok (.iload 4, 2) := zk_of (zk_r (zk_l (zk_r (zk_l (zk_r zdX7_leave_7)))))
theorem dX7_leave_54 : decode cX7_leave 54 = .ok (.iaload, 1) := zk_of (zk_l (zk_r (zk_r (zk_l (zk_r zdX7_leave_7)))))
theorem dX7_leave_55 : decode cX7_leave 55 = .ok (.iload 5, 2) := zk_of (zk_r (zk_r (zk_r (zk_l (zk_r zdX7_leave_7)))))
theorem dX7_leave_57 : decode cX7_leave 57 = .ok (.invokestatic 93, 3) := zk_of (zk_l (zk_l (zk_l (zk_r (zk_r zdX7_leave_7)))))
theorem dX7_leave_60 : decode cX7_leave 60 = .ok (.istore 7, 2) := zk_of (zk_r (zk_l (zk_l (zk_r (zk_r zdX7_leave_7)))))
theorem dX7_leave_62 : decode cX7_leave 62 = .ok (.iload_n 2, 1) := zk_of (zk_l (zk_r (zk_l (zk_r (zk_r zdX7_leave_7)))))
theorem dX7_leave_63 : decode cX7_leave 63 = .ok (.iload 6, 2) := zk_of (zk_r (zk_r (zk_l (zk_r (zk_r zdX7_leave_7)))))
theorem dX7_leave_65 : decode cX7_leave 65 = .ok (.iload 7, 2) := zk_of (zk_l (zk_l (zk_r (zk_r (zk_r zdX7_leave_7)))))
theorem dX7_leave_67 : decode cX7_leave 67 = .ok (.invokestatic 99, 3) := zk_of (zk_r (zk_l (zk_r (zk_r (zk_r zdX7_leave_7)))))
theorem dX7_leave_70 : decode cX7_leave 70 = .ok (.iadd, 1) := zk_of (zk_l (zk_r (zk_r (zk_r (zk_r zdX7_leave_7)))))
theorem dX7_leave_71 : decode cX7_leave 71 = .ok (.istore_n 2, 1) := zk_of (zk_r (zk_r (zk_r (zk_r (zk_r zdX7_leave_7)))))
set_option maxRecDepth 20000 in
theorem ggX7_leave_X7_leanOf : GoodIn wsX7_leave wsX7_leanOf := ggi (fun w h => List.mem_cons_of_mem _ (List.mem_append_left _ (List.mem_append_left _ (List.mem_append_left _ (List.mem_append_left _ (List.mem_append_right _ (List.mem_append_left _ h))))))) gs_X7_leanOf
set_option maxRecDepth 20000 in
theorem gX7_leave_X7_leanOf : GoodIn wsX7_leave (wsV RX7 86 RX7 yX7_leanOf wsX7_leanOf) := goodIn_app (goodIn_of _ (by decide +kernel)) ggX7_leave_X7_leanOf
set_option maxRecDepth 20000 in
theorem ggX7_leave_X11_shine : GoodIn wsX7_leave wsX11_shine := ggi (fun w h => List.mem_cons_of_mem _ (List.mem_append_left _ (List.mem_append_left _ (List.mem_append_left _ (List.mem_append_left _ (List.mem_append_right _ (List.mem_append_right _ h))))))) gs_X11_shine
set_option maxRecDepth 20000 in
theorem gX7_leave_X11_shine_n93 : GoodIn wsX7_leave (wsX11_shine) := ggX7_leave_X11_shine
theorem zdX7_leave_72 : (and (and (and (and (and (zk cX7_leave 72 (.iload_n 3) 1) (zk cX7_leave 73 (.iload 6) 2)) (and (zk cX7_leave 75 (.iload 7) 2) (zk cX7_leave 77 (.invokestatic 104) 3))) (and (and (zk cX7_leave 80 (.iadd) 1) (zk cX7_leave 81 (.istore_n 3) 1)) (and (zk cX7_leave 82 (.iinc 4 1) 3) (zk cX7_leave 85 (.goto (-78)) 3)))) (and (and (and (zk cX7_leave 88 (.aload_n 0) 1) (zk cX7_leave 89 (.getfield 18) 3)) (and (zk cX7_leave 92 (.iload_n 1) 1) (zk cX7_leave 93 (.aload_n 0) 1))) (and (and (zk cX7_leave 94 (.getfield 24) 3) (zk cX7_leave 97 (.iload_n 1) 1)) (and (zk cX7_leave 98 (.iaload) 1) (zk cX7_leave 99 (.iload_n 3) 1))))) (and (and (and (and (zk cX7_leave 100 (.isub) 1) (zk cX7_leave 101 (.iastore) 1)) (and (zk cX7_leave 102 (.aload_n 0) 1) (zk cX7_leave 103 (.getfield 21) 3))) (and (and (zk cX7_leave 106 (.iload_n 1) 1) (zk cX7_leave 107 (.aload_n 0) 1)) (and (zk cX7_leave 108 (.getfield 24) 3) (zk cX7_leave 111 (.iload_n 1) 1)))) (and (and (and (zk cX7_leave 112 (.iaload) 1) (zk cX7_leave 113 (.iload_n 2) 1)) (and (zk cX7_leave 114 (.isub) 1) (zk cX7_leave 115 (.iastore) 1))) (and (and (zk cX7_leave 116 (.return_) 1) (zk cX7_leave 0 (.iconst 0) 1)) (and (zk cX7_leave 1 (.istore_n 2) 1) (zk cX7_leave 2 (.iconst 0) 1)))))) = true := by decide +kernel
theorem dX7_leave_72 : decode cX7_leave 72 = .ok (.iload_n 3, 1) := zk_of (zk_l (zk_l (zk_l (zk_l (zk_l zdX7_leave_72)))))
theorem dX7_leave_73 : decode cX7_leave 73 = .ok (.iload 6, 2) := zk_of (zk_r (zk_l (zk_l (zk_l (zk_l zdX7_leave_72)))))
theorem dX7_leave_75 : decode cX7_leave 75 = .ok (.iload 7, 2) := zk_of (zk_l (zk_r (zk_l (zk_l (zk_l zdX7_leave_72)))))
theorem dX7_leave_77 : decode cX7_leave 77 = .ok (.invokestatic 104, 3) := zk_of (zk_r (zk_r (zk_l (zk_l (zk_l zdX7_leave_72)))))
theorem dX7_leave_80 : decode cX7_leave 80 = .ok (.iadd, 1) := zk_of (zk_l (zk_l (zk_r (zk_l (zk_l zdX7_leave_72)))))
theorem dX7_leave_81 : decode cX7_leave 81 = .ok (.istore_n 3, 1) := zk_of (zk_r (zk_l (zk_r (zk_l (zk_l zdX7_leave_72)))))
theorem dX7_leave_82 : decode cX7_leave 82 = .ok (.iinc 4 1, 3) := zk_of (zk_l (zk_r (zk_r (zk_l (zk_l zdX7_leave_72)))))
theorem dX7_leave_85 : decode cX7_leave 85 = .ok (.goto (-78), 3) := zk_of (zk_r (zk_r (zk_r (zk_l (zk_l zdX7_leave_72)))))
theorem dX7_leave_88 : decode cX7_leave 88 = .ok (.aload_n 0, 1) := zk_of (zk_l (zk_l (zk_l (zk_r (zk_l zdX7_leave_72)))))
theorem dX7_leave_89 : decode cX7_leave 89 = .ok (.getfield 18, 3) := zk_of (zk_r (zk_l (zk_l (zk_r (zk_l zdX7_leave_72)))))
theorem dX7_leave_92 : decode cX7_leave 92 = .ok (.iload_n 1, 1) := zk_of (zk_l (zk_r (zk_l (zk_r (zk_l zdX7_leave_72)))))
theorem dX7_leave_93 : decode cX7_leave 93 = .ok (.aload_n 0, 1) := zk_of (zk_r (zk_r (zk_l (zk_r (zk_l zdX7_leave_72)))))
theorem dX7_leave_94 : decode cX7_leave 94 = .ok (.getfield 24, 3) := zk_of (zk_l (zk_l (zk_r (zk_r (zk_l zdX7_leave_72)))))
theorem dX7_leave_97 : decode cX7_leave 97 = .ok (.iload_n 1, 1) := zk_of (zk_r (zk_l (zk_r (zk_r (zk_l zdX7_leave_72)))))
theorem dX7_leave_98 : decode cX7_leave 98 = .ok (.iaload, 1) := zk_of (zk_l (zk_r (zk_r (zk_r (zk_l zdX7_leave_72)))))
theorem dX7_leave_99 : decode cX7_leave 99 = .ok (.iload_n 3, 1) := zk_of (zk_r (zk_r (zk_r (zk_r (zk_l zdX7_leave_72)))))
theorem dX7_leave_100 : decode cX7_leave 100 = .ok (.isub, 1) := zk_of (zk_l (zk_l (zk_l (zk_l (zk_r zdX7_leave_72)))))
theorem dX7_leave_101 : decode cX7_leave 101 = .ok (.iastore, 1) := zk_of (zk_r (zk_l (zk_l (zk_l (zk_r zdX7_leave_72)))))
theorem dX7_leave_102 : decode cX7_leave 102 = .ok (.aload_n 0, 1) := zk_of (zk_l (zk_r (zk_l (zk_l (zk_r zdX7_leave_72)))))
theorem dX7_leave_103 : decode cX7_leave 103 = .ok (.getfield 21, 3) := zk_of (zk_r (zk_r (zk_l (zk_l (zk_r zdX7_leave_72)))))
theorem dX7_leave_106 : decode cX7_leave 106 = .ok (.iload_n 1, 1) := zk_of (zk_l (zk_l (zk_r (zk_l (zk_r zdX7_leave_72)))))
theorem dX7_leave_107 : decode cX7_leave 107 = .ok (.aload_n 0, 1) := zk_of (zk_r (zk_l (zk_r (zk_l (zk_r zdX7_leave_72)))))
theorem dX7_leave_108 : decode cX7_leave 108 = .ok (.getfield 24, 3) := zk_of (zk_l (zk_r (zk_r (zk_l (zk_r zdX7_leave_72)))))
theorem dX7_leave_111 : decode cX7_leave 111 = .ok (.iload_n 1, 1) := zk_of (zk_r (zk_r (zk_r (zk_l (zk_r zdX7_leave_72)))))
theorem dX7_leave_112 : decode cX7_leave 112 = .ok (.iaload, 1) := zk_of (zk_l (zk_l (zk_l (zk_r (zk_r zdX7_leave_72)))))
theorem dX7_leave_113 : decode cX7_leave 113 = .ok (.iload_n 2, 1) := zk_of (zk_r (zk_l (zk_l (zk_r (zk_r zdX7_leave_72)))))
theorem dX7_leave_114 : decode cX7_leave 114 = .ok (.isub, 1) := zk_of (zk_l (zk_r (zk_l (zk_r (zk_r zdX7_leave_72)))))
theorem dX7_leave_115 : decode cX7_leave 115 = .ok (.iastore, 1) := zk_of (zk_r (zk_r (zk_l (zk_r (zk_r zdX7_leave_72)))))
theorem dX7_leave_116 : decode cX7_leave 116 = .ok (.return_, 1) := zk_of (zk_l (zk_l (zk_r (zk_r (zk_r zdX7_leave_72)))))
theorem dX7_leave_0 : decode cX7_leave 0 = .ok (.iconst 0, 1) := zk_of (zk_r (zk_l (zk_r (zk_r (zk_r zdX7_leave_72)))))
theorem dX7_leave_1 : decode cX7_leave 1 = .ok (.istore_n 2, 1) := zk_of (zk_l (zk_r (zk_r (zk_r (zk_r zdX7_leave_72)))))
theorem dX7_leave_2 : decode cX7_leave 2 = .ok (.iconst 0, 1) := zk_of (zk_r (zk_r (zk_r (zk_r (zk_r zdX7_leave_72)))))
theorem zdX7_leave_3 : (and (and (zk cX7_leave 3 (.istore_n 3) 1) (zk cX7_leave 4 (.iconst 0) 1)) (zk cX7_leave 5 (.istore 4) 2)) = true := by decide +kernel
theorem dX7_leave_3 : decode cX7_leave 3 = .ok (.istore_n 3, 1) := zk_of (zk_l (zk_l zdX7_leave_3))
theorem dX7_leave_4 : decode cX7_leave 4 = .ok (.iconst 0, 1) := zk_of (zk_r (zk_l zdX7_leave_3))
theorem dX7_leave_5 : decode cX7_leave 5 = .ok (.istore 4, 2) := zk_of (zk_r zdX7_leave_3)
/-- HissHorn$Readings.leave(I)V of cell 7 -/
def rmX7_leave_7 : Room := { frames := 5, cells := 0, slots := 0, locals := 111 }
theorem hX7_leave_7_X7 : ∀ w ∈ u_ws RX7 TX7 12, w ∈ wsX7_leave := fun w h => (List.mem_cons_of_mem _ (List.mem_append_left _ (List.mem_append_left _ (List.mem_append_left _ (List.mem_append_right _ h)))))
theorem mX7_leave_7_1 : Cond.fieldLink RX7 34 "HissHorn$Readings" "parts" "LHissHorn$Parts;" ∈ wsX7_leave := (List.mem_cons_of_mem _ (List.mem_append_left _ (List.mem_append_left _ (List.mem_append_left _ (List.mem_append_left _ (List.mem_append_left _ (List.mem_of_getElem? (i := 4) rfl)))))))
theorem hX7_leave_7_X6 : ∀ w ∈ u_ws RX6 TX6 17, w ∈ wsX7_leave := fun w h => (List.mem_cons_of_mem _ (List.mem_append_left _ (List.mem_append_left _ (List.mem_append_right _ h))))
theorem mX7_leave_7_3 : Cond.fieldLink RX7 69 "HissHorn$Parts" "known" "I" ∈ wsX7_leave := (List.mem_cons_of_mem _ (List.mem_append_left _ (List.mem_append_left _ (List.mem_append_left _ (List.mem_append_left _ (List.mem_append_left _ (List.mem_of_getElem? (i := 5) rfl)))))))
theorem mX7_leave_7_4 : Cond.fieldLink RX7 90 "HissHorn$Parts" "low" "[I" ∈ wsX7_leave := (List.mem_cons_of_mem _ (List.mem_append_left _ (List.mem_append_left _ (List.mem_append_left _ (List.mem_append_left _ (List.mem_append_left _ (List.mem_of_getElem? (i := 6) rfl)))))))
theorem mX7_leave_7_5 : Cond.initialized RX11 ∈ wsX7_leave := (List.mem_cons_of_mem _ (List.mem_append_left _ (List.mem_append_left _ (List.mem_append_left _ (List.mem_append_left _ (List.mem_append_left _ (List.mem_of_getElem? (i := 7) rfl)))))))
theorem mX7_leave_7_6 : Cond.static yX11_shine ∈ wsX7_leave := (List.mem_cons_of_mem _ (List.mem_append_left _ (List.mem_append_left _ (List.mem_append_left _ (List.mem_append_left _ (List.mem_append_left _ (List.mem_of_getElem? (i := 8) rfl)))))))
theorem mX7_leave_7_7 : Cond.fieldLink RX7 96 "HissHorn$Parts" "high" "[I" ∈ wsX7_leave := (List.mem_cons_of_mem _ (List.mem_append_left _ (List.mem_append_left _ (List.mem_append_left _ (List.mem_append_left _ (List.mem_append_left _ (List.mem_of_getElem? (i := 9) rfl)))))))
theorem mX7_leave_7_8 : Cond.methodLink RX7 99 Lib.Math.min.name ∈ wsX7_leave := (List.mem_cons_of_mem _ (List.mem_append_left _ (List.mem_append_left _ (List.mem_append_left _ (List.mem_append_left _ (List.mem_append_left _ (List.mem_of_getElem? (i := 10) rfl)))))))
theorem mX7_leave_7_9 : Cond.static Lib.Math.min.name ∈ wsX7_leave := (List.mem_cons_of_mem _ (List.mem_append_left _ (List.mem_append_left _ (List.mem_append_left _ (List.mem_append_left _ (List.mem_append_left _ (List.mem_of_getElem? (i := 11) rfl)))))))
theorem mX7_leave_7_10 : Cond.initialized "java/lang/Math" ∈ wsX7_leave := (List.mem_cons_of_mem _ (List.mem_append_left _ (List.mem_append_left _ (List.mem_append_left _ (List.mem_append_left _ (List.mem_append_left _ (List.mem_of_getElem? (i := 12) rfl)))))))
theorem mX7_leave_7_11 : Cond.code Lib.Math.min.name Lib.Math.min.code 2 (some .int) ∈ wsX7_leave := (List.mem_cons_of_mem _ (List.mem_append_left _ (List.mem_append_left _ (List.mem_append_left _ (List.mem_append_left _ (List.mem_append_left _ (List.mem_of_getElem? (i := 13) rfl)))))))
theorem mX7_leave_7_12 : Cond.methodLink RX7 104 Lib.Math.max.name ∈ wsX7_leave := (List.mem_cons_of_mem _ (List.mem_append_left _ (List.mem_append_left _ (List.mem_append_left _ (List.mem_append_left _ (List.mem_append_left _ (List.mem_of_getElem? (i := 14) rfl)))))))
theorem mX7_leave_7_13 : Cond.static Lib.Math.max.name ∈ wsX7_leave := (List.mem_cons_of_mem _ (List.mem_append_left _ (List.mem_append_left _ (List.mem_append_left _ (List.mem_append_left _ (List.mem_append_left _ (List.mem_of_getElem? (i := 15) rfl)))))))
theorem mX7_leave_7_14 : Cond.code Lib.Math.max.name Lib.Math.max.code 2 (some .int) ∈ wsX7_leave := (List.mem_cons_of_mem _ (List.mem_append_left _ (List.mem_append_left _ (List.mem_append_left _ (List.mem_append_left _ (List.mem_append_left _ (List.mem_of_getElem? (i := 16) rfl)))))))
def LX7_leave_7_7 (k88 : Int32 → Int32 → Int32 → SX → Option (Int32 × SX)) : Nat → Int32 → Int32 → Int32 → Int32 → SX → Option (Int32 × SX)
  | 0, _, _, _, _, _ => none
  | n + 1, z1, z2, z3, z4, u => (if (u.1 10) ≤ z4 then (k88 z1 z2 z3 u) else ((fX7_leanOf_7 z1 z4 u).bind fun q => match q with | (r1, u2) => (gd (inb z4 12) ((fX11_shine (u2.2.1 27 z4.toNatClampNeg) r1).bind fun r5 => (gd (inb z4 12) ((fX11_shine (u2.2.1 28 z4.toNatClampNeg) r1).bind fun r9 => (lt (z2 + (if r9 < r5 then r9 else r5)) fun v12 => (lt (z3 + (if r5 < r9 then r9 else r5)) fun v14 => ((LX7_leave_7_7 k88 n) z1 v12 v14 (z4 + 1) u2)))))))))
theorem mX7_leave_7_15 : Cond.fieldLink RX7 18 "HissHorn$Readings" "lower" "[I" ∈ wsX7_leave := (List.mem_cons_of_mem _ (List.mem_append_left _ (List.mem_append_left _ (List.mem_append_left _ (List.mem_append_left _ (List.mem_append_left _ (List.mem_of_getElem? (i := 17) rfl)))))))
theorem mX7_leave_7_16 : Cond.fieldLink RX7 24 "HissHorn$Readings" "number" "[I" ∈ wsX7_leave := (List.mem_cons_of_mem _ (List.mem_append_left _ (List.mem_append_left _ (List.mem_append_left _ (List.mem_append_left _ (List.mem_append_left _ (List.mem_of_getElem? (i := 18) rfl)))))))
theorem mX7_leave_7_17 : Cond.fieldLink RX7 21 "HissHorn$Readings" "upper" "[I" ∈ wsX7_leave := (List.mem_cons_of_mem _ (List.mem_append_left _ (List.mem_append_left _ (List.mem_append_left _ (List.mem_append_left _ (List.mem_append_left _ (List.mem_of_getElem? (i := 19) rfl)))))))
def GX7_leave_7_88 (z1 : Int32) (z2 : Int32) (z3 : Int32) (u : SX) : Option (Int32 × SX) := (gd (inb z1 80) (gd (inb z1 80) (lt (sA u 38 (upd (u.2.1 38) z1.toNatClampNeg ((u.2.1 40 z1.toNatClampNeg) - z3))) fun u18 => (gd (inb z1 80) (gd (inb z1 80) (lt (sA u18 39 (upd (u18.2.1 39) z1.toNatClampNeg ((u18.2.1 40 z1.toNatClampNeg) - z2))) fun u22 => (some (0, u22))))))))
def fX7_leave_7 (x1 : Int32) (u : SX) : Option (Int32 × SX) := (LX7_leave_7_7 GX7_leave_7_88 5000 x1 0 0 0 u)
set_option maxHeartbeats 4000000 in
set_option maxRecDepth 100000 in
theorem wLX7_leave_7_7 {p : Program} {l : Launch} {e : Env} {s : State} {m : MethodId} {args : Array Value} {below : List Frame} {meth : Method} {c : Code} {D : va_G} {cy : Nat → ClassId} {ad st : Nat → Nat} (C : Cx RX7 cX7_leave 8 none wsX7_leave p s m args meth c) (hK : Ky D [(cy 0, .int), (cy 1, .long), (cy 2, .boolean), (cy 3, .byte), (cy 4, .object "HissHorn$Text")] st s) (hJ : JX ad st) {r : Int32} {u' : SX} {k88 : Int32 → Int32 → Int32 → SX → Option (Int32 × SX)} (hk88 : ∀ (z1 : Int32) (z2 : Int32) (z3 : Int32) (u : SX) (H : Heap) (locs : List Loc) (ls : Array Slot), k88 z1 z2 z3 u = some (r, u') → va_P D vwCl (VX cy ad st u) H → va_S (Ax (AX ad) s.heap.size) s.heap H locs → lv_has ls 8 [(0, .ref (ad 7)), (1, .int z1), (2, .int z2), (3, .int z3)] → W p l e rmX7_leave_7 s m args below meth c H locs 0 0 (MQ below (Qv D (VX cy ad st) (AX ad) s.heap.size r u') args s 0 0 (Ax (AX ad) s.heap.size)) (F0 m 88 ls [])) : ∀ (n : Nat) (z1 : Int32) (z2 : Int32) (z3 : Int32) (z4 : Int32) (u : SX) (H : Heap) (locs : List Loc) (ls : Array Slot), LX7_leave_7_7 k88 n z1 z2 z3 z4 u = some (r, u') → va_P D vwCl (VX cy ad st u) H → va_S (Ax (AX ad) s.heap.size) s.heap H locs → lv_has ls 8 [(0, .ref (ad 7)), (1, .int z1), (2, .int z2), (3, .int z3), (4, .int z4)] → W p l e rmX7_leave_7 s m args below meth c H locs 0 0 (MQ below (Qv D (VX cy ad st) (AX ad) s.heap.size r u') args s 0 0 (Ax (AX ad) s.heap.size)) (F0 m 7 ls []) := by
  intro n
  induction n with
  | zero =>
    intro z1 z2 z3 z4 u H locs ls h
    exact absurd h (by intro q; cases q)
  | succ n ih =>
    intro z1 z2 z3 z4 u H locs ls h hP hS hl
    rw [LX7_leave_7_7] at h
    refine lv_iload C.1 C.2.1 dX7_leave_7 (lv_at hl 4 rfl) ?_
    refine lv_aload_n C.1 C.2.1 dX7_leave_9 rfl (lv_at hl 0 rfl) ?_
    refine gX_7_parts C hX7_leave_7_X7 hK hP mX7_leave_7_1 dX7_leave_10 ?_
    refine gX_6_known C hX7_leave_7_X6 hK hP mX7_leave_7_3 dX7_leave_13 ?_
    refine lv_icmp_ge (tgt := 88) C.1 C.2.1 dX7_leave_16 (by decide) (fun c16 => ?_) (fun c16 => ?_)
    · rw [if_pos c16] at h
      exact hk88 _ _ _ _ _ _ _ h hP hS (lv_sub hl [0, 1, 2, 3] rfl)
    · rw [if_neg c16] at h
      refine lv_aload_n C.1 C.2.1 dX7_leave_19 rfl (lv_at hl 0 rfl) ?_
      refine lv_iload_n C.1 C.2.1 dX7_leave_20 rfl (lv_at hl 1 rfl) ?_
      refine lv_iload C.1 C.2.1 dX7_leave_21 (lv_at hl 4 rfl) ?_
      obtain ⟨⟨r1, u2⟩, hc3, h⟩ := bd_some h
      try dsimp only at h
      refine cg_i (As := [.int z1, .int z4]) (rest := []) (AX_ge hJ) C hK hP hS (metX7_leanOf_7 l D cy ad st hJ _ z1 z4 hc3) (cwV 2 C.2.2.2.2.2.1 gX7_leave_X7_leanOf rfl rfl rfl (by decide +kernel) ⟨(Nat.le_of_ble_eq_true rfl), (Nat.le_of_ble_eq_true rfl)⟩) 7 7 rfl rfl rfl hl.1 rfl (Nat.le_of_ble_eq_true rfl) dX7_leave_23 ⟨Nat.zero_le _, Nat.zero_le _⟩ (fun H locs hP hS => ?_)
      refine lv_istore (lv' := [(5, .int r1), (0, .ref (ad 7)), (1, .int z1), (2, .int z2), (3, .int z3), (4, .int z4)]) C.1 C.2.1 dX7_leave_26 hl (by decide) rfl (fun ls hl => ?_)
      replace hl := lv_sub (l' := [(0, .ref (ad 7)), (1, .int z1), (2, .int z2), (3, .int z3), (4, .int z4), (5, .int r1)]) hl [1, 2, 3, 4, 5, 0] rfl
      refine lv_aload_n C.1 C.2.1 dX7_leave_28 rfl (lv_at hl 0 rfl) ?_
      refine gX_7_parts C hX7_leave_7_X7 hK hP mX7_leave_7_1 dX7_leave_29 ?_
      refine gX_6_low C hX7_leave_7_X6 hK hP mX7_leave_7_4 dX7_leave_32 ?_
      refine lv_iload C.1 C.2.1 dX7_leave_35 (lv_at hl 4 rfl) ?_
      obtain ⟨hg4, h⟩ := gd_some h
      refine lX_27 C hK hP hg4 dX7_leave_37 ?_
      refine lv_iload C.1 C.2.1 dX7_leave_38 (lv_at hl 5 rfl) ?_
      obtain ⟨r5, hc7, h⟩ := bd_some h
      refine csn_i (As := [.int (u2.2.1 27 z4.toNatClampNeg), .int r1]) (rest := []) (AX_ge hJ) C hK hP hS (metX11_shine l D cy st _ (u2.2.1 27 z4.toNatClampNeg) r1 hc7) ⟨va_cnB 2 C.2.2.2.2.2.1 gX7_leave_X11_shine_n93 rfl rfl rfl (hK.2.1 (RX7, 93, yX11_shine) (by decide +kernel)) (C.2.2.2.2.2.1 _ mX7_leave_7_5) (by decide +kernel) ⟨(Nat.le_of_ble_eq_true rfl), (Nat.le_of_ble_eq_true rfl)⟩, C.2.2.2.2.2.1 _ mX7_leave_7_6, trivial⟩ rfl hl.1 rfl (Nat.le_of_ble_eq_true rfl) dX7_leave_40 ⟨Nat.zero_le _, Nat.zero_le _⟩ (fun H locs hP hS => ?_)
      refine lv_istore (lv' := [(6, .int r5), (0, .ref (ad 7)), (1, .int z1), (2, .int z2), (3, .int z3), (4, .int z4), (5, .int r1)]) C.1 C.2.1 dX7_leave_43 hl (by decide) rfl (fun ls hl => ?_)
      replace hl := lv_sub (l' := [(0, .ref (ad 7)), (1, .int z1), (2, .int z2), (3, .int z3), (4, .int z4), (5, .int r1), (6, .int r5)]) hl [1, 2, 3, 4, 5, 6, 0] rfl
      refine lv_aload_n C.1 C.2.1 dX7_leave_45 rfl (lv_at hl 0 rfl) ?_
      refine gX_7_parts C hX7_leave_7_X7 hK hP mX7_leave_7_1 dX7_leave_46 ?_
      refine gX_6_high C hX7_leave_7_X6 hK hP mX7_leave_7_7 dX7_leave_49 ?_
      refine lv_iload C.1 C.2.1 dX7_leave_52 (lv_at hl 4 rfl) ?_
      obtain ⟨hg8, h⟩ := gd_some h
      refine lX_28 C hK hP hg8 dX7_leave_54 ?_
      refine lv_iload C.1 C.2.1 dX7_leave_55 (lv_at hl 5 rfl) ?_
      obtain ⟨r9, hc11, h⟩ := bd_some h
      refine csn_i (As := [.int (u2.2.1 28 z4.toNatClampNeg), .int r1]) (rest := []) (AX_ge hJ) C hK hP hS (metX11_shine l D cy st _ (u2.2.1 28 z4.toNatClampNeg) r1 hc11) ⟨va_cnB 2 C.2.2.2.2.2.1 gX7_leave_X11_shine_n93 rfl rfl rfl (hK.2.1 (RX7, 93, yX11_shine) (by decide +kernel)) (C.2.2.2.2.2.1 _ mX7_leave_7_5) (by decide +kernel) ⟨(Nat.le_of_ble_eq_true rfl), (Nat.le_of_ble_eq_true rfl)⟩, C.2.2.2.2.2.1 _ mX7_leave_7_6, trivial⟩ rfl hl.1 rfl (Nat.le_of_ble_eq_true rfl) dX7_leave_57 ⟨Nat.zero_le _, Nat.zero_le _⟩ (fun H locs hP hS => ?_)
      refine lv_istore (lv' := [(7, .int r9), (0, .ref (ad 7)), (1, .int z1), (2, .int z2), (3, .int z3), (4, .int z4), (5, .int r1), (6, .int r5)]) C.1 C.2.1 dX7_leave_60 hl (by decide) rfl (fun ls hl => ?_)
      replace hl := lv_sub (l' := [(0, .ref (ad 7)), (1, .int z1), (2, .int z2), (3, .int z3), (4, .int z4), (5, .int r1), (6, .int r5), (7, .int r9)]) hl [1, 2, 3, 4, 5, 6, 7, 0] rfl
      refine lv_iload_n C.1 C.2.1 dX7_leave_62 rfl (lv_at hl 2 rfl) ?_
      refine lv_iload C.1 C.2.1 dX7_leave_63 (lv_at hl 6 rfl) ?_
      refine lv_iload C.1 C.2.1 dX7_leave_65 (lv_at hl 7 rfl) ?_
      refine va_mmin C.1 C.2.1 (C.2.2.1.trans hl.1.symm) C.2.2.2.2.1 (C.2.2.2.2.2.1 _ mX7_leave_7_8) (C.2.2.2.2.2.1 _ mX7_leave_7_9) (C.2.2.2.2.2.1 _ mX7_leave_7_10) (C.2.2.2.2.2.1 _ mX7_leave_7_11) (Nat.le_of_ble_eq_true rfl) (Nat.le_of_ble_eq_true rfl) (Nat.zero_le _) (Nat.zero_le _) dX7_leave_67 ?_
      refine lv_iadd C.1 C.2.1 dX7_leave_70 ?_
      refine lv_topi (fun v12 hv13 => ?_)
      replace h := lt_e hv13 h
      try dsimp only at h
      refine lv_istore_n (lv' := [(2, .int v12), (0, .ref (ad 7)), (1, .int z1), (3, .int z3), (4, .int z4), (5, .int r1), (6, .int r5), (7, .int r9)]) C.1 C.2.1 dX7_leave_71 rfl hl (by decide) rfl (fun ls hl => ?_)
      replace hl := lv_sub (l' := [(0, .ref (ad 7)), (1, .int z1), (2, .int v12), (3, .int z3), (4, .int z4), (5, .int r1), (6, .int r5), (7, .int r9)]) hl [1, 2, 0, 3, 4, 5, 6, 7] rfl
      refine lv_iload_n C.1 C.2.1 dX7_leave_72 rfl (lv_at hl 3 rfl) ?_
      refine lv_iload C.1 C.2.1 dX7_leave_73 (lv_at hl 6 rfl) ?_
      refine lv_iload C.1 C.2.1 dX7_leave_75 (lv_at hl 7 rfl) ?_
      refine va_mmax C.1 C.2.1 (C.2.2.1.trans hl.1.symm) C.2.2.2.2.1 (C.2.2.2.2.2.1 _ mX7_leave_7_12) (C.2.2.2.2.2.1 _ mX7_leave_7_13) (C.2.2.2.2.2.1 _ mX7_leave_7_10) (C.2.2.2.2.2.1 _ mX7_leave_7_14) (Nat.le_of_ble_eq_true rfl) (Nat.le_of_ble_eq_true rfl) (Nat.zero_le _) (Nat.zero_le _) dX7_leave_77 ?_
      refine lv_iadd C.1 C.2.1 dX7_leave_80 ?_
      refine lv_topi (fun v14 hv15 => ?_)
      replace h := lt_e hv15 h
      try dsimp only at h
      refine lv_istore_n (lv' := [(3, .int v14), (0, .ref (ad 7)), (1, .int z1), (2, .int v12), (4, .int z4), (5, .int r1), (6, .int r5), (7, .int r9)]) C.1 C.2.1 dX7_leave_81 rfl hl (by decide) rfl (fun ls hl => ?_)
      replace hl := lv_sub (l' := [(0, .ref (ad 7)), (1, .int z1), (2, .int v12), (3, .int v14), (4, .int z4), (5, .int r1), (6, .int r5), (7, .int r9)]) hl [1, 2, 3, 0, 4, 5, 6, 7] rfl
      refine lv_iinc (v := z4 + 1) (lv' := [(4, .int (z4 + 1)), (0, .ref (ad 7)), (1, .int z1), (2, .int v12), (3, .int v14), (5, .int r1), (6, .int r5), (7, .int r9)]) C.1 C.2.1 dX7_leave_82 hl (k := 4) rfl rfl (by decide) rfl (fun ls hl => ?_)
      replace hl := lv_sub (l' := [(0, .ref (ad 7)), (1, .int z1), (2, .int v12), (3, .int v14), (4, .int (z4 + 1)), (5, .int r1), (6, .int r5), (7, .int r9)]) hl [1, 2, 3, 4, 0, 5, 6, 7] rfl
      refine lv_goto (tgt := 7) C.1 C.2.1 dX7_leave_85 (by decide) ?_
      exact ih _ _ _ _ _ _ _ _ h hP hS (lv_sub hl [0, 1, 2, 3, 4] rfl)
set_option maxHeartbeats 4000000 in
set_option maxRecDepth 100000 in
theorem wGX7_leave_7_88 {p : Program} {l : Launch} {e : Env} {s : State} {m : MethodId} {args : Array Value} {below : List Frame} {meth : Method} {c : Code} {D : va_G} {cy : Nat → ClassId} {ad st : Nat → Nat} (C : Cx RX7 cX7_leave 8 none wsX7_leave p s m args meth c) (hK : Ky D [(cy 0, .int), (cy 1, .long), (cy 2, .boolean), (cy 3, .byte), (cy 4, .object "HissHorn$Text")] st s) (hJ : JX ad st) {r : Int32} {u' : SX}   (z1 : Int32) (z2 : Int32) (z3 : Int32) (u : SX) (H : Heap) (locs : List Loc) (ls : Array Slot) (h : GX7_leave_7_88 z1 z2 z3 u = some (r, u')) (hP : va_P D vwCl (VX cy ad st u) H) (hS : va_S (Ax (AX ad) s.heap.size) s.heap H locs) (hl : lv_has ls 8 [(0, .ref (ad 7)), (1, .int z1), (2, .int z2), (3, .int z3)]) : W p l e rmX7_leave_7 s m args below meth c H locs 0 0 (MQ below (Qv D (VX cy ad st) (AX ad) s.heap.size r u') args s 0 0 (Ax (AX ad) s.heap.size)) (F0 m 88 ls []) := by
  unfold GX7_leave_7_88 at h
  refine lv_aload_n C.1 C.2.1 dX7_leave_88 rfl (lv_at hl 0 rfl) ?_
  refine gX_7_lower C hX7_leave_7_X7 hK hP mX7_leave_7_15 dX7_leave_89 ?_
  refine lv_iload_n C.1 C.2.1 dX7_leave_92 rfl (lv_at hl 1 rfl) ?_
  refine lv_aload_n C.1 C.2.1 dX7_leave_93 rfl (lv_at hl 0 rfl) ?_
  refine gX_7_number C hX7_leave_7_X7 hK hP mX7_leave_7_16 dX7_leave_94 ?_
  refine lv_iload_n C.1 C.2.1 dX7_leave_97 rfl (lv_at hl 1 rfl) ?_
  obtain ⟨hg16, h⟩ := gd_some h
  refine lX_40 C hK hP hg16 dX7_leave_98 ?_
  refine lv_iload_n C.1 C.2.1 dX7_leave_99 rfl (lv_at hl 3 rfl) ?_
  refine lv_isub C.1 C.2.1 dX7_leave_100 ?_
  obtain ⟨hg17, h⟩ := gd_some h
  refine tX_38 C hK hP hJ hS hg17 dX7_leave_101 (fun H locs hP hS => ?_)
  obtain ⟨u18, hu19, h⟩ := lt_some h
  rw [← hu19] at hP
  refine lv_aload_n C.1 C.2.1 dX7_leave_102 rfl (lv_at hl 0 rfl) ?_
  refine gX_7_upper C hX7_leave_7_X7 hK hP mX7_leave_7_17 dX7_leave_103 ?_
  refine lv_iload_n C.1 C.2.1 dX7_leave_106 rfl (lv_at hl 1 rfl) ?_
  refine lv_aload_n C.1 C.2.1 dX7_leave_107 rfl (lv_at hl 0 rfl) ?_
  refine gX_7_number C hX7_leave_7_X7 hK hP mX7_leave_7_16 dX7_leave_108 ?_
  refine lv_iload_n C.1 C.2.1 dX7_leave_111 rfl (lv_at hl 1 rfl) ?_
  obtain ⟨hg20, h⟩ := gd_some h
  refine lX_40 C hK hP hg20 dX7_leave_112 ?_
  refine lv_iload_n C.1 C.2.1 dX7_leave_113 rfl (lv_at hl 2 rfl) ?_
  refine lv_isub C.1 C.2.1 dX7_leave_114 ?_
  obtain ⟨hg21, h⟩ := gd_some h
  refine tX_39 C hK hP hJ hS hg21 dX7_leave_115 (fun H locs hP hS => ?_)
  obtain ⟨u22, hu23, h⟩ := lt_some h
  rw [← hu23] at hP
  cases h
  exact rt_v C hP hS dX7_leave_116
set_option maxHeartbeats 4000000 in
set_option maxRecDepth 100000 in
theorem wX7_leave_7 {p : Program} {l : Launch} {e : Env} {s : State} {m : MethodId} {args : Array Value} {below : List Frame} {meth : Method} {c : Code} {D : va_G} {cy : Nat → ClassId} {ad st : Nat → Nat} (C : Cx RX7 cX7_leave 8 none wsX7_leave p s m args meth c) (hK : Ky D [(cy 0, .int), (cy 1, .long), (cy 2, .boolean), (cy 3, .byte), (cy 4, .object "HissHorn$Text")] st s) (hJ : JX ad st) (x1 : Int32) {u : SX} {r : Int32} {u' : SX} {H : Heap} {locs : List Loc} {ls : Array Slot} (h : fX7_leave_7 x1 u = some (r, u')) (hP : va_P D vwCl (VX cy ad st u) H) (hS : va_S (Ax (AX ad) s.heap.size) s.heap H locs) (hl : lv_has ls 8 [(0, .ref (ad 7)), (1, .int x1)]) : W p l e rmX7_leave_7 s m args below meth c H locs 0 0 (MQ below (Qv D (VX cy ad st) (AX ad) s.heap.size r u') args s 0 0 (Ax (AX ad) s.heap.size)) (F0 m 0 ls []) := by
  unfold fX7_leave_7 at h
  refine lv_iconst (v := 0) C.1 C.2.1 dX7_leave_0 (by decide) ?_
  refine lv_istore_n (lv' := [(2, .int 0), (0, .ref (ad 7)), (1, .int x1)]) C.1 C.2.1 dX7_leave_1 rfl hl (by decide) rfl (fun ls hl => ?_)
  replace hl := lv_sub (l' := [(0, .ref (ad 7)), (1, .int x1), (2, .int 0)]) hl [1, 2, 0] rfl
  refine lv_iconst (v := 0) C.1 C.2.1 dX7_leave_2 (by decide) ?_
  refine lv_istore_n (lv' := [(3, .int 0), (0, .ref (ad 7)), (1, .int x1), (2, .int 0)]) C.1 C.2.1 dX7_leave_3 rfl hl (by decide) rfl (fun ls hl => ?_)
  replace hl := lv_sub (l' := [(0, .ref (ad 7)), (1, .int x1), (2, .int 0), (3, .int 0)]) hl [1, 2, 3, 0] rfl
  refine lv_iconst (v := 0) C.1 C.2.1 dX7_leave_4 (by decide) ?_
  refine lv_istore (lv' := [(4, .int 0), (0, .ref (ad 7)), (1, .int x1), (2, .int 0), (3, .int 0)]) C.1 C.2.1 dX7_leave_5 hl (by decide) rfl (fun ls hl => ?_)
  replace hl := lv_sub (l' := [(0, .ref (ad 7)), (1, .int x1), (2, .int 0), (3, .int 0), (4, .int 0)]) hl [1, 2, 3, 4, 0] rfl
  exact wLX7_leave_7_7 C hK hJ (wGX7_leave_7_88 C hK hJ ) 5000 _ _ _ _ _ _ _ _ h hP hS hl
theorem metX7_leave_7 (l : Launch) (D : va_G) (cy : Nat → ClassId) (ad st : Nat → Nat) (hJ : JX ad st) (sz : Nat) (x1 : Int32) {u : SX} {r : Int32} {u' : SX} (h : fX7_leave_7 x1 u = some (r, u')) : Met l yX7_leave wsX7_leave rmX7_leave_7 (va_Pc [.ref (ad 7), .int x1] (Px D [(cy 0, .int), (cy 1, .long), (cy 2, .boolean), (cy 3, .byte), (cy 4, .object "HissHorn$Text")] st (VX cy ad st) sz u)) (Qv D (VX cy ad st) (AX ad) sz r u') 0 0 (Ax (AX ad) sz) := by
  refine Met.ofW (cc := cX7_leave) (maxL := 8) (ret := none) (by decide) rfl ?_
  intro p e s m args below meth c s₁ B hml hv
  obtain ⟨rfl, hsz, hP, hK⟩ := hv
  subst hsz
  have C : Cx RX7 cX7_leave 8 none wsX7_leave p s m _ meth c := ⟨B.exec, B.bytes, hml, B.returns, findClass_of_methodNamed B.named, atoms_spec (ws := wsX7_leave) B.pre, B.notSynchronized⟩
  have hl := lv_entry ([.ref (ad 7), .int x1]) (n := 8) (Nat.le_of_ble_eq_true rfl)
  rw [lg_entry_eq]
  exact wX7_leave_7 C hK hJ x1 h hP va_S.rf hl

theorem zdX7_recall_73 : (and (and (and (and (and (zk cX7_recall 73 (.iload 4) 2) (zk cX7_recall 75 (.iload_n 3) 1)) (and (zk cX7_recall 76 (.if_icmp .ge 15) 3) (zk cX7_recall 79 (.aload_n 0) 1))) (and (and (zk cX7_recall 80 (.iload 4) 2) (zk cX7_recall 82 (.invokevirtual 83) 3)) (and (zk cX7_recall 85 (.iinc 4 1) 3) (zk cX7_recall 88 (.goto (-15)) 3)))) (and (and (and (zk cX7_recall 91 (.aload_n 0) 1) (zk cX7_recall 92 (.iload_n 3) 1)) (and (zk cX7_recall 93 (.putfield 78) 3) (zk cX7_recall 96 (.aload_n 0) 1))) (and (and (zk cX7_recall 97 (.aload_n 0) 1) (zk cX7_recall 98 (.getfield 34) 3)) (and (zk cX7_recall 101 (.getfield 69) 3) (zk cX7_recall 104 (.putfield 66) 3))))) (and (and (and (and (zk cX7_recall 107 (.aload_n 0) 1) (zk cX7_recall 108 (.aload_n 0) 1)) (and (zk cX7_recall 109 (.getfield 34) 3) (zk cX7_recall 112 (.getfield 75) 3))) (and (and (zk cX7_recall 115 (.putfield 72) 3) (zk cX7_recall 118 (.return_) 1)) (and (zk cX7_recall 71 (.istore 4) 2) (zk cX7_recall 41 (.istore_n 2) 1)))) (and (and (and (zk cX7_recall 42 (.iload_n 1) 1) (zk cX7_recall 43 (.aload_n 0) 1)) (and (zk cX7_recall 44 (.getfield 15) 3) (zk cX7_recall 47 (.aload_n 0) 1))) (and (and (zk cX7_recall 48 (.getfield 45) 3) (zk cX7_recall 51 (.aload_n 0) 1)) (and (zk cX7_recall 52 (.getfield 78) 3) (zk cX7_recall 55 (.invokestatic 79) 3)))))) = true := by decide +kernel
theorem dX7_recall_73 : decode cX7_recall 73 = .ok (.iload 4, 2) := zk_of (zk_l (zk_l (zk_l (zk_l (zk_l zdX7_recall_73)))))
theorem dX7_recall_75 : decode cX7_recall 75 = .ok (.iload_n 3, 1) := zk_of (zk_r (zk_l (zk_l (zk_l (zk_l zdX7_recall_73)))))
theorem dX7_recall_76 : decode cX7_recall 76 = .ok (.if_icmp .ge 15, 3) := zk_of (zk_l (zk_r (zk_l (zk_l (zk_l zdX7_recall_73)))))
theorem dX7_recall_79 : decode cX7_recall 79 = .ok (.aload_n 0, 1) := zk_of (zk_r (zk_r (zk_l (zk_l (zk_l zdX7_recall_73)))))
theorem dX7_recall_80 : decode cX7_recall 80 = .ok (.iload 4, 2) := zk_of (zk_l (zk_l (zk_r (zk_l (zk_l zdX7_recall_73)))))
theorem dX7_recall_82 : decode cX7_recall 82 = .ok (.invokevirtual 83, 3) := zk_of (zk_r (zk_l (zk_r (zk_l (zk_l zdX7_recall_73)))))
theorem dX7_recall_85 : decode cX7_recall 85 = .ok (.iinc 4 1, 3) := zk_of (zk_l (zk_r (zk_r (zk_l (zk_l zdX7_recall_73)))))
theorem dX7_recall_88 : decode cX7_recall 88 = .ok (.goto (-15), 3) := zk_of (zk_r (zk_r (zk_r (zk_l (zk_l zdX7_recall_73)))))
theorem dX7_recall_91 : decode cX7_recall 91 = .ok (.aload_n 0, 1) := zk_of (zk_l (zk_l (zk_l (zk_r (zk_l zdX7_recall_73)))))
theorem dX7_recall_92 : decode cX7_recall 92 = .ok (.iload_n 3, 1) := zk_of (zk_r (zk_l (zk_l (zk_r (zk_l zdX7_recall_73)))))
theorem dX7_recall_93 : decode cX7_recall 93 = .ok (.putfield 78, 3) := zk_of (zk_l (zk_r (zk_l (zk_r (zk_l zdX7_recall_73)))))
theorem dX7_recall_96 : decode cX7_recall 96 = .ok (.aload_n 0, 1) := zk_of (zk_r (zk_r (zk_l (zk_r (zk_l zdX7_recall_73)))))
theorem dX7_recall_97 : decode cX7_recall 97 = .ok (.aload_n 0, 1) := zk_of (zk_l (zk_l (zk_r (zk_r (zk_l zdX7_recall_73)))))
theorem dX7_recall_98 : decode cX7_recall 98 = .ok (.getfield 34, 3) := zk_of (zk_r (zk_l (zk_r (zk_r (zk_l zdX7_recall_73)))))
theorem dX7_recall_101 : decode cX7_recall 101 = .ok (.getfield 69, 3) := zk_of (zk_l (zk_r (zk_r (zk_r (zk_l zdX7_recall_73)))))
theorem dX7_recall_104 : decode cX7_recall 104 = .ok (.putfield 66, 3) := zk_of (zk_r (zk_r (zk_r (zk_r (zk_l zdX7_recall_73)))))
theorem dX7_recall_107 : decode cX7_recall 107 = .ok (.aload_n 0, 1) := zk_of (zk_l (zk_l (zk_l (zk_l (zk_r zdX7_recall_73)))))
theorem dX7_recall_108 : decode cX7_recall 108 = .ok (.aload_n 0, 1) := zk_of (zk_r (zk_l (zk_l (zk_l (zk_r zdX7_recall_73)))))
theorem dX7_recall_109 : decode cX7_recall 109 = .ok (.getfield 34, 3) := zk_of (zk_l (zk_r (zk_l (zk_l (zk_r zdX7_recall_73)))))
theorem dX7_recall_112 : decode cX7_recall 112 = .ok (.getfield 75, 3) := zk_of (zk_r (zk_r (zk_l (zk_l (zk_r zdX7_recall_73)))))
theorem dX7_recall_115 : decode cX7_recall 115 = .ok (.putfield 72, 3) := zk_of (zk_l (zk_l (zk_r (zk_l (zk_r zdX7_recall_73)))))
theorem dX7_recall_118 : decode cX7_recall 118 = .ok (.return_, 1) := zk_of (zk_r (zk_l (zk_r (zk_l (zk_r zdX7_recall_73)))))
theorem dX7_recall_71 : decode cX7_recall 71 = .ok (.istore 4, 2) := zk_of (zk_l (zk_r (zk_r (zk_l (zk_r zdX7_recall_73)))))
theorem dX7_recall_41 : decode cX7_recall 41 = .ok (.istore_n 2, 1) := zk_of (zk_r (zk_r (zk_r (zk_l (zk_r zdX7_recall_73)))))
theorem dX7_recall_42 : decode cX7_recall 42 = .ok (.iload_n 1, 1) := zk_of (zk_l (zk_l (zk_l (zk_r (zk_r zdX7_recall_73)))))
theorem dX7_recall_43 : decode cX7_recall 43 = .ok (.aload_n 0, 1) := zk_of (zk_r (zk_l (zk_l (zk_r (zk_r zdX7_recall_73)))))
theorem dX7_recall_44 : decode cX7_recall 44 = .ok (.getfield 15, 3) := zk_of (zk_l (zk_r (zk_l (zk_r (zk_r zdX7_recall_73)))))
theorem dX7_recall_47 : decode cX7_recall 47 = .ok (.aload_n 0, 1) := zk_of (zk_r (zk_r (zk_l (zk_r (zk_r zdX7_recall_73)))))
theorem dX7_recall_48 : decode cX7_recall 48 = .ok (.getfield 45, 3) := zk_of (zk_l (zk_l (zk_r (zk_r (zk_r zdX7_recall_73)))))
theorem dX7_recall_51 : decode cX7_recall 51 = .ok (.aload_n 0, 1) := zk_of (zk_r (zk_l (zk_r (zk_r (zk_r zdX7_recall_73)))))
theorem dX7_recall_52 : decode cX7_recall 52 = .ok (.getfield 78, 3) := zk_of (zk_l (zk_r (zk_r (zk_r (zk_r zdX7_recall_73)))))
theorem dX7_recall_55 : decode cX7_recall 55 = .ok (.invokestatic 79, 3) := zk_of (zk_r (zk_r (zk_r (zk_r (zk_r zdX7_recall_73)))))
set_option maxRecDepth 20000 in
theorem ggX7_recall_X7_leave : GoodIn wsX7_recall wsX7_leave := ggi (fun w h => List.mem_cons_of_mem _ (List.mem_append_left _ (List.mem_append_left _ (List.mem_append_left _ (List.mem_append_left _ (List.mem_append_right _ (List.mem_append_left _ h))))))) gs_X7_leave
set_option maxRecDepth 20000 in
theorem gX7_recall_X7_leave : GoodIn wsX7_recall (wsV RX7 83 RX7 yX7_leave wsX7_leave) := goodIn_app (goodIn_of _ (by decide +kernel)) ggX7_recall_X7_leave
set_option maxRecDepth 20000 in
theorem ggX7_recall_X11_rowsUpTo : GoodIn wsX7_recall wsX11_rowsUpTo := ggi (fun w h => List.mem_cons_of_mem _ (List.mem_append_left _ (List.mem_append_left _ (List.mem_append_left _ (List.mem_append_left _ (List.mem_append_right _ (List.mem_append_right _ (List.mem_append_left _ h)))))))) gs_X11_rowsUpTo
set_option maxRecDepth 20000 in
theorem gX7_recall_X11_rowsUpTo_n79 : GoodIn wsX7_recall (wsX11_rowsUpTo) := ggX7_recall_X11_rowsUpTo
theorem zdX7_recall_58 : (and (and (and (and (and (zk cX7_recall 58 (.istore_n 3) 1) (zk cX7_recall 59 (.iload_n 2) 1)) (and (zk cX7_recall 60 (.ifCond .eq 10) 3) (zk cX7_recall 70 (.iconst 0) 1))) (and (and (zk cX7_recall 63 (.aload_n 0) 1) (zk cX7_recall 64 (.getfield 78) 3)) (zk cX7_recall 67 (.goto 4) 3))) (and (and (and (zk cX7_recall 40 (.iconst 0) 1) (zk cX7_recall 0 (.aload_n 0) 1)) (zk cX7_recall 1 (.getfield 34) 3)) (and (and (zk cX7_recall 4 (.iload_n 1) 1) (zk cX7_recall 5 (.invokevirtual 60) 3)) (zk cX7_recall 8 (.aload_n 0) 1)))) (and (and (and (and (zk cX7_recall 9 (.getfield 66) 3) (zk cX7_recall 12 (.aload_n 0) 1)) (and (zk cX7_recall 13 (.getfield 34) 3) (zk cX7_recall 16 (.getfield 69) 3))) (and (and (zk cX7_recall 19 (.if_icmp .ne 21) 3) (zk cX7_recall 22 (.aload_n 0) 1)) (zk cX7_recall 23 (.getfield 72) 3))) (and (and (and (zk cX7_recall 26 (.aload_n 0) 1) (zk cX7_recall 27 (.getfield 34) 3)) (zk cX7_recall 30 (.getfield 75) 3)) (and (and (zk cX7_recall 33 (.if_icmp .ne 7) 3) (zk cX7_recall 36 (.iconst 1) 1)) (zk cX7_recall 37 (.goto 4) 3))))) = true := by decide +kernel
theorem dX7_recall_58 : decode cX7_recall 58 = .ok (.istore_n 3, 1) := zk_of (zk_l (zk_l (zk_l (zk_l (zk_l zdX7_recall_58)))))
theorem dX7_recall_59 : decode cX7_recall 59 = .ok (.iload_n 2, 1) := zk_of (zk_r (zk_l (zk_l (zk_l (zk_l zdX7_recall_58)))))
theorem dX7_recall_60 : decode cX7_recall 60 = .ok (.ifCond .eq 10, 3) := zk_of (zk_l (zk_r (zk_l (zk_l (zk_l zdX7_recall_58)))))
theorem dX7_recall_70 : decode cX7_recall 70 = .ok (.iconst 0, 1) := zk_of (zk_r (zk_r (zk_l (zk_l (zk_l zdX7_recall_58)))))
theorem dX7_recall_63 : decode cX7_recall 63 = .ok (.aload_n 0, 1) := zk_of (zk_l (zk_l (zk_r (zk_l (zk_l zdX7_recall_58)))))
theorem dX7_recall_64 : decode cX7_recall 64 = .ok (.getfield 78, 3) := zk_of (zk_r (zk_l (zk_r (zk_l (zk_l zdX7_recall_58)))))
theorem dX7_recall_67 : decode cX7_recall 67 = .ok (.goto 4, 3) := zk_of (zk_r (zk_r (zk_l (zk_l zdX7_recall_58))))
theorem dX7_recall_40 : decode cX7_recall 40 = .ok (.iconst 0, 1) := zk_of (zk_l (zk_l (zk_l (zk_r (zk_l zdX7_recall_58)))))
theorem dX7_recall_0 : decode cX7_recall 0 = .ok (.aload_n 0, 1) := zk_of (zk_r (zk_l (zk_l (zk_r (zk_l zdX7_recall_58)))))
theorem dX7_recall_1 : decode cX7_recall 1 = .ok (.getfield 34, 3) := zk_of (zk_r (zk_l (zk_r (zk_l zdX7_recall_58))))
theorem dX7_recall_4 : decode cX7_recall 4 = .ok (.iload_n 1, 1) := zk_of (zk_l (zk_l (zk_r (zk_r (zk_l zdX7_recall_58)))))
theorem dX7_recall_5 : decode cX7_recall 5 = .ok (.invokevirtual 60, 3) := zk_of (zk_r (zk_l (zk_r (zk_r (zk_l zdX7_recall_58)))))
theorem dX7_recall_8 : decode cX7_recall 8 = .ok (.aload_n 0, 1) := zk_of (zk_r (zk_r (zk_r (zk_l zdX7_recall_58))))
theorem dX7_recall_9 : decode cX7_recall 9 = .ok (.getfield 66, 3) := zk_of (zk_l (zk_l (zk_l (zk_l (zk_r zdX7_recall_58)))))
theorem dX7_recall_12 : decode cX7_recall 12 = .ok (.aload_n 0, 1) := zk_of (zk_r (zk_l (zk_l (zk_l (zk_r zdX7_recall_58)))))
theorem dX7_recall_13 : decode cX7_recall 13 = .ok (.getfield 34, 3) := zk_of (zk_l (zk_r (zk_l (zk_l (zk_r zdX7_recall_58)))))
theorem dX7_recall_16 : decode cX7_recall 16 = .ok (.getfield 69, 3) := zk_of (zk_r (zk_r (zk_l (zk_l (zk_r zdX7_recall_58)))))
theorem dX7_recall_19 : decode cX7_recall 19 = .ok (.if_icmp .ne 21, 3) := zk_of (zk_l (zk_l (zk_r (zk_l (zk_r zdX7_recall_58)))))
theorem dX7_recall_22 : decode cX7_recall 22 = .ok (.aload_n 0, 1) := zk_of (zk_r (zk_l (zk_r (zk_l (zk_r zdX7_recall_58)))))
theorem dX7_recall_23 : decode cX7_recall 23 = .ok (.getfield 72, 3) := zk_of (zk_r (zk_r (zk_l (zk_r zdX7_recall_58))))
theorem dX7_recall_26 : decode cX7_recall 26 = .ok (.aload_n 0, 1) := zk_of (zk_l (zk_l (zk_l (zk_r (zk_r zdX7_recall_58)))))
theorem dX7_recall_27 : decode cX7_recall 27 = .ok (.getfield 34, 3) := zk_of (zk_r (zk_l (zk_l (zk_r (zk_r zdX7_recall_58)))))
theorem dX7_recall_30 : decode cX7_recall 30 = .ok (.getfield 75, 3) := zk_of (zk_r (zk_l (zk_r (zk_r zdX7_recall_58))))
theorem dX7_recall_33 : decode cX7_recall 33 = .ok (.if_icmp .ne 7, 3) := zk_of (zk_l (zk_l (zk_r (zk_r (zk_r zdX7_recall_58)))))
theorem dX7_recall_36 : decode cX7_recall 36 = .ok (.iconst 1, 1) := zk_of (zk_r (zk_l (zk_r (zk_r (zk_r zdX7_recall_58)))))
theorem dX7_recall_37 : decode cX7_recall 37 = .ok (.goto 4, 3) := zk_of (zk_r (zk_r (zk_r (zk_r zdX7_recall_58))))
set_option maxRecDepth 20000 in
theorem ggX7_recall_X6_recall : GoodIn wsX7_recall wsX6_recall := ggi (fun w h => List.mem_cons_of_mem _ (List.mem_append_left _ (List.mem_append_left _ (List.mem_append_left _ (List.mem_append_left _ (List.mem_append_right _ (List.mem_append_right _ (List.mem_append_right _ h)))))))) gs_X6_recall
set_option maxRecDepth 20000 in
theorem gX7_recall_X6_recall : GoodIn wsX7_recall (wsV RX7 60 RX6 yX6_recall wsX6_recall) := goodIn_app (goodIn_of _ (by decide +kernel)) ggX7_recall_X6_recall
/-- HissHorn$Readings.recall(I)V of cell 7 -/
def rmX7_recall_7 : Room := { frames := 6, cells := 0, slots := 0, locals := 138 }
theorem hX7_recall_7_X7 : ∀ w ∈ u_ws RX7 TX7 12, w ∈ wsX7_recall := fun w h => (List.mem_cons_of_mem _ (List.mem_append_left _ (List.mem_append_left _ (List.mem_append_left _ (List.mem_append_right _ h)))))
theorem mX7_recall_7_1 : Cond.fieldLink RX7 34 "HissHorn$Readings" "parts" "LHissHorn$Parts;" ∈ wsX7_recall := (List.mem_cons_of_mem _ (List.mem_append_left _ (List.mem_append_left _ (List.mem_append_left _ (List.mem_append_left _ (List.mem_append_left _ (List.mem_of_getElem? (i := 8) rfl)))))))
theorem mX7_recall_7_2 : Cond.fieldLink RX7 66 "HissHorn$Readings" "leftParts" "I" ∈ wsX7_recall := (List.mem_cons_of_mem _ (List.mem_append_left _ (List.mem_append_left _ (List.mem_append_left _ (List.mem_append_left _ (List.mem_append_left _ (List.mem_of_getElem? (i := 9) rfl)))))))
theorem hX7_recall_7_X6 : ∀ w ∈ u_ws RX6 TX6 17, w ∈ wsX7_recall := fun w h => (List.mem_cons_of_mem _ (List.mem_append_left _ (List.mem_append_left _ (List.mem_append_right _ h))))
theorem mX7_recall_7_4 : Cond.fieldLink RX7 69 "HissHorn$Parts" "known" "I" ∈ wsX7_recall := (List.mem_cons_of_mem _ (List.mem_append_left _ (List.mem_append_left _ (List.mem_append_left _ (List.mem_append_left _ (List.mem_append_left _ (List.mem_of_getElem? (i := 10) rfl)))))))
theorem mX7_recall_7_5 : Cond.fieldLink RX7 15 "HissHorn$Readings" "day" "[I" ∈ wsX7_recall := (List.mem_cons_of_mem _ (List.mem_append_left _ (List.mem_append_left _ (List.mem_append_left _ (List.mem_append_left _ (List.mem_append_left _ (List.mem_of_getElem? (i := 11) rfl)))))))
theorem mX7_recall_7_6 : Cond.fieldLink RX7 45 "HissHorn$Readings" "size" "I" ∈ wsX7_recall := (List.mem_cons_of_mem _ (List.mem_append_left _ (List.mem_append_left _ (List.mem_append_left _ (List.mem_append_left _ (List.mem_append_left _ (List.mem_of_getElem? (i := 12) rfl)))))))
theorem mX7_recall_7_7 : Cond.fieldLink RX7 78 "HissHorn$Readings" "known" "I" ∈ wsX7_recall := (List.mem_cons_of_mem _ (List.mem_append_left _ (List.mem_append_left _ (List.mem_append_left _ (List.mem_append_left _ (List.mem_append_left _ (List.mem_of_getElem? (i := 13) rfl)))))))
theorem mX7_recall_7_8 : Cond.initialized RX11 ∈ wsX7_recall := (List.mem_cons_of_mem _ (List.mem_append_left _ (List.mem_append_left _ (List.mem_append_left _ (List.mem_append_left _ (List.mem_append_left _ (List.mem_of_getElem? (i := 14) rfl)))))))
theorem mX7_recall_7_9 : Cond.static yX11_rowsUpTo ∈ wsX7_recall := (List.mem_cons_of_mem _ (List.mem_append_left _ (List.mem_append_left _ (List.mem_append_left _ (List.mem_append_left _ (List.mem_append_left _ (List.mem_of_getElem? (i := 15) rfl)))))))
def LX7_recall_7_73 (k91 : Int32 → SX → Option (Int32 × SX)) : Nat → Int32 → Int32 → SX → Option (Int32 × SX)
  | 0, _, _, _ => none
  | n + 1, z3, z4, u => (if z3 ≤ z4 then (k91 z3 u) else ((fX7_leave_7 z4 u).bind fun q => match q with | (r7, u8) => ((LX7_recall_7_73 k91 n) z3 (z4 + 1) u8)))
theorem mX7_recall_7_10 : Cond.fieldLink RX7 75 "HissHorn$Parts" "applied" "I" ∈ wsX7_recall := (List.mem_cons_of_mem _ (List.mem_append_left _ (List.mem_append_left _ (List.mem_append_left _ (List.mem_append_left _ (List.mem_append_left _ (List.mem_of_getElem? (i := 16) rfl)))))))
theorem mX7_recall_7_11 : Cond.fieldLink RX7 72 "HissHorn$Readings" "leftChanges" "I" ∈ wsX7_recall := (List.mem_cons_of_mem _ (List.mem_append_left _ (List.mem_append_left _ (List.mem_append_left _ (List.mem_append_left _ (List.mem_append_left _ (List.mem_of_getElem? (i := 17) rfl)))))))
def GX7_recall_7_91 (z3 : Int32) (u : SX) : Option (Int32 × SX) := (lt (sI u 14 z3) fun u10 => (lt (sI u10 15 (u10.1 10)) fun u12 => (lt (sI u12 16 (u12.1 11)) fun u14 => (some (0, u14)))))
def GX7_recall_7_71 (z3 : Int32) (y0 : Int32) (u : SX) : Option (Int32 × SX) := (LX7_recall_7_73 GX7_recall_7_91 5000 z3 y0 u)
def GX7_recall_7_41 (z1 : Int32) (y0 : Int32) (u : SX) : Option (Int32 × SX) := ((fX11_rowsUpTo_a37 z1 (u.1 13) (u.1 14) u).bind fun q => match q with | (r4, u5) => (if y0 = 0 then (GX7_recall_7_71 r4 0 u5) else (GX7_recall_7_71 r4 (u5.1 14) u5)))
def GX7_recall_7_40 (z1 : Int32) (u : SX) : Option (Int32 × SX) := (GX7_recall_7_41 z1 0 u)
def fX7_recall_7 (x1 : Int32) (u : SX) : Option (Int32 × SX) := ((fX6_recall_6 x1 u).bind fun q => match q with | (r1, u2) => (if (u2.1 15) = (u2.1 10) then (if (u2.1 16) = (u2.1 11) then (GX7_recall_7_41 x1 1 u2) else (GX7_recall_7_40 x1 u2)) else (GX7_recall_7_40 x1 u2)))
set_option maxHeartbeats 4000000 in
set_option maxRecDepth 100000 in
theorem wLX7_recall_7_73 {p : Program} {l : Launch} {e : Env} {s : State} {m : MethodId} {args : Array Value} {below : List Frame} {meth : Method} {c : Code} {D : va_G} {cy : Nat → ClassId} {ad st : Nat → Nat} (C : Cx RX7 cX7_recall 5 none wsX7_recall p s m args meth c) (hK : Ky D [(cy 0, .int), (cy 1, .long), (cy 2, .boolean), (cy 3, .byte), (cy 4, .object "HissHorn$Text")] st s) (hJ : JX ad st) {r : Int32} {u' : SX} {k91 : Int32 → SX → Option (Int32 × SX)} (hk91 : ∀ (z3 : Int32) (u : SX) (H : Heap) (locs : List Loc) (ls : Array Slot), k91 z3 u = some (r, u') → va_P D vwCl (VX cy ad st u) H → va_S (Ax (AX ad) s.heap.size) s.heap H locs → lv_has ls 5 [(0, .ref (ad 7)), (3, .int z3)] → W p l e rmX7_recall_7 s m args below meth c H locs 0 0 (MQ below (Qv D (VX cy ad st) (AX ad) s.heap.size r u') args s 0 0 (Ax (AX ad) s.heap.size)) (F0 m 91 ls [])) : ∀ (n : Nat) (z3 : Int32) (z4 : Int32) (u : SX) (H : Heap) (locs : List Loc) (ls : Array Slot), LX7_recall_7_73 k91 n z3 z4 u = some (r, u') → va_P D vwCl (VX cy ad st u) H → va_S (Ax (AX ad) s.heap.size) s.heap H locs → lv_has ls 5 [(0, .ref (ad 7)), (3, .int z3), (4, .int z4)] → W p l e rmX7_recall_7 s m args below meth c H locs 0 0 (MQ below (Qv D (VX cy ad st) (AX ad) s.heap.size r u') args s 0 0 (Ax (AX ad) s.heap.size)) (F0 m 73 ls []) := by
  intro n
  induction n with
  | zero =>
    intro z3 z4 u H locs ls h
    exact absurd h (by intro q; cases q)
  | succ n ih =>
    intro z3 z4 u H locs ls h hP hS hl
    rw [LX7_recall_7_73] at h
    refine lv_iload C.1 C.2.1 dX7_recall_73 (lv_at hl 2 rfl) ?_
    refine lv_iload_n C.1 C.2.1 dX7_recall_75 rfl (lv_at hl 1 rfl) ?_
    refine lv_icmp_ge (tgt := 91) C.1 C.2.1 dX7_recall_76 (by decide) (fun c76 => ?_) (fun c76 => ?_)
    · rw [if_pos c76] at h
      exact hk91 _ _ _ _ _ h hP hS (lv_sub hl [0, 1] rfl)
    · rw [if_neg c76] at h
      refine lv_aload_n C.1 C.2.1 dX7_recall_79 rfl (lv_at hl 0 rfl) ?_
      refine lv_iload C.1 C.2.1 dX7_recall_80 (lv_at hl 2 rfl) ?_
      obtain ⟨⟨r7, u8⟩, hc9, h⟩ := bd_some h
      try dsimp only at h
      refine cg_v (As := [.int z4]) (rest := []) (AX_ge hJ) C hK hP hS (metX7_leave_7 l D cy ad st hJ _ z4 hc9) (cwV 1 C.2.2.2.2.2.1 gX7_recall_X7_leave rfl rfl rfl (by decide +kernel) ⟨(Nat.le_of_ble_eq_true rfl), (Nat.le_of_ble_eq_true rfl)⟩) 7 7 rfl rfl rfl hl.1 rfl (Nat.le_of_ble_eq_true rfl) dX7_recall_82 ⟨Nat.zero_le _, Nat.zero_le _⟩ (fun H locs hP hS => ?_)
      refine lv_iinc (v := z4 + 1) (lv' := [(4, .int (z4 + 1)), (0, .ref (ad 7)), (3, .int z3)]) C.1 C.2.1 dX7_recall_85 hl (k := 2) rfl rfl (by decide) rfl (fun ls hl => ?_)
      replace hl := lv_sub (l' := [(0, .ref (ad 7)), (3, .int z3), (4, .int (z4 + 1))]) hl [1, 2, 0] rfl
      refine lv_goto (tgt := 73) C.1 C.2.1 dX7_recall_88 (by decide) ?_
      exact ih _ _ _ _ _ _ h hP hS hl
set_option maxHeartbeats 4000000 in
set_option maxRecDepth 100000 in
theorem wGX7_recall_7_91 {p : Program} {l : Launch} {e : Env} {s : State} {m : MethodId} {args : Array Value} {below : List Frame} {meth : Method} {c : Code} {D : va_G} {cy : Nat → ClassId} {ad st : Nat → Nat} (C : Cx RX7 cX7_recall 5 none wsX7_recall p s m args meth c) (hK : Ky D [(cy 0, .int), (cy 1, .long), (cy 2, .boolean), (cy 3, .byte), (cy 4, .object "HissHorn$Text")] st s) (hJ : JX ad st) {r : Int32} {u' : SX}   (z3 : Int32) (u : SX) (H : Heap) (locs : List Loc) (ls : Array Slot) (h : GX7_recall_7_91 z3 u = some (r, u')) (hP : va_P D vwCl (VX cy ad st u) H) (hS : va_S (Ax (AX ad) s.heap.size) s.heap H locs) (hl : lv_has ls 5 [(0, .ref (ad 7)), (3, .int z3)]) : W p l e rmX7_recall_7 s m args below meth c H locs 0 0 (MQ below (Qv D (VX cy ad st) (AX ad) s.heap.size r u') args s 0 0 (Ax (AX ad) s.heap.size)) (F0 m 91 ls []) := by
  unfold GX7_recall_7_91 at h
  refine lv_aload_n C.1 C.2.1 dX7_recall_91 rfl (lv_at hl 0 rfl) ?_
  refine lv_iload_n C.1 C.2.1 dX7_recall_92 rfl (lv_at hl 1 rfl) ?_
  refine pX_7_known C hX7_recall_7_X7 hK hP hJ hS mX7_recall_7_7 dX7_recall_93 (fun H locs hP hS => ?_)
  obtain ⟨u10, hu11, h⟩ := lt_some h
  rw [← hu11] at hP
  refine lv_aload_n C.1 C.2.1 dX7_recall_96 rfl (lv_at hl 0 rfl) ?_
  refine lv_aload_n C.1 C.2.1 dX7_recall_97 rfl (lv_at hl 0 rfl) ?_
  refine gX_7_parts C hX7_recall_7_X7 hK hP mX7_recall_7_1 dX7_recall_98 ?_
  refine gX_6_known C hX7_recall_7_X6 hK hP mX7_recall_7_4 dX7_recall_101 ?_
  refine pX_7_leftParts C hX7_recall_7_X7 hK hP hJ hS mX7_recall_7_2 dX7_recall_104 (fun H locs hP hS => ?_)
  obtain ⟨u12, hu13, h⟩ := lt_some h
  rw [← hu13] at hP
  refine lv_aload_n C.1 C.2.1 dX7_recall_107 rfl (lv_at hl 0 rfl) ?_
  refine lv_aload_n C.1 C.2.1 dX7_recall_108 rfl (lv_at hl 0 rfl) ?_
  refine gX_7_parts C hX7_recall_7_X7 hK hP mX7_recall_7_1 dX7_recall_109 ?_
  refine gX_6_applied C hX7_recall_7_X6 hK hP mX7_recall_7_10 dX7_recall_112 ?_
  refine pX_7_leftChanges C hX7_recall_7_X7 hK hP hJ hS mX7_recall_7_11 dX7_recall_115 (fun H locs hP hS => ?_)
  obtain ⟨u14, hu15, h⟩ := lt_some h
  rw [← hu15] at hP
  cases h
  exact rt_v C hP hS dX7_recall_118
set_option maxHeartbeats 4000000 in
set_option maxRecDepth 100000 in
theorem wGX7_recall_7_71 {p : Program} {l : Launch} {e : Env} {s : State} {m : MethodId} {args : Array Value} {below : List Frame} {meth : Method} {c : Code} {D : va_G} {cy : Nat → ClassId} {ad st : Nat → Nat} (C : Cx RX7 cX7_recall 5 none wsX7_recall p s m args meth c) (hK : Ky D [(cy 0, .int), (cy 1, .long), (cy 2, .boolean), (cy 3, .byte), (cy 4, .object "HissHorn$Text")] st s) (hJ : JX ad st) {r : Int32} {u' : SX}   (z3 : Int32) (y0 : Int32) (u : SX) (H : Heap) (locs : List Loc) (ls : Array Slot) (h : GX7_recall_7_71 z3 y0 u = some (r, u')) (hP : va_P D vwCl (VX cy ad st u) H) (hS : va_S (Ax (AX ad) s.heap.size) s.heap H locs) (hl : lv_has ls 5 [(0, .ref (ad 7)), (3, .int z3)]) : W p l e rmX7_recall_7 s m args below meth c H locs 0 0 (MQ below (Qv D (VX cy ad st) (AX ad) s.heap.size r u') args s 0 0 (Ax (AX ad) s.heap.size)) (F0 m 71 ls [.int y0]) := by
  unfold GX7_recall_7_71 at h
  refine lv_istore (lv' := [(4, .int y0), (0, .ref (ad 7)), (3, .int z3)]) C.1 C.2.1 dX7_recall_71 hl (by decide) rfl (fun ls hl => ?_)
  replace hl := lv_sub (l' := [(0, .ref (ad 7)), (3, .int z3), (4, .int y0)]) hl [1, 2, 0] rfl
  exact wLX7_recall_7_73 C hK hJ (wGX7_recall_7_91 C hK hJ ) 5000 _ _ _ _ _ _ h hP hS hl
set_option maxHeartbeats 4000000 in
set_option maxRecDepth 100000 in
theorem wGX7_recall_7_41 {p : Program} {l : Launch} {e : Env} {s : State} {m : MethodId} {args : Array Value} {below : List Frame} {meth : Method} {c : Code} {D : va_G} {cy : Nat → ClassId} {ad st : Nat → Nat} (C : Cx RX7 cX7_recall 5 none wsX7_recall p s m args meth c) (hK : Ky D [(cy 0, .int), (cy 1, .long), (cy 2, .boolean), (cy 3, .byte), (cy 4, .object "HissHorn$Text")] st s) (hJ : JX ad st) {r : Int32} {u' : SX}   (z1 : Int32) (y0 : Int32) (u : SX) (H : Heap) (locs : List Loc) (ls : Array Slot) (h : GX7_recall_7_41 z1 y0 u = some (r, u')) (hP : va_P D vwCl (VX cy ad st u) H) (hS : va_S (Ax (AX ad) s.heap.size) s.heap H locs) (hl : lv_has ls 5 [(0, .ref (ad 7)), (1, .int z1)]) : W p l e rmX7_recall_7 s m args below meth c H locs 0 0 (MQ below (Qv D (VX cy ad st) (AX ad) s.heap.size r u') args s 0 0 (Ax (AX ad) s.heap.size)) (F0 m 41 ls [.int y0]) := by
  unfold GX7_recall_7_41 at h
  refine lv_istore_n (lv' := [(2, .int y0), (0, .ref (ad 7)), (1, .int z1)]) C.1 C.2.1 dX7_recall_41 rfl hl (by decide) rfl (fun ls hl => ?_)
  replace hl := lv_sub (l' := [(0, .ref (ad 7)), (1, .int z1), (2, .int y0)]) hl [1, 2, 0] rfl
  refine lv_iload_n C.1 C.2.1 dX7_recall_42 rfl (lv_at hl 1 rfl) ?_
  refine lv_aload_n C.1 C.2.1 dX7_recall_43 rfl (lv_at hl 0 rfl) ?_
  refine gX_7_day C hX7_recall_7_X7 hK hP mX7_recall_7_5 dX7_recall_44 ?_
  refine lv_aload_n C.1 C.2.1 dX7_recall_47 rfl (lv_at hl 0 rfl) ?_
  refine gX_7_size C hX7_recall_7_X7 hK hP mX7_recall_7_6 dX7_recall_48 ?_
  refine lv_aload_n C.1 C.2.1 dX7_recall_51 rfl (lv_at hl 0 rfl) ?_
  refine gX_7_known C hX7_recall_7_X7 hK hP mX7_recall_7_7 dX7_recall_52 ?_
  obtain ⟨⟨r4, u5⟩, hc6, h⟩ := bd_some h
  try dsimp only at h
  refine ctn_i (As := [.int z1, .ref (ad 37), .int (u.1 13), .int (u.1 14)]) (rest := []) (AX_ge hJ) C hK hP hS (metX11_rowsUpTo_a37 l D cy ad st hJ _ z1 (u.1 13) (u.1 14) hc6) ⟨va_cnB 4 C.2.2.2.2.2.1 gX7_recall_X11_rowsUpTo_n79 rfl rfl rfl (hK.2.1 (RX7, 79, yX11_rowsUpTo) (by decide +kernel)) (C.2.2.2.2.2.1 _ mX7_recall_7_8) (by decide +kernel) ⟨(Nat.le_of_ble_eq_true rfl), (Nat.le_of_ble_eq_true rfl)⟩, C.2.2.2.2.2.1 _ mX7_recall_7_9, trivial⟩ rfl hl.1 rfl (Nat.le_of_ble_eq_true rfl) dX7_recall_55 ⟨Nat.zero_le _, Nat.zero_le _⟩ (fun H locs hP hS => ?_)
  refine lv_istore_n (lv' := [(3, .int r4), (0, .ref (ad 7)), (1, .int z1), (2, .int y0)]) C.1 C.2.1 dX7_recall_58 rfl hl (by decide) rfl (fun ls hl => ?_)
  replace hl := lv_sub (l' := [(0, .ref (ad 7)), (1, .int z1), (2, .int y0), (3, .int r4)]) hl [1, 2, 3, 0] rfl
  refine lv_iload_n C.1 C.2.1 dX7_recall_59 rfl (lv_at hl 2 rfl) ?_
  refine lv_if_eq (tgt := 70) C.1 C.2.1 dX7_recall_60 (by decide) (fun c60 => ?_) (fun c60 => ?_)
  · rw [if_pos c60] at h
    refine lv_iconst (v := 0) C.1 C.2.1 dX7_recall_70 (by decide) ?_
    exact wGX7_recall_7_71 C hK hJ _ _ _ _ _ _ h hP hS (lv_sub hl [0, 3] rfl)
  · rw [if_neg c60] at h
    refine lv_aload_n C.1 C.2.1 dX7_recall_63 rfl (lv_at hl 0 rfl) ?_
    refine gX_7_known C hX7_recall_7_X7 hK hP mX7_recall_7_7 dX7_recall_64 ?_
    refine lv_goto (tgt := 71) C.1 C.2.1 dX7_recall_67 (by decide) ?_
    exact wGX7_recall_7_71 C hK hJ _ _ _ _ _ _ h hP hS (lv_sub hl [0, 3] rfl)
set_option maxHeartbeats 4000000 in
set_option maxRecDepth 100000 in
theorem wGX7_recall_7_40 {p : Program} {l : Launch} {e : Env} {s : State} {m : MethodId} {args : Array Value} {below : List Frame} {meth : Method} {c : Code} {D : va_G} {cy : Nat → ClassId} {ad st : Nat → Nat} (C : Cx RX7 cX7_recall 5 none wsX7_recall p s m args meth c) (hK : Ky D [(cy 0, .int), (cy 1, .long), (cy 2, .boolean), (cy 3, .byte), (cy 4, .object "HissHorn$Text")] st s) (hJ : JX ad st) {r : Int32} {u' : SX}   (z1 : Int32) (u : SX) (H : Heap) (locs : List Loc) (ls : Array Slot) (h : GX7_recall_7_40 z1 u = some (r, u')) (hP : va_P D vwCl (VX cy ad st u) H) (hS : va_S (Ax (AX ad) s.heap.size) s.heap H locs) (hl : lv_has ls 5 [(0, .ref (ad 7)), (1, .int z1)]) : W p l e rmX7_recall_7 s m args below meth c H locs 0 0 (MQ below (Qv D (VX cy ad st) (AX ad) s.heap.size r u') args s 0 0 (Ax (AX ad) s.heap.size)) (F0 m 40 ls []) := by
  unfold GX7_recall_7_40 at h
  refine lv_iconst (v := 0) C.1 C.2.1 dX7_recall_40 (by decide) ?_
  exact wGX7_recall_7_41 C hK hJ _ _ _ _ _ _ h hP hS hl
set_option maxHeartbeats 4000000 in
set_option maxRecDepth 100000 in
theorem wX7_recall_7 {p : Program} {l : Launch} {e : Env} {s : State} {m : MethodId} {args : Array Value} {below : List Frame} {meth : Method} {c : Code} {D : va_G} {cy : Nat → ClassId} {ad st : Nat → Nat} (C : Cx RX7 cX7_recall 5 none wsX7_recall p s m args meth c) (hK : Ky D [(cy 0, .int), (cy 1, .long), (cy 2, .boolean), (cy 3, .byte), (cy 4, .object "HissHorn$Text")] st s) (hJ : JX ad st) (x1 : Int32) {u : SX} {r : Int32} {u' : SX} {H : Heap} {locs : List Loc} {ls : Array Slot} (h : fX7_recall_7 x1 u = some (r, u')) (hP : va_P D vwCl (VX cy ad st u) H) (hS : va_S (Ax (AX ad) s.heap.size) s.heap H locs) (hl : lv_has ls 5 [(0, .ref (ad 7)), (1, .int x1)]) : W p l e rmX7_recall_7 s m args below meth c H locs 0 0 (MQ below (Qv D (VX cy ad st) (AX ad) s.heap.size r u') args s 0 0 (Ax (AX ad) s.heap.size)) (F0 m 0 ls []) := by
  unfold fX7_recall_7 at h
  refine lv_aload_n C.1 C.2.1 dX7_recall_0 rfl (lv_at hl 0 rfl) ?_
  refine gX_7_parts C hX7_recall_7_X7 hK hP mX7_recall_7_1 dX7_recall_1 ?_
  refine lv_iload_n C.1 C.2.1 dX7_recall_4 rfl (lv_at hl 1 rfl) ?_
  obtain ⟨⟨r1, u2⟩, hc3, h⟩ := bd_some h
  try dsimp only at h
  refine cg_v (As := [.int x1]) (rest := []) (AX_ge hJ) C hK hP hS (metX6_recall_6 l D cy ad st hJ _ x1 hc3) (cwV 1 C.2.2.2.2.2.1 gX7_recall_X6_recall rfl rfl rfl (by decide +kernel) ⟨(Nat.le_of_ble_eq_true rfl), (Nat.le_of_ble_eq_true rfl)⟩) 6 6 rfl rfl rfl hl.1 rfl (Nat.le_of_ble_eq_true rfl) dX7_recall_5 ⟨Nat.zero_le _, Nat.zero_le _⟩ (fun H locs hP hS => ?_)
  refine lv_aload_n C.1 C.2.1 dX7_recall_8 rfl (lv_at hl 0 rfl) ?_
  refine gX_7_leftParts C hX7_recall_7_X7 hK hP mX7_recall_7_2 dX7_recall_9 ?_
  refine lv_aload_n C.1 C.2.1 dX7_recall_12 rfl (lv_at hl 0 rfl) ?_
  refine gX_7_parts C hX7_recall_7_X7 hK hP mX7_recall_7_1 dX7_recall_13 ?_
  refine gX_6_known C hX7_recall_7_X6 hK hP mX7_recall_7_4 dX7_recall_16 ?_
  refine lv_icmp_ne (tgt := 40) C.1 C.2.1 dX7_recall_19 (by decide) (fun c19 => ?_) (fun c19 => ?_)
  · rw [if_neg c19] at h
    exact wGX7_recall_7_40 C hK hJ _ _ _ _ _ h hP hS hl
  · rw [if_pos c19] at h
    refine lv_aload_n C.1 C.2.1 dX7_recall_22 rfl (lv_at hl 0 rfl) ?_
    refine gX_7_leftChanges C hX7_recall_7_X7 hK hP mX7_recall_7_11 dX7_recall_23 ?_
    refine lv_aload_n C.1 C.2.1 dX7_recall_26 rfl (lv_at hl 0 rfl) ?_
    refine gX_7_parts C hX7_recall_7_X7 hK hP mX7_recall_7_1 dX7_recall_27 ?_
    refine gX_6_applied C hX7_recall_7_X6 hK hP mX7_recall_7_10 dX7_recall_30 ?_
    refine lv_icmp_ne (tgt := 40) C.1 C.2.1 dX7_recall_33 (by decide) (fun c33 => ?_) (fun c33 => ?_)
    · rw [if_neg c33] at h
      exact wGX7_recall_7_40 C hK hJ _ _ _ _ _ h hP hS hl
    · rw [if_pos c33] at h
      refine lv_iconst (v := 1) C.1 C.2.1 dX7_recall_36 (by decide) ?_
      refine lv_goto (tgt := 41) C.1 C.2.1 dX7_recall_37 (by decide) ?_
      exact wGX7_recall_7_41 C hK hJ _ _ _ _ _ _ h hP hS hl
theorem metX7_recall_7 (l : Launch) (D : va_G) (cy : Nat → ClassId) (ad st : Nat → Nat) (hJ : JX ad st) (sz : Nat) (x1 : Int32) {u : SX} {r : Int32} {u' : SX} (h : fX7_recall_7 x1 u = some (r, u')) : Met l yX7_recall wsX7_recall rmX7_recall_7 (va_Pc [.ref (ad 7), .int x1] (Px D [(cy 0, .int), (cy 1, .long), (cy 2, .boolean), (cy 3, .byte), (cy 4, .object "HissHorn$Text")] st (VX cy ad st) sz u)) (Qv D (VX cy ad st) (AX ad) sz r u') 0 0 (Ax (AX ad) sz) := by
  refine Met.ofW (cc := cX7_recall) (maxL := 5) (ret := none) (by decide) rfl ?_
  intro p e s m args below meth c s₁ B hml hv
  obtain ⟨rfl, hsz, hP, hK⟩ := hv
  subst hsz
  have C : Cx RX7 cX7_recall 5 none wsX7_recall p s m _ meth c := ⟨B.exec, B.bytes, hml, B.returns, findClass_of_methodNamed B.named, atoms_spec (ws := wsX7_recall) B.pre, B.notSynchronized⟩
  have hl := lv_entry ([.ref (ad 7), .int x1]) (n := 5) (Nat.le_of_ble_eq_true rfl)
  rw [lg_entry_eq]
  exact wX7_recall_7 C hK hJ x1 h hP va_S.rf hl

theorem zdX11_left_0 : (and (and (and (and (and (zk cX11_left 0 (.aload_n 0) 1) (zk cX11_left 1 (.iload_n 2) 1)) (and (zk cX11_left 2 (.invokevirtual 174) 3) (zk cX11_left 5 (.ifCond .eq 34) 3))) (and (and (zk cX11_left 39 (.ldc 194) 2) (zk cX11_left 41 (.ireturn) 1)) (and (zk cX11_left 8 (.iload_n 3) 1) (zk cX11_left 9 (.invokestatic 177) 3)))) (and (and (and (zk cX11_left 12 (.ifCond .eq 27) 3) (zk cX11_left 15 (.aload_n 0) 1)) (and (zk cX11_left 16 (.getfield 58) 3) (zk cX11_left 19 (.iload_n 1) 1))) (and (and (zk cX11_left 20 (.invokevirtual 212) 3) (zk cX11_left 23 (.ifCond .eq 16) 3)) (and (zk cX11_left 26 (.aload_n 0) 1) (zk cX11_left 27 (.getfield 58) 3))))) (and (and (and (and (zk cX11_left 30 (.getfield 213) 3) (zk cX11_left 33 (.iload_n 1) 1)) (and (zk cX11_left 34 (.iaload) 1) (zk cX11_left 35 (.iload_n 2) 1))) (and (and (zk cX11_left 36 (.if_icmp .le 6) 3) (zk cX11_left 42 (.aload_n 0) 1)) (and (zk cX11_left 43 (.getfield 58) 3) (zk cX11_left 46 (.iload_n 2) 1)))) (and (and (and (zk cX11_left 47 (.invokevirtual 214) 3) (zk cX11_left 50 (.iload_n 3) 1)) (and (zk cX11_left 51 (.ifCond .ne 15) 3) (zk cX11_left 66 (.aload_n 0) 1))) (and (and (zk cX11_left 67 (.getfield 58) 3) (zk cX11_left 70 (.getfield 218) 3)) (and (zk cX11_left 73 (.iload_n 1) 1) (zk cX11_left 74 (.iaload) 1)))))) = true := by decide +kernel
theorem dX11_left_0 : decode cX11_left 0 = .ok (.aload_n 0, 1) := zk_of (zk_l (zk_l (zk_l (zk_l (zk_l zdX11_left_0)))))
theorem dX11_left_1 : decode cX11_left 1 = .ok (.iload_n 2, 1) := zk_of (zk_r (zk_l (zk_l (zk_l (zk_l zdX11_left_0)))))
theorem dX11_left_2 : decode cX11_left 2 = .ok (.invokevirtual 174, 3) := zk_of (zk_l (zk_r (zk_l (zk_l (zk_l zdX11_left_0)))))
theorem dX11_left_5 : decode cX11_left 5 = .ok (.ifCond .eq 34, 3) := zk_of (zk_r (zk_r (zk_l (zk_l (zk_l zdX11_left_0)))))
theorem dX11_left_39 : decode cX11_left 39 = .ok (.ldc 194, 2) := zk_of (zk_l (zk_l (zk_r (zk_l (zk_l zdX11_left_0)))))
theorem dX11_left_41 : decode cX11_left 41 = .ok (.ireturn, 1) := zk_of (zk_r (zk_l (zk_r (zk_l (zk_l zdX11_left_0)))))
theorem dX11_left_8 : decode cX11_left 8 = .ok (.iload_n 3, 1) := zk_of (zk_l (zk_r (zk_r (zk_l (zk_l zdX11_left_0)))))
theorem dX11_left_9 : decode cX11_left 9 = .ok (.invokestatic 177, 3) := zk_of (zk_r (zk_r (zk_r (zk_l (zk_l zdX11_left_0)))))
theorem dX11_left_12 : decode cX11_left 12 = .ok (.ifCond .eq 27, 3) := zk_of (zk_l (zk_l (zk_l (zk_r (zk_l zdX11_left_0)))))
theorem dX11_left_15 : decode cX11_left 15 = .ok (.aload_n 0, 1) := zk_of (zk_r (zk_l (zk_l (zk_r (zk_l zdX11_left_0)))))
theorem dX11_left_16 : decode cX11_left 16 = .ok (.getfield 58, 3) := zk_of (zk_l (zk_r (zk_l (zk_r (zk_l zdX11_left_0)))))
theorem dX11_left_19 : decode cX11_left 19 = .ok (.iload_n 1, 1) := zk_of (zk_r (zk_r (zk_l (zk_r (zk_l zdX11_left_0)))))
theorem dX11_left_20 : decode cX11_left 20 = .ok (.invokevirtual 212, 3) := zk_of (zk_l (zk_l (zk_r (zk_r (zk_l zdX11_left_0)))))
theorem dX11_left_23 : decode cX11_left 23 = .ok (.ifCond .eq 16, 3) := zk_of (zk_r (zk_l (zk_r (zk_r (zk_l zdX11_left_0)))))
theorem dX11_left_26 : decode cX11_left 26 = .ok (.aload_n 0, 1) := zk_of (zk_l (zk_r (zk_r (zk_r (zk_l zdX11_left_0)))))
theorem dX11_left_27 : decode cX11_left 27 = .ok (.getfield 58, 3) := zk_of (zk_r (zk_r (zk_r (zk_r (zk_l zdX11_left_0)))))
theorem dX11_left_30 : decode cX11_left 30 = .ok (.getfield 213, 3) := zk_of (zk_l (zk_l (zk_l (zk_l (zk_r zdX11_left_0)))))
theorem dX11_left_33 : decode cX11_left 33 = .ok (.iload_n 1, 1) := zk_of (zk_r (zk_l (zk_l (zk_l (zk_r zdX11_left_0)))))
theorem dX11_left_34 : decode cX11_left 34 = .ok (.iaload, 1) := zk_of (zk_l (zk_r (zk_l (zk_l (zk_r zdX11_left_0)))))
theorem dX11_left_35 : decode cX11_left 35 = .ok (.iload_n 2, 1) := zk_of (zk_r (zk_r (zk_l (zk_l (zk_r zdX11_left_0)))))
theorem dX11_left_36 : decode cX11_left 36 = .ok (.if_icmp .le 6, 3) := zk_of (zk_l (zk_l (zk_r (zk_l (zk_r zdX11_left_0)))))
theorem dX11_left_42 : decode cX11_left 42 = .ok (.aload_n 0, 1) := zk_of (zk_r (zk_l (zk_r (zk_l (zk_r zdX11_left_0)))))
theorem dX11_left_43 : decode cX11_left 43 = .ok (.getfield 58, 3) := zk_of (zk_l (zk_r (zk_r (zk_l (zk_r zdX11_left_0)))))
theorem dX11_left_46 : decode cX11_left 46 = .ok (.iload_n 2, 1) := zk_of (zk_r (zk_r (zk_r (zk_l (zk_r zdX11_left_0)))))
theorem dX11_left_47 : decode cX11_left 47 = .ok (.invokevirtual 214, 3) := zk_of (zk_l (zk_l (zk_l (zk_r (zk_r zdX11_left_0)))))
theorem dX11_left_50 : decode cX11_left 50 = .ok (.iload_n 3, 1) := zk_of (zk_r (zk_l (zk_l (zk_r (zk_r zdX11_left_0)))))
theorem dX11_left_51 : decode cX11_left 51 = .ok (.ifCond .ne 15, 3) := zk_of (zk_l (zk_r (zk_l (zk_r (zk_r zdX11_left_0)))))
theorem dX11_left_66 : decode cX11_left 66 = .ok (.aload_n 0, 1) := zk_of (zk_r (zk_r (zk_l (zk_r (zk_r zdX11_left_0)))))
theorem dX11_left_67 : decode cX11_left 67 = .ok (.getfield 58, 3) := zk_of (zk_l (zk_l (zk_r (zk_r (zk_r zdX11_left_0)))))
theorem dX11_left_70 : decode cX11_left 70 = .ok (.getfield 218, 3) := zk_of (zk_r (zk_l (zk_r (zk_r (zk_r zdX11_left_0)))))
theorem dX11_left_73 : decode cX11_left 73 = .ok (.iload_n 1, 1) := zk_of (zk_l (zk_r (zk_r (zk_r (zk_r zdX11_left_0)))))
theorem dX11_left_74 : decode cX11_left 74 = .ok (.iaload, 1) := zk_of (zk_r (zk_r (zk_r (zk_r (zk_r zdX11_left_0)))))
set_option maxRecDepth 20000 in
theorem ggX11_left_X11_isDay : GoodIn wsX11_left wsX11_isDay := ggi (fun w h => List.mem_cons_of_mem _ (List.mem_append_left _ (List.mem_append_left _ (List.mem_append_left _ (List.mem_append_left _ (List.mem_append_left _ (List.mem_append_right _ (List.mem_append_left _ h)))))))) gs_X11_isDay
set_option maxRecDepth 20000 in
theorem gX11_left_X11_isDay : GoodIn wsX11_left (wsV RX11 174 RX11 yX11_isDay wsX11_isDay) := goodIn_app (goodIn_of _ (by decide +kernel)) ggX11_left_X11_isDay
set_option maxRecDepth 20000 in
theorem ggX11_left_X11_isEither : GoodIn wsX11_left wsX11_isEither := ggi (fun w h => List.mem_cons_of_mem _ (List.mem_append_left _ (List.mem_append_left _ (List.mem_append_left _ (List.mem_append_left _ (List.mem_append_left _ (List.mem_append_right _ (List.mem_append_right _ (List.mem_append_left _ h))))))))) gs_X11_isEither
set_option maxRecDepth 20000 in
theorem gX11_left_X11_isEither : GoodIn wsX11_left (va_wsS RX11 177 yX11_isEither wsX11_isEither) := goodIn_app (goodIn_of _ (by decide +kernel)) ggX11_left_X11_isEither
set_option maxRecDepth 20000 in
theorem ggX11_left_X7_has : GoodIn wsX11_left wsX7_has := ggi (fun w h => List.mem_cons_of_mem _ (List.mem_append_left _ (List.mem_append_left _ (List.mem_append_left _ (List.mem_append_left _ (List.mem_append_left _ (List.mem_append_right _ (List.mem_append_right _ (List.mem_append_right _ (List.mem_append_left _ h)))))))))) gs_X7_has
set_option maxRecDepth 20000 in
theorem gX11_left_X7_has : GoodIn wsX11_left (wsV RX11 212 RX7 yX7_has wsX7_has) := goodIn_app (goodIn_of _ (by decide +kernel)) ggX11_left_X7_has
set_option maxRecDepth 20000 in
theorem ggX11_left_X7_recall : GoodIn wsX11_left wsX7_recall := ggi (fun w h => List.mem_cons_of_mem _ (List.mem_append_left _ (List.mem_append_left _ (List.mem_append_left _ (List.mem_append_left _ (List.mem_append_left _ (List.mem_append_right _ (List.mem_append_right _ (List.mem_append_right _ (List.mem_append_right _ h)))))))))) gs_X7_recall
set_option maxRecDepth 20000 in
theorem gX11_left_X7_recall : GoodIn wsX11_left (wsV RX11 214 RX7 yX7_recall wsX7_recall) := goodIn_app (goodIn_of _ (by decide +kernel)) ggX11_left_X7_recall
theorem zdX11_left_75 : (and (and (and (zk cX11_left 75 (.ireturn) 1) (zk cX11_left 54 (.aload_n 0) 1)) (and (zk cX11_left 55 (.getfield 58) 3) (zk cX11_left 58 (.getfield 215) 3))) (and (and (zk cX11_left 61 (.iload_n 1) 1) (zk cX11_left 62 (.iaload) 1)) (zk cX11_left 63 (.goto 12) 3))) = true := by decide +kernel
theorem dX11_left_75 : decode cX11_left 75 = .ok (.ireturn, 1) := zk_of (zk_l (zk_l (zk_l zdX11_left_75)))
theorem dX11_left_54 : decode cX11_left 54 = .ok (.aload_n 0, 1) := zk_of (zk_r (zk_l (zk_l zdX11_left_75)))
theorem dX11_left_55 : decode cX11_left 55 = .ok (.getfield 58, 3) := zk_of (zk_l (zk_r (zk_l zdX11_left_75)))
theorem dX11_left_58 : decode cX11_left 58 = .ok (.getfield 215, 3) := zk_of (zk_r (zk_r (zk_l zdX11_left_75)))
theorem dX11_left_61 : decode cX11_left 61 = .ok (.iload_n 1, 1) := zk_of (zk_l (zk_l (zk_r zdX11_left_75)))
theorem dX11_left_62 : decode cX11_left 62 = .ok (.iaload, 1) := zk_of (zk_r (zk_l (zk_r zdX11_left_75)))
theorem dX11_left_63 : decode cX11_left 63 = .ok (.goto 12, 3) := zk_of (zk_r (zk_r zdX11_left_75))
/-- HissHorn.left(III)I of cell 0 -/
def rmX11_left_0 : Room := { frames := 7, cells := 0, slots := 0, locals := 162 }
theorem mX11_left_0_0 : Cond.constant RX11 194 (-100000000) ∈ wsX11_left := (List.mem_cons_of_mem _ (List.mem_append_left _ (List.mem_append_left _ (List.mem_append_left _ (List.mem_append_left _ (List.mem_append_left _ (List.mem_append_left _ (List.mem_of_getElem? (i := 13) rfl))))))))
theorem hX11_left_0_X11 : ∀ w ∈ u_ws RX11 TX11 13, w ∈ wsX11_left := fun w h => (List.mem_cons_of_mem _ (List.mem_append_left _ (List.mem_append_left _ (List.mem_append_left _ (List.mem_append_left _ (List.mem_append_right _ h))))))
theorem mX11_left_0_2 : Cond.fieldLink RX11 58 "HissHorn" "readings" "LHissHorn$Readings;" ∈ wsX11_left := (List.mem_cons_of_mem _ (List.mem_append_left _ (List.mem_append_left _ (List.mem_append_left _ (List.mem_append_left _ (List.mem_append_left _ (List.mem_append_left _ (List.mem_of_getElem? (i := 14) rfl))))))))
theorem hX11_left_0_X7 : ∀ w ∈ u_ws RX7 TX7 12, w ∈ wsX11_left := fun w h => (List.mem_cons_of_mem _ (List.mem_append_left _ (List.mem_append_left _ (List.mem_append_left _ (List.mem_append_right _ h)))))
theorem mX11_left_0_4 : Cond.fieldLink RX11 213 "HissHorn$Readings" "day" "[I" ∈ wsX11_left := (List.mem_cons_of_mem _ (List.mem_append_left _ (List.mem_append_left _ (List.mem_append_left _ (List.mem_append_left _ (List.mem_append_left _ (List.mem_append_left _ (List.mem_of_getElem? (i := 15) rfl))))))))
theorem mX11_left_0_5 : Cond.fieldLink RX11 218 "HissHorn$Readings" "upper" "[I" ∈ wsX11_left := (List.mem_cons_of_mem _ (List.mem_append_left _ (List.mem_append_left _ (List.mem_append_left _ (List.mem_append_left _ (List.mem_append_left _ (List.mem_append_left _ (List.mem_of_getElem? (i := 16) rfl))))))))
theorem mX11_left_0_6 : Cond.fieldLink RX11 215 "HissHorn$Readings" "lower" "[I" ∈ wsX11_left := (List.mem_cons_of_mem _ (List.mem_append_left _ (List.mem_append_left _ (List.mem_append_left _ (List.mem_append_left _ (List.mem_append_left _ (List.mem_append_left _ (List.mem_of_getElem? (i := 17) rfl))))))))
def fX11_left_0 (x1 : Int32) (x2 : Int32) (x3 : Int32) (u : SX) : Option (Int32 × SX) := ((fX11_isDay_0 x2 u).bind fun q => match q with | (r1, u2) => (if r1 = 0 then (some ((-100000000), u2)) else ((fX11_isEither x3).bind fun r4 => (if r4 = 0 then (some ((-100000000), u2)) else ((fX7_has_7 x1 u2).bind fun q => match q with | (r7, u8) => (if r7 = 0 then (some ((-100000000), u8)) else (gd (inb x1 80) (if (u8.2.1 37 x1.toNatClampNeg) ≤ x2 then ((fX7_recall_7 x2 u8).bind fun q => match q with | (r11, u12) => (if x3 = 0 then (gd (inb x1 80) (some (u12.2.1 38 x1.toNatClampNeg, u12))) else (gd (inb x1 80) (some (u12.2.1 39 x1.toNatClampNeg, u12))))) else (some ((-100000000), u8))))))))))
set_option maxHeartbeats 4000000 in
set_option maxRecDepth 100000 in
theorem wX11_left_0 {p : Program} {l : Launch} {e : Env} {s : State} {m : MethodId} {args : Array Value} {below : List Frame} {meth : Method} {c : Code} {D : va_G} {cy : Nat → ClassId} {ad st : Nat → Nat} (C : Cx RX11 cX11_left 4 (some .int) wsX11_left p s m args meth c) (hK : Ky D [(cy 0, .int), (cy 1, .long), (cy 2, .boolean), (cy 3, .byte), (cy 4, .object "HissHorn$Text")] st s) (hJ : JX ad st) (x1 : Int32) (x2 : Int32) (x3 : Int32) {u : SX} {r : Int32} {u' : SX} {H : Heap} {locs : List Loc} {ls : Array Slot} (h : fX11_left_0 x1 x2 x3 u = some (r, u')) (hP : va_P D vwCl (VX cy ad st u) H) (hS : va_S (Ax (AX ad) s.heap.size) s.heap H locs) (hl : lv_has ls 4 [(0, .ref (ad 0)), (1, .int x1), (2, .int x2), (3, .int x3)]) : W p l e rmX11_left_0 s m args below meth c H locs 0 0 (MQ below (Qi D (VX cy ad st) (AX ad) s.heap.size r u') args s 0 0 (Ax (AX ad) s.heap.size)) (F0 m 0 ls []) := by
  unfold fX11_left_0 at h
  refine lv_aload_n C.1 C.2.1 dX11_left_0 rfl (lv_at hl 0 rfl) ?_
  refine lv_iload_n C.1 C.2.1 dX11_left_1 rfl (lv_at hl 2 rfl) ?_
  obtain ⟨⟨r1, u2⟩, hc3, h⟩ := bd_some h
  try dsimp only at h
  refine cg_i (As := [.int x2]) (rest := []) (AX_ge hJ) C hK hP hS (metX11_isDay_0 l D cy ad st hJ _ x2 hc3) (cwV 1 C.2.2.2.2.2.1 gX11_left_X11_isDay rfl rfl rfl (by decide +kernel) ⟨(Nat.le_of_ble_eq_true rfl), (Nat.le_of_ble_eq_true rfl)⟩) 0 11 rfl rfl rfl hl.1 rfl (Nat.le_of_ble_eq_true rfl) dX11_left_2 ⟨Nat.zero_le _, Nat.zero_le _⟩ (fun H locs hP hS => ?_)
  refine lv_if_eq (tgt := 39) C.1 C.2.1 dX11_left_5 (by decide) (fun c5 => ?_) (fun c5 => ?_)
  · rw [if_pos c5] at h
    refine lv_ldc C.1 C.2.1 C.2.2.2.2.1 (C.2.2.2.2.2.1 _ mX11_left_0_0) dX11_left_39 ?_
    cases h
    exact rt_i C hP hS dX11_left_41
  · rw [if_neg c5] at h
    refine lv_iload_n C.1 C.2.1 dX11_left_8 rfl (lv_at hl 3 rfl) ?_
    obtain ⟨r4, hc6, h⟩ := bd_some h
    refine cs_i (As := [.int x3]) (rest := []) (AX_ge hJ) C hK hP hS (metX11_isEither l D cy st _ x3 hc6) (va_cwS 1 C.2.2.2.2.2.1 gX11_left_X11_isEither rfl rfl rfl (by decide +kernel) ⟨(Nat.le_of_ble_eq_true rfl), (Nat.le_of_ble_eq_true rfl)⟩) rfl hl.1 rfl (Nat.le_of_ble_eq_true rfl) dX11_left_9 ⟨Nat.zero_le _, Nat.zero_le _⟩ (fun H locs hP hS => ?_)
    refine lv_if_eq (tgt := 39) C.1 C.2.1 dX11_left_12 (by decide) (fun c12 => ?_) (fun c12 => ?_)
    · rw [if_pos c12] at h
      refine lv_ldc C.1 C.2.1 C.2.2.2.2.1 (C.2.2.2.2.2.1 _ mX11_left_0_0) dX11_left_39 ?_
      cases h
      exact rt_i C hP hS dX11_left_41
    · rw [if_neg c12] at h
      refine lv_aload_n C.1 C.2.1 dX11_left_15 rfl (lv_at hl 0 rfl) ?_
      refine gX_0_readings C hX11_left_0_X11 hK hP mX11_left_0_2 dX11_left_16 ?_
      refine lv_iload_n C.1 C.2.1 dX11_left_19 rfl (lv_at hl 1 rfl) ?_
      obtain ⟨⟨r7, u8⟩, hc9, h⟩ := bd_some h
      try dsimp only at h
      refine cg_i (As := [.int x1]) (rest := []) (AX_ge hJ) C hK hP hS (metX7_has_7 l D cy ad st hJ _ x1 hc9) (cwV 1 C.2.2.2.2.2.1 gX11_left_X7_has rfl rfl rfl (by decide +kernel) ⟨(Nat.le_of_ble_eq_true rfl), (Nat.le_of_ble_eq_true rfl)⟩) 7 7 rfl rfl rfl hl.1 rfl (Nat.le_of_ble_eq_true rfl) dX11_left_20 ⟨Nat.zero_le _, Nat.zero_le _⟩ (fun H locs hP hS => ?_)
      refine lv_if_eq (tgt := 39) C.1 C.2.1 dX11_left_23 (by decide) (fun c23 => ?_) (fun c23 => ?_)
      · rw [if_pos c23] at h
        refine lv_ldc C.1 C.2.1 C.2.2.2.2.1 (C.2.2.2.2.2.1 _ mX11_left_0_0) dX11_left_39 ?_
        cases h
        exact rt_i C hP hS dX11_left_41
      · rw [if_neg c23] at h
        refine lv_aload_n C.1 C.2.1 dX11_left_26 rfl (lv_at hl 0 rfl) ?_
        refine gX_0_readings C hX11_left_0_X11 hK hP mX11_left_0_2 dX11_left_27 ?_
        refine gX_7_day C hX11_left_0_X7 hK hP mX11_left_0_4 dX11_left_30 ?_
        refine lv_iload_n C.1 C.2.1 dX11_left_33 rfl (lv_at hl 1 rfl) ?_
        obtain ⟨hg10, h⟩ := gd_some h
        refine lX_37 C hK hP hg10 dX11_left_34 ?_
        refine lv_iload_n C.1 C.2.1 dX11_left_35 rfl (lv_at hl 2 rfl) ?_
        refine lv_icmp_le (tgt := 42) C.1 C.2.1 dX11_left_36 (by decide) (fun c36 => ?_) (fun c36 => ?_)
        · rw [if_pos c36] at h
          refine lv_aload_n C.1 C.2.1 dX11_left_42 rfl (lv_at hl 0 rfl) ?_
          refine gX_0_readings C hX11_left_0_X11 hK hP mX11_left_0_2 dX11_left_43 ?_
          refine lv_iload_n C.1 C.2.1 dX11_left_46 rfl (lv_at hl 2 rfl) ?_
          obtain ⟨⟨r11, u12⟩, hc13, h⟩ := bd_some h
          try dsimp only at h
          refine cg_v (As := [.int x2]) (rest := []) (AX_ge hJ) C hK hP hS (metX7_recall_7 l D cy ad st hJ _ x2 hc13) (cwV 1 C.2.2.2.2.2.1 gX11_left_X7_recall rfl rfl rfl (by decide +kernel) ⟨(Nat.le_of_ble_eq_true rfl), (Nat.le_of_ble_eq_true rfl)⟩) 7 7 rfl rfl rfl hl.1 rfl (Nat.le_of_ble_eq_true rfl) dX11_left_47 ⟨Nat.zero_le _, Nat.zero_le _⟩ (fun H locs hP hS => ?_)
          refine lv_iload_n C.1 C.2.1 dX11_left_50 rfl (lv_at hl 3 rfl) ?_
          refine lv_if_ne (tgt := 66) C.1 C.2.1 dX11_left_51 (by decide) (fun c51 => ?_) (fun c51 => ?_)
          · rw [if_neg c51] at h
            refine lv_aload_n C.1 C.2.1 dX11_left_66 rfl (lv_at hl 0 rfl) ?_
            refine gX_0_readings C hX11_left_0_X11 hK hP mX11_left_0_2 dX11_left_67 ?_
            refine gX_7_upper C hX11_left_0_X7 hK hP mX11_left_0_5 dX11_left_70 ?_
            refine lv_iload_n C.1 C.2.1 dX11_left_73 rfl (lv_at hl 1 rfl) ?_
            obtain ⟨hg14, h⟩ := gd_some h
            refine lX_39 C hK hP hg14 dX11_left_74 ?_
            cases h
            exact rt_i C hP hS dX11_left_75
          · rw [if_pos c51] at h
            refine lv_aload_n C.1 C.2.1 dX11_left_54 rfl (lv_at hl 0 rfl) ?_
            refine gX_0_readings C hX11_left_0_X11 hK hP mX11_left_0_2 dX11_left_55 ?_
            refine gX_7_lower C hX11_left_0_X7 hK hP mX11_left_0_6 dX11_left_58 ?_
            refine lv_iload_n C.1 C.2.1 dX11_left_61 rfl (lv_at hl 1 rfl) ?_
            obtain ⟨hg15, h⟩ := gd_some h
            refine lX_38 C hK hP hg15 dX11_left_62 ?_
            refine lv_goto (tgt := 75) C.1 C.2.1 dX11_left_63 (by decide) ?_
            cases h
            exact rt_i C hP hS dX11_left_75
        · rw [if_neg c36] at h
          refine lv_ldc C.1 C.2.1 C.2.2.2.2.1 (C.2.2.2.2.2.1 _ mX11_left_0_0) dX11_left_39 ?_
          cases h
          exact rt_i C hP hS dX11_left_41
theorem metX11_left_0 (l : Launch) (D : va_G) (cy : Nat → ClassId) (ad st : Nat → Nat) (hJ : JX ad st) (sz : Nat) (x1 : Int32) (x2 : Int32) (x3 : Int32) {u : SX} {r : Int32} {u' : SX} (h : fX11_left_0 x1 x2 x3 u = some (r, u')) : Met l yX11_left wsX11_left rmX11_left_0 (va_Pc [.ref (ad 0), .int x1, .int x2, .int x3] (Px D [(cy 0, .int), (cy 1, .long), (cy 2, .boolean), (cy 3, .byte), (cy 4, .object "HissHorn$Text")] st (VX cy ad st) sz u)) (Qi D (VX cy ad st) (AX ad) sz r u') 0 0 (Ax (AX ad) sz) := by
  refine Met.ofW (cc := cX11_left) (maxL := 4) (ret := (some .int)) (by decide) rfl ?_
  intro p e s m args below meth c s₁ B hml hv
  obtain ⟨rfl, hsz, hP, hK⟩ := hv
  subst hsz
  have C : Cx RX11 cX11_left 4 (some .int) wsX11_left p s m _ meth c := ⟨B.exec, B.bytes, hml, B.returns, findClass_of_methodNamed B.named, atoms_spec (ws := wsX11_left) B.pre, B.notSynchronized⟩
  have hl := lv_entry ([.ref (ad 0), .int x1, .int x2, .int x3]) (n := 4) (Nat.le_of_ble_eq_true rfl)
  rw [lg_entry_eq]
  exact wX11_left_0 C hK hJ x1 x2 x3 h hP va_S.rf hl

theorem zdX11_spread_0 : (and (and (and (and (zk cX11_spread 0 (.iload_n 1) 1) (zk cX11_spread 1 (.iload_n 2) 1)) (zk cX11_spread 2 (.invokestatic 392) 3)) (and (zk cX11_spread 5 (.iload_n 0) 1) (zk cX11_spread 6 (.iload_n 2) 1))) (and (and (zk cX11_spread 7 (.invokestatic 392) 3) (zk cX11_spread 10 (.isub) 1)) (and (zk cX11_spread 11 (.invokestatic 395) 3) (zk cX11_spread 14 (.ireturn) 1)))) = true := by decide +kernel
theorem dX11_spread_0 : decode cX11_spread 0 = .ok (.iload_n 1, 1) := zk_of (zk_l (zk_l (zk_l (zk_l zdX11_spread_0))))
theorem dX11_spread_1 : decode cX11_spread 1 = .ok (.iload_n 2, 1) := zk_of (zk_r (zk_l (zk_l (zk_l zdX11_spread_0))))
theorem dX11_spread_2 : decode cX11_spread 2 = .ok (.invokestatic 392, 3) := zk_of (zk_r (zk_l (zk_l zdX11_spread_0)))
theorem dX11_spread_5 : decode cX11_spread 5 = .ok (.iload_n 0, 1) := zk_of (zk_l (zk_r (zk_l zdX11_spread_0)))
theorem dX11_spread_6 : decode cX11_spread 6 = .ok (.iload_n 2, 1) := zk_of (zk_r (zk_r (zk_l zdX11_spread_0)))
theorem dX11_spread_7 : decode cX11_spread 7 = .ok (.invokestatic 392, 3) := zk_of (zk_l (zk_l (zk_r zdX11_spread_0)))
theorem dX11_spread_10 : decode cX11_spread 10 = .ok (.isub, 1) := zk_of (zk_r (zk_l (zk_r zdX11_spread_0)))
theorem dX11_spread_11 : decode cX11_spread 11 = .ok (.invokestatic 395, 3) := zk_of (zk_l (zk_r (zk_r zdX11_spread_0)))
theorem dX11_spread_14 : decode cX11_spread 14 = .ok (.ireturn, 1) := zk_of (zk_r (zk_r (zk_r zdX11_spread_0)))
set_option maxRecDepth 20000 in
theorem ggX11_spread_X11_shine : GoodIn wsX11_spread wsX11_shine := goodIn_r _ [8] rfl (by decide +kernel)
set_option maxRecDepth 20000 in
theorem gX11_spread_X11_shine : GoodIn wsX11_spread (va_wsS RX11 392 yX11_shine wsX11_shine) := goodIn_app (goodIn_of _ (by decide +kernel)) ggX11_spread_X11_shine
/-- HissHorn.spread(III)I -/
def rmX11_spread : Room := { frames := 1, cells := 0, slots := 0, locals := 21 }
theorem mX11_spread_0 : Cond.methodLink RX11 395 Lib.Math.abs.name ∈ wsX11_spread := (List.mem_cons_of_mem _ (List.mem_of_getElem? (i := 0) rfl))
theorem mX11_spread_1 : Cond.static Lib.Math.abs.name ∈ wsX11_spread := (List.mem_cons_of_mem _ (List.mem_of_getElem? (i := 1) rfl))
theorem mX11_spread_2 : Cond.initialized "java/lang/Math" ∈ wsX11_spread := (List.mem_cons_of_mem _ (List.mem_of_getElem? (i := 2) rfl))
theorem mX11_spread_3 : Cond.code Lib.Math.abs.name Lib.Math.abs.code 1 (some .int) ∈ wsX11_spread := (List.mem_cons_of_mem _ (List.mem_of_getElem? (i := 3) rfl))
def fX11_spread (x0 : Int32) (x1 : Int32) (x2 : Int32) : Option Int32 := ((fX11_shine x1 x2).bind fun r1 => ((fX11_shine x0 x2).bind fun r4 => (some (if 0 ≤ (r1 - r4) then (r1 - r4) else 0 - (r1 - r4)))))
set_option maxHeartbeats 4000000 in
set_option maxRecDepth 100000 in
theorem wX11_spread {p : Program} {l : Launch} {e : Env} {s : State} {m : MethodId} {args : Array Value} {below : List Frame} {meth : Method} {c : Code} {D : va_G} {cy : Nat → ClassId} {st : Nat → Nat} (C : Cx RX11 cX11_spread 3 (some .int) wsX11_spread p s m args meth c) (hK : Ky D [(cy 0, .int), (cy 1, .long), (cy 2, .boolean), (cy 3, .byte), (cy 4, .object "HissHorn$Text")] st s) (x0 : Int32) (x1 : Int32) (x2 : Int32) {r : Int32} {H : Heap} {locs : List Loc} {ls : Array Slot} (h : fX11_spread x0 x1 x2 = some r) (hP : va_P D vwCl (V0 u00) H) (hS : va_S (Ax (A0) s.heap.size) s.heap H locs) (hl : lv_has ls 3 [(0, .int x0), (1, .int x1), (2, .int x2)]) : W p l e rmX11_spread s m args below meth c H locs 0 0 (MQ below (Qi D (V0) (A0) s.heap.size r u00) args s 0 0 (Ax (A0) s.heap.size)) (F0 m 0 ls []) := by
  unfold fX11_spread at h
  refine lv_iload_n C.1 C.2.1 dX11_spread_0 rfl (lv_at hl 1 rfl) ?_
  refine lv_iload_n C.1 C.2.1 dX11_spread_1 rfl (lv_at hl 2 rfl) ?_
  obtain ⟨r1, hc3, h⟩ := bd_some h
  refine cs_i (As := [.int x1, .int x2]) (rest := []) A0_ge C hK hP hS (metX11_shine l D cy st _ x1 x2 hc3) (va_cwS 2 C.2.2.2.2.2.1 gX11_spread_X11_shine rfl rfl rfl (by decide +kernel) ⟨(Nat.le_of_ble_eq_true rfl), (Nat.le_of_ble_eq_true rfl)⟩) rfl hl.1 rfl (Nat.le_of_ble_eq_true rfl) dX11_spread_2 ⟨Nat.zero_le _, Nat.zero_le _⟩ (fun H locs hP hS => ?_)
  refine lv_iload_n C.1 C.2.1 dX11_spread_5 rfl (lv_at hl 0 rfl) ?_
  refine lv_iload_n C.1 C.2.1 dX11_spread_6 rfl (lv_at hl 2 rfl) ?_
  obtain ⟨r4, hc6, h⟩ := bd_some h
  refine cs_i (As := [.int x0, .int x2]) (rest := [.int r1]) A0_ge C hK hP hS (metX11_shine l D cy st _ x0 x2 hc6) (va_cwS 2 C.2.2.2.2.2.1 gX11_spread_X11_shine rfl rfl rfl (by decide +kernel) ⟨(Nat.le_of_ble_eq_true rfl), (Nat.le_of_ble_eq_true rfl)⟩) rfl hl.1 rfl (Nat.le_of_ble_eq_true rfl) dX11_spread_7 ⟨Nat.zero_le _, Nat.zero_le _⟩ (fun H locs hP hS => ?_)
  refine lv_isub C.1 C.2.1 dX11_spread_10 ?_
  refine va_mabs C.1 C.2.1 (C.2.2.1.trans hl.1.symm) C.2.2.2.2.1 (C.2.2.2.2.2.1 _ mX11_spread_0) (C.2.2.2.2.2.1 _ mX11_spread_1) (C.2.2.2.2.2.1 _ mX11_spread_2) (C.2.2.2.2.2.1 _ mX11_spread_3) (Nat.le_of_ble_eq_true rfl) (Nat.le_of_ble_eq_true rfl) (Nat.zero_le _) (Nat.zero_le _) dX11_spread_11 ?_
  cases h
  exact rt_i C hP hS dX11_spread_14
theorem metX11_spread (l : Launch) (D : va_G) (cy : Nat → ClassId) (st : Nat → Nat) (sz : Nat) (x0 : Int32) (x1 : Int32) (x2 : Int32) {r : Int32} (h : fX11_spread x0 x1 x2 = some r) : Met l yX11_spread wsX11_spread rmX11_spread (va_Pc [.int x0, .int x1, .int x2] (Px D [(cy 0, .int), (cy 1, .long), (cy 2, .boolean), (cy 3, .byte), (cy 4, .object "HissHorn$Text")] st V0 sz u00)) (Qi D V0 A0 sz r u00) 0 0 (Ax A0 sz) := by
  refine Met.ofW (cc := cX11_spread) (maxL := 3) (ret := (some .int)) (by decide) rfl ?_
  intro p e s m args below meth c s₁ B hml hv
  obtain ⟨rfl, hsz, hP, hK⟩ := hv
  subst hsz
  have C : Cx RX11 cX11_spread 3 (some .int) wsX11_spread p s m _ meth c := ⟨B.exec, B.bytes, hml, B.returns, findClass_of_methodNamed B.named, atoms_spec (ws := wsX11_spread) B.pre, B.notSynchronized⟩
  have hl := lv_entry ([.int x0, .int x1, .int x2]) (n := 3) (Nat.le_of_ble_eq_true rfl)
  rw [lg_entry_eq]
  exact wX11_spread C hK x0 x1 x2 h hP va_S.rf hl

theorem zdX7_widestPart_63 : (and (and (and (and (and (zk cX7_widestPart 63 (.iinc 4 1) 3) (zk cX7_widestPart 66 (.goto (-59)) 3)) (and (zk cX7_widestPart 7 (.iload 4) 2) (zk cX7_widestPart 9 (.aload_n 0) 1))) (and (and (zk cX7_widestPart 10 (.getfield 34) 3) (zk cX7_widestPart 13 (.getfield 69) 3)) (and (zk cX7_widestPart 16 (.if_icmp .ge 53) 3) (zk cX7_widestPart 69 (.iload_n 2) 1)))) (and (and (and (zk cX7_widestPart 70 (.ireturn) 1) (zk cX7_widestPart 19 (.aload_n 0) 1)) (and (zk cX7_widestPart 20 (.getfield 34) 3) (zk cX7_widestPart 23 (.getfield 90) 3))) (and (and (zk cX7_widestPart 26 (.iload 4) 2) (zk cX7_widestPart 28 (.iaload) 1)) (and (zk cX7_widestPart 29 (.aload_n 0) 1) (zk cX7_widestPart 30 (.getfield 34) 3))))) (and (and (and (and (zk cX7_widestPart 33 (.getfield 96) 3) (zk cX7_widestPart 36 (.iload 4) 2)) (and (zk cX7_widestPart 38 (.iaload) 1) (zk cX7_widestPart 39 (.aload_n 0) 1))) (and (and (zk cX7_widestPart 40 (.iload_n 1) 1) (zk cX7_widestPart 41 (.iload 4) 2)) (and (zk cX7_widestPart 43 (.invokevirtual 86) 3) (zk cX7_widestPart 46 (.invokestatic 114) 3)))) (and (and (and (zk cX7_widestPart 49 (.istore 5) 2) (zk cX7_widestPart 51 (.iload 5) 2)) (and (zk cX7_widestPart 53 (.iload_n 3) 1) (zk cX7_widestPart 54 (.if_icmp .le 9) 3))) (and (and (zk cX7_widestPart 57 (.iload 5) 2) (zk cX7_widestPart 59 (.istore_n 3) 1)) (and (zk cX7_widestPart 60 (.iload 4) 2) (zk cX7_widestPart 62 (.istore_n 2) 1)))))) = true := by decide +kernel
theorem dX7_widestPart_63 : decode cX7_widestPart 63 = .ok (.iinc 4 1, 3) := zk_of (zk_l (zk_l (zk_l (zk_l (zk_l zdX7_widestPart_63)))))
theorem dX7_widestPart_66 : decode cX7_widestPart 66 = .ok (.goto (-59), 3) := zk_of (zk_r (zk_l (zk_l (zk_l (zk_l zdX7_widestPart_63)))))
theorem dX7_widestPart_7 : decode cX7_widestPart 7 = .ok (.iload 4, 2) := zk_of (zk_l (zk_r (zk_l (zk_l (zk_l zdX7_widestPart_63)))))
theorem dX7_widestPart_9 : decode cX7_widestPart 9 = .ok (.aload_n 0, 1) := zk_of (zk_r (zk_r (zk_l (zk_l (zk_l zdX7_widestPart_63)))))
theorem dX7_widestPart_10 : decode cX7_widestPart 10 = .ok (.getfield 34, 3) := zk_of (zk_l (zk_l (zk_r (zk_l (zk_l zdX7_widestPart_63)))))
theorem dX7_widestPart_13 : decode cX7_widestPart 13 = .ok (.getfield 69, 3) := zk_of (zk_r (zk_l (zk_r (zk_l (zk_l zdX7_widestPart_63)))))
theorem dX7_widestPart_16 : decode cX7_widestPart 16 = .ok (.if_icmp .ge 53, 3) := zk_of (zk_l (zk_r (zk_r (zk_l (zk_l zdX7_widestPart_63)))))
theorem dX7_widestPart_69 : decode cX7_widestPart 69 = .ok (.iload_n 2, 1) := zk_of (zk_r (zk_r (zk_r (zk_l (zk_l zdX7_widestPart_63)))))
theorem dX7_widestPart_70 : decode cX7_widestPart 70 = .ok (.ireturn, 1) := zk_of (zk_l (zk_l (zk_l (zk_r (zk_l zdX7_widestPart_63)))))
theorem dX7_widestPart_19 : decode cX7_widestPart 19 = .ok (.aload_n 0, 1) := zk_of (zk_r (zk_l (zk_l (zk_r (zk_l zdX7_widestPart_63)))))
theorem dX7_widestPart_20 : decode cX7_widestPart 20 = .ok (.getfield 34, 3) := zk_of (zk_l (zk_r (zk_l (zk_r (zk_l zdX7_widestPart_63)))))
theorem dX7_widestPart_23 : decode cX7_widestPart 23 = .ok (.getfield 90, 3) := zk_of (zk_r (zk_r (zk_l (zk_r (zk_l zdX7_widestPart_63)))))
theorem dX7_widestPart_26 : decode cX7_widestPart 26 = .ok (.iload 4, 2) := zk_of (zk_l (zk_l (zk_r (zk_r (zk_l zdX7_widestPart_63)))))
theorem dX7_widestPart_28 : decode cX7_widestPart 28 = .ok (.iaload, 1) := zk_of (zk_r (zk_l (zk_r (zk_r (zk_l zdX7_widestPart_63)))))
theorem dX7_widestPart_29 : decode cX7_widestPart 29 = .ok (.aload_n 0, 1) := zk_of (zk_l (zk_r (zk_r (zk_r (zk_l zdX7_widestPart_63)))))
theorem dX7_widestPart_30 : decode cX7_widestPart 30 = .ok (.getfield 34, 3) := zk_of (zk_r (zk_r (zk_r (zk_r (zk_l zdX7_widestPart_63)))))
theorem dX7_widestPart_33 : decode cX7_widestPart 33 = .ok (.getfield 96, 3) := zk_of (zk_l (zk_l (zk_l (zk_l (zk_r zdX7_widestPart_63)))))
theorem dX7_widestPart_36 : decode cX7_widestPart 36 = .ok (.iload 4, 2) := zk_of (zk_r (zk_l (zk_l (zk_l (zk_r zdX7_widestPart_63)))))
theorem dX7_widestPart_38 : decode cX7_widestPart 38 = .ok (.iaload, 1) := zk_of (zk_l (zk_r (zk_l (zk_l (zk_r zdX7_widestPart_63)))))
theorem dX7_widestPart_39 : decode cX7_widestPart 39 = .ok (.aload_n 0, 1) := zk_of (zk_r (zk_r (zk_l (zk_l (zk_r zdX7_widestPart_63)))))
theorem dX7_widestPart_40 : decode cX7_widestPart 40 = .ok (.iload_n 1, 1) := zk_of (zk_l (zk_l (zk_r (zk_l (zk_r zdX7_widestPart_63)))))
theorem dX7_widestPart_41 : decode cX7_widestPart 41 = .ok (.iload 4, 2) := zk_of (zk_r (zk_l (zk_r (zk_l (zk_r zdX7_widestPart_63)))))
theorem dX7_widestPart_43 : decode cX7_widestPart 43 = .ok (.invokevirtual 86, 3) := zk_of (zk_l (zk_r (zk_r (zk_l (zk_r zdX7_widestPart_63)))))
theorem dX7_widestPart_46 : decode cX7_widestPart 46 = .ok (.invokestatic 114, 3) := zk_of (zk_r (zk_r (zk_r (zk_l (zk_r zdX7_widestPart_63)))))
theorem dX7_widestPart_49 : decode cX7_widestPart 49 = .ok (.istore 5, 2) := zk_of (zk_l (zk_l (zk_l (zk_r (zk_r zdX7_widestPart_63)))))
theorem dX7_widestPart_51 : decode cX7_widestPart 51 = .ok (.iload 5, 2) := zk_of (zk_r (zk_l (zk_l (zk_r (zk_r zdX7_widestPart_63)))))
theorem dX7_widestPart_53 : decode cX7_widestPart 53 = .ok (.iload_n 3, 1) := zk_of (zk_l (zk_r (zk_l (zk_r (zk_r zdX7_widestPart_63)))))
theorem dX7_widestPart_54 : decode cX7_widestPart 54 = .ok (.if_icmp .le 9, 3) := zk_of (zk_r (zk_r (zk_l (zk_r (zk_r zdX7_widestPart_63)))))
theorem dX7_widestPart_57 : decode cX7_widestPart 57 = .ok (.iload 5, 2) := zk_of (zk_l (zk_l (zk_r (zk_r (zk_r zdX7_widestPart_63)))))
theorem dX7_widestPart_59 : decode cX7_widestPart 59 = .ok (.istore_n 3, 1) := zk_of (zk_r (zk_l (zk_r (zk_r (zk_r zdX7_widestPart_63)))))
theorem dX7_widestPart_60 : decode cX7_widestPart 60 = .ok (.iload 4, 2) := zk_of (zk_l (zk_r (zk_r (zk_r (zk_r zdX7_widestPart_63)))))
theorem dX7_widestPart_62 : decode cX7_widestPart 62 = .ok (.istore_n 2, 1) := zk_of (zk_r (zk_r (zk_r (zk_r (zk_r zdX7_widestPart_63)))))
set_option maxRecDepth 20000 in
theorem ggX7_widestPart_X7_leanOf : GoodIn wsX7_widestPart wsX7_leanOf := ggi (fun w h => List.mem_cons_of_mem _ (List.mem_append_left _ (List.mem_append_left _ (List.mem_append_left _ (List.mem_append_left _ (List.mem_append_right _ (List.mem_append_left _ h))))))) gs_X7_leanOf
set_option maxRecDepth 20000 in
theorem gX7_widestPart_X7_leanOf : GoodIn wsX7_widestPart (wsV RX7 86 RX7 yX7_leanOf wsX7_leanOf) := goodIn_app (goodIn_of _ (by decide +kernel)) ggX7_widestPart_X7_leanOf
set_option maxRecDepth 20000 in
theorem ggX7_widestPart_X11_spread : GoodIn wsX7_widestPart wsX11_spread := ggi (fun w h => List.mem_cons_of_mem _ (List.mem_append_left _ (List.mem_append_left _ (List.mem_append_left _ (List.mem_append_left _ (List.mem_append_right _ (List.mem_append_right _ h))))))) gs_X11_spread
set_option maxRecDepth 20000 in
theorem gX7_widestPart_X11_spread_n114 : GoodIn wsX7_widestPart (wsX11_spread) := ggX7_widestPart_X11_spread
theorem zdX7_widestPart_0 : (and (and (and (zk cX7_widestPart 0 (.iconst (-1)) 1) (zk cX7_widestPart 1 (.istore_n 2) 1)) (zk cX7_widestPart 2 (.iconst (-1)) 1)) (and (and (zk cX7_widestPart 3 (.istore_n 3) 1) (zk cX7_widestPart 4 (.iconst 0) 1)) (zk cX7_widestPart 5 (.istore 4) 2))) = true := by decide +kernel
theorem dX7_widestPart_0 : decode cX7_widestPart 0 = .ok (.iconst (-1), 1) := zk_of (zk_l (zk_l (zk_l zdX7_widestPart_0)))
theorem dX7_widestPart_1 : decode cX7_widestPart 1 = .ok (.istore_n 2, 1) := zk_of (zk_r (zk_l (zk_l zdX7_widestPart_0)))
theorem dX7_widestPart_2 : decode cX7_widestPart 2 = .ok (.iconst (-1), 1) := zk_of (zk_r (zk_l zdX7_widestPart_0))
theorem dX7_widestPart_3 : decode cX7_widestPart 3 = .ok (.istore_n 3, 1) := zk_of (zk_l (zk_l (zk_r zdX7_widestPart_0)))
theorem dX7_widestPart_4 : decode cX7_widestPart 4 = .ok (.iconst 0, 1) := zk_of (zk_r (zk_l (zk_r zdX7_widestPart_0)))
theorem dX7_widestPart_5 : decode cX7_widestPart 5 = .ok (.istore 4, 2) := zk_of (zk_r (zk_r zdX7_widestPart_0))
/-- HissHorn$Readings.widestPart(I)I of cell 7 -/
def rmX7_widestPart_7 : Room := { frames := 5, cells := 0, slots := 0, locals := 111 }
theorem hX7_widestPart_7_X7 : ∀ w ∈ u_ws RX7 TX7 12, w ∈ wsX7_widestPart := fun w h => (List.mem_cons_of_mem _ (List.mem_append_left _ (List.mem_append_left _ (List.mem_append_left _ (List.mem_append_right _ h)))))
theorem mX7_widestPart_7_1 : Cond.fieldLink RX7 34 "HissHorn$Readings" "parts" "LHissHorn$Parts;" ∈ wsX7_widestPart := (List.mem_cons_of_mem _ (List.mem_append_left _ (List.mem_append_left _ (List.mem_append_left _ (List.mem_append_left _ (List.mem_append_left _ (List.mem_of_getElem? (i := 4) rfl)))))))
theorem hX7_widestPart_7_X6 : ∀ w ∈ u_ws RX6 TX6 17, w ∈ wsX7_widestPart := fun w h => (List.mem_cons_of_mem _ (List.mem_append_left _ (List.mem_append_left _ (List.mem_append_right _ h))))
theorem mX7_widestPart_7_3 : Cond.fieldLink RX7 69 "HissHorn$Parts" "known" "I" ∈ wsX7_widestPart := (List.mem_cons_of_mem _ (List.mem_append_left _ (List.mem_append_left _ (List.mem_append_left _ (List.mem_append_left _ (List.mem_append_left _ (List.mem_of_getElem? (i := 5) rfl)))))))
theorem mX7_widestPart_7_4 : Cond.fieldLink RX7 90 "HissHorn$Parts" "low" "[I" ∈ wsX7_widestPart := (List.mem_cons_of_mem _ (List.mem_append_left _ (List.mem_append_left _ (List.mem_append_left _ (List.mem_append_left _ (List.mem_append_left _ (List.mem_of_getElem? (i := 6) rfl)))))))
theorem mX7_widestPart_7_5 : Cond.fieldLink RX7 96 "HissHorn$Parts" "high" "[I" ∈ wsX7_widestPart := (List.mem_cons_of_mem _ (List.mem_append_left _ (List.mem_append_left _ (List.mem_append_left _ (List.mem_append_left _ (List.mem_append_left _ (List.mem_of_getElem? (i := 7) rfl)))))))
theorem mX7_widestPart_7_6 : Cond.initialized RX11 ∈ wsX7_widestPart := (List.mem_cons_of_mem _ (List.mem_append_left _ (List.mem_append_left _ (List.mem_append_left _ (List.mem_append_left _ (List.mem_append_left _ (List.mem_of_getElem? (i := 8) rfl)))))))
theorem mX7_widestPart_7_7 : Cond.static yX11_spread ∈ wsX7_widestPart := (List.mem_cons_of_mem _ (List.mem_append_left _ (List.mem_append_left _ (List.mem_append_left _ (List.mem_append_left _ (List.mem_append_left _ (List.mem_of_getElem? (i := 9) rfl)))))))
def GX7_widestPart_7_63 (k7 : Int32 → Int32 → Int32 → Int32 → SX → Option (Int32 × SX)) (z1 : Int32) (z2 : Int32) (z3 : Int32) (z4 : Int32) (u : SX) : Option (Int32 × SX) := (k7 z1 z2 z3 (z4 + 1) u)
def LX7_widestPart_7_7  : Nat → Int32 → Int32 → Int32 → Int32 → SX → Option (Int32 × SX)
  | 0, _, _, _, _, _ => none
  | n + 1, z1, z2, z3, z4, u => (if (u.1 10) ≤ z4 then (some (z2, u)) else (gd (inb z4 12) (gd (inb z4 12) ((fX7_leanOf_7 z1 z4 u).bind fun q => match q with | (r3, u4) => ((fX11_spread (u.2.1 27 z4.toNatClampNeg) (u.2.1 28 z4.toNatClampNeg) r3).bind fun r6 => (if r6 ≤ z3 then (GX7_widestPart_7_63 (LX7_widestPart_7_7 n) z1 z2 z3 z4 u4) else (GX7_widestPart_7_63 (LX7_widestPart_7_7 n) z1 z4 r6 z4 u4)))))))
def fX7_widestPart_7 (x1 : Int32) (u : SX) : Option (Int32 × SX) := (LX7_widestPart_7_7  5000 x1 (-1) (-1) 0 u)
set_option maxHeartbeats 4000000 in
set_option maxRecDepth 100000 in
theorem wGX7_widestPart_7_63 {p : Program} {l : Launch} {e : Env} {s : State} {m : MethodId} {args : Array Value} {below : List Frame} {meth : Method} {c : Code} {D : va_G} {cy : Nat → ClassId} {ad st : Nat → Nat} (C : Cx RX7 cX7_widestPart 6 (some .int) wsX7_widestPart p s m args meth c) (hK : Ky D [(cy 0, .int), (cy 1, .long), (cy 2, .boolean), (cy 3, .byte), (cy 4, .object "HissHorn$Text")] st s) (hJ : JX ad st) {r : Int32} {u' : SX} {k7 : Int32 → Int32 → Int32 → Int32 → SX → Option (Int32 × SX)} (hk7 : ∀ (z1 : Int32) (z2 : Int32) (z3 : Int32) (z4 : Int32) (u : SX) (H : Heap) (locs : List Loc) (ls : Array Slot), k7 z1 z2 z3 z4 u = some (r, u') → va_P D vwCl (VX cy ad st u) H → va_S (Ax (AX ad) s.heap.size) s.heap H locs → lv_has ls 6 [(0, .ref (ad 7)), (1, .int z1), (2, .int z2), (3, .int z3), (4, .int z4)] → W p l e rmX7_widestPart_7 s m args below meth c H locs 0 0 (MQ below (Qi D (VX cy ad st) (AX ad) s.heap.size r u') args s 0 0 (Ax (AX ad) s.heap.size)) (F0 m 7 ls [])) (z1 : Int32) (z2 : Int32) (z3 : Int32) (z4 : Int32) (u : SX) (H : Heap) (locs : List Loc) (ls : Array Slot) (h : GX7_widestPart_7_63 k7 z1 z2 z3 z4 u = some (r, u')) (hP : va_P D vwCl (VX cy ad st u) H) (hS : va_S (Ax (AX ad) s.heap.size) s.heap H locs) (hl : lv_has ls 6 [(0, .ref (ad 7)), (1, .int z1), (2, .int z2), (3, .int z3), (4, .int z4)]) : W p l e rmX7_widestPart_7 s m args below meth c H locs 0 0 (MQ below (Qi D (VX cy ad st) (AX ad) s.heap.size r u') args s 0 0 (Ax (AX ad) s.heap.size)) (F0 m 63 ls []) := by
  unfold GX7_widestPart_7_63 at h
  refine lv_iinc (v := z4 + 1) (lv' := [(4, .int (z4 + 1)), (0, .ref (ad 7)), (1, .int z1), (2, .int z2), (3, .int z3)]) C.1 C.2.1 dX7_widestPart_63 hl (k := 4) rfl rfl (by decide) rfl (fun ls hl => ?_)
  replace hl := lv_sub (l' := [(0, .ref (ad 7)), (1, .int z1), (2, .int z2), (3, .int z3), (4, .int (z4 + 1))]) hl [1, 2, 3, 4, 0] rfl
  refine lv_goto (tgt := 7) C.1 C.2.1 dX7_widestPart_66 (by decide) ?_
  exact hk7 _ _ _ _ _ _ _ _ h hP hS hl
set_option maxHeartbeats 4000000 in
set_option maxRecDepth 100000 in
theorem wLX7_widestPart_7_7 {p : Program} {l : Launch} {e : Env} {s : State} {m : MethodId} {args : Array Value} {below : List Frame} {meth : Method} {c : Code} {D : va_G} {cy : Nat → ClassId} {ad st : Nat → Nat} (C : Cx RX7 cX7_widestPart 6 (some .int) wsX7_widestPart p s m args meth c) (hK : Ky D [(cy 0, .int), (cy 1, .long), (cy 2, .boolean), (cy 3, .byte), (cy 4, .object "HissHorn$Text")] st s) (hJ : JX ad st) {r : Int32} {u' : SX}   : ∀ (n : Nat) (z1 : Int32) (z2 : Int32) (z3 : Int32) (z4 : Int32) (u : SX) (H : Heap) (locs : List Loc) (ls : Array Slot), LX7_widestPart_7_7  n z1 z2 z3 z4 u = some (r, u') → va_P D vwCl (VX cy ad st u) H → va_S (Ax (AX ad) s.heap.size) s.heap H locs → lv_has ls 6 [(0, .ref (ad 7)), (1, .int z1), (2, .int z2), (3, .int z3), (4, .int z4)] → W p l e rmX7_widestPart_7 s m args below meth c H locs 0 0 (MQ below (Qi D (VX cy ad st) (AX ad) s.heap.size r u') args s 0 0 (Ax (AX ad) s.heap.size)) (F0 m 7 ls []) := by
  intro n
  induction n with
  | zero =>
    intro z1 z2 z3 z4 u H locs ls h
    exact absurd h (by intro q; cases q)
  | succ n ih =>
    intro z1 z2 z3 z4 u H locs ls h hP hS hl
    rw [LX7_widestPart_7_7] at h
    refine lv_iload C.1 C.2.1 dX7_widestPart_7 (lv_at hl 4 rfl) ?_
    refine lv_aload_n C.1 C.2.1 dX7_widestPart_9 rfl (lv_at hl 0 rfl) ?_
    refine gX_7_parts C hX7_widestPart_7_X7 hK hP mX7_widestPart_7_1 dX7_widestPart_10 ?_
    refine gX_6_known C hX7_widestPart_7_X6 hK hP mX7_widestPart_7_3 dX7_widestPart_13 ?_
    refine lv_icmp_ge (tgt := 69) C.1 C.2.1 dX7_widestPart_16 (by decide) (fun c16 => ?_) (fun c16 => ?_)
    · rw [if_pos c16] at h
      refine lv_iload_n C.1 C.2.1 dX7_widestPart_69 rfl (lv_at hl 2 rfl) ?_
      cases h
      exact rt_i C hP hS dX7_widestPart_70
    · rw [if_neg c16] at h
      refine lv_aload_n C.1 C.2.1 dX7_widestPart_19 rfl (lv_at hl 0 rfl) ?_
      refine gX_7_parts C hX7_widestPart_7_X7 hK hP mX7_widestPart_7_1 dX7_widestPart_20 ?_
      refine gX_6_low C hX7_widestPart_7_X6 hK hP mX7_widestPart_7_4 dX7_widestPart_23 ?_
      refine lv_iload C.1 C.2.1 dX7_widestPart_26 (lv_at hl 4 rfl) ?_
      obtain ⟨hg1, h⟩ := gd_some h
      refine lX_27 C hK hP hg1 dX7_widestPart_28 ?_
      refine lv_aload_n C.1 C.2.1 dX7_widestPart_29 rfl (lv_at hl 0 rfl) ?_
      refine gX_7_parts C hX7_widestPart_7_X7 hK hP mX7_widestPart_7_1 dX7_widestPart_30 ?_
      refine gX_6_high C hX7_widestPart_7_X6 hK hP mX7_widestPart_7_5 dX7_widestPart_33 ?_
      refine lv_iload C.1 C.2.1 dX7_widestPart_36 (lv_at hl 4 rfl) ?_
      obtain ⟨hg2, h⟩ := gd_some h
      refine lX_28 C hK hP hg2 dX7_widestPart_38 ?_
      refine lv_aload_n C.1 C.2.1 dX7_widestPart_39 rfl (lv_at hl 0 rfl) ?_
      refine lv_iload_n C.1 C.2.1 dX7_widestPart_40 rfl (lv_at hl 1 rfl) ?_
      refine lv_iload C.1 C.2.1 dX7_widestPart_41 (lv_at hl 4 rfl) ?_
      obtain ⟨⟨r3, u4⟩, hc5, h⟩ := bd_some h
      try dsimp only at h
      refine cg_i (As := [.int z1, .int z4]) (rest := [.int (u.2.1 28 z4.toNatClampNeg), .int (u.2.1 27 z4.toNatClampNeg)]) (AX_ge hJ) C hK hP hS (metX7_leanOf_7 l D cy ad st hJ _ z1 z4 hc5) (cwV 2 C.2.2.2.2.2.1 gX7_widestPart_X7_leanOf rfl rfl rfl (by decide +kernel) ⟨(Nat.le_of_ble_eq_true rfl), (Nat.le_of_ble_eq_true rfl)⟩) 7 7 rfl rfl rfl hl.1 rfl (Nat.le_of_ble_eq_true rfl) dX7_widestPart_43 ⟨Nat.zero_le _, Nat.zero_le _⟩ (fun H locs hP hS => ?_)
      obtain ⟨r6, hc8, h⟩ := bd_some h
      refine csn_i (As := [.int (u.2.1 27 z4.toNatClampNeg), .int (u.2.1 28 z4.toNatClampNeg), .int r3]) (rest := []) (AX_ge hJ) C hK hP hS (metX11_spread l D cy st _ (u.2.1 27 z4.toNatClampNeg) (u.2.1 28 z4.toNatClampNeg) r3 hc8) ⟨va_cnB 3 C.2.2.2.2.2.1 gX7_widestPart_X11_spread_n114 rfl rfl rfl (hK.2.1 (RX7, 114, yX11_spread) (by decide +kernel)) (C.2.2.2.2.2.1 _ mX7_widestPart_7_6) (by decide +kernel) ⟨(Nat.le_of_ble_eq_true rfl), (Nat.le_of_ble_eq_true rfl)⟩, C.2.2.2.2.2.1 _ mX7_widestPart_7_7, trivial⟩ rfl hl.1 rfl (Nat.le_of_ble_eq_true rfl) dX7_widestPart_46 ⟨Nat.zero_le _, Nat.zero_le _⟩ (fun H locs hP hS => ?_)
      refine lv_istore (lv' := [(5, .int r6), (0, .ref (ad 7)), (1, .int z1), (2, .int z2), (3, .int z3), (4, .int z4)]) C.1 C.2.1 dX7_widestPart_49 hl (by decide) rfl (fun ls hl => ?_)
      replace hl := lv_sub (l' := [(0, .ref (ad 7)), (1, .int z1), (2, .int z2), (3, .int z3), (4, .int z4), (5, .int r6)]) hl [1, 2, 3, 4, 5, 0] rfl
      refine lv_iload C.1 C.2.1 dX7_widestPart_51 (lv_at hl 5 rfl) ?_
      refine lv_iload_n C.1 C.2.1 dX7_widestPart_53 rfl (lv_at hl 3 rfl) ?_
      refine lv_icmp_le (tgt := 63) C.1 C.2.1 dX7_widestPart_54 (by decide) (fun c54 => ?_) (fun c54 => ?_)
      · rw [if_pos c54] at h
        exact wGX7_widestPart_7_63 C hK hJ ih _ _ _ _ _ _ _ _ h hP hS (lv_sub hl [0, 1, 2, 3, 4] rfl)
      · rw [if_neg c54] at h
        refine lv_iload C.1 C.2.1 dX7_widestPart_57 (lv_at hl 5 rfl) ?_
        refine lv_istore_n (lv' := [(3, .int r6), (0, .ref (ad 7)), (1, .int z1), (2, .int z2), (4, .int z4), (5, .int r6)]) C.1 C.2.1 dX7_widestPart_59 rfl hl (by decide) rfl (fun ls hl => ?_)
        replace hl := lv_sub (l' := [(0, .ref (ad 7)), (1, .int z1), (2, .int z2), (3, .int r6), (4, .int z4), (5, .int r6)]) hl [1, 2, 3, 0, 4, 5] rfl
        refine lv_iload C.1 C.2.1 dX7_widestPart_60 (lv_at hl 4 rfl) ?_
        refine lv_istore_n (lv' := [(2, .int z4), (0, .ref (ad 7)), (1, .int z1), (3, .int r6), (4, .int z4), (5, .int r6)]) C.1 C.2.1 dX7_widestPart_62 rfl hl (by decide) rfl (fun ls hl => ?_)
        replace hl := lv_sub (l' := [(0, .ref (ad 7)), (1, .int z1), (2, .int z4), (3, .int r6), (4, .int z4), (5, .int r6)]) hl [1, 2, 0, 3, 4, 5] rfl
        exact wGX7_widestPart_7_63 C hK hJ ih _ _ _ _ _ _ _ _ h hP hS (lv_sub hl [0, 1, 2, 3, 4] rfl)
set_option maxHeartbeats 4000000 in
set_option maxRecDepth 100000 in
theorem wX7_widestPart_7 {p : Program} {l : Launch} {e : Env} {s : State} {m : MethodId} {args : Array Value} {below : List Frame} {meth : Method} {c : Code} {D : va_G} {cy : Nat → ClassId} {ad st : Nat → Nat} (C : Cx RX7 cX7_widestPart 6 (some .int) wsX7_widestPart p s m args meth c) (hK : Ky D [(cy 0, .int), (cy 1, .long), (cy 2, .boolean), (cy 3, .byte), (cy 4, .object "HissHorn$Text")] st s) (hJ : JX ad st) (x1 : Int32) {u : SX} {r : Int32} {u' : SX} {H : Heap} {locs : List Loc} {ls : Array Slot} (h : fX7_widestPart_7 x1 u = some (r, u')) (hP : va_P D vwCl (VX cy ad st u) H) (hS : va_S (Ax (AX ad) s.heap.size) s.heap H locs) (hl : lv_has ls 6 [(0, .ref (ad 7)), (1, .int x1)]) : W p l e rmX7_widestPart_7 s m args below meth c H locs 0 0 (MQ below (Qi D (VX cy ad st) (AX ad) s.heap.size r u') args s 0 0 (Ax (AX ad) s.heap.size)) (F0 m 0 ls []) := by
  unfold fX7_widestPart_7 at h
  refine lv_iconst (v := (-1)) C.1 C.2.1 dX7_widestPart_0 (by decide) ?_
  refine lv_istore_n (lv' := [(2, .int (-1)), (0, .ref (ad 7)), (1, .int x1)]) C.1 C.2.1 dX7_widestPart_1 rfl hl (by decide) rfl (fun ls hl => ?_)
  replace hl := lv_sub (l' := [(0, .ref (ad 7)), (1, .int x1), (2, .int (-1))]) hl [1, 2, 0] rfl
  refine lv_iconst (v := (-1)) C.1 C.2.1 dX7_widestPart_2 (by decide) ?_
  refine lv_istore_n (lv' := [(3, .int (-1)), (0, .ref (ad 7)), (1, .int x1), (2, .int (-1))]) C.1 C.2.1 dX7_widestPart_3 rfl hl (by decide) rfl (fun ls hl => ?_)
  replace hl := lv_sub (l' := [(0, .ref (ad 7)), (1, .int x1), (2, .int (-1)), (3, .int (-1))]) hl [1, 2, 3, 0] rfl
  refine lv_iconst (v := 0) C.1 C.2.1 dX7_widestPart_4 (by decide) ?_
  refine lv_istore (lv' := [(4, .int 0), (0, .ref (ad 7)), (1, .int x1), (2, .int (-1)), (3, .int (-1))]) C.1 C.2.1 dX7_widestPart_5 hl (by decide) rfl (fun ls hl => ?_)
  replace hl := lv_sub (l' := [(0, .ref (ad 7)), (1, .int x1), (2, .int (-1)), (3, .int (-1)), (4, .int 0)]) hl [1, 2, 3, 4, 0] rfl
  exact wLX7_widestPart_7_7 C hK hJ  5000 _ _ _ _ _ _ _ _ h hP hS hl
theorem metX7_widestPart_7 (l : Launch) (D : va_G) (cy : Nat → ClassId) (ad st : Nat → Nat) (hJ : JX ad st) (sz : Nat) (x1 : Int32) {u : SX} {r : Int32} {u' : SX} (h : fX7_widestPart_7 x1 u = some (r, u')) : Met l yX7_widestPart wsX7_widestPart rmX7_widestPart_7 (va_Pc [.ref (ad 7), .int x1] (Px D [(cy 0, .int), (cy 1, .long), (cy 2, .boolean), (cy 3, .byte), (cy 4, .object "HissHorn$Text")] st (VX cy ad st) sz u)) (Qi D (VX cy ad st) (AX ad) sz r u') 0 0 (Ax (AX ad) sz) := by
  refine Met.ofW (cc := cX7_widestPart) (maxL := 6) (ret := (some .int)) (by decide) rfl ?_
  intro p e s m args below meth c s₁ B hml hv
  obtain ⟨rfl, hsz, hP, hK⟩ := hv
  subst hsz
  have C : Cx RX7 cX7_widestPart 6 (some .int) wsX7_widestPart p s m _ meth c := ⟨B.exec, B.bytes, hml, B.returns, findClass_of_methodNamed B.named, atoms_spec (ws := wsX7_widestPart) B.pre, B.notSynchronized⟩
  have hl := lv_entry ([.ref (ad 7), .int x1]) (n := 6) (Nat.le_of_ble_eq_true rfl)
  rw [lg_entry_eq]
  exact wX7_widestPart_7 C hK hJ x1 h hP va_S.rf hl

theorem zdX11_most_0 : (and (and (and (and (and (zk cX11_most 0 (.aload_n 0) 1) (zk cX11_most 1 (.iload_n 2) 1)) (zk cX11_most 2 (.invokevirtual 174) 3)) (and (zk cX11_most 5 (.ifCond .eq 14) 3) (zk cX11_most 19 (.iconst (-1)) 1))) (and (and (and (zk cX11_most 20 (.ireturn) 1) (zk cX11_most 8 (.aload_n 0) 1)) (zk cX11_most 9 (.getfield 58) 3)) (and (zk cX11_most 12 (.iload_n 1) 1) (zk cX11_most 13 (.invokevirtual 212) 3)))) (and (and (and (and (zk cX11_most 16 (.ifCond .ne 5) 3) (zk cX11_most 21 (.aload_n 0) 1)) (zk cX11_most 22 (.getfield 49) 3)) (and (zk cX11_most 25 (.iload_n 2) 1) (zk cX11_most 26 (.invokevirtual 185) 3))) (and (and (and (zk cX11_most 29 (.aload_n 0) 1) (zk cX11_most 30 (.getfield 58) 3)) (zk cX11_most 33 (.iload_n 1) 1)) (and (zk cX11_most 34 (.invokevirtual 221) 3) (zk cX11_most 37 (.ireturn) 1))))) = true := by decide +kernel
theorem dX11_most_0 : decode cX11_most 0 = .ok (.aload_n 0, 1) := zk_of (zk_l (zk_l (zk_l (zk_l (zk_l zdX11_most_0)))))
theorem dX11_most_1 : decode cX11_most 1 = .ok (.iload_n 2, 1) := zk_of (zk_r (zk_l (zk_l (zk_l (zk_l zdX11_most_0)))))
theorem dX11_most_2 : decode cX11_most 2 = .ok (.invokevirtual 174, 3) := zk_of (zk_r (zk_l (zk_l (zk_l zdX11_most_0))))
theorem dX11_most_5 : decode cX11_most 5 = .ok (.ifCond .eq 14, 3) := zk_of (zk_l (zk_r (zk_l (zk_l zdX11_most_0))))
theorem dX11_most_19 : decode cX11_most 19 = .ok (.iconst (-1), 1) := zk_of (zk_r (zk_r (zk_l (zk_l zdX11_most_0))))
theorem dX11_most_20 : decode cX11_most 20 = .ok (.ireturn, 1) := zk_of (zk_l (zk_l (zk_l (zk_r (zk_l zdX11_most_0)))))
theorem dX11_most_8 : decode cX11_most 8 = .ok (.aload_n 0, 1) := zk_of (zk_r (zk_l (zk_l (zk_r (zk_l zdX11_most_0)))))
theorem dX11_most_9 : decode cX11_most 9 = .ok (.getfield 58, 3) := zk_of (zk_r (zk_l (zk_r (zk_l zdX11_most_0))))
theorem dX11_most_12 : decode cX11_most 12 = .ok (.iload_n 1, 1) := zk_of (zk_l (zk_r (zk_r (zk_l zdX11_most_0))))
theorem dX11_most_13 : decode cX11_most 13 = .ok (.invokevirtual 212, 3) := zk_of (zk_r (zk_r (zk_r (zk_l zdX11_most_0))))
theorem dX11_most_16 : decode cX11_most 16 = .ok (.ifCond .ne 5, 3) := zk_of (zk_l (zk_l (zk_l (zk_l (zk_r zdX11_most_0)))))
theorem dX11_most_21 : decode cX11_most 21 = .ok (.aload_n 0, 1) := zk_of (zk_r (zk_l (zk_l (zk_l (zk_r zdX11_most_0)))))
theorem dX11_most_22 : decode cX11_most 22 = .ok (.getfield 49, 3) := zk_of (zk_r (zk_l (zk_l (zk_r zdX11_most_0))))
theorem dX11_most_25 : decode cX11_most 25 = .ok (.iload_n 2, 1) := zk_of (zk_l (zk_r (zk_l (zk_r zdX11_most_0))))
theorem dX11_most_26 : decode cX11_most 26 = .ok (.invokevirtual 185, 3) := zk_of (zk_r (zk_r (zk_l (zk_r zdX11_most_0))))
theorem dX11_most_29 : decode cX11_most 29 = .ok (.aload_n 0, 1) := zk_of (zk_l (zk_l (zk_l (zk_r (zk_r zdX11_most_0)))))
theorem dX11_most_30 : decode cX11_most 30 = .ok (.getfield 58, 3) := zk_of (zk_r (zk_l (zk_l (zk_r (zk_r zdX11_most_0)))))
theorem dX11_most_33 : decode cX11_most 33 = .ok (.iload_n 1, 1) := zk_of (zk_r (zk_l (zk_r (zk_r zdX11_most_0))))
theorem dX11_most_34 : decode cX11_most 34 = .ok (.invokevirtual 221, 3) := zk_of (zk_l (zk_r (zk_r (zk_r zdX11_most_0))))
theorem dX11_most_37 : decode cX11_most 37 = .ok (.ireturn, 1) := zk_of (zk_r (zk_r (zk_r (zk_r zdX11_most_0))))
set_option maxRecDepth 20000 in
theorem ggX11_most_X11_isDay : GoodIn wsX11_most wsX11_isDay := ggi (fun w h => List.mem_cons_of_mem _ (List.mem_append_left _ (List.mem_append_left _ (List.mem_append_left _ (List.mem_append_left _ (List.mem_append_left _ (List.mem_append_right _ (List.mem_append_left _ h)))))))) gs_X11_isDay
set_option maxRecDepth 20000 in
theorem gX11_most_X11_isDay : GoodIn wsX11_most (wsV RX11 174 RX11 yX11_isDay wsX11_isDay) := goodIn_app (goodIn_of _ (by decide +kernel)) ggX11_most_X11_isDay
set_option maxRecDepth 20000 in
theorem ggX11_most_X7_has : GoodIn wsX11_most wsX7_has := ggi (fun w h => List.mem_cons_of_mem _ (List.mem_append_left _ (List.mem_append_left _ (List.mem_append_left _ (List.mem_append_left _ (List.mem_append_left _ (List.mem_append_right _ (List.mem_append_right _ (List.mem_append_left _ h))))))))) gs_X7_has
set_option maxRecDepth 20000 in
theorem gX11_most_X7_has : GoodIn wsX11_most (wsV RX11 212 RX7 yX7_has wsX7_has) := goodIn_app (goodIn_of _ (by decide +kernel)) ggX11_most_X7_has
set_option maxRecDepth 20000 in
theorem ggX11_most_X6_recall : GoodIn wsX11_most wsX6_recall := ggi (fun w h => List.mem_cons_of_mem _ (List.mem_append_left _ (List.mem_append_left _ (List.mem_append_left _ (List.mem_append_left _ (List.mem_append_left _ (List.mem_append_right _ (List.mem_append_right _ (List.mem_append_right _ (List.mem_append_left _ h)))))))))) gs_X6_recall
set_option maxRecDepth 20000 in
theorem gX11_most_X6_recall : GoodIn wsX11_most (wsV RX11 185 RX6 yX6_recall wsX6_recall) := goodIn_app (goodIn_of _ (by decide +kernel)) ggX11_most_X6_recall
set_option maxRecDepth 20000 in
theorem ggX11_most_X7_widestPart : GoodIn wsX11_most wsX7_widestPart := ggi (fun w h => List.mem_cons_of_mem _ (List.mem_append_left _ (List.mem_append_left _ (List.mem_append_left _ (List.mem_append_left _ (List.mem_append_left _ (List.mem_append_right _ (List.mem_append_right _ (List.mem_append_right _ (List.mem_append_right _ h)))))))))) gs_X7_widestPart
set_option maxRecDepth 20000 in
theorem gX11_most_X7_widestPart : GoodIn wsX11_most (wsV RX11 221 RX7 yX7_widestPart wsX7_widestPart) := goodIn_app (goodIn_of _ (by decide +kernel)) ggX11_most_X7_widestPart
/-- HissHorn.most(II)I of cell 0 -/
def rmX11_most_0 : Room := { frames := 6, cells := 0, slots := 0, locals := 136 }
theorem hX11_most_0_X11 : ∀ w ∈ u_ws RX11 TX11 13, w ∈ wsX11_most := fun w h => (List.mem_cons_of_mem _ (List.mem_append_left _ (List.mem_append_left _ (List.mem_append_left _ (List.mem_append_left _ (List.mem_append_right _ h))))))
theorem mX11_most_0_1 : Cond.fieldLink RX11 58 "HissHorn" "readings" "LHissHorn$Readings;" ∈ wsX11_most := (List.mem_cons_of_mem _ (List.mem_append_left _ (List.mem_append_left _ (List.mem_append_left _ (List.mem_append_left _ (List.mem_append_left _ (List.mem_append_left _ (List.mem_of_getElem? (i := 15) rfl))))))))
theorem mX11_most_0_2 : Cond.fieldLink RX11 49 "HissHorn" "parts" "LHissHorn$Parts;" ∈ wsX11_most := (List.mem_cons_of_mem _ (List.mem_append_left _ (List.mem_append_left _ (List.mem_append_left _ (List.mem_append_left _ (List.mem_append_left _ (List.mem_append_left _ (List.mem_of_getElem? (i := 16) rfl))))))))
def fX11_most_0 (x1 : Int32) (x2 : Int32) (u : SX) : Option (Int32 × SX) := ((fX11_isDay_0 x2 u).bind fun q => match q with | (r1, u2) => (if r1 = 0 then (some ((-1), u2)) else ((fX7_has_7 x1 u2).bind fun q => match q with | (r4, u5) => (if r4 = 0 then (some ((-1), u5)) else ((fX6_recall_6 x2 u5).bind fun q => match q with | (r7, u8) => ((fX7_widestPart_7 x1 u8).bind fun q => match q with | (r10, u11) => (some (r10, u11))))))))
set_option maxHeartbeats 4000000 in
set_option maxRecDepth 100000 in
theorem wX11_most_0 {p : Program} {l : Launch} {e : Env} {s : State} {m : MethodId} {args : Array Value} {below : List Frame} {meth : Method} {c : Code} {D : va_G} {cy : Nat → ClassId} {ad st : Nat → Nat} (C : Cx RX11 cX11_most 3 (some .int) wsX11_most p s m args meth c) (hK : Ky D [(cy 0, .int), (cy 1, .long), (cy 2, .boolean), (cy 3, .byte), (cy 4, .object "HissHorn$Text")] st s) (hJ : JX ad st) (x1 : Int32) (x2 : Int32) {u : SX} {r : Int32} {u' : SX} {H : Heap} {locs : List Loc} {ls : Array Slot} (h : fX11_most_0 x1 x2 u = some (r, u')) (hP : va_P D vwCl (VX cy ad st u) H) (hS : va_S (Ax (AX ad) s.heap.size) s.heap H locs) (hl : lv_has ls 3 [(0, .ref (ad 0)), (1, .int x1), (2, .int x2)]) : W p l e rmX11_most_0 s m args below meth c H locs 0 0 (MQ below (Qi D (VX cy ad st) (AX ad) s.heap.size r u') args s 0 0 (Ax (AX ad) s.heap.size)) (F0 m 0 ls []) := by
  unfold fX11_most_0 at h
  refine lv_aload_n C.1 C.2.1 dX11_most_0 rfl (lv_at hl 0 rfl) ?_
  refine lv_iload_n C.1 C.2.1 dX11_most_1 rfl (lv_at hl 2 rfl) ?_
  obtain ⟨⟨r1, u2⟩, hc3, h⟩ := bd_some h
  try dsimp only at h
  refine cg_i (As := [.int x2]) (rest := []) (AX_ge hJ) C hK hP hS (metX11_isDay_0 l D cy ad st hJ _ x2 hc3) (cwV 1 C.2.2.2.2.2.1 gX11_most_X11_isDay rfl rfl rfl (by decide +kernel) ⟨(Nat.le_of_ble_eq_true rfl), (Nat.le_of_ble_eq_true rfl)⟩) 0 11 rfl rfl rfl hl.1 rfl (Nat.le_of_ble_eq_true rfl) dX11_most_2 ⟨Nat.zero_le _, Nat.zero_le _⟩ (fun H locs hP hS => ?_)
  refine lv_if_eq (tgt := 19) C.1 C.2.1 dX11_most_5 (by decide) (fun c5 => ?_) (fun c5 => ?_)
  · rw [if_pos c5] at h
    refine lv_iconst (v := (-1)) C.1 C.2.1 dX11_most_19 (by decide) ?_
    cases h
    exact rt_i C hP hS dX11_most_20
  · rw [if_neg c5] at h
    refine lv_aload_n C.1 C.2.1 dX11_most_8 rfl (lv_at hl 0 rfl) ?_
    refine gX_0_readings C hX11_most_0_X11 hK hP mX11_most_0_1 dX11_most_9 ?_
    refine lv_iload_n C.1 C.2.1 dX11_most_12 rfl (lv_at hl 1 rfl) ?_
    obtain ⟨⟨r4, u5⟩, hc6, h⟩ := bd_some h
    try dsimp only at h
    refine cg_i (As := [.int x1]) (rest := []) (AX_ge hJ) C hK hP hS (metX7_has_7 l D cy ad st hJ _ x1 hc6) (cwV 1 C.2.2.2.2.2.1 gX11_most_X7_has rfl rfl rfl (by decide +kernel) ⟨(Nat.le_of_ble_eq_true rfl), (Nat.le_of_ble_eq_true rfl)⟩) 7 7 rfl rfl rfl hl.1 rfl (Nat.le_of_ble_eq_true rfl) dX11_most_13 ⟨Nat.zero_le _, Nat.zero_le _⟩ (fun H locs hP hS => ?_)
    refine lv_if_ne (tgt := 21) C.1 C.2.1 dX11_most_16 (by decide) (fun c16 => ?_) (fun c16 => ?_)
    · rw [if_neg c16] at h
      refine lv_aload_n C.1 C.2.1 dX11_most_21 rfl (lv_at hl 0 rfl) ?_
      refine gX_0_parts C hX11_most_0_X11 hK hP mX11_most_0_2 dX11_most_22 ?_
      refine lv_iload_n C.1 C.2.1 dX11_most_25 rfl (lv_at hl 2 rfl) ?_
      obtain ⟨⟨r7, u8⟩, hc9, h⟩ := bd_some h
      try dsimp only at h
      refine cg_v (As := [.int x2]) (rest := []) (AX_ge hJ) C hK hP hS (metX6_recall_6 l D cy ad st hJ _ x2 hc9) (cwV 1 C.2.2.2.2.2.1 gX11_most_X6_recall rfl rfl rfl (by decide +kernel) ⟨(Nat.le_of_ble_eq_true rfl), (Nat.le_of_ble_eq_true rfl)⟩) 6 6 rfl rfl rfl hl.1 rfl (Nat.le_of_ble_eq_true rfl) dX11_most_26 ⟨Nat.zero_le _, Nat.zero_le _⟩ (fun H locs hP hS => ?_)
      refine lv_aload_n C.1 C.2.1 dX11_most_29 rfl (lv_at hl 0 rfl) ?_
      refine gX_0_readings C hX11_most_0_X11 hK hP mX11_most_0_1 dX11_most_30 ?_
      refine lv_iload_n C.1 C.2.1 dX11_most_33 rfl (lv_at hl 1 rfl) ?_
      obtain ⟨⟨r10, u11⟩, hc12, h⟩ := bd_some h
      try dsimp only at h
      refine cg_i (As := [.int x1]) (rest := []) (AX_ge hJ) C hK hP hS (metX7_widestPart_7 l D cy ad st hJ _ x1 hc12) (cwV 1 C.2.2.2.2.2.1 gX11_most_X7_widestPart rfl rfl rfl (by decide +kernel) ⟨(Nat.le_of_ble_eq_true rfl), (Nat.le_of_ble_eq_true rfl)⟩) 7 7 rfl rfl rfl hl.1 rfl (Nat.le_of_ble_eq_true rfl) dX11_most_34 ⟨Nat.zero_le _, Nat.zero_le _⟩ (fun H locs hP hS => ?_)
      cases h
      exact rt_i C hP hS dX11_most_37
    · rw [if_pos c16] at h
      refine lv_iconst (v := (-1)) C.1 C.2.1 dX11_most_19 (by decide) ?_
      cases h
      exact rt_i C hP hS dX11_most_20
theorem metX11_most_0 (l : Launch) (D : va_G) (cy : Nat → ClassId) (ad st : Nat → Nat) (hJ : JX ad st) (sz : Nat) (x1 : Int32) (x2 : Int32) {u : SX} {r : Int32} {u' : SX} (h : fX11_most_0 x1 x2 u = some (r, u')) : Met l yX11_most wsX11_most rmX11_most_0 (va_Pc [.ref (ad 0), .int x1, .int x2] (Px D [(cy 0, .int), (cy 1, .long), (cy 2, .boolean), (cy 3, .byte), (cy 4, .object "HissHorn$Text")] st (VX cy ad st) sz u)) (Qi D (VX cy ad st) (AX ad) sz r u') 0 0 (Ax (AX ad) sz) := by
  refine Met.ofW (cc := cX11_most) (maxL := 3) (ret := (some .int)) (by decide) rfl ?_
  intro p e s m args below meth c s₁ B hml hv
  obtain ⟨rfl, hsz, hP, hK⟩ := hv
  subst hsz
  have C : Cx RX11 cX11_most 3 (some .int) wsX11_most p s m _ meth c := ⟨B.exec, B.bytes, hml, B.returns, findClass_of_methodNamed B.named, atoms_spec (ws := wsX11_most) B.pre, B.notSynchronized⟩
  have hl := lv_entry ([.ref (ad 0), .int x1, .int x2]) (n := 3) (Nat.le_of_ble_eq_true rfl)
  rw [lg_entry_eq]
  exact wX11_most_0 C hK hJ x1 x2 h hP va_S.rf hl

theorem zdX1_compare_40 : (and (and (and (and (and (zk cX1_compare 40 (.iload_n 1) 1) (zk cX1_compare 41 (.aload_n 0) 1)) (and (zk cX1_compare 42 (.getfield 25) 3) (zk cX1_compare 45 (.getfield 33) 3))) (and (and (zk cX1_compare 48 (.if_icmp .ge 49) 3) (zk cX1_compare 51 (.aload_n 0) 1)) (and (zk cX1_compare 52 (.aload_n 0) 1) (zk cX1_compare 53 (.getfield 42) 3)))) (and (and (and (zk cX1_compare 56 (.aload_n 0) 1) (zk cX1_compare 57 (.getfield 25) 3)) (and (zk cX1_compare 60 (.getfield 39) 3) (zk cX1_compare 63 (.iload_n 1) 1))) (and (and (zk cX1_compare 64 (.iaload) 1) (zk cX1_compare 65 (.invokestatic 51) 3)) (and (zk cX1_compare 68 (.putfield 42) 3) (zk cX1_compare 71 (.aload_n 0) 1))))) (and (and (and (and (zk cX1_compare 72 (.aload_n 0) 1) (zk cX1_compare 73 (.getfield 48) 3)) (and (zk cX1_compare 76 (.aload_n 0) 1) (zk cX1_compare 77 (.getfield 25) 3))) (and (and (zk cX1_compare 80 (.getfield 45) 3) (zk cX1_compare 83 (.iload_n 1) 1)) (and (zk cX1_compare 84 (.iaload) 1) (zk cX1_compare 85 (.invokestatic 57) 3)))) (and (and (and (zk cX1_compare 88 (.putfield 48) 3) (zk cX1_compare 91 (.iinc 1 1) 3)) (and (zk cX1_compare 94 (.goto (-54)) 3) (zk cX1_compare 97 (.aload_n 0) 1))) (and (and (zk cX1_compare 98 (.getfield 42) 3) (zk cX1_compare 101 (.aload_n 0) 1)) (and (zk cX1_compare 102 (.getfield 48) 3) (zk cX1_compare 105 (.if_icmp .gt 7) 3)))))) = true := by decide +kernel
theorem dX1_compare_40 : decode cX1_compare 40 = .ok (.iload_n 1, 1) := zk_of (zk_l (zk_l (zk_l (zk_l (zk_l zdX1_compare_40)))))
theorem dX1_compare_41 : decode cX1_compare 41 = .ok (.aload_n 0, 1) := zk_of (zk_r (zk_l (zk_l (zk_l (zk_l zdX1_compare_40)))))
theorem dX1_compare_42 : decode cX1_compare 42 = .ok (.getfield 25, 3) := zk_of (zk_l (zk_r (zk_l (zk_l (zk_l zdX1_compare_40)))))
theorem dX1_compare_45 : decode cX1_compare 45 = .ok (.getfield 33, 3) := zk_of (zk_r (zk_r (zk_l (zk_l (zk_l zdX1_compare_40)))))
theorem dX1_compare_48 : decode cX1_compare 48 = .ok (.if_icmp .ge 49, 3) := zk_of (zk_l (zk_l (zk_r (zk_l (zk_l zdX1_compare_40)))))
theorem dX1_compare_51 : decode cX1_compare 51 = .ok (.aload_n 0, 1) := zk_of (zk_r (zk_l (zk_r (zk_l (zk_l zdX1_compare_40)))))
theorem dX1_compare_52 : decode cX1_compare 52 = .ok (.aload_n 0, 1) := zk_of (zk_l (zk_r (zk_r (zk_l (zk_l zdX1_compare_40)))))
theorem dX1_compare_53 : decode cX1_compare 53 = .ok (.getfield 42, 3) := zk_of (zk_r (zk_r (zk_r (zk_l (zk_l zdX1_compare_40)))))
theorem dX1_compare_56 : decode cX1_compare 56 = .ok (.aload_n 0, 1) := zk_of (zk_l (zk_l (zk_l (zk_r (zk_l zdX1_compare_40)))))
theorem dX1_compare_57 : decode cX1_compare 57 = .ok (.getfield 25, 3) := zk_of (zk_r (zk_l (zk_l (zk_r (zk_l zdX1_compare_40)))))
theorem dX1_compare_60 : decode cX1_compare 60 = .ok (.getfield 39, 3) := zk_of (zk_l (zk_r (zk_l (zk_r (zk_l zdX1_compare_40)))))
theorem dX1_compare_63 : decode cX1_compare 63 = .ok (.iload_n 1, 1) := zk_of (zk_r (zk_r (zk_l (zk_r (zk_l zdX1_compare_40)))))
theorem dX1_compare_64 : decode cX1_compare 64 = .ok (.iaload, 1) := zk_of (zk_l (zk_l (zk_r (zk_r (zk_l zdX1_compare_40)))))
theorem dX1_compare_65 : decode cX1_compare 65 = .ok (.invokestatic 51, 3) := zk_of (zk_r (zk_l (zk_r (zk_r (zk_l zdX1_compare_40)))))
theorem dX1_compare_68 : decode cX1_compare 68 = .ok (.putfield 42, 3) := zk_of (zk_l (zk_r (zk_r (zk_r (zk_l zdX1_compare_40)))))
theorem dX1_compare_71 : decode cX1_compare 71 = .ok (.aload_n 0, 1) := zk_of (zk_r (zk_r (zk_r (zk_r (zk_l zdX1_compare_40)))))
theorem dX1_compare_72 : decode cX1_compare 72 = .ok (.aload_n 0, 1) := zk_of (zk_l (zk_l (zk_l (zk_l (zk_r zdX1_compare_40)))))
theorem dX1_compare_73 : decode cX1_compare 73 = .ok (.getfield 48, 3) := zk_of (zk_r (zk_l (zk_l (zk_l (zk_r zdX1_compare_40)))))
theorem dX1_compare_76 : decode cX1_compare 76 = .ok (.aload_n 0, 1) := zk_of (zk_l (zk_r (zk_l (zk_l (zk_r zdX1_compare_40)))))
theorem dX1_compare_77 : decode cX1_compare 77 = .ok (.getfield 25, 3) := zk_of (zk_r (zk_r (zk_l (zk_l (zk_r zdX1_compare_40)))))
theorem dX1_compare_80 : decode cX1_compare 80 = .ok (.getfield 45, 3) := zk_of (zk_l (zk_l (zk_r (zk_l (zk_r zdX1_compare_40)))))
theorem dX1_compare_83 : decode cX1_compare 83 = .ok (.iload_n 1, 1) := zk_of (zk_r (zk_l (zk_r (zk_l (zk_r zdX1_compare_40)))))
theorem dX1_compare_84 : decode cX1_compare 84 = .ok (.iaload, 1) := zk_of (zk_l (zk_r (zk_r (zk_l (zk_r zdX1_compare_40)))))
theorem dX1_compare_85 : decode cX1_compare 85 = .ok (.invokestatic 57, 3) := zk_of (zk_r (zk_r (zk_r (zk_l (zk_r zdX1_compare_40)))))
theorem dX1_compare_88 : decode cX1_compare 88 = .ok (.putfield 48, 3) := zk_of (zk_l (zk_l (zk_l (zk_r (zk_r zdX1_compare_40)))))
theorem dX1_compare_91 : decode cX1_compare 91 = .ok (.iinc 1 1, 3) := zk_of (zk_r (zk_l (zk_l (zk_r (zk_r zdX1_compare_40)))))
theorem dX1_compare_94 : decode cX1_compare 94 = .ok (.goto (-54), 3) := zk_of (zk_l (zk_r (zk_l (zk_r (zk_r zdX1_compare_40)))))
theorem dX1_compare_97 : decode cX1_compare 97 = .ok (.aload_n 0, 1) := zk_of (zk_r (zk_r (zk_l (zk_r (zk_r zdX1_compare_40)))))
theorem dX1_compare_98 : decode cX1_compare 98 = .ok (.getfield 42, 3) := zk_of (zk_l (zk_l (zk_r (zk_r (zk_r zdX1_compare_40)))))
theorem dX1_compare_101 : decode cX1_compare 101 = .ok (.aload_n 0, 1) := zk_of (zk_r (zk_l (zk_r (zk_r (zk_r zdX1_compare_40)))))
theorem dX1_compare_102 : decode cX1_compare 102 = .ok (.getfield 48, 3) := zk_of (zk_l (zk_r (zk_r (zk_r (zk_r zdX1_compare_40)))))
theorem dX1_compare_105 : decode cX1_compare 105 = .ok (.if_icmp .gt 7, 3) := zk_of (zk_r (zk_r (zk_r (zk_r (zk_r zdX1_compare_40)))))
theorem zdX1_compare_112 : (and (and (and (and (and (zk cX1_compare 112 (.iconst 0) 1) (zk cX1_compare 113 (.ireturn) 1)) (and (zk cX1_compare 108 (.iconst 1) 1) (zk cX1_compare 109 (.goto 4) 3))) (and (and (zk cX1_compare 0 (.aload_n 0) 1) (zk cX1_compare 1 (.getfield 25) 3)) (zk cX1_compare 4 (.getfield 33) 3))) (and (and (and (zk cX1_compare 7 (.ifCond .ne 5) 3) (zk cX1_compare 12 (.aload_n 0) 1)) (zk cX1_compare 13 (.aload_n 0) 1)) (and (and (zk cX1_compare 14 (.getfield 25) 3) (zk cX1_compare 17 (.getfield 39) 3)) (zk cX1_compare 20 (.iconst 0) 1)))) (and (and (and (and (zk cX1_compare 21 (.iaload) 1) (zk cX1_compare 22 (.putfield 42) 3)) (and (zk cX1_compare 25 (.aload_n 0) 1) (zk cX1_compare 26 (.aload_n 0) 1))) (and (and (zk cX1_compare 27 (.getfield 25) 3) (zk cX1_compare 30 (.getfield 45) 3)) (zk cX1_compare 33 (.iconst 0) 1))) (and (and (and (zk cX1_compare 34 (.iaload) 1) (zk cX1_compare 35 (.putfield 48) 3)) (zk cX1_compare 38 (.iconst 1) 1)) (and (and (zk cX1_compare 39 (.istore_n 1) 1) (zk cX1_compare 10 (.iconst 0) 1)) (zk cX1_compare 11 (.ireturn) 1))))) = true := by decide +kernel
theorem dX1_compare_112 : decode cX1_compare 112 = .ok (.iconst 0, 1) := zk_of (zk_l (zk_l (zk_l (zk_l (zk_l zdX1_compare_112)))))
theorem dX1_compare_113 : decode cX1_compare 113 = .ok (.ireturn, 1) := zk_of (zk_r (zk_l (zk_l (zk_l (zk_l zdX1_compare_112)))))
theorem dX1_compare_108 : decode cX1_compare 108 = .ok (.iconst 1, 1) := zk_of (zk_l (zk_r (zk_l (zk_l (zk_l zdX1_compare_112)))))
theorem dX1_compare_109 : decode cX1_compare 109 = .ok (.goto 4, 3) := zk_of (zk_r (zk_r (zk_l (zk_l (zk_l zdX1_compare_112)))))
theorem dX1_compare_0 : decode cX1_compare 0 = .ok (.aload_n 0, 1) := zk_of (zk_l (zk_l (zk_r (zk_l (zk_l zdX1_compare_112)))))
theorem dX1_compare_1 : decode cX1_compare 1 = .ok (.getfield 25, 3) := zk_of (zk_r (zk_l (zk_r (zk_l (zk_l zdX1_compare_112)))))
theorem dX1_compare_4 : decode cX1_compare 4 = .ok (.getfield 33, 3) := zk_of (zk_r (zk_r (zk_l (zk_l zdX1_compare_112))))
theorem dX1_compare_7 : decode cX1_compare 7 = .ok (.ifCond .ne 5, 3) := zk_of (zk_l (zk_l (zk_l (zk_r (zk_l zdX1_compare_112)))))
theorem dX1_compare_12 : decode cX1_compare 12 = .ok (.aload_n 0, 1) := zk_of (zk_r (zk_l (zk_l (zk_r (zk_l zdX1_compare_112)))))
theorem dX1_compare_13 : decode cX1_compare 13 = .ok (.aload_n 0, 1) := zk_of (zk_r (zk_l (zk_r (zk_l zdX1_compare_112))))
theorem dX1_compare_14 : decode cX1_compare 14 = .ok (.getfield 25, 3) := zk_of (zk_l (zk_l (zk_r (zk_r (zk_l zdX1_compare_112)))))
theorem dX1_compare_17 : decode cX1_compare 17 = .ok (.getfield 39, 3) := zk_of (zk_r (zk_l (zk_r (zk_r (zk_l zdX1_compare_112)))))
theorem dX1_compare_20 : decode cX1_compare 20 = .ok (.iconst 0, 1) := zk_of (zk_r (zk_r (zk_r (zk_l zdX1_compare_112))))
theorem dX1_compare_21 : decode cX1_compare 21 = .ok (.iaload, 1) := zk_of (zk_l (zk_l (zk_l (zk_l (zk_r zdX1_compare_112)))))
theorem dX1_compare_22 : decode cX1_compare 22 = .ok (.putfield 42, 3) := zk_of (zk_r (zk_l (zk_l (zk_l (zk_r zdX1_compare_112)))))
theorem dX1_compare_25 : decode cX1_compare 25 = .ok (.aload_n 0, 1) := zk_of (zk_l (zk_r (zk_l (zk_l (zk_r zdX1_compare_112)))))
theorem dX1_compare_26 : decode cX1_compare 26 = .ok (.aload_n 0, 1) := zk_of (zk_r (zk_r (zk_l (zk_l (zk_r zdX1_compare_112)))))
theorem dX1_compare_27 : decode cX1_compare 27 = .ok (.getfield 25, 3) := zk_of (zk_l (zk_l (zk_r (zk_l (zk_r zdX1_compare_112)))))
theorem dX1_compare_30 : decode cX1_compare 30 = .ok (.getfield 45, 3) := zk_of (zk_r (zk_l (zk_r (zk_l (zk_r zdX1_compare_112)))))
theorem dX1_compare_33 : decode cX1_compare 33 = .ok (.iconst 0, 1) := zk_of (zk_r (zk_r (zk_l (zk_r zdX1_compare_112))))
theorem dX1_compare_34 : decode cX1_compare 34 = .ok (.iaload, 1) := zk_of (zk_l (zk_l (zk_l (zk_r (zk_r zdX1_compare_112)))))
theorem dX1_compare_35 : decode cX1_compare 35 = .ok (.putfield 48, 3) := zk_of (zk_r (zk_l (zk_l (zk_r (zk_r zdX1_compare_112)))))
theorem dX1_compare_38 : decode cX1_compare 38 = .ok (.iconst 1, 1) := zk_of (zk_r (zk_l (zk_r (zk_r zdX1_compare_112))))
theorem dX1_compare_39 : decode cX1_compare 39 = .ok (.istore_n 1, 1) := zk_of (zk_l (zk_l (zk_r (zk_r (zk_r zdX1_compare_112)))))
theorem dX1_compare_10 : decode cX1_compare 10 = .ok (.iconst 0, 1) := zk_of (zk_r (zk_l (zk_r (zk_r (zk_r zdX1_compare_112)))))
theorem dX1_compare_11 : decode cX1_compare 11 = .ok (.ireturn, 1) := zk_of (zk_r (zk_r (zk_r (zk_r zdX1_compare_112))))
/-- HissHorn$Findings.compare()Z of cell 8 -/
def rmX1_compare_8 : Room := { frames := 1, cells := 0, slots := 0, locals := 14 }
theorem hX1_compare_8_X1 : ∀ w ∈ u_ws RX1 TX1 13, w ∈ wsX1_compare := fun w h => (List.mem_cons_of_mem _ (List.mem_append_left _ (List.mem_append_right _ h)))
theorem mX1_compare_8_1 : Cond.fieldLink RX1 25 "HissHorn$Findings" "readings" "LHissHorn$Readings;" ∈ wsX1_compare := (List.mem_cons_of_mem _ (List.mem_append_left _ (List.mem_append_left _ (List.mem_of_getElem? (i := 0) rfl))))
theorem hX1_compare_8_X7 : ∀ w ∈ u_ws RX7 TX7 12, w ∈ wsX1_compare := fun w h => (List.mem_cons_of_mem _ (List.mem_append_right _ h))
theorem mX1_compare_8_3 : Cond.fieldLink RX1 33 "HissHorn$Readings" "known" "I" ∈ wsX1_compare := (List.mem_cons_of_mem _ (List.mem_append_left _ (List.mem_append_left _ (List.mem_of_getElem? (i := 1) rfl))))
theorem mX1_compare_8_4 : Cond.fieldLink RX1 39 "HissHorn$Readings" "lower" "[I" ∈ wsX1_compare := (List.mem_cons_of_mem _ (List.mem_append_left _ (List.mem_append_left _ (List.mem_of_getElem? (i := 2) rfl))))
theorem mX1_compare_8_5 : Cond.fieldLink RX1 42 "HissHorn$Findings" "alikeFrom" "I" ∈ wsX1_compare := (List.mem_cons_of_mem _ (List.mem_append_left _ (List.mem_append_left _ (List.mem_of_getElem? (i := 3) rfl))))
theorem mX1_compare_8_6 : Cond.fieldLink RX1 45 "HissHorn$Readings" "upper" "[I" ∈ wsX1_compare := (List.mem_cons_of_mem _ (List.mem_append_left _ (List.mem_append_left _ (List.mem_of_getElem? (i := 4) rfl))))
theorem mX1_compare_8_7 : Cond.fieldLink RX1 48 "HissHorn$Findings" "alikeTo" "I" ∈ wsX1_compare := (List.mem_cons_of_mem _ (List.mem_append_left _ (List.mem_append_left _ (List.mem_of_getElem? (i := 5) rfl))))
theorem mX1_compare_8_8 : Cond.methodLink RX1 51 Lib.Math.max.name ∈ wsX1_compare := (List.mem_cons_of_mem _ (List.mem_append_left _ (List.mem_append_left _ (List.mem_of_getElem? (i := 6) rfl))))
theorem mX1_compare_8_9 : Cond.static Lib.Math.max.name ∈ wsX1_compare := (List.mem_cons_of_mem _ (List.mem_append_left _ (List.mem_append_left _ (List.mem_of_getElem? (i := 7) rfl))))
theorem mX1_compare_8_10 : Cond.initialized "java/lang/Math" ∈ wsX1_compare := (List.mem_cons_of_mem _ (List.mem_append_left _ (List.mem_append_left _ (List.mem_of_getElem? (i := 8) rfl))))
theorem mX1_compare_8_11 : Cond.code Lib.Math.max.name Lib.Math.max.code 2 (some .int) ∈ wsX1_compare := (List.mem_cons_of_mem _ (List.mem_append_left _ (List.mem_append_left _ (List.mem_of_getElem? (i := 9) rfl))))
theorem mX1_compare_8_12 : Cond.methodLink RX1 57 Lib.Math.min.name ∈ wsX1_compare := (List.mem_cons_of_mem _ (List.mem_append_left _ (List.mem_append_left _ (List.mem_of_getElem? (i := 10) rfl))))
theorem mX1_compare_8_13 : Cond.static Lib.Math.min.name ∈ wsX1_compare := (List.mem_cons_of_mem _ (List.mem_append_left _ (List.mem_append_left _ (List.mem_of_getElem? (i := 11) rfl))))
theorem mX1_compare_8_14 : Cond.code Lib.Math.min.name Lib.Math.min.code 2 (some .int) ∈ wsX1_compare := (List.mem_cons_of_mem _ (List.mem_append_left _ (List.mem_append_left _ (List.mem_of_getElem? (i := 12) rfl))))
def LX1_compare_8_40 (k97 : SX → Option (Int32 × SX)) : Nat → Int32 → SX → Option (Int32 × SX)
  | 0, _, _ => none
  | n + 1, z1, u => (if (u.1 14) ≤ z1 then (k97 u) else (gd (inb z1 80) (lt (sI u 17 (if (u.1 17) < (u.2.1 38 z1.toNatClampNeg) then (u.2.1 38 z1.toNatClampNeg) else (u.1 17))) fun u8 => (gd (inb z1 80) (lt (sI u8 18 (if (u8.2.1 39 z1.toNatClampNeg) < (u8.1 18) then (u8.2.1 39 z1.toNatClampNeg) else (u8.1 18))) fun u11 => ((LX1_compare_8_40 k97 n) (z1 + 1) u11))))))
def GX1_compare_8_97  (u : SX) : Option (Int32 × SX) := (if (u.1 18) < (u.1 17) then (gd (isB 0) (some (0, u))) else (gd (isB 1) (some (1, u))))
def fX1_compare_8  (u : SX) : Option (Int32 × SX) := (if (u.1 14) = 0 then (gd (isB 0) (some (0, u))) else (gd (inb 0 80) (lt (sI u 17 (u.2.1 38 (0 : Int32).toNatClampNeg)) fun u2 => (gd (inb 0 80) (lt (sI u2 18 (u2.2.1 39 (0 : Int32).toNatClampNeg)) fun u5 => (LX1_compare_8_40 GX1_compare_8_97 5000 1 u5))))))
set_option maxHeartbeats 4000000 in
set_option maxRecDepth 100000 in
theorem wLX1_compare_8_40 {p : Program} {l : Launch} {e : Env} {s : State} {m : MethodId} {args : Array Value} {below : List Frame} {meth : Method} {c : Code} {D : va_G} {cy : Nat → ClassId} {ad st : Nat → Nat} (C : Cx RX1 cX1_compare 2 (some .boolean) wsX1_compare p s m args meth c) (hK : Ky D [(cy 0, .int), (cy 1, .long), (cy 2, .boolean), (cy 3, .byte), (cy 4, .object "HissHorn$Text")] st s) (hJ : JX ad st) {r : Int32} {u' : SX} {k97 : SX → Option (Int32 × SX)} (hk97 : ∀  (u : SX) (H : Heap) (locs : List Loc) (ls : Array Slot), k97 u = some (r, u') → va_P D vwCl (VX cy ad st u) H → va_S (Ax (AX ad) s.heap.size) s.heap H locs → lv_has ls 2 [(0, .ref (ad 8))] → W p l e rmX1_compare_8 s m args below meth c H locs 0 0 (MQ below (Qi D (VX cy ad st) (AX ad) s.heap.size r u') args s 0 0 (Ax (AX ad) s.heap.size)) (F0 m 97 ls [])) : ∀ (n : Nat) (z1 : Int32) (u : SX) (H : Heap) (locs : List Loc) (ls : Array Slot), LX1_compare_8_40 k97 n z1 u = some (r, u') → va_P D vwCl (VX cy ad st u) H → va_S (Ax (AX ad) s.heap.size) s.heap H locs → lv_has ls 2 [(0, .ref (ad 8)), (1, .int z1)] → W p l e rmX1_compare_8 s m args below meth c H locs 0 0 (MQ below (Qi D (VX cy ad st) (AX ad) s.heap.size r u') args s 0 0 (Ax (AX ad) s.heap.size)) (F0 m 40 ls []) := by
  intro n
  induction n with
  | zero =>
    intro z1 u H locs ls h
    exact absurd h (by intro q; cases q)
  | succ n ih =>
    intro z1 u H locs ls h hP hS hl
    rw [LX1_compare_8_40] at h
    refine lv_iload_n C.1 C.2.1 dX1_compare_40 rfl (lv_at hl 1 rfl) ?_
    refine lv_aload_n C.1 C.2.1 dX1_compare_41 rfl (lv_at hl 0 rfl) ?_
    refine gX_8_readings C hX1_compare_8_X1 hK hP mX1_compare_8_1 dX1_compare_42 ?_
    refine gX_7_known C hX1_compare_8_X7 hK hP mX1_compare_8_3 dX1_compare_45 ?_
    refine lv_icmp_ge (tgt := 97) C.1 C.2.1 dX1_compare_48 (by decide) (fun c48 => ?_) (fun c48 => ?_)
    · rw [if_pos c48] at h
      exact hk97 _ _ _ _ h hP hS (lv_sub hl [0] rfl)
    · rw [if_neg c48] at h
      refine lv_aload_n C.1 C.2.1 dX1_compare_51 rfl (lv_at hl 0 rfl) ?_
      refine lv_aload_n C.1 C.2.1 dX1_compare_52 rfl (lv_at hl 0 rfl) ?_
      refine gX_8_alikeFrom C hX1_compare_8_X1 hK hP mX1_compare_8_5 dX1_compare_53 ?_
      refine lv_aload_n C.1 C.2.1 dX1_compare_56 rfl (lv_at hl 0 rfl) ?_
      refine gX_8_readings C hX1_compare_8_X1 hK hP mX1_compare_8_1 dX1_compare_57 ?_
      refine gX_7_lower C hX1_compare_8_X7 hK hP mX1_compare_8_4 dX1_compare_60 ?_
      refine lv_iload_n C.1 C.2.1 dX1_compare_63 rfl (lv_at hl 1 rfl) ?_
      obtain ⟨hg7, h⟩ := gd_some h
      refine lX_38 C hK hP hg7 dX1_compare_64 ?_
      refine va_mmax C.1 C.2.1 (C.2.2.1.trans hl.1.symm) C.2.2.2.2.1 (C.2.2.2.2.2.1 _ mX1_compare_8_8) (C.2.2.2.2.2.1 _ mX1_compare_8_9) (C.2.2.2.2.2.1 _ mX1_compare_8_10) (C.2.2.2.2.2.1 _ mX1_compare_8_11) (Nat.le_of_ble_eq_true rfl) (Nat.le_of_ble_eq_true rfl) (Nat.zero_le _) (Nat.zero_le _) dX1_compare_65 ?_
      refine pX_8_alikeFrom C hX1_compare_8_X1 hK hP hJ hS mX1_compare_8_5 dX1_compare_68 (fun H locs hP hS => ?_)
      obtain ⟨u8, hu9, h⟩ := lt_some h
      rw [← hu9] at hP
      refine lv_aload_n C.1 C.2.1 dX1_compare_71 rfl (lv_at hl 0 rfl) ?_
      refine lv_aload_n C.1 C.2.1 dX1_compare_72 rfl (lv_at hl 0 rfl) ?_
      refine gX_8_alikeTo C hX1_compare_8_X1 hK hP mX1_compare_8_7 dX1_compare_73 ?_
      refine lv_aload_n C.1 C.2.1 dX1_compare_76 rfl (lv_at hl 0 rfl) ?_
      refine gX_8_readings C hX1_compare_8_X1 hK hP mX1_compare_8_1 dX1_compare_77 ?_
      refine gX_7_upper C hX1_compare_8_X7 hK hP mX1_compare_8_6 dX1_compare_80 ?_
      refine lv_iload_n C.1 C.2.1 dX1_compare_83 rfl (lv_at hl 1 rfl) ?_
      obtain ⟨hg10, h⟩ := gd_some h
      refine lX_39 C hK hP hg10 dX1_compare_84 ?_
      refine va_mmin C.1 C.2.1 (C.2.2.1.trans hl.1.symm) C.2.2.2.2.1 (C.2.2.2.2.2.1 _ mX1_compare_8_12) (C.2.2.2.2.2.1 _ mX1_compare_8_13) (C.2.2.2.2.2.1 _ mX1_compare_8_10) (C.2.2.2.2.2.1 _ mX1_compare_8_14) (Nat.le_of_ble_eq_true rfl) (Nat.le_of_ble_eq_true rfl) (Nat.zero_le _) (Nat.zero_le _) dX1_compare_85 ?_
      refine pX_8_alikeTo C hX1_compare_8_X1 hK hP hJ hS mX1_compare_8_7 dX1_compare_88 (fun H locs hP hS => ?_)
      obtain ⟨u11, hu12, h⟩ := lt_some h
      rw [← hu12] at hP
      refine lv_iinc (v := z1 + 1) (lv' := [(1, .int (z1 + 1)), (0, .ref (ad 8))]) C.1 C.2.1 dX1_compare_91 hl (k := 1) rfl rfl (by decide) rfl (fun ls hl => ?_)
      replace hl := lv_sub (l' := [(0, .ref (ad 8)), (1, .int (z1 + 1))]) hl [1, 0] rfl
      refine lv_goto (tgt := 40) C.1 C.2.1 dX1_compare_94 (by decide) ?_
      exact ih _ _ _ _ _ h hP hS hl
set_option maxHeartbeats 4000000 in
set_option maxRecDepth 100000 in
theorem wGX1_compare_8_97 {p : Program} {l : Launch} {e : Env} {s : State} {m : MethodId} {args : Array Value} {below : List Frame} {meth : Method} {c : Code} {D : va_G} {cy : Nat → ClassId} {ad st : Nat → Nat} (C : Cx RX1 cX1_compare 2 (some .boolean) wsX1_compare p s m args meth c) (hK : Ky D [(cy 0, .int), (cy 1, .long), (cy 2, .boolean), (cy 3, .byte), (cy 4, .object "HissHorn$Text")] st s) (hJ : JX ad st) {r : Int32} {u' : SX}   (u : SX) (H : Heap) (locs : List Loc) (ls : Array Slot) (h : GX1_compare_8_97  u = some (r, u')) (hP : va_P D vwCl (VX cy ad st u) H) (hS : va_S (Ax (AX ad) s.heap.size) s.heap H locs) (hl : lv_has ls 2 [(0, .ref (ad 8))]) : W p l e rmX1_compare_8 s m args below meth c H locs 0 0 (MQ below (Qi D (VX cy ad st) (AX ad) s.heap.size r u') args s 0 0 (Ax (AX ad) s.heap.size)) (F0 m 97 ls []) := by
  unfold GX1_compare_8_97 at h
  refine lv_aload_n C.1 C.2.1 dX1_compare_97 rfl (lv_at hl 0 rfl) ?_
  refine gX_8_alikeFrom C hX1_compare_8_X1 hK hP mX1_compare_8_5 dX1_compare_98 ?_
  refine lv_aload_n C.1 C.2.1 dX1_compare_101 rfl (lv_at hl 0 rfl) ?_
  refine gX_8_alikeTo C hX1_compare_8_X1 hK hP mX1_compare_8_7 dX1_compare_102 ?_
  refine lv_icmp_gt (tgt := 112) C.1 C.2.1 dX1_compare_105 (by decide) (fun c105 => ?_) (fun c105 => ?_)
  · rw [if_pos c105] at h
    refine lv_iconst (v := 0) C.1 C.2.1 dX1_compare_112 (by decide) ?_
    obtain ⟨hg13, h⟩ := gd_some h
    cases h
    exact rt_z hg13 C hP hS dX1_compare_113
  · rw [if_neg c105] at h
    refine lv_iconst (v := 1) C.1 C.2.1 dX1_compare_108 (by decide) ?_
    refine lv_goto (tgt := 113) C.1 C.2.1 dX1_compare_109 (by decide) ?_
    obtain ⟨hg14, h⟩ := gd_some h
    cases h
    exact rt_z hg14 C hP hS dX1_compare_113
set_option maxHeartbeats 4000000 in
set_option maxRecDepth 100000 in
theorem wX1_compare_8 {p : Program} {l : Launch} {e : Env} {s : State} {m : MethodId} {args : Array Value} {below : List Frame} {meth : Method} {c : Code} {D : va_G} {cy : Nat → ClassId} {ad st : Nat → Nat} (C : Cx RX1 cX1_compare 2 (some .boolean) wsX1_compare p s m args meth c) (hK : Ky D [(cy 0, .int), (cy 1, .long), (cy 2, .boolean), (cy 3, .byte), (cy 4, .object "HissHorn$Text")] st s) (hJ : JX ad st)  {u : SX} {r : Int32} {u' : SX} {H : Heap} {locs : List Loc} {ls : Array Slot} (h : fX1_compare_8  u = some (r, u')) (hP : va_P D vwCl (VX cy ad st u) H) (hS : va_S (Ax (AX ad) s.heap.size) s.heap H locs) (hl : lv_has ls 2 [(0, .ref (ad 8))]) : W p l e rmX1_compare_8 s m args below meth c H locs 0 0 (MQ below (Qi D (VX cy ad st) (AX ad) s.heap.size r u') args s 0 0 (Ax (AX ad) s.heap.size)) (F0 m 0 ls []) := by
  unfold fX1_compare_8 at h
  refine lv_aload_n C.1 C.2.1 dX1_compare_0 rfl (lv_at hl 0 rfl) ?_
  refine gX_8_readings C hX1_compare_8_X1 hK hP mX1_compare_8_1 dX1_compare_1 ?_
  refine gX_7_known C hX1_compare_8_X7 hK hP mX1_compare_8_3 dX1_compare_4 ?_
  refine lv_if_ne (tgt := 12) C.1 C.2.1 dX1_compare_7 (by decide) (fun c7 => ?_) (fun c7 => ?_)
  · rw [if_neg c7] at h
    refine lv_aload_n C.1 C.2.1 dX1_compare_12 rfl (lv_at hl 0 rfl) ?_
    refine lv_aload_n C.1 C.2.1 dX1_compare_13 rfl (lv_at hl 0 rfl) ?_
    refine gX_8_readings C hX1_compare_8_X1 hK hP mX1_compare_8_1 dX1_compare_14 ?_
    refine gX_7_lower C hX1_compare_8_X7 hK hP mX1_compare_8_4 dX1_compare_17 ?_
    refine lv_iconst (v := 0) C.1 C.2.1 dX1_compare_20 (by decide) ?_
    obtain ⟨hg1, h⟩ := gd_some h
    refine lX_38 C hK hP hg1 dX1_compare_21 ?_
    refine pX_8_alikeFrom C hX1_compare_8_X1 hK hP hJ hS mX1_compare_8_5 dX1_compare_22 (fun H locs hP hS => ?_)
    obtain ⟨u2, hu3, h⟩ := lt_some h
    rw [← hu3] at hP
    refine lv_aload_n C.1 C.2.1 dX1_compare_25 rfl (lv_at hl 0 rfl) ?_
    refine lv_aload_n C.1 C.2.1 dX1_compare_26 rfl (lv_at hl 0 rfl) ?_
    refine gX_8_readings C hX1_compare_8_X1 hK hP mX1_compare_8_1 dX1_compare_27 ?_
    refine gX_7_upper C hX1_compare_8_X7 hK hP mX1_compare_8_6 dX1_compare_30 ?_
    refine lv_iconst (v := 0) C.1 C.2.1 dX1_compare_33 (by decide) ?_
    obtain ⟨hg4, h⟩ := gd_some h
    refine lX_39 C hK hP hg4 dX1_compare_34 ?_
    refine pX_8_alikeTo C hX1_compare_8_X1 hK hP hJ hS mX1_compare_8_7 dX1_compare_35 (fun H locs hP hS => ?_)
    obtain ⟨u5, hu6, h⟩ := lt_some h
    rw [← hu6] at hP
    refine lv_iconst (v := 1) C.1 C.2.1 dX1_compare_38 (by decide) ?_
    refine lv_istore_n (lv' := [(1, .int 1), (0, .ref (ad 8))]) C.1 C.2.1 dX1_compare_39 rfl hl (by decide) rfl (fun ls hl => ?_)
    replace hl := lv_sub (l' := [(0, .ref (ad 8)), (1, .int 1)]) hl [1, 0] rfl
    exact wLX1_compare_8_40 C hK hJ (wGX1_compare_8_97 C hK hJ ) 5000 _ _ _ _ _ h hP hS hl
  · rw [if_pos c7] at h
    refine lv_iconst (v := 0) C.1 C.2.1 dX1_compare_10 (by decide) ?_
    obtain ⟨hg15, h⟩ := gd_some h
    cases h
    exact rt_z hg15 C hP hS dX1_compare_11
theorem metX1_compare_8 (l : Launch) (D : va_G) (cy : Nat → ClassId) (ad st : Nat → Nat) (hJ : JX ad st) (sz : Nat)  {u : SX} {r : Int32} {u' : SX} (h : fX1_compare_8  u = some (r, u')) : Met l yX1_compare wsX1_compare rmX1_compare_8 (va_Pc [.ref (ad 8)] (Px D [(cy 0, .int), (cy 1, .long), (cy 2, .boolean), (cy 3, .byte), (cy 4, .object "HissHorn$Text")] st (VX cy ad st) sz u)) (Qi D (VX cy ad st) (AX ad) sz r u') 0 0 (Ax (AX ad) sz) := by
  refine Met.ofW (cc := cX1_compare) (maxL := 2) (ret := (some .boolean)) (by decide) rfl ?_
  intro p e s m args below meth c s₁ B hml hv
  obtain ⟨rfl, hsz, hP, hK⟩ := hv
  subst hsz
  have C : Cx RX1 cX1_compare 2 (some .boolean) wsX1_compare p s m _ meth c := ⟨B.exec, B.bytes, hml, B.returns, findClass_of_methodNamed B.named, atoms_spec (ws := wsX1_compare) B.pre, B.notSynchronized⟩
  have hl := lv_entry ([.ref (ad 8)]) (n := 2) (Nat.le_of_ble_eq_true rfl)
  rw [lg_entry_eq]
  exact wX1_compare_8 C hK hJ h hP va_S.rf hl

theorem zdX11_alike_0 : (and (and (and (and (and (zk cX11_alike 0 (.aload_n 0) 1) (zk cX11_alike 1 (.iload_n 1) 1)) (and (zk cX11_alike 2 (.invokevirtual 174) 3) (zk cX11_alike 5 (.ifCond .eq 10) 3))) (and (and (zk cX11_alike 15 (.ldc 194) 2) (zk cX11_alike 17 (.ireturn) 1)) (and (zk cX11_alike 8 (.iload_n 2) 1) (zk cX11_alike 9 (.invokestatic 177) 3)))) (and (and (and (zk cX11_alike 12 (.ifCond .ne 6) 3) (zk cX11_alike 18 (.aload_n 0) 1)) (and (zk cX11_alike 19 (.getfield 58) 3) (zk cX11_alike 22 (.iload_n 1) 1))) (and (and (zk cX11_alike 23 (.invokevirtual 214) 3) (zk cX11_alike 26 (.aload_n 0) 1)) (zk cX11_alike 27 (.getfield 67) 3)))) (and (and (and (and (zk cX11_alike 30 (.invokevirtual 224) 3) (zk cX11_alike 33 (.ifCond .ne 6) 3)) (and (zk cX11_alike 39 (.iload_n 2) 1) (zk cX11_alike 40 (.ifCond .ne 13) 3))) (and (and (zk cX11_alike 53 (.aload_n 0) 1) (zk cX11_alike 54 (.getfield 67) 3)) (zk cX11_alike 57 (.getfield 230) 3))) (and (and (and (zk cX11_alike 60 (.ireturn) 1) (zk cX11_alike 43 (.aload_n 0) 1)) (and (zk cX11_alike 44 (.getfield 67) 3) (zk cX11_alike 47 (.getfield 227) 3))) (and (and (zk cX11_alike 50 (.goto 10) 3) (zk cX11_alike 36 (.ldc 194) 2)) (zk cX11_alike 38 (.ireturn) 1))))) = true := by decide +kernel
theorem dX11_alike_0 : decode cX11_alike 0 = .ok (.aload_n 0, 1) := zk_of (zk_l (zk_l (zk_l (zk_l (zk_l zdX11_alike_0)))))
theorem dX11_alike_1 : decode cX11_alike 1 = .ok (.iload_n 1, 1) := zk_of (zk_r (zk_l (zk_l (zk_l (zk_l zdX11_alike_0)))))
theorem dX11_alike_2 : decode cX11_alike 2 = .ok (.invokevirtual 174, 3) := zk_of (zk_l (zk_r (zk_l (zk_l (zk_l zdX11_alike_0)))))
theorem dX11_alike_5 : decode cX11_alike 5 = .ok (.ifCond .eq 10, 3) := zk_of (zk_r (zk_r (zk_l (zk_l (zk_l zdX11_alike_0)))))
theorem dX11_alike_15 : decode cX11_alike 15 = .ok (.ldc 194, 2) := zk_of (zk_l (zk_l (zk_r (zk_l (zk_l zdX11_alike_0)))))
theorem dX11_alike_17 : decode cX11_alike 17 = .ok (.ireturn, 1) := zk_of (zk_r (zk_l (zk_r (zk_l (zk_l zdX11_alike_0)))))
theorem dX11_alike_8 : decode cX11_alike 8 = .ok (.iload_n 2, 1) := zk_of (zk_l (zk_r (zk_r (zk_l (zk_l zdX11_alike_0)))))
theorem dX11_alike_9 : decode cX11_alike 9 = .ok (.invokestatic 177, 3) := zk_of (zk_r (zk_r (zk_r (zk_l (zk_l zdX11_alike_0)))))
theorem dX11_alike_12 : decode cX11_alike 12 = .ok (.ifCond .ne 6, 3) := zk_of (zk_l (zk_l (zk_l (zk_r (zk_l zdX11_alike_0)))))
theorem dX11_alike_18 : decode cX11_alike 18 = .ok (.aload_n 0, 1) := zk_of (zk_r (zk_l (zk_l (zk_r (zk_l zdX11_alike_0)))))
theorem dX11_alike_19 : decode cX11_alike 19 = .ok (.getfield 58, 3) := zk_of (zk_l (zk_r (zk_l (zk_r (zk_l zdX11_alike_0)))))
theorem dX11_alike_22 : decode cX11_alike 22 = .ok (.iload_n 1, 1) := zk_of (zk_r (zk_r (zk_l (zk_r (zk_l zdX11_alike_0)))))
theorem dX11_alike_23 : decode cX11_alike 23 = .ok (.invokevirtual 214, 3) := zk_of (zk_l (zk_l (zk_r (zk_r (zk_l zdX11_alike_0)))))
theorem dX11_alike_26 : decode cX11_alike 26 = .ok (.aload_n 0, 1) := zk_of (zk_r (zk_l (zk_r (zk_r (zk_l zdX11_alike_0)))))
theorem dX11_alike_27 : decode cX11_alike 27 = .ok (.getfield 67, 3) := zk_of (zk_r (zk_r (zk_r (zk_l zdX11_alike_0))))
theorem dX11_alike_30 : decode cX11_alike 30 = .ok (.invokevirtual 224, 3) := zk_of (zk_l (zk_l (zk_l (zk_l (zk_r zdX11_alike_0)))))
theorem dX11_alike_33 : decode cX11_alike 33 = .ok (.ifCond .ne 6, 3) := zk_of (zk_r (zk_l (zk_l (zk_l (zk_r zdX11_alike_0)))))
theorem dX11_alike_39 : decode cX11_alike 39 = .ok (.iload_n 2, 1) := zk_of (zk_l (zk_r (zk_l (zk_l (zk_r zdX11_alike_0)))))
theorem dX11_alike_40 : decode cX11_alike 40 = .ok (.ifCond .ne 13, 3) := zk_of (zk_r (zk_r (zk_l (zk_l (zk_r zdX11_alike_0)))))
theorem dX11_alike_53 : decode cX11_alike 53 = .ok (.aload_n 0, 1) := zk_of (zk_l (zk_l (zk_r (zk_l (zk_r zdX11_alike_0)))))
theorem dX11_alike_54 : decode cX11_alike 54 = .ok (.getfield 67, 3) := zk_of (zk_r (zk_l (zk_r (zk_l (zk_r zdX11_alike_0)))))
theorem dX11_alike_57 : decode cX11_alike 57 = .ok (.getfield 230, 3) := zk_of (zk_r (zk_r (zk_l (zk_r zdX11_alike_0))))
theorem dX11_alike_60 : decode cX11_alike 60 = .ok (.ireturn, 1) := zk_of (zk_l (zk_l (zk_l (zk_r (zk_r zdX11_alike_0)))))
theorem dX11_alike_43 : decode cX11_alike 43 = .ok (.aload_n 0, 1) := zk_of (zk_r (zk_l (zk_l (zk_r (zk_r zdX11_alike_0)))))
theorem dX11_alike_44 : decode cX11_alike 44 = .ok (.getfield 67, 3) := zk_of (zk_l (zk_r (zk_l (zk_r (zk_r zdX11_alike_0)))))
theorem dX11_alike_47 : decode cX11_alike 47 = .ok (.getfield 227, 3) := zk_of (zk_r (zk_r (zk_l (zk_r (zk_r zdX11_alike_0)))))
theorem dX11_alike_50 : decode cX11_alike 50 = .ok (.goto 10, 3) := zk_of (zk_l (zk_l (zk_r (zk_r (zk_r zdX11_alike_0)))))
theorem dX11_alike_36 : decode cX11_alike 36 = .ok (.ldc 194, 2) := zk_of (zk_r (zk_l (zk_r (zk_r (zk_r zdX11_alike_0)))))
theorem dX11_alike_38 : decode cX11_alike 38 = .ok (.ireturn, 1) := zk_of (zk_r (zk_r (zk_r (zk_r zdX11_alike_0))))
set_option maxRecDepth 20000 in
theorem ggX11_alike_X11_isDay : GoodIn wsX11_alike wsX11_isDay := ggi (fun w h => List.mem_cons_of_mem _ (List.mem_append_left _ (List.mem_append_left _ (List.mem_append_left _ (List.mem_append_left _ (List.mem_append_left _ (List.mem_append_left _ (List.mem_append_right _ (List.mem_append_left _ h))))))))) gs_X11_isDay
set_option maxRecDepth 20000 in
theorem gX11_alike_X11_isDay : GoodIn wsX11_alike (wsV RX11 174 RX11 yX11_isDay wsX11_isDay) := goodIn_app (goodIn_of _ (by decide +kernel)) ggX11_alike_X11_isDay
set_option maxRecDepth 20000 in
theorem ggX11_alike_X11_isEither : GoodIn wsX11_alike wsX11_isEither := ggi (fun w h => List.mem_cons_of_mem _ (List.mem_append_left _ (List.mem_append_left _ (List.mem_append_left _ (List.mem_append_left _ (List.mem_append_left _ (List.mem_append_left _ (List.mem_append_right _ (List.mem_append_right _ (List.mem_append_left _ h)))))))))) gs_X11_isEither
set_option maxRecDepth 20000 in
theorem gX11_alike_X11_isEither : GoodIn wsX11_alike (va_wsS RX11 177 yX11_isEither wsX11_isEither) := goodIn_app (goodIn_of _ (by decide +kernel)) ggX11_alike_X11_isEither
set_option maxRecDepth 20000 in
theorem ggX11_alike_X7_recall : GoodIn wsX11_alike wsX7_recall := ggi (fun w h => List.mem_cons_of_mem _ (List.mem_append_left _ (List.mem_append_left _ (List.mem_append_left _ (List.mem_append_left _ (List.mem_append_left _ (List.mem_append_left _ (List.mem_append_right _ (List.mem_append_right _ (List.mem_append_right _ (List.mem_append_left _ h))))))))))) gs_X7_recall
set_option maxRecDepth 20000 in
theorem gX11_alike_X7_recall : GoodIn wsX11_alike (wsV RX11 214 RX7 yX7_recall wsX7_recall) := goodIn_app (goodIn_of _ (by decide +kernel)) ggX11_alike_X7_recall
set_option maxRecDepth 20000 in
theorem ggX11_alike_X1_compare : GoodIn wsX11_alike wsX1_compare := ggi (fun w h => List.mem_cons_of_mem _ (List.mem_append_left _ (List.mem_append_left _ (List.mem_append_left _ (List.mem_append_left _ (List.mem_append_left _ (List.mem_append_left _ (List.mem_append_right _ (List.mem_append_right _ (List.mem_append_right _ (List.mem_append_right _ h))))))))))) gs_X1_compare
set_option maxRecDepth 20000 in
theorem gX11_alike_X1_compare : GoodIn wsX11_alike (wsV RX11 224 RX1 yX1_compare wsX1_compare) := goodIn_app (goodIn_of _ (by decide +kernel)) ggX11_alike_X1_compare
/-- HissHorn.alike(II)I of cell 0 -/
def rmX11_alike_0 : Room := { frames := 7, cells := 0, slots := 0, locals := 162 }
theorem mX11_alike_0_0 : Cond.constant RX11 194 (-100000000) ∈ wsX11_alike := (List.mem_cons_of_mem _ (List.mem_append_left _ (List.mem_append_left _ (List.mem_append_left _ (List.mem_append_left _ (List.mem_append_left _ (List.mem_append_left _ (List.mem_append_left _ (List.mem_of_getElem? (i := 14) rfl)))))))))
theorem hX11_alike_0_X11 : ∀ w ∈ u_ws RX11 TX11 13, w ∈ wsX11_alike := fun w h => (List.mem_cons_of_mem _ (List.mem_append_left _ (List.mem_append_left _ (List.mem_append_left _ (List.mem_append_left _ (List.mem_append_left _ (List.mem_append_right _ h)))))))
theorem mX11_alike_0_2 : Cond.fieldLink RX11 58 "HissHorn" "readings" "LHissHorn$Readings;" ∈ wsX11_alike := (List.mem_cons_of_mem _ (List.mem_append_left _ (List.mem_append_left _ (List.mem_append_left _ (List.mem_append_left _ (List.mem_append_left _ (List.mem_append_left _ (List.mem_append_left _ (List.mem_of_getElem? (i := 15) rfl)))))))))
theorem mX11_alike_0_3 : Cond.fieldLink RX11 67 "HissHorn" "findings" "LHissHorn$Findings;" ∈ wsX11_alike := (List.mem_cons_of_mem _ (List.mem_append_left _ (List.mem_append_left _ (List.mem_append_left _ (List.mem_append_left _ (List.mem_append_left _ (List.mem_append_left _ (List.mem_append_left _ (List.mem_of_getElem? (i := 16) rfl)))))))))
theorem hX11_alike_0_X1 : ∀ w ∈ u_ws RX1 TX1 13, w ∈ wsX11_alike := fun w h => (List.mem_cons_of_mem _ (List.mem_append_left _ (List.mem_append_left _ (List.mem_append_left _ (List.mem_append_left _ (List.mem_append_right _ h))))))
theorem mX11_alike_0_5 : Cond.fieldLink RX11 230 "HissHorn$Findings" "alikeTo" "I" ∈ wsX11_alike := (List.mem_cons_of_mem _ (List.mem_append_left _ (List.mem_append_left _ (List.mem_append_left _ (List.mem_append_left _ (List.mem_append_left _ (List.mem_append_left _ (List.mem_append_left _ (List.mem_of_getElem? (i := 17) rfl)))))))))
theorem mX11_alike_0_6 : Cond.fieldLink RX11 227 "HissHorn$Findings" "alikeFrom" "I" ∈ wsX11_alike := (List.mem_cons_of_mem _ (List.mem_append_left _ (List.mem_append_left _ (List.mem_append_left _ (List.mem_append_left _ (List.mem_append_left _ (List.mem_append_left _ (List.mem_append_left _ (List.mem_of_getElem? (i := 18) rfl)))))))))
def fX11_alike_0 (x1 : Int32) (x2 : Int32) (u : SX) : Option (Int32 × SX) := ((fX11_isDay_0 x1 u).bind fun q => match q with | (r1, u2) => (if r1 = 0 then (some ((-100000000), u2)) else ((fX11_isEither x2).bind fun r4 => (if r4 = 0 then (some ((-100000000), u2)) else ((fX7_recall_7 x1 u2).bind fun q => match q with | (r7, u8) => ((fX1_compare_8  u8).bind fun q => match q with | (r10, u11) => (if r10 = 0 then (some ((-100000000), u11)) else (if x2 = 0 then (some (u11.1 17, u11)) else (some (u11.1 18, u11))))))))))
set_option maxHeartbeats 4000000 in
set_option maxRecDepth 100000 in
theorem wX11_alike_0 {p : Program} {l : Launch} {e : Env} {s : State} {m : MethodId} {args : Array Value} {below : List Frame} {meth : Method} {c : Code} {D : va_G} {cy : Nat → ClassId} {ad st : Nat → Nat} (C : Cx RX11 cX11_alike 3 (some .int) wsX11_alike p s m args meth c) (hK : Ky D [(cy 0, .int), (cy 1, .long), (cy 2, .boolean), (cy 3, .byte), (cy 4, .object "HissHorn$Text")] st s) (hJ : JX ad st) (x1 : Int32) (x2 : Int32) {u : SX} {r : Int32} {u' : SX} {H : Heap} {locs : List Loc} {ls : Array Slot} (h : fX11_alike_0 x1 x2 u = some (r, u')) (hP : va_P D vwCl (VX cy ad st u) H) (hS : va_S (Ax (AX ad) s.heap.size) s.heap H locs) (hl : lv_has ls 3 [(0, .ref (ad 0)), (1, .int x1), (2, .int x2)]) : W p l e rmX11_alike_0 s m args below meth c H locs 0 0 (MQ below (Qi D (VX cy ad st) (AX ad) s.heap.size r u') args s 0 0 (Ax (AX ad) s.heap.size)) (F0 m 0 ls []) := by
  unfold fX11_alike_0 at h
  refine lv_aload_n C.1 C.2.1 dX11_alike_0 rfl (lv_at hl 0 rfl) ?_
  refine lv_iload_n C.1 C.2.1 dX11_alike_1 rfl (lv_at hl 1 rfl) ?_
  obtain ⟨⟨r1, u2⟩, hc3, h⟩ := bd_some h
  try dsimp only at h
  refine cg_i (As := [.int x1]) (rest := []) (AX_ge hJ) C hK hP hS (metX11_isDay_0 l D cy ad st hJ _ x1 hc3) (cwV 1 C.2.2.2.2.2.1 gX11_alike_X11_isDay rfl rfl rfl (by decide +kernel) ⟨(Nat.le_of_ble_eq_true rfl), (Nat.le_of_ble_eq_true rfl)⟩) 0 11 rfl rfl rfl hl.1 rfl (Nat.le_of_ble_eq_true rfl) dX11_alike_2 ⟨Nat.zero_le _, Nat.zero_le _⟩ (fun H locs hP hS => ?_)
  refine lv_if_eq (tgt := 15) C.1 C.2.1 dX11_alike_5 (by decide) (fun c5 => ?_) (fun c5 => ?_)
  · rw [if_pos c5] at h
    refine lv_ldc C.1 C.2.1 C.2.2.2.2.1 (C.2.2.2.2.2.1 _ mX11_alike_0_0) dX11_alike_15 ?_
    cases h
    exact rt_i C hP hS dX11_alike_17
  · rw [if_neg c5] at h
    refine lv_iload_n C.1 C.2.1 dX11_alike_8 rfl (lv_at hl 2 rfl) ?_
    obtain ⟨r4, hc6, h⟩ := bd_some h
    refine cs_i (As := [.int x2]) (rest := []) (AX_ge hJ) C hK hP hS (metX11_isEither l D cy st _ x2 hc6) (va_cwS 1 C.2.2.2.2.2.1 gX11_alike_X11_isEither rfl rfl rfl (by decide +kernel) ⟨(Nat.le_of_ble_eq_true rfl), (Nat.le_of_ble_eq_true rfl)⟩) rfl hl.1 rfl (Nat.le_of_ble_eq_true rfl) dX11_alike_9 ⟨Nat.zero_le _, Nat.zero_le _⟩ (fun H locs hP hS => ?_)
    refine lv_if_ne (tgt := 18) C.1 C.2.1 dX11_alike_12 (by decide) (fun c12 => ?_) (fun c12 => ?_)
    · rw [if_neg c12] at h
      refine lv_aload_n C.1 C.2.1 dX11_alike_18 rfl (lv_at hl 0 rfl) ?_
      refine gX_0_readings C hX11_alike_0_X11 hK hP mX11_alike_0_2 dX11_alike_19 ?_
      refine lv_iload_n C.1 C.2.1 dX11_alike_22 rfl (lv_at hl 1 rfl) ?_
      obtain ⟨⟨r7, u8⟩, hc9, h⟩ := bd_some h
      try dsimp only at h
      refine cg_v (As := [.int x1]) (rest := []) (AX_ge hJ) C hK hP hS (metX7_recall_7 l D cy ad st hJ _ x1 hc9) (cwV 1 C.2.2.2.2.2.1 gX11_alike_X7_recall rfl rfl rfl (by decide +kernel) ⟨(Nat.le_of_ble_eq_true rfl), (Nat.le_of_ble_eq_true rfl)⟩) 7 7 rfl rfl rfl hl.1 rfl (Nat.le_of_ble_eq_true rfl) dX11_alike_23 ⟨Nat.zero_le _, Nat.zero_le _⟩ (fun H locs hP hS => ?_)
      refine lv_aload_n C.1 C.2.1 dX11_alike_26 rfl (lv_at hl 0 rfl) ?_
      refine gX_0_findings C hX11_alike_0_X11 hK hP mX11_alike_0_3 dX11_alike_27 ?_
      obtain ⟨⟨r10, u11⟩, hc12, h⟩ := bd_some h
      try dsimp only at h
      refine cg_i (As := []) (rest := []) (AX_ge hJ) C hK hP hS (metX1_compare_8 l D cy ad st hJ _  hc12) (cwV 0 C.2.2.2.2.2.1 gX11_alike_X1_compare rfl rfl rfl (by decide +kernel) ⟨(Nat.le_of_ble_eq_true rfl), (Nat.le_of_ble_eq_true rfl)⟩) 8 1 rfl rfl rfl hl.1 rfl (Nat.le_of_ble_eq_true rfl) dX11_alike_30 ⟨Nat.zero_le _, Nat.zero_le _⟩ (fun H locs hP hS => ?_)
      refine lv_if_ne (tgt := 39) C.1 C.2.1 dX11_alike_33 (by decide) (fun c33 => ?_) (fun c33 => ?_)
      · rw [if_neg c33] at h
        refine lv_iload_n C.1 C.2.1 dX11_alike_39 rfl (lv_at hl 2 rfl) ?_
        refine lv_if_ne (tgt := 53) C.1 C.2.1 dX11_alike_40 (by decide) (fun c40 => ?_) (fun c40 => ?_)
        · rw [if_neg c40] at h
          refine lv_aload_n C.1 C.2.1 dX11_alike_53 rfl (lv_at hl 0 rfl) ?_
          refine gX_0_findings C hX11_alike_0_X11 hK hP mX11_alike_0_3 dX11_alike_54 ?_
          refine gX_8_alikeTo C hX11_alike_0_X1 hK hP mX11_alike_0_5 dX11_alike_57 ?_
          cases h
          exact rt_i C hP hS dX11_alike_60
        · rw [if_pos c40] at h
          refine lv_aload_n C.1 C.2.1 dX11_alike_43 rfl (lv_at hl 0 rfl) ?_
          refine gX_0_findings C hX11_alike_0_X11 hK hP mX11_alike_0_3 dX11_alike_44 ?_
          refine gX_8_alikeFrom C hX11_alike_0_X1 hK hP mX11_alike_0_6 dX11_alike_47 ?_
          refine lv_goto (tgt := 60) C.1 C.2.1 dX11_alike_50 (by decide) ?_
          cases h
          exact rt_i C hP hS dX11_alike_60
      · rw [if_pos c33] at h
        refine lv_ldc C.1 C.2.1 C.2.2.2.2.1 (C.2.2.2.2.2.1 _ mX11_alike_0_0) dX11_alike_36 ?_
        cases h
        exact rt_i C hP hS dX11_alike_38
    · rw [if_pos c12] at h
      refine lv_ldc C.1 C.2.1 C.2.2.2.2.1 (C.2.2.2.2.2.1 _ mX11_alike_0_0) dX11_alike_15 ?_
      cases h
      exact rt_i C hP hS dX11_alike_17
theorem metX11_alike_0 (l : Launch) (D : va_G) (cy : Nat → ClassId) (ad st : Nat → Nat) (hJ : JX ad st) (sz : Nat) (x1 : Int32) (x2 : Int32) {u : SX} {r : Int32} {u' : SX} (h : fX11_alike_0 x1 x2 u = some (r, u')) : Met l yX11_alike wsX11_alike rmX11_alike_0 (va_Pc [.ref (ad 0), .int x1, .int x2] (Px D [(cy 0, .int), (cy 1, .long), (cy 2, .boolean), (cy 3, .byte), (cy 4, .object "HissHorn$Text")] st (VX cy ad st) sz u)) (Qi D (VX cy ad st) (AX ad) sz r u') 0 0 (Ax (AX ad) sz) := by
  refine Met.ofW (cc := cX11_alike) (maxL := 3) (ret := (some .int)) (by decide) rfl ?_
  intro p e s m args below meth c s₁ B hml hv
  obtain ⟨rfl, hsz, hP, hK⟩ := hv
  subst hsz
  have C : Cx RX11 cX11_alike 3 (some .int) wsX11_alike p s m _ meth c := ⟨B.exec, B.bytes, hml, B.returns, findClass_of_methodNamed B.named, atoms_spec (ws := wsX11_alike) B.pre, B.notSynchronized⟩
  have hl := lv_entry ([.ref (ad 0), .int x1, .int x2]) (n := 3) (Nat.le_of_ble_eq_true rfl)
  rw [lg_entry_eq]
  exact wX11_alike_0 C hK hJ x1 x2 h hP va_S.rf hl

theorem zdJ7_fill_d0a16_6 : (and (and (and (and (zk cJ7_fill_d0a16 6 (.iload_n 3) 1) (zk cJ7_fill_d0a16 7 (.iload 4) 2)) (and (zk cJ7_fill_d0a16 9 (.if_icmp .ge 13) 3) (zk cJ7_fill_d0a16 22 (.return_) 1))) (and (and (zk cJ7_fill_d0a16 12 (.aload_n 0) 1) (zk cJ7_fill_d0a16 13 (.iload_n 3) 1)) (and (zk cJ7_fill_d0a16 14 (.lload_n 1) 1) (zk cJ7_fill_d0a16 15 (.lastore) 1)))) (and (and (and (zk cJ7_fill_d0a16 16 (.iinc 3 1) 3) (zk cJ7_fill_d0a16 19 (.goto (-13)) 3)) (and (zk cJ7_fill_d0a16 0 (.iconst 0) 1) (zk cJ7_fill_d0a16 1 (.istore_n 3) 1))) (and (and (zk cJ7_fill_d0a16 2 (.aload_n 0) 1) (zk cJ7_fill_d0a16 3 (.arraylength) 1)) (zk cJ7_fill_d0a16 4 (.istore 4) 2)))) = true := by decide +kernel
theorem dJ7_fill_d0a16_6 : decode cJ7_fill_d0a16 6 = .ok (.iload_n 3, 1) := zk_of (zk_l (zk_l (zk_l (zk_l zdJ7_fill_d0a16_6))))
theorem dJ7_fill_d0a16_7 : decode cJ7_fill_d0a16 7 = .ok (.iload 4, 2) := zk_of (zk_r (zk_l (zk_l (zk_l zdJ7_fill_d0a16_6))))
theorem dJ7_fill_d0a16_9 : decode cJ7_fill_d0a16 9 = .ok (.if_icmp .ge 13, 3) := zk_of (zk_l (zk_r (zk_l (zk_l zdJ7_fill_d0a16_6))))
theorem dJ7_fill_d0a16_22 : decode cJ7_fill_d0a16 22 = .ok (.return_, 1) := zk_of (zk_r (zk_r (zk_l (zk_l zdJ7_fill_d0a16_6))))
theorem dJ7_fill_d0a16_12 : decode cJ7_fill_d0a16 12 = .ok (.aload_n 0, 1) := zk_of (zk_l (zk_l (zk_r (zk_l zdJ7_fill_d0a16_6))))
theorem dJ7_fill_d0a16_13 : decode cJ7_fill_d0a16 13 = .ok (.iload_n 3, 1) := zk_of (zk_r (zk_l (zk_r (zk_l zdJ7_fill_d0a16_6))))
theorem dJ7_fill_d0a16_14 : decode cJ7_fill_d0a16 14 = .ok (.lload_n 1, 1) := zk_of (zk_l (zk_r (zk_r (zk_l zdJ7_fill_d0a16_6))))
theorem dJ7_fill_d0a16_15 : decode cJ7_fill_d0a16 15 = .ok (.lastore, 1) := zk_of (zk_r (zk_r (zk_r (zk_l zdJ7_fill_d0a16_6))))
theorem dJ7_fill_d0a16_16 : decode cJ7_fill_d0a16 16 = .ok (.iinc 3 1, 3) := zk_of (zk_l (zk_l (zk_l (zk_r zdJ7_fill_d0a16_6))))
theorem dJ7_fill_d0a16_19 : decode cJ7_fill_d0a16 19 = .ok (.goto (-13), 3) := zk_of (zk_r (zk_l (zk_l (zk_r zdJ7_fill_d0a16_6))))
theorem dJ7_fill_d0a16_0 : decode cJ7_fill_d0a16 0 = .ok (.iconst 0, 1) := zk_of (zk_l (zk_r (zk_l (zk_r zdJ7_fill_d0a16_6))))
theorem dJ7_fill_d0a16_1 : decode cJ7_fill_d0a16 1 = .ok (.istore_n 3, 1) := zk_of (zk_r (zk_r (zk_l (zk_r zdJ7_fill_d0a16_6))))
theorem dJ7_fill_d0a16_2 : decode cJ7_fill_d0a16 2 = .ok (.aload_n 0, 1) := zk_of (zk_l (zk_l (zk_r (zk_r zdJ7_fill_d0a16_6))))
theorem dJ7_fill_d0a16_3 : decode cJ7_fill_d0a16 3 = .ok (.arraylength, 1) := zk_of (zk_r (zk_l (zk_r (zk_r zdJ7_fill_d0a16_6))))
theorem dJ7_fill_d0a16_4 : decode cJ7_fill_d0a16 4 = .ok (.istore 4, 2) := zk_of (zk_r (zk_r (zk_r zdJ7_fill_d0a16_6)))
/-- java/util/Arrays.fill([JJ)V -/
def rmJ7_fill_d0a16_a42 : Room := { frames := 0, cells := 0, slots := 0, locals := 0 }
def LJ7_fill_d0a16_a42_6  : Nat → Int64 → Int32 → Int32 → SX → Option (Int32 × SX)
  | 0, _, _, _, _ => none
  | n + 1, z1, z3, z4, u => (if z4 ≤ z3 then (some (0, u)) else (gd (inb z3 41) (lt (sB u 42 (vp_updL (u.2.2.2.1 42) z3.toNatClampNeg z1)) fun u2 => ((LJ7_fill_d0a16_a42_6 n) z1 (z3 + 1) z4 u2))))
def fJ7_fill_d0a16_a42 (x1 : Int64) (u : SX) : Option (Int32 × SX) := (LJ7_fill_d0a16_a42_6  5000 x1 0 41 u)
set_option maxHeartbeats 4000000 in
set_option maxRecDepth 100000 in
theorem wLJ7_fill_d0a16_a42_6 {p : Program} {l : Launch} {e : Env} {s : State} {m : MethodId} {args : Array Value} {below : List Frame} {meth : Method} {c : Code} {D : va_G} {cy : Nat → ClassId} {ad st : Nat → Nat} (C : Cx RJ7 cJ7_fill_d0a16 5 none wsJ7_fill_d0a16 p s m args meth c) (hK : Ky D [(cy 0, .int), (cy 1, .long), (cy 2, .boolean), (cy 3, .byte), (cy 4, .object "HissHorn$Text")] st s) (hJ : JX ad st) {r : Int32} {u' : SX}   : ∀ (n : Nat) (z1 : Int64) (z3 : Int32) (z4 : Int32) (u : SX) (H : Heap) (locs : List Loc) (ls : Array Slot), LJ7_fill_d0a16_a42_6  n z1 z3 z4 u = some (r, u') → va_P D vwCl (VX cy ad st u) H → va_S (Ax (AX ad) s.heap.size) s.heap H locs → lv_has ls 5 [(0, .ref (ad 42)), (1, .long z1), (3, .int z3), (4, .int z4)] → W p l e rmJ7_fill_d0a16_a42 s m args below meth c H locs 0 0 (MQ below (Qv D (VX cy ad st) (AX ad) s.heap.size r u') args s 0 0 (Ax (AX ad) s.heap.size)) (F0 m 6 ls []) := by
  intro n
  induction n with
  | zero =>
    intro z1 z3 z4 u H locs ls h
    exact absurd h (by intro q; cases q)
  | succ n ih =>
    intro z1 z3 z4 u H locs ls h hP hS hl
    rw [LJ7_fill_d0a16_a42_6] at h
    refine lv_iload_n C.1 C.2.1 dJ7_fill_d0a16_6 rfl (lv_at hl 2 rfl) ?_
    refine lv_iload C.1 C.2.1 dJ7_fill_d0a16_7 (lv_at hl 3 rfl) ?_
    refine lv_icmp_ge (tgt := 22) C.1 C.2.1 dJ7_fill_d0a16_9 (by decide) (fun c9 => ?_) (fun c9 => ?_)
    · rw [if_pos c9] at h
      cases h
      exact rt_v C hP hS dJ7_fill_d0a16_22
    · rw [if_neg c9] at h
      refine lv_aload_n C.1 C.2.1 dJ7_fill_d0a16_12 rfl (lv_at hl 0 rfl) ?_
      refine lv_iload_n C.1 C.2.1 dJ7_fill_d0a16_13 rfl (lv_at hl 2 rfl) ?_
      refine lv_lload_n C.1 C.2.1 dJ7_fill_d0a16_14 rfl (lv_at hl 1 rfl) ?_
      obtain ⟨hg1, h⟩ := gd_some h
      refine tX_42 C hK hP hJ hS hg1 dJ7_fill_d0a16_15 (fun H locs hP hS => ?_)
      obtain ⟨u2, hu3, h⟩ := lt_some h
      rw [← hu3] at hP
      refine lv_iinc (v := z3 + 1) (lv' := [(3, .int (z3 + 1)), (0, .ref (ad 42)), (1, .long z1), (4, .int z4)]) C.1 C.2.1 dJ7_fill_d0a16_16 hl (k := 2) rfl rfl (by decide) rfl (fun ls hl => ?_)
      replace hl := lv_sub (l' := [(0, .ref (ad 42)), (1, .long z1), (3, .int (z3 + 1)), (4, .int z4)]) hl [1, 2, 0, 3] rfl
      refine lv_goto (tgt := 6) C.1 C.2.1 dJ7_fill_d0a16_19 (by decide) ?_
      exact ih _ _ _ _ _ _ _ h hP hS hl
set_option maxHeartbeats 4000000 in
set_option maxRecDepth 100000 in
theorem wJ7_fill_d0a16_a42 {p : Program} {l : Launch} {e : Env} {s : State} {m : MethodId} {args : Array Value} {below : List Frame} {meth : Method} {c : Code} {D : va_G} {cy : Nat → ClassId} {ad st : Nat → Nat} (C : Cx RJ7 cJ7_fill_d0a16 5 none wsJ7_fill_d0a16 p s m args meth c) (hK : Ky D [(cy 0, .int), (cy 1, .long), (cy 2, .boolean), (cy 3, .byte), (cy 4, .object "HissHorn$Text")] st s) (hJ : JX ad st) (x1 : Int64) {u : SX} {r : Int32} {u' : SX} {H : Heap} {locs : List Loc} {ls : Array Slot} (h : fJ7_fill_d0a16_a42 x1 u = some (r, u')) (hP : va_P D vwCl (VX cy ad st u) H) (hS : va_S (Ax (AX ad) s.heap.size) s.heap H locs) (hl : lv_has ls 5 [(0, .ref (ad 42)), (1, .long x1)]) : W p l e rmJ7_fill_d0a16_a42 s m args below meth c H locs 0 0 (MQ below (Qv D (VX cy ad st) (AX ad) s.heap.size r u') args s 0 0 (Ax (AX ad) s.heap.size)) (F0 m 0 ls []) := by
  unfold fJ7_fill_d0a16_a42 at h
  refine lv_iconst (v := 0) C.1 C.2.1 dJ7_fill_d0a16_0 (by decide) ?_
  refine lv_istore_n (lv' := [(3, .int 0), (0, .ref (ad 42)), (1, .long x1)]) C.1 C.2.1 dJ7_fill_d0a16_1 rfl hl (by decide) rfl (fun ls hl => ?_)
  replace hl := lv_sub (l' := [(0, .ref (ad 42)), (1, .long x1), (3, .int 0)]) hl [1, 2, 0] rfl
  refine lv_aload_n C.1 C.2.1 dJ7_fill_d0a16_2 rfl (lv_at hl 0 rfl) ?_
  refine va_alen (v := 41) C.1 C.2.1 hK.1 hP 42 1 rfl rfl rfl dJ7_fill_d0a16_3 ?_
  refine lv_istore (lv' := [(4, .int 41), (0, .ref (ad 42)), (1, .long x1), (3, .int 0)]) C.1 C.2.1 dJ7_fill_d0a16_4 hl (by decide) rfl (fun ls hl => ?_)
  replace hl := lv_sub (l' := [(0, .ref (ad 42)), (1, .long x1), (3, .int 0), (4, .int 41)]) hl [1, 2, 3, 0] rfl
  exact wLJ7_fill_d0a16_a42_6 C hK hJ  5000 _ _ _ _ _ _ _ h hP hS hl
theorem metJ7_fill_d0a16_a42 (l : Launch) (D : va_G) (cy : Nat → ClassId) (ad st : Nat → Nat) (hJ : JX ad st) (sz : Nat) (x1 : Int64) {u : SX} {r : Int32} {u' : SX} (h : fJ7_fill_d0a16_a42 x1 u = some (r, u')) : Met l yJ7_fill_d0a16 wsJ7_fill_d0a16 rmJ7_fill_d0a16_a42 (va_Pc [.ref (ad 42), .long x1] (Px D [(cy 0, .int), (cy 1, .long), (cy 2, .boolean), (cy 3, .byte), (cy 4, .object "HissHorn$Text")] st (VX cy ad st) sz u)) (Qv D (VX cy ad st) (AX ad) sz r u') 0 0 (Ax (AX ad) sz) := by
  refine Met.ofW (cc := cJ7_fill_d0a16) (maxL := 5) (ret := none) (by decide) rfl ?_
  intro p e s m args below meth c s₁ B hml hv
  obtain ⟨rfl, hsz, hP, hK⟩ := hv
  subst hsz
  have C : Cx RJ7 cJ7_fill_d0a16 5 none wsJ7_fill_d0a16 p s m _ meth c := ⟨B.exec, B.bytes, hml, B.returns, findClass_of_methodNamed B.named, atoms_spec (ws := wsJ7_fill_d0a16) B.pre, B.notSynchronized⟩
  have hl := lv_entry ([.ref (ad 42), .long x1]) (n := 5) (Nat.le_of_ble_eq_true rfl)
  rw [lg_entry_eq]
  exact wJ7_fill_d0a16_a42 C hK hJ x1 h hP va_S.rf hl

theorem zdJ7_fill_53178_5 : (and (and (and (and (zk cJ7_fill_53178 5 (.iload_n 2) 1) (zk cJ7_fill_53178 6 (.iload_n 3) 1)) (and (zk cJ7_fill_53178 7 (.if_icmp .ge 13) 3) (zk cJ7_fill_53178 20 (.return_) 1))) (and (and (zk cJ7_fill_53178 10 (.aload_n 0) 1) (zk cJ7_fill_53178 11 (.iload_n 2) 1)) (and (zk cJ7_fill_53178 12 (.iload_n 1) 1) (zk cJ7_fill_53178 13 (.iastore) 1)))) (and (and (and (zk cJ7_fill_53178 14 (.iinc 2 1) 3) (zk cJ7_fill_53178 17 (.goto (-12)) 3)) (and (zk cJ7_fill_53178 0 (.iconst 0) 1) (zk cJ7_fill_53178 1 (.istore_n 2) 1))) (and (and (zk cJ7_fill_53178 2 (.aload_n 0) 1) (zk cJ7_fill_53178 3 (.arraylength) 1)) (zk cJ7_fill_53178 4 (.istore_n 3) 1)))) = true := by decide +kernel
theorem dJ7_fill_53178_5 : decode cJ7_fill_53178 5 = .ok (.iload_n 2, 1) := zk_of (zk_l (zk_l (zk_l (zk_l zdJ7_fill_53178_5))))
theorem dJ7_fill_53178_6 : decode cJ7_fill_53178 6 = .ok (.iload_n 3, 1) := zk_of (zk_r (zk_l (zk_l (zk_l zdJ7_fill_53178_5))))
theorem dJ7_fill_53178_7 : decode cJ7_fill_53178 7 = .ok (.if_icmp .ge 13, 3) := zk_of (zk_l (zk_r (zk_l (zk_l zdJ7_fill_53178_5))))
theorem dJ7_fill_53178_20 : decode cJ7_fill_53178 20 = .ok (.return_, 1) := zk_of (zk_r (zk_r (zk_l (zk_l zdJ7_fill_53178_5))))
theorem dJ7_fill_53178_10 : decode cJ7_fill_53178 10 = .ok (.aload_n 0, 1) := zk_of (zk_l (zk_l (zk_r (zk_l zdJ7_fill_53178_5))))
theorem dJ7_fill_53178_11 : decode cJ7_fill_53178 11 = .ok (.iload_n 2, 1) := zk_of (zk_r (zk_l (zk_r (zk_l zdJ7_fill_53178_5))))
theorem dJ7_fill_53178_12 : decode cJ7_fill_53178 12 = .ok (.iload_n 1, 1) := zk_of (zk_l (zk_r (zk_r (zk_l zdJ7_fill_53178_5))))
theorem dJ7_fill_53178_13 : decode cJ7_fill_53178 13 = .ok (.iastore, 1) := zk_of (zk_r (zk_r (zk_r (zk_l zdJ7_fill_53178_5))))
theorem dJ7_fill_53178_14 : decode cJ7_fill_53178 14 = .ok (.iinc 2 1, 3) := zk_of (zk_l (zk_l (zk_l (zk_r zdJ7_fill_53178_5))))
theorem dJ7_fill_53178_17 : decode cJ7_fill_53178 17 = .ok (.goto (-12), 3) := zk_of (zk_r (zk_l (zk_l (zk_r zdJ7_fill_53178_5))))
theorem dJ7_fill_53178_0 : decode cJ7_fill_53178 0 = .ok (.iconst 0, 1) := zk_of (zk_l (zk_r (zk_l (zk_r zdJ7_fill_53178_5))))
theorem dJ7_fill_53178_1 : decode cJ7_fill_53178 1 = .ok (.istore_n 2, 1) := zk_of (zk_r (zk_r (zk_l (zk_r zdJ7_fill_53178_5))))
theorem dJ7_fill_53178_2 : decode cJ7_fill_53178 2 = .ok (.aload_n 0, 1) := zk_of (zk_l (zk_l (zk_r (zk_r zdJ7_fill_53178_5))))
theorem dJ7_fill_53178_3 : decode cJ7_fill_53178 3 = .ok (.arraylength, 1) := zk_of (zk_r (zk_l (zk_r (zk_r zdJ7_fill_53178_5))))
theorem dJ7_fill_53178_4 : decode cJ7_fill_53178 4 = .ok (.istore_n 3, 1) := zk_of (zk_r (zk_r (zk_r zdJ7_fill_53178_5)))
/-- java/util/Arrays.fill([II)V -/
def rmJ7_fill_53178_a43 : Room := { frames := 0, cells := 0, slots := 0, locals := 0 }
def LJ7_fill_53178_a43_5  : Nat → Int32 → Int32 → Int32 → SX → Option (Int32 × SX)
  | 0, _, _, _, _ => none
  | n + 1, z1, z2, z3, u => (if z3 ≤ z2 then (some (0, u)) else (gd (inb z2 41) (lt (sA u 43 (upd (u.2.1 43) z2.toNatClampNeg z1)) fun u2 => ((LJ7_fill_53178_a43_5 n) z1 (z2 + 1) z3 u2))))
def fJ7_fill_53178_a43 (x1 : Int32) (u : SX) : Option (Int32 × SX) := (LJ7_fill_53178_a43_5  5000 x1 0 41 u)
set_option maxHeartbeats 4000000 in
set_option maxRecDepth 100000 in
theorem wLJ7_fill_53178_a43_5 {p : Program} {l : Launch} {e : Env} {s : State} {m : MethodId} {args : Array Value} {below : List Frame} {meth : Method} {c : Code} {D : va_G} {cy : Nat → ClassId} {ad st : Nat → Nat} (C : Cx RJ7 cJ7_fill_53178 4 none wsJ7_fill_53178 p s m args meth c) (hK : Ky D [(cy 0, .int), (cy 1, .long), (cy 2, .boolean), (cy 3, .byte), (cy 4, .object "HissHorn$Text")] st s) (hJ : JX ad st) {r : Int32} {u' : SX}   : ∀ (n : Nat) (z1 : Int32) (z2 : Int32) (z3 : Int32) (u : SX) (H : Heap) (locs : List Loc) (ls : Array Slot), LJ7_fill_53178_a43_5  n z1 z2 z3 u = some (r, u') → va_P D vwCl (VX cy ad st u) H → va_S (Ax (AX ad) s.heap.size) s.heap H locs → lv_has ls 4 [(0, .ref (ad 43)), (1, .int z1), (2, .int z2), (3, .int z3)] → W p l e rmJ7_fill_53178_a43 s m args below meth c H locs 0 0 (MQ below (Qv D (VX cy ad st) (AX ad) s.heap.size r u') args s 0 0 (Ax (AX ad) s.heap.size)) (F0 m 5 ls []) := by
  intro n
  induction n with
  | zero =>
    intro z1 z2 z3 u H locs ls h
    exact absurd h (by intro q; cases q)
  | succ n ih =>
    intro z1 z2 z3 u H locs ls h hP hS hl
    rw [LJ7_fill_53178_a43_5] at h
    refine lv_iload_n C.1 C.2.1 dJ7_fill_53178_5 rfl (lv_at hl 2 rfl) ?_
    refine lv_iload_n C.1 C.2.1 dJ7_fill_53178_6 rfl (lv_at hl 3 rfl) ?_
    refine lv_icmp_ge (tgt := 20) C.1 C.2.1 dJ7_fill_53178_7 (by decide) (fun c7 => ?_) (fun c7 => ?_)
    · rw [if_pos c7] at h
      cases h
      exact rt_v C hP hS dJ7_fill_53178_20
    · rw [if_neg c7] at h
      refine lv_aload_n C.1 C.2.1 dJ7_fill_53178_10 rfl (lv_at hl 0 rfl) ?_
      refine lv_iload_n C.1 C.2.1 dJ7_fill_53178_11 rfl (lv_at hl 2 rfl) ?_
      refine lv_iload_n C.1 C.2.1 dJ7_fill_53178_12 rfl (lv_at hl 1 rfl) ?_
      obtain ⟨hg1, h⟩ := gd_some h
      refine tX_43 C hK hP hJ hS hg1 dJ7_fill_53178_13 (fun H locs hP hS => ?_)
      obtain ⟨u2, hu3, h⟩ := lt_some h
      rw [← hu3] at hP
      refine lv_iinc (v := z2 + 1) (lv' := [(2, .int (z2 + 1)), (0, .ref (ad 43)), (1, .int z1), (3, .int z3)]) C.1 C.2.1 dJ7_fill_53178_14 hl (k := 2) rfl rfl (by decide) rfl (fun ls hl => ?_)
      replace hl := lv_sub (l' := [(0, .ref (ad 43)), (1, .int z1), (2, .int (z2 + 1)), (3, .int z3)]) hl [1, 2, 0, 3] rfl
      refine lv_goto (tgt := 5) C.1 C.2.1 dJ7_fill_53178_17 (by decide) ?_
      exact ih _ _ _ _ _ _ _ h hP hS hl
set_option maxHeartbeats 4000000 in
set_option maxRecDepth 100000 in
theorem wJ7_fill_53178_a43 {p : Program} {l : Launch} {e : Env} {s : State} {m : MethodId} {args : Array Value} {below : List Frame} {meth : Method} {c : Code} {D : va_G} {cy : Nat → ClassId} {ad st : Nat → Nat} (C : Cx RJ7 cJ7_fill_53178 4 none wsJ7_fill_53178 p s m args meth c) (hK : Ky D [(cy 0, .int), (cy 1, .long), (cy 2, .boolean), (cy 3, .byte), (cy 4, .object "HissHorn$Text")] st s) (hJ : JX ad st) (x1 : Int32) {u : SX} {r : Int32} {u' : SX} {H : Heap} {locs : List Loc} {ls : Array Slot} (h : fJ7_fill_53178_a43 x1 u = some (r, u')) (hP : va_P D vwCl (VX cy ad st u) H) (hS : va_S (Ax (AX ad) s.heap.size) s.heap H locs) (hl : lv_has ls 4 [(0, .ref (ad 43)), (1, .int x1)]) : W p l e rmJ7_fill_53178_a43 s m args below meth c H locs 0 0 (MQ below (Qv D (VX cy ad st) (AX ad) s.heap.size r u') args s 0 0 (Ax (AX ad) s.heap.size)) (F0 m 0 ls []) := by
  unfold fJ7_fill_53178_a43 at h
  refine lv_iconst (v := 0) C.1 C.2.1 dJ7_fill_53178_0 (by decide) ?_
  refine lv_istore_n (lv' := [(2, .int 0), (0, .ref (ad 43)), (1, .int x1)]) C.1 C.2.1 dJ7_fill_53178_1 rfl hl (by decide) rfl (fun ls hl => ?_)
  replace hl := lv_sub (l' := [(0, .ref (ad 43)), (1, .int x1), (2, .int 0)]) hl [1, 2, 0] rfl
  refine lv_aload_n C.1 C.2.1 dJ7_fill_53178_2 rfl (lv_at hl 0 rfl) ?_
  refine va_alen (v := 41) C.1 C.2.1 hK.1 hP 43 0 rfl rfl rfl dJ7_fill_53178_3 ?_
  refine lv_istore_n (lv' := [(3, .int 41), (0, .ref (ad 43)), (1, .int x1), (2, .int 0)]) C.1 C.2.1 dJ7_fill_53178_4 rfl hl (by decide) rfl (fun ls hl => ?_)
  replace hl := lv_sub (l' := [(0, .ref (ad 43)), (1, .int x1), (2, .int 0), (3, .int 41)]) hl [1, 2, 3, 0] rfl
  exact wLJ7_fill_53178_a43_5 C hK hJ  5000 _ _ _ _ _ _ _ h hP hS hl
theorem metJ7_fill_53178_a43 (l : Launch) (D : va_G) (cy : Nat → ClassId) (ad st : Nat → Nat) (hJ : JX ad st) (sz : Nat) (x1 : Int32) {u : SX} {r : Int32} {u' : SX} (h : fJ7_fill_53178_a43 x1 u = some (r, u')) : Met l yJ7_fill_53178 wsJ7_fill_53178 rmJ7_fill_53178_a43 (va_Pc [.ref (ad 43), .int x1] (Px D [(cy 0, .int), (cy 1, .long), (cy 2, .boolean), (cy 3, .byte), (cy 4, .object "HissHorn$Text")] st (VX cy ad st) sz u)) (Qv D (VX cy ad st) (AX ad) sz r u') 0 0 (Ax (AX ad) sz) := by
  refine Met.ofW (cc := cJ7_fill_53178) (maxL := 4) (ret := none) (by decide) rfl ?_
  intro p e s m args below meth c s₁ B hml hv
  obtain ⟨rfl, hsz, hP, hK⟩ := hv
  subst hsz
  have C : Cx RJ7 cJ7_fill_53178 4 none wsJ7_fill_53178 p s m _ meth c := ⟨B.exec, B.bytes, hml, B.returns, findClass_of_methodNamed B.named, atoms_spec (ws := wsJ7_fill_53178) B.pre, B.notSynchronized⟩
  have hl := lv_entry ([.ref (ad 43), .int x1]) (n := 4) (Nat.le_of_ble_eq_true rfl)
  rw [lg_entry_eq]
  exact wJ7_fill_53178_a43 C hK hJ x1 h hP va_S.rf hl

theorem zdX1_meansBy_60 : (and (and (and (and (and (zk cX1_meansBy 60 (.aload_n 0) 1) (zk cX1_meansBy 61 (.getfield 11) 3)) (and (zk cX1_meansBy 64 (.iload 4) 2) (zk cX1_meansBy 66 (.dup2) 1))) (and (and (zk cX1_meansBy 67 (.laload) 1) (zk cX1_meansBy 68 (.aload_n 0) 1)) (and (zk cX1_meansBy 69 (.getfield 25) 3) (zk cX1_meansBy 72 (.getfield 39) 3)))) (and (and (and (zk cX1_meansBy 75 (.iload_n 3) 1) (zk cX1_meansBy 76 (.iaload) 1)) (and (zk cX1_meansBy 77 (.aload_n 0) 1) (zk cX1_meansBy 78 (.getfield 25) 3))) (and (and (zk cX1_meansBy 81 (.getfield 45) 3) (zk cX1_meansBy 84 (.iload_n 3) 1)) (and (zk cX1_meansBy 85 (.iaload) 1) (zk cX1_meansBy 86 (.iadd) 1))))) (and (and (and (and (zk cX1_meansBy 87 (.iconst 2) 1) (zk cX1_meansBy 88 (.idiv) 1)) (and (zk cX1_meansBy 89 (.i2l) 1) (zk cX1_meansBy 90 (.ladd) 1))) (and (and (zk cX1_meansBy 91 (.lastore) 1) (zk cX1_meansBy 92 (.aload_n 0) 1)) (and (zk cX1_meansBy 93 (.getfield 15) 3) (zk cX1_meansBy 96 (.iload 4) 2)))) (and (and (and (zk cX1_meansBy 98 (.dup2) 1) (zk cX1_meansBy 99 (.iaload) 1)) (and (zk cX1_meansBy 100 (.iconst 1) 1) (zk cX1_meansBy 101 (.iadd) 1))) (and (and (zk cX1_meansBy 102 (.iastore) 1) (zk cX1_meansBy 103 (.iinc 3 1) 3)) (and (zk cX1_meansBy 106 (.goto (-86)) 3) (zk cX1_meansBy 20 (.iload_n 3) 1)))))) = true := by decide +kernel
theorem dX1_meansBy_60 : decode cX1_meansBy 60 = .ok (.aload_n 0, 1) := zk_of (zk_l (zk_l (zk_l (zk_l (zk_l zdX1_meansBy_60)))))
theorem dX1_meansBy_61 : decode cX1_meansBy 61 = .ok (.getfield 11, 3) := zk_of (zk_r (zk_l (zk_l (zk_l (zk_l zdX1_meansBy_60)))))
theorem dX1_meansBy_64 : decode cX1_meansBy 64 = .ok (.iload 4, 2) := zk_of (zk_l (zk_r (zk_l (zk_l (zk_l zdX1_meansBy_60)))))
theorem dX1_meansBy_66 : decode cX1_meansBy 66 = .ok (.dup2, 1) := zk_of (zk_r (zk_r (zk_l (zk_l (zk_l zdX1_meansBy_60)))))
theorem dX1_meansBy_67 : decode cX1_meansBy 67 = .ok (.laload, 1) := zk_of (zk_l (zk_l (zk_r (zk_l (zk_l zdX1_meansBy_60)))))
theorem dX1_meansBy_68 : decode cX1_meansBy 68 = .ok (.aload_n 0, 1) := zk_of (zk_r (zk_l (zk_r (zk_l (zk_l zdX1_meansBy_60)))))
theorem dX1_meansBy_69 : decode cX1_meansBy 69 = .ok (.getfield 25, 3) := zk_of (zk_l (zk_r (zk_r (zk_l (zk_l zdX1_meansBy_60)))))
theorem dX1_meansBy_72 : decode cX1_meansBy 72 = .ok (.getfield 39, 3) := zk_of (zk_r (zk_r (zk_r (zk_l (zk_l zdX1_meansBy_60)))))
theorem dX1_meansBy_75 : decode cX1_meansBy 75 = .ok (.iload_n 3, 1) := zk_of (zk_l (zk_l (zk_l (zk_r (zk_l zdX1_meansBy_60)))))
theorem dX1_meansBy_76 : decode cX1_meansBy 76 = .ok (.iaload, 1) := zk_of (zk_r (zk_l (zk_l (zk_r (zk_l zdX1_meansBy_60)))))
theorem dX1_meansBy_77 : decode cX1_meansBy 77 = .ok (.aload_n 0, 1) := zk_of (zk_l (zk_r (zk_l (zk_r (zk_l zdX1_meansBy_60)))))
theorem dX1_meansBy_78 : decode cX1_meansBy 78 = .ok (.getfield 25, 3) := zk_of (zk_r (zk_r (zk_l (zk_r (zk_l zdX1_meansBy_60)))))
theorem dX1_meansBy_81 : decode cX1_meansBy 81 = .ok (.getfield 45, 3) := zk_of (zk_l (zk_l (zk_r (zk_r (zk_l zdX1_meansBy_60)))))
theorem dX1_meansBy_84 : decode cX1_meansBy 84 = .ok (.iload_n 3, 1) := zk_of (zk_r (zk_l (zk_r (zk_r (zk_l zdX1_meansBy_60)))))
theorem dX1_meansBy_85 : decode cX1_meansBy 85 = .ok (.iaload, 1) := zk_of (zk_l (zk_r (zk_r (zk_r (zk_l zdX1_meansBy_60)))))
theorem dX1_meansBy_86 : decode cX1_meansBy 86 = .ok (.iadd, 1) := zk_of (zk_r (zk_r (zk_r (zk_r (zk_l zdX1_meansBy_60)))))
theorem dX1_meansBy_87 : decode cX1_meansBy 87 = .ok (.iconst 2, 1) := zk_of (zk_l (zk_l (zk_l (zk_l (zk_r zdX1_meansBy_60)))))
theorem dX1_meansBy_88 : decode cX1_meansBy 88 = .ok (.idiv, 1) := zk_of (zk_r (zk_l (zk_l (zk_l (zk_r zdX1_meansBy_60)))))
theorem dX1_meansBy_89 : decode cX1_meansBy 89 = .ok (.i2l, 1) := zk_of (zk_l (zk_r (zk_l (zk_l (zk_r zdX1_meansBy_60)))))
theorem dX1_meansBy_90 : decode cX1_meansBy 90 = .ok (.ladd, 1) := zk_of (zk_r (zk_r (zk_l (zk_l (zk_r zdX1_meansBy_60)))))
theorem dX1_meansBy_91 : decode cX1_meansBy 91 = .ok (.lastore, 1) := zk_of (zk_l (zk_l (zk_r (zk_l (zk_r zdX1_meansBy_60)))))
theorem dX1_meansBy_92 : decode cX1_meansBy 92 = .ok (.aload_n 0, 1) := zk_of (zk_r (zk_l (zk_r (zk_l (zk_r zdX1_meansBy_60)))))
theorem dX1_meansBy_93 : decode cX1_meansBy 93 = .ok (.getfield 15, 3) := zk_of (zk_l (zk_r (zk_r (zk_l (zk_r zdX1_meansBy_60)))))
theorem dX1_meansBy_96 : decode cX1_meansBy 96 = .ok (.iload 4, 2) := zk_of (zk_r (zk_r (zk_r (zk_l (zk_r zdX1_meansBy_60)))))
theorem dX1_meansBy_98 : decode cX1_meansBy 98 = .ok (.dup2, 1) := zk_of (zk_l (zk_l (zk_l (zk_r (zk_r zdX1_meansBy_60)))))
theorem dX1_meansBy_99 : decode cX1_meansBy 99 = .ok (.iaload, 1) := zk_of (zk_r (zk_l (zk_l (zk_r (zk_r zdX1_meansBy_60)))))
theorem dX1_meansBy_100 : decode cX1_meansBy 100 = .ok (.iconst 1, 1) := zk_of (zk_l (zk_r (zk_l (zk_r (zk_r zdX1_meansBy_60)))))
theorem dX1_meansBy_101 : decode cX1_meansBy 101 = .ok (.iadd, 1) := zk_of (zk_r (zk_r (zk_l (zk_r (zk_r zdX1_meansBy_60)))))
theorem dX1_meansBy_102 : decode cX1_meansBy 102 = .ok (.iastore, 1) := zk_of (zk_l (zk_l (zk_r (zk_r (zk_r zdX1_meansBy_60)))))
theorem dX1_meansBy_103 : decode cX1_meansBy 103 = .ok (.iinc 3 1, 3) := zk_of (zk_r (zk_l (zk_r (zk_r (zk_r zdX1_meansBy_60)))))
theorem dX1_meansBy_106 : decode cX1_meansBy 106 = .ok (.goto (-86), 3) := zk_of (zk_l (zk_r (zk_r (zk_r (zk_r zdX1_meansBy_60)))))
theorem dX1_meansBy_20 : decode cX1_meansBy 20 = .ok (.iload_n 3, 1) := zk_of (zk_r (zk_r (zk_r (zk_r (zk_r zdX1_meansBy_60)))))
theorem zdX1_meansBy_21 : (and (and (and (and (and (zk cX1_meansBy 21 (.aload_n 0) 1) (zk cX1_meansBy 22 (.getfield 25) 3)) (and (zk cX1_meansBy 25 (.getfield 33) 3) (zk cX1_meansBy 28 (.if_icmp .ge 81) 3))) (and (and (zk cX1_meansBy 109 (.iload_n 2) 1) (zk cX1_meansBy 110 (.ireturn) 1)) (and (zk cX1_meansBy 31 (.aload_n 0) 1) (zk cX1_meansBy 32 (.getfield 25) 3)))) (and (and (and (zk cX1_meansBy 35 (.getfield 69) 3) (zk cX1_meansBy 38 (.iload_n 3) 1)) (and (zk cX1_meansBy 39 (.bipush 6) 2) (zk cX1_meansBy 41 (.imul) 1))) (and (and (zk cX1_meansBy 42 (.iload_n 1) 1) (zk cX1_meansBy 43 (.iadd) 1)) (and (zk cX1_meansBy 44 (.iaload) 1) (zk cX1_meansBy 45 (.istore 4) 2))))) (and (and (and (and (zk cX1_meansBy 47 (.aload_n 0) 1) (zk cX1_meansBy 48 (.getfield 15) 3)) (and (zk cX1_meansBy 51 (.iload 4) 2) (zk cX1_meansBy 53 (.iaload) 1))) (and (and (zk cX1_meansBy 54 (.ifCond .ne 6) 3) (zk cX1_meansBy 57 (.iinc 2 1) 3)) (and (zk cX1_meansBy 0 (.aload_n 0) 1) (zk cX1_meansBy 1 (.getfield 11) 3)))) (and (and (and (zk cX1_meansBy 4 (.lconst 0) 1) (zk cX1_meansBy 5 (.invokestatic 60) 3)) (and (zk cX1_meansBy 8 (.aload_n 0) 1) (zk cX1_meansBy 9 (.getfield 15) 3))) (and (and (zk cX1_meansBy 12 (.iconst 0) 1) (zk cX1_meansBy 13 (.invokestatic 66) 3)) (and (zk cX1_meansBy 16 (.iconst 0) 1) (zk cX1_meansBy 17 (.istore_n 2) 1)))))) = true := by decide +kernel
theorem dX1_meansBy_21 : decode cX1_meansBy 21 = .ok (.aload_n 0, 1) := zk_of (zk_l (zk_l (zk_l (zk_l (zk_l zdX1_meansBy_21)))))
theorem dX1_meansBy_22 : decode cX1_meansBy 22 = .ok (.getfield 25, 3) := zk_of (zk_r (zk_l (zk_l (zk_l (zk_l zdX1_meansBy_21)))))
theorem dX1_meansBy_25 : decode cX1_meansBy 25 = .ok (.getfield 33, 3) := zk_of (zk_l (zk_r (zk_l (zk_l (zk_l zdX1_meansBy_21)))))
theorem dX1_meansBy_28 : decode cX1_meansBy 28 = .ok (.if_icmp .ge 81, 3) := zk_of (zk_r (zk_r (zk_l (zk_l (zk_l zdX1_meansBy_21)))))
theorem dX1_meansBy_109 : decode cX1_meansBy 109 = .ok (.iload_n 2, 1) := zk_of (zk_l (zk_l (zk_r (zk_l (zk_l zdX1_meansBy_21)))))
theorem dX1_meansBy_110 : decode cX1_meansBy 110 = .ok (.ireturn, 1) := zk_of (zk_r (zk_l (zk_r (zk_l (zk_l zdX1_meansBy_21)))))
theorem dX1_meansBy_31 : decode cX1_meansBy 31 = .ok (.aload_n 0, 1) := zk_of (zk_l (zk_r (zk_r (zk_l (zk_l zdX1_meansBy_21)))))
theorem dX1_meansBy_32 : decode cX1_meansBy 32 = .ok (.getfield 25, 3) := zk_of (zk_r (zk_r (zk_r (zk_l (zk_l zdX1_meansBy_21)))))
theorem dX1_meansBy_35 : decode cX1_meansBy 35 = .ok (.getfield 69, 3) := zk_of (zk_l (zk_l (zk_l (zk_r (zk_l zdX1_meansBy_21)))))
theorem dX1_meansBy_38 : decode cX1_meansBy 38 = .ok (.iload_n 3, 1) := zk_of (zk_r (zk_l (zk_l (zk_r (zk_l zdX1_meansBy_21)))))
theorem dX1_meansBy_39 : decode cX1_meansBy 39 = .ok (.bipush 6, 2) := zk_of (zk_l (zk_r (zk_l (zk_r (zk_l zdX1_meansBy_21)))))
theorem dX1_meansBy_41 : decode cX1_meansBy 41 = .ok (.imul, 1) := zk_of (zk_r (zk_r (zk_l (zk_r (zk_l zdX1_meansBy_21)))))
theorem dX1_meansBy_42 : decode cX1_meansBy 42 = .ok (.iload_n 1, 1) := zk_of (zk_l (zk_l (zk_r (zk_r (zk_l zdX1_meansBy_21)))))
theorem dX1_meansBy_43 : decode cX1_meansBy 43 = .ok (.iadd, 1) := zk_of (zk_r (zk_l (zk_r (zk_r (zk_l zdX1_meansBy_21)))))
theorem dX1_meansBy_44 : decode cX1_meansBy 44 = .ok (.iaload, 1) := zk_of (zk_l (zk_r (zk_r (zk_r (zk_l zdX1_meansBy_21)))))
theorem dX1_meansBy_45 : decode cX1_meansBy 45 = .ok (.istore 4, 2) := zk_of (zk_r (zk_r (zk_r (zk_r (zk_l zdX1_meansBy_21)))))
theorem dX1_meansBy_47 : decode cX1_meansBy 47 = .ok (.aload_n 0, 1) := zk_of (zk_l (zk_l (zk_l (zk_l (zk_r zdX1_meansBy_21)))))
theorem dX1_meansBy_48 : decode cX1_meansBy 48 = .ok (.getfield 15, 3) := zk_of (zk_r (zk_l (zk_l (zk_l (zk_r zdX1_meansBy_21)))))
theorem dX1_meansBy_51 : decode cX1_meansBy 51 = .ok (.iload 4, 2) := zk_of (zk_l (zk_r (zk_l (zk_l (zk_r zdX1_meansBy_21)))))
theorem dX1_meansBy_53 : decode cX1_meansBy 53 = .ok (.iaload, 1) := zk_of (zk_r (zk_r (zk_l (zk_l (zk_r zdX1_meansBy_21)))))
theorem dX1_meansBy_54 : decode cX1_meansBy 54 = .ok (.ifCond .ne 6, 3) := zk_of (zk_l (zk_l (zk_r (zk_l (zk_r zdX1_meansBy_21)))))
theorem dX1_meansBy_57 : decode cX1_meansBy 57 = .ok (.iinc 2 1, 3) := zk_of (zk_r (zk_l (zk_r (zk_l (zk_r zdX1_meansBy_21)))))
theorem dX1_meansBy_0 : decode cX1_meansBy 0 = .ok (.aload_n 0, 1) := zk_of (zk_l (zk_r (zk_r (zk_l (zk_r zdX1_meansBy_21)))))
theorem dX1_meansBy_1 : decode cX1_meansBy 1 = .ok (.getfield 11, 3) := zk_of (zk_r (zk_r (zk_r (zk_l (zk_r zdX1_meansBy_21)))))
theorem dX1_meansBy_4 : decode cX1_meansBy 4 = .ok (.lconst 0, 1) := zk_of (zk_l (zk_l (zk_l (zk_r (zk_r zdX1_meansBy_21)))))
theorem dX1_meansBy_5 : decode cX1_meansBy 5 = .ok (.invokestatic 60, 3) := zk_of (zk_r (zk_l (zk_l (zk_r (zk_r zdX1_meansBy_21)))))
theorem dX1_meansBy_8 : decode cX1_meansBy 8 = .ok (.aload_n 0, 1) := zk_of (zk_l (zk_r (zk_l (zk_r (zk_r zdX1_meansBy_21)))))
theorem dX1_meansBy_9 : decode cX1_meansBy 9 = .ok (.getfield 15, 3) := zk_of (zk_r (zk_r (zk_l (zk_r (zk_r zdX1_meansBy_21)))))
theorem dX1_meansBy_12 : decode cX1_meansBy 12 = .ok (.iconst 0, 1) := zk_of (zk_l (zk_l (zk_r (zk_r (zk_r zdX1_meansBy_21)))))
theorem dX1_meansBy_13 : decode cX1_meansBy 13 = .ok (.invokestatic 66, 3) := zk_of (zk_r (zk_l (zk_r (zk_r (zk_r zdX1_meansBy_21)))))
theorem dX1_meansBy_16 : decode cX1_meansBy 16 = .ok (.iconst 0, 1) := zk_of (zk_l (zk_r (zk_r (zk_r (zk_r zdX1_meansBy_21)))))
theorem dX1_meansBy_17 : decode cX1_meansBy 17 = .ok (.istore_n 2, 1) := zk_of (zk_r (zk_r (zk_r (zk_r (zk_r zdX1_meansBy_21)))))
set_option maxRecDepth 20000 in
theorem ggX1_meansBy_J7_fill_d0a16 : GoodIn wsX1_meansBy wsJ7_fill_d0a16 := ggi (fun w h => List.mem_cons_of_mem _ (List.mem_append_left _ (List.mem_append_left _ (List.mem_append_right _ (List.mem_append_left _ h))))) gs_J7_fill_d0a16
set_option maxRecDepth 20000 in
theorem gX1_meansBy_J7_fill_d0a16 : GoodIn wsX1_meansBy (va_wsS RX1 60 yJ7_fill_d0a16 wsJ7_fill_d0a16) := goodIn_app (goodIn_of _ (by decide +kernel)) ggX1_meansBy_J7_fill_d0a16
set_option maxRecDepth 20000 in
theorem ggX1_meansBy_J7_fill_53178 : GoodIn wsX1_meansBy wsJ7_fill_53178 := ggi (fun w h => List.mem_cons_of_mem _ (List.mem_append_left _ (List.mem_append_left _ (List.mem_append_right _ (List.mem_append_right _ h))))) gs_J7_fill_53178
set_option maxRecDepth 20000 in
theorem gX1_meansBy_J7_fill_53178 : GoodIn wsX1_meansBy (va_wsS RX1 66 yJ7_fill_53178 wsJ7_fill_53178) := goodIn_app (goodIn_of _ (by decide +kernel)) ggX1_meansBy_J7_fill_53178
theorem zdX1_meansBy_18 : (and (zk cX1_meansBy 18 (.iconst 0) 1) (zk cX1_meansBy 19 (.istore_n 3) 1)) = true := by decide +kernel
theorem dX1_meansBy_18 : decode cX1_meansBy 18 = .ok (.iconst 0, 1) := zk_of (zk_l zdX1_meansBy_18)
theorem dX1_meansBy_19 : decode cX1_meansBy 19 = .ok (.istore_n 3, 1) := zk_of (zk_r zdX1_meansBy_18)
/-- HissHorn$Findings.meansBy(I)I of cell 8 -/
def rmX1_meansBy_8 : Room := { frames := 1, cells := 0, slots := 0, locals := 24 }
theorem hX1_meansBy_8_X1 : ∀ w ∈ u_ws RX1 TX1 13, w ∈ wsX1_meansBy := fun w h => (List.mem_cons_of_mem _ (List.mem_append_left _ (List.mem_append_right _ h)))
theorem mX1_meansBy_8_1 : Cond.fieldLink RX1 11 "HissHorn$Findings" "middles" "[J" ∈ wsX1_meansBy := (List.mem_cons_of_mem _ (List.mem_append_left _ (List.mem_append_left _ (List.mem_append_left _ (List.mem_of_getElem? (i := 5) rfl)))))
theorem mX1_meansBy_8_2 : Cond.fieldLink RX1 15 "HissHorn$Findings" "many" "[I" ∈ wsX1_meansBy := (List.mem_cons_of_mem _ (List.mem_append_left _ (List.mem_append_left _ (List.mem_append_left _ (List.mem_of_getElem? (i := 6) rfl)))))
theorem mX1_meansBy_8_3 : Cond.fieldLink RX1 25 "HissHorn$Findings" "readings" "LHissHorn$Readings;" ∈ wsX1_meansBy := (List.mem_cons_of_mem _ (List.mem_append_left _ (List.mem_append_left _ (List.mem_append_left _ (List.mem_of_getElem? (i := 7) rfl)))))
theorem hX1_meansBy_8_X7 : ∀ w ∈ u_ws RX7 TX7 12, w ∈ wsX1_meansBy := fun w h => (List.mem_cons_of_mem _ (List.mem_append_right _ h))
theorem mX1_meansBy_8_5 : Cond.fieldLink RX1 33 "HissHorn$Readings" "known" "I" ∈ wsX1_meansBy := (List.mem_cons_of_mem _ (List.mem_append_left _ (List.mem_append_left _ (List.mem_append_left _ (List.mem_of_getElem? (i := 8) rfl)))))
theorem mX1_meansBy_8_6 : Cond.fieldLink RX1 69 "HissHorn$Readings" "aims" "[I" ∈ wsX1_meansBy := (List.mem_cons_of_mem _ (List.mem_append_left _ (List.mem_append_left _ (List.mem_append_left _ (List.mem_of_getElem? (i := 9) rfl)))))
theorem mX1_meansBy_8_7 : Cond.fieldLink RX1 39 "HissHorn$Readings" "lower" "[I" ∈ wsX1_meansBy := (List.mem_cons_of_mem _ (List.mem_append_left _ (List.mem_append_left _ (List.mem_append_left _ (List.mem_of_getElem? (i := 10) rfl)))))
theorem mX1_meansBy_8_8 : Cond.fieldLink RX1 45 "HissHorn$Readings" "upper" "[I" ∈ wsX1_meansBy := (List.mem_cons_of_mem _ (List.mem_append_left _ (List.mem_append_left _ (List.mem_append_left _ (List.mem_of_getElem? (i := 11) rfl)))))
def GX1_meansBy_8_60 (k20 : Int32 → Int32 → Int32 → SX → Option (Int32 × SX)) (z1 : Int32) (z2 : Int32) (z3 : Int32) (z4 : Int32) (u : SX) : Option (Int32 × SX) := (gd (inb z4 41) (gd (inb z3 80) (gd (inb z3 80) (gd (nz 2) (gd (inb z4 41) (lt (sB u 42 (vp_updL (u.2.2.2.1 42) z4.toNatClampNeg ((u.2.2.2.1 42 z4.toNatClampNeg) + ((((u.2.1 38 z3.toNatClampNeg) + (u.2.1 39 z3.toNatClampNeg)) / 2).toInt64)))) fun u16 => (gd (inb z4 41) (gd (inb z4 41) (lt (sA u16 43 (upd (u16.2.1 43) z4.toNatClampNeg ((u16.2.1 43 z4.toNatClampNeg) + 1))) fun u20 => (k20 z1 z2 (z3 + 1) u20))))))))))
def LX1_meansBy_8_20  : Nat → Int32 → Int32 → Int32 → SX → Option (Int32 × SX)
  | 0, _, _, _, _ => none
  | n + 1, z1, z2, z3, u => (if (u.1 14) ≤ z3 then (some (z2, u)) else (gd (inb ((z3 * 6) + z1) 480) (lt (u.2.1 36 ((z3 * 6) + z1).toNatClampNeg) fun v8 => (gd (inb v8 41) (if (u.2.1 43 v8.toNatClampNeg) = 0 then (GX1_meansBy_8_60 (LX1_meansBy_8_20 n) z1 (z2 + 1) z3 v8 u) else (GX1_meansBy_8_60 (LX1_meansBy_8_20 n) z1 z2 z3 v8 u))))))
def fX1_meansBy_8 (x1 : Int32) (u : SX) : Option (Int32 × SX) := ((fJ7_fill_d0a16_a42 0 u).bind fun q => match q with | (r1, u2) => ((fJ7_fill_53178_a43 0 u2).bind fun q => match q with | (r4, u5) => (LX1_meansBy_8_20  5000 x1 0 0 u5)))
set_option maxHeartbeats 4000000 in
set_option maxRecDepth 100000 in
theorem wGX1_meansBy_8_60 {p : Program} {l : Launch} {e : Env} {s : State} {m : MethodId} {args : Array Value} {below : List Frame} {meth : Method} {c : Code} {D : va_G} {cy : Nat → ClassId} {ad st : Nat → Nat} (C : Cx RX1 cX1_meansBy 5 (some .int) wsX1_meansBy p s m args meth c) (hK : Ky D [(cy 0, .int), (cy 1, .long), (cy 2, .boolean), (cy 3, .byte), (cy 4, .object "HissHorn$Text")] st s) (hJ : JX ad st) {r : Int32} {u' : SX} {k20 : Int32 → Int32 → Int32 → SX → Option (Int32 × SX)} (hk20 : ∀ (z1 : Int32) (z2 : Int32) (z3 : Int32) (u : SX) (H : Heap) (locs : List Loc) (ls : Array Slot), k20 z1 z2 z3 u = some (r, u') → va_P D vwCl (VX cy ad st u) H → va_S (Ax (AX ad) s.heap.size) s.heap H locs → lv_has ls 5 [(0, .ref (ad 8)), (1, .int z1), (2, .int z2), (3, .int z3)] → W p l e rmX1_meansBy_8 s m args below meth c H locs 0 0 (MQ below (Qi D (VX cy ad st) (AX ad) s.heap.size r u') args s 0 0 (Ax (AX ad) s.heap.size)) (F0 m 20 ls [])) (z1 : Int32) (z2 : Int32) (z3 : Int32) (z4 : Int32) (u : SX) (H : Heap) (locs : List Loc) (ls : Array Slot) (h : GX1_meansBy_8_60 k20 z1 z2 z3 z4 u = some (r, u')) (hP : va_P D vwCl (VX cy ad st u) H) (hS : va_S (Ax (AX ad) s.heap.size) s.heap H locs) (hl : lv_has ls 5 [(0, .ref (ad 8)), (1, .int z1), (2, .int z2), (3, .int z3), (4, .int z4)]) : W p l e rmX1_meansBy_8 s m args below meth c H locs 0 0 (MQ below (Qi D (VX cy ad st) (AX ad) s.heap.size r u') args s 0 0 (Ax (AX ad) s.heap.size)) (F0 m 60 ls []) := by
  unfold GX1_meansBy_8_60 at h
  refine lv_aload_n C.1 C.2.1 dX1_meansBy_60 rfl (lv_at hl 0 rfl) ?_
  refine gX_8_middles C hX1_meansBy_8_X1 hK hP mX1_meansBy_8_1 dX1_meansBy_61 ?_
  refine lv_iload C.1 C.2.1 dX1_meansBy_64 (lv_at hl 4 rfl) ?_
  refine lv_dup2_11 C.1 C.2.1 dX1_meansBy_66 rfl rfl ?_
  obtain ⟨hg11, h⟩ := gd_some h
  refine lX_42 C hK hP hg11 dX1_meansBy_67 ?_
  refine lv_aload_n C.1 C.2.1 dX1_meansBy_68 rfl (lv_at hl 0 rfl) ?_
  refine gX_8_readings C hX1_meansBy_8_X1 hK hP mX1_meansBy_8_3 dX1_meansBy_69 ?_
  refine gX_7_lower C hX1_meansBy_8_X7 hK hP mX1_meansBy_8_7 dX1_meansBy_72 ?_
  refine lv_iload_n C.1 C.2.1 dX1_meansBy_75 rfl (lv_at hl 3 rfl) ?_
  obtain ⟨hg12, h⟩ := gd_some h
  refine lX_38 C hK hP hg12 dX1_meansBy_76 ?_
  refine lv_aload_n C.1 C.2.1 dX1_meansBy_77 rfl (lv_at hl 0 rfl) ?_
  refine gX_8_readings C hX1_meansBy_8_X1 hK hP mX1_meansBy_8_3 dX1_meansBy_78 ?_
  refine gX_7_upper C hX1_meansBy_8_X7 hK hP mX1_meansBy_8_8 dX1_meansBy_81 ?_
  refine lv_iload_n C.1 C.2.1 dX1_meansBy_84 rfl (lv_at hl 3 rfl) ?_
  obtain ⟨hg13, h⟩ := gd_some h
  refine lX_39 C hK hP hg13 dX1_meansBy_85 ?_
  refine lv_iadd C.1 C.2.1 dX1_meansBy_86 ?_
  refine lv_iconst (v := 2) C.1 C.2.1 dX1_meansBy_87 (by decide) ?_
  obtain ⟨hg14, h⟩ := gd_some h
  refine lv_idiv C.1 C.2.1 dX1_meansBy_88 (nz_n hg14) ?_
  refine lv_i2l (v := (((u.2.1 38 z3.toNatClampNeg) + (u.2.1 39 z3.toNatClampNeg)) / 2).toInt64) C.1 C.2.1 dX1_meansBy_89 rfl ?_
  refine lv_ladd C.1 C.2.1 dX1_meansBy_90 ?_
  obtain ⟨hg15, h⟩ := gd_some h
  refine tX_42 C hK hP hJ hS hg15 dX1_meansBy_91 (fun H locs hP hS => ?_)
  obtain ⟨u16, hu17, h⟩ := lt_some h
  rw [← hu17] at hP
  refine lv_aload_n C.1 C.2.1 dX1_meansBy_92 rfl (lv_at hl 0 rfl) ?_
  refine gX_8_many C hX1_meansBy_8_X1 hK hP mX1_meansBy_8_2 dX1_meansBy_93 ?_
  refine lv_iload C.1 C.2.1 dX1_meansBy_96 (lv_at hl 4 rfl) ?_
  refine lv_dup2_11 C.1 C.2.1 dX1_meansBy_98 rfl rfl ?_
  obtain ⟨hg18, h⟩ := gd_some h
  refine lX_43 C hK hP hg18 dX1_meansBy_99 ?_
  refine lv_iconst (v := 1) C.1 C.2.1 dX1_meansBy_100 (by decide) ?_
  refine lv_iadd C.1 C.2.1 dX1_meansBy_101 ?_
  obtain ⟨hg19, h⟩ := gd_some h
  refine tX_43 C hK hP hJ hS hg19 dX1_meansBy_102 (fun H locs hP hS => ?_)
  obtain ⟨u20, hu21, h⟩ := lt_some h
  rw [← hu21] at hP
  refine lv_iinc (v := z3 + 1) (lv' := [(3, .int (z3 + 1)), (0, .ref (ad 8)), (1, .int z1), (2, .int z2), (4, .int z4)]) C.1 C.2.1 dX1_meansBy_103 hl (k := 3) rfl rfl (by decide) rfl (fun ls hl => ?_)
  replace hl := lv_sub (l' := [(0, .ref (ad 8)), (1, .int z1), (2, .int z2), (3, .int (z3 + 1)), (4, .int z4)]) hl [1, 2, 3, 0, 4] rfl
  refine lv_goto (tgt := 20) C.1 C.2.1 dX1_meansBy_106 (by decide) ?_
  exact hk20 _ _ _ _ _ _ _ h hP hS (lv_sub hl [0, 1, 2, 3] rfl)
set_option maxHeartbeats 4000000 in
set_option maxRecDepth 100000 in
theorem wLX1_meansBy_8_20 {p : Program} {l : Launch} {e : Env} {s : State} {m : MethodId} {args : Array Value} {below : List Frame} {meth : Method} {c : Code} {D : va_G} {cy : Nat → ClassId} {ad st : Nat → Nat} (C : Cx RX1 cX1_meansBy 5 (some .int) wsX1_meansBy p s m args meth c) (hK : Ky D [(cy 0, .int), (cy 1, .long), (cy 2, .boolean), (cy 3, .byte), (cy 4, .object "HissHorn$Text")] st s) (hJ : JX ad st) {r : Int32} {u' : SX}   : ∀ (n : Nat) (z1 : Int32) (z2 : Int32) (z3 : Int32) (u : SX) (H : Heap) (locs : List Loc) (ls : Array Slot), LX1_meansBy_8_20  n z1 z2 z3 u = some (r, u') → va_P D vwCl (VX cy ad st u) H → va_S (Ax (AX ad) s.heap.size) s.heap H locs → lv_has ls 5 [(0, .ref (ad 8)), (1, .int z1), (2, .int z2), (3, .int z3)] → W p l e rmX1_meansBy_8 s m args below meth c H locs 0 0 (MQ below (Qi D (VX cy ad st) (AX ad) s.heap.size r u') args s 0 0 (Ax (AX ad) s.heap.size)) (F0 m 20 ls []) := by
  intro n
  induction n with
  | zero =>
    intro z1 z2 z3 u H locs ls h
    exact absurd h (by intro q; cases q)
  | succ n ih =>
    intro z1 z2 z3 u H locs ls h hP hS hl
    rw [LX1_meansBy_8_20] at h
    refine lv_iload_n C.1 C.2.1 dX1_meansBy_20 rfl (lv_at hl 3 rfl) ?_
    refine lv_aload_n C.1 C.2.1 dX1_meansBy_21 rfl (lv_at hl 0 rfl) ?_
    refine gX_8_readings C hX1_meansBy_8_X1 hK hP mX1_meansBy_8_3 dX1_meansBy_22 ?_
    refine gX_7_known C hX1_meansBy_8_X7 hK hP mX1_meansBy_8_5 dX1_meansBy_25 ?_
    refine lv_icmp_ge (tgt := 109) C.1 C.2.1 dX1_meansBy_28 (by decide) (fun c28 => ?_) (fun c28 => ?_)
    · rw [if_pos c28] at h
      refine lv_iload_n C.1 C.2.1 dX1_meansBy_109 rfl (lv_at hl 2 rfl) ?_
      cases h
      exact rt_i C hP hS dX1_meansBy_110
    · rw [if_neg c28] at h
      refine lv_aload_n C.1 C.2.1 dX1_meansBy_31 rfl (lv_at hl 0 rfl) ?_
      refine gX_8_readings C hX1_meansBy_8_X1 hK hP mX1_meansBy_8_3 dX1_meansBy_32 ?_
      refine gX_7_aims C hX1_meansBy_8_X7 hK hP mX1_meansBy_8_6 dX1_meansBy_35 ?_
      refine lv_iload_n C.1 C.2.1 dX1_meansBy_38 rfl (lv_at hl 3 rfl) ?_
      refine lv_bipush (v := 6) C.1 C.2.1 dX1_meansBy_39 (by decide) ?_
      refine lv_imul C.1 C.2.1 dX1_meansBy_41 ?_
      refine lv_iload_n C.1 C.2.1 dX1_meansBy_42 rfl (lv_at hl 1 rfl) ?_
      refine lv_iadd C.1 C.2.1 dX1_meansBy_43 ?_
      obtain ⟨hg7, h⟩ := gd_some h
      refine lX_36 C hK hP hg7 dX1_meansBy_44 ?_
      refine lv_topi (fun v8 hv9 => ?_)
      replace h := lt_e hv9 h
      try dsimp only at h
      refine lv_istore (lv' := [(4, .int v8), (0, .ref (ad 8)), (1, .int z1), (2, .int z2), (3, .int z3)]) C.1 C.2.1 dX1_meansBy_45 hl (by decide) rfl (fun ls hl => ?_)
      replace hl := lv_sub (l' := [(0, .ref (ad 8)), (1, .int z1), (2, .int z2), (3, .int z3), (4, .int v8)]) hl [1, 2, 3, 4, 0] rfl
      refine lv_aload_n C.1 C.2.1 dX1_meansBy_47 rfl (lv_at hl 0 rfl) ?_
      refine gX_8_many C hX1_meansBy_8_X1 hK hP mX1_meansBy_8_2 dX1_meansBy_48 ?_
      refine lv_iload C.1 C.2.1 dX1_meansBy_51 (lv_at hl 4 rfl) ?_
      obtain ⟨hg10, h⟩ := gd_some h
      refine lX_43 C hK hP hg10 dX1_meansBy_53 ?_
      refine lv_if_ne (tgt := 60) C.1 C.2.1 dX1_meansBy_54 (by decide) (fun c54 => ?_) (fun c54 => ?_)
      · rw [if_neg c54] at h
        exact wGX1_meansBy_8_60 C hK hJ ih _ _ _ _ _ _ _ _ h hP hS hl
      · rw [if_pos c54] at h
        refine lv_iinc (v := z2 + 1) (lv' := [(2, .int (z2 + 1)), (0, .ref (ad 8)), (1, .int z1), (3, .int z3), (4, .int v8)]) C.1 C.2.1 dX1_meansBy_57 hl (k := 2) rfl rfl (by decide) rfl (fun ls hl => ?_)
        replace hl := lv_sub (l' := [(0, .ref (ad 8)), (1, .int z1), (2, .int (z2 + 1)), (3, .int z3), (4, .int v8)]) hl [1, 2, 0, 3, 4] rfl
        exact wGX1_meansBy_8_60 C hK hJ ih _ _ _ _ _ _ _ _ h hP hS hl
set_option maxHeartbeats 4000000 in
set_option maxRecDepth 100000 in
theorem wX1_meansBy_8 {p : Program} {l : Launch} {e : Env} {s : State} {m : MethodId} {args : Array Value} {below : List Frame} {meth : Method} {c : Code} {D : va_G} {cy : Nat → ClassId} {ad st : Nat → Nat} (C : Cx RX1 cX1_meansBy 5 (some .int) wsX1_meansBy p s m args meth c) (hK : Ky D [(cy 0, .int), (cy 1, .long), (cy 2, .boolean), (cy 3, .byte), (cy 4, .object "HissHorn$Text")] st s) (hJ : JX ad st) (x1 : Int32) {u : SX} {r : Int32} {u' : SX} {H : Heap} {locs : List Loc} {ls : Array Slot} (h : fX1_meansBy_8 x1 u = some (r, u')) (hP : va_P D vwCl (VX cy ad st u) H) (hS : va_S (Ax (AX ad) s.heap.size) s.heap H locs) (hl : lv_has ls 5 [(0, .ref (ad 8)), (1, .int x1)]) : W p l e rmX1_meansBy_8 s m args below meth c H locs 0 0 (MQ below (Qi D (VX cy ad st) (AX ad) s.heap.size r u') args s 0 0 (Ax (AX ad) s.heap.size)) (F0 m 0 ls []) := by
  unfold fX1_meansBy_8 at h
  refine lv_aload_n C.1 C.2.1 dX1_meansBy_0 rfl (lv_at hl 0 rfl) ?_
  refine gX_8_middles C hX1_meansBy_8_X1 hK hP mX1_meansBy_8_1 dX1_meansBy_1 ?_
  refine lv_lconst (v := 0) C.1 C.2.1 dX1_meansBy_4 (by decide) ?_
  obtain ⟨⟨r1, u2⟩, hc3, h⟩ := bd_some h
  try dsimp only at h
  refine ct_v (As := [.ref (ad 42), .long 0]) (rest := []) (AX_ge hJ) C hK hP hS (metJ7_fill_d0a16_a42 l D cy ad st hJ _ 0 hc3) (va_cwS 2 C.2.2.2.2.2.1 gX1_meansBy_J7_fill_d0a16 rfl rfl rfl (by decide +kernel) ⟨(Nat.le_of_ble_eq_true rfl), (Nat.le_of_ble_eq_true rfl)⟩) rfl hl.1 rfl (Nat.le_of_ble_eq_true rfl) dX1_meansBy_5 ⟨Nat.zero_le _, Nat.zero_le _⟩ (fun H locs hP hS => ?_)
  refine lv_aload_n C.1 C.2.1 dX1_meansBy_8 rfl (lv_at hl 0 rfl) ?_
  refine gX_8_many C hX1_meansBy_8_X1 hK hP mX1_meansBy_8_2 dX1_meansBy_9 ?_
  refine lv_iconst (v := 0) C.1 C.2.1 dX1_meansBy_12 (by decide) ?_
  obtain ⟨⟨r4, u5⟩, hc6, h⟩ := bd_some h
  try dsimp only at h
  refine ct_v (As := [.ref (ad 43), .int 0]) (rest := []) (AX_ge hJ) C hK hP hS (metJ7_fill_53178_a43 l D cy ad st hJ _ 0 hc6) (va_cwS 2 C.2.2.2.2.2.1 gX1_meansBy_J7_fill_53178 rfl rfl rfl (by decide +kernel) ⟨(Nat.le_of_ble_eq_true rfl), (Nat.le_of_ble_eq_true rfl)⟩) rfl hl.1 rfl (Nat.le_of_ble_eq_true rfl) dX1_meansBy_13 ⟨Nat.zero_le _, Nat.zero_le _⟩ (fun H locs hP hS => ?_)
  refine lv_iconst (v := 0) C.1 C.2.1 dX1_meansBy_16 (by decide) ?_
  refine lv_istore_n (lv' := [(2, .int 0), (0, .ref (ad 8)), (1, .int x1)]) C.1 C.2.1 dX1_meansBy_17 rfl hl (by decide) rfl (fun ls hl => ?_)
  replace hl := lv_sub (l' := [(0, .ref (ad 8)), (1, .int x1), (2, .int 0)]) hl [1, 2, 0] rfl
  refine lv_iconst (v := 0) C.1 C.2.1 dX1_meansBy_18 (by decide) ?_
  refine lv_istore_n (lv' := [(3, .int 0), (0, .ref (ad 8)), (1, .int x1), (2, .int 0)]) C.1 C.2.1 dX1_meansBy_19 rfl hl (by decide) rfl (fun ls hl => ?_)
  replace hl := lv_sub (l' := [(0, .ref (ad 8)), (1, .int x1), (2, .int 0), (3, .int 0)]) hl [1, 2, 3, 0] rfl
  exact wLX1_meansBy_8_20 C hK hJ  5000 _ _ _ _ _ _ _ h hP hS hl
theorem metX1_meansBy_8 (l : Launch) (D : va_G) (cy : Nat → ClassId) (ad st : Nat → Nat) (hJ : JX ad st) (sz : Nat) (x1 : Int32) {u : SX} {r : Int32} {u' : SX} (h : fX1_meansBy_8 x1 u = some (r, u')) : Met l yX1_meansBy wsX1_meansBy rmX1_meansBy_8 (va_Pc [.ref (ad 8), .int x1] (Px D [(cy 0, .int), (cy 1, .long), (cy 2, .boolean), (cy 3, .byte), (cy 4, .object "HissHorn$Text")] st (VX cy ad st) sz u)) (Qi D (VX cy ad st) (AX ad) sz r u') 0 0 (Ax (AX ad) sz) := by
  refine Met.ofW (cc := cX1_meansBy) (maxL := 5) (ret := (some .int)) (by decide) rfl ?_
  intro p e s m args below meth c s₁ B hml hv
  obtain ⟨rfl, hsz, hP, hK⟩ := hv
  subst hsz
  have C : Cx RX1 cX1_meansBy 5 (some .int) wsX1_meansBy p s m _ meth c := ⟨B.exec, B.bytes, hml, B.returns, findClass_of_methodNamed B.named, atoms_spec (ws := wsX1_meansBy) B.pre, B.notSynchronized⟩
  have hl := lv_entry ([.ref (ad 8), .int x1]) (n := 5) (Nat.le_of_ble_eq_true rfl)
  rw [lg_entry_eq]
  exact wX1_meansBy_8 C hK hJ x1 h hP va_S.rf hl

theorem zdX1_distance_82 : (and (and (and (and (and (zk cX1_distance 82 (.iinc 6 1) 3) (zk cX1_distance 85 (.goto (-75)) 3)) (and (zk cX1_distance 78 (.lstore_n 3) 1) (zk cX1_distance 79 (.iconst 1) 1))) (and (and (zk cX1_distance 80 (.istore 5) 2) (zk cX1_distance 61 (.lstore_n 1) 1)) (and (zk cX1_distance 62 (.iload 5) 2) (zk cX1_distance 64 (.ifCond .eq 12) 3)))) (and (and (and (zk cX1_distance 76 (.lload 7) 2) (zk cX1_distance 67 (.lload_n 3) 1)) (and (zk cX1_distance 68 (.lload 7) 2) (zk cX1_distance 70 (.invokestatic 75) 3))) (and (and (zk cX1_distance 73 (.goto 5) 3) (zk cX1_distance 10 (.iload 6) 2)) (and (zk cX1_distance 12 (.bipush 41) 2) (zk cX1_distance 14 (.if_icmp .ge 74) 3))))) (and (and (and (and (zk cX1_distance 88 (.lload_n 3) 1) (zk cX1_distance 89 (.lload_n 1) 1)) (and (zk cX1_distance 90 (.lsub) 1) (zk cX1_distance 91 (.l2i) 1))) (and (and (zk cX1_distance 92 (.ireturn) 1) (zk cX1_distance 17 (.aload_n 0) 1)) (and (zk cX1_distance 18 (.getfield 15) 3) (zk cX1_distance 21 (.iload 6) 2)))) (and (and (and (zk cX1_distance 23 (.iaload) 1) (zk cX1_distance 24 (.ifCond .le 58) 3)) (and (zk cX1_distance 27 (.aload_n 0) 1) (zk cX1_distance 28 (.getfield 11) 3))) (and (and (zk cX1_distance 31 (.iload 6) 2) (zk cX1_distance 33 (.laload) 1)) (and (zk cX1_distance 34 (.aload_n 0) 1) (zk cX1_distance 35 (.getfield 15) 3)))))) = true := by decide +kernel
theorem dX1_distance_82 : decode cX1_distance 82 = .ok (.iinc 6 1, 3) := zk_of (zk_l (zk_l (zk_l (zk_l (zk_l zdX1_distance_82)))))
theorem dX1_distance_85 : decode cX1_distance 85 = .ok (.goto (-75), 3) := zk_of (zk_r (zk_l (zk_l (zk_l (zk_l zdX1_distance_82)))))
theorem dX1_distance_78 : decode cX1_distance 78 = .ok (.lstore_n 3, 1) := zk_of (zk_l (zk_r (zk_l (zk_l (zk_l zdX1_distance_82)))))
theorem dX1_distance_79 : decode cX1_distance 79 = .ok (.iconst 1, 1) := zk_of (zk_r (zk_r (zk_l (zk_l (zk_l zdX1_distance_82)))))
theorem dX1_distance_80 : decode cX1_distance 80 = .ok (.istore 5, 2) := zk_of (zk_l (zk_l (zk_r (zk_l (zk_l zdX1_distance_82)))))
theorem dX1_distance_61 : decode cX1_distance 61 = .ok (.lstore_n 1, 1) := zk_of (zk_r (zk_l (zk_r (zk_l (zk_l zdX1_distance_82)))))
theorem dX1_distance_62 : decode cX1_distance 62 = .ok (.iload 5, 2) := zk_of (zk_l (zk_r (zk_r (zk_l (zk_l zdX1_distance_82)))))
theorem dX1_distance_64 : decode cX1_distance 64 = .ok (.ifCond .eq 12, 3) := zk_of (zk_r (zk_r (zk_r (zk_l (zk_l zdX1_distance_82)))))
theorem dX1_distance_76 : decode cX1_distance 76 = .ok (.lload 7, 2) := zk_of (zk_l (zk_l (zk_l (zk_r (zk_l zdX1_distance_82)))))
theorem dX1_distance_67 : decode cX1_distance 67 = .ok (.lload_n 3, 1) := zk_of (zk_r (zk_l (zk_l (zk_r (zk_l zdX1_distance_82)))))
theorem dX1_distance_68 : decode cX1_distance 68 = .ok (.lload 7, 2) := zk_of (zk_l (zk_r (zk_l (zk_r (zk_l zdX1_distance_82)))))
theorem dX1_distance_70 : decode cX1_distance 70 = .ok (.invokestatic 75, 3) := zk_of (zk_r (zk_r (zk_l (zk_r (zk_l zdX1_distance_82)))))
theorem dX1_distance_73 : decode cX1_distance 73 = .ok (.goto 5, 3) := zk_of (zk_l (zk_l (zk_r (zk_r (zk_l zdX1_distance_82)))))
theorem dX1_distance_10 : decode cX1_distance 10 = .ok (.iload 6, 2) := zk_of (zk_r (zk_l (zk_r (zk_r (zk_l zdX1_distance_82)))))
theorem dX1_distance_12 : decode cX1_distance 12 = .ok (.bipush 41, 2) := zk_of (zk_l (zk_r (zk_r (zk_r (zk_l zdX1_distance_82)))))
theorem dX1_distance_14 : decode cX1_distance 14 = .ok (.if_icmp .ge 74, 3) := zk_of (zk_r (zk_r (zk_r (zk_r (zk_l zdX1_distance_82)))))
theorem dX1_distance_88 : decode cX1_distance 88 = .ok (.lload_n 3, 1) := zk_of (zk_l (zk_l (zk_l (zk_l (zk_r zdX1_distance_82)))))
theorem dX1_distance_89 : decode cX1_distance 89 = .ok (.lload_n 1, 1) := zk_of (zk_r (zk_l (zk_l (zk_l (zk_r zdX1_distance_82)))))
theorem dX1_distance_90 : decode cX1_distance 90 = .ok (.lsub, 1) := zk_of (zk_l (zk_r (zk_l (zk_l (zk_r zdX1_distance_82)))))
theorem dX1_distance_91 : decode cX1_distance 91 = .ok (.l2i, 1) := zk_of (zk_r (zk_r (zk_l (zk_l (zk_r zdX1_distance_82)))))
theorem dX1_distance_92 : decode cX1_distance 92 = .ok (.ireturn, 1) := zk_of (zk_l (zk_l (zk_r (zk_l (zk_r zdX1_distance_82)))))
theorem dX1_distance_17 : decode cX1_distance 17 = .ok (.aload_n 0, 1) := zk_of (zk_r (zk_l (zk_r (zk_l (zk_r zdX1_distance_82)))))
theorem dX1_distance_18 : decode cX1_distance 18 = .ok (.getfield 15, 3) := zk_of (zk_l (zk_r (zk_r (zk_l (zk_r zdX1_distance_82)))))
theorem dX1_distance_21 : decode cX1_distance 21 = .ok (.iload 6, 2) := zk_of (zk_r (zk_r (zk_r (zk_l (zk_r zdX1_distance_82)))))
theorem dX1_distance_23 : decode cX1_distance 23 = .ok (.iaload, 1) := zk_of (zk_l (zk_l (zk_l (zk_r (zk_r zdX1_distance_82)))))
theorem dX1_distance_24 : decode cX1_distance 24 = .ok (.ifCond .le 58, 3) := zk_of (zk_r (zk_l (zk_l (zk_r (zk_r zdX1_distance_82)))))
theorem dX1_distance_27 : decode cX1_distance 27 = .ok (.aload_n 0, 1) := zk_of (zk_l (zk_r (zk_l (zk_r (zk_r zdX1_distance_82)))))
theorem dX1_distance_28 : decode cX1_distance 28 = .ok (.getfield 11, 3) := zk_of (zk_r (zk_r (zk_l (zk_r (zk_r zdX1_distance_82)))))
theorem dX1_distance_31 : decode cX1_distance 31 = .ok (.iload 6, 2) := zk_of (zk_l (zk_l (zk_r (zk_r (zk_r zdX1_distance_82)))))
theorem dX1_distance_33 : decode cX1_distance 33 = .ok (.laload, 1) := zk_of (zk_r (zk_l (zk_r (zk_r (zk_r zdX1_distance_82)))))
theorem dX1_distance_34 : decode cX1_distance 34 = .ok (.aload_n 0, 1) := zk_of (zk_l (zk_r (zk_r (zk_r (zk_r zdX1_distance_82)))))
theorem dX1_distance_35 : decode cX1_distance 35 = .ok (.getfield 15, 3) := zk_of (zk_r (zk_r (zk_r (zk_r (zk_r zdX1_distance_82)))))
theorem zdX1_distance_38 : (and (and (and (and (and (zk cX1_distance 38 (.iload 6) 2) (zk cX1_distance 40 (.iaload) 1)) (zk cX1_distance 41 (.i2l) 1)) (and (zk cX1_distance 42 (.ldiv) 1) (zk cX1_distance 43 (.lstore 7) 2))) (and (and (and (zk cX1_distance 45 (.iload 5) 2) (zk cX1_distance 47 (.ifCond .eq 12) 3)) (zk cX1_distance 59 (.lload 7) 2)) (and (zk cX1_distance 50 (.lload_n 1) 1) (zk cX1_distance 51 (.lload 7) 2)))) (and (and (and (and (zk cX1_distance 53 (.invokestatic 72) 3) (zk cX1_distance 56 (.goto 5) 3)) (zk cX1_distance 0 (.lconst 0) 1)) (and (zk cX1_distance 1 (.lstore_n 1) 1) (zk cX1_distance 2 (.lconst 0) 1))) (and (and (and (zk cX1_distance 3 (.lstore_n 3) 1) (zk cX1_distance 4 (.iconst 0) 1)) (zk cX1_distance 5 (.istore 5) 2)) (and (zk cX1_distance 7 (.iconst 0) 1) (zk cX1_distance 8 (.istore 6) 2))))) = true := by decide +kernel
theorem dX1_distance_38 : decode cX1_distance 38 = .ok (.iload 6, 2) := zk_of (zk_l (zk_l (zk_l (zk_l (zk_l zdX1_distance_38)))))
theorem dX1_distance_40 : decode cX1_distance 40 = .ok (.iaload, 1) := zk_of (zk_r (zk_l (zk_l (zk_l (zk_l zdX1_distance_38)))))
theorem dX1_distance_41 : decode cX1_distance 41 = .ok (.i2l, 1) := zk_of (zk_r (zk_l (zk_l (zk_l zdX1_distance_38))))
theorem dX1_distance_42 : decode cX1_distance 42 = .ok (.ldiv, 1) := zk_of (zk_l (zk_r (zk_l (zk_l zdX1_distance_38))))
theorem dX1_distance_43 : decode cX1_distance 43 = .ok (.lstore 7, 2) := zk_of (zk_r (zk_r (zk_l (zk_l zdX1_distance_38))))
theorem dX1_distance_45 : decode cX1_distance 45 = .ok (.iload 5, 2) := zk_of (zk_l (zk_l (zk_l (zk_r (zk_l zdX1_distance_38)))))
theorem dX1_distance_47 : decode cX1_distance 47 = .ok (.ifCond .eq 12, 3) := zk_of (zk_r (zk_l (zk_l (zk_r (zk_l zdX1_distance_38)))))
theorem dX1_distance_59 : decode cX1_distance 59 = .ok (.lload 7, 2) := zk_of (zk_r (zk_l (zk_r (zk_l zdX1_distance_38))))
theorem dX1_distance_50 : decode cX1_distance 50 = .ok (.lload_n 1, 1) := zk_of (zk_l (zk_r (zk_r (zk_l zdX1_distance_38))))
theorem dX1_distance_51 : decode cX1_distance 51 = .ok (.lload 7, 2) := zk_of (zk_r (zk_r (zk_r (zk_l zdX1_distance_38))))
theorem dX1_distance_53 : decode cX1_distance 53 = .ok (.invokestatic 72, 3) := zk_of (zk_l (zk_l (zk_l (zk_l (zk_r zdX1_distance_38)))))
theorem dX1_distance_56 : decode cX1_distance 56 = .ok (.goto 5, 3) := zk_of (zk_r (zk_l (zk_l (zk_l (zk_r zdX1_distance_38)))))
theorem dX1_distance_0 : decode cX1_distance 0 = .ok (.lconst 0, 1) := zk_of (zk_r (zk_l (zk_l (zk_r zdX1_distance_38))))
theorem dX1_distance_1 : decode cX1_distance 1 = .ok (.lstore_n 1, 1) := zk_of (zk_l (zk_r (zk_l (zk_r zdX1_distance_38))))
theorem dX1_distance_2 : decode cX1_distance 2 = .ok (.lconst 0, 1) := zk_of (zk_r (zk_r (zk_l (zk_r zdX1_distance_38))))
theorem dX1_distance_3 : decode cX1_distance 3 = .ok (.lstore_n 3, 1) := zk_of (zk_l (zk_l (zk_l (zk_r (zk_r zdX1_distance_38)))))
theorem dX1_distance_4 : decode cX1_distance 4 = .ok (.iconst 0, 1) := zk_of (zk_r (zk_l (zk_l (zk_r (zk_r zdX1_distance_38)))))
theorem dX1_distance_5 : decode cX1_distance 5 = .ok (.istore 5, 2) := zk_of (zk_r (zk_l (zk_r (zk_r zdX1_distance_38))))
theorem dX1_distance_7 : decode cX1_distance 7 = .ok (.iconst 0, 1) := zk_of (zk_l (zk_r (zk_r (zk_r zdX1_distance_38))))
theorem dX1_distance_8 : decode cX1_distance 8 = .ok (.istore 6, 2) := zk_of (zk_r (zk_r (zk_r (zk_r zdX1_distance_38))))
/-- HissHorn$Findings.distance()I of cell 8 -/
def rmX1_distance_8 : Room := { frames := 1, cells := 0, slots := 0, locals := 15 }
theorem hX1_distance_8_X1 : ∀ w ∈ u_ws RX1 TX1 13, w ∈ wsX1_distance := fun w h => (List.mem_cons_of_mem _ (List.mem_append_right _ h))
theorem mX1_distance_8_1 : Cond.fieldLink RX1 15 "HissHorn$Findings" "many" "[I" ∈ wsX1_distance := (List.mem_cons_of_mem _ (List.mem_append_left _ (List.mem_of_getElem? (i := 0) rfl)))
def GX1_distance_8_82 (k10 : Int64 → Int64 → Int32 → Int32 → SX → Option (Int32 × SX)) (z1 : Int64) (z3 : Int64) (z5 : Int32) (z6 : Int32) (u : SX) : Option (Int32 × SX) := (k10 z1 z3 z5 (z6 + 1) u)
theorem mX1_distance_8_2 : Cond.fieldLink RX1 11 "HissHorn$Findings" "middles" "[J" ∈ wsX1_distance := (List.mem_cons_of_mem _ (List.mem_append_left _ (List.mem_of_getElem? (i := 1) rfl)))
def GX1_distance_8_78 (k10 : Int64 → Int64 → Int32 → Int32 → SX → Option (Int32 × SX)) (z1 : Int64) (z6 : Int32) (y0 : Int64) (u : SX) : Option (Int32 × SX) := (GX1_distance_8_82 k10 z1 y0 1 z6 u)
theorem mX1_distance_8_3 : Cond.methodLink RX1 75 Lib.MathLoose.max_long.x ∈ wsX1_distance := (List.mem_cons_of_mem _ (List.mem_append_left _ (List.mem_of_getElem? (i := 6) rfl)))
theorem mX1_distance_8_4 : Cond.static Lib.MathLoose.max_long.x ∈ wsX1_distance := (List.mem_cons_of_mem _ (List.mem_append_left _ (List.mem_of_getElem? (i := 7) rfl)))
theorem mX1_distance_8_5 : Cond.initialized "java/lang/Math" ∈ wsX1_distance := (List.mem_cons_of_mem _ (List.mem_append_left _ (List.mem_of_getElem? (i := 4) rfl)))
theorem mX1_distance_8_6 : Cond.code Lib.MathLoose.max_long.x Lib.MathLoose.max_long.code 4 (some .long) ∈ wsX1_distance := (List.mem_cons_of_mem _ (List.mem_append_left _ (List.mem_of_getElem? (i := 8) rfl)))
def GX1_distance_8_61 (k10 : Int64 → Int64 → Int32 → Int32 → SX → Option (Int32 × SX)) (z3 : Int64) (z5 : Int32) (z6 : Int32) (z7 : Int64) (y0 : Int64) (u : SX) : Option (Int32 × SX) := (if z5 = 0 then (GX1_distance_8_78 k10 y0 z6 z7 u) else (GX1_distance_8_78 k10 y0 z6 (if z7 < z3 then z3 else z7) u))
theorem mX1_distance_8_7 : Cond.methodLink RX1 72 Lib.MathLoose.min_long.x ∈ wsX1_distance := (List.mem_cons_of_mem _ (List.mem_append_left _ (List.mem_of_getElem? (i := 2) rfl)))
theorem mX1_distance_8_8 : Cond.static Lib.MathLoose.min_long.x ∈ wsX1_distance := (List.mem_cons_of_mem _ (List.mem_append_left _ (List.mem_of_getElem? (i := 3) rfl)))
theorem mX1_distance_8_9 : Cond.code Lib.MathLoose.min_long.x Lib.MathLoose.min_long.code 4 (some .long) ∈ wsX1_distance := (List.mem_cons_of_mem _ (List.mem_append_left _ (List.mem_of_getElem? (i := 5) rfl)))
def LX1_distance_8_10  : Nat → Int64 → Int64 → Int32 → Int32 → SX → Option (Int32 × SX)
  | 0, _, _, _, _, _ => none
  | n + 1, z1, z3, z5, z6, u => (if 41 ≤ z6 then (some ((z3 - z1).toInt32, u)) else (gd (inb z6 41) (if (u.2.1 43 z6.toNatClampNeg) ≤ 0 then (GX1_distance_8_82 (LX1_distance_8_10 n) z1 z3 z5 z6 u) else (gd (inb z6 41) (gd (inb z6 41) (gd (nzL ((u.2.1 43 z6.toNatClampNeg).toInt64)) (lt ((u.2.2.2.1 42 z6.toNatClampNeg) / ((u.2.1 43 z6.toNatClampNeg).toInt64)) fun v5 => (if z5 = 0 then (GX1_distance_8_61 (LX1_distance_8_10 n) z3 z5 z6 v5 v5 u) else (GX1_distance_8_61 (LX1_distance_8_10 n) z3 z5 z6 v5 (if v5 < z1 then v5 else z1) u)))))))))
def fX1_distance_8  (u : SX) : Option (Int32 × SX) := (LX1_distance_8_10  5000 0 0 0 0 u)
set_option maxHeartbeats 4000000 in
set_option maxRecDepth 100000 in
theorem wGX1_distance_8_82 {p : Program} {l : Launch} {e : Env} {s : State} {m : MethodId} {args : Array Value} {below : List Frame} {meth : Method} {c : Code} {D : va_G} {cy : Nat → ClassId} {ad st : Nat → Nat} (C : Cx RX1 cX1_distance 9 (some .int) wsX1_distance p s m args meth c) (hK : Ky D [(cy 0, .int), (cy 1, .long), (cy 2, .boolean), (cy 3, .byte), (cy 4, .object "HissHorn$Text")] st s) (hJ : JX ad st) {r : Int32} {u' : SX} {k10 : Int64 → Int64 → Int32 → Int32 → SX → Option (Int32 × SX)} (hk10 : ∀ (z1 : Int64) (z3 : Int64) (z5 : Int32) (z6 : Int32) (u : SX) (H : Heap) (locs : List Loc) (ls : Array Slot), k10 z1 z3 z5 z6 u = some (r, u') → va_P D vwCl (VX cy ad st u) H → va_S (Ax (AX ad) s.heap.size) s.heap H locs → lv_has ls 9 [(0, .ref (ad 8)), (1, .long z1), (3, .long z3), (5, .int z5), (6, .int z6)] → W p l e rmX1_distance_8 s m args below meth c H locs 0 0 (MQ below (Qi D (VX cy ad st) (AX ad) s.heap.size r u') args s 0 0 (Ax (AX ad) s.heap.size)) (F0 m 10 ls [])) (z1 : Int64) (z3 : Int64) (z5 : Int32) (z6 : Int32) (u : SX) (H : Heap) (locs : List Loc) (ls : Array Slot) (h : GX1_distance_8_82 k10 z1 z3 z5 z6 u = some (r, u')) (hP : va_P D vwCl (VX cy ad st u) H) (hS : va_S (Ax (AX ad) s.heap.size) s.heap H locs) (hl : lv_has ls 9 [(0, .ref (ad 8)), (1, .long z1), (3, .long z3), (5, .int z5), (6, .int z6)]) : W p l e rmX1_distance_8 s m args below meth c H locs 0 0 (MQ below (Qi D (VX cy ad st) (AX ad) s.heap.size r u') args s 0 0 (Ax (AX ad) s.heap.size)) (F0 m 82 ls []) := by
  unfold GX1_distance_8_82 at h
  refine lv_iinc (v := z6 + 1) (lv' := [(6, .int (z6 + 1)), (0, .ref (ad 8)), (1, .long z1), (3, .long z3), (5, .int z5)]) C.1 C.2.1 dX1_distance_82 hl (k := 4) rfl rfl (by decide) rfl (fun ls hl => ?_)
  replace hl := lv_sub (l' := [(0, .ref (ad 8)), (1, .long z1), (3, .long z3), (5, .int z5), (6, .int (z6 + 1))]) hl [1, 2, 3, 4, 0] rfl
  refine lv_goto (tgt := 10) C.1 C.2.1 dX1_distance_85 (by decide) ?_
  exact hk10 _ _ _ _ _ _ _ _ h hP hS hl
set_option maxHeartbeats 4000000 in
set_option maxRecDepth 100000 in
theorem wGX1_distance_8_78 {p : Program} {l : Launch} {e : Env} {s : State} {m : MethodId} {args : Array Value} {below : List Frame} {meth : Method} {c : Code} {D : va_G} {cy : Nat → ClassId} {ad st : Nat → Nat} (C : Cx RX1 cX1_distance 9 (some .int) wsX1_distance p s m args meth c) (hK : Ky D [(cy 0, .int), (cy 1, .long), (cy 2, .boolean), (cy 3, .byte), (cy 4, .object "HissHorn$Text")] st s) (hJ : JX ad st) {r : Int32} {u' : SX} {k10 : Int64 → Int64 → Int32 → Int32 → SX → Option (Int32 × SX)} (hk10 : ∀ (z1 : Int64) (z3 : Int64) (z5 : Int32) (z6 : Int32) (u : SX) (H : Heap) (locs : List Loc) (ls : Array Slot), k10 z1 z3 z5 z6 u = some (r, u') → va_P D vwCl (VX cy ad st u) H → va_S (Ax (AX ad) s.heap.size) s.heap H locs → lv_has ls 9 [(0, .ref (ad 8)), (1, .long z1), (3, .long z3), (5, .int z5), (6, .int z6)] → W p l e rmX1_distance_8 s m args below meth c H locs 0 0 (MQ below (Qi D (VX cy ad st) (AX ad) s.heap.size r u') args s 0 0 (Ax (AX ad) s.heap.size)) (F0 m 10 ls [])) (z1 : Int64) (z6 : Int32) (y0 : Int64) (u : SX) (H : Heap) (locs : List Loc) (ls : Array Slot) (h : GX1_distance_8_78 k10 z1 z6 y0 u = some (r, u')) (hP : va_P D vwCl (VX cy ad st u) H) (hS : va_S (Ax (AX ad) s.heap.size) s.heap H locs) (hl : lv_has ls 9 [(0, .ref (ad 8)), (1, .long z1), (6, .int z6)]) : W p l e rmX1_distance_8 s m args below meth c H locs 0 0 (MQ below (Qi D (VX cy ad st) (AX ad) s.heap.size r u') args s 0 0 (Ax (AX ad) s.heap.size)) (F0 m 78 ls [.long y0]) := by
  unfold GX1_distance_8_78 at h
  refine lv_lstore_n (lv' := [(3, .long y0), (0, .ref (ad 8)), (1, .long z1), (6, .int z6)]) C.1 C.2.1 dX1_distance_78 rfl hl (by decide) rfl (fun ls hl => ?_)
  replace hl := lv_sub (l' := [(0, .ref (ad 8)), (1, .long z1), (3, .long y0), (6, .int z6)]) hl [1, 2, 0, 3] rfl
  refine lv_iconst (v := 1) C.1 C.2.1 dX1_distance_79 (by decide) ?_
  refine lv_istore (lv' := [(5, .int 1), (0, .ref (ad 8)), (1, .long z1), (3, .long y0), (6, .int z6)]) C.1 C.2.1 dX1_distance_80 hl (by decide) rfl (fun ls hl => ?_)
  replace hl := lv_sub (l' := [(0, .ref (ad 8)), (1, .long z1), (3, .long y0), (5, .int 1), (6, .int z6)]) hl [1, 2, 3, 0, 4] rfl
  exact wGX1_distance_8_82 C hK hJ hk10 _ _ _ _ _ _ _ _ h hP hS hl
set_option maxHeartbeats 4000000 in
set_option maxRecDepth 100000 in
theorem wGX1_distance_8_61 {p : Program} {l : Launch} {e : Env} {s : State} {m : MethodId} {args : Array Value} {below : List Frame} {meth : Method} {c : Code} {D : va_G} {cy : Nat → ClassId} {ad st : Nat → Nat} (C : Cx RX1 cX1_distance 9 (some .int) wsX1_distance p s m args meth c) (hK : Ky D [(cy 0, .int), (cy 1, .long), (cy 2, .boolean), (cy 3, .byte), (cy 4, .object "HissHorn$Text")] st s) (hJ : JX ad st) {r : Int32} {u' : SX} {k10 : Int64 → Int64 → Int32 → Int32 → SX → Option (Int32 × SX)} (hk10 : ∀ (z1 : Int64) (z3 : Int64) (z5 : Int32) (z6 : Int32) (u : SX) (H : Heap) (locs : List Loc) (ls : Array Slot), k10 z1 z3 z5 z6 u = some (r, u') → va_P D vwCl (VX cy ad st u) H → va_S (Ax (AX ad) s.heap.size) s.heap H locs → lv_has ls 9 [(0, .ref (ad 8)), (1, .long z1), (3, .long z3), (5, .int z5), (6, .int z6)] → W p l e rmX1_distance_8 s m args below meth c H locs 0 0 (MQ below (Qi D (VX cy ad st) (AX ad) s.heap.size r u') args s 0 0 (Ax (AX ad) s.heap.size)) (F0 m 10 ls [])) (z3 : Int64) (z5 : Int32) (z6 : Int32) (z7 : Int64) (y0 : Int64) (u : SX) (H : Heap) (locs : List Loc) (ls : Array Slot) (h : GX1_distance_8_61 k10 z3 z5 z6 z7 y0 u = some (r, u')) (hP : va_P D vwCl (VX cy ad st u) H) (hS : va_S (Ax (AX ad) s.heap.size) s.heap H locs) (hl : lv_has ls 9 [(0, .ref (ad 8)), (3, .long z3), (5, .int z5), (6, .int z6), (7, .long z7)]) : W p l e rmX1_distance_8 s m args below meth c H locs 0 0 (MQ below (Qi D (VX cy ad st) (AX ad) s.heap.size r u') args s 0 0 (Ax (AX ad) s.heap.size)) (F0 m 61 ls [.long y0]) := by
  unfold GX1_distance_8_61 at h
  refine lv_lstore_n (lv' := [(1, .long y0), (0, .ref (ad 8)), (3, .long z3), (5, .int z5), (6, .int z6), (7, .long z7)]) C.1 C.2.1 dX1_distance_61 rfl hl (by decide) rfl (fun ls hl => ?_)
  replace hl := lv_sub (l' := [(0, .ref (ad 8)), (1, .long y0), (3, .long z3), (5, .int z5), (6, .int z6), (7, .long z7)]) hl [1, 0, 2, 3, 4, 5] rfl
  refine lv_iload C.1 C.2.1 dX1_distance_62 (lv_at hl 3 rfl) ?_
  refine lv_if_eq (tgt := 76) C.1 C.2.1 dX1_distance_64 (by decide) (fun c64 => ?_) (fun c64 => ?_)
  · rw [if_pos c64] at h
    refine lv_lload C.1 C.2.1 dX1_distance_76 (lv_at hl 5 rfl) ?_
    exact wGX1_distance_8_78 C hK hJ hk10 _ _ _ _ _ _ _ h hP hS (lv_sub hl [0, 1, 4] rfl)
  · rw [if_neg c64] at h
    refine lv_lload_n C.1 C.2.1 dX1_distance_67 rfl (lv_at hl 2 rfl) ?_
    refine lv_lload C.1 C.2.1 dX1_distance_68 (lv_at hl 5 rfl) ?_
    refine va_mmax_long C.1 C.2.1 (C.2.2.1.trans hl.1.symm) C.2.2.2.2.1 (C.2.2.2.2.2.1 _ mX1_distance_8_3) (C.2.2.2.2.2.1 _ mX1_distance_8_4) (C.2.2.2.2.2.1 _ mX1_distance_8_5) (C.2.2.2.2.2.1 _ mX1_distance_8_6) (Nat.le_of_ble_eq_true rfl) (Nat.le_of_ble_eq_true rfl) (Nat.zero_le _) (Nat.zero_le _) dX1_distance_70 ?_
    refine lv_goto (tgt := 78) C.1 C.2.1 dX1_distance_73 (by decide) ?_
    exact wGX1_distance_8_78 C hK hJ hk10 _ _ _ _ _ _ _ h hP hS (lv_sub hl [0, 1, 4] rfl)
set_option maxHeartbeats 4000000 in
set_option maxRecDepth 100000 in
theorem wLX1_distance_8_10 {p : Program} {l : Launch} {e : Env} {s : State} {m : MethodId} {args : Array Value} {below : List Frame} {meth : Method} {c : Code} {D : va_G} {cy : Nat → ClassId} {ad st : Nat → Nat} (C : Cx RX1 cX1_distance 9 (some .int) wsX1_distance p s m args meth c) (hK : Ky D [(cy 0, .int), (cy 1, .long), (cy 2, .boolean), (cy 3, .byte), (cy 4, .object "HissHorn$Text")] st s) (hJ : JX ad st) {r : Int32} {u' : SX}   : ∀ (n : Nat) (z1 : Int64) (z3 : Int64) (z5 : Int32) (z6 : Int32) (u : SX) (H : Heap) (locs : List Loc) (ls : Array Slot), LX1_distance_8_10  n z1 z3 z5 z6 u = some (r, u') → va_P D vwCl (VX cy ad st u) H → va_S (Ax (AX ad) s.heap.size) s.heap H locs → lv_has ls 9 [(0, .ref (ad 8)), (1, .long z1), (3, .long z3), (5, .int z5), (6, .int z6)] → W p l e rmX1_distance_8 s m args below meth c H locs 0 0 (MQ below (Qi D (VX cy ad st) (AX ad) s.heap.size r u') args s 0 0 (Ax (AX ad) s.heap.size)) (F0 m 10 ls []) := by
  intro n
  induction n with
  | zero =>
    intro z1 z3 z5 z6 u H locs ls h
    exact absurd h (by intro q; cases q)
  | succ n ih =>
    intro z1 z3 z5 z6 u H locs ls h hP hS hl
    rw [LX1_distance_8_10] at h
    refine lv_iload C.1 C.2.1 dX1_distance_10 (lv_at hl 4 rfl) ?_
    refine lv_bipush (v := 41) C.1 C.2.1 dX1_distance_12 (by decide) ?_
    refine lv_icmp_ge (tgt := 88) C.1 C.2.1 dX1_distance_14 (by decide) (fun c14 => ?_) (fun c14 => ?_)
    · rw [if_pos c14] at h
      refine lv_lload_n C.1 C.2.1 dX1_distance_88 rfl (lv_at hl 2 rfl) ?_
      refine lv_lload_n C.1 C.2.1 dX1_distance_89 rfl (lv_at hl 1 rfl) ?_
      refine lv_lsub C.1 C.2.1 dX1_distance_90 ?_
      refine lv_l2i (v := (z3 - z1).toInt32) C.1 C.2.1 dX1_distance_91 rfl ?_
      cases h
      exact rt_i C hP hS dX1_distance_92
    · rw [if_neg c14] at h
      refine lv_aload_n C.1 C.2.1 dX1_distance_17 rfl (lv_at hl 0 rfl) ?_
      refine gX_8_many C hX1_distance_8_X1 hK hP mX1_distance_8_1 dX1_distance_18 ?_
      refine lv_iload C.1 C.2.1 dX1_distance_21 (lv_at hl 4 rfl) ?_
      obtain ⟨hg1, h⟩ := gd_some h
      refine lX_43 C hK hP hg1 dX1_distance_23 ?_
      refine lv_if_le (tgt := 82) C.1 C.2.1 dX1_distance_24 (by decide) (fun c24 => ?_) (fun c24 => ?_)
      · rw [if_pos c24] at h
        exact wGX1_distance_8_82 C hK hJ ih _ _ _ _ _ _ _ _ h hP hS hl
      · rw [if_neg c24] at h
        refine lv_aload_n C.1 C.2.1 dX1_distance_27 rfl (lv_at hl 0 rfl) ?_
        refine gX_8_middles C hX1_distance_8_X1 hK hP mX1_distance_8_2 dX1_distance_28 ?_
        refine lv_iload C.1 C.2.1 dX1_distance_31 (lv_at hl 4 rfl) ?_
        obtain ⟨hg2, h⟩ := gd_some h
        refine lX_42 C hK hP hg2 dX1_distance_33 ?_
        refine lv_aload_n C.1 C.2.1 dX1_distance_34 rfl (lv_at hl 0 rfl) ?_
        refine gX_8_many C hX1_distance_8_X1 hK hP mX1_distance_8_1 dX1_distance_35 ?_
        refine lv_iload C.1 C.2.1 dX1_distance_38 (lv_at hl 4 rfl) ?_
        obtain ⟨hg3, h⟩ := gd_some h
        refine lX_43 C hK hP hg3 dX1_distance_40 ?_
        refine lv_i2l (v := (u.2.1 43 z6.toNatClampNeg).toInt64) C.1 C.2.1 dX1_distance_41 rfl ?_
        obtain ⟨hg4, h⟩ := gd_some h
        refine lv_ldiv C.1 C.2.1 dX1_distance_42 (nzL_n hg4) ?_
        refine lv_topl (fun v5 hv6 => ?_)
        replace h := lt_e hv6 h
        try dsimp only at h
        refine lv_lstore (lv' := [(7, .long v5), (0, .ref (ad 8)), (1, .long z1), (3, .long z3), (5, .int z5), (6, .int z6)]) C.1 C.2.1 dX1_distance_43 hl (by decide) rfl (fun ls hl => ?_)
        replace hl := lv_sub (l' := [(0, .ref (ad 8)), (1, .long z1), (3, .long z3), (5, .int z5), (6, .int z6), (7, .long v5)]) hl [1, 2, 3, 4, 5, 0] rfl
        refine lv_iload C.1 C.2.1 dX1_distance_45 (lv_at hl 3 rfl) ?_
        refine lv_if_eq (tgt := 59) C.1 C.2.1 dX1_distance_47 (by decide) (fun c47 => ?_) (fun c47 => ?_)
        · rw [if_pos c47] at h
          refine lv_lload C.1 C.2.1 dX1_distance_59 (lv_at hl 5 rfl) ?_
          exact wGX1_distance_8_61 C hK hJ ih _ _ _ _ _ _ _ _ _ h hP hS (lv_sub hl [0, 2, 3, 4, 5] rfl)
        · rw [if_neg c47] at h
          refine lv_lload_n C.1 C.2.1 dX1_distance_50 rfl (lv_at hl 1 rfl) ?_
          refine lv_lload C.1 C.2.1 dX1_distance_51 (lv_at hl 5 rfl) ?_
          refine va_mmin_long C.1 C.2.1 (C.2.2.1.trans hl.1.symm) C.2.2.2.2.1 (C.2.2.2.2.2.1 _ mX1_distance_8_7) (C.2.2.2.2.2.1 _ mX1_distance_8_8) (C.2.2.2.2.2.1 _ mX1_distance_8_5) (C.2.2.2.2.2.1 _ mX1_distance_8_9) (Nat.le_of_ble_eq_true rfl) (Nat.le_of_ble_eq_true rfl) (Nat.zero_le _) (Nat.zero_le _) dX1_distance_53 ?_
          refine lv_goto (tgt := 61) C.1 C.2.1 dX1_distance_56 (by decide) ?_
          exact wGX1_distance_8_61 C hK hJ ih _ _ _ _ _ _ _ _ _ h hP hS (lv_sub hl [0, 2, 3, 4, 5] rfl)
set_option maxHeartbeats 4000000 in
set_option maxRecDepth 100000 in
theorem wX1_distance_8 {p : Program} {l : Launch} {e : Env} {s : State} {m : MethodId} {args : Array Value} {below : List Frame} {meth : Method} {c : Code} {D : va_G} {cy : Nat → ClassId} {ad st : Nat → Nat} (C : Cx RX1 cX1_distance 9 (some .int) wsX1_distance p s m args meth c) (hK : Ky D [(cy 0, .int), (cy 1, .long), (cy 2, .boolean), (cy 3, .byte), (cy 4, .object "HissHorn$Text")] st s) (hJ : JX ad st)  {u : SX} {r : Int32} {u' : SX} {H : Heap} {locs : List Loc} {ls : Array Slot} (h : fX1_distance_8  u = some (r, u')) (hP : va_P D vwCl (VX cy ad st u) H) (hS : va_S (Ax (AX ad) s.heap.size) s.heap H locs) (hl : lv_has ls 9 [(0, .ref (ad 8))]) : W p l e rmX1_distance_8 s m args below meth c H locs 0 0 (MQ below (Qi D (VX cy ad st) (AX ad) s.heap.size r u') args s 0 0 (Ax (AX ad) s.heap.size)) (F0 m 0 ls []) := by
  unfold fX1_distance_8 at h
  refine lv_lconst (v := 0) C.1 C.2.1 dX1_distance_0 (by decide) ?_
  refine lv_lstore_n (lv' := [(1, .long 0), (0, .ref (ad 8))]) C.1 C.2.1 dX1_distance_1 rfl hl (by decide) rfl (fun ls hl => ?_)
  replace hl := lv_sub (l' := [(0, .ref (ad 8)), (1, .long 0)]) hl [1, 0] rfl
  refine lv_lconst (v := 0) C.1 C.2.1 dX1_distance_2 (by decide) ?_
  refine lv_lstore_n (lv' := [(3, .long 0), (0, .ref (ad 8)), (1, .long 0)]) C.1 C.2.1 dX1_distance_3 rfl hl (by decide) rfl (fun ls hl => ?_)
  replace hl := lv_sub (l' := [(0, .ref (ad 8)), (1, .long 0), (3, .long 0)]) hl [1, 2, 0] rfl
  refine lv_iconst (v := 0) C.1 C.2.1 dX1_distance_4 (by decide) ?_
  refine lv_istore (lv' := [(5, .int 0), (0, .ref (ad 8)), (1, .long 0), (3, .long 0)]) C.1 C.2.1 dX1_distance_5 hl (by decide) rfl (fun ls hl => ?_)
  replace hl := lv_sub (l' := [(0, .ref (ad 8)), (1, .long 0), (3, .long 0), (5, .int 0)]) hl [1, 2, 3, 0] rfl
  refine lv_iconst (v := 0) C.1 C.2.1 dX1_distance_7 (by decide) ?_
  refine lv_istore (lv' := [(6, .int 0), (0, .ref (ad 8)), (1, .long 0), (3, .long 0), (5, .int 0)]) C.1 C.2.1 dX1_distance_8 hl (by decide) rfl (fun ls hl => ?_)
  replace hl := lv_sub (l' := [(0, .ref (ad 8)), (1, .long 0), (3, .long 0), (5, .int 0), (6, .int 0)]) hl [1, 2, 3, 4, 0] rfl
  exact wLX1_distance_8_10 C hK hJ  5000 _ _ _ _ _ _ _ _ h hP hS hl
theorem metX1_distance_8 (l : Launch) (D : va_G) (cy : Nat → ClassId) (ad st : Nat → Nat) (hJ : JX ad st) (sz : Nat)  {u : SX} {r : Int32} {u' : SX} (h : fX1_distance_8  u = some (r, u')) : Met l yX1_distance wsX1_distance rmX1_distance_8 (va_Pc [.ref (ad 8)] (Px D [(cy 0, .int), (cy 1, .long), (cy 2, .boolean), (cy 3, .byte), (cy 4, .object "HissHorn$Text")] st (VX cy ad st) sz u)) (Qi D (VX cy ad st) (AX ad) sz r u') 0 0 (Ax (AX ad) sz) := by
  refine Met.ofW (cc := cX1_distance) (maxL := 9) (ret := (some .int)) (by decide) rfl ?_
  intro p e s m args below meth c s₁ B hml hv
  obtain ⟨rfl, hsz, hP, hK⟩ := hv
  subst hsz
  have C : Cx RX1 cX1_distance 9 (some .int) wsX1_distance p s m _ meth c := ⟨B.exec, B.bytes, hml, B.returns, findClass_of_methodNamed B.named, atoms_spec (ws := wsX1_distance) B.pre, B.notSynchronized⟩
  have hl := lv_entry ([.ref (ad 8)]) (n := 9) (Nat.le_of_ble_eq_true rfl)
  rw [lg_entry_eq]
  exact wX1_distance_8 C hK hJ h hP va_S.rf hl

theorem zdX11_goes_0 : (and (and (and (and (and (zk cX11_goes 0 (.aload_n 0) 1) (zk cX11_goes 1 (.iload_n 1) 1)) (and (zk cX11_goes 2 (.invokevirtual 174) 3) (zk cX11_goes 5 (.ifCond .eq 12) 3))) (and (and (zk cX11_goes 17 (.ldc 194) 2) (zk cX11_goes 19 (.ireturn) 1)) (zk cX11_goes 8 (.iload_n 2) 1))) (and (and (and (zk cX11_goes 9 (.iconst 0) 1) (zk cX11_goes 10 (.iconst 5) 1)) (zk cX11_goes 11 (.invokestatic 107) 3)) (and (and (zk cX11_goes 14 (.ifCond .ne 6) 3) (zk cX11_goes 20 (.aload_n 0) 1)) (zk cX11_goes 21 (.getfield 58) 3)))) (and (and (and (and (zk cX11_goes 24 (.iload_n 1) 1) (zk cX11_goes 25 (.invokevirtual 214) 3)) (and (zk cX11_goes 28 (.aload_n 0) 1) (zk cX11_goes 29 (.getfield 67) 3))) (and (and (zk cX11_goes 32 (.iload_n 2) 1) (zk cX11_goes 33 (.invokevirtual 233) 3)) (zk cX11_goes 36 (.ifCond .ne 8) 3))) (and (and (and (zk cX11_goes 44 (.aload_n 0) 1) (zk cX11_goes 45 (.getfield 67) 3)) (zk cX11_goes 48 (.invokevirtual 236) 3)) (and (and (zk cX11_goes 51 (.ireturn) 1) (zk cX11_goes 39 (.ldc 194) 2)) (zk cX11_goes 41 (.goto 10) 3))))) = true := by decide +kernel
theorem dX11_goes_0 : decode cX11_goes 0 = .ok (.aload_n 0, 1) := zk_of (zk_l (zk_l (zk_l (zk_l (zk_l zdX11_goes_0)))))
theorem dX11_goes_1 : decode cX11_goes 1 = .ok (.iload_n 1, 1) := zk_of (zk_r (zk_l (zk_l (zk_l (zk_l zdX11_goes_0)))))
theorem dX11_goes_2 : decode cX11_goes 2 = .ok (.invokevirtual 174, 3) := zk_of (zk_l (zk_r (zk_l (zk_l (zk_l zdX11_goes_0)))))
theorem dX11_goes_5 : decode cX11_goes 5 = .ok (.ifCond .eq 12, 3) := zk_of (zk_r (zk_r (zk_l (zk_l (zk_l zdX11_goes_0)))))
theorem dX11_goes_17 : decode cX11_goes 17 = .ok (.ldc 194, 2) := zk_of (zk_l (zk_l (zk_r (zk_l (zk_l zdX11_goes_0)))))
theorem dX11_goes_19 : decode cX11_goes 19 = .ok (.ireturn, 1) := zk_of (zk_r (zk_l (zk_r (zk_l (zk_l zdX11_goes_0)))))
theorem dX11_goes_8 : decode cX11_goes 8 = .ok (.iload_n 2, 1) := zk_of (zk_r (zk_r (zk_l (zk_l zdX11_goes_0))))
theorem dX11_goes_9 : decode cX11_goes 9 = .ok (.iconst 0, 1) := zk_of (zk_l (zk_l (zk_l (zk_r (zk_l zdX11_goes_0)))))
theorem dX11_goes_10 : decode cX11_goes 10 = .ok (.iconst 5, 1) := zk_of (zk_r (zk_l (zk_l (zk_r (zk_l zdX11_goes_0)))))
theorem dX11_goes_11 : decode cX11_goes 11 = .ok (.invokestatic 107, 3) := zk_of (zk_r (zk_l (zk_r (zk_l zdX11_goes_0))))
theorem dX11_goes_14 : decode cX11_goes 14 = .ok (.ifCond .ne 6, 3) := zk_of (zk_l (zk_l (zk_r (zk_r (zk_l zdX11_goes_0)))))
theorem dX11_goes_20 : decode cX11_goes 20 = .ok (.aload_n 0, 1) := zk_of (zk_r (zk_l (zk_r (zk_r (zk_l zdX11_goes_0)))))
theorem dX11_goes_21 : decode cX11_goes 21 = .ok (.getfield 58, 3) := zk_of (zk_r (zk_r (zk_r (zk_l zdX11_goes_0))))
theorem dX11_goes_24 : decode cX11_goes 24 = .ok (.iload_n 1, 1) := zk_of (zk_l (zk_l (zk_l (zk_l (zk_r zdX11_goes_0)))))
theorem dX11_goes_25 : decode cX11_goes 25 = .ok (.invokevirtual 214, 3) := zk_of (zk_r (zk_l (zk_l (zk_l (zk_r zdX11_goes_0)))))
theorem dX11_goes_28 : decode cX11_goes 28 = .ok (.aload_n 0, 1) := zk_of (zk_l (zk_r (zk_l (zk_l (zk_r zdX11_goes_0)))))
theorem dX11_goes_29 : decode cX11_goes 29 = .ok (.getfield 67, 3) := zk_of (zk_r (zk_r (zk_l (zk_l (zk_r zdX11_goes_0)))))
theorem dX11_goes_32 : decode cX11_goes 32 = .ok (.iload_n 2, 1) := zk_of (zk_l (zk_l (zk_r (zk_l (zk_r zdX11_goes_0)))))
theorem dX11_goes_33 : decode cX11_goes 33 = .ok (.invokevirtual 233, 3) := zk_of (zk_r (zk_l (zk_r (zk_l (zk_r zdX11_goes_0)))))
theorem dX11_goes_36 : decode cX11_goes 36 = .ok (.ifCond .ne 8, 3) := zk_of (zk_r (zk_r (zk_l (zk_r zdX11_goes_0))))
theorem dX11_goes_44 : decode cX11_goes 44 = .ok (.aload_n 0, 1) := zk_of (zk_l (zk_l (zk_l (zk_r (zk_r zdX11_goes_0)))))
theorem dX11_goes_45 : decode cX11_goes 45 = .ok (.getfield 67, 3) := zk_of (zk_r (zk_l (zk_l (zk_r (zk_r zdX11_goes_0)))))
theorem dX11_goes_48 : decode cX11_goes 48 = .ok (.invokevirtual 236, 3) := zk_of (zk_r (zk_l (zk_r (zk_r zdX11_goes_0))))
theorem dX11_goes_51 : decode cX11_goes 51 = .ok (.ireturn, 1) := zk_of (zk_l (zk_l (zk_r (zk_r (zk_r zdX11_goes_0)))))
theorem dX11_goes_39 : decode cX11_goes 39 = .ok (.ldc 194, 2) := zk_of (zk_r (zk_l (zk_r (zk_r (zk_r zdX11_goes_0)))))
theorem dX11_goes_41 : decode cX11_goes 41 = .ok (.goto 10, 3) := zk_of (zk_r (zk_r (zk_r (zk_r zdX11_goes_0))))
set_option maxRecDepth 20000 in
theorem ggX11_goes_X11_isDay : GoodIn wsX11_goes wsX11_isDay := ggi (fun w h => List.mem_cons_of_mem _ (List.mem_append_left _ (List.mem_append_left _ (List.mem_append_left _ (List.mem_append_left _ (List.mem_append_left _ (List.mem_append_left _ (List.mem_append_right _ (List.mem_append_left _ h))))))))) gs_X11_isDay
set_option maxRecDepth 20000 in
theorem gX11_goes_X11_isDay : GoodIn wsX11_goes (wsV RX11 174 RX11 yX11_isDay wsX11_isDay) := goodIn_app (goodIn_of _ (by decide +kernel)) ggX11_goes_X11_isDay
set_option maxRecDepth 20000 in
theorem ggX11_goes_X11_within : GoodIn wsX11_goes wsX11_within := ggi (fun w h => List.mem_cons_of_mem _ (List.mem_append_left _ (List.mem_append_left _ (List.mem_append_left _ (List.mem_append_left _ (List.mem_append_left _ (List.mem_append_left _ (List.mem_append_right _ (List.mem_append_right _ (List.mem_append_left _ h)))))))))) gs_X11_within
set_option maxRecDepth 20000 in
theorem gX11_goes_X11_within : GoodIn wsX11_goes (va_wsS RX11 107 yX11_within wsX11_within) := goodIn_app (goodIn_of _ (by decide +kernel)) ggX11_goes_X11_within
set_option maxRecDepth 20000 in
theorem ggX11_goes_X7_recall : GoodIn wsX11_goes wsX7_recall := ggi (fun w h => List.mem_cons_of_mem _ (List.mem_append_left _ (List.mem_append_left _ (List.mem_append_left _ (List.mem_append_left _ (List.mem_append_left _ (List.mem_append_left _ (List.mem_append_right _ (List.mem_append_right _ (List.mem_append_right _ (List.mem_append_left _ h))))))))))) gs_X7_recall
set_option maxRecDepth 20000 in
theorem gX11_goes_X7_recall : GoodIn wsX11_goes (wsV RX11 214 RX7 yX7_recall wsX7_recall) := goodIn_app (goodIn_of _ (by decide +kernel)) ggX11_goes_X7_recall
set_option maxRecDepth 20000 in
theorem ggX11_goes_X1_meansBy : GoodIn wsX11_goes wsX1_meansBy := ggi (fun w h => List.mem_cons_of_mem _ (List.mem_append_left _ (List.mem_append_left _ (List.mem_append_left _ (List.mem_append_left _ (List.mem_append_left _ (List.mem_append_left _ (List.mem_append_right _ (List.mem_append_right _ (List.mem_append_right _ (List.mem_append_right _ (List.mem_append_left _ h)))))))))))) gs_X1_meansBy
set_option maxRecDepth 20000 in
theorem gX11_goes_X1_meansBy : GoodIn wsX11_goes (wsV RX11 233 RX1 yX1_meansBy wsX1_meansBy) := goodIn_app (goodIn_of _ (by decide +kernel)) ggX11_goes_X1_meansBy
set_option maxRecDepth 20000 in
theorem ggX11_goes_X1_distance : GoodIn wsX11_goes wsX1_distance := ggi (fun w h => List.mem_cons_of_mem _ (List.mem_append_left _ (List.mem_append_left _ (List.mem_append_left _ (List.mem_append_left _ (List.mem_append_left _ (List.mem_append_left _ (List.mem_append_right _ (List.mem_append_right _ (List.mem_append_right _ (List.mem_append_right _ (List.mem_append_right _ h)))))))))))) gs_X1_distance
set_option maxRecDepth 20000 in
theorem gX11_goes_X1_distance : GoodIn wsX11_goes (wsV RX11 236 RX1 yX1_distance wsX1_distance) := goodIn_app (goodIn_of _ (by decide +kernel)) ggX11_goes_X1_distance
/-- HissHorn.goes(II)I of cell 0 -/
def rmX11_goes_0 : Room := { frames := 7, cells := 0, slots := 0, locals := 162 }
theorem mX11_goes_0_0 : Cond.constant RX11 194 (-100000000) ∈ wsX11_goes := (List.mem_cons_of_mem _ (List.mem_append_left _ (List.mem_append_left _ (List.mem_append_left _ (List.mem_append_left _ (List.mem_append_left _ (List.mem_append_left _ (List.mem_append_left _ (List.mem_of_getElem? (i := 17) rfl)))))))))
theorem hX11_goes_0_X11 : ∀ w ∈ u_ws RX11 TX11 13, w ∈ wsX11_goes := fun w h => (List.mem_cons_of_mem _ (List.mem_append_left _ (List.mem_append_left _ (List.mem_append_left _ (List.mem_append_left _ (List.mem_append_left _ (List.mem_append_right _ h)))))))
theorem mX11_goes_0_2 : Cond.fieldLink RX11 58 "HissHorn" "readings" "LHissHorn$Readings;" ∈ wsX11_goes := (List.mem_cons_of_mem _ (List.mem_append_left _ (List.mem_append_left _ (List.mem_append_left _ (List.mem_append_left _ (List.mem_append_left _ (List.mem_append_left _ (List.mem_append_left _ (List.mem_of_getElem? (i := 18) rfl)))))))))
theorem mX11_goes_0_3 : Cond.fieldLink RX11 67 "HissHorn" "findings" "LHissHorn$Findings;" ∈ wsX11_goes := (List.mem_cons_of_mem _ (List.mem_append_left _ (List.mem_append_left _ (List.mem_append_left _ (List.mem_append_left _ (List.mem_append_left _ (List.mem_append_left _ (List.mem_append_left _ (List.mem_of_getElem? (i := 19) rfl)))))))))
def fX11_goes_0 (x1 : Int32) (x2 : Int32) (u : SX) : Option (Int32 × SX) := ((fX11_isDay_0 x1 u).bind fun q => match q with | (r1, u2) => (if r1 = 0 then (some ((-100000000), u2)) else ((fX11_within x2 0 5).bind fun r4 => (if r4 = 0 then (some ((-100000000), u2)) else ((fX7_recall_7 x1 u2).bind fun q => match q with | (r7, u8) => ((fX1_meansBy_8 x2 u8).bind fun q => match q with | (r10, u11) => (if r10 = 0 then (some ((-100000000), u11)) else ((fX1_distance_8  u11).bind fun q => match q with | (r13, u14) => (some (r13, u14))))))))))
set_option maxHeartbeats 4000000 in
set_option maxRecDepth 100000 in
theorem wX11_goes_0 {p : Program} {l : Launch} {e : Env} {s : State} {m : MethodId} {args : Array Value} {below : List Frame} {meth : Method} {c : Code} {D : va_G} {cy : Nat → ClassId} {ad st : Nat → Nat} (C : Cx RX11 cX11_goes 3 (some .int) wsX11_goes p s m args meth c) (hK : Ky D [(cy 0, .int), (cy 1, .long), (cy 2, .boolean), (cy 3, .byte), (cy 4, .object "HissHorn$Text")] st s) (hJ : JX ad st) (x1 : Int32) (x2 : Int32) {u : SX} {r : Int32} {u' : SX} {H : Heap} {locs : List Loc} {ls : Array Slot} (h : fX11_goes_0 x1 x2 u = some (r, u')) (hP : va_P D vwCl (VX cy ad st u) H) (hS : va_S (Ax (AX ad) s.heap.size) s.heap H locs) (hl : lv_has ls 3 [(0, .ref (ad 0)), (1, .int x1), (2, .int x2)]) : W p l e rmX11_goes_0 s m args below meth c H locs 0 0 (MQ below (Qi D (VX cy ad st) (AX ad) s.heap.size r u') args s 0 0 (Ax (AX ad) s.heap.size)) (F0 m 0 ls []) := by
  unfold fX11_goes_0 at h
  refine lv_aload_n C.1 C.2.1 dX11_goes_0 rfl (lv_at hl 0 rfl) ?_
  refine lv_iload_n C.1 C.2.1 dX11_goes_1 rfl (lv_at hl 1 rfl) ?_
  obtain ⟨⟨r1, u2⟩, hc3, h⟩ := bd_some h
  try dsimp only at h
  refine cg_i (As := [.int x1]) (rest := []) (AX_ge hJ) C hK hP hS (metX11_isDay_0 l D cy ad st hJ _ x1 hc3) (cwV 1 C.2.2.2.2.2.1 gX11_goes_X11_isDay rfl rfl rfl (by decide +kernel) ⟨(Nat.le_of_ble_eq_true rfl), (Nat.le_of_ble_eq_true rfl)⟩) 0 11 rfl rfl rfl hl.1 rfl (Nat.le_of_ble_eq_true rfl) dX11_goes_2 ⟨Nat.zero_le _, Nat.zero_le _⟩ (fun H locs hP hS => ?_)
  refine lv_if_eq (tgt := 17) C.1 C.2.1 dX11_goes_5 (by decide) (fun c5 => ?_) (fun c5 => ?_)
  · rw [if_pos c5] at h
    refine lv_ldc C.1 C.2.1 C.2.2.2.2.1 (C.2.2.2.2.2.1 _ mX11_goes_0_0) dX11_goes_17 ?_
    cases h
    exact rt_i C hP hS dX11_goes_19
  · rw [if_neg c5] at h
    refine lv_iload_n C.1 C.2.1 dX11_goes_8 rfl (lv_at hl 2 rfl) ?_
    refine lv_iconst (v := 0) C.1 C.2.1 dX11_goes_9 (by decide) ?_
    refine lv_iconst (v := 5) C.1 C.2.1 dX11_goes_10 (by decide) ?_
    obtain ⟨r4, hc6, h⟩ := bd_some h
    refine cs_i (As := [.int x2, .int 0, .int 5]) (rest := []) (AX_ge hJ) C hK hP hS (metX11_within l D cy st _ x2 0 5 hc6) (va_cwS 3 C.2.2.2.2.2.1 gX11_goes_X11_within rfl rfl rfl (by decide +kernel) ⟨(Nat.le_of_ble_eq_true rfl), (Nat.le_of_ble_eq_true rfl)⟩) rfl hl.1 rfl (Nat.le_of_ble_eq_true rfl) dX11_goes_11 ⟨Nat.zero_le _, Nat.zero_le _⟩ (fun H locs hP hS => ?_)
    refine lv_if_ne (tgt := 20) C.1 C.2.1 dX11_goes_14 (by decide) (fun c14 => ?_) (fun c14 => ?_)
    · rw [if_neg c14] at h
      refine lv_aload_n C.1 C.2.1 dX11_goes_20 rfl (lv_at hl 0 rfl) ?_
      refine gX_0_readings C hX11_goes_0_X11 hK hP mX11_goes_0_2 dX11_goes_21 ?_
      refine lv_iload_n C.1 C.2.1 dX11_goes_24 rfl (lv_at hl 1 rfl) ?_
      obtain ⟨⟨r7, u8⟩, hc9, h⟩ := bd_some h
      try dsimp only at h
      refine cg_v (As := [.int x1]) (rest := []) (AX_ge hJ) C hK hP hS (metX7_recall_7 l D cy ad st hJ _ x1 hc9) (cwV 1 C.2.2.2.2.2.1 gX11_goes_X7_recall rfl rfl rfl (by decide +kernel) ⟨(Nat.le_of_ble_eq_true rfl), (Nat.le_of_ble_eq_true rfl)⟩) 7 7 rfl rfl rfl hl.1 rfl (Nat.le_of_ble_eq_true rfl) dX11_goes_25 ⟨Nat.zero_le _, Nat.zero_le _⟩ (fun H locs hP hS => ?_)
      refine lv_aload_n C.1 C.2.1 dX11_goes_28 rfl (lv_at hl 0 rfl) ?_
      refine gX_0_findings C hX11_goes_0_X11 hK hP mX11_goes_0_3 dX11_goes_29 ?_
      refine lv_iload_n C.1 C.2.1 dX11_goes_32 rfl (lv_at hl 2 rfl) ?_
      obtain ⟨⟨r10, u11⟩, hc12, h⟩ := bd_some h
      try dsimp only at h
      refine cg_i (As := [.int x2]) (rest := []) (AX_ge hJ) C hK hP hS (metX1_meansBy_8 l D cy ad st hJ _ x2 hc12) (cwV 1 C.2.2.2.2.2.1 gX11_goes_X1_meansBy rfl rfl rfl (by decide +kernel) ⟨(Nat.le_of_ble_eq_true rfl), (Nat.le_of_ble_eq_true rfl)⟩) 8 1 rfl rfl rfl hl.1 rfl (Nat.le_of_ble_eq_true rfl) dX11_goes_33 ⟨Nat.zero_le _, Nat.zero_le _⟩ (fun H locs hP hS => ?_)
      refine lv_if_ne (tgt := 44) C.1 C.2.1 dX11_goes_36 (by decide) (fun c36 => ?_) (fun c36 => ?_)
      · rw [if_neg c36] at h
        refine lv_aload_n C.1 C.2.1 dX11_goes_44 rfl (lv_at hl 0 rfl) ?_
        refine gX_0_findings C hX11_goes_0_X11 hK hP mX11_goes_0_3 dX11_goes_45 ?_
        obtain ⟨⟨r13, u14⟩, hc15, h⟩ := bd_some h
        try dsimp only at h
        refine cg_i (As := []) (rest := []) (AX_ge hJ) C hK hP hS (metX1_distance_8 l D cy ad st hJ _  hc15) (cwV 0 C.2.2.2.2.2.1 gX11_goes_X1_distance rfl rfl rfl (by decide +kernel) ⟨(Nat.le_of_ble_eq_true rfl), (Nat.le_of_ble_eq_true rfl)⟩) 8 1 rfl rfl rfl hl.1 rfl (Nat.le_of_ble_eq_true rfl) dX11_goes_48 ⟨Nat.zero_le _, Nat.zero_le _⟩ (fun H locs hP hS => ?_)
        cases h
        exact rt_i C hP hS dX11_goes_51
      · rw [if_pos c36] at h
        refine lv_ldc C.1 C.2.1 C.2.2.2.2.1 (C.2.2.2.2.2.1 _ mX11_goes_0_0) dX11_goes_39 ?_
        refine lv_goto (tgt := 51) C.1 C.2.1 dX11_goes_41 (by decide) ?_
        cases h
        exact rt_i C hP hS dX11_goes_51
    · rw [if_pos c14] at h
      refine lv_ldc C.1 C.2.1 C.2.2.2.2.1 (C.2.2.2.2.2.1 _ mX11_goes_0_0) dX11_goes_17 ?_
      cases h
      exact rt_i C hP hS dX11_goes_19
theorem metX11_goes_0 (l : Launch) (D : va_G) (cy : Nat → ClassId) (ad st : Nat → Nat) (hJ : JX ad st) (sz : Nat) (x1 : Int32) (x2 : Int32) {u : SX} {r : Int32} {u' : SX} (h : fX11_goes_0 x1 x2 u = some (r, u')) : Met l yX11_goes wsX11_goes rmX11_goes_0 (va_Pc [.ref (ad 0), .int x1, .int x2] (Px D [(cy 0, .int), (cy 1, .long), (cy 2, .boolean), (cy 3, .byte), (cy 4, .object "HissHorn$Text")] st (VX cy ad st) sz u)) (Qi D (VX cy ad st) (AX ad) sz r u') 0 0 (Ax (AX ad) sz) := by
  refine Met.ofW (cc := cX11_goes) (maxL := 3) (ret := (some .int)) (by decide) rfl ?_
  intro p e s m args below meth c s₁ B hml hv
  obtain ⟨rfl, hsz, hP, hK⟩ := hv
  subst hsz
  have C : Cx RX11 cX11_goes 3 (some .int) wsX11_goes p s m _ meth c := ⟨B.exec, B.bytes, hml, B.returns, findClass_of_methodNamed B.named, atoms_spec (ws := wsX11_goes) B.pre, B.notSynchronized⟩
  have hl := lv_entry ([.ref (ad 0), .int x1, .int x2]) (n := 3) (Nat.le_of_ble_eq_true rfl)
  rw [lg_entry_eq]
  exact wX11_goes_0 C hK hJ x1 x2 h hP va_S.rf hl

theorem zdX0_narrowDown_103 : (and (and (and (and (and (zk cX0_narrowDown 103 (.aload_n 0) 1) (zk cX0_narrowDown 104 (.getfield 26) 3)) (and (zk cX0_narrowDown 107 (.aload_n 0) 1) (zk cX0_narrowDown 108 (.getfield 30) 3))) (and (and (zk cX0_narrowDown 111 (.if_icmp .gt 34) 3) (zk cX0_narrowDown 114 (.aload_n 0) 1)) (and (zk cX0_narrowDown 115 (.getfield 26) 3) (zk cX0_narrowDown 118 (.iload_n 3) 1)))) (and (and (and (zk cX0_narrowDown 119 (.invokestatic 47) 3) (zk cX0_narrowDown 122 (.iload 6) 2)) (and (zk cX0_narrowDown 124 (.iload 7) 2) (zk cX0_narrowDown 126 (.invokestatic 67) 3))) (and (and (zk cX0_narrowDown 129 (.ifCond .ne 16) 3) (zk cX0_narrowDown 132 (.aload_n 0) 1)) (and (zk cX0_narrowDown 133 (.dup) 1) (zk cX0_narrowDown 134 (.getfield 26) 3))))) (and (and (and (and (zk cX0_narrowDown 137 (.iconst 1) 1) (zk cX0_narrowDown 138 (.iadd) 1)) (and (zk cX0_narrowDown 139 (.putfield 26) 3) (zk cX0_narrowDown 142 (.goto (-39)) 3))) (and (and (zk cX0_narrowDown 145 (.aload_n 0) 1) (zk cX0_narrowDown 146 (.getfield 26) 3)) (and (zk cX0_narrowDown 149 (.aload_n 0) 1) (zk cX0_narrowDown 150 (.getfield 30) 3)))) (and (and (and (zk cX0_narrowDown 153 (.if_icmp .gt 34) 3) (zk cX0_narrowDown 156 (.aload_n 0) 1)) (and (zk cX0_narrowDown 157 (.getfield 30) 3) (zk cX0_narrowDown 160 (.iload_n 3) 1))) (and (and (zk cX0_narrowDown 161 (.invokestatic 47) 3) (zk cX0_narrowDown 164 (.iload 6) 2)) (and (zk cX0_narrowDown 166 (.iload 7) 2) (zk cX0_narrowDown 168 (.invokestatic 67) 3)))))) = true := by decide +kernel
theorem dX0_narrowDown_103 : decode cX0_narrowDown 103 = .ok (.aload_n 0, 1) := zk_of (zk_l (zk_l (zk_l (zk_l (zk_l zdX0_narrowDown_103)))))
theorem dX0_narrowDown_104 : decode cX0_narrowDown 104 = .ok (.getfield 26, 3) := zk_of (zk_r (zk_l (zk_l (zk_l (zk_l zdX0_narrowDown_103)))))
theorem dX0_narrowDown_107 : decode cX0_narrowDown 107 = .ok (.aload_n 0, 1) := zk_of (zk_l (zk_r (zk_l (zk_l (zk_l zdX0_narrowDown_103)))))
theorem dX0_narrowDown_108 : decode cX0_narrowDown 108 = .ok (.getfield 30, 3) := zk_of (zk_r (zk_r (zk_l (zk_l (zk_l zdX0_narrowDown_103)))))
theorem dX0_narrowDown_111 : decode cX0_narrowDown 111 = .ok (.if_icmp .gt 34, 3) := zk_of (zk_l (zk_l (zk_r (zk_l (zk_l zdX0_narrowDown_103)))))
theorem dX0_narrowDown_114 : decode cX0_narrowDown 114 = .ok (.aload_n 0, 1) := zk_of (zk_r (zk_l (zk_r (zk_l (zk_l zdX0_narrowDown_103)))))
theorem dX0_narrowDown_115 : decode cX0_narrowDown 115 = .ok (.getfield 26, 3) := zk_of (zk_l (zk_r (zk_r (zk_l (zk_l zdX0_narrowDown_103)))))
theorem dX0_narrowDown_118 : decode cX0_narrowDown 118 = .ok (.iload_n 3, 1) := zk_of (zk_r (zk_r (zk_r (zk_l (zk_l zdX0_narrowDown_103)))))
theorem dX0_narrowDown_119 : decode cX0_narrowDown 119 = .ok (.invokestatic 47, 3) := zk_of (zk_l (zk_l (zk_l (zk_r (zk_l zdX0_narrowDown_103)))))
theorem dX0_narrowDown_122 : decode cX0_narrowDown 122 = .ok (.iload 6, 2) := zk_of (zk_r (zk_l (zk_l (zk_r (zk_l zdX0_narrowDown_103)))))
theorem dX0_narrowDown_124 : decode cX0_narrowDown 124 = .ok (.iload 7, 2) := zk_of (zk_l (zk_r (zk_l (zk_r (zk_l zdX0_narrowDown_103)))))
theorem dX0_narrowDown_126 : decode cX0_narrowDown 126 = .ok (.invokestatic 67, 3) := zk_of (zk_r (zk_r (zk_l (zk_r (zk_l zdX0_narrowDown_103)))))
theorem dX0_narrowDown_129 : decode cX0_narrowDown 129 = .ok (.ifCond .ne 16, 3) := zk_of (zk_l (zk_l (zk_r (zk_r (zk_l zdX0_narrowDown_103)))))
theorem dX0_narrowDown_132 : decode cX0_narrowDown 132 = .ok (.aload_n 0, 1) := zk_of (zk_r (zk_l (zk_r (zk_r (zk_l zdX0_narrowDown_103)))))
theorem dX0_narrowDown_133 : decode cX0_narrowDown 133 = .ok (.dup, 1) := zk_of (zk_l (zk_r (zk_r (zk_r (zk_l zdX0_narrowDown_103)))))
theorem dX0_narrowDown_134 : decode cX0_narrowDown 134 = .ok (.getfield 26, 3) := zk_of (zk_r (zk_r (zk_r (zk_r (zk_l zdX0_narrowDown_103)))))
theorem dX0_narrowDown_137 : decode cX0_narrowDown 137 = .ok (.iconst 1, 1) := zk_of (zk_l (zk_l (zk_l (zk_l (zk_r zdX0_narrowDown_103)))))
theorem dX0_narrowDown_138 : decode cX0_narrowDown 138 = .ok (.iadd, 1) := zk_of (zk_r (zk_l (zk_l (zk_l (zk_r zdX0_narrowDown_103)))))
theorem dX0_narrowDown_139 : decode cX0_narrowDown 139 = .ok (.putfield 26, 3) := zk_of (zk_l (zk_r (zk_l (zk_l (zk_r zdX0_narrowDown_103)))))
theorem dX0_narrowDown_142 : decode cX0_narrowDown 142 = .ok (.goto (-39), 3) := zk_of (zk_r (zk_r (zk_l (zk_l (zk_r zdX0_narrowDown_103)))))
theorem dX0_narrowDown_145 : decode cX0_narrowDown 145 = .ok (.aload_n 0, 1) := zk_of (zk_l (zk_l (zk_r (zk_l (zk_r zdX0_narrowDown_103)))))
theorem dX0_narrowDown_146 : decode cX0_narrowDown 146 = .ok (.getfield 26, 3) := zk_of (zk_r (zk_l (zk_r (zk_l (zk_r zdX0_narrowDown_103)))))
theorem dX0_narrowDown_149 : decode cX0_narrowDown 149 = .ok (.aload_n 0, 1) := zk_of (zk_l (zk_r (zk_r (zk_l (zk_r zdX0_narrowDown_103)))))
theorem dX0_narrowDown_150 : decode cX0_narrowDown 150 = .ok (.getfield 30, 3) := zk_of (zk_r (zk_r (zk_r (zk_l (zk_r zdX0_narrowDown_103)))))
theorem dX0_narrowDown_153 : decode cX0_narrowDown 153 = .ok (.if_icmp .gt 34, 3) := zk_of (zk_l (zk_l (zk_l (zk_r (zk_r zdX0_narrowDown_103)))))
theorem dX0_narrowDown_156 : decode cX0_narrowDown 156 = .ok (.aload_n 0, 1) := zk_of (zk_r (zk_l (zk_l (zk_r (zk_r zdX0_narrowDown_103)))))
theorem dX0_narrowDown_157 : decode cX0_narrowDown 157 = .ok (.getfield 30, 3) := zk_of (zk_l (zk_r (zk_l (zk_r (zk_r zdX0_narrowDown_103)))))
theorem dX0_narrowDown_160 : decode cX0_narrowDown 160 = .ok (.iload_n 3, 1) := zk_of (zk_r (zk_r (zk_l (zk_r (zk_r zdX0_narrowDown_103)))))
theorem dX0_narrowDown_161 : decode cX0_narrowDown 161 = .ok (.invokestatic 47, 3) := zk_of (zk_l (zk_l (zk_r (zk_r (zk_r zdX0_narrowDown_103)))))
theorem dX0_narrowDown_164 : decode cX0_narrowDown 164 = .ok (.iload 6, 2) := zk_of (zk_r (zk_l (zk_r (zk_r (zk_r zdX0_narrowDown_103)))))
theorem dX0_narrowDown_166 : decode cX0_narrowDown 166 = .ok (.iload 7, 2) := zk_of (zk_l (zk_r (zk_r (zk_r (zk_r zdX0_narrowDown_103)))))
theorem dX0_narrowDown_168 : decode cX0_narrowDown 168 = .ok (.invokestatic 67, 3) := zk_of (zk_r (zk_r (zk_r (zk_r (zk_r zdX0_narrowDown_103)))))
set_option maxRecDepth 20000 in
theorem ggX0_narrowDown_X11_shine : GoodIn wsX0_narrowDown wsX11_shine := ggi (fun w h => List.mem_cons_of_mem _ (List.mem_append_left _ (List.mem_append_left _ (List.mem_append_left _ (List.mem_append_left _ (List.mem_append_left _ (List.mem_append_right _ (List.mem_append_left _ h)))))))) gs_X11_shine
set_option maxRecDepth 20000 in
theorem gX0_narrowDown_X11_shine_n47 : GoodIn wsX0_narrowDown (wsX11_shine) := ggX0_narrowDown_X11_shine
set_option maxRecDepth 20000 in
theorem ggX0_narrowDown_X11_within : GoodIn wsX0_narrowDown wsX11_within := ggi (fun w h => List.mem_cons_of_mem _ (List.mem_append_left _ (List.mem_append_left _ (List.mem_append_left _ (List.mem_append_left _ (List.mem_append_left _ (List.mem_append_right _ (List.mem_append_right _ (List.mem_append_left _ h))))))))) gs_X11_within
set_option maxRecDepth 20000 in
theorem gX0_narrowDown_X11_within_n67 : GoodIn wsX0_narrowDown (wsX11_within) := ggX0_narrowDown_X11_within
theorem zdX0_narrowDown_171 : (and (and (and (and (and (zk cX0_narrowDown 171 (.ifCond .ne 16) 3) (zk cX0_narrowDown 174 (.aload_n 0) 1)) (and (zk cX0_narrowDown 175 (.dup) 1) (zk cX0_narrowDown 176 (.getfield 30) 3))) (and (and (zk cX0_narrowDown 179 (.iconst 1) 1) (zk cX0_narrowDown 180 (.isub) 1)) (and (zk cX0_narrowDown 181 (.putfield 30) 3) (zk cX0_narrowDown 184 (.goto (-39)) 3)))) (and (and (and (zk cX0_narrowDown 187 (.iinc 2 1) 3) (zk cX0_narrowDown 190 (.goto (-176)) 3)) (and (zk cX0_narrowDown 14 (.iload_n 2) 1) (zk cX0_narrowDown 15 (.aload_n 0) 1))) (and (and (zk cX0_narrowDown 16 (.getfield 18) 3) (zk cX0_narrowDown 19 (.getfield 33) 3)) (and (zk cX0_narrowDown 22 (.if_icmp .ge 171) 3) (zk cX0_narrowDown 25 (.aload_n 0) 1))))) (and (and (and (and (zk cX0_narrowDown 26 (.getfield 18) 3) (zk cX0_narrowDown 29 (.iload_n 2) 1)) (and (zk cX0_narrowDown 30 (.iload_n 1) 1) (zk cX0_narrowDown 31 (.invokevirtual 38) 3))) (and (and (zk cX0_narrowDown 34 (.istore_n 3) 1) (zk cX0_narrowDown 35 (.aload_n 0) 1)) (and (zk cX0_narrowDown 36 (.getfield 22) 3) (zk cX0_narrowDown 39 (.getfield 42) 3)))) (and (and (and (zk cX0_narrowDown 42 (.iload_n 1) 1) (zk cX0_narrowDown 43 (.iaload) 1)) (and (zk cX0_narrowDown 44 (.iload_n 3) 1) (zk cX0_narrowDown 45 (.invokestatic 47) 3))) (and (and (zk cX0_narrowDown 48 (.istore 4) 2) (zk cX0_narrowDown 50 (.aload_n 0) 1)) (and (zk cX0_narrowDown 51 (.getfield 22) 3) (zk cX0_narrowDown 54 (.getfield 50) 3)))))) = true := by decide +kernel
theorem dX0_narrowDown_171 : decode cX0_narrowDown 171 = .ok (.ifCond .ne 16, 3) := zk_of (zk_l (zk_l (zk_l (zk_l (zk_l zdX0_narrowDown_171)))))
theorem dX0_narrowDown_174 : decode cX0_narrowDown 174 = .ok (.aload_n 0, 1) := zk_of (zk_r (zk_l (zk_l (zk_l (zk_l zdX0_narrowDown_171)))))
theorem dX0_narrowDown_175 : decode cX0_narrowDown 175 = .ok (.dup, 1) := zk_of (zk_l (zk_r (zk_l (zk_l (zk_l zdX0_narrowDown_171)))))
theorem dX0_narrowDown_176 : decode cX0_narrowDown 176 = .ok (.getfield 30, 3) := zk_of (zk_r (zk_r (zk_l (zk_l (zk_l zdX0_narrowDown_171)))))
theorem dX0_narrowDown_179 : decode cX0_narrowDown 179 = .ok (.iconst 1, 1) := zk_of (zk_l (zk_l (zk_r (zk_l (zk_l zdX0_narrowDown_171)))))
theorem dX0_narrowDown_180 : decode cX0_narrowDown 180 = .ok (.isub, 1) := zk_of (zk_r (zk_l (zk_r (zk_l (zk_l zdX0_narrowDown_171)))))
theorem dX0_narrowDown_181 : decode cX0_narrowDown 181 = .ok (.putfield 30, 3) := zk_of (zk_l (zk_r (zk_r (zk_l (zk_l zdX0_narrowDown_171)))))
theorem dX0_narrowDown_184 : decode cX0_narrowDown 184 = .ok (.goto (-39), 3) := zk_of (zk_r (zk_r (zk_r (zk_l (zk_l zdX0_narrowDown_171)))))
theorem dX0_narrowDown_187 : decode cX0_narrowDown 187 = .ok (.iinc 2 1, 3) := zk_of (zk_l (zk_l (zk_l (zk_r (zk_l zdX0_narrowDown_171)))))
theorem dX0_narrowDown_190 : decode cX0_narrowDown 190 = .ok (.goto (-176), 3) := zk_of (zk_r (zk_l (zk_l (zk_r (zk_l zdX0_narrowDown_171)))))
theorem dX0_narrowDown_14 : decode cX0_narrowDown 14 = .ok (.iload_n 2, 1) := zk_of (zk_l (zk_r (zk_l (zk_r (zk_l zdX0_narrowDown_171)))))
theorem dX0_narrowDown_15 : decode cX0_narrowDown 15 = .ok (.aload_n 0, 1) := zk_of (zk_r (zk_r (zk_l (zk_r (zk_l zdX0_narrowDown_171)))))
theorem dX0_narrowDown_16 : decode cX0_narrowDown 16 = .ok (.getfield 18, 3) := zk_of (zk_l (zk_l (zk_r (zk_r (zk_l zdX0_narrowDown_171)))))
theorem dX0_narrowDown_19 : decode cX0_narrowDown 19 = .ok (.getfield 33, 3) := zk_of (zk_r (zk_l (zk_r (zk_r (zk_l zdX0_narrowDown_171)))))
theorem dX0_narrowDown_22 : decode cX0_narrowDown 22 = .ok (.if_icmp .ge 171, 3) := zk_of (zk_l (zk_r (zk_r (zk_r (zk_l zdX0_narrowDown_171)))))
theorem dX0_narrowDown_25 : decode cX0_narrowDown 25 = .ok (.aload_n 0, 1) := zk_of (zk_r (zk_r (zk_r (zk_r (zk_l zdX0_narrowDown_171)))))
theorem dX0_narrowDown_26 : decode cX0_narrowDown 26 = .ok (.getfield 18, 3) := zk_of (zk_l (zk_l (zk_l (zk_l (zk_r zdX0_narrowDown_171)))))
theorem dX0_narrowDown_29 : decode cX0_narrowDown 29 = .ok (.iload_n 2, 1) := zk_of (zk_r (zk_l (zk_l (zk_l (zk_r zdX0_narrowDown_171)))))
theorem dX0_narrowDown_30 : decode cX0_narrowDown 30 = .ok (.iload_n 1, 1) := zk_of (zk_l (zk_r (zk_l (zk_l (zk_r zdX0_narrowDown_171)))))
theorem dX0_narrowDown_31 : decode cX0_narrowDown 31 = .ok (.invokevirtual 38, 3) := zk_of (zk_r (zk_r (zk_l (zk_l (zk_r zdX0_narrowDown_171)))))
theorem dX0_narrowDown_34 : decode cX0_narrowDown 34 = .ok (.istore_n 3, 1) := zk_of (zk_l (zk_l (zk_r (zk_l (zk_r zdX0_narrowDown_171)))))
theorem dX0_narrowDown_35 : decode cX0_narrowDown 35 = .ok (.aload_n 0, 1) := zk_of (zk_r (zk_l (zk_r (zk_l (zk_r zdX0_narrowDown_171)))))
theorem dX0_narrowDown_36 : decode cX0_narrowDown 36 = .ok (.getfield 22, 3) := zk_of (zk_l (zk_r (zk_r (zk_l (zk_r zdX0_narrowDown_171)))))
theorem dX0_narrowDown_39 : decode cX0_narrowDown 39 = .ok (.getfield 42, 3) := zk_of (zk_r (zk_r (zk_r (zk_l (zk_r zdX0_narrowDown_171)))))
theorem dX0_narrowDown_42 : decode cX0_narrowDown 42 = .ok (.iload_n 1, 1) := zk_of (zk_l (zk_l (zk_l (zk_r (zk_r zdX0_narrowDown_171)))))
theorem dX0_narrowDown_43 : decode cX0_narrowDown 43 = .ok (.iaload, 1) := zk_of (zk_r (zk_l (zk_l (zk_r (zk_r zdX0_narrowDown_171)))))
theorem dX0_narrowDown_44 : decode cX0_narrowDown 44 = .ok (.iload_n 3, 1) := zk_of (zk_l (zk_r (zk_l (zk_r (zk_r zdX0_narrowDown_171)))))
theorem dX0_narrowDown_45 : decode cX0_narrowDown 45 = .ok (.invokestatic 47, 3) := zk_of (zk_r (zk_r (zk_l (zk_r (zk_r zdX0_narrowDown_171)))))
theorem dX0_narrowDown_48 : decode cX0_narrowDown 48 = .ok (.istore 4, 2) := zk_of (zk_l (zk_l (zk_r (zk_r (zk_r zdX0_narrowDown_171)))))
theorem dX0_narrowDown_50 : decode cX0_narrowDown 50 = .ok (.aload_n 0, 1) := zk_of (zk_r (zk_l (zk_r (zk_r (zk_r zdX0_narrowDown_171)))))
theorem dX0_narrowDown_51 : decode cX0_narrowDown 51 = .ok (.getfield 22, 3) := zk_of (zk_l (zk_r (zk_r (zk_r (zk_r zdX0_narrowDown_171)))))
theorem dX0_narrowDown_54 : decode cX0_narrowDown 54 = .ok (.getfield 50, 3) := zk_of (zk_r (zk_r (zk_r (zk_r (zk_r zdX0_narrowDown_171)))))
set_option maxRecDepth 20000 in
theorem ggX0_narrowDown_X7_leanOf : GoodIn wsX0_narrowDown wsX7_leanOf := ggi (fun w h => List.mem_cons_of_mem _ (List.mem_append_left _ (List.mem_append_left _ (List.mem_append_left _ (List.mem_append_left _ (List.mem_append_left _ (List.mem_append_right _ (List.mem_append_right _ (List.mem_append_right _ h))))))))) gs_X7_leanOf
set_option maxRecDepth 20000 in
theorem gX0_narrowDown_X7_leanOf : GoodIn wsX0_narrowDown (wsV RX0 38 RX7 yX7_leanOf wsX7_leanOf) := goodIn_app (goodIn_of _ (by decide +kernel)) ggX0_narrowDown_X7_leanOf
theorem zdX0_narrowDown_57 : (and (and (and (and (and (zk cX0_narrowDown 57 (.iload_n 1) 1) (zk cX0_narrowDown 58 (.iaload) 1)) (and (zk cX0_narrowDown 59 (.iload_n 3) 1) (zk cX0_narrowDown 60 (.invokestatic 47) 3))) (and (and (zk cX0_narrowDown 63 (.istore 5) 2) (zk cX0_narrowDown 65 (.aload_n 0) 1)) (and (zk cX0_narrowDown 66 (.getfield 18) 3) (zk cX0_narrowDown 69 (.getfield 53) 3)))) (and (and (and (zk cX0_narrowDown 72 (.iload_n 2) 1) (zk cX0_narrowDown 73 (.iaload) 1)) (and (zk cX0_narrowDown 74 (.iload 4) 2) (zk cX0_narrowDown 76 (.iload 5) 2))) (and (and (zk cX0_narrowDown 78 (.invokestatic 56) 3) (zk cX0_narrowDown 81 (.iadd) 1)) (and (zk cX0_narrowDown 82 (.istore 6) 2) (zk cX0_narrowDown 84 (.aload_n 0) 1))))) (and (and (and (and (zk cX0_narrowDown 85 (.getfield 18) 3) (zk cX0_narrowDown 88 (.getfield 61) 3)) (and (zk cX0_narrowDown 91 (.iload_n 2) 1) (zk cX0_narrowDown 92 (.iaload) 1))) (and (and (zk cX0_narrowDown 93 (.iload 4) 2) (zk cX0_narrowDown 95 (.iload 5) 2)) (and (zk cX0_narrowDown 97 (.invokestatic 64) 3) (zk cX0_narrowDown 100 (.iadd) 1)))) (and (and (and (zk cX0_narrowDown 101 (.istore 7) 2) (zk cX0_narrowDown 193 (.aload_n 0) 1)) (and (zk cX0_narrowDown 194 (.getfield 26) 3) (zk cX0_narrowDown 197 (.aload_n 0) 1))) (and (and (zk cX0_narrowDown 198 (.getfield 30) 3) (zk cX0_narrowDown 201 (.if_icmp .gt 7) 3)) (and (zk cX0_narrowDown 208 (.iconst 0) 1) (zk cX0_narrowDown 209 (.ireturn) 1)))))) = true := by decide +kernel
theorem dX0_narrowDown_57 : decode cX0_narrowDown 57 = .ok (.iload_n 1, 1) := zk_of (zk_l (zk_l (zk_l (zk_l (zk_l zdX0_narrowDown_57)))))
theorem dX0_narrowDown_58 : decode cX0_narrowDown 58 = .ok (.iaload, 1) := zk_of (zk_r (zk_l (zk_l (zk_l (zk_l zdX0_narrowDown_57)))))
theorem dX0_narrowDown_59 : decode cX0_narrowDown 59 = .ok (.iload_n 3, 1) := zk_of (zk_l (zk_r (zk_l (zk_l (zk_l zdX0_narrowDown_57)))))
theorem dX0_narrowDown_60 : decode cX0_narrowDown 60 = .ok (.invokestatic 47, 3) := zk_of (zk_r (zk_r (zk_l (zk_l (zk_l zdX0_narrowDown_57)))))
theorem dX0_narrowDown_63 : decode cX0_narrowDown 63 = .ok (.istore 5, 2) := zk_of (zk_l (zk_l (zk_r (zk_l (zk_l zdX0_narrowDown_57)))))
theorem dX0_narrowDown_65 : decode cX0_narrowDown 65 = .ok (.aload_n 0, 1) := zk_of (zk_r (zk_l (zk_r (zk_l (zk_l zdX0_narrowDown_57)))))
theorem dX0_narrowDown_66 : decode cX0_narrowDown 66 = .ok (.getfield 18, 3) := zk_of (zk_l (zk_r (zk_r (zk_l (zk_l zdX0_narrowDown_57)))))
theorem dX0_narrowDown_69 : decode cX0_narrowDown 69 = .ok (.getfield 53, 3) := zk_of (zk_r (zk_r (zk_r (zk_l (zk_l zdX0_narrowDown_57)))))
theorem dX0_narrowDown_72 : decode cX0_narrowDown 72 = .ok (.iload_n 2, 1) := zk_of (zk_l (zk_l (zk_l (zk_r (zk_l zdX0_narrowDown_57)))))
theorem dX0_narrowDown_73 : decode cX0_narrowDown 73 = .ok (.iaload, 1) := zk_of (zk_r (zk_l (zk_l (zk_r (zk_l zdX0_narrowDown_57)))))
theorem dX0_narrowDown_74 : decode cX0_narrowDown 74 = .ok (.iload 4, 2) := zk_of (zk_l (zk_r (zk_l (zk_r (zk_l zdX0_narrowDown_57)))))
theorem dX0_narrowDown_76 : decode cX0_narrowDown 76 = .ok (.iload 5, 2) := zk_of (zk_r (zk_r (zk_l (zk_r (zk_l zdX0_narrowDown_57)))))
theorem dX0_narrowDown_78 : decode cX0_narrowDown 78 = .ok (.invokestatic 56, 3) := zk_of (zk_l (zk_l (zk_r (zk_r (zk_l zdX0_narrowDown_57)))))
theorem dX0_narrowDown_81 : decode cX0_narrowDown 81 = .ok (.iadd, 1) := zk_of (zk_r (zk_l (zk_r (zk_r (zk_l zdX0_narrowDown_57)))))
theorem dX0_narrowDown_82 : decode cX0_narrowDown 82 = .ok (.istore 6, 2) := zk_of (zk_l (zk_r (zk_r (zk_r (zk_l zdX0_narrowDown_57)))))
theorem dX0_narrowDown_84 : decode cX0_narrowDown 84 = .ok (.aload_n 0, 1) := zk_of (zk_r (zk_r (zk_r (zk_r (zk_l zdX0_narrowDown_57)))))
theorem dX0_narrowDown_85 : decode cX0_narrowDown 85 = .ok (.getfield 18, 3) := zk_of (zk_l (zk_l (zk_l (zk_l (zk_r zdX0_narrowDown_57)))))
theorem dX0_narrowDown_88 : decode cX0_narrowDown 88 = .ok (.getfield 61, 3) := zk_of (zk_r (zk_l (zk_l (zk_l (zk_r zdX0_narrowDown_57)))))
theorem dX0_narrowDown_91 : decode cX0_narrowDown 91 = .ok (.iload_n 2, 1) := zk_of (zk_l (zk_r (zk_l (zk_l (zk_r zdX0_narrowDown_57)))))
theorem dX0_narrowDown_92 : decode cX0_narrowDown 92 = .ok (.iaload, 1) := zk_of (zk_r (zk_r (zk_l (zk_l (zk_r zdX0_narrowDown_57)))))
theorem dX0_narrowDown_93 : decode cX0_narrowDown 93 = .ok (.iload 4, 2) := zk_of (zk_l (zk_l (zk_r (zk_l (zk_r zdX0_narrowDown_57)))))
theorem dX0_narrowDown_95 : decode cX0_narrowDown 95 = .ok (.iload 5, 2) := zk_of (zk_r (zk_l (zk_r (zk_l (zk_r zdX0_narrowDown_57)))))
theorem dX0_narrowDown_97 : decode cX0_narrowDown 97 = .ok (.invokestatic 64, 3) := zk_of (zk_l (zk_r (zk_r (zk_l (zk_r zdX0_narrowDown_57)))))
theorem dX0_narrowDown_100 : decode cX0_narrowDown 100 = .ok (.iadd, 1) := zk_of (zk_r (zk_r (zk_r (zk_l (zk_r zdX0_narrowDown_57)))))
theorem dX0_narrowDown_101 : decode cX0_narrowDown 101 = .ok (.istore 7, 2) := zk_of (zk_l (zk_l (zk_l (zk_r (zk_r zdX0_narrowDown_57)))))
theorem dX0_narrowDown_193 : decode cX0_narrowDown 193 = .ok (.aload_n 0, 1) := zk_of (zk_r (zk_l (zk_l (zk_r (zk_r zdX0_narrowDown_57)))))
theorem dX0_narrowDown_194 : decode cX0_narrowDown 194 = .ok (.getfield 26, 3) := zk_of (zk_l (zk_r (zk_l (zk_r (zk_r zdX0_narrowDown_57)))))
theorem dX0_narrowDown_197 : decode cX0_narrowDown 197 = .ok (.aload_n 0, 1) := zk_of (zk_r (zk_r (zk_l (zk_r (zk_r zdX0_narrowDown_57)))))
theorem dX0_narrowDown_198 : decode cX0_narrowDown 198 = .ok (.getfield 30, 3) := zk_of (zk_l (zk_l (zk_r (zk_r (zk_r zdX0_narrowDown_57)))))
theorem dX0_narrowDown_201 : decode cX0_narrowDown 201 = .ok (.if_icmp .gt 7, 3) := zk_of (zk_r (zk_l (zk_r (zk_r (zk_r zdX0_narrowDown_57)))))
theorem dX0_narrowDown_208 : decode cX0_narrowDown 208 = .ok (.iconst 0, 1) := zk_of (zk_l (zk_r (zk_r (zk_r (zk_r zdX0_narrowDown_57)))))
theorem dX0_narrowDown_209 : decode cX0_narrowDown 209 = .ok (.ireturn, 1) := zk_of (zk_r (zk_r (zk_r (zk_r (zk_r zdX0_narrowDown_57)))))
theorem zdX0_narrowDown_204 : (and (and (and (and (zk cX0_narrowDown 204 (.iconst 1) 1) (zk cX0_narrowDown 205 (.goto 4) 3)) (zk cX0_narrowDown 0 (.aload_n 0) 1)) (and (zk cX0_narrowDown 1 (.iconst 0) 1) (zk cX0_narrowDown 2 (.putfield 26) 3))) (and (and (and (zk cX0_narrowDown 5 (.aload_n 0) 1) (zk cX0_narrowDown 6 (.sipush 400) 3)) (zk cX0_narrowDown 9 (.putfield 30) 3)) (and (zk cX0_narrowDown 12 (.iconst 0) 1) (zk cX0_narrowDown 13 (.istore_n 2) 1)))) = true := by decide +kernel
theorem dX0_narrowDown_204 : decode cX0_narrowDown 204 = .ok (.iconst 1, 1) := zk_of (zk_l (zk_l (zk_l (zk_l zdX0_narrowDown_204))))
theorem dX0_narrowDown_205 : decode cX0_narrowDown 205 = .ok (.goto 4, 3) := zk_of (zk_r (zk_l (zk_l (zk_l zdX0_narrowDown_204))))
theorem dX0_narrowDown_0 : decode cX0_narrowDown 0 = .ok (.aload_n 0, 1) := zk_of (zk_r (zk_l (zk_l zdX0_narrowDown_204)))
theorem dX0_narrowDown_1 : decode cX0_narrowDown 1 = .ok (.iconst 0, 1) := zk_of (zk_l (zk_r (zk_l zdX0_narrowDown_204)))
theorem dX0_narrowDown_2 : decode cX0_narrowDown 2 = .ok (.putfield 26, 3) := zk_of (zk_r (zk_r (zk_l zdX0_narrowDown_204)))
theorem dX0_narrowDown_5 : decode cX0_narrowDown 5 = .ok (.aload_n 0, 1) := zk_of (zk_l (zk_l (zk_l (zk_r zdX0_narrowDown_204))))
theorem dX0_narrowDown_6 : decode cX0_narrowDown 6 = .ok (.sipush 400, 3) := zk_of (zk_r (zk_l (zk_l (zk_r zdX0_narrowDown_204))))
theorem dX0_narrowDown_9 : decode cX0_narrowDown 9 = .ok (.putfield 30, 3) := zk_of (zk_r (zk_l (zk_r zdX0_narrowDown_204)))
theorem dX0_narrowDown_12 : decode cX0_narrowDown 12 = .ok (.iconst 0, 1) := zk_of (zk_l (zk_r (zk_r zdX0_narrowDown_204)))
theorem dX0_narrowDown_13 : decode cX0_narrowDown 13 = .ok (.istore_n 2, 1) := zk_of (zk_r (zk_r (zk_r zdX0_narrowDown_204)))
/-- HissHorn$Blame.narrowDown(I)Z of cell 9 -/
def rmX0_narrowDown_9 : Room := { frames := 5, cells := 0, slots := 0, locals := 111 }
theorem hX0_narrowDown_9_X0 : ∀ w ∈ u_ws RX0 TX0 9, w ∈ wsX0_narrowDown := fun w h => (List.mem_cons_of_mem _ (List.mem_append_left _ (List.mem_append_left _ (List.mem_append_left _ (List.mem_append_left _ (List.mem_append_right _ h))))))
theorem mX0_narrowDown_9_1 : Cond.fieldLink RX0 26 "HissHorn$Blame" "least" "I" ∈ wsX0_narrowDown := (List.mem_cons_of_mem _ (List.mem_append_left _ (List.mem_append_left _ (List.mem_append_left _ (List.mem_append_left _ (List.mem_append_left _ (List.mem_append_left _ (List.mem_of_getElem? (i := 4) rfl))))))))
theorem mX0_narrowDown_9_2 : Cond.fieldLink RX0 30 "HissHorn$Blame" "greatest" "I" ∈ wsX0_narrowDown := (List.mem_cons_of_mem _ (List.mem_append_left _ (List.mem_append_left _ (List.mem_append_left _ (List.mem_append_left _ (List.mem_append_left _ (List.mem_append_left _ (List.mem_of_getElem? (i := 5) rfl))))))))
theorem mX0_narrowDown_9_3 : Cond.fieldLink RX0 18 "HissHorn$Blame" "readings" "LHissHorn$Readings;" ∈ wsX0_narrowDown := (List.mem_cons_of_mem _ (List.mem_append_left _ (List.mem_append_left _ (List.mem_append_left _ (List.mem_append_left _ (List.mem_append_left _ (List.mem_append_left _ (List.mem_of_getElem? (i := 6) rfl))))))))
theorem hX0_narrowDown_9_X7 : ∀ w ∈ u_ws RX7 TX7 12, w ∈ wsX0_narrowDown := fun w h => (List.mem_cons_of_mem _ (List.mem_append_left _ (List.mem_append_left _ (List.mem_append_left _ (List.mem_append_right _ h)))))
theorem mX0_narrowDown_9_5 : Cond.fieldLink RX0 33 "HissHorn$Readings" "known" "I" ∈ wsX0_narrowDown := (List.mem_cons_of_mem _ (List.mem_append_left _ (List.mem_append_left _ (List.mem_append_left _ (List.mem_append_left _ (List.mem_append_left _ (List.mem_append_left _ (List.mem_of_getElem? (i := 7) rfl))))))))
theorem mX0_narrowDown_9_6 : Cond.fieldLink RX0 22 "HissHorn$Blame" "parts" "LHissHorn$Parts;" ∈ wsX0_narrowDown := (List.mem_cons_of_mem _ (List.mem_append_left _ (List.mem_append_left _ (List.mem_append_left _ (List.mem_append_left _ (List.mem_append_left _ (List.mem_append_left _ (List.mem_of_getElem? (i := 8) rfl))))))))
theorem hX0_narrowDown_9_X6 : ∀ w ∈ u_ws RX6 TX6 17, w ∈ wsX0_narrowDown := fun w h => (List.mem_cons_of_mem _ (List.mem_append_left _ (List.mem_append_left _ (List.mem_append_right _ h))))
theorem mX0_narrowDown_9_8 : Cond.fieldLink RX0 42 "HissHorn$Parts" "low" "[I" ∈ wsX0_narrowDown := (List.mem_cons_of_mem _ (List.mem_append_left _ (List.mem_append_left _ (List.mem_append_left _ (List.mem_append_left _ (List.mem_append_left _ (List.mem_append_left _ (List.mem_of_getElem? (i := 9) rfl))))))))
theorem mX0_narrowDown_9_9 : Cond.initialized RX11 ∈ wsX0_narrowDown := (List.mem_cons_of_mem _ (List.mem_append_left _ (List.mem_append_left _ (List.mem_append_left _ (List.mem_append_left _ (List.mem_append_left _ (List.mem_append_left _ (List.mem_of_getElem? (i := 10) rfl))))))))
theorem mX0_narrowDown_9_10 : Cond.static yX11_shine ∈ wsX0_narrowDown := (List.mem_cons_of_mem _ (List.mem_append_left _ (List.mem_append_left _ (List.mem_append_left _ (List.mem_append_left _ (List.mem_append_left _ (List.mem_append_left _ (List.mem_of_getElem? (i := 11) rfl))))))))
theorem mX0_narrowDown_9_11 : Cond.fieldLink RX0 50 "HissHorn$Parts" "high" "[I" ∈ wsX0_narrowDown := (List.mem_cons_of_mem _ (List.mem_append_left _ (List.mem_append_left _ (List.mem_append_left _ (List.mem_append_left _ (List.mem_append_left _ (List.mem_append_left _ (List.mem_of_getElem? (i := 12) rfl))))))))
theorem mX0_narrowDown_9_12 : Cond.fieldLink RX0 53 "HissHorn$Readings" "lower" "[I" ∈ wsX0_narrowDown := (List.mem_cons_of_mem _ (List.mem_append_left _ (List.mem_append_left _ (List.mem_append_left _ (List.mem_append_left _ (List.mem_append_left _ (List.mem_append_left _ (List.mem_of_getElem? (i := 13) rfl))))))))
theorem mX0_narrowDown_9_13 : Cond.methodLink RX0 56 Lib.Math.max.name ∈ wsX0_narrowDown := (List.mem_cons_of_mem _ (List.mem_append_left _ (List.mem_append_left _ (List.mem_append_left _ (List.mem_append_left _ (List.mem_append_left _ (List.mem_append_left _ (List.mem_of_getElem? (i := 14) rfl))))))))
theorem mX0_narrowDown_9_14 : Cond.static Lib.Math.max.name ∈ wsX0_narrowDown := (List.mem_cons_of_mem _ (List.mem_append_left _ (List.mem_append_left _ (List.mem_append_left _ (List.mem_append_left _ (List.mem_append_left _ (List.mem_append_left _ (List.mem_of_getElem? (i := 15) rfl))))))))
theorem mX0_narrowDown_9_15 : Cond.initialized "java/lang/Math" ∈ wsX0_narrowDown := (List.mem_cons_of_mem _ (List.mem_append_left _ (List.mem_append_left _ (List.mem_append_left _ (List.mem_append_left _ (List.mem_append_left _ (List.mem_append_left _ (List.mem_of_getElem? (i := 16) rfl))))))))
theorem mX0_narrowDown_9_16 : Cond.code Lib.Math.max.name Lib.Math.max.code 2 (some .int) ∈ wsX0_narrowDown := (List.mem_cons_of_mem _ (List.mem_append_left _ (List.mem_append_left _ (List.mem_append_left _ (List.mem_append_left _ (List.mem_append_left _ (List.mem_append_left _ (List.mem_of_getElem? (i := 17) rfl))))))))
theorem mX0_narrowDown_9_17 : Cond.fieldLink RX0 61 "HissHorn$Readings" "upper" "[I" ∈ wsX0_narrowDown := (List.mem_cons_of_mem _ (List.mem_append_left _ (List.mem_append_left _ (List.mem_append_left _ (List.mem_append_left _ (List.mem_append_left _ (List.mem_append_left _ (List.mem_of_getElem? (i := 18) rfl))))))))
theorem mX0_narrowDown_9_18 : Cond.methodLink RX0 64 Lib.Math.min.name ∈ wsX0_narrowDown := (List.mem_cons_of_mem _ (List.mem_append_left _ (List.mem_append_left _ (List.mem_append_left _ (List.mem_append_left _ (List.mem_append_left _ (List.mem_append_left _ (List.mem_of_getElem? (i := 19) rfl))))))))
theorem mX0_narrowDown_9_19 : Cond.static Lib.Math.min.name ∈ wsX0_narrowDown := (List.mem_cons_of_mem _ (List.mem_append_left _ (List.mem_append_left _ (List.mem_append_left _ (List.mem_append_left _ (List.mem_append_left _ (List.mem_append_left _ (List.mem_of_getElem? (i := 20) rfl))))))))
theorem mX0_narrowDown_9_20 : Cond.code Lib.Math.min.name Lib.Math.min.code 2 (some .int) ∈ wsX0_narrowDown := (List.mem_cons_of_mem _ (List.mem_append_left _ (List.mem_append_left _ (List.mem_append_left _ (List.mem_append_left _ (List.mem_append_left _ (List.mem_append_left _ (List.mem_of_getElem? (i := 21) rfl))))))))
theorem mX0_narrowDown_9_21 : Cond.static yX11_within ∈ wsX0_narrowDown := (List.mem_cons_of_mem _ (List.mem_append_left _ (List.mem_append_left _ (List.mem_append_left _ (List.mem_append_left _ (List.mem_append_left _ (List.mem_append_left _ (List.mem_of_getElem? (i := 22) rfl))))))))
def LX0_narrowDown_9_103 (k145 : Int32 → Int32 → Int32 → Int32 → Int32 → SX → Option (Int32 × SX)) : Nat → Int32 → Int32 → Int32 → Int32 → Int32 → SX → Option (Int32 × SX)
  | 0, _, _, _, _, _, _ => none
  | n + 1, z1, z2, z3, z6, z7, u => (if (u.1 25) < (u.1 24) then (k145 z1 z2 z3 z6 z7 u) else ((fX11_shine (u.1 24) z3).bind fun r22 => ((fX11_within r22 z6 z7).bind fun r25 => (if r25 = 0 then (lt (sI u 24 ((u.1 24) + 1)) fun u28 => ((LX0_narrowDown_9_103 k145 n) z1 z2 z3 z6 z7 u28)) else (k145 z1 z2 z3 z6 z7 u)))))
def LX0_narrowDown_9_145 (k187 : Int32 → Int32 → SX → Option (Int32 × SX)) : Nat → Int32 → Int32 → Int32 → Int32 → Int32 → SX → Option (Int32 × SX)
  | 0, _, _, _, _, _, _ => none
  | n + 1, z1, z2, z3, z6, z7, u => (if (u.1 25) < (u.1 24) then (k187 z1 z2 u) else ((fX11_shine (u.1 25) z3).bind fun r30 => ((fX11_within r30 z6 z7).bind fun r33 => (if r33 = 0 then (lt (sI u 25 ((u.1 25) - 1)) fun u36 => ((LX0_narrowDown_9_145 k187 n) z1 z2 z3 z6 z7 u36)) else (k187 z1 z2 u)))))
def GX0_narrowDown_9_187 (k14 : Int32 → Int32 → SX → Option (Int32 × SX)) (z1 : Int32) (z2 : Int32) (u : SX) : Option (Int32 × SX) := (k14 z1 (z2 + 1) u)
def LX0_narrowDown_9_14 (k193 : SX → Option (Int32 × SX)) : Nat → Int32 → Int32 → SX → Option (Int32 × SX)
  | 0, _, _, _ => none
  | n + 1, z1, z2, u => (if (u.1 14) ≤ z2 then (k193 u) else ((fX7_leanOf_7 z2 z1 u).bind fun q => match q with | (r5, u6) => (gd (inb z1 12) ((fX11_shine (u6.2.1 27 z1.toNatClampNeg) r5).bind fun r9 => (gd (inb z1 12) ((fX11_shine (u6.2.1 28 z1.toNatClampNeg) r5).bind fun r13 => (gd (inb z2 80) (lt ((u6.2.1 38 z2.toNatClampNeg) + (if r9 < r13 then r13 else r9)) fun v17 => (gd (inb z2 80) (lt ((u6.2.1 39 z2.toNatClampNeg) + (if r13 < r9 then r13 else r9)) fun v20 => (LX0_narrowDown_9_103 (LX0_narrowDown_9_145 (GX0_narrowDown_9_187 (LX0_narrowDown_9_14 k193 n)) 5000) 5000 z1 z2 r5 v17 v20 u6)))))))))))
def GX0_narrowDown_9_193  (u : SX) : Option (Int32 × SX) := (if (u.1 25) < (u.1 24) then (gd (isB 0) (some (0, u))) else (gd (isB 1) (some (1, u))))
def fX0_narrowDown_9 (x1 : Int32) (u : SX) : Option (Int32 × SX) := (lt (sI u 24 0) fun u1 => (lt (sI u1 25 400) fun u3 => (LX0_narrowDown_9_14 GX0_narrowDown_9_193 5000 x1 0 u3)))
set_option maxHeartbeats 4000000 in
set_option maxRecDepth 100000 in
theorem wLX0_narrowDown_9_103 {p : Program} {l : Launch} {e : Env} {s : State} {m : MethodId} {args : Array Value} {below : List Frame} {meth : Method} {c : Code} {D : va_G} {cy : Nat → ClassId} {ad st : Nat → Nat} (C : Cx RX0 cX0_narrowDown 8 (some .boolean) wsX0_narrowDown p s m args meth c) (hK : Ky D [(cy 0, .int), (cy 1, .long), (cy 2, .boolean), (cy 3, .byte), (cy 4, .object "HissHorn$Text")] st s) (hJ : JX ad st) {r : Int32} {u' : SX} {k145 : Int32 → Int32 → Int32 → Int32 → Int32 → SX → Option (Int32 × SX)} (hk145 : ∀ (z1 : Int32) (z2 : Int32) (z3 : Int32) (z6 : Int32) (z7 : Int32) (u : SX) (H : Heap) (locs : List Loc) (ls : Array Slot), k145 z1 z2 z3 z6 z7 u = some (r, u') → va_P D vwCl (VX cy ad st u) H → va_S (Ax (AX ad) s.heap.size) s.heap H locs → lv_has ls 8 [(0, .ref (ad 9)), (1, .int z1), (2, .int z2), (3, .int z3), (6, .int z6), (7, .int z7)] → W p l e rmX0_narrowDown_9 s m args below meth c H locs 0 0 (MQ below (Qi D (VX cy ad st) (AX ad) s.heap.size r u') args s 0 0 (Ax (AX ad) s.heap.size)) (F0 m 145 ls [])) : ∀ (n : Nat) (z1 : Int32) (z2 : Int32) (z3 : Int32) (z6 : Int32) (z7 : Int32) (u : SX) (H : Heap) (locs : List Loc) (ls : Array Slot), LX0_narrowDown_9_103 k145 n z1 z2 z3 z6 z7 u = some (r, u') → va_P D vwCl (VX cy ad st u) H → va_S (Ax (AX ad) s.heap.size) s.heap H locs → lv_has ls 8 [(0, .ref (ad 9)), (1, .int z1), (2, .int z2), (3, .int z3), (6, .int z6), (7, .int z7)] → W p l e rmX0_narrowDown_9 s m args below meth c H locs 0 0 (MQ below (Qi D (VX cy ad st) (AX ad) s.heap.size r u') args s 0 0 (Ax (AX ad) s.heap.size)) (F0 m 103 ls []) := by
  intro n
  induction n with
  | zero =>
    intro z1 z2 z3 z6 z7 u H locs ls h
    exact absurd h (by intro q; cases q)
  | succ n ih =>
    intro z1 z2 z3 z6 z7 u H locs ls h hP hS hl
    rw [LX0_narrowDown_9_103] at h
    refine lv_aload_n C.1 C.2.1 dX0_narrowDown_103 rfl (lv_at hl 0 rfl) ?_
    refine gX_9_least C hX0_narrowDown_9_X0 hK hP mX0_narrowDown_9_1 dX0_narrowDown_104 ?_
    refine lv_aload_n C.1 C.2.1 dX0_narrowDown_107 rfl (lv_at hl 0 rfl) ?_
    refine gX_9_greatest C hX0_narrowDown_9_X0 hK hP mX0_narrowDown_9_2 dX0_narrowDown_108 ?_
    refine lv_icmp_gt (tgt := 145) C.1 C.2.1 dX0_narrowDown_111 (by decide) (fun c111 => ?_) (fun c111 => ?_)
    · rw [if_pos c111] at h
      exact hk145 _ _ _ _ _ _ _ _ _ h hP hS hl
    · rw [if_neg c111] at h
      refine lv_aload_n C.1 C.2.1 dX0_narrowDown_114 rfl (lv_at hl 0 rfl) ?_
      refine gX_9_least C hX0_narrowDown_9_X0 hK hP mX0_narrowDown_9_1 dX0_narrowDown_115 ?_
      refine lv_iload_n C.1 C.2.1 dX0_narrowDown_118 rfl (lv_at hl 3 rfl) ?_
      obtain ⟨r22, hc24, h⟩ := bd_some h
      refine csn_i (As := [.int (u.1 24), .int z3]) (rest := []) (AX_ge hJ) C hK hP hS (metX11_shine l D cy st _ (u.1 24) z3 hc24) ⟨va_cnB 2 C.2.2.2.2.2.1 gX0_narrowDown_X11_shine_n47 rfl rfl rfl (hK.2.1 (RX0, 47, yX11_shine) (by decide +kernel)) (C.2.2.2.2.2.1 _ mX0_narrowDown_9_9) (by decide +kernel) ⟨(Nat.le_of_ble_eq_true rfl), (Nat.le_of_ble_eq_true rfl)⟩, C.2.2.2.2.2.1 _ mX0_narrowDown_9_10, trivial⟩ rfl hl.1 rfl (Nat.le_of_ble_eq_true rfl) dX0_narrowDown_119 ⟨Nat.zero_le _, Nat.zero_le _⟩ (fun H locs hP hS => ?_)
      refine lv_iload C.1 C.2.1 dX0_narrowDown_122 (lv_at hl 4 rfl) ?_
      refine lv_iload C.1 C.2.1 dX0_narrowDown_124 (lv_at hl 5 rfl) ?_
      obtain ⟨r25, hc27, h⟩ := bd_some h
      refine csn_i (As := [.int r22, .int z6, .int z7]) (rest := []) (AX_ge hJ) C hK hP hS (metX11_within l D cy st _ r22 z6 z7 hc27) ⟨va_cnB 3 C.2.2.2.2.2.1 gX0_narrowDown_X11_within_n67 rfl rfl rfl (hK.2.1 (RX0, 67, yX11_within) (by decide +kernel)) (C.2.2.2.2.2.1 _ mX0_narrowDown_9_9) (by decide +kernel) ⟨(Nat.le_of_ble_eq_true rfl), (Nat.le_of_ble_eq_true rfl)⟩, C.2.2.2.2.2.1 _ mX0_narrowDown_9_21, trivial⟩ rfl hl.1 rfl (Nat.le_of_ble_eq_true rfl) dX0_narrowDown_126 ⟨Nat.zero_le _, Nat.zero_le _⟩ (fun H locs hP hS => ?_)
      refine lv_if_ne (tgt := 145) C.1 C.2.1 dX0_narrowDown_129 (by decide) (fun c129 => ?_) (fun c129 => ?_)
      · rw [if_neg c129] at h
        exact hk145 _ _ _ _ _ _ _ _ _ h hP hS hl
      · rw [if_pos c129] at h
        refine lv_aload_n C.1 C.2.1 dX0_narrowDown_132 rfl (lv_at hl 0 rfl) ?_
        refine lv_dup C.1 C.2.1 dX0_narrowDown_133 rfl ?_
        refine gX_9_least C hX0_narrowDown_9_X0 hK hP mX0_narrowDown_9_1 dX0_narrowDown_134 ?_
        refine lv_iconst (v := 1) C.1 C.2.1 dX0_narrowDown_137 (by decide) ?_
        refine lv_iadd C.1 C.2.1 dX0_narrowDown_138 ?_
        refine pX_9_least C hX0_narrowDown_9_X0 hK hP hJ hS mX0_narrowDown_9_1 dX0_narrowDown_139 (fun H locs hP hS => ?_)
        obtain ⟨u28, hu29, h⟩ := lt_some h
        rw [← hu29] at hP
        refine lv_goto (tgt := 103) C.1 C.2.1 dX0_narrowDown_142 (by decide) ?_
        exact ih _ _ _ _ _ _ _ _ _ h hP hS hl
set_option maxHeartbeats 4000000 in
set_option maxRecDepth 100000 in
theorem wLX0_narrowDown_9_145 {p : Program} {l : Launch} {e : Env} {s : State} {m : MethodId} {args : Array Value} {below : List Frame} {meth : Method} {c : Code} {D : va_G} {cy : Nat → ClassId} {ad st : Nat → Nat} (C : Cx RX0 cX0_narrowDown 8 (some .boolean) wsX0_narrowDown p s m args meth c) (hK : Ky D [(cy 0, .int), (cy 1, .long), (cy 2, .boolean), (cy 3, .byte), (cy 4, .object "HissHorn$Text")] st s) (hJ : JX ad st) {r : Int32} {u' : SX} {k187 : Int32 → Int32 → SX → Option (Int32 × SX)} (hk187 : ∀ (z1 : Int32) (z2 : Int32) (u : SX) (H : Heap) (locs : List Loc) (ls : Array Slot), k187 z1 z2 u = some (r, u') → va_P D vwCl (VX cy ad st u) H → va_S (Ax (AX ad) s.heap.size) s.heap H locs → lv_has ls 8 [(0, .ref (ad 9)), (1, .int z1), (2, .int z2)] → W p l e rmX0_narrowDown_9 s m args below meth c H locs 0 0 (MQ below (Qi D (VX cy ad st) (AX ad) s.heap.size r u') args s 0 0 (Ax (AX ad) s.heap.size)) (F0 m 187 ls [])) : ∀ (n : Nat) (z1 : Int32) (z2 : Int32) (z3 : Int32) (z6 : Int32) (z7 : Int32) (u : SX) (H : Heap) (locs : List Loc) (ls : Array Slot), LX0_narrowDown_9_145 k187 n z1 z2 z3 z6 z7 u = some (r, u') → va_P D vwCl (VX cy ad st u) H → va_S (Ax (AX ad) s.heap.size) s.heap H locs → lv_has ls 8 [(0, .ref (ad 9)), (1, .int z1), (2, .int z2), (3, .int z3), (6, .int z6), (7, .int z7)] → W p l e rmX0_narrowDown_9 s m args below meth c H locs 0 0 (MQ below (Qi D (VX cy ad st) (AX ad) s.heap.size r u') args s 0 0 (Ax (AX ad) s.heap.size)) (F0 m 145 ls []) := by
  intro n
  induction n with
  | zero =>
    intro z1 z2 z3 z6 z7 u H locs ls h
    exact absurd h (by intro q; cases q)
  | succ n ih =>
    intro z1 z2 z3 z6 z7 u H locs ls h hP hS hl
    rw [LX0_narrowDown_9_145] at h
    refine lv_aload_n C.1 C.2.1 dX0_narrowDown_145 rfl (lv_at hl 0 rfl) ?_
    refine gX_9_least C hX0_narrowDown_9_X0 hK hP mX0_narrowDown_9_1 dX0_narrowDown_146 ?_
    refine lv_aload_n C.1 C.2.1 dX0_narrowDown_149 rfl (lv_at hl 0 rfl) ?_
    refine gX_9_greatest C hX0_narrowDown_9_X0 hK hP mX0_narrowDown_9_2 dX0_narrowDown_150 ?_
    refine lv_icmp_gt (tgt := 187) C.1 C.2.1 dX0_narrowDown_153 (by decide) (fun c153 => ?_) (fun c153 => ?_)
    · rw [if_pos c153] at h
      exact hk187 _ _ _ _ _ _ h hP hS (lv_sub hl [0, 1, 2] rfl)
    · rw [if_neg c153] at h
      refine lv_aload_n C.1 C.2.1 dX0_narrowDown_156 rfl (lv_at hl 0 rfl) ?_
      refine gX_9_greatest C hX0_narrowDown_9_X0 hK hP mX0_narrowDown_9_2 dX0_narrowDown_157 ?_
      refine lv_iload_n C.1 C.2.1 dX0_narrowDown_160 rfl (lv_at hl 3 rfl) ?_
      obtain ⟨r30, hc32, h⟩ := bd_some h
      refine csn_i (As := [.int (u.1 25), .int z3]) (rest := []) (AX_ge hJ) C hK hP hS (metX11_shine l D cy st _ (u.1 25) z3 hc32) ⟨va_cnB 2 C.2.2.2.2.2.1 gX0_narrowDown_X11_shine_n47 rfl rfl rfl (hK.2.1 (RX0, 47, yX11_shine) (by decide +kernel)) (C.2.2.2.2.2.1 _ mX0_narrowDown_9_9) (by decide +kernel) ⟨(Nat.le_of_ble_eq_true rfl), (Nat.le_of_ble_eq_true rfl)⟩, C.2.2.2.2.2.1 _ mX0_narrowDown_9_10, trivial⟩ rfl hl.1 rfl (Nat.le_of_ble_eq_true rfl) dX0_narrowDown_161 ⟨Nat.zero_le _, Nat.zero_le _⟩ (fun H locs hP hS => ?_)
      refine lv_iload C.1 C.2.1 dX0_narrowDown_164 (lv_at hl 4 rfl) ?_
      refine lv_iload C.1 C.2.1 dX0_narrowDown_166 (lv_at hl 5 rfl) ?_
      obtain ⟨r33, hc35, h⟩ := bd_some h
      refine csn_i (As := [.int r30, .int z6, .int z7]) (rest := []) (AX_ge hJ) C hK hP hS (metX11_within l D cy st _ r30 z6 z7 hc35) ⟨va_cnB 3 C.2.2.2.2.2.1 gX0_narrowDown_X11_within_n67 rfl rfl rfl (hK.2.1 (RX0, 67, yX11_within) (by decide +kernel)) (C.2.2.2.2.2.1 _ mX0_narrowDown_9_9) (by decide +kernel) ⟨(Nat.le_of_ble_eq_true rfl), (Nat.le_of_ble_eq_true rfl)⟩, C.2.2.2.2.2.1 _ mX0_narrowDown_9_21, trivial⟩ rfl hl.1 rfl (Nat.le_of_ble_eq_true rfl) dX0_narrowDown_168 ⟨Nat.zero_le _, Nat.zero_le _⟩ (fun H locs hP hS => ?_)
      refine lv_if_ne (tgt := 187) C.1 C.2.1 dX0_narrowDown_171 (by decide) (fun c171 => ?_) (fun c171 => ?_)
      · rw [if_neg c171] at h
        exact hk187 _ _ _ _ _ _ h hP hS (lv_sub hl [0, 1, 2] rfl)
      · rw [if_pos c171] at h
        refine lv_aload_n C.1 C.2.1 dX0_narrowDown_174 rfl (lv_at hl 0 rfl) ?_
        refine lv_dup C.1 C.2.1 dX0_narrowDown_175 rfl ?_
        refine gX_9_greatest C hX0_narrowDown_9_X0 hK hP mX0_narrowDown_9_2 dX0_narrowDown_176 ?_
        refine lv_iconst (v := 1) C.1 C.2.1 dX0_narrowDown_179 (by decide) ?_
        refine lv_isub C.1 C.2.1 dX0_narrowDown_180 ?_
        refine pX_9_greatest C hX0_narrowDown_9_X0 hK hP hJ hS mX0_narrowDown_9_2 dX0_narrowDown_181 (fun H locs hP hS => ?_)
        obtain ⟨u36, hu37, h⟩ := lt_some h
        rw [← hu37] at hP
        refine lv_goto (tgt := 145) C.1 C.2.1 dX0_narrowDown_184 (by decide) ?_
        exact ih _ _ _ _ _ _ _ _ _ h hP hS hl
set_option maxHeartbeats 4000000 in
set_option maxRecDepth 100000 in
theorem wGX0_narrowDown_9_187 {p : Program} {l : Launch} {e : Env} {s : State} {m : MethodId} {args : Array Value} {below : List Frame} {meth : Method} {c : Code} {D : va_G} {cy : Nat → ClassId} {ad st : Nat → Nat} (C : Cx RX0 cX0_narrowDown 8 (some .boolean) wsX0_narrowDown p s m args meth c) (hK : Ky D [(cy 0, .int), (cy 1, .long), (cy 2, .boolean), (cy 3, .byte), (cy 4, .object "HissHorn$Text")] st s) (hJ : JX ad st) {r : Int32} {u' : SX} {k14 : Int32 → Int32 → SX → Option (Int32 × SX)} (hk14 : ∀ (z1 : Int32) (z2 : Int32) (u : SX) (H : Heap) (locs : List Loc) (ls : Array Slot), k14 z1 z2 u = some (r, u') → va_P D vwCl (VX cy ad st u) H → va_S (Ax (AX ad) s.heap.size) s.heap H locs → lv_has ls 8 [(0, .ref (ad 9)), (1, .int z1), (2, .int z2)] → W p l e rmX0_narrowDown_9 s m args below meth c H locs 0 0 (MQ below (Qi D (VX cy ad st) (AX ad) s.heap.size r u') args s 0 0 (Ax (AX ad) s.heap.size)) (F0 m 14 ls [])) (z1 : Int32) (z2 : Int32) (u : SX) (H : Heap) (locs : List Loc) (ls : Array Slot) (h : GX0_narrowDown_9_187 k14 z1 z2 u = some (r, u')) (hP : va_P D vwCl (VX cy ad st u) H) (hS : va_S (Ax (AX ad) s.heap.size) s.heap H locs) (hl : lv_has ls 8 [(0, .ref (ad 9)), (1, .int z1), (2, .int z2)]) : W p l e rmX0_narrowDown_9 s m args below meth c H locs 0 0 (MQ below (Qi D (VX cy ad st) (AX ad) s.heap.size r u') args s 0 0 (Ax (AX ad) s.heap.size)) (F0 m 187 ls []) := by
  unfold GX0_narrowDown_9_187 at h
  refine lv_iinc (v := z2 + 1) (lv' := [(2, .int (z2 + 1)), (0, .ref (ad 9)), (1, .int z1)]) C.1 C.2.1 dX0_narrowDown_187 hl (k := 2) rfl rfl (by decide) rfl (fun ls hl => ?_)
  replace hl := lv_sub (l' := [(0, .ref (ad 9)), (1, .int z1), (2, .int (z2 + 1))]) hl [1, 2, 0] rfl
  refine lv_goto (tgt := 14) C.1 C.2.1 dX0_narrowDown_190 (by decide) ?_
  exact hk14 _ _ _ _ _ _ h hP hS hl
set_option maxHeartbeats 4000000 in
set_option maxRecDepth 100000 in
theorem wLX0_narrowDown_9_14 {p : Program} {l : Launch} {e : Env} {s : State} {m : MethodId} {args : Array Value} {below : List Frame} {meth : Method} {c : Code} {D : va_G} {cy : Nat → ClassId} {ad st : Nat → Nat} (C : Cx RX0 cX0_narrowDown 8 (some .boolean) wsX0_narrowDown p s m args meth c) (hK : Ky D [(cy 0, .int), (cy 1, .long), (cy 2, .boolean), (cy 3, .byte), (cy 4, .object "HissHorn$Text")] st s) (hJ : JX ad st) {r : Int32} {u' : SX} {k193 : SX → Option (Int32 × SX)} (hk193 : ∀  (u : SX) (H : Heap) (locs : List Loc) (ls : Array Slot), k193 u = some (r, u') → va_P D vwCl (VX cy ad st u) H → va_S (Ax (AX ad) s.heap.size) s.heap H locs → lv_has ls 8 [(0, .ref (ad 9))] → W p l e rmX0_narrowDown_9 s m args below meth c H locs 0 0 (MQ below (Qi D (VX cy ad st) (AX ad) s.heap.size r u') args s 0 0 (Ax (AX ad) s.heap.size)) (F0 m 193 ls [])) : ∀ (n : Nat) (z1 : Int32) (z2 : Int32) (u : SX) (H : Heap) (locs : List Loc) (ls : Array Slot), LX0_narrowDown_9_14 k193 n z1 z2 u = some (r, u') → va_P D vwCl (VX cy ad st u) H → va_S (Ax (AX ad) s.heap.size) s.heap H locs → lv_has ls 8 [(0, .ref (ad 9)), (1, .int z1), (2, .int z2)] → W p l e rmX0_narrowDown_9 s m args below meth c H locs 0 0 (MQ below (Qi D (VX cy ad st) (AX ad) s.heap.size r u') args s 0 0 (Ax (AX ad) s.heap.size)) (F0 m 14 ls []) := by
  intro n
  induction n with
  | zero =>
    intro z1 z2 u H locs ls h
    exact absurd h (by intro q; cases q)
  | succ n ih =>
    intro z1 z2 u H locs ls h hP hS hl
    rw [LX0_narrowDown_9_14] at h
    refine lv_iload_n C.1 C.2.1 dX0_narrowDown_14 rfl (lv_at hl 2 rfl) ?_
    refine lv_aload_n C.1 C.2.1 dX0_narrowDown_15 rfl (lv_at hl 0 rfl) ?_
    refine gX_9_readings C hX0_narrowDown_9_X0 hK hP mX0_narrowDown_9_3 dX0_narrowDown_16 ?_
    refine gX_7_known C hX0_narrowDown_9_X7 hK hP mX0_narrowDown_9_5 dX0_narrowDown_19 ?_
    refine lv_icmp_ge (tgt := 193) C.1 C.2.1 dX0_narrowDown_22 (by decide) (fun c22 => ?_) (fun c22 => ?_)
    · rw [if_pos c22] at h
      exact hk193 _ _ _ _ h hP hS (lv_sub hl [0] rfl)
    · rw [if_neg c22] at h
      refine lv_aload_n C.1 C.2.1 dX0_narrowDown_25 rfl (lv_at hl 0 rfl) ?_
      refine gX_9_readings C hX0_narrowDown_9_X0 hK hP mX0_narrowDown_9_3 dX0_narrowDown_26 ?_
      refine lv_iload_n C.1 C.2.1 dX0_narrowDown_29 rfl (lv_at hl 2 rfl) ?_
      refine lv_iload_n C.1 C.2.1 dX0_narrowDown_30 rfl (lv_at hl 1 rfl) ?_
      obtain ⟨⟨r5, u6⟩, hc7, h⟩ := bd_some h
      try dsimp only at h
      refine cg_i (As := [.int z2, .int z1]) (rest := []) (AX_ge hJ) C hK hP hS (metX7_leanOf_7 l D cy ad st hJ _ z2 z1 hc7) (cwV 2 C.2.2.2.2.2.1 gX0_narrowDown_X7_leanOf rfl rfl rfl (by decide +kernel) ⟨(Nat.le_of_ble_eq_true rfl), (Nat.le_of_ble_eq_true rfl)⟩) 7 7 rfl rfl rfl hl.1 rfl (Nat.le_of_ble_eq_true rfl) dX0_narrowDown_31 ⟨Nat.zero_le _, Nat.zero_le _⟩ (fun H locs hP hS => ?_)
      refine lv_istore_n (lv' := [(3, .int r5), (0, .ref (ad 9)), (1, .int z1), (2, .int z2)]) C.1 C.2.1 dX0_narrowDown_34 rfl hl (by decide) rfl (fun ls hl => ?_)
      replace hl := lv_sub (l' := [(0, .ref (ad 9)), (1, .int z1), (2, .int z2), (3, .int r5)]) hl [1, 2, 3, 0] rfl
      refine lv_aload_n C.1 C.2.1 dX0_narrowDown_35 rfl (lv_at hl 0 rfl) ?_
      refine gX_9_parts C hX0_narrowDown_9_X0 hK hP mX0_narrowDown_9_6 dX0_narrowDown_36 ?_
      refine gX_6_low C hX0_narrowDown_9_X6 hK hP mX0_narrowDown_9_8 dX0_narrowDown_39 ?_
      refine lv_iload_n C.1 C.2.1 dX0_narrowDown_42 rfl (lv_at hl 1 rfl) ?_
      obtain ⟨hg8, h⟩ := gd_some h
      refine lX_27 C hK hP hg8 dX0_narrowDown_43 ?_
      refine lv_iload_n C.1 C.2.1 dX0_narrowDown_44 rfl (lv_at hl 3 rfl) ?_
      obtain ⟨r9, hc11, h⟩ := bd_some h
      refine csn_i (As := [.int (u6.2.1 27 z1.toNatClampNeg), .int r5]) (rest := []) (AX_ge hJ) C hK hP hS (metX11_shine l D cy st _ (u6.2.1 27 z1.toNatClampNeg) r5 hc11) ⟨va_cnB 2 C.2.2.2.2.2.1 gX0_narrowDown_X11_shine_n47 rfl rfl rfl (hK.2.1 (RX0, 47, yX11_shine) (by decide +kernel)) (C.2.2.2.2.2.1 _ mX0_narrowDown_9_9) (by decide +kernel) ⟨(Nat.le_of_ble_eq_true rfl), (Nat.le_of_ble_eq_true rfl)⟩, C.2.2.2.2.2.1 _ mX0_narrowDown_9_10, trivial⟩ rfl hl.1 rfl (Nat.le_of_ble_eq_true rfl) dX0_narrowDown_45 ⟨Nat.zero_le _, Nat.zero_le _⟩ (fun H locs hP hS => ?_)
      refine lv_istore (lv' := [(4, .int r9), (0, .ref (ad 9)), (1, .int z1), (2, .int z2), (3, .int r5)]) C.1 C.2.1 dX0_narrowDown_48 hl (by decide) rfl (fun ls hl => ?_)
      replace hl := lv_sub (l' := [(0, .ref (ad 9)), (1, .int z1), (2, .int z2), (3, .int r5), (4, .int r9)]) hl [1, 2, 3, 4, 0] rfl
      refine lv_aload_n C.1 C.2.1 dX0_narrowDown_50 rfl (lv_at hl 0 rfl) ?_
      refine gX_9_parts C hX0_narrowDown_9_X0 hK hP mX0_narrowDown_9_6 dX0_narrowDown_51 ?_
      refine gX_6_high C hX0_narrowDown_9_X6 hK hP mX0_narrowDown_9_11 dX0_narrowDown_54 ?_
      refine lv_iload_n C.1 C.2.1 dX0_narrowDown_57 rfl (lv_at hl 1 rfl) ?_
      obtain ⟨hg12, h⟩ := gd_some h
      refine lX_28 C hK hP hg12 dX0_narrowDown_58 ?_
      refine lv_iload_n C.1 C.2.1 dX0_narrowDown_59 rfl (lv_at hl 3 rfl) ?_
      obtain ⟨r13, hc15, h⟩ := bd_some h
      refine csn_i (As := [.int (u6.2.1 28 z1.toNatClampNeg), .int r5]) (rest := []) (AX_ge hJ) C hK hP hS (metX11_shine l D cy st _ (u6.2.1 28 z1.toNatClampNeg) r5 hc15) ⟨va_cnB 2 C.2.2.2.2.2.1 gX0_narrowDown_X11_shine_n47 rfl rfl rfl (hK.2.1 (RX0, 47, yX11_shine) (by decide +kernel)) (C.2.2.2.2.2.1 _ mX0_narrowDown_9_9) (by decide +kernel) ⟨(Nat.le_of_ble_eq_true rfl), (Nat.le_of_ble_eq_true rfl)⟩, C.2.2.2.2.2.1 _ mX0_narrowDown_9_10, trivial⟩ rfl hl.1 rfl (Nat.le_of_ble_eq_true rfl) dX0_narrowDown_60 ⟨Nat.zero_le _, Nat.zero_le _⟩ (fun H locs hP hS => ?_)
      refine lv_istore (lv' := [(5, .int r13), (0, .ref (ad 9)), (1, .int z1), (2, .int z2), (3, .int r5), (4, .int r9)]) C.1 C.2.1 dX0_narrowDown_63 hl (by decide) rfl (fun ls hl => ?_)
      replace hl := lv_sub (l' := [(0, .ref (ad 9)), (1, .int z1), (2, .int z2), (3, .int r5), (4, .int r9), (5, .int r13)]) hl [1, 2, 3, 4, 5, 0] rfl
      refine lv_aload_n C.1 C.2.1 dX0_narrowDown_65 rfl (lv_at hl 0 rfl) ?_
      refine gX_9_readings C hX0_narrowDown_9_X0 hK hP mX0_narrowDown_9_3 dX0_narrowDown_66 ?_
      refine gX_7_lower C hX0_narrowDown_9_X7 hK hP mX0_narrowDown_9_12 dX0_narrowDown_69 ?_
      refine lv_iload_n C.1 C.2.1 dX0_narrowDown_72 rfl (lv_at hl 2 rfl) ?_
      obtain ⟨hg16, h⟩ := gd_some h
      refine lX_38 C hK hP hg16 dX0_narrowDown_73 ?_
      refine lv_iload C.1 C.2.1 dX0_narrowDown_74 (lv_at hl 4 rfl) ?_
      refine lv_iload C.1 C.2.1 dX0_narrowDown_76 (lv_at hl 5 rfl) ?_
      refine va_mmax C.1 C.2.1 (C.2.2.1.trans hl.1.symm) C.2.2.2.2.1 (C.2.2.2.2.2.1 _ mX0_narrowDown_9_13) (C.2.2.2.2.2.1 _ mX0_narrowDown_9_14) (C.2.2.2.2.2.1 _ mX0_narrowDown_9_15) (C.2.2.2.2.2.1 _ mX0_narrowDown_9_16) (Nat.le_of_ble_eq_true rfl) (Nat.le_of_ble_eq_true rfl) (Nat.zero_le _) (Nat.zero_le _) dX0_narrowDown_78 ?_
      refine lv_iadd C.1 C.2.1 dX0_narrowDown_81 ?_
      refine lv_topi (fun v17 hv18 => ?_)
      replace h := lt_e hv18 h
      try dsimp only at h
      refine lv_istore (lv' := [(6, .int v17), (0, .ref (ad 9)), (1, .int z1), (2, .int z2), (3, .int r5), (4, .int r9), (5, .int r13)]) C.1 C.2.1 dX0_narrowDown_82 hl (by decide) rfl (fun ls hl => ?_)
      replace hl := lv_sub (l' := [(0, .ref (ad 9)), (1, .int z1), (2, .int z2), (3, .int r5), (4, .int r9), (5, .int r13), (6, .int v17)]) hl [1, 2, 3, 4, 5, 6, 0] rfl
      refine lv_aload_n C.1 C.2.1 dX0_narrowDown_84 rfl (lv_at hl 0 rfl) ?_
      refine gX_9_readings C hX0_narrowDown_9_X0 hK hP mX0_narrowDown_9_3 dX0_narrowDown_85 ?_
      refine gX_7_upper C hX0_narrowDown_9_X7 hK hP mX0_narrowDown_9_17 dX0_narrowDown_88 ?_
      refine lv_iload_n C.1 C.2.1 dX0_narrowDown_91 rfl (lv_at hl 2 rfl) ?_
      obtain ⟨hg19, h⟩ := gd_some h
      refine lX_39 C hK hP hg19 dX0_narrowDown_92 ?_
      refine lv_iload C.1 C.2.1 dX0_narrowDown_93 (lv_at hl 4 rfl) ?_
      refine lv_iload C.1 C.2.1 dX0_narrowDown_95 (lv_at hl 5 rfl) ?_
      refine va_mmin C.1 C.2.1 (C.2.2.1.trans hl.1.symm) C.2.2.2.2.1 (C.2.2.2.2.2.1 _ mX0_narrowDown_9_18) (C.2.2.2.2.2.1 _ mX0_narrowDown_9_19) (C.2.2.2.2.2.1 _ mX0_narrowDown_9_15) (C.2.2.2.2.2.1 _ mX0_narrowDown_9_20) (Nat.le_of_ble_eq_true rfl) (Nat.le_of_ble_eq_true rfl) (Nat.zero_le _) (Nat.zero_le _) dX0_narrowDown_97 ?_
      refine lv_iadd C.1 C.2.1 dX0_narrowDown_100 ?_
      refine lv_topi (fun v20 hv21 => ?_)
      replace h := lt_e hv21 h
      try dsimp only at h
      refine lv_istore (lv' := [(7, .int v20), (0, .ref (ad 9)), (1, .int z1), (2, .int z2), (3, .int r5), (4, .int r9), (5, .int r13), (6, .int v17)]) C.1 C.2.1 dX0_narrowDown_101 hl (by decide) rfl (fun ls hl => ?_)
      replace hl := lv_sub (l' := [(0, .ref (ad 9)), (1, .int z1), (2, .int z2), (3, .int r5), (4, .int r9), (5, .int r13), (6, .int v17), (7, .int v20)]) hl [1, 2, 3, 4, 5, 6, 7, 0] rfl
      exact wLX0_narrowDown_9_103 C hK hJ (wLX0_narrowDown_9_145 C hK hJ (wGX0_narrowDown_9_187 C hK hJ ih) 5000) 5000 _ _ _ _ _ _ _ _ _ h hP hS (lv_sub hl [0, 1, 2, 3, 6, 7] rfl)
set_option maxHeartbeats 4000000 in
set_option maxRecDepth 100000 in
theorem wGX0_narrowDown_9_193 {p : Program} {l : Launch} {e : Env} {s : State} {m : MethodId} {args : Array Value} {below : List Frame} {meth : Method} {c : Code} {D : va_G} {cy : Nat → ClassId} {ad st : Nat → Nat} (C : Cx RX0 cX0_narrowDown 8 (some .boolean) wsX0_narrowDown p s m args meth c) (hK : Ky D [(cy 0, .int), (cy 1, .long), (cy 2, .boolean), (cy 3, .byte), (cy 4, .object "HissHorn$Text")] st s) (hJ : JX ad st) {r : Int32} {u' : SX}   (u : SX) (H : Heap) (locs : List Loc) (ls : Array Slot) (h : GX0_narrowDown_9_193  u = some (r, u')) (hP : va_P D vwCl (VX cy ad st u) H) (hS : va_S (Ax (AX ad) s.heap.size) s.heap H locs) (hl : lv_has ls 8 [(0, .ref (ad 9))]) : W p l e rmX0_narrowDown_9 s m args below meth c H locs 0 0 (MQ below (Qi D (VX cy ad st) (AX ad) s.heap.size r u') args s 0 0 (Ax (AX ad) s.heap.size)) (F0 m 193 ls []) := by
  unfold GX0_narrowDown_9_193 at h
  refine lv_aload_n C.1 C.2.1 dX0_narrowDown_193 rfl (lv_at hl 0 rfl) ?_
  refine gX_9_least C hX0_narrowDown_9_X0 hK hP mX0_narrowDown_9_1 dX0_narrowDown_194 ?_
  refine lv_aload_n C.1 C.2.1 dX0_narrowDown_197 rfl (lv_at hl 0 rfl) ?_
  refine gX_9_greatest C hX0_narrowDown_9_X0 hK hP mX0_narrowDown_9_2 dX0_narrowDown_198 ?_
  refine lv_icmp_gt (tgt := 208) C.1 C.2.1 dX0_narrowDown_201 (by decide) (fun c201 => ?_) (fun c201 => ?_)
  · rw [if_pos c201] at h
    refine lv_iconst (v := 0) C.1 C.2.1 dX0_narrowDown_208 (by decide) ?_
    obtain ⟨hg38, h⟩ := gd_some h
    cases h
    exact rt_z hg38 C hP hS dX0_narrowDown_209
  · rw [if_neg c201] at h
    refine lv_iconst (v := 1) C.1 C.2.1 dX0_narrowDown_204 (by decide) ?_
    refine lv_goto (tgt := 209) C.1 C.2.1 dX0_narrowDown_205 (by decide) ?_
    obtain ⟨hg39, h⟩ := gd_some h
    cases h
    exact rt_z hg39 C hP hS dX0_narrowDown_209
set_option maxHeartbeats 4000000 in
set_option maxRecDepth 100000 in
theorem wX0_narrowDown_9 {p : Program} {l : Launch} {e : Env} {s : State} {m : MethodId} {args : Array Value} {below : List Frame} {meth : Method} {c : Code} {D : va_G} {cy : Nat → ClassId} {ad st : Nat → Nat} (C : Cx RX0 cX0_narrowDown 8 (some .boolean) wsX0_narrowDown p s m args meth c) (hK : Ky D [(cy 0, .int), (cy 1, .long), (cy 2, .boolean), (cy 3, .byte), (cy 4, .object "HissHorn$Text")] st s) (hJ : JX ad st) (x1 : Int32) {u : SX} {r : Int32} {u' : SX} {H : Heap} {locs : List Loc} {ls : Array Slot} (h : fX0_narrowDown_9 x1 u = some (r, u')) (hP : va_P D vwCl (VX cy ad st u) H) (hS : va_S (Ax (AX ad) s.heap.size) s.heap H locs) (hl : lv_has ls 8 [(0, .ref (ad 9)), (1, .int x1)]) : W p l e rmX0_narrowDown_9 s m args below meth c H locs 0 0 (MQ below (Qi D (VX cy ad st) (AX ad) s.heap.size r u') args s 0 0 (Ax (AX ad) s.heap.size)) (F0 m 0 ls []) := by
  unfold fX0_narrowDown_9 at h
  refine lv_aload_n C.1 C.2.1 dX0_narrowDown_0 rfl (lv_at hl 0 rfl) ?_
  refine lv_iconst (v := 0) C.1 C.2.1 dX0_narrowDown_1 (by decide) ?_
  refine pX_9_least C hX0_narrowDown_9_X0 hK hP hJ hS mX0_narrowDown_9_1 dX0_narrowDown_2 (fun H locs hP hS => ?_)
  obtain ⟨u1, hu2, h⟩ := lt_some h
  rw [← hu2] at hP
  refine lv_aload_n C.1 C.2.1 dX0_narrowDown_5 rfl (lv_at hl 0 rfl) ?_
  refine lv_sipush (v := 400) C.1 C.2.1 dX0_narrowDown_6 (by decide) ?_
  refine pX_9_greatest C hX0_narrowDown_9_X0 hK hP hJ hS mX0_narrowDown_9_2 dX0_narrowDown_9 (fun H locs hP hS => ?_)
  obtain ⟨u3, hu4, h⟩ := lt_some h
  rw [← hu4] at hP
  refine lv_iconst (v := 0) C.1 C.2.1 dX0_narrowDown_12 (by decide) ?_
  refine lv_istore_n (lv' := [(2, .int 0), (0, .ref (ad 9)), (1, .int x1)]) C.1 C.2.1 dX0_narrowDown_13 rfl hl (by decide) rfl (fun ls hl => ?_)
  replace hl := lv_sub (l' := [(0, .ref (ad 9)), (1, .int x1), (2, .int 0)]) hl [1, 2, 0] rfl
  exact wLX0_narrowDown_9_14 C hK hJ (wGX0_narrowDown_9_193 C hK hJ ) 5000 _ _ _ _ _ _ h hP hS hl
theorem metX0_narrowDown_9 (l : Launch) (D : va_G) (cy : Nat → ClassId) (ad st : Nat → Nat) (hJ : JX ad st) (sz : Nat) (x1 : Int32) {u : SX} {r : Int32} {u' : SX} (h : fX0_narrowDown_9 x1 u = some (r, u')) : Met l yX0_narrowDown wsX0_narrowDown rmX0_narrowDown_9 (va_Pc [.ref (ad 9), .int x1] (Px D [(cy 0, .int), (cy 1, .long), (cy 2, .boolean), (cy 3, .byte), (cy 4, .object "HissHorn$Text")] st (VX cy ad st) sz u)) (Qi D (VX cy ad st) (AX ad) sz r u') 0 0 (Ax (AX ad) sz) := by
  refine Met.ofW (cc := cX0_narrowDown) (maxL := 8) (ret := (some .boolean)) (by decide) rfl ?_
  intro p e s m args below meth c s₁ B hml hv
  obtain ⟨rfl, hsz, hP, hK⟩ := hv
  subst hsz
  have C : Cx RX0 cX0_narrowDown 8 (some .boolean) wsX0_narrowDown p s m _ meth c := ⟨B.exec, B.bytes, hml, B.returns, findClass_of_methodNamed B.named, atoms_spec (ws := wsX0_narrowDown) B.pre, B.notSynchronized⟩
  have hl := lv_entry ([.ref (ad 9), .int x1]) (n := 8) (Nat.le_of_ble_eq_true rfl)
  rw [lg_entry_eq]
  exact wX0_narrowDown_9 C hK hJ x1 h hP va_S.rf hl
