set_option maxRecDepth 100000 in
theorem gto_X12_laySpansOf : ∀ w ∈ (.code yX12_laySpansOf cX12_laySpansOf 3 none :: wsX12_laySpansOf_own : List Cond), w ∈ lw_tbl := mem_pos [(7, 214), (7, 215), (7, 217), (0, 52), (1, 14), (6, 132), (6, 128)] rfl
theorem gt_X12_laySpansOf : ∀ w ∈ wsX12_laySpansOf, w ∈ lw_tbl := gt_c (gto_X12_laySpansOf _ List.mem_cons_self) (gt_a (gt_a (gt_t gto_X12_laySpansOf) (gt_X12_laySpans)) inX12)
set_option maxRecDepth 100000 in
theorem gto_X12_span : ∀ w ∈ (.code yX12_span cX12_span 4 (some .int) :: wsX12_span_own : List Cond), w ∈ lw_tbl := mem_pos [(7, 202), (7, 203), (7, 205), (0, 49), (1, 14), (7, 207), (7, 209), (0, 50), (7, 78), (7, 79), (7, 211), (7, 213), (0, 51), (6, 102), (6, 123), (6, 130), (6, 129)] rfl
theorem gt_X12_span : ∀ w ∈ wsX12_span, w ∈ lw_tbl := gt_c (gto_X12_span _ List.mem_cons_self) (gt_a (gt_a (gt_t gto_X12_span) (gt_a gt_X12_isPart (gt_a gt_X12_isKnown (gt_a gt_X12_isIn (gt_X12_laySpansOf))))) inX12)
theorem gw_X12_span : ∀ w ∈ wsV RL 61 RX12 yX12_span wsX12_span, w ∈ lw_tbl := gt_a (mem_pos [(7, 199), (7, 200), (7, 201), (1, 14)] rfl) gt_X12_span
theorem gx_X12_span : GoodIn (wsV RL 61 RX12 yX12_span wsX12_span) (wsV RL 61 RX12 yX12_span wsX12_span) := ggi (fun _ h => h) (gs_a (gs_e (by decide +kernel)) gs_X12_span)
set_option maxRecDepth 100000 in
theorem gt_X11_isAim : ∀ w ∈ wsX11_isAim, w ∈ lw_tbl := mem_pos [(4, 77), (3, 76), (3, 77), (1, 1), (3, 78)] rfl
set_option maxRecDepth 100000 in
theorem gt_X11_seasonOf : ∀ w ∈ wsX11_seasonOf, w ∈ lw_tbl := mem_pos [(4, 81)] rfl
set_option maxRecDepth 100000 in
theorem gt_X8_setAim : ∀ w ∈ wsX8_setAim, w ∈ lw_tbl := mem_pos [(4, 85), (4, 86), (4, 87), (4, 88), (1, 4), (4, 89), (1, 98), (1, 103), (1, 105), (1, 107), (1, 109), (1, 111)] rfl
set_option maxRecDepth 100000 in
theorem gt_X8_ask : ∀ w ∈ wsX8_ask, w ∈ lw_tbl := mem_pos [(4, 97), (1, 97), (1, 98), (1, 100), (4, 98), (4, 28), (4, 29), (1, 4), (4, 30), (1, 101), (4, 99), (4, 100), (4, 101), (1, 20), (4, 102), (4, 14), (4, 103), (4, 104), (4, 105), (4, 106), (4, 107), (4, 108), (4, 109), (4, 110), (4, 111), (4, 112), (1, 16), (4, 113), (4, 114), (4, 115), (4, 116), (1, 103), (1, 105), (1, 107), (1, 109), (1, 111), (4, 15)] rfl
set_option maxRecDepth 100000 in
theorem gt_X11_shine : ∀ w ∈ wsX11_shine, w ∈ lw_tbl := mem_pos [(4, 119)] rfl
set_option maxRecDepth 100000 in
theorem gto_X11_trueSum : ∀ w ∈ (.code yX11_trueSum cX11_trueSum 3 (some .int) :: wsX11_trueSum_own : List Cond), w ∈ lw_tbl := mem_pos [(4, 93), (4, 94), (4, 95), (4, 96), (1, 4), (4, 117), (4, 118), (1, 1), (3, 37), (1, 130), (1, 128), (3, 34), (1, 124)] rfl
theorem gt_X11_trueSum : ∀ w ∈ wsX11_trueSum, w ∈ lw_tbl := gt_c (gto_X11_trueSum _ List.mem_cons_self) (gt_a (gt_a (gt_a (gt_a (gt_a (gt_t gto_X11_trueSum) (gt_a gt_X8_ask (gt_X11_shine))) inX11) inX6) inX8) inX10)
set_option maxRecDepth 100000 in
theorem gto_X11_sum : ∀ w ∈ (.code yX11_sum cX11_sum 7 (some .int) :: wsX11_sum_own : List Cond), w ∈ lw_tbl := mem_pos [(4, 74), (3, 76), (3, 77), (1, 1), (4, 75), (4, 76), (4, 79), (4, 80), (4, 82), (4, 83), (4, 84), (1, 4), (4, 90), (4, 92), (0, 12), (4, 78), (3, 34)] rfl
theorem gt_X11_sum : ∀ w ∈ wsX11_sum, w ∈ lw_tbl := gt_c (gto_X11_sum _ List.mem_cons_self) (gt_a (gt_a (gt_a (gt_a (gt_a (gt_t gto_X11_sum) (gt_a gt_X11_within (gt_a gt_X11_isAim (gt_a gt_X11_seasonOf (gt_a gt_X8_setAim (gt_X11_trueSum)))))) inX11) inX8) inX6) inX10)
theorem gw_X11_sum : ∀ w ∈ wsV RL 62 RX11 yX11_sum wsX11_sum, w ∈ lw_tbl := gt_a (mem_pos [(4, 71), (4, 72), (4, 73), (1, 1)] rfl) gt_X11_sum
theorem gx_X11_sum : GoodIn (wsV RL 62 RX11 yX11_sum wsX11_sum) (wsV RL 62 RX11 yX11_sum wsX11_sum) := ggi (fun _ h => h) (gs_a (gs_e (by decide +kernel)) gs_X11_sum)
set_option maxRecDepth 100000 in
theorem gt_X12_shines : ∀ w ∈ wsX12_shines, w ∈ lw_tbl := mem_pos [(8, 2)] rfl
set_option maxRecDepth 100000 in
theorem gt_X12_season : ∀ w ∈ wsX12_season, w ∈ lw_tbl := mem_pos [(7, 235)] rfl
set_option maxRecDepth 100000 in
theorem gto_X12_layWorths : ∀ w ∈ (.code yX12_layWorths cX12_layWorths 8 none :: wsX12_layWorths_own : List Cond), w ∈ lw_tbl := mem_pos [(7, 239), (7, 180), (7, 182), (0, 46), (1, 14), (6, 131), (6, 134), (6, 119)] rfl
theorem gt_X12_layWorths : ∀ w ∈ wsX12_layWorths, w ∈ lw_tbl := gt_c (gto_X12_layWorths _ List.mem_cons_self) (gt_a (gt_a (gt_t gto_X12_layWorths) (gt_X12_lawWorth)) inX12)
set_option maxRecDepth 100000 in
theorem gto_X12_trueSum : ∀ w ∈ (.code yX12_trueSum cX12_trueSum 9 (some .int) :: wsX12_trueSum_own : List Cond), w ∈ lw_tbl := mem_pos [(7, 232), (8, 0), (8, 1), (1, 14), (7, 233), (7, 234), (7, 236), (7, 238), (0, 55), (6, 131), (6, 122), (6, 134)] rfl
theorem gt_X12_trueSum : ∀ w ∈ wsX12_trueSum, w ∈ lw_tbl := gt_c (gto_X12_trueSum _ List.mem_cons_self) (gt_a (gt_a (gt_t gto_X12_trueSum) (gt_a gt_X12_shines (gt_a gt_X12_season (gt_X12_layWorths)))) inX12)
set_option maxRecDepth 100000 in
theorem gto_X12_sum_ : ∀ w ∈ (.code yX12_sum_ cX12_sum_ 7 (some .int) :: wsX12_sum__own : List Cond), w ∈ lw_tbl := mem_pos [(7, 228), (7, 78), (7, 79), (1, 14), (7, 177), (7, 178), (7, 229), (7, 231), (0, 54), (6, 102), (8, 3)] rfl
theorem gt_X12_sum_ : ∀ w ∈ wsX12_sum_, w ∈ lw_tbl := gt_c (gto_X12_sum_ _ List.mem_cons_self) (gt_a (gt_a (gt_t gto_X12_sum_) (gt_a gt_X12_isIn (gt_a gt_X12_isAim (gt_X12_trueSum)))) inX12)
theorem gw_X12_sum_ : ∀ w ∈ wsV RL 66 RX12 yX12_sum_ wsX12_sum_, w ∈ lw_tbl := gt_a (mem_pos [(7, 225), (7, 226), (7, 227), (1, 14)] rfl) gt_X12_sum_
theorem gx_X12_sum_ : GoodIn (wsV RL 66 RX12 yX12_sum_ wsX12_sum_) (wsV RL 66 RX12 yX12_sum_ wsX12_sum_) := ggi (fun _ h => h) (gs_a (gs_e (by decide +kernel)) gs_X12_sum_)
set_option maxRecDepth 100000 in
theorem gto_X11_heard : ∀ w ∈ (.code yX11_heard cX11_heard 11 (some .int) :: wsX11_heard_own : List Cond), w ∈ lw_tbl := mem_pos [(4, 123), (4, 75), (4, 76), (1, 1), (3, 76), (3, 77), (4, 79), (4, 80), (4, 82), (4, 83), (4, 84), (1, 4), (4, 90), (4, 92), (0, 12), (4, 78), (3, 34), (3, 44), (4, 124), (4, 125)] rfl
theorem gt_X11_heard : ∀ w ∈ wsX11_heard, w ∈ lw_tbl := gt_c (gto_X11_heard _ List.mem_cons_self) (gt_a (gt_a (gt_a (gt_a (gt_a (gt_t gto_X11_heard) (gt_a gt_X11_isAim (gt_a gt_X11_within (gt_a gt_X11_seasonOf (gt_a gt_X8_setAim (gt_X11_trueSum)))))) inX11) inX8) inX6) inX10)
theorem gw_X11_heard : ∀ w ∈ wsV RL 69 RX11 yX11_heard wsX11_heard, w ∈ lw_tbl := gt_a (mem_pos [(4, 120), (4, 121), (4, 122), (1, 1)] rfl) gt_X11_heard
theorem gx_X11_heard : GoodIn (wsV RL 69 RX11 yX11_heard wsX11_heard) (wsV RL 69 RX11 yX11_heard wsX11_heard) := ggi (fun _ h => h) (gs_a (gs_e (by decide +kernel)) gs_X11_heard)
set_option maxRecDepth 100000 in
theorem gto_X12_heard : ∀ w ∈ (.code yX12_heard cX12_heard 11 (some .int) :: wsX12_heard_own : List Cond), w ∈ lw_tbl := mem_pos [(8, 7), (7, 177), (7, 178), (1, 14), (7, 78), (7, 79), (7, 229), (7, 231), (0, 54), (6, 102), (8, 3), (8, 8), (8, 9), (6, 103)] rfl
theorem gt_X12_heard : ∀ w ∈ wsX12_heard, w ∈ lw_tbl := gt_c (gto_X12_heard _ List.mem_cons_self) (gt_a (gt_a (gt_t gto_X12_heard) (gt_a gt_X12_isAim (gt_a gt_X12_isIn (gt_X12_trueSum)))) inX12)
theorem gw_X12_heard : ∀ w ∈ wsV RL 73 RX12 yX12_heard wsX12_heard, w ∈ lw_tbl := gt_a (mem_pos [(8, 4), (8, 5), (8, 6), (1, 14)] rfl) gt_X12_heard
theorem gx_X12_heard : GoodIn (wsV RL 73 RX12 yX12_heard wsX12_heard) (wsV RL 73 RX12 yX12_heard wsX12_heard) := ggi (fun _ h => h) (gs_a (gs_e (by decide +kernel)) gs_X12_heard)
set_option maxRecDepth 100000 in
theorem gt_X7_add : ∀ w ∈ wsX7_add, w ∈ lw_tbl := mem_pos [(4, 135), (1, 206), (1, 224), (1, 99), (1, 202), (4, 136), (4, 9), (4, 8), (1, 21), (1, 220), (1, 204), (1, 226), (1, 228), (1, 230), (1, 232), (1, 234), (1, 236), (1, 238), (2, 0), (2, 2), (2, 4), (2, 6), (2, 8), (1, 103), (1, 105), (1, 107), (1, 109), (1, 111)] rfl
set_option maxRecDepth 100000 in
theorem gto_X11_read : ∀ w ∈ (.code yX11_read cX11_read 7 (some .int) :: wsX11_read_own : List Cond), w ∈ lw_tbl := mem_pos [(4, 129), (4, 75), (4, 76), (1, 1), (3, 76), (3, 77), (4, 79), (4, 80), (4, 82), (4, 83), (4, 84), (1, 4), (4, 132), (4, 133), (4, 134), (1, 7), (4, 130), (4, 131), (3, 38), (1, 207), (3, 34), (3, 44)] rfl
theorem gt_X11_read : ∀ w ∈ wsX11_read, w ∈ lw_tbl := gt_c (gto_X11_read _ List.mem_cons_self) (gt_a (gt_a (gt_a (gt_a (gt_t gto_X11_read) (gt_a gt_X11_isAim (gt_a gt_X11_within (gt_a gt_X11_seasonOf (gt_a gt_X8_setAim (gt_X7_add)))))) inX11) inX7) inX8)
theorem gw_X11_read : ∀ w ∈ wsV RL 74 RX11 yX11_read wsX11_read, w ∈ lw_tbl := gt_a (mem_pos [(4, 126), (4, 127), (4, 128), (1, 1)] rfl) gt_X11_read
theorem gx_X11_read : GoodIn (wsV RL 74 RX11 yX11_read wsX11_read) (wsV RL 74 RX11 yX11_read wsX11_read) := ggi (fun _ h => h) (gs_a (gs_e (by decide +kernel)) gs_X11_read)
set_option maxRecDepth 100000 in
theorem gto_X12_read : ∀ w ∈ (.code yX12_read cX12_read 7 (some .int) :: wsX12_read_own : List Cond), w ∈ lw_tbl := mem_pos [(8, 13), (7, 177), (7, 178), (1, 14), (7, 78), (7, 79), (6, 102), (6, 138), (8, 14), (8, 15), (6, 135), (6, 136), (6, 137), (6, 103)] rfl
theorem gt_X12_read : ∀ w ∈ wsX12_read, w ∈ lw_tbl := gt_c (gto_X12_read _ List.mem_cons_self) (gt_a (gt_a (gt_t gto_X12_read) (gt_a gt_X12_isAim (gt_X12_isIn))) inX12)
theorem gw_X12_read : ∀ w ∈ wsV RL 77 RX12 yX12_read wsX12_read, w ∈ lw_tbl := gt_a (mem_pos [(8, 10), (8, 11), (8, 12), (1, 14)] rfl) gt_X12_read
theorem gx_X12_read : GoodIn (wsV RL 77 RX12 yX12_read wsX12_read) (wsV RL 77 RX12 yX12_read wsX12_read) := ggi (fun _ h => h) (gs_a (gs_e (by decide +kernel)) gs_X12_read)
set_option maxRecDepth 100000 in
theorem gt_X7_has : ∀ w ∈ wsX7_has, w ∈ lw_tbl := mem_pos [(4, 144), (1, 206), (1, 226), (1, 228), (1, 230), (1, 232), (1, 234), (1, 236), (1, 238), (2, 0), (2, 2), (2, 4), (2, 6), (2, 8)] rfl
set_option maxRecDepth 100000 in
theorem gt_X7_leanOf : ∀ w ∈ wsX7_leanOf, w ∈ lw_tbl := mem_pos [(4, 158), (1, 225), (1, 123), (1, 221), (1, 198), (1, 202), (1, 224), (1, 99), (4, 136), (4, 9), (4, 8), (1, 21), (4, 159), (4, 95), (4, 96), (1, 4), (4, 97), (1, 97), (1, 98), (1, 100), (4, 98), (4, 28), (4, 29), (4, 30), (1, 101), (4, 99), (4, 100), (4, 101), (1, 20), (4, 102), (4, 14), (4, 103), (4, 104), (4, 105), (4, 106), (4, 107), (4, 108), (4, 109), (4, 110), (4, 111), (4, 112), (1, 16), (4, 113), (4, 114), (4, 115), (4, 116), (1, 226), (1, 228), (1, 230), (1, 232), (1, 234), (1, 236), (1, 238), (2, 0), (2, 2), (2, 4), (2, 6), (2, 8), (1, 156), (1, 158), (1, 160), (1, 162), (1, 164), (1, 166), (1, 168), (1, 170), (1, 172), (1, 174), (1, 176), (1, 178), (1, 180), (1, 182), (1, 184), (1, 186), (1, 188), (1, 103), (1, 105), (1, 107), (1, 109), (1, 111), (4, 15)] rfl
set_option maxRecDepth 100000 in
theorem gto_X7_leave : ∀ w ∈ (.code yX7_leave cX7_leave 8 none :: wsX7_leave_own : List Cond), w ∈ lw_tbl := mem_pos [(4, 154), (4, 155), (4, 156), (4, 157), (1, 7), (1, 225), (1, 133), (1, 141), (1, 1), (4, 118), (1, 146), (4, 161), (3, 157), (1, 16), (3, 158), (4, 162), (3, 154), (3, 155), (1, 212), (1, 220), (1, 216)] rfl
theorem gt_X7_leave : ∀ w ∈ wsX7_leave, w ∈ lw_tbl := gt_c (gto_X7_leave _ List.mem_cons_self) (gt_a (gt_a (gt_a (gt_a (gt_a (gt_t gto_X7_leave) (gt_a gt_X7_leanOf (gt_X11_shine))) inX7) inX6) inX8) inX10)
set_option maxRecDepth 100000 in
theorem gto_X7_recall : ∀ w ∈ (.code yX7_recall cX7_recall 5 none :: wsX7_recall_own : List Cond), w ∈ lw_tbl := mem_pos [(4, 148), (4, 151), (4, 153), (0, 13), (1, 7), (4, 149), (4, 54), (4, 55), (1, 6), (1, 225), (1, 222), (1, 133), (1, 204), (1, 206), (1, 210), (1, 1), (4, 58), (1, 136), (1, 223)] rfl
theorem gt_X7_recall : ∀ w ∈ wsX7_recall, w ∈ lw_tbl := gt_c (gto_X7_recall _ List.mem_cons_self) (gt_a (gt_a (gt_a (gt_a (gt_a (gt_t gto_X7_recall) (gt_a gt_X7_leave (gt_a gt_X11_rowsUpTo (gt_X6_recall)))) inX7) inX6) inX8) inX10)
set_option maxRecDepth 100000 in
theorem gto_X11_left : ∀ w ∈ (.code yX11_left cX11_left 4 (some .int) :: wsX11_left_own : List Cond), w ∈ lw_tbl := mem_pos [(4, 140), (4, 42), (4, 44), (0, 10), (1, 1), (4, 46), (4, 47), (4, 141), (4, 142), (4, 143), (1, 7), (4, 145), (4, 146), (4, 147), (4, 78), (3, 38), (1, 205), (1, 219), (1, 215)] rfl
theorem gt_X11_left : ∀ w ∈ wsX11_left, w ∈ lw_tbl := gt_c (gto_X11_left _ List.mem_cons_self) (gt_a (gt_a (gt_a (gt_a (gt_a (gt_a (gt_t gto_X11_left) (gt_a gt_X11_isDay (gt_a gt_X11_isEither (gt_a gt_X7_has (gt_X7_recall))))) inX11) inX7) inX6) inX8) inX10)
theorem gw_X11_left : ∀ w ∈ wsV RL 78 RX11 yX11_left wsX11_left, w ∈ lw_tbl := gt_a (mem_pos [(4, 137), (4, 138), (4, 139), (1, 1)] rfl) gt_X11_left
theorem gx_X11_left : GoodIn (wsV RL 78 RX11 yX11_left wsX11_left) (wsV RL 78 RX11 yX11_left wsX11_left) := ggi (fun _ h => h) (gs_a (gs_e (by decide +kernel)) gs_X11_left)
set_option maxRecDepth 100000 in
theorem gt_X12_isReading : ∀ w ∈ wsX12_isReading, w ∈ lw_tbl := mem_pos [(8, 23), (6, 138), (6, 171), (6, 173), (6, 175), (6, 177), (6, 179), (6, 181), (6, 183), (6, 185), (6, 187), (6, 189), (6, 191), (6, 193), (6, 195), (6, 197), (6, 199), (6, 201), (6, 203), (6, 205), (6, 207), (6, 209), (6, 211), (6, 213), (6, 215), (6, 217), (6, 219), (6, 221), (6, 223), (6, 225), (6, 227), (6, 229), (6, 231), (6, 233), (6, 235), (6, 237), (6, 239), (7, 1), (7, 3), (7, 5), (7, 7), (7, 9), (7, 11), (7, 13), (7, 15), (7, 17), (7, 19), (7, 21), (7, 23), (7, 25), (7, 27), (7, 29), (7, 31), (7, 33), (7, 35), (7, 37), (7, 39), (7, 41), (7, 43), (7, 45), (7, 47), (7, 49), (7, 51), (7, 53), (7, 55), (7, 57), (7, 59), (7, 61), (7, 63), (7, 65), (7, 67)] rfl
set_option maxRecDepth 100000 in
theorem gto_X12_most : ∀ w ∈ (.code yX12_most cX12_most 2 (some .int) :: wsX12_most_own : List Cond), w ∈ lw_tbl := mem_pos [(8, 39), (8, 0), (8, 1), (1, 14), (6, 129), (6, 134), (6, 130), (7, 223), (3, 154), (1, 16), (3, 155)] rfl
theorem gt_X12_most : ∀ w ∈ wsX12_most, w ∈ lw_tbl := gt_c (gto_X12_most _ List.mem_cons_self) (gt_a (gt_a (gt_t gto_X12_most) (gt_X12_shines)) inX12)
set_option maxRecDepth 100000 in
theorem gto_X12_least : ∀ w ∈ (.code yX12_least cX12_least 2 (some .int) :: wsX12_least_own : List Cond), w ∈ lw_tbl := mem_pos [(8, 43), (8, 0), (8, 1), (1, 14), (6, 129), (6, 134), (6, 130), (7, 224), (3, 157), (1, 16), (3, 158)] rfl
theorem gt_X12_least : ∀ w ∈ wsX12_least, w ∈ lw_tbl := gt_c (gto_X12_least _ List.mem_cons_self) (gt_a (gt_a (gt_t gto_X12_least) (gt_X12_shines)) inX12)
set_option maxRecDepth 100000 in
theorem gto_X12_aimOf : ∀ w ∈ (.code yX12_aimOf cX12_aimOf 3 (some .int) :: wsX12_aimOf_own : List Cond), w ∈ lw_tbl := mem_pos [(8, 35), (7, 233), (7, 234), (1, 14), (6, 135), (6, 137)] rfl
theorem gt_X12_aimOf : ∀ w ∈ wsX12_aimOf, w ∈ lw_tbl := gt_c (gto_X12_aimOf _ List.mem_cons_self) (gt_a (gt_a (gt_t gto_X12_aimOf) (gt_X12_season)) inX12)
set_option maxRecDepth 100000 in
theorem gto_X12_layWorthsOf : ∀ w ∈ (.code yX12_layWorthsOf cX12_layWorthsOf 2 none :: wsX12_layWorthsOf_own : List Cond), w ∈ lw_tbl := mem_pos [(8, 31), (8, 32), (8, 34), (0, 59), (1, 14), (7, 236), (7, 238), (0, 55)] rfl
theorem gt_X12_layWorthsOf : ∀ w ∈ wsX12_layWorthsOf, w ∈ lw_tbl := gt_c (gto_X12_layWorthsOf _ List.mem_cons_self) (gt_a (gt_a (gt_t gto_X12_layWorthsOf) (gt_a gt_X12_aimOf (gt_X12_layWorths))) inX12)
set_option maxRecDepth 100000 in
theorem gto_X12_layLeft : ∀ w ∈ (.code yX12_layLeft cX12_layLeft 4 none :: wsX12_layLeft_own : List Cond), w ∈ lw_tbl := mem_pos [(8, 27), (8, 36), (8, 38), (0, 60), (1, 14), (8, 40), (8, 42), (0, 61), (8, 28), (8, 30), (0, 58), (6, 136), (6, 139), (6, 140), (6, 131), (6, 123)] rfl
theorem gt_X12_layLeft : ∀ w ∈ wsX12_layLeft, w ∈ lw_tbl := gt_c (gto_X12_layLeft _ List.mem_cons_self) (gt_a (gt_a (gt_t gto_X12_layLeft) (gt_a gt_X12_most (gt_a gt_X12_least (gt_X12_layWorthsOf)))) inX12)
set_option maxRecDepth 100000 in
theorem gto_X12_left : ∀ w ∈ (.code yX12_left cX12_left 4 (some .int) :: wsX12_left_own : List Cond), w ∈ lw_tbl := mem_pos [(8, 19), (8, 20), (8, 22), (0, 56), (1, 14), (7, 207), (7, 209), (0, 50), (7, 78), (7, 79), (7, 211), (7, 213), (0, 51), (8, 24), (8, 26), (0, 57), (6, 102), (8, 3), (6, 137), (6, 140), (6, 139)] rfl
theorem gt_X12_left : ∀ w ∈ wsX12_left, w ∈ lw_tbl := gt_c (gto_X12_left _ List.mem_cons_self) (gt_a (gt_a (gt_t gto_X12_left) (gt_a gt_X12_isReading (gt_a gt_X12_isKnown (gt_a gt_X12_isIn (gt_a gt_X12_laySpansOf (gt_X12_layLeft)))))) inX12)
theorem gw_X12_left : ∀ w ∈ wsV RL 81 RX12 yX12_left wsX12_left, w ∈ lw_tbl := gt_a (mem_pos [(8, 16), (8, 17), (8, 18), (1, 14)] rfl) gt_X12_left
theorem gx_X12_left : GoodIn (wsV RL 81 RX12 yX12_left wsX12_left) (wsV RL 81 RX12 yX12_left wsX12_left) := ggi (fun _ h => h) (gs_a (gs_e (by decide +kernel)) gs_X12_left)
set_option maxRecDepth 100000 in
theorem gt_X11_spread : ∀ w ∈ wsX11_spread, w ∈ lw_tbl := mem_pos [(4, 173), (4, 174), (4, 175), (1, 16), (4, 176), (4, 117), (4, 118), (1, 1), (4, 119)] rfl
set_option maxRecDepth 100000 in
theorem gto_X7_widestPart : ∀ w ∈ (.code yX7_widestPart cX7_widestPart 6 (some .int) :: wsX7_widestPart_own : List Cond), w ∈ lw_tbl := mem_pos [(4, 170), (4, 155), (4, 156), (4, 157), (1, 7), (1, 225), (1, 133), (1, 141), (1, 146), (1, 1), (4, 172)] rfl
theorem gt_X7_widestPart : ∀ w ∈ wsX7_widestPart, w ∈ lw_tbl := gt_c (gto_X7_widestPart _ List.mem_cons_self) (gt_a (gt_a (gt_a (gt_a (gt_a (gt_t gto_X7_widestPart) (gt_a gt_X7_leanOf (gt_X11_spread))) inX7) inX6) inX8) inX10)
set_option maxRecDepth 100000 in
theorem gto_X11_most : ∀ w ∈ (.code yX11_most cX11_most 3 (some .int) :: wsX11_most_own : List Cond), w ∈ lw_tbl := mem_pos [(4, 166), (4, 42), (4, 44), (0, 10), (1, 1), (4, 141), (4, 142), (4, 143), (1, 7), (4, 53), (4, 54), (4, 55), (1, 6), (4, 167), (4, 168), (4, 169), (3, 38), (3, 37)] rfl
theorem gt_X11_most : ∀ w ∈ wsX11_most, w ∈ lw_tbl := gt_c (gto_X11_most _ List.mem_cons_self) (gt_a (gt_a (gt_a (gt_a (gt_a (gt_a (gt_t gto_X11_most) (gt_a gt_X11_isDay (gt_a gt_X7_has (gt_a gt_X6_recall (gt_X7_widestPart))))) inX11) inX7) inX6) inX8) inX10)
theorem gw_X11_most : ∀ w ∈ wsV RL 82 RX11 yX11_most wsX11_most, w ∈ lw_tbl := gt_a (mem_pos [(4, 163), (4, 164), (4, 165), (1, 1)] rfl) gt_X11_most
theorem gx_X11_most : GoodIn (wsV RL 82 RX11 yX11_most wsX11_most) (wsV RL 82 RX11 yX11_most wsX11_most) := ggi (fun _ h => h) (gs_a (gs_e (by decide +kernel)) gs_X11_most)
set_option maxRecDepth 100000 in
theorem gto_X12_most_ : ∀ w ∈ (.code yX12_most_ cX12_most_ 6 (some .int) :: wsX12_most__own : List Cond), w ∈ lw_tbl := mem_pos [(8, 47), (8, 36), (8, 38), (0, 60), (1, 14), (8, 40), (8, 42), (0, 61), (8, 20), (8, 22), (0, 56), (7, 207), (7, 209), (0, 50), (7, 211), (7, 213), (0, 51), (8, 28), (8, 30), (0, 58), (6, 102), (6, 137), (6, 131), (6, 123)] rfl
theorem gt_X12_most_ : ∀ w ∈ wsX12_most_, w ∈ lw_tbl := gt_c (gto_X12_most_ _ List.mem_cons_self) (gt_a (gt_a (gt_t gto_X12_most_) (gt_a gt_X12_most (gt_a gt_X12_least (gt_a gt_X12_isReading (gt_a gt_X12_isKnown (gt_a gt_X12_laySpansOf (gt_X12_layWorthsOf))))))) inX12)
theorem gw_X12_most_ : ∀ w ∈ wsV RL 86 RX12 yX12_most_ wsX12_most_, w ∈ lw_tbl := gt_a (mem_pos [(8, 44), (8, 45), (8, 46), (1, 14)] rfl) gt_X12_most_
theorem gx_X12_most_ : GoodIn (wsV RL 86 RX12 yX12_most_ wsX12_most_) (wsV RL 86 RX12 yX12_most_ wsX12_most_) := ggi (fun _ h => h) (gs_a (gs_e (by decide +kernel)) gs_X12_most_)
set_option maxRecDepth 100000 in
theorem gt_X1_compare : ∀ w ∈ wsX1_compare, w ∈ lw_tbl := mem_pos [(4, 184), (2, 31), (1, 208), (1, 213), (2, 17), (1, 217), (2, 19), (4, 185), (3, 154), (1, 16), (3, 155), (4, 186), (3, 157), (3, 158), (2, 37), (2, 39), (2, 41), (2, 43), (2, 45), (2, 47), (2, 49), (2, 51), (2, 53), (2, 55), (2, 57), (2, 59), (2, 61), (1, 226), (1, 228), (1, 230), (1, 232), (1, 234), (1, 236), (1, 238), (2, 0), (2, 2), (2, 4), (2, 6), (2, 8)] rfl
set_option maxRecDepth 100000 in
theorem gto_X11_alike : ∀ w ∈ (.code yX11_alike cX11_alike 3 (some .int) :: wsX11_alike_own : List Cond), w ∈ lw_tbl := mem_pos [(4, 180), (4, 42), (4, 44), (0, 10), (1, 1), (4, 46), (4, 47), (4, 145), (4, 146), (4, 147), (1, 7), (4, 181), (4, 182), (4, 183), (1, 9), (4, 78), (3, 38), (3, 39), (2, 20), (2, 18)] rfl
theorem gt_X11_alike : ∀ w ∈ wsX11_alike, w ∈ lw_tbl := gt_c (gto_X11_alike _ List.mem_cons_self) (gt_a (gt_a (gt_a (gt_a (gt_a (gt_a (gt_a (gt_t gto_X11_alike) (gt_a gt_X11_isDay (gt_a gt_X11_isEither (gt_a gt_X7_recall (gt_X1_compare))))) inX11) inX1) inX7) inX6) inX8) inX10)
theorem gw_X11_alike : ∀ w ∈ wsV RL 87 RX11 yX11_alike wsX11_alike, w ∈ lw_tbl := gt_a (mem_pos [(4, 177), (4, 178), (4, 179), (1, 1)] rfl) gt_X11_alike
theorem gx_X11_alike : GoodIn (wsV RL 87 RX11 yX11_alike wsX11_alike) (wsV RL 87 RX11 yX11_alike wsX11_alike) := ggi (fun _ h => h) (gs_a (gs_e (by decide +kernel)) gs_X11_alike)
set_option maxRecDepth 100000 in
theorem gto_X12_layAlike : ∀ w ∈ (.code yX12_layAlike cX12_layAlike 3 none :: wsX12_layAlike_own : List Cond), w ∈ lw_tbl := mem_pos [(8, 55), (8, 24), (8, 26), (0, 57), (1, 14), (7, 211), (7, 213), (0, 51), (6, 141), (6, 138), (6, 137), (6, 142), (6, 139), (7, 223), (3, 154), (1, 16), (3, 155), (6, 143), (6, 140), (7, 224), (3, 157), (3, 158)] rfl
theorem gt_X12_layAlike : ∀ w ∈ wsX12_layAlike, w ∈ lw_tbl := gt_c (gto_X12_layAlike _ List.mem_cons_self) (gt_a (gt_a (gt_t gto_X12_layAlike) (gt_a gt_X12_layLeft (gt_X12_laySpansOf))) inX12)
set_option maxRecDepth 100000 in
theorem gto_X12_alike : ∀ w ∈ (.code yX12_alike cX12_alike 3 (some .int) :: wsX12_alike_own : List Cond), w ∈ lw_tbl := mem_pos [(8, 51), (7, 78), (7, 79), (1, 14), (8, 52), (8, 54), (0, 62), (6, 102), (6, 103), (8, 3), (6, 141), (6, 142), (6, 143)] rfl
theorem gt_X12_alike : ∀ w ∈ wsX12_alike, w ∈ lw_tbl := gt_c (gto_X12_alike _ List.mem_cons_self) (gt_a (gt_a (gt_t gto_X12_alike) (gt_a gt_X12_isIn (gt_X12_layAlike))) inX12)
theorem gw_X12_alike : ∀ w ∈ wsV RL 90 RX12 yX12_alike wsX12_alike, w ∈ lw_tbl := gt_a (mem_pos [(8, 48), (8, 49), (8, 50), (1, 14)] rfl) gt_X12_alike
theorem gx_X12_alike : GoodIn (wsV RL 90 RX12 yX12_alike wsX12_alike) (wsV RL 90 RX12 yX12_alike wsX12_alike) := ggi (fun _ h => h) (gs_a (gs_e (by decide +kernel)) gs_X12_alike)
set_option maxRecDepth 100000 in
theorem gt_J7_fill_d0a16 : ∀ w ∈ wsJ7_fill_d0a16, w ∈ lw_tbl := mem_pos [(4, 197)] rfl
set_option maxRecDepth 100000 in
theorem gt_J7_fill_53178 : ∀ w ∈ wsJ7_fill_53178, w ∈ lw_tbl := mem_pos [(1, 201)] rfl
set_option maxRecDepth 100000 in
theorem gto_X1_meansBy : ∀ w ∈ (.code yX1_meansBy cX1_meansBy 5 (some .int) :: wsX1_meansBy_own : List Cond), w ∈ lw_tbl := mem_pos [(4, 194), (4, 195), (4, 196), (1, 8), (4, 198), (1, 200), (2, 33), (2, 34), (2, 31), (1, 208), (1, 203), (1, 213), (1, 217)] rfl
theorem gt_X1_meansBy : ∀ w ∈ wsX1_meansBy, w ∈ lw_tbl := gt_c (gto_X1_meansBy _ List.mem_cons_self) (gt_a (gt_a (gt_a (gt_t gto_X1_meansBy) (gt_a gt_J7_fill_d0a16 (gt_J7_fill_53178))) inX1) inX7)
set_option maxRecDepth 100000 in
theorem gt_X1_distance : ∀ w ∈ wsX1_distance, w ∈ lw_tbl := mem_pos [(4, 202), (2, 34), (2, 33), (4, 203), (4, 112), (1, 16), (4, 113), (4, 204), (4, 115), (4, 116), (2, 37), (2, 39), (2, 41), (2, 43), (2, 45), (2, 47), (2, 49), (2, 51), (2, 53), (2, 55), (2, 57), (2, 59), (2, 61)] rfl
set_option maxRecDepth 100000 in
theorem gto_X11_goes : ∀ w ∈ (.code yX11_goes cX11_goes 3 (some .int) :: wsX11_goes_own : List Cond), w ∈ lw_tbl := mem_pos [(4, 190), (4, 42), (4, 44), (0, 10), (1, 1), (3, 76), (3, 77), (4, 145), (4, 146), (4, 147), (1, 7), (4, 191), (4, 192), (4, 193), (1, 9), (4, 199), (4, 200), (4, 201), (4, 78), (3, 38), (3, 39)] rfl
theorem gt_X11_goes : ∀ w ∈ wsX11_goes, w ∈ lw_tbl := gt_c (gto_X11_goes _ List.mem_cons_self) (gt_a (gt_a (gt_a (gt_a (gt_a (gt_a (gt_a (gt_t gto_X11_goes) (gt_a gt_X11_isDay (gt_a gt_X11_within (gt_a gt_X7_recall (gt_a gt_X1_meansBy (gt_X1_distance)))))) inX11) inX7) inX6) inX8) inX10) inX1)
theorem gw_X11_goes : ∀ w ∈ wsV RL 91 RX11 yX11_goes wsX11_goes, w ∈ lw_tbl := gt_a (mem_pos [(4, 187), (4, 188), (4, 189), (1, 1)] rfl) gt_X11_goes
theorem gx_X11_goes : GoodIn (wsV RL 91 RX11 yX11_goes wsX11_goes) (wsV RL 91 RX11 yX11_goes wsX11_goes) := ggi (fun _ h => h) (gs_a (gs_e (by decide +kernel)) gs_X11_goes)
set_option maxRecDepth 100000 in
theorem gto_X12_layMeans : ∀ w ∈ (.code yX12_layMeans cX12_layMeans 5 none :: wsX12_layMeans_own : List Cond), w ∈ lw_tbl := mem_pos [(8, 63), (8, 24), (8, 26), (0, 57), (1, 14), (8, 32), (8, 34), (0, 59), (7, 211), (7, 213), (0, 51), (6, 144), (6, 145), (6, 138), (6, 137), (6, 139), (6, 140)] rfl
theorem gt_X12_layMeans : ∀ w ∈ wsX12_layMeans, w ∈ lw_tbl := gt_c (gto_X12_layMeans _ List.mem_cons_self) (gt_a (gt_a (gt_t gto_X12_layMeans) (gt_a gt_X12_layLeft (gt_a gt_X12_aimOf (gt_X12_laySpansOf)))) inX12)
set_option maxRecDepth 100000 in
theorem gt_X12_mean : ∀ w ∈ wsX12_mean, w ∈ lw_tbl := mem_pos [(8, 72), (6, 144), (6, 145), (6, 171), (6, 173), (6, 175), (6, 177), (6, 179), (6, 181), (6, 183), (6, 185), (6, 187), (6, 189), (6, 191), (6, 193), (6, 195), (6, 197), (6, 199), (6, 201), (6, 203), (6, 205), (6, 207), (6, 209), (6, 211), (6, 213), (6, 215), (6, 217), (6, 219), (6, 221), (6, 223), (6, 225), (6, 227), (6, 229), (6, 231), (6, 233), (6, 235), (6, 237), (6, 239), (7, 1), (7, 3), (7, 5), (7, 7), (7, 9), (7, 11), (7, 13), (7, 15), (7, 17), (7, 19), (7, 21), (7, 23), (7, 25), (7, 27), (7, 29), (7, 31), (7, 33), (7, 35), (7, 37), (7, 39), (7, 41), (7, 43), (7, 45), (7, 47), (7, 49), (7, 51), (7, 53), (7, 55), (7, 57), (7, 59), (7, 61), (7, 63), (7, 65), (7, 67)] rfl
set_option maxRecDepth 100000 in
theorem gto_X12_apart : ∀ w ∈ (.code yX12_apart cX12_apart 4 (some .int) :: wsX12_apart_own : List Cond), w ∈ lw_tbl := mem_pos [(8, 67), (8, 69), (8, 71), (0, 65), (1, 14), (8, 3), (8, 68), (6, 145), (7, 223), (3, 154), (1, 16), (3, 155), (7, 224), (3, 157), (3, 158)] rfl
theorem gt_X12_apart : ∀ w ∈ wsX12_apart, w ∈ lw_tbl := gt_c (gto_X12_apart _ List.mem_cons_self) (gt_a (gt_a (gt_t gto_X12_apart) (gt_X12_mean)) inX12)
set_option maxRecDepth 100000 in
theorem gto_X12_goes : ∀ w ∈ (.code yX12_goes cX12_goes 3 (some .int) :: wsX12_goes_own : List Cond), w ∈ lw_tbl := mem_pos [(8, 59), (7, 78), (7, 79), (1, 14), (8, 52), (8, 54), (0, 62), (8, 60), (8, 62), (0, 63), (8, 64), (8, 66), (0, 64), (6, 102), (6, 103), (8, 3), (6, 141)] rfl
theorem gt_X12_goes : ∀ w ∈ wsX12_goes, w ∈ lw_tbl := gt_c (gto_X12_goes _ List.mem_cons_self) (gt_a (gt_a (gt_t gto_X12_goes) (gt_a gt_X12_isIn (gt_a gt_X12_layAlike (gt_a gt_X12_layMeans (gt_X12_apart))))) inX12)
theorem gw_X12_goes : ∀ w ∈ wsV RL 94 RX12 yX12_goes wsX12_goes, w ∈ lw_tbl := gt_a (mem_pos [(8, 56), (8, 57), (8, 58), (1, 14)] rfl) gt_X12_goes
theorem gx_X12_goes : GoodIn (wsV RL 94 RX12 yX12_goes wsX12_goes) (wsV RL 94 RX12 yX12_goes wsX12_goes) := ggi (fun _ h => h) (gs_a (gs_e (by decide +kernel)) gs_X12_goes)
set_option maxRecDepth 100000 in
theorem gto_X0_narrowDown : ∀ w ∈ (.code yX0_narrowDown cX0_narrowDown 8 (some .boolean) :: wsX0_narrowDown_own : List Cond), w ∈ lw_tbl := mem_pos [(4, 212), (4, 213), (4, 156), (4, 157), (1, 7), (2, 71), (2, 73), (2, 75), (1, 209), (2, 76), (1, 139), (1, 1), (4, 118), (1, 144), (1, 214), (4, 215), (3, 154), (1, 16), (3, 155), (1, 218), (4, 216), (3, 157), (3, 158), (3, 77)] rfl
theorem gt_X0_narrowDown : ∀ w ∈ wsX0_narrowDown, w ∈ lw_tbl := gt_c (gto_X0_narrowDown _ List.mem_cons_self) (gt_a (gt_a (gt_a (gt_a (gt_a (gt_a (gt_t gto_X0_narrowDown) (gt_a gt_X11_shine (gt_a gt_X11_within (gt_X7_leanOf)))) inX0) inX7) inX6) inX8) inX10)
set_option maxRecDepth 100000 in
theorem gto_X11_could : ∀ w ∈ (.code yX11_could cX11_could 4 (some .int) :: wsX11_could_own : List Cond), w ∈ lw_tbl := mem_pos [(4, 208), (4, 42), (4, 44), (0, 10), (1, 1), (4, 46), (4, 47), (4, 49), (4, 50), (4, 51), (1, 6), (4, 145), (4, 146), (4, 147), (1, 7), (4, 209), (4, 210), (4, 211), (1, 10), (3, 37), (1, 126), (3, 38), (3, 40), (2, 74), (2, 72)] rfl
theorem gt_X11_could : ∀ w ∈ wsX11_could, w ∈ lw_tbl := gt_c (gto_X11_could _ List.mem_cons_self) (gt_a (gt_a (gt_a (gt_a (gt_a (gt_a (gt_a (gt_t gto_X11_could) (gt_a gt_X11_isDay (gt_a gt_X11_isEither (gt_a gt_X6_has (gt_a gt_X7_recall (gt_X0_narrowDown)))))) inX11) inX6) inX0) inX7) inX8) inX10)
theorem gw_X11_could : ∀ w ∈ wsV RL 95 RX11 yX11_could wsX11_could, w ∈ lw_tbl := gt_a (mem_pos [(4, 205), (4, 206), (4, 207), (1, 1)] rfl) gt_X11_could
theorem gx_X11_could : GoodIn (wsV RL 95 RX11 yX11_could wsX11_could) (wsV RL 95 RX11 yX11_could wsX11_could) := ggi (fun _ h => h) (gs_a (gs_e (by decide +kernel)) gs_X11_could)
set_option maxRecDepth 100000 in
theorem gto_X12_could : ∀ w ∈ (.code yX12_could cX12_could 10 (some .int) :: wsX12_could_own : List Cond), w ∈ lw_tbl := mem_pos [(8, 81), (8, 0), (8, 1), (1, 14), (8, 24), (8, 26), (0, 57), (8, 36), (8, 38), (0, 60), (8, 40), (8, 42), (0, 61), (7, 203), (7, 205), (0, 49), (7, 207), (7, 209), (0, 50), (7, 78), (7, 79), (7, 211), (7, 213), (0, 51), (6, 102), (6, 123), (6, 146), (6, 138), (6, 137), (6, 139), (6, 140), (6, 134)] rfl
theorem gt_X12_could : ∀ w ∈ wsX12_could, w ∈ lw_tbl := gt_c (gto_X12_could _ List.mem_cons_self) (gt_a (gt_a (gt_t gto_X12_could) (gt_a gt_X12_shines (gt_a gt_X12_layLeft (gt_a gt_X12_most (gt_a gt_X12_least (gt_a gt_X12_isPart (gt_a gt_X12_isKnown (gt_a gt_X12_isIn (gt_X12_laySpansOf))))))))) inX12)
theorem gw_X12_could : ∀ w ∈ wsV RL 98 RX12 yX12_could wsX12_could, w ∈ lw_tbl := gt_a (mem_pos [(8, 78), (8, 79), (8, 80), (1, 14)] rfl) gt_X12_could
theorem gx_X12_could : GoodIn (wsV RL 98 RX12 yX12_could wsX12_could) (wsV RL 98 RX12 yX12_could wsX12_could) := ggi (fun _ h => h) (gs_a (gs_e (by decide +kernel)) gs_X12_could)
set_option maxRecDepth 100000 in
theorem gto_X0_weigh : ∀ w ∈ (.code yX0_weigh cX0_weigh 8 none :: wsX0_weigh_own : List Cond), w ∈ lw_tbl := mem_pos [(4, 229), (4, 213), (4, 156), (4, 157), (1, 7), (2, 75), (1, 214), (2, 77), (2, 79), (1, 218), (2, 76), (1, 132), (1, 139), (1, 1), (4, 118), (1, 144), (2, 78), (4, 216), (3, 157), (1, 16), (3, 158), (4, 215), (3, 154), (3, 155)] rfl
theorem gt_X0_weigh : ∀ w ∈ wsX0_weigh, w ∈ lw_tbl := gt_c (gto_X0_weigh _ List.mem_cons_self) (gt_a (gt_a (gt_a (gt_a (gt_a (gt_a (gt_t gto_X0_weigh) (gt_a gt_X7_leanOf (gt_X11_shine))) inX0) inX7) inX6) inX8) inX10)
set_option maxRecDepth 100000 in
theorem gt_X0_choose : ∀ w ∈ wsX0_choose, w ∈ lw_tbl := mem_pos [(4, 237), (2, 81), (2, 76), (1, 132), (4, 230), (4, 232), (0, 15), (1, 10), (4, 233), (2, 79), (2, 80), (2, 77), (2, 78), (4, 234), (4, 236), (0, 16), (2, 82), (2, 84), (2, 86), (2, 88), (2, 90), (2, 92), (2, 94), (2, 96), (2, 98), (1, 156), (1, 158), (1, 160), (1, 162), (1, 164), (1, 166), (1, 168), (1, 170), (1, 172), (1, 174), (1, 176), (1, 178), (1, 180), (1, 182), (1, 184), (1, 186), (1, 188)] rfl
set_option maxRecDepth 100000 in
theorem gt_X0_covers : ∀ w ∈ wsX0_covers, w ∈ lw_tbl := mem_pos [(4, 233), (2, 79), (2, 80), (2, 77), (2, 76), (1, 132), (2, 78), (2, 82), (2, 84), (2, 86), (2, 88), (2, 90), (2, 92), (2, 94), (2, 96), (2, 98), (1, 156), (1, 158), (1, 160), (1, 162), (1, 164), (1, 166), (1, 168), (1, 170), (1, 172), (1, 174), (1, 176), (1, 178), (1, 180), (1, 182), (1, 184), (1, 186), (1, 188)] rfl
set_option maxRecDepth 100000 in
theorem gto_X0_fewest : ∀ w ∈ (.code yX0_fewest cX0_fewest 2 (some .int) :: wsX0_fewest_own : List Cond), w ∈ lw_tbl := mem_pos [(4, 225), (4, 226), (4, 228), (0, 14), (1, 10), (4, 234), (4, 236), (0, 16), (4, 230), (4, 232), (0, 15), (2, 79), (2, 80), (2, 75), (1, 209), (1, 214), (1, 218), (2, 76), (1, 132), (2, 81)] rfl
theorem gt_X0_fewest : ∀ w ∈ wsX0_fewest, w ∈ lw_tbl := gt_c (gto_X0_fewest _ List.mem_cons_self) (gt_a (gt_a (gt_a (gt_a (gt_a (gt_a (gt_t gto_X0_fewest) (gt_a gt_X0_weigh (gt_a gt_X0_choose (gt_X0_covers)))) inX0) inX7) inX6) inX8) inX10)
set_option maxRecDepth 100000 in
theorem gto_X11_sets : ∀ w ∈ (.code yX11_sets cX11_sets 2 (some .int) :: wsX11_sets_own : List Cond), w ∈ lw_tbl := mem_pos [(4, 221), (4, 42), (4, 44), (0, 10), (1, 1), (4, 145), (4, 146), (4, 147), (1, 7), (4, 222), (4, 223), (4, 224), (1, 10), (3, 38), (3, 40)] rfl
theorem gt_X11_sets : ∀ w ∈ wsX11_sets, w ∈ lw_tbl := gt_c (gto_X11_sets _ List.mem_cons_self) (gt_a (gt_a (gt_a (gt_a (gt_a (gt_a (gt_a (gt_t gto_X11_sets) (gt_a gt_X11_isDay (gt_a gt_X7_recall (gt_X0_fewest)))) inX11) inX7) inX6) inX8) inX10) inX0)
theorem gw_X11_sets : ∀ w ∈ wsV RL 99 RX11 yX11_sets wsX11_sets, w ∈ lw_tbl := gt_a (mem_pos [(4, 218), (4, 219), (4, 220), (1, 1)] rfl) gt_X11_sets
theorem gx_X11_sets : GoodIn (wsV RL 99 RX11 yX11_sets wsX11_sets) (wsV RL 99 RX11 yX11_sets wsX11_sets) := ggi (fun _ h => h) (gs_a (gs_e (by decide +kernel)) gs_X11_sets)
set_option maxRecDepth 100000 in
theorem gt_J6_bitCount_0f7a4 : ∀ w ∈ wsJ6_bitCount_0f7a4, w ∈ lw_tbl := mem_pos [(8, 91), (8, 92), (8, 93), (8, 94)] rfl
set_option maxRecDepth 100000 in
theorem gto_X12_isBetter : ∀ w ∈ (.code yX12_isBetter cX12_isBetter 3 (some .boolean) :: wsX12_isBetter_own : List Cond), w ∈ lw_tbl := mem_pos [(8, 88), (8, 89), (8, 90), (1, 26)] rfl
theorem gt_X12_isBetter : ∀ w ∈ wsX12_isBetter, w ∈ lw_tbl := gt_c (gto_X12_isBetter _ List.mem_cons_self) (gt_a (gt_t gto_X12_isBetter) (gt_J6_bitCount_0f7a4))
set_option maxRecDepth 100000 in
theorem gt_X12_isSet : ∀ w ∈ wsX12_isSet, w ∈ lw_tbl := mem_pos [(8, 98), (6, 138), (6, 137), (6, 136), (6, 131), (6, 123), (6, 150), (6, 148), (6, 149), (6, 147), (6, 171), (6, 173), (6, 175), (6, 177), (6, 179), (6, 181), (6, 183), (6, 185), (6, 187), (6, 189), (6, 191), (6, 193), (6, 195), (6, 197), (6, 199), (6, 201), (6, 203), (6, 205), (6, 207), (6, 209), (6, 211), (6, 213), (6, 215), (6, 217), (6, 219), (6, 221), (6, 223), (6, 225), (6, 227), (6, 229), (6, 231), (6, 233), (6, 235), (6, 237), (6, 239), (7, 1), (7, 3), (7, 5), (7, 7), (7, 9), (7, 11), (7, 13), (7, 15), (7, 17), (7, 19), (7, 21), (7, 23), (7, 25), (7, 27), (7, 29), (7, 31), (7, 33), (7, 35), (7, 37), (7, 39), (7, 41), (7, 43), (7, 45), (7, 47), (7, 49), (7, 51), (7, 53), (7, 55), (7, 57), (7, 59), (7, 61), (7, 63), (7, 65), (7, 67)] rfl
