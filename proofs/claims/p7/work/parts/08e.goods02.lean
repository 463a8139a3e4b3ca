set_option maxRecDepth 100000 in
theorem gto_X12_sets : ∀ w ∈ (.code yX12_sets cX12_sets 5 (some .int) :: wsX12_sets_own : List Cond), w ∈ lw_tbl := mem_pos [(8, 85), (8, 40), (8, 42), (0, 61), (1, 14), (8, 36), (8, 38), (0, 60), (8, 0), (8, 1), (8, 28), (8, 30), (0, 58), (8, 86), (8, 87), (8, 95), (8, 97), (0, 66), (7, 78), (7, 79), (7, 211), (7, 213), (0, 51), (6, 102), (6, 103), (6, 131), (6, 123), (6, 138), (6, 137), (6, 147), (6, 148), (6, 149), (6, 134), (7, 224), (3, 157), (1, 16), (3, 158), (6, 150), (7, 223), (3, 154), (3, 155)] rfl
theorem gt_X12_sets : ∀ w ∈ wsX12_sets, w ∈ lw_tbl := gt_c (gto_X12_sets _ List.mem_cons_self) (gt_a (gt_a (gt_t gto_X12_sets) (gt_a gt_X12_least (gt_a gt_X12_most (gt_a gt_X12_shines (gt_a gt_X12_layWorthsOf (gt_a gt_X12_isBetter (gt_a gt_X12_isSet (gt_a gt_X12_isIn (gt_X12_laySpansOf))))))))) inX12)
theorem gw_X12_sets : ∀ w ∈ wsV RL 102 RX12 yX12_sets wsX12_sets, w ∈ lw_tbl := gt_a (mem_pos [(8, 82), (8, 83), (8, 84), (1, 14)] rfl) gt_X12_sets
theorem gx_X12_sets : GoodIn (wsV RL 102 RX12 yX12_sets wsX12_sets) (wsV RL 102 RX12 yX12_sets wsX12_sets) := ggi (fun _ h => h) (gs_a (gs_e (by decide +kernel)) gs_X12_sets)
set_option maxRecDepth 100000 in
theorem gt_X3_add : ∀ w ∈ wsX3_add, w ∈ lw_tbl := mem_pos [(5, 5), (2, 107), (2, 113), (2, 114), (2, 115), (2, 116), (2, 117), (2, 129), (2, 131), (2, 133), (2, 135), (2, 137), (2, 139), (2, 141), (2, 143), (2, 145), (2, 147), (2, 149), (2, 151), (2, 153), (2, 155), (2, 157), (2, 159), (2, 161), (2, 163), (2, 165)] rfl
set_option maxRecDepth 100000 in
theorem gto_X11_look : ∀ w ∈ (.code yX11_look cX11_look 6 (some .int) :: wsX11_look_own : List Cond), w ∈ lw_tbl := mem_pos [(5, 1), (5, 2), (5, 3), (5, 4), (1, 11), (4, 49), (4, 50), (4, 51), (1, 6), (4, 31), (4, 32), (1, 1), (3, 76), (3, 77), (3, 37), (3, 41), (2, 108)] rfl
theorem gt_X11_look : ∀ w ∈ wsX11_look, w ∈ lw_tbl := gt_c (gto_X11_look _ List.mem_cons_self) (gt_a (gt_a (gt_a (gt_a (gt_t gto_X11_look) (gt_a gt_X3_add (gt_a gt_X6_has (gt_a gt_X11_isLoudness (gt_X11_within))))) inX11) inX3) inX6)
theorem gw_X11_look : ∀ w ∈ wsV RL 103 RX11 yX11_look wsX11_look, w ∈ lw_tbl := gt_a (mem_pos [(4, 238), (4, 239), (5, 0), (1, 1)] rfl) gt_X11_look
theorem gx_X11_look : GoodIn (wsV RL 103 RX11 yX11_look wsX11_look) (wsV RL 103 RX11 yX11_look wsX11_look) := ggi (fun _ h => h) (gs_a (gs_e (by decide +kernel)) gs_X11_look)
set_option maxRecDepth 100000 in
theorem gto_X12_look_ : ∀ w ∈ (.code yX12_look_ cX12_look_ 5 (some .int) :: wsX12_look__own : List Cond), w ∈ lw_tbl := mem_pos [(8, 102), (7, 203), (7, 205), (0, 49), (1, 14), (7, 196), (7, 197), (7, 78), (7, 79), (6, 102), (6, 156), (6, 151), (6, 152), (6, 153), (6, 154), (6, 155)] rfl
theorem gt_X12_look_ : ∀ w ∈ wsX12_look_, w ∈ lw_tbl := gt_c (gto_X12_look_ _ List.mem_cons_self) (gt_a (gt_a (gt_t gto_X12_look_) (gt_a gt_X12_isPart (gt_a gt_X12_isSpan (gt_X12_isIn)))) inX12)
theorem gw_X12_look_ : ∀ w ∈ wsV RL 106 RX12 yX12_look_ wsX12_look_, w ∈ lw_tbl := gt_a (mem_pos [(8, 99), (8, 100), (8, 101), (1, 14)] rfl) gt_X12_look_
theorem gx_X12_look_ : GoodIn (wsV RL 106 RX12 yX12_look_ wsX12_look_) (wsV RL 106 RX12 yX12_look_ wsX12_look_) := ggi (fun _ h => h) (gs_a (gs_e (by decide +kernel)) gs_X12_look_)
set_option maxRecDepth 100000 in
theorem gt_X3_has : ∀ w ∈ wsX3_has, w ∈ lw_tbl := mem_pos [(5, 13), (2, 107), (2, 129), (2, 131), (2, 133), (2, 135), (2, 137), (2, 139), (2, 141), (2, 143), (2, 145), (2, 147), (2, 149), (2, 151), (2, 153), (2, 155), (2, 157), (2, 159), (2, 161), (2, 163), (2, 165)] rfl
set_option maxRecDepth 100000 in
theorem gt_X3_isDone : ∀ w ∈ wsX3_isDone, w ∈ lw_tbl := mem_pos [(5, 17), (2, 117), (2, 129), (2, 131), (2, 133), (2, 135), (2, 137), (2, 139), (2, 141), (2, 143), (2, 145), (2, 147), (2, 149), (2, 151), (2, 153), (2, 155), (2, 157), (2, 159), (2, 161), (2, 163), (2, 165)] rfl
set_option maxRecDepth 100000 in
theorem gt_X6_change : ∀ w ∈ wsX6_change, w ∈ lw_tbl := mem_pos [(5, 26), (1, 155), (1, 150), (1, 151), (1, 152), (1, 153), (1, 154), (1, 156), (1, 158), (1, 160), (1, 162), (1, 164), (1, 166), (1, 168), (1, 170), (1, 172), (1, 174), (1, 176), (1, 178), (1, 180), (1, 182), (1, 184), (1, 186), (1, 188)] rfl
set_option maxRecDepth 100000 in
theorem gto_X3_carryOut : ∀ w ∈ (.code yX3_carryOut cX3_carryOut 4 none :: wsX3_carryOut_own : List Cond), w ∈ lw_tbl := mem_pos [(5, 21), (5, 22), (4, 54), (4, 55), (1, 6), (5, 23), (5, 24), (5, 25), (2, 113), (2, 125), (2, 118), (1, 140), (2, 119), (1, 145), (2, 114), (2, 115), (2, 120), (2, 121), (2, 117)] rfl
theorem gt_X3_carryOut : ∀ w ∈ wsX3_carryOut, w ∈ lw_tbl := gt_c (gto_X3_carryOut _ List.mem_cons_self) (gt_a (gt_a (gt_a (gt_t gto_X3_carryOut) (gt_a gt_X6_recall (gt_X6_change))) inX3) inX6)
set_option maxRecDepth 100000 in
theorem gto_X11_done : ∀ w ∈ (.code yX11_done cX11_done 2 (some .boolean) :: wsX11_done_own : List Cond), w ∈ lw_tbl := mem_pos [(5, 9), (5, 10), (5, 11), (5, 12), (1, 11), (5, 14), (5, 15), (5, 16), (5, 18), (5, 19), (5, 20), (3, 41), (3, 44)] rfl
theorem gt_X11_done : ∀ w ∈ wsX11_done, w ∈ lw_tbl := gt_c (gto_X11_done _ List.mem_cons_self) (gt_a (gt_a (gt_a (gt_a (gt_t gto_X11_done) (gt_a gt_X3_has (gt_a gt_X3_isDone (gt_X3_carryOut)))) inX11) inX3) inX6)
theorem gw_X11_done : ∀ w ∈ wsV RL 107 RX11 yX11_done wsX11_done, w ∈ lw_tbl := gt_a (mem_pos [(5, 6), (5, 7), (5, 8), (1, 1)] rfl) gt_X11_done
theorem gx_X11_done : GoodIn (wsV RL 107 RX11 yX11_done wsX11_done) (wsV RL 107 RX11 yX11_done wsX11_done) := ggi (fun _ h => h) (gs_a (gs_e (by decide +kernel)) gs_X11_done)
set_option maxRecDepth 100000 in
theorem gt_X12_isLook : ∀ w ∈ wsX12_isLook, w ∈ lw_tbl := mem_pos [(8, 110), (6, 156), (6, 171), (6, 173), (6, 175), (6, 177), (6, 179), (6, 181), (6, 183), (6, 185), (6, 187), (6, 189), (6, 191), (6, 193), (6, 195), (6, 197), (6, 199), (6, 201), (6, 203), (6, 205), (6, 207), (6, 209), (6, 211), (6, 213), (6, 215), (6, 217), (6, 219), (6, 221), (6, 223), (6, 225), (6, 227), (6, 229), (6, 231), (6, 233), (6, 235), (6, 237), (6, 239), (7, 1), (7, 3), (7, 5), (7, 7), (7, 9), (7, 11), (7, 13), (7, 15), (7, 17), (7, 19), (7, 21), (7, 23), (7, 25), (7, 27), (7, 29), (7, 31), (7, 33), (7, 35), (7, 37), (7, 39), (7, 41), (7, 43), (7, 45), (7, 47), (7, 49), (7, 51), (7, 53), (7, 55), (7, 57), (7, 59), (7, 61), (7, 63), (7, 65), (7, 67)] rfl
set_option maxRecDepth 100000 in
theorem gt_X12_happens : ∀ w ∈ wsX12_happens, w ∈ lw_tbl := mem_pos [(8, 114), (6, 124), (6, 132), (6, 125), (6, 126), (6, 127), (6, 128), (6, 103), (6, 171), (6, 173), (6, 175), (6, 177), (6, 179), (6, 181), (6, 183), (6, 185), (6, 187), (6, 189), (6, 191), (6, 193), (6, 195), (6, 197), (6, 199), (6, 201), (6, 203), (6, 205), (6, 207), (6, 209), (6, 211), (6, 213), (6, 215), (6, 217), (6, 219), (6, 221), (6, 223), (6, 225), (6, 227), (6, 229), (6, 231), (6, 233), (6, 235), (6, 237), (6, 239), (7, 1), (7, 3), (7, 5), (7, 7), (7, 9), (7, 11), (7, 13), (7, 15), (7, 17), (7, 19), (7, 21), (7, 23), (7, 25), (7, 27), (7, 29), (7, 31), (7, 33), (7, 35), (7, 37), (7, 39), (7, 41), (7, 43), (7, 45), (7, 47), (7, 49), (7, 51), (7, 53), (7, 55), (7, 57), (7, 59), (7, 61), (7, 63), (7, 65), (7, 67)] rfl
set_option maxRecDepth 100000 in
theorem gto_X12_done : ∀ w ∈ (.code yX12_done cX12_done 2 (some .boolean) :: wsX12_done_own : List Cond), w ∈ lw_tbl := mem_pos [(8, 106), (8, 107), (8, 109), (0, 67), (1, 14), (8, 111), (8, 113), (0, 68), (6, 102), (6, 155), (6, 132), (6, 151), (6, 152), (6, 153)] rfl
theorem gt_X12_done : ∀ w ∈ wsX12_done, w ∈ lw_tbl := gt_c (gto_X12_done _ List.mem_cons_self) (gt_a (gt_a (gt_t gto_X12_done) (gt_a gt_X12_isLook (gt_X12_happens))) inX12)
theorem gw_X12_done : ∀ w ∈ wsV RL 110 RX12 yX12_done wsX12_done, w ∈ lw_tbl := gt_a (mem_pos [(8, 103), (8, 104), (8, 105), (1, 14)] rfl) gt_X12_done
theorem gx_X12_done : GoodIn (wsV RL 110 RX12 yX12_done wsX12_done) (wsV RL 110 RX12 yX12_done wsX12_done) := ggi (fun _ h => h) (gs_a (gs_e (by decide +kernel)) gs_X12_done)
set_option maxRecDepth 100000 in
theorem gto_X11_clean : ∀ w ∈ (.code yX11_clean cX11_clean 6 (some .boolean) :: wsX11_clean_own : List Cond), w ∈ lw_tbl := mem_pos [(5, 30), (5, 31), (5, 24), (5, 25), (1, 6), (4, 49), (4, 50), (4, 51), (4, 31), (4, 32), (1, 1), (3, 76), (3, 77), (3, 37), (1, 131), (1, 128), (3, 44)] rfl
theorem gt_X11_clean : ∀ w ∈ wsX11_clean, w ∈ lw_tbl := gt_c (gto_X11_clean _ List.mem_cons_self) (gt_a (gt_a (gt_a (gt_t gto_X11_clean) (gt_a gt_X6_change (gt_a gt_X6_has (gt_a gt_X11_isLoudness (gt_X11_within))))) inX11) inX6)
theorem gw_X11_clean : ∀ w ∈ wsV RL 111 RX11 yX11_clean wsX11_clean, w ∈ lw_tbl := gt_a (mem_pos [(5, 27), (5, 28), (5, 29), (1, 1)] rfl) gt_X11_clean
theorem gx_X11_clean : GoodIn (wsV RL 111 RX11 yX11_clean wsX11_clean) (wsV RL 111 RX11 yX11_clean wsX11_clean) := ggi (fun _ h => h) (gs_a (gs_e (by decide +kernel)) gs_X11_clean)
set_option maxRecDepth 100000 in
theorem gto_X12_clean : ∀ w ∈ (.code yX12_clean cX12_clean 5 (some .boolean) :: wsX12_clean_own : List Cond), w ∈ lw_tbl := mem_pos [(8, 118), (7, 203), (7, 205), (0, 49), (1, 14), (7, 196), (7, 197), (7, 78), (7, 79), (8, 111), (8, 113), (0, 68), (6, 102), (6, 133), (6, 122)] rfl
theorem gt_X12_clean : ∀ w ∈ wsX12_clean, w ∈ lw_tbl := gt_c (gto_X12_clean _ List.mem_cons_self) (gt_a (gt_a (gt_t gto_X12_clean) (gt_a gt_X12_isPart (gt_a gt_X12_isSpan (gt_a gt_X12_isIn (gt_X12_happens))))) inX12)
theorem gw_X12_clean : ∀ w ∈ wsV RL 115 RX12 yX12_clean wsX12_clean, w ∈ lw_tbl := gt_a (mem_pos [(8, 115), (8, 116), (8, 117), (1, 14)] rfl) gt_X12_clean
theorem gx_X12_clean : GoodIn (wsV RL 115 RX12 yX12_clean wsX12_clean) (wsV RL 115 RX12 yX12_clean wsX12_clean) := ggi (fun _ h => h) (gs_a (gs_e (by decide +kernel)) gs_X12_clean)
set_option maxRecDepth 100000 in
theorem gto_X3_gain : ∀ w ∈ (.code yX3_gain cX3_gain 4 (some .int) :: wsX3_gain_own : List Cond), w ∈ lw_tbl := mem_pos [(5, 39), (5, 40), (4, 156), (4, 157), (1, 7), (2, 124), (2, 113), (2, 118), (2, 119), (1, 1), (4, 172), (2, 120), (2, 121)] rfl
theorem gt_X3_gain : ∀ w ∈ wsX3_gain, w ∈ lw_tbl := gt_c (gto_X3_gain _ List.mem_cons_self) (gt_a (gt_a (gt_a (gt_a (gt_a (gt_a (gt_t gto_X3_gain) (gt_a gt_X7_leanOf (gt_X11_spread))) inX3) inX7) inX6) inX8) inX10)
set_option maxRecDepth 100000 in
theorem gto_X11_narrows : ∀ w ∈ (.code yX11_narrows cX11_narrows 3 (some .int) :: wsX11_narrows_own : List Cond), w ∈ lw_tbl := mem_pos [(5, 35), (5, 10), (5, 11), (5, 12), (1, 11), (5, 14), (5, 15), (5, 16), (4, 141), (4, 142), (4, 143), (1, 7), (5, 36), (5, 37), (5, 38), (3, 41), (4, 78), (3, 38)] rfl
theorem gt_X11_narrows : ∀ w ∈ wsX11_narrows, w ∈ lw_tbl := gt_c (gto_X11_narrows _ List.mem_cons_self) (gt_a (gt_a (gt_a (gt_a (gt_a (gt_a (gt_a (gt_t gto_X11_narrows) (gt_a gt_X3_has (gt_a gt_X3_isDone (gt_a gt_X7_has (gt_X3_gain))))) inX11) inX3) inX7) inX6) inX8) inX10)
theorem gw_X11_narrows : ∀ w ∈ wsV RL 116 RX11 yX11_narrows wsX11_narrows, w ∈ lw_tbl := gt_a (mem_pos [(5, 32), (5, 33), (5, 34), (1, 1)] rfl) gt_X11_narrows
theorem gx_X11_narrows : GoodIn (wsV RL 116 RX11 yX11_narrows wsX11_narrows) (wsV RL 116 RX11 yX11_narrows wsX11_narrows) := ggi (fun _ h => h) (gs_a (gs_e (by decide +kernel)) gs_X11_narrows)
set_option maxRecDepth 100000 in
theorem gto_X12_wide : ∀ w ∈ (.code yX12_wide cX12_wide 2 (some .int) :: wsX12_wide_own : List Cond), w ∈ lw_tbl := mem_pos [(8, 130), (8, 24), (8, 26), (0, 57), (1, 14), (6, 103), (6, 140), (6, 139)] rfl
theorem gt_X12_wide : ∀ w ∈ wsX12_wide, w ∈ lw_tbl := gt_c (gto_X12_wide _ List.mem_cons_self) (gt_a (gt_a (gt_t gto_X12_wide) (gt_X12_layLeft)) inX12)
set_option maxRecDepth 100000 in
theorem gto_X12_wideBy : ∀ w ∈ (.code yX12_wideBy cX12_wideBy 6 (some .int) :: wsX12_wideBy_own : List Cond), w ∈ lw_tbl := mem_pos [(8, 126), (7, 215), (7, 217), (0, 52), (1, 14), (8, 127), (8, 129), (0, 70), (6, 129), (6, 130), (6, 132)] rfl
theorem gt_X12_wideBy : ∀ w ∈ wsX12_wideBy, w ∈ lw_tbl := gt_c (gto_X12_wideBy _ List.mem_cons_self) (gt_a (gt_a (gt_t gto_X12_wideBy) (gt_a gt_X12_laySpans (gt_X12_wide))) inX12)
set_option maxRecDepth 100000 in
theorem gto_X12_narrows : ∀ w ∈ (.code yX12_narrows cX12_narrows 3 (some .int) :: wsX12_narrows_own : List Cond), w ∈ lw_tbl := mem_pos [(8, 122), (8, 107), (8, 109), (0, 67), (1, 14), (8, 20), (8, 22), (0, 56), (8, 123), (8, 125), (0, 69), (6, 102), (8, 3), (6, 155), (6, 151)] rfl
theorem gt_X12_narrows : ∀ w ∈ wsX12_narrows, w ∈ lw_tbl := gt_c (gto_X12_narrows _ List.mem_cons_self) (gt_a (gt_a (gt_t gto_X12_narrows) (gt_a gt_X12_isLook (gt_a gt_X12_isReading (gt_X12_wideBy)))) inX12)
theorem gw_X12_narrows : ∀ w ∈ wsV RL 119 RX12 yX12_narrows wsX12_narrows, w ∈ lw_tbl := gt_a (mem_pos [(8, 119), (8, 120), (8, 121), (1, 14)] rfl) gt_X12_narrows
theorem gx_X12_narrows : GoodIn (wsV RL 119 RX12 yX12_narrows wsX12_narrows) (wsV RL 119 RX12 yX12_narrows wsX12_narrows) := ggi (fun _ h => h) (gs_a (gs_e (by decide +kernel)) gs_X12_narrows)
set_option maxRecDepth 100000 in
theorem gto_X3_idle : ∀ w ∈ (.code yX3_idle cX3_idle 3 (some .int) :: wsX3_idle_own : List Cond), w ∈ lw_tbl := mem_pos [(5, 49), (5, 50), (5, 15), (5, 16), (1, 11), (2, 107), (2, 118), (2, 120), (2, 119), (2, 121)] rfl
theorem gt_X3_idle : ∀ w ∈ wsX3_idle, w ∈ lw_tbl := gt_c (gto_X3_idle _ List.mem_cons_self) (gt_a (gt_a (gt_t gto_X3_idle) (gt_X3_isDone)) inX3)
set_option maxRecDepth 100000 in
theorem gto_X11_nothing : ∀ w ∈ (.code yX11_nothing cX11_nothing 1 (some .int) :: wsX11_nothing_own : List Cond), w ∈ lw_tbl := mem_pos [(5, 45), (5, 46), (5, 47), (5, 48), (1, 11), (3, 41)] rfl
theorem gt_X11_nothing : ∀ w ∈ wsX11_nothing, w ∈ lw_tbl := gt_c (gto_X11_nothing _ List.mem_cons_self) (gt_a (gt_a (gt_a (gt_t gto_X11_nothing) (gt_X3_idle)) inX11) inX3)
theorem gw_X11_nothing : ∀ w ∈ wsV RL 120 RX11 yX11_nothing wsX11_nothing, w ∈ lw_tbl := gt_a (mem_pos [(5, 42), (5, 43), (5, 44), (1, 1)] rfl) gt_X11_nothing
theorem gx_X11_nothing : GoodIn (wsV RL 120 RX11 yX11_nothing wsX11_nothing) (wsV RL 120 RX11 yX11_nothing wsX11_nothing) := ggi (fun _ h => h) (gs_a (gs_e (by decide +kernel)) gs_X11_nothing)
set_option maxRecDepth 100000 in
theorem gto_X12_nothing : ∀ w ∈ (.code yX12_nothing cX12_nothing 5 (some .int) :: wsX12_nothing_own : List Cond), w ∈ lw_tbl := mem_pos [(8, 134), (7, 215), (7, 217), (0, 52), (1, 14), (7, 219), (7, 221), (0, 53), (6, 102), (6, 156), (6, 155), (6, 129), (6, 151), (6, 130), (6, 152), (6, 153)] rfl
theorem gt_X12_nothing : ∀ w ∈ wsX12_nothing, w ∈ lw_tbl := gt_c (gto_X12_nothing _ List.mem_cons_self) (gt_a (gt_a (gt_t gto_X12_nothing) (gt_a gt_X12_laySpans (gt_X12_cutDown))) inX12)
theorem gw_X12_nothing : ∀ w ∈ wsV RL 123 RX12 yX12_nothing wsX12_nothing, w ∈ lw_tbl := gt_a (mem_pos [(8, 131), (8, 132), (8, 133), (1, 14)] rfl) gt_X12_nothing
theorem gx_X12_nothing : GoodIn (wsV RL 123 RX12 yX12_nothing wsX12_nothing) (wsV RL 123 RX12 yX12_nothing wsX12_nothing) := ggi (fun _ h => h) (gs_a (gs_e (by decide +kernel)) gs_X12_nothing)
set_option maxRecDepth 100000 in
theorem gt_X3_rowSpread : ∀ w ∈ wsX3_rowSpread, w ∈ lw_tbl := mem_pos [(5, 62), (2, 122), (2, 123), (2, 124), (2, 126), (5, 40), (4, 156), (4, 157), (1, 7), (4, 158), (1, 225), (1, 123), (1, 221), (1, 198), (1, 202), (1, 224), (1, 99), (4, 136), (4, 9), (4, 8), (1, 21), (4, 159), (4, 95), (4, 96), (1, 4), (4, 97), (1, 97), (1, 98), (1, 100), (4, 98), (4, 28), (4, 29), (4, 30), (1, 101), (4, 99), (4, 100), (4, 101), (1, 20), (4, 102), (4, 14), (4, 103), (4, 104), (4, 105), (4, 106), (4, 107), (4, 108), (4, 109), (4, 110), (4, 111), (4, 112), (1, 16), (4, 113), (4, 114), (4, 115), (4, 116), (4, 172), (1, 1), (4, 173), (4, 174), (4, 175), (4, 176), (4, 117), (4, 118), (4, 119), (2, 129), (2, 131), (2, 133), (2, 135), (2, 137), (2, 139), (2, 141), (2, 143), (2, 145), (2, 147), (2, 149), (2, 151), (2, 153), (2, 155), (2, 157), (2, 159), (2, 161), (2, 163), (2, 165), (1, 226), (1, 228), (1, 230), (1, 232), (1, 234), (1, 236), (1, 238), (2, 0), (2, 2), (2, 4), (2, 6), (2, 8), (1, 156), (1, 158), (1, 160), (1, 162), (1, 164), (1, 166), (1, 168), (1, 170), (1, 172), (1, 174), (1, 176), (1, 178), (1, 180), (1, 182), (1, 184), (1, 186), (1, 188), (1, 103), (1, 105), (1, 107), (1, 109), (1, 111), (4, 15)] rfl
set_option maxRecDepth 100000 in
theorem gto_X3_startRow : ∀ w ∈ (.code yX3_startRow cX3_startRow 4 none :: wsX3_startRow_own : List Cond), w ∈ lw_tbl := mem_pos [(5, 58), (5, 59), (5, 61), (0, 17), (1, 11), (5, 22), (4, 54), (4, 55), (1, 6), (2, 125), (2, 126), (2, 127), (1, 135), (2, 122), (1, 140), (2, 123), (1, 145)] rfl
theorem gt_X3_startRow : ∀ w ∈ wsX3_startRow, w ∈ lw_tbl := gt_c (gto_X3_startRow _ List.mem_cons_self) (gt_a (gt_a (gt_a (gt_a (gt_a (gt_a (gt_t gto_X3_startRow) (gt_a gt_X3_rowSpread (gt_X6_recall))) inX3) inX6) inX7) inX8) inX10)
set_option maxRecDepth 100000 in
theorem gt_X3_choose : ∀ w ∈ wsX3_choose, w ∈ lw_tbl := mem_pos [(5, 70), (2, 107), (2, 111), (2, 128), (2, 109), (2, 116), (2, 113), (2, 122), (2, 123), (5, 50), (5, 15), (5, 16), (1, 11), (5, 17), (2, 117), (5, 59), (5, 61), (0, 17), (5, 62), (2, 124), (2, 126), (5, 40), (4, 156), (4, 157), (1, 7), (4, 158), (1, 225), (1, 123), (1, 221), (1, 198), (1, 202), (1, 224), (1, 99), (4, 136), (4, 9), (4, 8), (1, 21), (4, 159), (4, 95), (4, 96), (1, 4), (4, 97), (1, 97), (1, 98), (1, 100), (4, 98), (4, 28), (4, 29), (4, 30), (1, 101), (4, 99), (4, 100), (4, 101), (1, 20), (4, 102), (4, 14), (4, 103), (4, 104), (4, 105), (4, 106), (4, 107), (4, 108), (4, 109), (4, 110), (4, 111), (4, 112), (1, 16), (4, 113), (4, 114), (4, 115), (4, 116), (4, 172), (1, 1), (4, 173), (4, 174), (4, 175), (4, 176), (4, 117), (4, 118), (4, 119), (5, 71), (5, 73), (0, 19), (5, 74), (2, 114), (2, 115), (5, 76), (3, 154), (3, 155), (5, 77), (3, 157), (3, 158), (5, 75), (4, 67), (1, 6), (4, 68), (5, 67), (5, 69), (0, 18), (2, 129), (2, 131), (2, 133), (2, 135), (2, 137), (2, 139), (2, 141), (2, 143), (2, 145), (2, 147), (2, 149), (2, 151), (2, 153), (2, 155), (2, 157), (2, 159), (2, 161), (2, 163), (2, 165), (1, 226), (1, 228), (1, 230), (1, 232), (1, 234), (1, 236), (1, 238), (2, 0), (2, 2), (2, 4), (2, 6), (2, 8), (1, 156), (1, 158), (1, 160), (1, 162), (1, 164), (1, 166), (1, 168), (1, 170), (1, 172), (1, 174), (1, 176), (1, 178), (1, 180), (1, 182), (1, 184), (1, 186), (1, 188), (1, 103), (1, 105), (1, 107), (1, 109), (1, 111), (4, 15)] rfl
set_option maxRecDepth 100000 in
theorem gto_X3_search : ∀ w ∈ (.code yX3_search cX3_search 2 none :: wsX3_search_own : List Cond), w ∈ lw_tbl := mem_pos [(5, 66), (5, 67), (5, 69), (0, 18), (1, 11), (2, 127), (2, 111), (2, 128), (2, 109)] rfl
theorem gt_X3_search : ∀ w ∈ wsX3_search, w ∈ lw_tbl := gt_c (gto_X3_search _ List.mem_cons_self) (gt_a (gt_a (gt_a (gt_a (gt_a (gt_a (gt_t gto_X3_search) (gt_X3_choose)) inX3) inX7) inX6) inX8) inX10)
set_option maxRecDepth 100000 in
theorem gto_X11_plan : ∀ w ∈ (.code yX11_plan cX11_plan 4 (some .int) :: wsX11_plan_own : List Cond), w ∈ lw_tbl := mem_pos [(5, 54), (4, 141), (4, 142), (4, 143), (1, 7), (3, 76), (3, 77), (1, 1), (4, 46), (4, 47), (5, 55), (5, 56), (5, 57), (1, 11), (5, 63), (5, 64), (5, 65), (3, 38), (3, 41), (3, 44), (2, 112), (2, 110)] rfl
theorem gt_X11_plan : ∀ w ∈ wsX11_plan, w ∈ lw_tbl := gt_c (gto_X11_plan _ List.mem_cons_self) (gt_a (gt_a (gt_a (gt_a (gt_a (gt_a (gt_a (gt_t gto_X11_plan) (gt_a gt_X7_has (gt_a gt_X11_within (gt_a gt_X11_isEither (gt_a gt_X3_startRow (gt_X3_search)))))) inX11) inX3) inX7) inX6) inX8) inX10)
theorem gw_X11_plan : ∀ w ∈ wsV RL 124 RX11 yX11_plan wsX11_plan, w ∈ lw_tbl := gt_a (mem_pos [(5, 51), (5, 52), (5, 53), (1, 1)] rfl) gt_X11_plan
theorem gx_X11_plan : GoodIn (wsV RL 124 RX11 yX11_plan wsX11_plan) (wsV RL 124 RX11 yX11_plan wsX11_plan) := ggi (fun _ h => h) (gs_a (gs_e (by decide +kernel)) gs_X11_plan)
set_option maxRecDepth 100000 in
theorem gto_X12_judged : ∀ w ∈ (.code yX12_judged cX12_judged 4 (some .int) :: wsX12_judged_own : List Cond), w ∈ lw_tbl := mem_pos [(8, 146), (7, 219), (7, 221), (0, 53), (1, 14), (8, 127), (8, 129), (0, 70), (7, 215), (7, 217), (0, 52), (6, 132), (6, 156), (6, 151), (6, 152), (6, 153)] rfl
theorem gt_X12_judged : ∀ w ∈ wsX12_judged, w ∈ lw_tbl := gt_c (gto_X12_judged _ List.mem_cons_self) (gt_a (gt_a (gt_t gto_X12_judged) (gt_a gt_X12_cutDown (gt_a gt_X12_wide (gt_X12_laySpans)))) inX12)
set_option maxRecDepth 100000 in
theorem gt_X12_isRow : ∀ w ∈ wsX12_isRow, w ∈ lw_tbl := mem_pos [(8, 142), (6, 156), (6, 155), (6, 171), (6, 173), (6, 175), (6, 177), (6, 179), (6, 181), (6, 183), (6, 185), (6, 187), (6, 189), (6, 191), (6, 193), (6, 195), (6, 197), (6, 199), (6, 201), (6, 203), (6, 205), (6, 207), (6, 209), (6, 211), (6, 213), (6, 215), (6, 217), (6, 219), (6, 221), (6, 223), (6, 225), (6, 227), (6, 229), (6, 231), (6, 233), (6, 235), (6, 237), (6, 239), (7, 1), (7, 3), (7, 5), (7, 7), (7, 9), (7, 11), (7, 13), (7, 15), (7, 17), (7, 19), (7, 21), (7, 23), (7, 25), (7, 27), (7, 29), (7, 31), (7, 33), (7, 35), (7, 37), (7, 39), (7, 41), (7, 43), (7, 45), (7, 47), (7, 49), (7, 51), (7, 53), (7, 55), (7, 57), (7, 59), (7, 61), (7, 63), (7, 65), (7, 67)] rfl
set_option maxRecDepth 100000 in
theorem gto_X12_plan : ∀ w ∈ (.code yX12_plan cX12_plan 11 (some .int) :: wsX12_plan_own : List Cond), w ∈ lw_tbl := mem_pos [(8, 138), (8, 143), (8, 145), (0, 72), (1, 14), (8, 139), (8, 141), (0, 71), (8, 20), (8, 22), (0, 56), (7, 78), (7, 79), (6, 102), (6, 156), (6, 154)] rfl
theorem gt_X12_plan : ∀ w ∈ wsX12_plan, w ∈ lw_tbl := gt_c (gto_X12_plan _ List.mem_cons_self) (gt_a (gt_a (gt_t gto_X12_plan) (gt_a gt_X12_judged (gt_a gt_X12_isRow (gt_a gt_X12_isReading (gt_X12_isIn))))) inX12)
theorem gw_X12_plan : ∀ w ∈ wsV RL 127 RX12 yX12_plan wsX12_plan, w ∈ lw_tbl := gt_a (mem_pos [(8, 135), (8, 136), (8, 137), (1, 14)] rfl) gt_X12_plan
theorem gx_X12_plan : GoodIn (wsV RL 127 RX12 yX12_plan wsX12_plan) (wsV RL 127 RX12 yX12_plan wsX12_plan) := ggi (fun _ h => h) (gs_a (gs_e (by decide +kernel)) gs_X12_plan)
set_option maxRecDepth 100000 in
theorem gto_X3_areOpen : ∀ w ∈ (.code yX3_areOpen cX3_areOpen 3 (some .boolean) :: wsX3_areOpen_own : List Cond), w ∈ lw_tbl := mem_pos [(5, 85), (5, 50), (5, 15), (5, 16), (1, 11), (2, 107)] rfl
theorem gt_X3_areOpen : ∀ w ∈ wsX3_areOpen, w ∈ lw_tbl := gt_c (gto_X3_areOpen _ List.mem_cons_self) (gt_a (gt_a (gt_t gto_X3_areOpen) (gt_X3_isDone)) inX3)
set_option maxRecDepth 100000 in
theorem gt_X3_cut : ∀ w ∈ wsX3_cut, w ∈ lw_tbl := mem_pos [(5, 74), (2, 113), (2, 122), (2, 123), (2, 114), (2, 115), (5, 76), (3, 154), (1, 16), (3, 155), (5, 77), (3, 157), (3, 158), (5, 75), (4, 67), (1, 6), (4, 68), (2, 129), (2, 131), (2, 133), (2, 135), (2, 137), (2, 139), (2, 141), (2, 143), (2, 145), (2, 147), (2, 149), (2, 151), (2, 153), (2, 155), (2, 157), (2, 159), (2, 161), (2, 163), (2, 165)] rfl
set_option maxRecDepth 100000 in
theorem gto_X3_widthBehind : ∀ w ∈ (.code yX3_widthBehind cX3_widthBehind 4 (some .int) :: wsX3_widthBehind_own : List Cond), w ∈ lw_tbl := mem_pos [(5, 89), (5, 59), (5, 61), (0, 17), (1, 11), (5, 71), (5, 73), (0, 19), (2, 107), (2, 127), (2, 113)] rfl
theorem gt_X3_widthBehind : ∀ w ∈ wsX3_widthBehind, w ∈ lw_tbl := gt_c (gto_X3_widthBehind _ List.mem_cons_self) (gt_a (gt_a (gt_a (gt_a (gt_a (gt_a (gt_t gto_X3_widthBehind) (gt_a gt_X3_rowSpread (gt_X3_cut))) inX3) inX7) inX6) inX8) inX10)
set_option maxRecDepth 100000 in
theorem gto_X11_judge : ∀ w ∈ (.code yX11_judge cX11_judge 3 (some .int) :: wsX11_judge_own : List Cond), w ∈ lw_tbl := mem_pos [(5, 81), (4, 141), (4, 142), (4, 143), (1, 7), (5, 82), (5, 83), (5, 84), (1, 11), (5, 55), (5, 56), (5, 57), (5, 86), (5, 87), (5, 88), (3, 38), (3, 41), (3, 44)] rfl
theorem gt_X11_judge : ∀ w ∈ wsX11_judge, w ∈ lw_tbl := gt_c (gto_X11_judge _ List.mem_cons_self) (gt_a (gt_a (gt_a (gt_a (gt_a (gt_a (gt_a (gt_t gto_X11_judge) (gt_a gt_X7_has (gt_a gt_X3_areOpen (gt_a gt_X3_startRow (gt_X3_widthBehind))))) inX11) inX7) inX3) inX6) inX8) inX10)
theorem gw_X11_judge : ∀ w ∈ wsV RL 128 RX11 yX11_judge wsX11_judge, w ∈ lw_tbl := gt_a (mem_pos [(5, 78), (5, 79), (5, 80), (1, 1)] rfl) gt_X11_judge
theorem gx_X11_judge : GoodIn (wsV RL 128 RX11 yX11_judge wsX11_judge) (wsV RL 128 RX11 yX11_judge wsX11_judge) := ggi (fun _ h => h) (gs_a (gs_e (by decide +kernel)) gs_X11_judge)
set_option maxRecDepth 100000 in
theorem gto_X12_judge : ∀ w ∈ (.code yX12_judge cX12_judge 3 (some .int) :: wsX12_judge_own : List Cond), w ∈ lw_tbl := mem_pos [(8, 150), (8, 20), (8, 22), (0, 56), (1, 14), (8, 139), (8, 141), (0, 71), (8, 143), (8, 145), (0, 72), (6, 102)] rfl
theorem gt_X12_judge : ∀ w ∈ wsX12_judge, w ∈ lw_tbl := gt_c (gto_X12_judge _ List.mem_cons_self) (gt_a (gt_a (gt_t gto_X12_judge) (gt_a gt_X12_isReading (gt_a gt_X12_isRow (gt_X12_judged)))) inX12)
theorem gw_X12_judge : ∀ w ∈ wsV RL 131 RX12 yX12_judge wsX12_judge, w ∈ lw_tbl := gt_a (mem_pos [(8, 147), (8, 148), (8, 149), (1, 14)] rfl) gt_X12_judge
theorem gx_X12_judge : GoodIn (wsV RL 131 RX12 yX12_judge wsX12_judge) (wsV RL 131 RX12 yX12_judge wsX12_judge) := ggi (fun _ h => h) (gs_a (gs_e (by decide +kernel)) gs_X12_judge)
set_option maxRecDepth 100000 in
theorem gto_X11_leans : ∀ w ∈ (.code yX11_leans cX11_leans 3 (some .int) :: wsX11_leans_own : List Cond), w ∈ lw_tbl := mem_pos [(5, 93), (4, 141), (4, 142), (4, 143), (1, 7), (4, 49), (4, 50), (4, 51), (1, 6), (5, 94), (4, 156), (4, 157), (3, 38), (4, 78), (3, 37)] rfl
theorem gt_X11_leans : ∀ w ∈ wsX11_leans, w ∈ lw_tbl := gt_c (gto_X11_leans _ List.mem_cons_self) (gt_a (gt_a (gt_a (gt_a (gt_a (gt_a (gt_t gto_X11_leans) (gt_a gt_X7_has (gt_a gt_X6_has (gt_X7_leanOf)))) inX11) inX7) inX6) inX8) inX10)
theorem gw_X11_leans : ∀ w ∈ wsV RL 132 RX11 yX11_leans wsX11_leans, w ∈ lw_tbl := gt_a (mem_pos [(5, 90), (5, 91), (5, 92), (1, 1)] rfl) gt_X11_leans
theorem gx_X11_leans : GoodIn (wsV RL 132 RX11 yX11_leans wsX11_leans) (wsV RL 132 RX11 yX11_leans wsX11_leans) := ggi (fun _ h => h) (gs_a (gs_e (by decide +kernel)) gs_X11_leans)
set_option maxRecDepth 100000 in
theorem gto_X12_leans : ∀ w ∈ (.code yX12_leans cX12_leans 3 (some .int) :: wsX12_leans_own : List Cond), w ∈ lw_tbl := mem_pos [(8, 154), (8, 20), (8, 22), (0, 56), (1, 14), (7, 203), (7, 205), (0, 49), (8, 28), (8, 30), (0, 58), (6, 102), (8, 3), (6, 134)] rfl
theorem gt_X12_leans : ∀ w ∈ wsX12_leans, w ∈ lw_tbl := gt_c (gto_X12_leans _ List.mem_cons_self) (gt_a (gt_a (gt_t gto_X12_leans) (gt_a gt_X12_isReading (gt_a gt_X12_isPart (gt_X12_layWorthsOf)))) inX12)
theorem gw_X12_leans : ∀ w ∈ wsV RL 135 RX12 yX12_leans wsX12_leans, w ∈ lw_tbl := gt_a (mem_pos [(8, 151), (8, 152), (8, 153), (1, 14)] rfl) gt_X12_leans
theorem gx_X12_leans : GoodIn (wsV RL 135 RX12 yX12_leans wsX12_leans) (wsV RL 135 RX12 yX12_leans wsX12_leans) := ggi (fun _ h => h) (gs_a (gs_e (by decide +kernel)) gs_X12_leans)
set_option maxRecDepth 100000 in
theorem gt_X8_set : ∀ w ∈ wsX8_set, w ∈ lw_tbl := mem_pos [(4, 89), (1, 98), (1, 103), (1, 105), (1, 107), (1, 109), (1, 111)] rfl
set_option maxRecDepth 100000 in
theorem gto_X1_guessed : ∀ w ∈ (.code yX1_guessed cX1_guessed 4 (some .int) :: wsX1_guessed_own : List Cond), w ∈ lw_tbl := mem_pos [(5, 114), (5, 115), (4, 87), (4, 88), (1, 4), (5, 116), (4, 95), (4, 96), (2, 32)] rfl
theorem gt_X1_guessed : ∀ w ∈ wsX1_guessed, w ∈ lw_tbl := gt_c (gto_X1_guessed _ List.mem_cons_self) (gt_a (gt_a (gt_a (gt_a (gt_t gto_X1_guessed) (gt_a gt_X8_set (gt_X8_ask))) inX1) inX8) inX10)
set_option maxRecDepth 100000 in
theorem gto_X1_suits : ∀ w ∈ (.code yX1_suits cX1_suits 5 (some .boolean) :: wsX1_suits_own : List Cond), w ∈ lw_tbl := mem_pos [(5, 110), (5, 111), (5, 113), (0, 22), (1, 9), (2, 34), (2, 35), (2, 36)] rfl
theorem gt_X1_suits : ∀ w ∈ wsX1_suits, w ∈ lw_tbl := gt_c (gto_X1_suits _ List.mem_cons_self) (gt_a (gt_a (gt_a (gt_a (gt_t gto_X1_suits) (gt_X1_guessed)) inX1) inX8) inX10)
set_option maxRecDepth 100000 in
theorem gto_X1_boundWaves : ∀ w ∈ (.code yX1_boundWaves cX1_boundWaves 4 none :: wsX1_boundWaves_own : List Cond), w ∈ lw_tbl := mem_pos [(5, 106), (4, 198), (1, 200), (1, 8), (2, 34), (2, 31), (1, 208), (1, 203), (2, 35), (1, 213), (4, 185), (3, 154), (1, 16), (3, 155), (2, 36), (1, 217), (4, 186), (3, 157), (3, 158)] rfl
theorem gt_X1_boundWaves : ∀ w ∈ wsX1_boundWaves, w ∈ lw_tbl := gt_c (gto_X1_boundWaves _ List.mem_cons_self) (gt_a (gt_a (gt_a (gt_t gto_X1_boundWaves) (gt_J7_fill_53178)) inX1) inX7)
set_option maxRecDepth 100000 in
theorem gto_X1_fit : ∀ w ∈ (.code yX1_fit cX1_fit 3 none :: wsX1_fit_own : List Cond), w ∈ lw_tbl := mem_pos [(5, 102), (5, 107), (5, 109), (0, 21), (1, 9), (5, 103), (5, 105), (0, 20), (2, 21), (2, 23), (2, 25)] rfl
theorem gt_X1_fit : ∀ w ∈ wsX1_fit, w ∈ lw_tbl := gt_c (gto_X1_fit _ List.mem_cons_self) (gt_a (gt_a (gt_a (gt_a (gt_a (gt_t gto_X1_fit) (gt_a gt_X1_suits (gt_X1_boundWaves))) inX1) inX7) inX8) inX10)
set_option maxRecDepth 100000 in
theorem gto_X11_fits : ∀ w ∈ (.code yX11_fits cX11_fits 4 (some .int) :: wsX11_fits_own : List Cond), w ∈ lw_tbl := mem_pos [(5, 98), (4, 42), (4, 44), (0, 10), (1, 1), (4, 27), (4, 28), (4, 29), (1, 4), (3, 76), (3, 77), (4, 145), (4, 146), (4, 147), (1, 7), (5, 99), (5, 100), (5, 101), (1, 9), (3, 35), (3, 38), (3, 39), (2, 24), (2, 22), (2, 26)] rfl
theorem gt_X11_fits : ∀ w ∈ wsX11_fits, w ∈ lw_tbl := gt_c (gto_X11_fits _ List.mem_cons_self) (gt_a (gt_a (gt_a (gt_a (gt_a (gt_a (gt_a (gt_t gto_X11_fits) (gt_a gt_X11_isDay (gt_a gt_X8_has (gt_a gt_X11_within (gt_a gt_X7_recall (gt_X1_fit)))))) inX11) inX1) inX8) inX7) inX6) inX10)
theorem gw_X11_fits : ∀ w ∈ wsV RL 136 RX11 yX11_fits wsX11_fits, w ∈ lw_tbl := gt_a (mem_pos [(5, 95), (5, 96), (5, 97), (1, 1)] rfl) gt_X11_fits
theorem gx_X11_fits : GoodIn (wsV RL 136 RX11 yX11_fits wsX11_fits) (wsV RL 136 RX11 yX11_fits wsX11_fits) := ggi (fun _ h => h) (gs_a (gs_e (by decide +kernel)) gs_X11_fits)
set_option maxRecDepth 100000 in
theorem gto_X12_isGuess : ∀ w ∈ (.code yX12_isGuess cX12_isGuess 2 (some .boolean) :: wsX12_isGuess_own : List Cond), w ∈ lw_tbl := mem_pos [(8, 162), (7, 78), (7, 79), (1, 14), (6, 107)] rfl
theorem gt_X12_isGuess : ∀ w ∈ wsX12_isGuess, w ∈ lw_tbl := gt_c (gto_X12_isGuess _ List.mem_cons_self) (gt_a (gt_a (gt_t gto_X12_isGuess) (gt_X12_isIn)) inX12)
set_option maxRecDepth 100000 in
theorem gto_X12_guessWorth : ∀ w ∈ (.code yX12_guessWorth cX12_guessWorth 4 (some .int) :: wsX12_guessWorth_own : List Cond), w ∈ lw_tbl := mem_pos [(8, 170), (7, 184), (7, 186), (0, 47), (1, 14), (7, 188), (7, 190), (0, 48), (6, 108)] rfl
theorem gt_X12_guessWorth : ∀ w ∈ wsX12_guessWorth, w ∈ lw_tbl := gt_c (gto_X12_guessWorth _ List.mem_cons_self) (gt_a (gt_a (gt_t gto_X12_guessWorth) (gt_a gt_X12_noLetters (gt_X12_worthOf))) inX12)
set_option maxRecDepth 100000 in
theorem gto_X12_layFits : ∀ w ∈ (.code yX12_layFits cX12_layFits 6 none :: wsX12_layFits_own : List Cond), w ∈ lw_tbl := mem_pos [(8, 166), (8, 32), (8, 34), (0, 59), (1, 14), (8, 167), (8, 169), (0, 75), (8, 24), (8, 26), (0, 57), (7, 211), (7, 213), (0, 51), (6, 157), (6, 138), (6, 137), (6, 139), (6, 140)] rfl
theorem gt_X12_layFits : ∀ w ∈ wsX12_layFits, w ∈ lw_tbl := gt_c (gto_X12_layFits _ List.mem_cons_self) (gt_a (gt_a (gt_t gto_X12_layFits) (gt_a gt_X12_aimOf (gt_a gt_X12_guessWorth (gt_a gt_X12_layLeft (gt_X12_laySpansOf))))) inX12)
set_option maxRecDepth 100000 in
theorem gto_X12_fits : ∀ w ∈ (.code yX12_fits cX12_fits 8 (some .int) :: wsX12_fits_own : List Cond), w ∈ lw_tbl := mem_pos [(8, 158), (8, 159), (8, 161), (0, 73), (1, 14), (7, 78), (7, 79), (8, 163), (8, 165), (0, 74), (6, 102), (6, 103), (6, 157)] rfl
theorem gt_X12_fits : ∀ w ∈ wsX12_fits, w ∈ lw_tbl := gt_c (gto_X12_fits _ List.mem_cons_self) (gt_a (gt_a (gt_t gto_X12_fits) (gt_a gt_X12_isGuess (gt_a gt_X12_isIn (gt_X12_layFits)))) inX12)
theorem gw_X12_fits : ∀ w ∈ wsV RL 139 RX12 yX12_fits wsX12_fits, w ∈ lw_tbl := gt_a (mem_pos [(8, 155), (8, 156), (8, 157), (1, 14)] rfl) gt_X12_fits
theorem gx_X12_fits : GoodIn (wsV RL 139 RX12 yX12_fits wsX12_fits) (wsV RL 139 RX12 yX12_fits wsX12_fits) := ggi (fun _ h => h) (gs_a (gs_e (by decide +kernel)) gs_X12_fits)
set_option maxRecDepth 100000 in
theorem gto_X1_tellApart : ∀ w ∈ (.code yX1_tellApart cX1_tellApart 7 none :: wsX1_tellApart_own : List Cond), w ∈ lw_tbl := mem_pos [(5, 124), (5, 111), (5, 113), (0, 22), (1, 9), (2, 29), (5, 125), (4, 175), (1, 16), (4, 176), (2, 27)] rfl
theorem gt_X1_tellApart : ∀ w ∈ wsX1_tellApart, w ∈ lw_tbl := gt_c (gto_X1_tellApart _ List.mem_cons_self) (gt_a (gt_a (gt_a (gt_a (gt_t gto_X1_tellApart) (gt_X1_guessed)) inX1) inX8) inX10)
set_option maxRecDepth 100000 in
theorem gto_X11_next : ∀ w ∈ (.code yX11_next cX11_next 7 (some .int) :: wsX11_next_own : List Cond), w ∈ lw_tbl := mem_pos [(5, 120), (4, 42), (4, 44), (0, 10), (1, 1), (4, 27), (4, 28), (4, 29), (1, 4), (4, 46), (4, 47), (4, 145), (4, 146), (4, 147), (1, 7), (5, 99), (5, 100), (5, 101), (1, 9), (5, 121), (5, 122), (5, 123), (3, 35), (3, 38), (3, 39), (2, 22), (2, 30), (2, 28)] rfl
theorem gt_X11_next : ∀ w ∈ wsX11_next, w ∈ lw_tbl := gt_c (gto_X11_next _ List.mem_cons_self) (gt_a (gt_a (gt_a (gt_a (gt_a (gt_a (gt_a (gt_t gto_X11_next) (gt_a gt_X11_isDay (gt_a gt_X8_has (gt_a gt_X11_isEither (gt_a gt_X7_recall (gt_a gt_X1_fit (gt_X1_tellApart))))))) inX11) inX1) inX8) inX7) inX6) inX10)
theorem gw_X11_next : ∀ w ∈ wsV RL 140 RX11 yX11_next wsX11_next, w ∈ lw_tbl := gt_a (mem_pos [(5, 117), (5, 118), (5, 119), (1, 1)] rfl) gt_X11_next
theorem gx_X11_next : GoodIn (wsV RL 140 RX11 yX11_next wsX11_next) (wsV RL 140 RX11 yX11_next wsX11_next) := ggi (fun _ h => h) (gs_a (gs_e (by decide +kernel)) gs_X11_next)
set_option maxRecDepth 100000 in
theorem gto_X12_next : ∀ w ∈ (.code yX12_next cX12_next 11 (some .int) :: wsX12_next_own : List Cond), w ∈ lw_tbl := mem_pos [(8, 174), (8, 167), (8, 169), (0, 75), (1, 14), (8, 159), (8, 161), (0, 73), (7, 78), (7, 79), (8, 175), (8, 156), (8, 157), (6, 102), (6, 103), (8, 77), (4, 175), (1, 16), (4, 176)] rfl
