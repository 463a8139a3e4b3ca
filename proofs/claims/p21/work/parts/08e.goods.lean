theorem gt_c {c : Cond} {a : List Cond} (h : c ∈ lw_tbl) (ha : ∀ w ∈ a, w ∈ lw_tbl) : ∀ w ∈ c :: a, w ∈ lw_tbl := fun w hw => (List.mem_cons.mp hw).elim (fun e => by rw [e]; exact h) (ha w)
theorem gt_a {a b : List Cond} (ha : ∀ w ∈ a, w ∈ lw_tbl) (hb : ∀ w ∈ b, w ∈ lw_tbl) : ∀ w ∈ a ++ b, w ∈ lw_tbl := fun w hw => (List.mem_append.mp hw).elim (ha w) (hb w)
theorem gt_t {c : Cond} {a : List Cond} (h : ∀ w ∈ c :: a, w ∈ lw_tbl) : ∀ w ∈ a, w ∈ lw_tbl := fun w hw => h w (List.mem_cons_of_mem _ hw)
set_option maxRecDepth 100000 in
theorem gt_X11_within : ∀ w ∈ wsX11_within, w ∈ lw_tbl := mem_pos [(3, 78)] rfl
set_option maxRecDepth 100000 in
theorem gto_X11_days : ∀ w ∈ (.code yX11_days cX11_days 2 (some .int) :: wsX11_days_own : List Cond), w ∈ lw_tbl := mem_pos [(3, 75), (3, 76), (3, 77), (1, 1), (3, 44)] rfl
theorem gt_X11_days : ∀ w ∈ wsX11_days, w ∈ lw_tbl := gt_c (gto_X11_days _ List.mem_cons_self) (gt_a (gt_a (gt_t gto_X11_days) (gt_X11_within)) inX11)
theorem gw_X11_days : ∀ w ∈ wsV RL 19 RX11 yX11_days wsX11_days, w ∈ lw_tbl := gt_a (mem_pos [(3, 72), (3, 73), (3, 74), (1, 1)] rfl) gt_X11_days
theorem gx_X11_days : GoodIn (wsV RL 19 RX11 yX11_days wsX11_days) (wsV RL 19 RX11 yX11_days wsX11_days) := ggi (fun _ h => h) (gs_a (gs_e (by decide +kernel)) gs_X11_days)
set_option maxRecDepth 100000 in
theorem gt_X12_isIn : ∀ w ∈ wsX12_isIn, w ∈ lw_tbl := mem_pos [(7, 76)] rfl
set_option maxRecDepth 100000 in
theorem gto_X12_days : ∀ w ∈ (.code yX12_days cX12_days 2 (some .int) :: wsX12_days_own : List Cond), w ∈ lw_tbl := mem_pos [(7, 73), (7, 74), (7, 75), (1, 14), (6, 102), (6, 103)] rfl
theorem gt_X12_days : ∀ w ∈ wsX12_days, w ∈ lw_tbl := gt_c (gto_X12_days _ List.mem_cons_self) (gt_a (gt_a (gt_t gto_X12_days) (gt_X12_isIn)) inX12)
theorem gw_X12_days : ∀ w ∈ wsV RL 23 RX12 yX12_days wsX12_days, w ∈ lw_tbl := gt_a (mem_pos [(7, 70), (7, 71), (7, 72), (1, 14)] rfl) gt_X12_days
theorem gx_X12_days : GoodIn (wsV RL 23 RX12 yX12_days wsX12_days) (wsV RL 23 RX12 yX12_days wsX12_days) := ggi (fun _ h => h) (gs_a (gs_e (by decide +kernel)) gs_X12_days)
set_option maxRecDepth 100000 in
theorem gt_X9_bytesOf : ∀ w ∈ wsX9_bytesOf, w ∈ lw_tbl := mem_pos [(3, 85)] rfl
set_option maxRecDepth 100000 in
theorem gt_X9_append : ∀ w ∈ wsX9_append, w ∈ lw_tbl := mem_pos [(3, 89), (1, 44), (1, 41), (1, 46), (1, 48)] rfl
set_option maxRecDepth 100000 in
theorem gto_X11_feed : ∀ w ∈ (.code yX11_feed cX11_feed 7 (some .int) :: wsX11_feed_own : List Cond), w ∈ lw_tbl := mem_pos [(3, 82), (3, 83), (3, 84), (1, 2), (3, 86), (3, 87), (3, 88), (3, 32), (1, 45)] rfl
theorem gt_X11_feed : ∀ w ∈ wsX11_feed, w ∈ lw_tbl := gt_c (gto_X11_feed _ List.mem_cons_self) (gt_a (gt_a (gt_a (gt_t gto_X11_feed) (gt_a gt_X9_bytesOf (gt_X9_append))) inX11) inX9)
theorem gw_X11_feed : ∀ w ∈ wsV RL 24 RX11 yX11_feed wsX11_feed, w ∈ lw_tbl := gt_a (mem_pos [(3, 79), (3, 80), (3, 81), (1, 1)] rfl) gt_X11_feed
theorem gx_X11_feed : GoodIn (wsV RL 24 RX11 yX11_feed wsX11_feed) (wsV RL 24 RX11 yX11_feed wsX11_feed) := ggi (fun _ h => h) (gs_a (gs_e (by decide +kernel)) gs_X11_feed)
set_option maxRecDepth 100000 in
theorem gt_X12_bytesIn : ∀ w ∈ wsX12_bytesIn, w ∈ lw_tbl := mem_pos [(7, 83)] rfl
set_option maxRecDepth 100000 in
theorem gt_X12_put : ∀ w ∈ wsX12_put, w ∈ lw_tbl := mem_pos [(7, 87), (6, 104), (6, 110), (6, 171), (6, 173), (6, 175), (6, 177), (6, 179), (6, 181), (6, 183), (6, 185), (6, 187), (6, 189), (6, 191), (6, 193), (6, 195), (6, 197), (6, 199), (6, 201), (6, 203), (6, 205), (6, 207), (6, 209), (6, 211), (6, 213), (6, 215), (6, 217), (6, 219), (6, 221), (6, 223), (6, 225), (6, 227), (6, 229), (6, 231), (6, 233), (6, 235), (6, 237), (6, 239), (7, 1), (7, 3), (7, 5), (7, 7), (7, 9), (7, 11), (7, 13), (7, 15), (7, 17), (7, 19), (7, 21), (7, 23), (7, 25), (7, 27), (7, 29), (7, 31), (7, 33), (7, 35), (7, 37), (7, 39), (7, 41), (7, 43), (7, 45), (7, 47), (7, 49), (7, 51), (7, 53), (7, 55), (7, 57), (7, 59), (7, 61), (7, 63), (7, 65), (7, 67)] rfl
set_option maxRecDepth 100000 in
theorem gto_X12_feed : ∀ w ∈ (.code yX12_feed cX12_feed 6 (some .int) :: wsX12_feed_own : List Cond), w ∈ lw_tbl := mem_pos [(7, 80), (7, 81), (7, 82), (1, 14), (7, 84), (7, 86), (0, 31), (6, 102), (6, 110)] rfl
theorem gt_X12_feed : ∀ w ∈ wsX12_feed, w ∈ lw_tbl := gt_c (gto_X12_feed _ List.mem_cons_self) (gt_a (gt_a (gt_t gto_X12_feed) (gt_a gt_X12_bytesIn (gt_X12_put))) inX12)
theorem gw_X12_feed : ∀ w ∈ wsV RL 28 RX12 yX12_feed wsX12_feed, w ∈ lw_tbl := gt_a (mem_pos [(7, 77), (7, 78), (7, 79), (1, 14)] rfl) gt_X12_feed
theorem gx_X12_feed : GoodIn (wsV RL 28 RX12 yX12_feed wsX12_feed) (wsV RL 28 RX12 yX12_feed wsX12_feed) := ggi (fun _ h => h) (gs_a (gs_e (by decide +kernel)) gs_X12_feed)
set_option maxRecDepth 100000 in
theorem gto_X11_end : ∀ w ∈ (.code yX11_end cX11_end 2 (some .boolean) :: wsX11_end_own : List Cond), w ∈ lw_tbl := mem_pos [(3, 93), (3, 76), (3, 77), (1, 1), (3, 32), (1, 45)] rfl
theorem gt_X11_end : ∀ w ∈ wsX11_end, w ∈ lw_tbl := gt_c (gto_X11_end _ List.mem_cons_self) (gt_a (gt_a (gt_a (gt_t gto_X11_end) (gt_X11_within)) inX11) inX9)
theorem gw_X11_end : ∀ w ∈ wsV RL 29 RX11 yX11_end wsX11_end, w ∈ lw_tbl := gt_a (mem_pos [(3, 90), (3, 91), (3, 92), (1, 1)] rfl) gt_X11_end
theorem gx_X11_end : GoodIn (wsV RL 29 RX11 yX11_end wsX11_end) (wsV RL 29 RX11 yX11_end wsX11_end) := ggi (fun _ h => h) (gs_a (gs_e (by decide +kernel)) gs_X11_end)
set_option maxRecDepth 100000 in
theorem gt_X12_end : ∀ w ∈ wsX12_end, w ∈ lw_tbl := mem_pos [(7, 91), (6, 102), (6, 110), (6, 171), (6, 173), (6, 175), (6, 177), (6, 179), (6, 181), (6, 183), (6, 185), (6, 187), (6, 189), (6, 191), (6, 193), (6, 195), (6, 197), (6, 199), (6, 201), (6, 203), (6, 205), (6, 207), (6, 209), (6, 211), (6, 213), (6, 215), (6, 217), (6, 219), (6, 221), (6, 223), (6, 225), (6, 227), (6, 229), (6, 231), (6, 233), (6, 235), (6, 237), (6, 239), (7, 1), (7, 3), (7, 5), (7, 7), (7, 9), (7, 11), (7, 13), (7, 15), (7, 17), (7, 19), (7, 21), (7, 23), (7, 25), (7, 27), (7, 29), (7, 31), (7, 33), (7, 35), (7, 37), (7, 39), (7, 41), (7, 43), (7, 45), (7, 47), (7, 49), (7, 51), (7, 53), (7, 55), (7, 57), (7, 59), (7, 61), (7, 63), (7, 65), (7, 67)] rfl
set_option maxRecDepth 100000 in
theorem gs_X12_end : ∀ w ∈ wsX12_end, gW w := gs_e (by decide +kernel)
theorem gw_X12_end : ∀ w ∈ wsV RL 33 RX12 yX12_end wsX12_end, w ∈ lw_tbl := gt_a (mem_pos [(7, 88), (7, 89), (7, 90), (1, 14)] rfl) gt_X12_end
theorem gx_X12_end : GoodIn (wsV RL 33 RX12 yX12_end wsX12_end) (wsV RL 33 RX12 yX12_end wsX12_end) := ggi (fun _ h => h) (gs_a (gs_e (by decide +kernel)) gs_X12_end)
set_option maxRecDepth 100000 in
theorem gt_X11_shelfOf : ∀ w ∈ wsX11_shelfOf, w ∈ lw_tbl := mem_pos [(3, 101), (3, 34), (3, 35), (3, 36), (3, 45), (3, 47), (3, 49), (3, 51), (3, 53), (3, 55), (3, 57), (3, 59), (3, 61), (3, 63), (3, 65), (3, 67), (3, 69)] rfl
set_option maxRecDepth 100000 in
theorem gt_X5_faultBy : ∀ w ∈ wsX5_faultBy, w ∈ lw_tbl := mem_pos [(3, 105), (1, 62), (1, 63), (1, 61), (1, 60), (1, 43), (3, 106), (3, 108), (0, 1), (1, 3), (3, 109), (3, 110), (3, 112), (0, 2), (3, 113), (3, 114), (3, 116), (0, 3), (3, 117), (1, 42), (3, 118), (3, 120), (0, 4), (3, 121), (3, 122), (3, 124), (0, 5), (3, 130), (3, 132), (0, 7), (3, 133), (1, 59), (3, 125), (3, 126), (3, 128), (0, 6), (3, 129), (3, 134), (3, 135), (3, 136), (1, 5), (3, 137), (3, 138), (3, 139), (3, 140), (3, 141), (9, 18), (3, 142), (3, 143), (3, 144), (3, 145), (1, 93), (9, 19), (3, 146), (1, 86), (1, 87), (1, 88), (1, 89), (1, 90), (1, 91), (1, 92), (3, 147), (3, 148), (1, 15), (3, 149), (3, 153), (3, 154), (1, 16), (3, 155), (3, 156), (3, 157), (3, 158), (3, 150), (3, 151), (3, 152), (3, 159), (3, 160), (3, 161), (3, 162), (3, 163), (1, 17), (3, 164), (3, 165), (3, 166), (3, 167), (3, 168), (3, 169), (3, 170), (3, 171), (3, 172), (3, 173), (3, 174), (3, 175), (3, 176), (3, 177), (3, 178), (3, 179), (3, 180), (3, 182), (3, 183), (1, 18), (3, 184), (3, 185), (3, 186), (3, 187), (3, 188), (3, 189), (3, 190), (3, 191), (3, 193), (3, 195), (3, 197), (3, 198), (3, 199), (3, 200), (3, 201), (1, 19), (3, 202), (3, 203), (3, 204), (3, 205), (3, 206), (3, 207), (3, 208), (3, 209), (3, 210), (3, 211), (3, 212), (3, 213), (3, 214), (3, 216), (0, 8), (3, 217), (3, 218), (3, 220), (0, 9), (3, 221), (1, 64), (1, 66), (1, 68), (1, 70), (1, 72), (1, 46), (1, 48)] rfl
set_option maxRecDepth 100000 in
theorem gto_X11_fault : ∀ w ∈ (.code yX11_fault cX11_fault 3 (some .int) :: wsX11_fault_own : List Cond), w ∈ lw_tbl := mem_pos [(3, 97), (3, 98), (3, 100), (0, 0), (1, 1), (3, 102), (3, 103), (3, 104), (1, 3), (3, 33), (1, 96)] rfl
theorem gt_X11_fault : ∀ w ∈ wsX11_fault, w ∈ lw_tbl := gt_c (gto_X11_fault _ List.mem_cons_self) (gt_a (gt_a (gt_a (gt_a (gt_a (gt_t gto_X11_fault) (gt_a gt_X11_shelfOf (gt_X5_faultBy))) inX11) inX8) inX5) inX9)
theorem gw_X11_fault : ∀ w ∈ wsV RL 34 RX11 yX11_fault wsX11_fault, w ∈ lw_tbl := gt_a (mem_pos [(3, 94), (3, 95), (3, 96), (1, 1)] rfl) gt_X11_fault
theorem gx_X11_fault : GoodIn (wsV RL 34 RX11 yX11_fault wsX11_fault) (wsV RL 34 RX11 yX11_fault wsX11_fault) := ggi (fun _ h => h) (gs_a (gs_e (by decide +kernel)) gs_X11_fault)
set_option maxRecDepth 100000 in
theorem gt_X12_look : ∀ w ∈ wsX12_look, w ∈ lw_tbl := mem_pos [(7, 109), (6, 113), (6, 112), (6, 109), (6, 111), (6, 171), (6, 173), (6, 175), (6, 177), (6, 179), (6, 181), (6, 183), (6, 185), (6, 187), (6, 189), (6, 191), (6, 193), (6, 195), (6, 197), (6, 199), (6, 201), (6, 203), (6, 205), (6, 207), (6, 209), (6, 211), (6, 213), (6, 215), (6, 217), (6, 219), (6, 221), (6, 223), (6, 225), (6, 227), (6, 229), (6, 231), (6, 233), (6, 235), (6, 237), (6, 239), (7, 1), (7, 3), (7, 5), (7, 7), (7, 9), (7, 11), (7, 13), (7, 15), (7, 17), (7, 19), (7, 21), (7, 23), (7, 25), (7, 27), (7, 29), (7, 31), (7, 33), (7, 35), (7, 37), (7, 39), (7, 41), (7, 43), (7, 45), (7, 47), (7, 49), (7, 51), (7, 53), (7, 55), (7, 57), (7, 59), (7, 61), (7, 63), (7, 65), (7, 67)] rfl
set_option maxRecDepth 100000 in
theorem gt_X12_condition : ∀ w ∈ wsX12_condition, w ∈ lw_tbl := mem_pos [(7, 121), (6, 114), (6, 113), (7, 122), (7, 124), (0, 38), (1, 14), (7, 106), (7, 108), (0, 34), (7, 109), (6, 112), (6, 109), (6, 111), (7, 125), (7, 126), (7, 128), (0, 39), (7, 129), (7, 130), (7, 132), (0, 40), (7, 133), (7, 134), (7, 136), (0, 41), (7, 151), (7, 152), (7, 153), (7, 154), (7, 155), (7, 156), (4, 112), (1, 16), (4, 113), (7, 157), (4, 115), (4, 116), (7, 141), (6, 117), (6, 108), (6, 115), (7, 142), (3, 135), (3, 136), (1, 5), (3, 137), (3, 138), (3, 139), (3, 140), (3, 141), (9, 18), (3, 142), (3, 143), (3, 144), (3, 145), (1, 93), (9, 19), (3, 146), (1, 86), (1, 87), (1, 88), (1, 89), (1, 90), (1, 91), (1, 92), (3, 147), (3, 148), (1, 15), (3, 149), (3, 153), (3, 154), (3, 155), (3, 156), (3, 157), (3, 158), (3, 150), (3, 151), (3, 152), (3, 159), (3, 160), (3, 161), (3, 162), (3, 163), (1, 17), (3, 164), (3, 165), (3, 166), (3, 167), (3, 168), (3, 169), (3, 170), (3, 171), (3, 172), (3, 173), (3, 174), (3, 175), (3, 176), (3, 177), (3, 178), (3, 179), (3, 180), (3, 182), (3, 183), (1, 18), (3, 184), (3, 185), (3, 186), (3, 187), (3, 188), (3, 189), (3, 190), (3, 191), (3, 193), (3, 195), (3, 197), (3, 198), (3, 199), (3, 200), (3, 201), (1, 19), (3, 202), (3, 203), (3, 204), (3, 205), (3, 206), (3, 207), (3, 208), (3, 209), (3, 210), (7, 143), (7, 145), (0, 43), (7, 146), (7, 110), (7, 112), (0, 35), (7, 113), (7, 114), (7, 116), (0, 36), (7, 117), (7, 147), (7, 149), (0, 44), (7, 150), (7, 137), (7, 138), (7, 140), (0, 42), (7, 158), (7, 159), (7, 160), (7, 161), (7, 163), (0, 45), (7, 164), (7, 118), (7, 120), (0, 37), (6, 171), (6, 173), (6, 175), (6, 177), (6, 179), (6, 181), (6, 183), (6, 185), (6, 187), (6, 189), (6, 191), (6, 193), (6, 195), (6, 197), (6, 199), (6, 201), (6, 203), (6, 205), (6, 207), (6, 209), (6, 211), (6, 213), (6, 215), (6, 217), (6, 219), (6, 221), (6, 223), (6, 225), (6, 227), (6, 229), (6, 231), (6, 233), (6, 235), (6, 237), (6, 239), (7, 1), (7, 3), (7, 5), (7, 7), (7, 9), (7, 11), (7, 13), (7, 15), (7, 17), (7, 19), (7, 21), (7, 23), (7, 25), (7, 27), (7, 29), (7, 31), (7, 33), (7, 35), (7, 37), (7, 39), (7, 41), (7, 43), (7, 45), (7, 47), (7, 49), (7, 51), (7, 53), (7, 55), (7, 57), (7, 59), (7, 61), (7, 63), (7, 65), (7, 67)] rfl
set_option maxRecDepth 100000 in
theorem gt_X12_takes : ∀ w ∈ wsX12_takes, w ∈ lw_tbl := mem_pos [(7, 117), (6, 114), (6, 113), (7, 106), (7, 108), (0, 34), (1, 14), (7, 109), (6, 112), (6, 109), (6, 111), (7, 110), (7, 112), (0, 35), (7, 113), (6, 171), (6, 173), (6, 175), (6, 177), (6, 179), (6, 181), (6, 183), (6, 185), (6, 187), (6, 189), (6, 191), (6, 193), (6, 195), (6, 197), (6, 199), (6, 201), (6, 203), (6, 205), (6, 207), (6, 209), (6, 211), (6, 213), (6, 215), (6, 217), (6, 219), (6, 221), (6, 223), (6, 225), (6, 227), (6, 229), (6, 231), (6, 233), (6, 235), (6, 237), (6, 239), (7, 1), (7, 3), (7, 5), (7, 7), (7, 9), (7, 11), (7, 13), (7, 15), (7, 17), (7, 19), (7, 21), (7, 23), (7, 25), (7, 27), (7, 29), (7, 31), (7, 33), (7, 35), (7, 37), (7, 39), (7, 41), (7, 43), (7, 45), (7, 47), (7, 49), (7, 51), (7, 53), (7, 55), (7, 57), (7, 59), (7, 61), (7, 63), (7, 65), (7, 67)] rfl
set_option maxRecDepth 100000 in
theorem gt_X12_sum : ∀ w ∈ wsX12_sum, w ∈ lw_tbl := mem_pos [(7, 133), (6, 114), (6, 113), (7, 134), (7, 136), (0, 41), (1, 14), (7, 106), (7, 108), (0, 34), (7, 109), (6, 112), (6, 109), (6, 111), (7, 151), (7, 152), (7, 153), (7, 154), (7, 155), (7, 156), (4, 112), (1, 16), (4, 113), (7, 157), (4, 115), (4, 116), (7, 141), (6, 117), (6, 108), (6, 115), (7, 142), (3, 135), (3, 136), (1, 5), (3, 137), (3, 138), (3, 139), (3, 140), (3, 141), (9, 18), (3, 142), (3, 143), (3, 144), (3, 145), (1, 93), (9, 19), (3, 146), (1, 86), (1, 87), (1, 88), (1, 89), (1, 90), (1, 91), (1, 92), (3, 147), (3, 148), (1, 15), (3, 149), (3, 153), (3, 154), (3, 155), (3, 156), (3, 157), (3, 158), (3, 150), (3, 151), (3, 152), (3, 159), (3, 160), (3, 161), (3, 162), (3, 163), (1, 17), (3, 164), (3, 165), (3, 166), (3, 167), (3, 168), (3, 169), (3, 170), (3, 171), (3, 172), (3, 173), (3, 174), (3, 175), (3, 176), (3, 177), (3, 178), (3, 179), (3, 180), (3, 182), (3, 183), (1, 18), (3, 184), (3, 185), (3, 186), (3, 187), (3, 188), (3, 189), (3, 190), (3, 191), (3, 193), (3, 195), (3, 197), (3, 198), (3, 199), (3, 200), (3, 201), (1, 19), (3, 202), (3, 203), (3, 204), (3, 205), (3, 206), (3, 207), (3, 208), (3, 209), (3, 210), (7, 143), (7, 145), (0, 43), (7, 146), (7, 110), (7, 112), (0, 35), (7, 113), (7, 130), (7, 132), (0, 40), (7, 114), (7, 116), (0, 36), (7, 117), (7, 147), (7, 149), (0, 44), (7, 150), (7, 137), (7, 138), (7, 140), (0, 42), (6, 171), (6, 173), (6, 175), (6, 177), (6, 179), (6, 181), (6, 183), (6, 185), (6, 187), (6, 189), (6, 191), (6, 193), (6, 195), (6, 197), (6, 199), (6, 201), (6, 203), (6, 205), (6, 207), (6, 209), (6, 211), (6, 213), (6, 215), (6, 217), (6, 219), (6, 221), (6, 223), (6, 225), (6, 227), (6, 229), (6, 231), (6, 233), (6, 235), (6, 237), (6, 239), (7, 1), (7, 3), (7, 5), (7, 7), (7, 9), (7, 11), (7, 13), (7, 15), (7, 17), (7, 19), (7, 21), (7, 23), (7, 25), (7, 27), (7, 29), (7, 31), (7, 33), (7, 35), (7, 37), (7, 39), (7, 41), (7, 43), (7, 45), (7, 47), (7, 49), (7, 51), (7, 53), (7, 55), (7, 57), (7, 59), (7, 61), (7, 63), (7, 65), (7, 67)] rfl
set_option maxRecDepth 100000 in
theorem gt_X12_isSign : ∀ w ∈ wsX12_isSign, w ∈ lw_tbl := mem_pos [(7, 160)] rfl
set_option maxRecDepth 100000 in
theorem gt_X12_fails : ∀ w ∈ wsX12_fails, w ∈ lw_tbl := mem_pos [(7, 113), (6, 114), (6, 113), (6, 171), (6, 173), (6, 175), (6, 177), (6, 179), (6, 181), (6, 183), (6, 185), (6, 187), (6, 189), (6, 191), (6, 193), (6, 195), (6, 197), (6, 199), (6, 201), (6, 203), (6, 205), (6, 207), (6, 209), (6, 211), (6, 213), (6, 215), (6, 217), (6, 219), (6, 221), (6, 223), (6, 225), (6, 227), (6, 229), (6, 231), (6, 233), (6, 235), (6, 237), (6, 239), (7, 1), (7, 3), (7, 5), (7, 7), (7, 9), (7, 11), (7, 13), (7, 15), (7, 17), (7, 19), (7, 21), (7, 23), (7, 25), (7, 27), (7, 29), (7, 31), (7, 33), (7, 35), (7, 37), (7, 39), (7, 41), (7, 43), (7, 45), (7, 47), (7, 49), (7, 51), (7, 53), (7, 55), (7, 57), (7, 59), (7, 61), (7, 63), (7, 65), (7, 67)] rfl
set_option maxRecDepth 100000 in
theorem gto_X12_clause : ∀ w ∈ (.code yX12_clause cX12_clause 5 none :: wsX12_clause_own : List Cond), w ∈ lw_tbl := mem_pos [(7, 105), (7, 118), (7, 120), (0, 37), (1, 14), (7, 114), (7, 116), (0, 36), (7, 130), (7, 132), (0, 40), (7, 106), (7, 108), (0, 34), (7, 158), (7, 159), (7, 110), (7, 112), (0, 35), (6, 113), (6, 114), (6, 118), (6, 116)] rfl
theorem gt_X12_clause : ∀ w ∈ wsX12_clause, w ∈ lw_tbl := gt_c (gto_X12_clause _ List.mem_cons_self) (gt_a (gt_a (gt_t gto_X12_clause) (gt_a gt_X12_condition (gt_a gt_X12_takes (gt_a gt_X12_sum (gt_a gt_X12_look (gt_a gt_X12_isSign (gt_X12_fails))))))) inX12)
set_option maxRecDepth 100000 in
theorem gto_X12_goThrough : ∀ w ∈ (.code yX12_goThrough cX12_goThrough 5 none :: wsX12_goThrough_own : List Cond), w ∈ lw_tbl := mem_pos [(7, 99), (7, 106), (7, 108), (0, 34), (1, 14), (7, 102), (7, 104), (0, 33), (7, 110), (7, 112), (0, 35), (6, 109), (6, 111), (6, 112), (6, 117), (6, 113), (6, 114), (6, 115), (6, 118), (6, 116)] rfl
theorem gt_X12_goThrough : ∀ w ∈ wsX12_goThrough, w ∈ lw_tbl := gt_c (gto_X12_goThrough _ List.mem_cons_self) (gt_a (gt_a (gt_t gto_X12_goThrough) (gt_a gt_X12_look (gt_a gt_X12_clause (gt_X12_fails)))) inX12)
set_option maxRecDepth 100000 in
theorem gto_X12_fault : ∀ w ∈ (.code yX12_fault cX12_fault 2 (some .int) :: wsX12_fault_own : List Cond), w ∈ lw_tbl := mem_pos [(7, 95), (7, 74), (7, 75), (1, 14), (7, 96), (7, 98), (0, 32), (6, 102), (6, 104), (6, 110), (6, 114)] rfl
theorem gt_X12_fault : ∀ w ∈ wsX12_fault, w ∈ lw_tbl := gt_c (gto_X12_fault _ List.mem_cons_self) (gt_a (gt_a (gt_t gto_X12_fault) (gt_a gt_X12_isIn (gt_X12_goThrough))) inX12)
theorem gw_X12_fault : ∀ w ∈ wsV RL 37 RX12 yX12_fault wsX12_fault, w ∈ lw_tbl := gt_a (mem_pos [(7, 92), (7, 93), (7, 94), (1, 14)] rfl) gt_X12_fault
theorem gx_X12_fault : GoodIn (wsV RL 37 RX12 yX12_fault wsX12_fault) (wsV RL 37 RX12 yX12_fault wsX12_fault) := ggi (fun _ h => h) (gs_a (gs_e (by decide +kernel)) gs_X12_fault)
set_option maxRecDepth 100000 in
theorem gt_X11_text : ∀ w ∈ wsX11_text, w ∈ lw_tbl := mem_pos [(3, 225), (3, 33), (1, 96), (3, 32), (1, 45), (3, 98), (3, 100), (0, 0), (1, 1), (3, 101), (3, 34), (3, 35), (3, 36), (3, 226), (3, 227), (3, 228), (1, 4), (3, 229), (1, 101), (1, 97), (3, 102), (3, 103), (3, 104), (1, 3), (3, 105), (1, 62), (1, 63), (1, 61), (1, 60), (1, 43), (3, 106), (3, 108), (0, 1), (3, 109), (3, 110), (3, 112), (0, 2), (3, 113), (3, 114), (3, 116), (0, 3), (3, 117), (1, 42), (3, 118), (3, 120), (0, 4), (3, 121), (3, 122), (3, 124), (0, 5), (3, 130), (3, 132), (0, 7), (3, 133), (1, 59), (3, 125), (3, 126), (3, 128), (0, 6), (3, 129), (3, 134), (3, 135), (3, 136), (1, 5), (3, 137), (3, 138), (3, 139), (3, 140), (3, 141), (9, 18), (3, 142), (3, 143), (3, 144), (3, 145), (1, 93), (9, 19), (3, 146), (1, 86), (1, 87), (1, 88), (1, 89), (1, 90), (1, 91), (1, 92), (3, 147), (3, 148), (1, 15), (3, 149), (3, 153), (3, 154), (1, 16), (3, 155), (3, 156), (3, 157), (3, 158), (3, 150), (3, 151), (3, 152), (3, 159), (3, 160), (3, 161), (3, 162), (3, 163), (1, 17), (3, 164), (3, 165), (3, 166), (3, 167), (3, 168), (3, 169), (3, 170), (3, 171), (3, 172), (3, 173), (3, 174), (3, 175), (3, 176), (3, 177), (3, 178), (3, 179), (3, 180), (3, 182), (3, 183), (1, 18), (3, 184), (3, 185), (3, 186), (3, 187), (3, 188), (3, 189), (3, 190), (3, 191), (3, 193), (3, 195), (3, 197), (3, 198), (3, 199), (3, 200), (3, 201), (1, 19), (3, 202), (3, 203), (3, 204), (3, 205), (3, 206), (3, 207), (3, 208), (3, 209), (3, 210), (3, 211), (3, 212), (3, 213), (3, 214), (3, 216), (0, 8), (3, 217), (3, 218), (3, 220), (0, 9), (3, 221), (3, 230), (3, 231), (3, 232), (3, 233), (3, 234), (3, 235), (1, 20), (3, 236), (3, 237), (1, 8), (3, 238), (3, 239), (4, 0), (4, 1), (4, 2), (4, 3), (4, 5), (1, 51), (4, 6), (4, 7), (4, 9), (4, 8), (1, 21), (4, 10), (4, 11), (4, 12), (4, 13), (1, 33), (1, 34), (4, 14), (4, 18), (4, 19), (4, 20), (4, 21), (4, 22), (3, 45), (3, 47), (3, 49), (3, 51), (3, 53), (3, 55), (3, 57), (3, 59), (3, 61), (3, 63), (3, 65), (3, 67), (3, 69), (1, 103), (1, 105), (1, 107), (1, 109), (1, 111), (1, 46), (1, 48), (1, 64), (1, 66), (1, 68), (1, 70), (1, 72), (4, 15)] rfl
set_option maxRecDepth 100000 in
theorem gs_X11_text : ∀ w ∈ wsX11_text, gW w := gs_e (by decide +kernel)
theorem gw_X11_text : ∀ w ∈ wsV RL 38 RX11 yX11_text wsX11_text, w ∈ lw_tbl := gt_a (mem_pos [(3, 222), (3, 223), (3, 224), (1, 1)] rfl) gt_X11_text
theorem gx_X11_text : GoodIn (wsV RL 38 RX11 yX11_text wsX11_text) (wsV RL 38 RX11 yX11_text wsX11_text) := ggi (fun _ h => h) (gs_a (gs_e (by decide +kernel)) gs_X11_text)
set_option maxRecDepth 100000 in
theorem gto_X12_text : ∀ w ∈ (.code yX12_text cX12_text 4 (some .int) :: wsX12_text_own : List Cond), w ∈ lw_tbl := mem_pos [(7, 168), (7, 96), (7, 98), (0, 32), (1, 14), (7, 74), (7, 75), (6, 102), (6, 107), (6, 104), (6, 110), (6, 114), (6, 105), (6, 106)] rfl
theorem gt_X12_text : ∀ w ∈ wsX12_text, w ∈ lw_tbl := gt_c (gto_X12_text _ List.mem_cons_self) (gt_a (gt_a (gt_t gto_X12_text) (gt_a gt_X12_goThrough (gt_X12_isIn))) inX12)
theorem gw_X12_text : ∀ w ∈ wsV RL 41 RX12 yX12_text wsX12_text, w ∈ lw_tbl := gt_a (mem_pos [(7, 165), (7, 166), (7, 167), (1, 14)] rfl) gt_X12_text
theorem gx_X12_text : GoodIn (wsV RL 41 RX12 yX12_text wsX12_text) (wsV RL 41 RX12 yX12_text wsX12_text) := ggi (fun _ h => h) (gs_a (gs_e (by decide +kernel)) gs_X12_text)
set_option maxRecDepth 100000 in
theorem gt_X12_noLetters : ∀ w ∈ wsX12_noLetters, w ∈ lw_tbl := mem_pos [(7, 183), (6, 108), (6, 171), (6, 173), (6, 175), (6, 177), (6, 179), (6, 181), (6, 183), (6, 185), (6, 187), (6, 189), (6, 191), (6, 193), (6, 195), (6, 197), (6, 199), (6, 201), (6, 203), (6, 205), (6, 207), (6, 209), (6, 211), (6, 213), (6, 215), (6, 217), (6, 219), (6, 221), (6, 223), (6, 225), (6, 227), (6, 229), (6, 231), (6, 233), (6, 235), (6, 237), (6, 239), (7, 1), (7, 3), (7, 5), (7, 7), (7, 9), (7, 11), (7, 13), (7, 15), (7, 17), (7, 19), (7, 21), (7, 23), (7, 25), (7, 27), (7, 29), (7, 31), (7, 33), (7, 35), (7, 37), (7, 39), (7, 41), (7, 43), (7, 45), (7, 47), (7, 49), (7, 51), (7, 53), (7, 55), (7, 57), (7, 59), (7, 61), (7, 63), (7, 65), (7, 67)] rfl
set_option maxRecDepth 100000 in
theorem gto_X12_worthOf : ∀ w ∈ (.code yX12_worthOf cX12_worthOf 4 (some .int) :: wsX12_worthOf_own : List Cond), w ∈ lw_tbl := mem_pos [(7, 187), (7, 96), (7, 98), (0, 32), (1, 14), (6, 105), (6, 106), (6, 116)] rfl
theorem gt_X12_worthOf : ∀ w ∈ wsX12_worthOf, w ∈ lw_tbl := gt_c (gto_X12_worthOf _ List.mem_cons_self) (gt_a (gt_a (gt_t gto_X12_worthOf) (gt_X12_goThrough)) inX12)
set_option maxRecDepth 100000 in
theorem gto_X12_lawWorth : ∀ w ∈ (.code yX12_lawWorth cX12_lawWorth 8 (some .int) :: wsX12_lawWorth_own : List Cond), w ∈ lw_tbl := mem_pos [(7, 179), (7, 180), (7, 182), (0, 47), (1, 14), (7, 184), (7, 186), (0, 48), (6, 108)] rfl
theorem gt_X12_lawWorth : ∀ w ∈ wsX12_lawWorth, w ∈ lw_tbl := gt_c (gto_X12_lawWorth _ List.mem_cons_self) (gt_a (gt_a (gt_t gto_X12_lawWorth) (gt_a gt_X12_noLetters (gt_X12_worthOf))) inX12)
set_option maxRecDepth 100000 in
theorem gto_X12_isAim : ∀ w ∈ (.code yX12_isAim cX12_isAim 5 (some .boolean) :: wsX12_isAim_own : List Cond), w ∈ lw_tbl := mem_pos [(7, 175), (7, 74), (7, 75), (1, 14)] rfl
theorem gt_X12_isAim : ∀ w ∈ wsX12_isAim, w ∈ lw_tbl := gt_c (gto_X12_isAim _ List.mem_cons_self) (gt_a (gt_t gto_X12_isAim) (gt_X12_isIn))
set_option maxRecDepth 100000 in
theorem gto_X12_worth : ∀ w ∈ (.code yX12_worth cX12_worth 8 (some .int) :: wsX12_worth_own : List Cond), w ∈ lw_tbl := mem_pos [(7, 172), (7, 176), (7, 178), (0, 46), (1, 14), (7, 74), (7, 75), (7, 173), (7, 174), (6, 107), (6, 102)] rfl
theorem gt_X12_worth : ∀ w ∈ wsX12_worth, w ∈ lw_tbl := gt_c (gto_X12_worth _ List.mem_cons_self) (gt_a (gt_a (gt_t gto_X12_worth) (gt_a gt_X12_lawWorth (gt_a gt_X12_isIn (gt_X12_isAim)))) inX12)
theorem gw_X12_worth : ∀ w ∈ wsV RL 47 RX12 yX12_worth wsX12_worth, w ∈ lw_tbl := gt_a (mem_pos [(7, 169), (7, 170), (7, 171), (1, 14)] rfl) gt_X12_worth
theorem gx_X12_worth : GoodIn (wsV RL 47 RX12 yX12_worth wsX12_worth) (wsV RL 47 RX12 yX12_worth wsX12_worth) := ggi (fun _ h => h) (gs_a (gs_e (by decide +kernel)) gs_X12_worth)
set_option maxRecDepth 100000 in
theorem gt_X8_has : ∀ w ∈ wsX8_has, w ∈ lw_tbl := mem_pos [(4, 30), (1, 101), (1, 103), (1, 105), (1, 107), (1, 109), (1, 111)] rfl
set_option maxRecDepth 100000 in
theorem gt_X11_isLoudness : ∀ w ∈ wsX11_isLoudness, w ∈ lw_tbl := mem_pos [(4, 33)] rfl
set_option maxRecDepth 100000 in
theorem gt_X6_add : ∀ w ∈ wsX6_add, w ∈ lw_tbl := mem_pos [(4, 37), (1, 129), (1, 122), (1, 127), (1, 148), (1, 149), (1, 125), (1, 156), (1, 158), (1, 160), (1, 162), (1, 164), (1, 166), (1, 168), (1, 170), (1, 172), (1, 174), (1, 176), (1, 178), (1, 180), (1, 182), (1, 184), (1, 186), (1, 188)] rfl
set_option maxRecDepth 100000 in
theorem gto_X11_part : ∀ w ∈ (.code yX11_part cX11_part 5 (some .int) :: wsX11_part_own : List Cond), w ∈ lw_tbl := mem_pos [(4, 26), (4, 27), (4, 28), (4, 29), (1, 4), (4, 31), (4, 32), (1, 1), (3, 76), (3, 77), (4, 34), (4, 35), (4, 36), (1, 6), (3, 34), (3, 37), (1, 130), (3, 44)] rfl
theorem gt_X11_part : ∀ w ∈ wsX11_part, w ∈ lw_tbl := gt_c (gto_X11_part _ List.mem_cons_self) (gt_a (gt_a (gt_a (gt_a (gt_t gto_X11_part) (gt_a gt_X8_has (gt_a gt_X11_isLoudness (gt_a gt_X11_within (gt_X6_add))))) inX11) inX6) inX8)
theorem gw_X11_part : ∀ w ∈ wsV RL 48 RX11 yX11_part wsX11_part, w ∈ lw_tbl := gt_a (mem_pos [(4, 23), (4, 24), (4, 25), (1, 1)] rfl) gt_X11_part
theorem gx_X11_part : GoodIn (wsV RL 48 RX11 yX11_part wsX11_part) (wsV RL 48 RX11 yX11_part wsX11_part) := ggi (fun _ h => h) (gs_a (gs_e (by decide +kernel)) gs_X11_part)
set_option maxRecDepth 100000 in
theorem gto_X12_isSpan : ∀ w ∈ (.code yX12_isSpan cX12_isSpan 2 (some .boolean) :: wsX12_isSpan_own : List Cond), w ∈ lw_tbl := mem_pos [(7, 194), (7, 74), (7, 75), (1, 14)] rfl
theorem gt_X12_isSpan : ∀ w ∈ wsX12_isSpan, w ∈ lw_tbl := gt_c (gto_X12_isSpan _ List.mem_cons_self) (gt_a (gt_t gto_X12_isSpan) (gt_X12_isIn))
set_option maxRecDepth 100000 in
theorem gto_X12_part_ : ∀ w ∈ (.code yX12_part_ cX12_part_ 5 (some .int) :: wsX12_part__own : List Cond), w ∈ lw_tbl := mem_pos [(7, 191), (7, 74), (7, 75), (1, 14), (7, 192), (7, 193), (6, 102), (6, 131), (6, 107), (6, 119), (6, 120), (6, 121), (6, 122), (6, 123), (6, 103)] rfl
theorem gt_X12_part_ : ∀ w ∈ wsX12_part_, w ∈ lw_tbl := gt_c (gto_X12_part_ _ List.mem_cons_self) (gt_a (gt_a (gt_t gto_X12_part_) (gt_a gt_X12_isIn (gt_X12_isSpan))) inX12)
theorem gw_X12_part_ : ∀ w ∈ wsV RL 52 RX12 yX12_part_ wsX12_part_, w ∈ lw_tbl := gt_a (mem_pos [(7, 188), (7, 189), (7, 190), (1, 14)] rfl) gt_X12_part_
theorem gx_X12_part_ : GoodIn (wsV RL 52 RX12 yX12_part_ wsX12_part_) (wsV RL 52 RX12 yX12_part_ wsX12_part_) := ggi (fun _ h => h) (gs_a (gs_e (by decide +kernel)) gs_X12_part_)
set_option maxRecDepth 100000 in
theorem gto_X11_isDay : ∀ w ∈ (.code yX11_isDay cX11_isDay 2 (some .boolean) :: wsX11_isDay_own : List Cond), w ∈ lw_tbl := mem_pos [(4, 45), (3, 76), (3, 77), (1, 1), (3, 44)] rfl
theorem gt_X11_isDay : ∀ w ∈ wsX11_isDay, w ∈ lw_tbl := gt_c (gto_X11_isDay _ List.mem_cons_self) (gt_a (gt_a (gt_t gto_X11_isDay) (gt_X11_within)) inX11)
set_option maxRecDepth 100000 in
theorem gt_X11_isEither : ∀ w ∈ wsX11_isEither, w ∈ lw_tbl := mem_pos [(4, 48)] rfl
set_option maxRecDepth 100000 in
theorem gt_X6_has : ∀ w ∈ wsX6_has, w ∈ lw_tbl := mem_pos [(4, 52), (1, 129), (1, 156), (1, 158), (1, 160), (1, 162), (1, 164), (1, 166), (1, 168), (1, 170), (1, 172), (1, 174), (1, 176), (1, 178), (1, 180), (1, 182), (1, 184), (1, 186), (1, 188)] rfl
set_option maxRecDepth 100000 in
theorem gt_X6_apart : ∀ w ∈ wsX6_apart, w ∈ lw_tbl := mem_pos [(4, 68)] rfl
set_option maxRecDepth 100000 in
theorem gto_X6_apply : ∀ w ∈ (.code yX6_apply cX6_apply 6 none :: wsX6_apply_own : List Cond), w ∈ lw_tbl := mem_pos [(4, 65), (4, 66), (4, 67), (1, 6), (1, 150), (1, 151), (1, 152), (1, 154), (1, 138), (4, 69), (3, 154), (1, 16), (3, 155), (1, 143), (4, 70), (3, 157), (3, 158)] rfl
theorem gt_X6_apply : ∀ w ∈ wsX6_apply, w ∈ lw_tbl := gt_c (gto_X6_apply _ List.mem_cons_self) (gt_a (gt_a (gt_t gto_X6_apply) (gt_X6_apart)) inX6)
set_option maxRecDepth 100000 in
theorem gt_X11_rowsUpTo : ∀ w ∈ wsX11_rowsUpTo, w ∈ lw_tbl := mem_pos [(4, 59), (4, 60), (3, 157), (1, 16), (3, 158), (4, 61), (3, 154), (3, 155)] rfl
set_option maxRecDepth 100000 in
theorem gto_X6_recall : ∀ w ∈ (.code yX6_recall cX6_recall 5 none :: wsX6_recall_own : List Cond), w ∈ lw_tbl := mem_pos [(4, 56), (4, 62), (4, 64), (0, 11), (1, 6), (1, 125), (1, 129), (1, 134), (1, 1), (4, 58), (1, 153), (1, 155), (1, 137), (1, 138), (1, 148), (1, 143), (1, 149)] rfl
theorem gt_X6_recall : ∀ w ∈ wsX6_recall, w ∈ lw_tbl := gt_c (gto_X6_recall _ List.mem_cons_self) (gt_a (gt_a (gt_t gto_X6_recall) (gt_a gt_X6_apply (gt_X11_rowsUpTo))) inX6)
set_option maxRecDepth 100000 in
theorem gto_X11_span : ∀ w ∈ (.code yX11_span cX11_span 4 (some .int) :: wsX11_span_own : List Cond), w ∈ lw_tbl := mem_pos [(4, 41), (4, 42), (4, 44), (0, 10), (1, 1), (4, 46), (4, 47), (4, 49), (4, 50), (4, 51), (1, 6), (4, 53), (4, 54), (4, 55), (3, 37), (1, 126), (1, 147), (1, 142)] rfl
theorem gt_X11_span : ∀ w ∈ wsX11_span, w ∈ lw_tbl := gt_c (gto_X11_span _ List.mem_cons_self) (gt_a (gt_a (gt_a (gt_t gto_X11_span) (gt_a gt_X11_isDay (gt_a gt_X11_isEither (gt_a gt_X6_has (gt_X6_recall))))) inX11) inX6)
theorem gw_X11_span : ∀ w ∈ wsV RL 53 RX11 yX11_span wsX11_span, w ∈ lw_tbl := gt_a (mem_pos [(4, 38), (4, 39), (4, 40), (1, 1)] rfl) gt_X11_span
theorem gx_X11_span : GoodIn (wsV RL 53 RX11 yX11_span wsX11_span) (wsV RL 53 RX11 yX11_span wsX11_span) := ggi (fun _ h => h) (gs_a (gs_e (by decide +kernel)) gs_X11_span)
set_option maxRecDepth 100000 in
theorem gt_X12_isPart : ∀ w ∈ wsX12_isPart, w ∈ lw_tbl := mem_pos [(7, 202), (6, 131), (6, 171), (6, 173), (6, 175), (6, 177), (6, 179), (6, 181), (6, 183), (6, 185), (6, 187), (6, 189), (6, 191), (6, 193), (6, 195), (6, 197), (6, 199), (6, 201), (6, 203), (6, 205), (6, 207), (6, 209), (6, 211), (6, 213), (6, 215), (6, 217), (6, 219), (6, 221), (6, 223), (6, 225), (6, 227), (6, 229), (6, 231), (6, 233), (6, 235), (6, 237), (6, 239), (7, 1), (7, 3), (7, 5), (7, 7), (7, 9), (7, 11), (7, 13), (7, 15), (7, 17), (7, 19), (7, 21), (7, 23), (7, 25), (7, 27), (7, 29), (7, 31), (7, 33), (7, 35), (7, 37), (7, 39), (7, 41), (7, 43), (7, 45), (7, 47), (7, 49), (7, 51), (7, 53), (7, 55), (7, 57), (7, 59), (7, 61), (7, 63), (7, 65), (7, 67)] rfl
set_option maxRecDepth 100000 in
theorem gto_X12_isKnown : ∀ w ∈ (.code yX12_isKnown cX12_isKnown 3 (some .boolean) :: wsX12_isKnown_own : List Cond), w ∈ lw_tbl := mem_pos [(7, 206), (7, 74), (7, 75), (1, 14), (6, 103)] rfl
theorem gt_X12_isKnown : ∀ w ∈ wsX12_isKnown, w ∈ lw_tbl := gt_c (gto_X12_isKnown _ List.mem_cons_self) (gt_a (gt_a (gt_t gto_X12_isKnown) (gt_X12_isIn)) inX12)
set_option maxRecDepth 100000 in
theorem gt_X12_cutDown : ∀ w ∈ wsX12_cutDown, w ∈ lw_tbl := mem_pos [(7, 218), (6, 129), (7, 219), (3, 154), (1, 16), (3, 155), (6, 130), (7, 220), (3, 157), (3, 158), (6, 171), (6, 173), (6, 175), (6, 177), (6, 179), (6, 181), (6, 183), (6, 185), (6, 187), (6, 189), (6, 191), (6, 193), (6, 195), (6, 197), (6, 199), (6, 201), (6, 203), (6, 205), (6, 207), (6, 209), (6, 211), (6, 213), (6, 215), (6, 217), (6, 219), (6, 221), (6, 223), (6, 225), (6, 227), (6, 229), (6, 231), (6, 233), (6, 235), (6, 237), (6, 239), (7, 1), (7, 3), (7, 5), (7, 7), (7, 9), (7, 11), (7, 13), (7, 15), (7, 17), (7, 19), (7, 21), (7, 23), (7, 25), (7, 27), (7, 29), (7, 31), (7, 33), (7, 35), (7, 37), (7, 39), (7, 41), (7, 43), (7, 45), (7, 47), (7, 49), (7, 51), (7, 53), (7, 55), (7, 57), (7, 59), (7, 61), (7, 63), (7, 65), (7, 67)] rfl
set_option maxRecDepth 100000 in
theorem gto_X12_laySpans : ∀ w ∈ (.code yX12_laySpans cX12_laySpans 4 none :: wsX12_laySpans_own : List Cond), w ∈ lw_tbl := mem_pos [(7, 214), (7, 215), (7, 217), (0, 53), (1, 14), (6, 131), (6, 129), (6, 120), (6, 130), (6, 121), (6, 125), (6, 124), (6, 126), (6, 127)] rfl
theorem gt_X12_laySpans : ∀ w ∈ wsX12_laySpans, w ∈ lw_tbl := gt_c (gto_X12_laySpans _ List.mem_cons_self) (gt_a (gt_a (gt_t gto_X12_laySpans) (gt_X12_cutDown)) inX12)
set_option maxRecDepth 100000 in
theorem gto_X12_laySpansOf : ∀ w ∈ (.code yX12_laySpansOf cX12_laySpansOf 3 none :: wsX12_laySpansOf_own : List Cond), w ∈ lw_tbl := mem_pos [(7, 210), (7, 211), (7, 213), (0, 52), (1, 14), (6, 132), (6, 128)] rfl
theorem gt_X12_laySpansOf : ∀ w ∈ wsX12_laySpansOf, w ∈ lw_tbl := gt_c (gto_X12_laySpansOf _ List.mem_cons_self) (gt_a (gt_a (gt_t gto_X12_laySpansOf) (gt_X12_laySpans)) inX12)
set_option maxRecDepth 100000 in
theorem gto_X12_span : ∀ w ∈ (.code yX12_span cX12_span 4 (some .int) :: wsX12_span_own : List Cond), w ∈ lw_tbl := mem_pos [(7, 198), (7, 199), (7, 201), (0, 49), (1, 14), (7, 203), (7, 205), (0, 50), (7, 74), (7, 75), (7, 207), (7, 209), (0, 51), (6, 102), (6, 123), (6, 130), (6, 129)] rfl
theorem gt_X12_span : ∀ w ∈ wsX12_span, w ∈ lw_tbl := gt_c (gto_X12_span _ List.mem_cons_self) (gt_a (gt_a (gt_t gto_X12_span) (gt_a gt_X12_isPart (gt_a gt_X12_isKnown (gt_a gt_X12_isIn (gt_X12_laySpansOf))))) inX12)
theorem gw_X12_span : ∀ w ∈ wsV RL 57 RX12 yX12_span wsX12_span, w ∈ lw_tbl := gt_a (mem_pos [(7, 195), (7, 196), (7, 197), (1, 14)] rfl) gt_X12_span
theorem gx_X12_span : GoodIn (wsV RL 57 RX12 yX12_span wsX12_span) (wsV RL 57 RX12 yX12_span wsX12_span) := ggi (fun _ h => h) (gs_a (gs_e (by decide +kernel)) gs_X12_span)
set_option maxRecDepth 100000 in
theorem gt_X11_isAim : ∀ w ∈ wsX11_isAim, w ∈ lw_tbl := mem_pos [(4, 77), (3, 76), (3, 77), (1, 1), (3, 78)] rfl
set_option maxRecDepth 100000 in
theorem gt_X11_seasonOf : ∀ w ∈ wsX11_seasonOf, w ∈ lw_tbl := mem_pos [(4, 81)] rfl
set_option maxRecDepth 100000 in
theorem gt_X8_setAim : ∀ w ∈ wsX8_setAim, w ∈ lw_tbl := mem_pos [(4, 85), (4, 86), (4, 87), (4, 88), (1, 4), (4, 89), (1, 98), (1, 103), (1, 105), (1, 107), (1, 109), (1, 111)] rfl
set_option maxRecDepth 100000 in
theorem gt_X8_ask : ∀ w ∈ wsX8_ask, w ∈ lw_tbl := mem_pos [(4, 97), (1, 97), (1, 98), (1, 100), (4, 98), (4, 28), (4, 29), (1, 4), (4, 30), (1, 101), (4, 99), (4, 100), (4, 101), (1, 20), (4, 102), (4, 14), (4, 103), (4, 104), (4, 105), (4, 106), (4, 107), (4, 108), (4, 109), (4, 110), (4, 111), (4, 112), (1, 16), (4, 113), (4, 114), (4, 115), (4, 116), (1, 103), (1, 105), (1, 107), (1, 109), (1, 111), (4, 15)] rfl
set_option maxRecDepth 100000 in
theorem gt_X11_shine : ∀ w ∈ wsX11_shine, w ∈ lw_tbl := mem_pos [(4, 119)] rfl
set_option maxRecDepth 100000 in
theorem gto_X11_trueSum : ∀ w ∈ (.code yX11_trueSum cX11_trueSum 3 (some .int) :: wsX11_trueSum_own : List Cond), w ∈ lw_tbl := mem_pos [(4, 93), (4, 94), (4, 95), (4, 96), (1, 4), (4, 117), (4, 118), (1, 1), (3, 37), (1, 130), (1, 128), (3, 34), (1, 124)] rfl
theorem gt_X11_trueSum : ∀ w ∈ wsX11_trueSum, w ∈ lw_tbl := gt_c (gto_X11_trueSum _ List.mem_cons_self) (gt_a (gt_a (gt_a (gt_a (gt_a (gt_t gto_X11_trueSum) (gt_a gt_X8_ask (gt_X11_shine))) inX11) inX6) inX8) inX10)
set_option maxRecDepth 100000 in
theorem gto_X11_sum : ∀ w ∈ (.code yX11_sum cX11_sum 7 (some .int) :: wsX11_sum_own : List Cond), w ∈ lw_tbl := mem_pos [(4, 74), (3, 76), (3, 77), (1, 1), (4, 75), (4, 76), (4, 79), (4, 80), (4, 82), (4, 83), (4, 84), (1, 4), (4, 90), (4, 92), (0, 12), (4, 78), (3, 34)] rfl
theorem gt_X11_sum : ∀ w ∈ wsX11_sum, w ∈ lw_tbl := gt_c (gto_X11_sum _ List.mem_cons_self) (gt_a (gt_a (gt_a (gt_a (gt_a (gt_t gto_X11_sum) (gt_a gt_X11_within (gt_a gt_X11_isAim (gt_a gt_X11_seasonOf (gt_a gt_X8_setAim (gt_X11_trueSum)))))) inX11) inX8) inX6) inX10)
theorem gw_X11_sum : ∀ w ∈ wsV RL 58 RX11 yX11_sum wsX11_sum, w ∈ lw_tbl := gt_a (mem_pos [(4, 71), (4, 72), (4, 73), (1, 1)] rfl) gt_X11_sum
theorem gx_X11_sum : GoodIn (wsV RL 58 RX11 yX11_sum wsX11_sum) (wsV RL 58 RX11 yX11_sum wsX11_sum) := ggi (fun _ h => h) (gs_a (gs_e (by decide +kernel)) gs_X11_sum)
set_option maxRecDepth 100000 in
theorem gt_X12_shines : ∀ w ∈ wsX12_shines, w ∈ lw_tbl := mem_pos [(7, 238)] rfl
set_option maxRecDepth 100000 in
theorem gt_X12_season : ∀ w ∈ wsX12_season, w ∈ lw_tbl := mem_pos [(7, 231)] rfl
set_option maxRecDepth 100000 in
theorem gto_X12_layWorths : ∀ w ∈ (.code yX12_layWorths cX12_layWorths 8 none :: wsX12_layWorths_own : List Cond), w ∈ lw_tbl := mem_pos [(7, 235), (7, 176), (7, 178), (0, 46), (1, 14), (6, 131), (6, 134), (6, 119)] rfl
theorem gt_X12_layWorths : ∀ w ∈ wsX12_layWorths, w ∈ lw_tbl := gt_c (gto_X12_layWorths _ List.mem_cons_self) (gt_a (gt_a (gt_t gto_X12_layWorths) (gt_X12_lawWorth)) inX12)
set_option maxRecDepth 100000 in
theorem gto_X12_trueSum : ∀ w ∈ (.code yX12_trueSum cX12_trueSum 9 (some .int) :: wsX12_trueSum_own : List Cond), w ∈ lw_tbl := mem_pos [(7, 228), (7, 236), (7, 237), (1, 14), (7, 229), (7, 230), (7, 232), (7, 234), (0, 55), (6, 131), (6, 122), (6, 134)] rfl
theorem gt_X12_trueSum : ∀ w ∈ wsX12_trueSum, w ∈ lw_tbl := gt_c (gto_X12_trueSum _ List.mem_cons_self) (gt_a (gt_a (gt_t gto_X12_trueSum) (gt_a gt_X12_shines (gt_a gt_X12_season (gt_X12_layWorths)))) inX12)
set_option maxRecDepth 100000 in
theorem gto_X12_sum_ : ∀ w ∈ (.code yX12_sum_ cX12_sum_ 7 (some .int) :: wsX12_sum__own : List Cond), w ∈ lw_tbl := mem_pos [(7, 224), (7, 74), (7, 75), (1, 14), (7, 173), (7, 174), (7, 225), (7, 227), (0, 54), (6, 102), (7, 239)] rfl
theorem gt_X12_sum_ : ∀ w ∈ wsX12_sum_, w ∈ lw_tbl := gt_c (gto_X12_sum_ _ List.mem_cons_self) (gt_a (gt_a (gt_t gto_X12_sum_) (gt_a gt_X12_isIn (gt_a gt_X12_isAim (gt_X12_trueSum)))) inX12)
theorem gw_X12_sum_ : ∀ w ∈ wsV RL 62 RX12 yX12_sum_ wsX12_sum_, w ∈ lw_tbl := gt_a (mem_pos [(7, 221), (7, 222), (7, 223), (1, 14)] rfl) gt_X12_sum_
theorem gx_X12_sum_ : GoodIn (wsV RL 62 RX12 yX12_sum_ wsX12_sum_) (wsV RL 62 RX12 yX12_sum_ wsX12_sum_) := ggi (fun _ h => h) (gs_a (gs_e (by decide +kernel)) gs_X12_sum_)
set_option maxRecDepth 100000 in
theorem gto_X11_heard : ∀ w ∈ (.code yX11_heard cX11_heard 11 (some .int) :: wsX11_heard_own : List Cond), w ∈ lw_tbl := mem_pos [(4, 123), (4, 75), (4, 76), (1, 1), (3, 76), (3, 77), (4, 79), (4, 80), (4, 82), (4, 83), (4, 84), (1, 4), (4, 90), (4, 92), (0, 12), (4, 78), (3, 34), (3, 44), (4, 124), (4, 125)] rfl
theorem gt_X11_heard : ∀ w ∈ wsX11_heard, w ∈ lw_tbl := gt_c (gto_X11_heard _ List.mem_cons_self) (gt_a (gt_a (gt_a (gt_a (gt_a (gt_t gto_X11_heard) (gt_a gt_X11_isAim (gt_a gt_X11_within (gt_a gt_X11_seasonOf (gt_a gt_X8_setAim (gt_X11_trueSum)))))) inX11) inX8) inX6) inX10)
theorem gw_X11_heard : ∀ w ∈ wsV RL 65 RX11 yX11_heard wsX11_heard, w ∈ lw_tbl := gt_a (mem_pos [(4, 120), (4, 121), (4, 122), (1, 1)] rfl) gt_X11_heard
theorem gx_X11_heard : GoodIn (wsV RL 65 RX11 yX11_heard wsX11_heard) (wsV RL 65 RX11 yX11_heard wsX11_heard) := ggi (fun _ h => h) (gs_a (gs_e (by decide +kernel)) gs_X11_heard)
set_option maxRecDepth 100000 in
theorem gto_X12_heard : ∀ w ∈ (.code yX12_heard cX12_heard 11 (some .int) :: wsX12_heard_own : List Cond), w ∈ lw_tbl := mem_pos [(8, 3), (7, 173), (7, 174), (1, 14), (7, 74), (7, 75), (7, 225), (7, 227), (0, 54), (6, 102), (7, 239), (8, 4), (8, 5), (6, 103)] rfl
theorem gt_X12_heard : ∀ w ∈ wsX12_heard, w ∈ lw_tbl := gt_c (gto_X12_heard _ List.mem_cons_self) (gt_a (gt_a (gt_t gto_X12_heard) (gt_a gt_X12_isAim (gt_a gt_X12_isIn (gt_X12_trueSum)))) inX12)
theorem gw_X12_heard : ∀ w ∈ wsV RL 69 RX12 yX12_heard wsX12_heard, w ∈ lw_tbl := gt_a (mem_pos [(8, 0), (8, 1), (8, 2), (1, 14)] rfl) gt_X12_heard
theorem gx_X12_heard : GoodIn (wsV RL 69 RX12 yX12_heard wsX12_heard) (wsV RL 69 RX12 yX12_heard wsX12_heard) := ggi (fun _ h => h) (gs_a (gs_e (by decide +kernel)) gs_X12_heard)
set_option maxRecDepth 100000 in
theorem gt_X7_add : ∀ w ∈ wsX7_add, w ∈ lw_tbl := mem_pos [(4, 135), (1, 206), (1, 224), (1, 99), (1, 202), (4, 136), (4, 9), (4, 8), (1, 21), (1, 220), (1, 204), (1, 226), (1, 228), (1, 230), (1, 232), (1, 234), (1, 236), (1, 238), (2, 0), (2, 2), (2, 4), (2, 6), (2, 8), (1, 103), (1, 105), (1, 107), (1, 109), (1, 111)] rfl
set_option maxRecDepth 100000 in
theorem gto_X11_read : ∀ w ∈ (.code yX11_read cX11_read 7 (some .int) :: wsX11_read_own : List Cond), w ∈ lw_tbl := mem_pos [(4, 129), (4, 75), (4, 76), (1, 1), (3, 76), (3, 77), (4, 79), (4, 80), (4, 82), (4, 83), (4, 84), (1, 4), (4, 132), (4, 133), (4, 134), (1, 7), (4, 130), (4, 131), (3, 38), (1, 207), (3, 34), (3, 44)] rfl
theorem gt_X11_read : ∀ w ∈ wsX11_read, w ∈ lw_tbl := gt_c (gto_X11_read _ List.mem_cons_self) (gt_a (gt_a (gt_a (gt_a (gt_t gto_X11_read) (gt_a gt_X11_isAim (gt_a gt_X11_within (gt_a gt_X11_seasonOf (gt_a gt_X8_setAim (gt_X7_add)))))) inX11) inX7) inX8)
theorem gw_X11_read : ∀ w ∈ wsV RL 70 RX11 yX11_read wsX11_read, w ∈ lw_tbl := gt_a (mem_pos [(4, 126), (4, 127), (4, 128), (1, 1)] rfl) gt_X11_read
theorem gx_X11_read : GoodIn (wsV RL 70 RX11 yX11_read wsX11_read) (wsV RL 70 RX11 yX11_read wsX11_read) := ggi (fun _ h => h) (gs_a (gs_e (by decide +kernel)) gs_X11_read)
set_option maxRecDepth 100000 in
theorem gto_X12_read : ∀ w ∈ (.code yX12_read cX12_read 7 (some .int) :: wsX12_read_own : List Cond), w ∈ lw_tbl := mem_pos [(8, 9), (7, 173), (7, 174), (1, 14), (7, 74), (7, 75), (6, 102), (6, 138), (8, 10), (8, 11), (6, 135), (6, 136), (6, 137), (6, 103)] rfl
theorem gt_X12_read : ∀ w ∈ wsX12_read, w ∈ lw_tbl := gt_c (gto_X12_read _ List.mem_cons_self) (gt_a (gt_a (gt_t gto_X12_read) (gt_a gt_X12_isAim (gt_X12_isIn))) inX12)
theorem gw_X12_read : ∀ w ∈ wsV RL 73 RX12 yX12_read wsX12_read, w ∈ lw_tbl := gt_a (mem_pos [(8, 6), (8, 7), (8, 8), (1, 14)] rfl) gt_X12_read
theorem gx_X12_read : GoodIn (wsV RL 73 RX12 yX12_read wsX12_read) (wsV RL 73 RX12 yX12_read wsX12_read) := ggi (fun _ h => h) (gs_a (gs_e (by decide +kernel)) gs_X12_read)
set_option maxRecDepth 100000 in
theorem gt_X7_has : ∀ w ∈ wsX7_has, w ∈ lw_tbl := mem_pos [(4, 144), (1, 206), (1, 226), (1, 228), (1, 230), (1, 232), (1, 234), (1, 236), (1, 238), (2, 0), (2, 2), (2, 4), (2, 6), (2, 8)] rfl
set_option maxRecDepth 100000 in
theorem gt_X7_leanOf : ∀ w ∈ wsX7_leanOf, w ∈ lw_tbl := mem_pos [(4, 158), (1, 225), (1, 123), (1, 221), (1, 198), (1, 202), (1, 224), (1, 99), (4, 136), (4, 9), (4, 8), (1, 21), (4, 159), (4, 95), (4, 96), (1, 4), (4, 97), (1, 97), (1, 98), (1, 100), (4, 98), (4, 28), (4, 29), (4, 30), (1, 101), (4, 99), (4, 100), (4, 101), (1, 20), (4, 102), (4, 14), (4, 103), (4, 104), (4, 105), (4, 106), (4, 107), (4, 108), (4, 109), (4, 110), (4, 111), (4, 112), (1, 16), (4, 113), (4, 114), (4, 115), (4, 116), (1, 226), (1, 228), (1, 230), (1, 232), (1, 234), (1, 236), (1, 238), (2, 0), (2, 2), (2, 4), (2, 6), (2, 8), (1, 156), (1, 158), (1, 160), (1, 162), (1, 164), (1, 166), (1, 168), (1, 170), (1, 172), (1, 174), (1, 176), (1, 178), (1, 180), (1, 182), (1, 184), (1, 186), (1, 188), (1, 103), (1, 105), (1, 107), (1, 109), (1, 111), (4, 15)] rfl
set_option maxRecDepth 100000 in
theorem gto_X7_leave : ∀ w ∈ (.code yX7_leave cX7_leave 8 none :: wsX7_leave_own : List Cond), w ∈ lw_tbl := mem_pos [(4, 154), (4, 155), (4, 156), (4, 157), (1, 7), (1, 225), (1, 133), (1, 141), (1, 1), (4, 118), (1, 146), (4, 161), (3, 157), (1, 16), (3, 158), (4, 162), (3, 154), (3, 155), (1, 212), (1, 220), (1, 216)] rfl
theorem gt_X7_leave : ∀ w ∈ wsX7_leave, w ∈ lw_tbl := gt_c (gto_X7_leave _ List.mem_cons_self) (gt_a (gt_a (gt_a (gt_a (gt_a (gt_t gto_X7_leave) (gt_a gt_X7_leanOf (gt_X11_shine))) inX7) inX6) inX8) inX10)
set_option maxRecDepth 100000 in
theorem gto_X7_recall : ∀ w ∈ (.code yX7_recall cX7_recall 5 none :: wsX7_recall_own : List Cond), w ∈ lw_tbl := mem_pos [(4, 148), (4, 151), (4, 153), (0, 13), (1, 7), (4, 149), (4, 54), (4, 55), (1, 6), (1, 225), (1, 222), (1, 133), (1, 204), (1, 206), (1, 210), (1, 1), (4, 58), (1, 136), (1, 223)] rfl
theorem gt_X7_recall : ∀ w ∈ wsX7_recall, w ∈ lw_tbl := gt_c (gto_X7_recall _ List.mem_cons_self) (gt_a (gt_a (gt_a (gt_a (gt_a (gt_t gto_X7_recall) (gt_a gt_X7_leave (gt_a gt_X11_rowsUpTo (gt_X6_recall)))) inX7) inX6) inX8) inX10)
set_option maxRecDepth 100000 in
theorem gto_X11_left : ∀ w ∈ (.code yX11_left cX11_left 4 (some .int) :: wsX11_left_own : List Cond), w ∈ lw_tbl := mem_pos [(4, 140), (4, 42), (4, 44), (0, 10), (1, 1), (4, 46), (4, 47), (4, 141), (4, 142), (4, 143), (1, 7), (4, 145), (4, 146), (4, 147), (4, 78), (3, 38), (1, 205), (1, 219), (1, 215)] rfl
theorem gt_X11_left : ∀ w ∈ wsX11_left, w ∈ lw_tbl := gt_c (gto_X11_left _ List.mem_cons_self) (gt_a (gt_a (gt_a (gt_a (gt_a (gt_a (gt_t gto_X11_left) (gt_a gt_X11_isDay (gt_a gt_X11_isEither (gt_a gt_X7_has (gt_X7_recall))))) inX11) inX7) inX6) inX8) inX10)
theorem gw_X11_left : ∀ w ∈ wsV RL 74 RX11 yX11_left wsX11_left, w ∈ lw_tbl := gt_a (mem_pos [(4, 137), (4, 138), (4, 139), (1, 1)] rfl) gt_X11_left
theorem gx_X11_left : GoodIn (wsV RL 74 RX11 yX11_left wsX11_left) (wsV RL 74 RX11 yX11_left wsX11_left) := ggi (fun _ h => h) (gs_a (gs_e (by decide +kernel)) gs_X11_left)
set_option maxRecDepth 100000 in
theorem gt_X12_isReading : ∀ w ∈ wsX12_isReading, w ∈ lw_tbl := mem_pos [(8, 19), (6, 138), (6, 171), (6, 173), (6, 175), (6, 177), (6, 179), (6, 181), (6, 183), (6, 185), (6, 187), (6, 189), (6, 191), (6, 193), (6, 195), (6, 197), (6, 199), (6, 201), (6, 203), (6, 205), (6, 207), (6, 209), (6, 211), (6, 213), (6, 215), (6, 217), (6, 219), (6, 221), (6, 223), (6, 225), (6, 227), (6, 229), (6, 231), (6, 233), (6, 235), (6, 237), (6, 239), (7, 1), (7, 3), (7, 5), (7, 7), (7, 9), (7, 11), (7, 13), (7, 15), (7, 17), (7, 19), (7, 21), (7, 23), (7, 25), (7, 27), (7, 29), (7, 31), (7, 33), (7, 35), (7, 37), (7, 39), (7, 41), (7, 43), (7, 45), (7, 47), (7, 49), (7, 51), (7, 53), (7, 55), (7, 57), (7, 59), (7, 61), (7, 63), (7, 65), (7, 67)] rfl
set_option maxRecDepth 100000 in
theorem gto_X12_most : ∀ w ∈ (.code yX12_most cX12_most 2 (some .int) :: wsX12_most_own : List Cond), w ∈ lw_tbl := mem_pos [(8, 35), (7, 236), (7, 237), (1, 14), (6, 129), (6, 134), (6, 130), (7, 219), (3, 154), (1, 16), (3, 155)] rfl
theorem gt_X12_most : ∀ w ∈ wsX12_most, w ∈ lw_tbl := gt_c (gto_X12_most _ List.mem_cons_self) (gt_a (gt_a (gt_t gto_X12_most) (gt_X12_shines)) inX12)
set_option maxRecDepth 100000 in
theorem gto_X12_least : ∀ w ∈ (.code yX12_least cX12_least 2 (some .int) :: wsX12_least_own : List Cond), w ∈ lw_tbl := mem_pos [(8, 39), (7, 236), (7, 237), (1, 14), (6, 129), (6, 134), (6, 130), (7, 220), (3, 157), (1, 16), (3, 158)] rfl
theorem gt_X12_least : ∀ w ∈ wsX12_least, w ∈ lw_tbl := gt_c (gto_X12_least _ List.mem_cons_self) (gt_a (gt_a (gt_t gto_X12_least) (gt_X12_shines)) inX12)
set_option maxRecDepth 100000 in
theorem gto_X12_aimOf : ∀ w ∈ (.code yX12_aimOf cX12_aimOf 3 (some .int) :: wsX12_aimOf_own : List Cond), w ∈ lw_tbl := mem_pos [(8, 31), (7, 229), (7, 230), (1, 14), (6, 135), (6, 137)] rfl
theorem gt_X12_aimOf : ∀ w ∈ wsX12_aimOf, w ∈ lw_tbl := gt_c (gto_X12_aimOf _ List.mem_cons_self) (gt_a (gt_a (gt_t gto_X12_aimOf) (gt_X12_season)) inX12)
set_option maxRecDepth 100000 in
theorem gto_X12_layWorthsOf : ∀ w ∈ (.code yX12_layWorthsOf cX12_layWorthsOf 2 none :: wsX12_layWorthsOf_own : List Cond), w ∈ lw_tbl := mem_pos [(8, 27), (8, 28), (8, 30), (0, 59), (1, 14), (7, 232), (7, 234), (0, 55)] rfl
theorem gt_X12_layWorthsOf : ∀ w ∈ wsX12_layWorthsOf, w ∈ lw_tbl := gt_c (gto_X12_layWorthsOf _ List.mem_cons_self) (gt_a (gt_a (gt_t gto_X12_layWorthsOf) (gt_a gt_X12_aimOf (gt_X12_layWorths))) inX12)
set_option maxRecDepth 100000 in
theorem gto_X12_layLeft : ∀ w ∈ (.code yX12_layLeft cX12_layLeft 4 none :: wsX12_layLeft_own : List Cond), w ∈ lw_tbl := mem_pos [(8, 23), (8, 32), (8, 34), (0, 60), (1, 14), (8, 36), (8, 38), (0, 61), (8, 24), (8, 26), (0, 58), (6, 136), (6, 139), (6, 140), (6, 131), (6, 123)] rfl
theorem gt_X12_layLeft : ∀ w ∈ wsX12_layLeft, w ∈ lw_tbl := gt_c (gto_X12_layLeft _ List.mem_cons_self) (gt_a (gt_a (gt_t gto_X12_layLeft) (gt_a gt_X12_most (gt_a gt_X12_least (gt_X12_layWorthsOf)))) inX12)
set_option maxRecDepth 100000 in
theorem gto_X12_left : ∀ w ∈ (.code yX12_left cX12_left 4 (some .int) :: wsX12_left_own : List Cond), w ∈ lw_tbl := mem_pos [(8, 15), (8, 16), (8, 18), (0, 56), (1, 14), (7, 203), (7, 205), (0, 50), (7, 74), (7, 75), (7, 207), (7, 209), (0, 51), (8, 20), (8, 22), (0, 57), (6, 102), (7, 239), (6, 137), (6, 140), (6, 139)] rfl
theorem gt_X12_left : ∀ w ∈ wsX12_left, w ∈ lw_tbl := gt_c (gto_X12_left _ List.mem_cons_self) (gt_a (gt_a (gt_t gto_X12_left) (gt_a gt_X12_isReading (gt_a gt_X12_isKnown (gt_a gt_X12_isIn (gt_a gt_X12_laySpansOf (gt_X12_layLeft)))))) inX12)
theorem gw_X12_left : ∀ w ∈ wsV RL 77 RX12 yX12_left wsX12_left, w ∈ lw_tbl := gt_a (mem_pos [(8, 12), (8, 13), (8, 14), (1, 14)] rfl) gt_X12_left
theorem gx_X12_left : GoodIn (wsV RL 77 RX12 yX12_left wsX12_left) (wsV RL 77 RX12 yX12_left wsX12_left) := ggi (fun _ h => h) (gs_a (gs_e (by decide +kernel)) gs_X12_left)
set_option maxRecDepth 100000 in
theorem gt_X11_spread : ∀ w ∈ wsX11_spread, w ∈ lw_tbl := mem_pos [(4, 173), (4, 174), (4, 175), (1, 16), (4, 176), (4, 117), (4, 118), (1, 1), (4, 119)] rfl
set_option maxRecDepth 100000 in
theorem gto_X7_widestPart : ∀ w ∈ (.code yX7_widestPart cX7_widestPart 6 (some .int) :: wsX7_widestPart_own : List Cond), w ∈ lw_tbl := mem_pos [(4, 170), (4, 155), (4, 156), (4, 157), (1, 7), (1, 225), (1, 133), (1, 141), (1, 146), (1, 1), (4, 172)] rfl
theorem gt_X7_widestPart : ∀ w ∈ wsX7_widestPart, w ∈ lw_tbl := gt_c (gto_X7_widestPart _ List.mem_cons_self) (gt_a (gt_a (gt_a (gt_a (gt_a (gt_t gto_X7_widestPart) (gt_a gt_X7_leanOf (gt_X11_spread))) inX7) inX6) inX8) inX10)
set_option maxRecDepth 100000 in
theorem gto_X11_most : ∀ w ∈ (.code yX11_most cX11_most 3 (some .int) :: wsX11_most_own : List Cond), w ∈ lw_tbl := mem_pos [(4, 166), (4, 42), (4, 44), (0, 10), (1, 1), (4, 141), (4, 142), (4, 143), (1, 7), (4, 53), (4, 54), (4, 55), (1, 6), (4, 167), (4, 168), (4, 169), (3, 38), (3, 37)] rfl
theorem gt_X11_most : ∀ w ∈ wsX11_most, w ∈ lw_tbl := gt_c (gto_X11_most _ List.mem_cons_self) (gt_a (gt_a (gt_a (gt_a (gt_a (gt_a (gt_t gto_X11_most) (gt_a gt_X11_isDay (gt_a gt_X7_has (gt_a gt_X6_recall (gt_X7_widestPart))))) inX11) inX7) inX6) inX8) inX10)
theorem gw_X11_most : ∀ w ∈ wsV RL 78 RX11 yX11_most wsX11_most, w ∈ lw_tbl := gt_a (mem_pos [(4, 163), (4, 164), (4, 165), (1, 1)] rfl) gt_X11_most
theorem gx_X11_most : GoodIn (wsV RL 78 RX11 yX11_most wsX11_most) (wsV RL 78 RX11 yX11_most wsX11_most) := ggi (fun _ h => h) (gs_a (gs_e (by decide +kernel)) gs_X11_most)
set_option maxRecDepth 100000 in
theorem gto_X12_most_ : ∀ w ∈ (.code yX12_most_ cX12_most_ 6 (some .int) :: wsX12_most__own : List Cond), w ∈ lw_tbl := mem_pos [(8, 43), (8, 32), (8, 34), (0, 60), (1, 14), (8, 36), (8, 38), (0, 61), (8, 16), (8, 18), (0, 56), (7, 203), (7, 205), (0, 50), (7, 207), (7, 209), (0, 51), (8, 24), (8, 26), (0, 58), (6, 102), (6, 137), (6, 131), (6, 123)] rfl
theorem gt_X12_most_ : ∀ w ∈ wsX12_most_, w ∈ lw_tbl := gt_c (gto_X12_most_ _ List.mem_cons_self) (gt_a (gt_a (gt_t gto_X12_most_) (gt_a gt_X12_most (gt_a gt_X12_least (gt_a gt_X12_isReading (gt_a gt_X12_isKnown (gt_a gt_X12_laySpansOf (gt_X12_layWorthsOf))))))) inX12)
theorem gw_X12_most_ : ∀ w ∈ wsV RL 82 RX12 yX12_most_ wsX12_most_, w ∈ lw_tbl := gt_a (mem_pos [(8, 40), (8, 41), (8, 42), (1, 14)] rfl) gt_X12_most_
theorem gx_X12_most_ : GoodIn (wsV RL 82 RX12 yX12_most_ wsX12_most_) (wsV RL 82 RX12 yX12_most_ wsX12_most_) := ggi (fun _ h => h) (gs_a (gs_e (by decide +kernel)) gs_X12_most_)
set_option maxRecDepth 100000 in
theorem gt_X1_compare : ∀ w ∈ wsX1_compare, w ∈ lw_tbl := mem_pos [(4, 184), (2, 31), (1, 208), (1, 213), (2, 17), (1, 217), (2, 19), (4, 185), (3, 154), (1, 16), (3, 155), (4, 186), (3, 157), (3, 158), (2, 37), (2, 39), (2, 41), (2, 43), (2, 45), (2, 47), (2, 49), (2, 51), (2, 53), (2, 55), (2, 57), (2, 59), (2, 61), (1, 226), (1, 228), (1, 230), (1, 232), (1, 234), (1, 236), (1, 238), (2, 0), (2, 2), (2, 4), (2, 6), (2, 8)] rfl
set_option maxRecDepth 100000 in
theorem gto_X11_alike : ∀ w ∈ (.code yX11_alike cX11_alike 3 (some .int) :: wsX11_alike_own : List Cond), w ∈ lw_tbl := mem_pos [(4, 180), (4, 42), (4, 44), (0, 10), (1, 1), (4, 46), (4, 47), (4, 145), (4, 146), (4, 147), (1, 7), (4, 181), (4, 182), (4, 183), (1, 9), (4, 78), (3, 38), (3, 39), (2, 20), (2, 18)] rfl
theorem gt_X11_alike : ∀ w ∈ wsX11_alike, w ∈ lw_tbl := gt_c (gto_X11_alike _ List.mem_cons_self) (gt_a (gt_a (gt_a (gt_a (gt_a (gt_a (gt_a (gt_t gto_X11_alike) (gt_a gt_X11_isDay (gt_a gt_X11_isEither (gt_a gt_X7_recall (gt_X1_compare))))) inX11) inX1) inX7) inX6) inX8) inX10)
theorem gw_X11_alike : ∀ w ∈ wsV RL 83 RX11 yX11_alike wsX11_alike, w ∈ lw_tbl := gt_a (mem_pos [(4, 177), (4, 178), (4, 179), (1, 1)] rfl) gt_X11_alike
theorem gx_X11_alike : GoodIn (wsV RL 83 RX11 yX11_alike wsX11_alike) (wsV RL 83 RX11 yX11_alike wsX11_alike) := ggi (fun _ h => h) (gs_a (gs_e (by decide +kernel)) gs_X11_alike)
set_option maxRecDepth 100000 in
theorem gto_X12_layAlike : ∀ w ∈ (.code yX12_layAlike cX12_layAlike 3 none :: wsX12_layAlike_own : List Cond), w ∈ lw_tbl := mem_pos [(8, 51), (8, 20), (8, 22), (0, 57), (1, 14), (7, 207), (7, 209), (0, 51), (6, 141), (6, 138), (6, 137), (6, 142), (6, 139), (7, 219), (3, 154), (1, 16), (3, 155), (6, 143), (6, 140), (7, 220), (3, 157), (3, 158)] rfl
theorem gt_X12_layAlike : ∀ w ∈ wsX12_layAlike, w ∈ lw_tbl := gt_c (gto_X12_layAlike _ List.mem_cons_self) (gt_a (gt_a (gt_t gto_X12_layAlike) (gt_a gt_X12_layLeft (gt_X12_laySpansOf))) inX12)
set_option maxRecDepth 100000 in
theorem gto_X12_alike : ∀ w ∈ (.code yX12_alike cX12_alike 3 (some .int) :: wsX12_alike_own : List Cond), w ∈ lw_tbl := mem_pos [(8, 47), (7, 74), (7, 75), (1, 14), (8, 48), (8, 50), (0, 62), (6, 102), (6, 103), (7, 239), (6, 141), (6, 142), (6, 143)] rfl
theorem gt_X12_alike : ∀ w ∈ wsX12_alike, w ∈ lw_tbl := gt_c (gto_X12_alike _ List.mem_cons_self) (gt_a (gt_a (gt_t gto_X12_alike) (gt_a gt_X12_isIn (gt_X12_layAlike))) inX12)
theorem gw_X12_alike : ∀ w ∈ wsV RL 86 RX12 yX12_alike wsX12_alike, w ∈ lw_tbl := gt_a (mem_pos [(8, 44), (8, 45), (8, 46), (1, 14)] rfl) gt_X12_alike
theorem gx_X12_alike : GoodIn (wsV RL 86 RX12 yX12_alike wsX12_alike) (wsV RL 86 RX12 yX12_alike wsX12_alike) := ggi (fun _ h => h) (gs_a (gs_e (by decide +kernel)) gs_X12_alike)
set_option maxRecDepth 100000 in
theorem gt_J7_fill_d0a16 : ∀ w ∈ wsJ7_fill_d0a16, w ∈ lw_tbl := mem_pos [(4, 197)] rfl
set_option maxRecDepth 100000 in
theorem gt_J7_fill_53178 : ∀ w ∈ wsJ7_fill_53178, w ∈ lw_tbl := mem_pos [(1, 201)] rfl
set_option maxRecDepth 100000 in
theorem gto_X1_meansBy : ∀ w ∈ (.code yX1_meansBy cX1_meansBy 5 (some .int) :: wsX1_meansBy_own : List Cond), w ∈ lw_tbl := mem_pos [(4, 194), (4, 195), (4, 196), (1, 8), (4, 198), (1, 200), (2, 33), (2, 34), (2, 31), (1, 208), (1, 203), (1, 213), (1, 217)] rfl
theorem gt_X1_meansBy : ∀ w ∈ wsX1_meansBy, w ∈ lw_tbl := gt_c (gto_X1_meansBy _ List.mem_cons_self) (gt_a (gt_a (gt_a (gt_t gto_X1_meansBy) (gt_a gt_J7_fill_d0a16 (gt_J7_fill_53178))) inX1) inX7)
set_option maxRecDepth 100000 in
theorem gt_X1_distance : ∀ w ∈ wsX1_distance, w ∈ lw_tbl := mem_pos [(4, 202), (2, 34), (2, 33), (4, 203), (4, 112), (1, 16), (4, 113), (4, 204), (4, 115), (4, 116), (2, 37), (2, 39), (2, 41), (2, 43), (2, 45), (2, 47), (2, 49), (2, 51), (2, 53), (2, 55), (2, 57), (2, 59), (2, 61)] rfl
set_option maxRecDepth 100000 in
theorem gto_X11_goes : ∀ w ∈ (.code yX11_goes cX11_goes 3 (some .int) :: wsX11_goes_own : List Cond), w ∈ lw_tbl := mem_pos [(4, 190), (4, 42), (4, 44), (0, 10), (1, 1), (3, 76), (3, 77), (4, 145), (4, 146), (4, 147), (1, 7), (4, 191), (4, 192), (4, 193), (1, 9), (4, 199), (4, 200), (4, 201), (4, 78), (3, 38), (3, 39)] rfl
theorem gt_X11_goes : ∀ w ∈ wsX11_goes, w ∈ lw_tbl := gt_c (gto_X11_goes _ List.mem_cons_self) (gt_a (gt_a (gt_a (gt_a (gt_a (gt_a (gt_a (gt_t gto_X11_goes) (gt_a gt_X11_isDay (gt_a gt_X11_within (gt_a gt_X7_recall (gt_a gt_X1_meansBy (gt_X1_distance)))))) inX11) inX7) inX6) inX8) inX10) inX1)
theorem gw_X11_goes : ∀ w ∈ wsV RL 87 RX11 yX11_goes wsX11_goes, w ∈ lw_tbl := gt_a (mem_pos [(4, 187), (4, 188), (4, 189), (1, 1)] rfl) gt_X11_goes
theorem gx_X11_goes : GoodIn (wsV RL 87 RX11 yX11_goes wsX11_goes) (wsV RL 87 RX11 yX11_goes wsX11_goes) := ggi (fun _ h => h) (gs_a (gs_e (by decide +kernel)) gs_X11_goes)
set_option maxRecDepth 100000 in
theorem gto_X12_layMeans : ∀ w ∈ (.code yX12_layMeans cX12_layMeans 5 none :: wsX12_layMeans_own : List Cond), w ∈ lw_tbl := mem_pos [(8, 59), (8, 20), (8, 22), (0, 57), (1, 14), (8, 28), (8, 30), (0, 59), (7, 207), (7, 209), (0, 51), (6, 144), (6, 145), (6, 138), (6, 137), (6, 139), (6, 140)] rfl
theorem gt_X12_layMeans : ∀ w ∈ wsX12_layMeans, w ∈ lw_tbl := gt_c (gto_X12_layMeans _ List.mem_cons_self) (gt_a (gt_a (gt_t gto_X12_layMeans) (gt_a gt_X12_layLeft (gt_a gt_X12_aimOf (gt_X12_laySpansOf)))) inX12)
set_option maxRecDepth 100000 in
theorem gt_X12_mean : ∀ w ∈ wsX12_mean, w ∈ lw_tbl := mem_pos [(8, 68), (6, 144), (6, 145), (6, 171), (6, 173), (6, 175), (6, 177), (6, 179), (6, 181), (6, 183), (6, 185), (6, 187), (6, 189), (6, 191), (6, 193), (6, 195), (6, 197), (6, 199), (6, 201), (6, 203), (6, 205), (6, 207), (6, 209), (6, 211), (6, 213), (6, 215), (6, 217), (6, 219), (6, 221), (6, 223), (6, 225), (6, 227), (6, 229), (6, 231), (6, 233), (6, 235), (6, 237), (6, 239), (7, 1), (7, 3), (7, 5), (7, 7), (7, 9), (7, 11), (7, 13), (7, 15), (7, 17), (7, 19), (7, 21), (7, 23), (7, 25), (7, 27), (7, 29), (7, 31), (7, 33), (7, 35), (7, 37), (7, 39), (7, 41), (7, 43), (7, 45), (7, 47), (7, 49), (7, 51), (7, 53), (7, 55), (7, 57), (7, 59), (7, 61), (7, 63), (7, 65), (7, 67)] rfl
set_option maxRecDepth 100000 in
theorem gto_X12_apart : ∀ w ∈ (.code yX12_apart cX12_apart 4 (some .int) :: wsX12_apart_own : List Cond), w ∈ lw_tbl := mem_pos [(8, 63), (8, 65), (8, 67), (0, 65), (1, 14), (7, 239), (8, 64), (6, 145), (7, 219), (3, 154), (1, 16), (3, 155), (7, 220), (3, 157), (3, 158)] rfl
theorem gt_X12_apart : ∀ w ∈ wsX12_apart, w ∈ lw_tbl := gt_c (gto_X12_apart _ List.mem_cons_self) (gt_a (gt_a (gt_t gto_X12_apart) (gt_X12_mean)) inX12)
set_option maxRecDepth 100000 in
theorem gto_X12_goes : ∀ w ∈ (.code yX12_goes cX12_goes 3 (some .int) :: wsX12_goes_own : List Cond), w ∈ lw_tbl := mem_pos [(8, 55), (7, 74), (7, 75), (1, 14), (8, 48), (8, 50), (0, 62), (8, 56), (8, 58), (0, 63), (8, 60), (8, 62), (0, 64), (6, 102), (6, 103), (7, 239), (6, 141)] rfl
theorem gt_X12_goes : ∀ w ∈ wsX12_goes, w ∈ lw_tbl := gt_c (gto_X12_goes _ List.mem_cons_self) (gt_a (gt_a (gt_t gto_X12_goes) (gt_a gt_X12_isIn (gt_a gt_X12_layAlike (gt_a gt_X12_layMeans (gt_X12_apart))))) inX12)
theorem gw_X12_goes : ∀ w ∈ wsV RL 90 RX12 yX12_goes wsX12_goes, w ∈ lw_tbl := gt_a (mem_pos [(8, 52), (8, 53), (8, 54), (1, 14)] rfl) gt_X12_goes
theorem gx_X12_goes : GoodIn (wsV RL 90 RX12 yX12_goes wsX12_goes) (wsV RL 90 RX12 yX12_goes wsX12_goes) := ggi (fun _ h => h) (gs_a (gs_e (by decide +kernel)) gs_X12_goes)
set_option maxRecDepth 100000 in
theorem gto_X0_narrowDown : ∀ w ∈ (.code yX0_narrowDown cX0_narrowDown 8 (some .boolean) :: wsX0_narrowDown_own : List Cond), w ∈ lw_tbl := mem_pos [(4, 212), (4, 213), (4, 156), (4, 157), (1, 7), (2, 71), (2, 73), (2, 75), (1, 209), (2, 76), (1, 139), (1, 1), (4, 118), (1, 144), (1, 214), (4, 215), (3, 154), (1, 16), (3, 155), (1, 218), (4, 216), (3, 157), (3, 158), (3, 77)] rfl
theorem gt_X0_narrowDown : ∀ w ∈ wsX0_narrowDown, w ∈ lw_tbl := gt_c (gto_X0_narrowDown _ List.mem_cons_self) (gt_a (gt_a (gt_a (gt_a (gt_a (gt_a (gt_t gto_X0_narrowDown) (gt_a gt_X11_shine (gt_a gt_X11_within (gt_X7_leanOf)))) inX0) inX7) inX6) inX8) inX10)
set_option maxRecDepth 100000 in
theorem gto_X11_could : ∀ w ∈ (.code yX11_could cX11_could 4 (some .int) :: wsX11_could_own : List Cond), w ∈ lw_tbl := mem_pos [(4, 208), (4, 42), (4, 44), (0, 10), (1, 1), (4, 46), (4, 47), (4, 49), (4, 50), (4, 51), (1, 6), (4, 145), (4, 146), (4, 147), (1, 7), (4, 209), (4, 210), (4, 211), (1, 10), (3, 37), (1, 126), (3, 38), (3, 40), (2, 74), (2, 72)] rfl
theorem gt_X11_could : ∀ w ∈ wsX11_could, w ∈ lw_tbl := gt_c (gto_X11_could _ List.mem_cons_self) (gt_a (gt_a (gt_a (gt_a (gt_a (gt_a (gt_a (gt_t gto_X11_could) (gt_a gt_X11_isDay (gt_a gt_X11_isEither (gt_a gt_X6_has (gt_a gt_X7_recall (gt_X0_narrowDown)))))) inX11) inX6) inX0) inX7) inX8) inX10)
theorem gw_X11_could : ∀ w ∈ wsV RL 91 RX11 yX11_could wsX11_could, w ∈ lw_tbl := gt_a (mem_pos [(4, 205), (4, 206), (4, 207), (1, 1)] rfl) gt_X11_could
theorem gx_X11_could : GoodIn (wsV RL 91 RX11 yX11_could wsX11_could) (wsV RL 91 RX11 yX11_could wsX11_could) := ggi (fun _ h => h) (gs_a (gs_e (by decide +kernel)) gs_X11_could)
set_option maxRecDepth 100000 in
theorem gto_X12_could : ∀ w ∈ (.code yX12_could cX12_could 10 (some .int) :: wsX12_could_own : List Cond), w ∈ lw_tbl := mem_pos [(8, 77), (7, 236), (7, 237), (1, 14), (8, 20), (8, 22), (0, 57), (8, 32), (8, 34), (0, 60), (8, 36), (8, 38), (0, 61), (7, 199), (7, 201), (0, 49), (7, 203), (7, 205), (0, 50), (7, 74), (7, 75), (7, 207), (7, 209), (0, 51), (6, 102), (6, 123), (6, 146), (6, 138), (6, 137), (6, 139), (6, 140), (6, 134)] rfl
theorem gt_X12_could : ∀ w ∈ wsX12_could, w ∈ lw_tbl := gt_c (gto_X12_could _ List.mem_cons_self) (gt_a (gt_a (gt_t gto_X12_could) (gt_a gt_X12_shines (gt_a gt_X12_layLeft (gt_a gt_X12_most (gt_a gt_X12_least (gt_a gt_X12_isPart (gt_a gt_X12_isKnown (gt_a gt_X12_isIn (gt_X12_laySpansOf))))))))) inX12)
theorem gw_X12_could : ∀ w ∈ wsV RL 94 RX12 yX12_could wsX12_could, w ∈ lw_tbl := gt_a (mem_pos [(8, 74), (8, 75), (8, 76), (1, 14)] rfl) gt_X12_could
theorem gx_X12_could : GoodIn (wsV RL 94 RX12 yX12_could wsX12_could) (wsV RL 94 RX12 yX12_could wsX12_could) := ggi (fun _ h => h) (gs_a (gs_e (by decide +kernel)) gs_X12_could)
set_option maxRecDepth 100000 in
theorem gto_X0_weigh : ∀ w ∈ (.code yX0_weigh cX0_weigh 8 none :: wsX0_weigh_own : List Cond), w ∈ lw_tbl := mem_pos [(4, 229), (4, 213), (4, 156), (4, 157), (1, 7), (2, 75), (1, 214), (2, 77), (2, 79), (1, 218), (2, 76), (1, 132), (1, 139), (1, 1), (4, 118), (1, 144), (2, 78), (4, 216), (3, 157), (1, 16), (3, 158), (4, 215), (3, 154), (3, 155)] rfl
theorem gt_X0_weigh : ∀ w ∈ wsX0_weigh, w ∈ lw_tbl := gt_c (gto_X0_weigh _ List.mem_cons_self) (gt_a (gt_a (gt_a (gt_a (gt_a (gt_a (gt_t gto_X0_weigh) (gt_a gt_X7_leanOf (gt_X11_shine))) inX0) inX7) inX6) inX8) inX10)
set_option maxRecDepth 100000 in
theorem gt_X0_choose : ∀ w ∈ wsX0_choose, w ∈ lw_tbl := mem_pos [(4, 237), (2, 81), (2, 76), (1, 132), (4, 230), (4, 232), (0, 15), (1, 10), (4, 233), (2, 79), (2, 80), (2, 77), (2, 78), (4, 234), (4, 236), (0, 16), (2, 82), (2, 84), (2, 86), (2, 88), (2, 90), (2, 92), (2, 94), (2, 96), (2, 98), (1, 156), (1, 158), (1, 160), (1, 162), (1, 164), (1, 166), (1, 168), (1, 170), (1, 172), (1, 174), (1, 176), (1, 178), (1, 180), (1, 182), (1, 184), (1, 186), (1, 188)] rfl
set_option maxRecDepth 100000 in
theorem gt_X0_covers : ∀ w ∈ wsX0_covers, w ∈ lw_tbl := mem_pos [(4, 233), (2, 79), (2, 80), (2, 77), (2, 76), (1, 132), (2, 78), (2, 82), (2, 84), (2, 86), (2, 88), (2, 90), (2, 92), (2, 94), (2, 96), (2, 98), (1, 156), (1, 158), (1, 160), (1, 162), (1, 164), (1, 166), (1, 168), (1, 170), (1, 172), (1, 174), (1, 176), (1, 178), (1, 180), (1, 182), (1, 184), (1, 186), (1, 188)] rfl
set_option maxRecDepth 100000 in
theorem gto_X0_fewest : ∀ w ∈ (.code yX0_fewest cX0_fewest 2 (some .int) :: wsX0_fewest_own : List Cond), w ∈ lw_tbl := mem_pos [(4, 225), (4, 226), (4, 228), (0, 14), (1, 10), (4, 234), (4, 236), (0, 16), (4, 230), (4, 232), (0, 15), (2, 79), (2, 80), (2, 75), (1, 209), (1, 214), (1, 218), (2, 76), (1, 132), (2, 81)] rfl
theorem gt_X0_fewest : ∀ w ∈ wsX0_fewest, w ∈ lw_tbl := gt_c (gto_X0_fewest _ List.mem_cons_self) (gt_a (gt_a (gt_a (gt_a (gt_a (gt_a (gt_t gto_X0_fewest) (gt_a gt_X0_weigh (gt_a gt_X0_choose (gt_X0_covers)))) inX0) inX7) inX6) inX8) inX10)
set_option maxRecDepth 100000 in
theorem gto_X11_sets : ∀ w ∈ (.code yX11_sets cX11_sets 2 (some .int) :: wsX11_sets_own : List Cond), w ∈ lw_tbl := mem_pos [(4, 221), (4, 42), (4, 44), (0, 10), (1, 1), (4, 145), (4, 146), (4, 147), (1, 7), (4, 222), (4, 223), (4, 224), (1, 10), (3, 38), (3, 40)] rfl
theorem gt_X11_sets : ∀ w ∈ wsX11_sets, w ∈ lw_tbl := gt_c (gto_X11_sets _ List.mem_cons_self) (gt_a (gt_a (gt_a (gt_a (gt_a (gt_a (gt_a (gt_t gto_X11_sets) (gt_a gt_X11_isDay (gt_a gt_X7_recall (gt_X0_fewest)))) inX11) inX7) inX6) inX8) inX10) inX0)
theorem gw_X11_sets : ∀ w ∈ wsV RL 95 RX11 yX11_sets wsX11_sets, w ∈ lw_tbl := gt_a (mem_pos [(4, 218), (4, 219), (4, 220), (1, 1)] rfl) gt_X11_sets
theorem gx_X11_sets : GoodIn (wsV RL 95 RX11 yX11_sets wsX11_sets) (wsV RL 95 RX11 yX11_sets wsX11_sets) := ggi (fun _ h => h) (gs_a (gs_e (by decide +kernel)) gs_X11_sets)
set_option maxRecDepth 100000 in
theorem gt_J6_bitCount_0f7a4 : ∀ w ∈ wsJ6_bitCount_0f7a4, w ∈ lw_tbl := mem_pos [(8, 87), (8, 88), (8, 89), (8, 90)] rfl
set_option maxRecDepth 100000 in
theorem gto_X12_isBetter : ∀ w ∈ (.code yX12_isBetter cX12_isBetter 3 (some .boolean) :: wsX12_isBetter_own : List Cond), w ∈ lw_tbl := mem_pos [(8, 84), (8, 85), (8, 86), (1, 26)] rfl
theorem gt_X12_isBetter : ∀ w ∈ wsX12_isBetter, w ∈ lw_tbl := gt_c (gto_X12_isBetter _ List.mem_cons_self) (gt_a (gt_t gto_X12_isBetter) (gt_J6_bitCount_0f7a4))
set_option maxRecDepth 100000 in
theorem gt_X12_isSet : ∀ w ∈ wsX12_isSet, w ∈ lw_tbl := mem_pos [(8, 94), (6, 138), (6, 137), (6, 136), (6, 131), (6, 123), (6, 150), (6, 148), (6, 149), (6, 147), (6, 171), (6, 173), (6, 175), (6, 177), (6, 179), (6, 181), (6, 183), (6, 185), (6, 187), (6, 189), (6, 191), (6, 193), (6, 195), (6, 197), (6, 199), (6, 201), (6, 203), (6, 205), (6, 207), (6, 209), (6, 211), (6, 213), (6, 215), (6, 217), (6, 219), (6, 221), (6, 223), (6, 225), (6, 227), (6, 229), (6, 231), (6, 233), (6, 235), (6, 237), (6, 239), (7, 1), (7, 3), (7, 5), (7, 7), (7, 9), (7, 11), (7, 13), (7, 15), (7, 17), (7, 19), (7, 21), (7, 23), (7, 25), (7, 27), (7, 29), (7, 31), (7, 33), (7, 35), (7, 37), (7, 39), (7, 41), (7, 43), (7, 45), (7, 47), (7, 49), (7, 51), (7, 53), (7, 55), (7, 57), (7, 59), (7, 61), (7, 63), (7, 65), (7, 67)] rfl
set_option maxRecDepth 100000 in
theorem gto_X12_sets : ∀ w ∈ (.code yX12_sets cX12_sets 5 (some .int) :: wsX12_sets_own : List Cond), w ∈ lw_tbl := mem_pos [(8, 81), (8, 36), (8, 38), (0, 61), (1, 14), (8, 32), (8, 34), (0, 60), (7, 236), (7, 237), (8, 24), (8, 26), (0, 58), (8, 82), (8, 83), (8, 91), (8, 93), (0, 66), (7, 74), (7, 75), (7, 207), (7, 209), (0, 51), (6, 102), (6, 103), (6, 131), (6, 123), (6, 138), (6, 137), (6, 147), (6, 148), (6, 149), (6, 134), (7, 220), (3, 157), (1, 16), (3, 158), (6, 150), (7, 219), (3, 154), (3, 155)] rfl
theorem gt_X12_sets : ∀ w ∈ wsX12_sets, w ∈ lw_tbl := gt_c (gto_X12_sets _ List.mem_cons_self) (gt_a (gt_a (gt_t gto_X12_sets) (gt_a gt_X12_least (gt_a gt_X12_most (gt_a gt_X12_shines (gt_a gt_X12_layWorthsOf (gt_a gt_X12_isBetter (gt_a gt_X12_isSet (gt_a gt_X12_isIn (gt_X12_laySpansOf))))))))) inX12)
theorem gw_X12_sets : ∀ w ∈ wsV RL 98 RX12 yX12_sets wsX12_sets, w ∈ lw_tbl := gt_a (mem_pos [(8, 78), (8, 79), (8, 80), (1, 14)] rfl) gt_X12_sets
theorem gx_X12_sets : GoodIn (wsV RL 98 RX12 yX12_sets wsX12_sets) (wsV RL 98 RX12 yX12_sets wsX12_sets) := ggi (fun _ h => h) (gs_a (gs_e (by decide +kernel)) gs_X12_sets)
set_option maxRecDepth 100000 in
theorem gt_X3_add : ∀ w ∈ wsX3_add, w ∈ lw_tbl := mem_pos [(5, 5), (2, 107), (2, 113), (2, 114), (2, 115), (2, 116), (2, 117), (2, 129), (2, 131), (2, 133), (2, 135), (2, 137), (2, 139), (2, 141), (2, 143), (2, 145), (2, 147), (2, 149), (2, 151), (2, 153), (2, 155), (2, 157), (2, 159), (2, 161), (2, 163), (2, 165)] rfl
set_option maxRecDepth 100000 in
theorem gto_X11_look : ∀ w ∈ (.code yX11_look cX11_look 6 (some .int) :: wsX11_look_own : List Cond), w ∈ lw_tbl := mem_pos [(5, 1), (5, 2), (5, 3), (5, 4), (1, 11), (4, 49), (4, 50), (4, 51), (1, 6), (4, 31), (4, 32), (1, 1), (3, 76), (3, 77), (3, 37), (3, 41), (2, 108)] rfl
theorem gt_X11_look : ∀ w ∈ wsX11_look, w ∈ lw_tbl := gt_c (gto_X11_look _ List.mem_cons_self) (gt_a (gt_a (gt_a (gt_a (gt_t gto_X11_look) (gt_a gt_X3_add (gt_a gt_X6_has (gt_a gt_X11_isLoudness (gt_X11_within))))) inX11) inX3) inX6)
theorem gw_X11_look : ∀ w ∈ wsV RL 99 RX11 yX11_look wsX11_look, w ∈ lw_tbl := gt_a (mem_pos [(4, 238), (4, 239), (5, 0), (1, 1)] rfl) gt_X11_look
theorem gx_X11_look : GoodIn (wsV RL 99 RX11 yX11_look wsX11_look) (wsV RL 99 RX11 yX11_look wsX11_look) := ggi (fun _ h => h) (gs_a (gs_e (by decide +kernel)) gs_X11_look)
set_option maxRecDepth 100000 in
theorem gto_X12_look_ : ∀ w ∈ (.code yX12_look_ cX12_look_ 5 (some .int) :: wsX12_look__own : List Cond), w ∈ lw_tbl := mem_pos [(8, 98), (7, 199), (7, 201), (0, 49), (1, 14), (7, 192), (7, 193), (7, 74), (7, 75), (6, 102), (6, 156), (6, 151), (6, 152), (6, 153), (6, 154), (6, 155)] rfl
theorem gt_X12_look_ : ∀ w ∈ wsX12_look_, w ∈ lw_tbl := gt_c (gto_X12_look_ _ List.mem_cons_self) (gt_a (gt_a (gt_t gto_X12_look_) (gt_a gt_X12_isPart (gt_a gt_X12_isSpan (gt_X12_isIn)))) inX12)
theorem gw_X12_look_ : ∀ w ∈ wsV RL 102 RX12 yX12_look_ wsX12_look_, w ∈ lw_tbl := gt_a (mem_pos [(8, 95), (8, 96), (8, 97), (1, 14)] rfl) gt_X12_look_
theorem gx_X12_look_ : GoodIn (wsV RL 102 RX12 yX12_look_ wsX12_look_) (wsV RL 102 RX12 yX12_look_ wsX12_look_) := ggi (fun _ h => h) (gs_a (gs_e (by decide +kernel)) gs_X12_look_)
set_option maxRecDepth 100000 in
theorem gt_X3_has : ∀ w ∈ wsX3_has, w ∈ lw_tbl := mem_pos [(5, 13), (2, 107), (2, 129), (2, 131), (2, 133), (2, 135), (2, 137), (2, 139), (2, 141), (2, 143), (2, 145), (2, 147), (2, 149), (2, 151), (2, 153), (2, 155), (2, 157), (2, 159), (2, 161), (2, 163), (2, 165)] rfl
set_option maxRecDepth 100000 in
theorem gt_X3_isDone : ∀ w ∈ wsX3_isDone, w ∈ lw_tbl := mem_pos [(5, 17), (2, 117), (2, 129), (2, 131), (2, 133), (2, 135), (2, 137), (2, 139), (2, 141), (2, 143), (2, 145), (2, 147), (2, 149), (2, 151), (2, 153), (2, 155), (2, 157), (2, 159), (2, 161), (2, 163), (2, 165)] rfl
set_option maxRecDepth 100000 in
theorem gt_X6_change : ∀ w ∈ wsX6_change, w ∈ lw_tbl := mem_pos [(5, 26), (1, 155), (1, 150), (1, 151), (1, 152), (1, 153), (1, 154), (1, 156), (1, 158), (1, 160), (1, 162), (1, 164), (1, 166), (1, 168), (1, 170), (1, 172), (1, 174), (1, 176), (1, 178), (1, 180), (1, 182), (1, 184), (1, 186), (1, 188)] rfl
set_option maxRecDepth 100000 in
theorem gto_X3_carryOut : ∀ w ∈ (.code yX3_carryOut cX3_carryOut 4 none :: wsX3_carryOut_own : List Cond), w ∈ lw_tbl := mem_pos [(5, 21), (5, 22), (4, 54), (4, 55), (1, 6), (5, 23), (5, 24), (5, 25), (2, 113), (2, 125), (2, 118), (1, 140), (2, 119), (1, 145), (2, 114), (2, 115), (2, 120), (2, 121), (2, 117)] rfl
theorem gt_X3_carryOut : ∀ w ∈ wsX3_carryOut, w ∈ lw_tbl := gt_c (gto_X3_carryOut _ List.mem_cons_self) (gt_a (gt_a (gt_a (gt_t gto_X3_carryOut) (gt_a gt_X6_recall (gt_X6_change))) inX3) inX6)
set_option maxRecDepth 100000 in
theorem gto_X11_done : ∀ w ∈ (.code yX11_done cX11_done 2 (some .boolean) :: wsX11_done_own : List Cond), w ∈ lw_tbl := mem_pos [(5, 9), (5, 10), (5, 11), (5, 12), (1, 11), (5, 14), (5, 15), (5, 16), (5, 18), (5, 19), (5, 20), (3, 41), (3, 44)] rfl
theorem gt_X11_done : ∀ w ∈ wsX11_done, w ∈ lw_tbl := gt_c (gto_X11_done _ List.mem_cons_self) (gt_a (gt_a (gt_a (gt_a (gt_t gto_X11_done) (gt_a gt_X3_has (gt_a gt_X3_isDone (gt_X3_carryOut)))) inX11) inX3) inX6)
theorem gw_X11_done : ∀ w ∈ wsV RL 103 RX11 yX11_done wsX11_done, w ∈ lw_tbl := gt_a (mem_pos [(5, 6), (5, 7), (5, 8), (1, 1)] rfl) gt_X11_done
theorem gx_X11_done : GoodIn (wsV RL 103 RX11 yX11_done wsX11_done) (wsV RL 103 RX11 yX11_done wsX11_done) := ggi (fun _ h => h) (gs_a (gs_e (by decide +kernel)) gs_X11_done)
set_option maxRecDepth 100000 in
theorem gt_X12_isLook : ∀ w ∈ wsX12_isLook, w ∈ lw_tbl := mem_pos [(8, 106), (6, 156), (6, 171), (6, 173), (6, 175), (6, 177), (6, 179), (6, 181), (6, 183), (6, 185), (6, 187), (6, 189), (6, 191), (6, 193), (6, 195), (6, 197), (6, 199), (6, 201), (6, 203), (6, 205), (6, 207), (6, 209), (6, 211), (6, 213), (6, 215), (6, 217), (6, 219), (6, 221), (6, 223), (6, 225), (6, 227), (6, 229), (6, 231), (6, 233), (6, 235), (6, 237), (6, 239), (7, 1), (7, 3), (7, 5), (7, 7), (7, 9), (7, 11), (7, 13), (7, 15), (7, 17), (7, 19), (7, 21), (7, 23), (7, 25), (7, 27), (7, 29), (7, 31), (7, 33), (7, 35), (7, 37), (7, 39), (7, 41), (7, 43), (7, 45), (7, 47), (7, 49), (7, 51), (7, 53), (7, 55), (7, 57), (7, 59), (7, 61), (7, 63), (7, 65), (7, 67)] rfl
set_option maxRecDepth 100000 in
theorem gt_X12_happens : ∀ w ∈ wsX12_happens, w ∈ lw_tbl := mem_pos [(8, 110), (6, 124), (6, 132), (6, 125), (6, 126), (6, 127), (6, 128), (6, 103), (6, 171), (6, 173), (6, 175), (6, 177), (6, 179), (6, 181), (6, 183), (6, 185), (6, 187), (6, 189), (6, 191), (6, 193), (6, 195), (6, 197), (6, 199), (6, 201), (6, 203), (6, 205), (6, 207), (6, 209), (6, 211), (6, 213), (6, 215), (6, 217), (6, 219), (6, 221), (6, 223), (6, 225), (6, 227), (6, 229), (6, 231), (6, 233), (6, 235), (6, 237), (6, 239), (7, 1), (7, 3), (7, 5), (7, 7), (7, 9), (7, 11), (7, 13), (7, 15), (7, 17), (7, 19), (7, 21), (7, 23), (7, 25), (7, 27), (7, 29), (7, 31), (7, 33), (7, 35), (7, 37), (7, 39), (7, 41), (7, 43), (7, 45), (7, 47), (7, 49), (7, 51), (7, 53), (7, 55), (7, 57), (7, 59), (7, 61), (7, 63), (7, 65), (7, 67)] rfl
set_option maxRecDepth 100000 in
theorem gto_X12_done : ∀ w ∈ (.code yX12_done cX12_done 2 (some .boolean) :: wsX12_done_own : List Cond), w ∈ lw_tbl := mem_pos [(8, 102), (8, 103), (8, 105), (0, 67), (1, 14), (8, 107), (8, 109), (0, 68), (6, 102), (6, 155), (6, 132), (6, 151), (6, 152), (6, 153)] rfl
theorem gt_X12_done : ∀ w ∈ wsX12_done, w ∈ lw_tbl := gt_c (gto_X12_done _ List.mem_cons_self) (gt_a (gt_a (gt_t gto_X12_done) (gt_a gt_X12_isLook (gt_X12_happens))) inX12)
theorem gw_X12_done : ∀ w ∈ wsV RL 106 RX12 yX12_done wsX12_done, w ∈ lw_tbl := gt_a (mem_pos [(8, 99), (8, 100), (8, 101), (1, 14)] rfl) gt_X12_done
theorem gx_X12_done : GoodIn (wsV RL 106 RX12 yX12_done wsX12_done) (wsV RL 106 RX12 yX12_done wsX12_done) := ggi (fun _ h => h) (gs_a (gs_e (by decide +kernel)) gs_X12_done)
set_option maxRecDepth 100000 in
theorem gto_X11_clean : ∀ w ∈ (.code yX11_clean cX11_clean 6 (some .boolean) :: wsX11_clean_own : List Cond), w ∈ lw_tbl := mem_pos [(5, 30), (5, 31), (5, 24), (5, 25), (1, 6), (4, 49), (4, 50), (4, 51), (4, 31), (4, 32), (1, 1), (3, 76), (3, 77), (3, 37), (1, 131), (1, 128), (3, 44)] rfl
theorem gt_X11_clean : ∀ w ∈ wsX11_clean, w ∈ lw_tbl := gt_c (gto_X11_clean _ List.mem_cons_self) (gt_a (gt_a (gt_a (gt_t gto_X11_clean) (gt_a gt_X6_change (gt_a gt_X6_has (gt_a gt_X11_isLoudness (gt_X11_within))))) inX11) inX6)
theorem gw_X11_clean : ∀ w ∈ wsV RL 107 RX11 yX11_clean wsX11_clean, w ∈ lw_tbl := gt_a (mem_pos [(5, 27), (5, 28), (5, 29), (1, 1)] rfl) gt_X11_clean
theorem gx_X11_clean : GoodIn (wsV RL 107 RX11 yX11_clean wsX11_clean) (wsV RL 107 RX11 yX11_clean wsX11_clean) := ggi (fun _ h => h) (gs_a (gs_e (by decide +kernel)) gs_X11_clean)
set_option maxRecDepth 100000 in
theorem gto_X12_clean : ∀ w ∈ (.code yX12_clean cX12_clean 5 (some .boolean) :: wsX12_clean_own : List Cond), w ∈ lw_tbl := mem_pos [(8, 114), (7, 199), (7, 201), (0, 49), (1, 14), (7, 192), (7, 193), (7, 74), (7, 75), (8, 107), (8, 109), (0, 68), (6, 102), (6, 133), (6, 122)] rfl
theorem gt_X12_clean : ∀ w ∈ wsX12_clean, w ∈ lw_tbl := gt_c (gto_X12_clean _ List.mem_cons_self) (gt_a (gt_a (gt_t gto_X12_clean) (gt_a gt_X12_isPart (gt_a gt_X12_isSpan (gt_a gt_X12_isIn (gt_X12_happens))))) inX12)
theorem gw_X12_clean : ∀ w ∈ wsV RL 111 RX12 yX12_clean wsX12_clean, w ∈ lw_tbl := gt_a (mem_pos [(8, 111), (8, 112), (8, 113), (1, 14)] rfl) gt_X12_clean
theorem gx_X12_clean : GoodIn (wsV RL 111 RX12 yX12_clean wsX12_clean) (wsV RL 111 RX12 yX12_clean wsX12_clean) := ggi (fun _ h => h) (gs_a (gs_e (by decide +kernel)) gs_X12_clean)
set_option maxRecDepth 100000 in
theorem gto_X3_gain : ∀ w ∈ (.code yX3_gain cX3_gain 4 (some .int) :: wsX3_gain_own : List Cond), w ∈ lw_tbl := mem_pos [(5, 39), (5, 40), (4, 156), (4, 157), (1, 7), (2, 124), (2, 113), (2, 118), (2, 119), (1, 1), (4, 172), (2, 120), (2, 121)] rfl
theorem gt_X3_gain : ∀ w ∈ wsX3_gain, w ∈ lw_tbl := gt_c (gto_X3_gain _ List.mem_cons_self) (gt_a (gt_a (gt_a (gt_a (gt_a (gt_a (gt_t gto_X3_gain) (gt_a gt_X7_leanOf (gt_X11_spread))) inX3) inX7) inX6) inX8) inX10)
set_option maxRecDepth 100000 in
theorem gto_X11_narrows : ∀ w ∈ (.code yX11_narrows cX11_narrows 3 (some .int) :: wsX11_narrows_own : List Cond), w ∈ lw_tbl := mem_pos [(5, 35), (5, 10), (5, 11), (5, 12), (1, 11), (5, 14), (5, 15), (5, 16), (4, 141), (4, 142), (4, 143), (1, 7), (5, 36), (5, 37), (5, 38), (3, 41), (4, 78), (3, 38)] rfl
theorem gt_X11_narrows : ∀ w ∈ wsX11_narrows, w ∈ lw_tbl := gt_c (gto_X11_narrows _ List.mem_cons_self) (gt_a (gt_a (gt_a (gt_a (gt_a (gt_a (gt_a (gt_t gto_X11_narrows) (gt_a gt_X3_has (gt_a gt_X3_isDone (gt_a gt_X7_has (gt_X3_gain))))) inX11) inX3) inX7) inX6) inX8) inX10)
theorem gw_X11_narrows : ∀ w ∈ wsV RL 112 RX11 yX11_narrows wsX11_narrows, w ∈ lw_tbl := gt_a (mem_pos [(5, 32), (5, 33), (5, 34), (1, 1)] rfl) gt_X11_narrows
theorem gx_X11_narrows : GoodIn (wsV RL 112 RX11 yX11_narrows wsX11_narrows) (wsV RL 112 RX11 yX11_narrows wsX11_narrows) := ggi (fun _ h => h) (gs_a (gs_e (by decide +kernel)) gs_X11_narrows)
set_option maxRecDepth 100000 in
theorem gto_X12_wide : ∀ w ∈ (.code yX12_wide cX12_wide 2 (some .int) :: wsX12_wide_own : List Cond), w ∈ lw_tbl := mem_pos [(8, 126), (8, 20), (8, 22), (0, 57), (1, 14), (6, 103), (6, 140), (6, 139)] rfl
theorem gt_X12_wide : ∀ w ∈ wsX12_wide, w ∈ lw_tbl := gt_c (gto_X12_wide _ List.mem_cons_self) (gt_a (gt_a (gt_t gto_X12_wide) (gt_X12_layLeft)) inX12)
set_option maxRecDepth 100000 in
theorem gto_X12_wideBy : ∀ w ∈ (.code yX12_wideBy cX12_wideBy 6 (some .int) :: wsX12_wideBy_own : List Cond), w ∈ lw_tbl := mem_pos [(8, 122), (7, 211), (7, 213), (0, 52), (1, 14), (8, 123), (8, 125), (0, 70), (6, 129), (6, 130), (6, 132)] rfl
theorem gt_X12_wideBy : ∀ w ∈ wsX12_wideBy, w ∈ lw_tbl := gt_c (gto_X12_wideBy _ List.mem_cons_self) (gt_a (gt_a (gt_t gto_X12_wideBy) (gt_a gt_X12_laySpans (gt_X12_wide))) inX12)
set_option maxRecDepth 100000 in
theorem gto_X12_narrows : ∀ w ∈ (.code yX12_narrows cX12_narrows 3 (some .int) :: wsX12_narrows_own : List Cond), w ∈ lw_tbl := mem_pos [(8, 118), (8, 103), (8, 105), (0, 67), (1, 14), (8, 16), (8, 18), (0, 56), (8, 119), (8, 121), (0, 69), (6, 102), (7, 239), (6, 155), (6, 151)] rfl
theorem gt_X12_narrows : ∀ w ∈ wsX12_narrows, w ∈ lw_tbl := gt_c (gto_X12_narrows _ List.mem_cons_self) (gt_a (gt_a (gt_t gto_X12_narrows) (gt_a gt_X12_isLook (gt_a gt_X12_isReading (gt_X12_wideBy)))) inX12)
theorem gw_X12_narrows : ∀ w ∈ wsV RL 115 RX12 yX12_narrows wsX12_narrows, w ∈ lw_tbl := gt_a (mem_pos [(8, 115), (8, 116), (8, 117), (1, 14)] rfl) gt_X12_narrows
theorem gx_X12_narrows : GoodIn (wsV RL 115 RX12 yX12_narrows wsX12_narrows) (wsV RL 115 RX12 yX12_narrows wsX12_narrows) := ggi (fun _ h => h) (gs_a (gs_e (by decide +kernel)) gs_X12_narrows)
set_option maxRecDepth 100000 in
theorem gto_X3_idle : ∀ w ∈ (.code yX3_idle cX3_idle 3 (some .int) :: wsX3_idle_own : List Cond), w ∈ lw_tbl := mem_pos [(5, 49), (5, 50), (5, 15), (5, 16), (1, 11), (2, 107), (2, 118), (2, 120), (2, 119), (2, 121)] rfl
theorem gt_X3_idle : ∀ w ∈ wsX3_idle, w ∈ lw_tbl := gt_c (gto_X3_idle _ List.mem_cons_self) (gt_a (gt_a (gt_t gto_X3_idle) (gt_X3_isDone)) inX3)
set_option maxRecDepth 100000 in
theorem gto_X11_nothing : ∀ w ∈ (.code yX11_nothing cX11_nothing 1 (some .int) :: wsX11_nothing_own : List Cond), w ∈ lw_tbl := mem_pos [(5, 45), (5, 46), (5, 47), (5, 48), (1, 11), (3, 41)] rfl
theorem gt_X11_nothing : ∀ w ∈ wsX11_nothing, w ∈ lw_tbl := gt_c (gto_X11_nothing _ List.mem_cons_self) (gt_a (gt_a (gt_a (gt_t gto_X11_nothing) (gt_X3_idle)) inX11) inX3)
theorem gw_X11_nothing : ∀ w ∈ wsV RL 116 RX11 yX11_nothing wsX11_nothing, w ∈ lw_tbl := gt_a (mem_pos [(5, 42), (5, 43), (5, 44), (1, 1)] rfl) gt_X11_nothing
theorem gx_X11_nothing : GoodIn (wsV RL 116 RX11 yX11_nothing wsX11_nothing) (wsV RL 116 RX11 yX11_nothing wsX11_nothing) := ggi (fun _ h => h) (gs_a (gs_e (by decide +kernel)) gs_X11_nothing)
set_option maxRecDepth 100000 in
theorem gto_X12_nothing : ∀ w ∈ (.code yX12_nothing cX12_nothing 5 (some .int) :: wsX12_nothing_own : List Cond), w ∈ lw_tbl := mem_pos [(8, 130), (7, 211), (7, 213), (0, 52), (1, 14), (7, 215), (7, 217), (0, 53), (6, 102), (6, 156), (6, 155), (6, 129), (6, 151), (6, 130), (6, 152), (6, 153)] rfl
theorem gt_X12_nothing : ∀ w ∈ wsX12_nothing, w ∈ lw_tbl := gt_c (gto_X12_nothing _ List.mem_cons_self) (gt_a (gt_a (gt_t gto_X12_nothing) (gt_a gt_X12_laySpans (gt_X12_cutDown))) inX12)
theorem gw_X12_nothing : ∀ w ∈ wsV RL 120 RX12 yX12_nothing wsX12_nothing, w ∈ lw_tbl := gt_a (mem_pos [(8, 127), (8, 128), (8, 129), (1, 14)] rfl) gt_X12_nothing
theorem gx_X12_nothing : GoodIn (wsV RL 120 RX12 yX12_nothing wsX12_nothing) (wsV RL 120 RX12 yX12_nothing wsX12_nothing) := ggi (fun _ h => h) (gs_a (gs_e (by decide +kernel)) gs_X12_nothing)
set_option maxRecDepth 100000 in
theorem gt_X3_rowSpread : ∀ w ∈ wsX3_rowSpread, w ∈ lw_tbl := mem_pos [(5, 62), (2, 122), (2, 123), (2, 124), (2, 126), (5, 40), (4, 156), (4, 157), (1, 7), (4, 158), (1, 225), (1, 123), (1, 221), (1, 198), (1, 202), (1, 224), (1, 99), (4, 136), (4, 9), (4, 8), (1, 21), (4, 159), (4, 95), (4, 96), (1, 4), (4, 97), (1, 97), (1, 98), (1, 100), (4, 98), (4, 28), (4, 29), (4, 30), (1, 101), (4, 99), (4, 100), (4, 101), (1, 20), (4, 102), (4, 14), (4, 103), (4, 104), (4, 105), (4, 106), (4, 107), (4, 108), (4, 109), (4, 110), (4, 111), (4, 112), (1, 16), (4, 113), (4, 114), (4, 115), (4, 116), (4, 172), (1, 1), (4, 173), (4, 174), (4, 175), (4, 176), (4, 117), (4, 118), (4, 119), (2, 129), (2, 131), (2, 133), (2, 135), (2, 137), (2, 139), (2, 141), (2, 143), (2, 145), (2, 147), (2, 149), (2, 151), (2, 153), (2, 155), (2, 157), (2, 159), (2, 161), (2, 163), (2, 165), (1, 226), (1, 228), (1, 230), (1, 232), (1, 234), (1, 236), (1, 238), (2, 0), (2, 2), (2, 4), (2, 6), (2, 8), (1, 156), (1, 158), (1, 160), (1, 162), (1, 164), (1, 166), (1, 168), (1, 170), (1, 172), (1, 174), (1, 176), (1, 178), (1, 180), (1, 182), (1, 184), (1, 186), (1, 188), (1, 103), (1, 105), (1, 107), (1, 109), (1, 111), (4, 15)] rfl
set_option maxRecDepth 100000 in
theorem gto_X3_startRow : ∀ w ∈ (.code yX3_startRow cX3_startRow 4 none :: wsX3_startRow_own : List Cond), w ∈ lw_tbl := mem_pos [(5, 58), (5, 59), (5, 61), (0, 17), (1, 11), (5, 22), (4, 54), (4, 55), (1, 6), (2, 125), (2, 126), (2, 127), (1, 135), (2, 122), (1, 140), (2, 123), (1, 145)] rfl
theorem gt_X3_startRow : ∀ w ∈ wsX3_startRow, w ∈ lw_tbl := gt_c (gto_X3_startRow _ List.mem_cons_self) (gt_a (gt_a (gt_a (gt_a (gt_a (gt_a (gt_t gto_X3_startRow) (gt_a gt_X3_rowSpread (gt_X6_recall))) inX3) inX6) inX7) inX8) inX10)
set_option maxRecDepth 100000 in
theorem gt_X3_choose : ∀ w ∈ wsX3_choose, w ∈ lw_tbl := mem_pos [(5, 70), (2, 107), (2, 111), (2, 128), (2, 109), (2, 116), (2, 113), (2, 122), (2, 123), (5, 50), (5, 15), (5, 16), (1, 11), (5, 17), (2, 117), (5, 59), (5, 61), (0, 17), (5, 62), (2, 124), (2, 126), (5, 40), (4, 156), (4, 157), (1, 7), (4, 158), (1, 225), (1, 123), (1, 221), (1, 198), (1, 202), (1, 224), (1, 99), (4, 136), (4, 9), (4, 8), (1, 21), (4, 159), (4, 95), (4, 96), (1, 4), (4, 97), (1, 97), (1, 98), (1, 100), (4, 98), (4, 28), (4, 29), (4, 30), (1, 101), (4, 99), (4, 100), (4, 101), (1, 20), (4, 102), (4, 14), (4, 103), (4, 104), (4, 105), (4, 106), (4, 107), (4, 108), (4, 109), (4, 110), (4, 111), (4, 112), (1, 16), (4, 113), (4, 114), (4, 115), (4, 116), (4, 172), (1, 1), (4, 173), (4, 174), (4, 175), (4, 176), (4, 117), (4, 118), (4, 119), (5, 71), (5, 73), (0, 19), (5, 74), (2, 114), (2, 115), (5, 76), (3, 154), (3, 155), (5, 77), (3, 157), (3, 158), (5, 75), (4, 67), (1, 6), (4, 68), (5, 67), (5, 69), (0, 18), (2, 129), (2, 131), (2, 133), (2, 135), (2, 137), (2, 139), (2, 141), (2, 143), (2, 145), (2, 147), (2, 149), (2, 151), (2, 153), (2, 155), (2, 157), (2, 159), (2, 161), (2, 163), (2, 165), (1, 226), (1, 228), (1, 230), (1, 232), (1, 234), (1, 236), (1, 238), (2, 0), (2, 2), (2, 4), (2, 6), (2, 8), (1, 156), (1, 158), (1, 160), (1, 162), (1, 164), (1, 166), (1, 168), (1, 170), (1, 172), (1, 174), (1, 176), (1, 178), (1, 180), (1, 182), (1, 184), (1, 186), (1, 188), (1, 103), (1, 105), (1, 107), (1, 109), (1, 111), (4, 15)] rfl
set_option maxRecDepth 100000 in
theorem gto_X3_search : ∀ w ∈ (.code yX3_search cX3_search 2 none :: wsX3_search_own : List Cond), w ∈ lw_tbl := mem_pos [(5, 66), (5, 67), (5, 69), (0, 18), (1, 11), (2, 127), (2, 111), (2, 128), (2, 109)] rfl
theorem gt_X3_search : ∀ w ∈ wsX3_search, w ∈ lw_tbl := gt_c (gto_X3_search _ List.mem_cons_self) (gt_a (gt_a (gt_a (gt_a (gt_a (gt_a (gt_t gto_X3_search) (gt_X3_choose)) inX3) inX7) inX6) inX8) inX10)
set_option maxRecDepth 100000 in
theorem gto_X11_plan : ∀ w ∈ (.code yX11_plan cX11_plan 4 (some .int) :: wsX11_plan_own : List Cond), w ∈ lw_tbl := mem_pos [(5, 54), (4, 141), (4, 142), (4, 143), (1, 7), (3, 76), (3, 77), (1, 1), (4, 46), (4, 47), (5, 55), (5, 56), (5, 57), (1, 11), (5, 63), (5, 64), (5, 65), (3, 38), (3, 41), (3, 44), (2, 112), (2, 110)] rfl
theorem gt_X11_plan : ∀ w ∈ wsX11_plan, w ∈ lw_tbl := gt_c (gto_X11_plan _ List.mem_cons_self) (gt_a (gt_a (gt_a (gt_a (gt_a (gt_a (gt_a (gt_t gto_X11_plan) (gt_a gt_X7_has (gt_a gt_X11_within (gt_a gt_X11_isEither (gt_a gt_X3_startRow (gt_X3_search)))))) inX11) inX3) inX7) inX6) inX8) inX10)
theorem gw_X11_plan : ∀ w ∈ wsV RL 121 RX11 yX11_plan wsX11_plan, w ∈ lw_tbl := gt_a (mem_pos [(5, 51), (5, 52), (5, 53), (1, 1)] rfl) gt_X11_plan
theorem gx_X11_plan : GoodIn (wsV RL 121 RX11 yX11_plan wsX11_plan) (wsV RL 121 RX11 yX11_plan wsX11_plan) := ggi (fun _ h => h) (gs_a (gs_e (by decide +kernel)) gs_X11_plan)
set_option maxRecDepth 100000 in
theorem gto_X12_judged : ∀ w ∈ (.code yX12_judged cX12_judged 4 (some .int) :: wsX12_judged_own : List Cond), w ∈ lw_tbl := mem_pos [(8, 142), (7, 215), (7, 217), (0, 53), (1, 14), (8, 123), (8, 125), (0, 70), (7, 211), (7, 213), (0, 52), (6, 132), (6, 156), (6, 151), (6, 152), (6, 153)] rfl
theorem gt_X12_judged : ∀ w ∈ wsX12_judged, w ∈ lw_tbl := gt_c (gto_X12_judged _ List.mem_cons_self) (gt_a (gt_a (gt_t gto_X12_judged) (gt_a gt_X12_cutDown (gt_a gt_X12_wide (gt_X12_laySpans)))) inX12)
set_option maxRecDepth 100000 in
theorem gt_X12_isRow : ∀ w ∈ wsX12_isRow, w ∈ lw_tbl := mem_pos [(8, 138), (6, 156), (6, 155), (6, 171), (6, 173), (6, 175), (6, 177), (6, 179), (6, 181), (6, 183), (6, 185), (6, 187), (6, 189), (6, 191), (6, 193), (6, 195), (6, 197), (6, 199), (6, 201), (6, 203), (6, 205), (6, 207), (6, 209), (6, 211), (6, 213), (6, 215), (6, 217), (6, 219), (6, 221), (6, 223), (6, 225), (6, 227), (6, 229), (6, 231), (6, 233), (6, 235), (6, 237), (6, 239), (7, 1), (7, 3), (7, 5), (7, 7), (7, 9), (7, 11), (7, 13), (7, 15), (7, 17), (7, 19), (7, 21), (7, 23), (7, 25), (7, 27), (7, 29), (7, 31), (7, 33), (7, 35), (7, 37), (7, 39), (7, 41), (7, 43), (7, 45), (7, 47), (7, 49), (7, 51), (7, 53), (7, 55), (7, 57), (7, 59), (7, 61), (7, 63), (7, 65), (7, 67)] rfl
set_option maxRecDepth 100000 in
theorem gto_X12_plan : ∀ w ∈ (.code yX12_plan cX12_plan 11 (some .int) :: wsX12_plan_own : List Cond), w ∈ lw_tbl := mem_pos [(8, 134), (8, 139), (8, 141), (0, 72), (1, 14), (8, 135), (8, 137), (0, 71), (8, 16), (8, 18), (0, 56), (7, 74), (7, 75), (6, 102), (6, 156), (6, 154)] rfl
theorem gt_X12_plan : ∀ w ∈ wsX12_plan, w ∈ lw_tbl := gt_c (gto_X12_plan _ List.mem_cons_self) (gt_a (gt_a (gt_t gto_X12_plan) (gt_a gt_X12_judged (gt_a gt_X12_isRow (gt_a gt_X12_isReading (gt_X12_isIn))))) inX12)
theorem gw_X12_plan : ∀ w ∈ wsV RL 124 RX12 yX12_plan wsX12_plan, w ∈ lw_tbl := gt_a (mem_pos [(8, 131), (8, 132), (8, 133), (1, 14)] rfl) gt_X12_plan
theorem gx_X12_plan : GoodIn (wsV RL 124 RX12 yX12_plan wsX12_plan) (wsV RL 124 RX12 yX12_plan wsX12_plan) := ggi (fun _ h => h) (gs_a (gs_e (by decide +kernel)) gs_X12_plan)
set_option maxRecDepth 100000 in
theorem gto_X3_areOpen : ∀ w ∈ (.code yX3_areOpen cX3_areOpen 3 (some .boolean) :: wsX3_areOpen_own : List Cond), w ∈ lw_tbl := mem_pos [(5, 85), (5, 50), (5, 15), (5, 16), (1, 11), (2, 107)] rfl
theorem gt_X3_areOpen : ∀ w ∈ wsX3_areOpen, w ∈ lw_tbl := gt_c (gto_X3_areOpen _ List.mem_cons_self) (gt_a (gt_a (gt_t gto_X3_areOpen) (gt_X3_isDone)) inX3)
set_option maxRecDepth 100000 in
theorem gt_X3_cut : ∀ w ∈ wsX3_cut, w ∈ lw_tbl := mem_pos [(5, 74), (2, 113), (2, 122), (2, 123), (2, 114), (2, 115), (5, 76), (3, 154), (1, 16), (3, 155), (5, 77), (3, 157), (3, 158), (5, 75), (4, 67), (1, 6), (4, 68), (2, 129), (2, 131), (2, 133), (2, 135), (2, 137), (2, 139), (2, 141), (2, 143), (2, 145), (2, 147), (2, 149), (2, 151), (2, 153), (2, 155), (2, 157), (2, 159), (2, 161), (2, 163), (2, 165)] rfl
set_option maxRecDepth 100000 in
theorem gto_X3_widthBehind : ∀ w ∈ (.code yX3_widthBehind cX3_widthBehind 4 (some .int) :: wsX3_widthBehind_own : List Cond), w ∈ lw_tbl := mem_pos [(5, 89), (5, 59), (5, 61), (0, 17), (1, 11), (5, 71), (5, 73), (0, 19), (2, 107), (2, 127), (2, 113)] rfl
theorem gt_X3_widthBehind : ∀ w ∈ wsX3_widthBehind, w ∈ lw_tbl := gt_c (gto_X3_widthBehind _ List.mem_cons_self) (gt_a (gt_a (gt_a (gt_a (gt_a (gt_a (gt_t gto_X3_widthBehind) (gt_a gt_X3_rowSpread (gt_X3_cut))) inX3) inX7) inX6) inX8) inX10)
set_option maxRecDepth 100000 in
theorem gto_X11_judge : ∀ w ∈ (.code yX11_judge cX11_judge 3 (some .int) :: wsX11_judge_own : List Cond), w ∈ lw_tbl := mem_pos [(5, 81), (4, 141), (4, 142), (4, 143), (1, 7), (5, 82), (5, 83), (5, 84), (1, 11), (5, 55), (5, 56), (5, 57), (5, 86), (5, 87), (5, 88), (3, 38), (3, 41), (3, 44)] rfl
theorem gt_X11_judge : ∀ w ∈ wsX11_judge, w ∈ lw_tbl := gt_c (gto_X11_judge _ List.mem_cons_self) (gt_a (gt_a (gt_a (gt_a (gt_a (gt_a (gt_a (gt_t gto_X11_judge) (gt_a gt_X7_has (gt_a gt_X3_areOpen (gt_a gt_X3_startRow (gt_X3_widthBehind))))) inX11) inX7) inX3) inX6) inX8) inX10)
theorem gw_X11_judge : ∀ w ∈ wsV RL 125 RX11 yX11_judge wsX11_judge, w ∈ lw_tbl := gt_a (mem_pos [(5, 78), (5, 79), (5, 80), (1, 1)] rfl) gt_X11_judge
theorem gx_X11_judge : GoodIn (wsV RL 125 RX11 yX11_judge wsX11_judge) (wsV RL 125 RX11 yX11_judge wsX11_judge) := ggi (fun _ h => h) (gs_a (gs_e (by decide +kernel)) gs_X11_judge)
set_option maxRecDepth 100000 in
theorem gto_X12_judge : ∀ w ∈ (.code yX12_judge cX12_judge 3 (some .int) :: wsX12_judge_own : List Cond), w ∈ lw_tbl := mem_pos [(8, 146), (8, 16), (8, 18), (0, 56), (1, 14), (8, 135), (8, 137), (0, 71), (8, 139), (8, 141), (0, 72), (6, 102)] rfl
theorem gt_X12_judge : ∀ w ∈ wsX12_judge, w ∈ lw_tbl := gt_c (gto_X12_judge _ List.mem_cons_self) (gt_a (gt_a (gt_t gto_X12_judge) (gt_a gt_X12_isReading (gt_a gt_X12_isRow (gt_X12_judged)))) inX12)
theorem gw_X12_judge : ∀ w ∈ wsV RL 128 RX12 yX12_judge wsX12_judge, w ∈ lw_tbl := gt_a (mem_pos [(8, 143), (8, 144), (8, 145), (1, 14)] rfl) gt_X12_judge
theorem gx_X12_judge : GoodIn (wsV RL 128 RX12 yX12_judge wsX12_judge) (wsV RL 128 RX12 yX12_judge wsX12_judge) := ggi (fun _ h => h) (gs_a (gs_e (by decide +kernel)) gs_X12_judge)
set_option maxRecDepth 100000 in
theorem gto_X11_leans : ∀ w ∈ (.code yX11_leans cX11_leans 3 (some .int) :: wsX11_leans_own : List Cond), w ∈ lw_tbl := mem_pos [(5, 93), (4, 141), (4, 142), (4, 143), (1, 7), (4, 49), (4, 50), (4, 51), (1, 6), (5, 94), (4, 156), (4, 157), (3, 38), (4, 78), (3, 37)] rfl
theorem gt_X11_leans : ∀ w ∈ wsX11_leans, w ∈ lw_tbl := gt_c (gto_X11_leans _ List.mem_cons_self) (gt_a (gt_a (gt_a (gt_a (gt_a (gt_a (gt_t gto_X11_leans) (gt_a gt_X7_has (gt_a gt_X6_has (gt_X7_leanOf)))) inX11) inX7) inX6) inX8) inX10)
theorem gw_X11_leans : ∀ w ∈ wsV RL 129 RX11 yX11_leans wsX11_leans, w ∈ lw_tbl := gt_a (mem_pos [(5, 90), (5, 91), (5, 92), (1, 1)] rfl) gt_X11_leans
theorem gx_X11_leans : GoodIn (wsV RL 129 RX11 yX11_leans wsX11_leans) (wsV RL 129 RX11 yX11_leans wsX11_leans) := ggi (fun _ h => h) (gs_a (gs_e (by decide +kernel)) gs_X11_leans)
set_option maxRecDepth 100000 in
theorem gto_X12_leans : ∀ w ∈ (.code yX12_leans cX12_leans 3 (some .int) :: wsX12_leans_own : List Cond), w ∈ lw_tbl := mem_pos [(8, 150), (8, 16), (8, 18), (0, 56), (1, 14), (7, 199), (7, 201), (0, 49), (8, 24), (8, 26), (0, 58), (6, 102), (7, 239), (6, 134)] rfl
theorem gt_X12_leans : ∀ w ∈ wsX12_leans, w ∈ lw_tbl := gt_c (gto_X12_leans _ List.mem_cons_self) (gt_a (gt_a (gt_t gto_X12_leans) (gt_a gt_X12_isReading (gt_a gt_X12_isPart (gt_X12_layWorthsOf)))) inX12)
theorem gw_X12_leans : ∀ w ∈ wsV RL 132 RX12 yX12_leans wsX12_leans, w ∈ lw_tbl := gt_a (mem_pos [(8, 147), (8, 148), (8, 149), (1, 14)] rfl) gt_X12_leans
theorem gx_X12_leans : GoodIn (wsV RL 132 RX12 yX12_leans wsX12_leans) (wsV RL 132 RX12 yX12_leans wsX12_leans) := ggi (fun _ h => h) (gs_a (gs_e (by decide +kernel)) gs_X12_leans)
set_option maxRecDepth 100000 in
theorem gt_X8_set : ∀ w ∈ wsX8_set, w ∈ lw_tbl := mem_pos [(4, 89), (1, 98), (1, 103), (1, 105), (1, 107), (1, 109), (1, 111)] rfl
set_option maxRecDepth 100000 in
theorem gto_X1_guessed : ∀ w ∈ (.code yX1_guessed cX1_guessed 4 (some .int) :: wsX1_guessed_own : List Cond), w ∈ lw_tbl := mem_pos [(5, 114), (5, 115), (4, 87), (4, 88), (1, 4), (5, 116), (4, 95), (4, 96), (2, 32)] rfl
theorem gt_X1_guessed : ∀ w ∈ wsX1_guessed, w ∈ lw_tbl := gt_c (gto_X1_guessed _ List.mem_cons_self) (gt_a (gt_a (gt_a (gt_a (gt_t gto_X1_guessed) (gt_a gt_X8_set (gt_X8_ask))) inX1) inX8) inX10)
set_option maxRecDepth 100000 in
theorem gto_X1_suits : ∀ w ∈ (.code yX1_suits cX1_suits 5 (some .boolean) :: wsX1_suits_own : List Cond), w ∈ lw_tbl := mem_pos [(5, 110), (5, 111), (5, 113), (0, 22), (1, 9), (2, 34), (2, 35), (2, 36)] rfl
theorem gt_X1_suits : ∀ w ∈ wsX1_suits, w ∈ lw_tbl := gt_c (gto_X1_suits _ List.mem_cons_self) (gt_a (gt_a (gt_a (gt_a (gt_t gto_X1_suits) (gt_X1_guessed)) inX1) inX8) inX10)
set_option maxRecDepth 100000 in
theorem gto_X1_boundWaves : ∀ w ∈ (.code yX1_boundWaves cX1_boundWaves 4 none :: wsX1_boundWaves_own : List Cond), w ∈ lw_tbl := mem_pos [(5, 106), (4, 198), (1, 200), (1, 8), (2, 34), (2, 31), (1, 208), (1, 203), (2, 35), (1, 213), (4, 185), (3, 154), (1, 16), (3, 155), (2, 36), (1, 217), (4, 186), (3, 157), (3, 158)] rfl
theorem gt_X1_boundWaves : ∀ w ∈ wsX1_boundWaves, w ∈ lw_tbl := gt_c (gto_X1_boundWaves _ List.mem_cons_self) (gt_a (gt_a (gt_a (gt_t gto_X1_boundWaves) (gt_J7_fill_53178)) inX1) inX7)
set_option maxRecDepth 100000 in
theorem gto_X1_fit : ∀ w ∈ (.code yX1_fit cX1_fit 3 none :: wsX1_fit_own : List Cond), w ∈ lw_tbl := mem_pos [(5, 102), (5, 107), (5, 109), (0, 21), (1, 9), (5, 103), (5, 105), (0, 20), (2, 21), (2, 23), (2, 25)] rfl
theorem gt_X1_fit : ∀ w ∈ wsX1_fit, w ∈ lw_tbl := gt_c (gto_X1_fit _ List.mem_cons_self) (gt_a (gt_a (gt_a (gt_a (gt_a (gt_t gto_X1_fit) (gt_a gt_X1_suits (gt_X1_boundWaves))) inX1) inX7) inX8) inX10)
set_option maxRecDepth 100000 in
theorem gto_X11_fits : ∀ w ∈ (.code yX11_fits cX11_fits 4 (some .int) :: wsX11_fits_own : List Cond), w ∈ lw_tbl := mem_pos [(5, 98), (4, 42), (4, 44), (0, 10), (1, 1), (4, 27), (4, 28), (4, 29), (1, 4), (3, 76), (3, 77), (4, 145), (4, 146), (4, 147), (1, 7), (5, 99), (5, 100), (5, 101), (1, 9), (3, 35), (3, 38), (3, 39), (2, 24), (2, 22), (2, 26)] rfl
theorem gt_X11_fits : ∀ w ∈ wsX11_fits, w ∈ lw_tbl := gt_c (gto_X11_fits _ List.mem_cons_self) (gt_a (gt_a (gt_a (gt_a (gt_a (gt_a (gt_a (gt_t gto_X11_fits) (gt_a gt_X11_isDay (gt_a gt_X8_has (gt_a gt_X11_within (gt_a gt_X7_recall (gt_X1_fit)))))) inX11) inX1) inX8) inX7) inX6) inX10)
theorem gw_X11_fits : ∀ w ∈ wsV RL 133 RX11 yX11_fits wsX11_fits, w ∈ lw_tbl := gt_a (mem_pos [(5, 95), (5, 96), (5, 97), (1, 1)] rfl) gt_X11_fits
theorem gx_X11_fits : GoodIn (wsV RL 133 RX11 yX11_fits wsX11_fits) (wsV RL 133 RX11 yX11_fits wsX11_fits) := ggi (fun _ h => h) (gs_a (gs_e (by decide +kernel)) gs_X11_fits)
set_option maxRecDepth 100000 in
theorem gto_X12_isGuess : ∀ w ∈ (.code yX12_isGuess cX12_isGuess 2 (some .boolean) :: wsX12_isGuess_own : List Cond), w ∈ lw_tbl := mem_pos [(8, 158), (7, 74), (7, 75), (1, 14), (6, 107)] rfl
theorem gt_X12_isGuess : ∀ w ∈ wsX12_isGuess, w ∈ lw_tbl := gt_c (gto_X12_isGuess _ List.mem_cons_self) (gt_a (gt_a (gt_t gto_X12_isGuess) (gt_X12_isIn)) inX12)
set_option maxRecDepth 100000 in
theorem gto_X12_guessWorth : ∀ w ∈ (.code yX12_guessWorth cX12_guessWorth 4 (some .int) :: wsX12_guessWorth_own : List Cond), w ∈ lw_tbl := mem_pos [(8, 166), (7, 180), (7, 182), (0, 47), (1, 14), (7, 184), (7, 186), (0, 48), (6, 108)] rfl
theorem gt_X12_guessWorth : ∀ w ∈ wsX12_guessWorth, w ∈ lw_tbl := gt_c (gto_X12_guessWorth _ List.mem_cons_self) (gt_a (gt_a (gt_t gto_X12_guessWorth) (gt_a gt_X12_noLetters (gt_X12_worthOf))) inX12)
set_option maxRecDepth 100000 in
theorem gto_X12_layFits : ∀ w ∈ (.code yX12_layFits cX12_layFits 6 none :: wsX12_layFits_own : List Cond), w ∈ lw_tbl := mem_pos [(8, 162), (8, 28), (8, 30), (0, 59), (1, 14), (8, 163), (8, 165), (0, 75), (8, 20), (8, 22), (0, 57), (7, 207), (7, 209), (0, 51), (6, 157), (6, 138), (6, 137), (6, 139), (6, 140)] rfl
theorem gt_X12_layFits : ∀ w ∈ wsX12_layFits, w ∈ lw_tbl := gt_c (gto_X12_layFits _ List.mem_cons_self) (gt_a (gt_a (gt_t gto_X12_layFits) (gt_a gt_X12_aimOf (gt_a gt_X12_guessWorth (gt_a gt_X12_layLeft (gt_X12_laySpansOf))))) inX12)
set_option maxRecDepth 100000 in
theorem gto_X12_fits : ∀ w ∈ (.code yX12_fits cX12_fits 8 (some .int) :: wsX12_fits_own : List Cond), w ∈ lw_tbl := mem_pos [(8, 154), (8, 155), (8, 157), (0, 73), (1, 14), (7, 74), (7, 75), (8, 159), (8, 161), (0, 74), (6, 102), (6, 103), (6, 157)] rfl
theorem gt_X12_fits : ∀ w ∈ wsX12_fits, w ∈ lw_tbl := gt_c (gto_X12_fits _ List.mem_cons_self) (gt_a (gt_a (gt_t gto_X12_fits) (gt_a gt_X12_isGuess (gt_a gt_X12_isIn (gt_X12_layFits)))) inX12)
theorem gw_X12_fits : ∀ w ∈ wsV RL 136 RX12 yX12_fits wsX12_fits, w ∈ lw_tbl := gt_a (mem_pos [(8, 151), (8, 152), (8, 153), (1, 14)] rfl) gt_X12_fits
theorem gx_X12_fits : GoodIn (wsV RL 136 RX12 yX12_fits wsX12_fits) (wsV RL 136 RX12 yX12_fits wsX12_fits) := ggi (fun _ h => h) (gs_a (gs_e (by decide +kernel)) gs_X12_fits)
set_option maxRecDepth 100000 in
theorem gto_X1_tellApart : ∀ w ∈ (.code yX1_tellApart cX1_tellApart 7 none :: wsX1_tellApart_own : List Cond), w ∈ lw_tbl := mem_pos [(5, 124), (5, 111), (5, 113), (0, 22), (1, 9), (2, 29), (5, 125), (4, 175), (1, 16), (4, 176), (2, 27)] rfl
theorem gt_X1_tellApart : ∀ w ∈ wsX1_tellApart, w ∈ lw_tbl := gt_c (gto_X1_tellApart _ List.mem_cons_self) (gt_a (gt_a (gt_a (gt_a (gt_t gto_X1_tellApart) (gt_X1_guessed)) inX1) inX8) inX10)
set_option maxRecDepth 100000 in
theorem gto_X11_next : ∀ w ∈ (.code yX11_next cX11_next 7 (some .int) :: wsX11_next_own : List Cond), w ∈ lw_tbl := mem_pos [(5, 120), (4, 42), (4, 44), (0, 10), (1, 1), (4, 27), (4, 28), (4, 29), (1, 4), (4, 46), (4, 47), (4, 145), (4, 146), (4, 147), (1, 7), (5, 99), (5, 100), (5, 101), (1, 9), (5, 121), (5, 122), (5, 123), (3, 35), (3, 38), (3, 39), (2, 22), (2, 30), (2, 28)] rfl
theorem gt_X11_next : ∀ w ∈ wsX11_next, w ∈ lw_tbl := gt_c (gto_X11_next _ List.mem_cons_self) (gt_a (gt_a (gt_a (gt_a (gt_a (gt_a (gt_a (gt_t gto_X11_next) (gt_a gt_X11_isDay (gt_a gt_X8_has (gt_a gt_X11_isEither (gt_a gt_X7_recall (gt_a gt_X1_fit (gt_X1_tellApart))))))) inX11) inX1) inX8) inX7) inX6) inX10)
theorem gw_X11_next : ∀ w ∈ wsV RL 137 RX11 yX11_next wsX11_next, w ∈ lw_tbl := gt_a (mem_pos [(5, 117), (5, 118), (5, 119), (1, 1)] rfl) gt_X11_next
theorem gx_X11_next : GoodIn (wsV RL 137 RX11 yX11_next wsX11_next) (wsV RL 137 RX11 yX11_next wsX11_next) := ggi (fun _ h => h) (gs_a (gs_e (by decide +kernel)) gs_X11_next)
set_option maxRecDepth 100000 in
theorem gto_X12_next : ∀ w ∈ (.code yX12_next cX12_next 11 (some .int) :: wsX12_next_own : List Cond), w ∈ lw_tbl := mem_pos [(8, 170), (8, 163), (8, 165), (0, 75), (1, 14), (8, 155), (8, 157), (0, 73), (7, 74), (7, 75), (8, 171), (8, 152), (8, 153), (6, 102), (6, 103), (8, 73), (4, 175), (1, 16), (4, 176)] rfl
theorem gt_X12_next : ∀ w ∈ wsX12_next, w ∈ lw_tbl := gt_c (gto_X12_next _ List.mem_cons_self) (gt_a (gt_a (gt_t gto_X12_next) (gt_a gt_X12_guessWorth (gt_a gt_X12_isGuess (gt_a gt_X12_isIn (gt_X12_fits))))) inX12)
theorem gw_X12_next : ∀ w ∈ wsV RL 140 RX12 yX12_next wsX12_next, w ∈ lw_tbl := gt_a (mem_pos [(8, 167), (8, 168), (8, 169), (1, 14)] rfl) gt_X12_next
theorem gx_X12_next : GoodIn (wsV RL 140 RX12 yX12_next wsX12_next) (wsV RL 140 RX12 yX12_next wsX12_next) := ggi (fun _ h => h) (gs_a (gs_e (by decide +kernel)) gs_X12_next)
set_option maxRecDepth 100000 in
theorem gt_X11_house : ∀ w ∈ wsX11_house, w ∈ lw_tbl := mem_pos [(5, 129), (3, 42), (2, 176), (3, 45), (3, 47), (3, 49), (3, 51), (3, 53), (3, 55), (3, 57), (3, 59), (3, 61), (3, 63), (3, 65), (3, 67), (3, 69), (2, 203), (2, 205), (2, 207), (2, 209), (2, 211), (2, 213), (2, 215), (2, 217), (2, 219), (2, 221), (2, 223), (2, 225), (2, 227), (2, 229), (2, 231), (2, 233), (2, 235), (2, 237)] rfl
set_option maxRecDepth 100000 in
theorem gs_X11_house : ∀ w ∈ wsX11_house, gW w := gs_e (by decide +kernel)
theorem gw_X11_house : ∀ w ∈ wsV RL 141 RX11 yX11_house wsX11_house, w ∈ lw_tbl := gt_a (mem_pos [(5, 126), (5, 127), (5, 128), (1, 1)] rfl) gt_X11_house
theorem gx_X11_house : GoodIn (wsV RL 141 RX11 yX11_house wsX11_house) (wsV RL 141 RX11 yX11_house wsX11_house) := ggi (fun _ h => h) (gs_a (gs_e (by decide +kernel)) gs_X11_house)
set_option maxRecDepth 100000 in
theorem gt_X12_house : ∀ w ∈ wsX12_house, w ∈ lw_tbl := mem_pos [(8, 175), (6, 102), (6, 167), (6, 171), (6, 173), (6, 175), (6, 177), (6, 179), (6, 181), (6, 183), (6, 185), (6, 187), (6, 189), (6, 191), (6, 193), (6, 195), (6, 197), (6, 199), (6, 201), (6, 203), (6, 205), (6, 207), (6, 209), (6, 211), (6, 213), (6, 215), (6, 217), (6, 219), (6, 221), (6, 223), (6, 225), (6, 227), (6, 229), (6, 231), (6, 233), (6, 235), (6, 237), (6, 239), (7, 1), (7, 3), (7, 5), (7, 7), (7, 9), (7, 11), (7, 13), (7, 15), (7, 17), (7, 19), (7, 21), (7, 23), (7, 25), (7, 27), (7, 29), (7, 31), (7, 33), (7, 35), (7, 37), (7, 39), (7, 41), (7, 43), (7, 45), (7, 47), (7, 49), (7, 51), (7, 53), (7, 55), (7, 57), (7, 59), (7, 61), (7, 63), (7, 65), (7, 67)] rfl
set_option maxRecDepth 100000 in
theorem gs_X12_house : ∀ w ∈ wsX12_house, gW w := gs_e (by decide +kernel)
theorem gw_X12_house : ∀ w ∈ wsV RL 144 RX12 yX12_house wsX12_house, w ∈ lw_tbl := gt_a (mem_pos [(8, 172), (8, 173), (8, 174), (1, 14)] rfl) gt_X12_house
theorem gx_X12_house : GoodIn (wsV RL 144 RX12 yX12_house wsX12_house) (wsV RL 144 RX12 yX12_house wsX12_house) := ggi (fun _ h => h) (gs_a (gs_e (by decide +kernel)) gs_X12_house)
set_option maxRecDepth 100000 in
theorem gt_X2_has : ∀ w ∈ wsX2_has, w ∈ lw_tbl := mem_pos [(5, 137), (2, 175), (2, 203), (2, 205), (2, 207), (2, 209), (2, 211), (2, 213), (2, 215), (2, 217), (2, 219), (2, 221), (2, 223), (2, 225), (2, 227), (2, 229), (2, 231), (2, 233), (2, 235), (2, 237)] rfl
set_option maxRecDepth 100000 in
theorem gt_X2_paperBit : ∀ w ∈ wsX2_paperBit, w ∈ lw_tbl := mem_pos [(5, 148)] rfl
set_option maxRecDepth 100000 in
theorem gt_X2_printBit : ∀ w ∈ wsX2_printBit, w ∈ lw_tbl := mem_pos [(5, 151)] rfl
set_option maxRecDepth 100000 in
theorem gto_X2_compare : ∀ w ∈ (.code yX2_compare cX2_compare 4 none :: wsX2_compare_own : List Cond), w ∈ lw_tbl := mem_pos [(5, 145), (5, 146), (5, 147), (1, 12), (5, 149), (5, 150), (2, 192), (2, 196), (2, 197), (2, 199), (2, 195), (2, 193)] rfl
theorem gt_X2_compare : ∀ w ∈ wsX2_compare, w ∈ lw_tbl := gt_c (gto_X2_compare _ List.mem_cons_self) (gt_a (gt_a (gt_t gto_X2_compare) (gt_a gt_X2_paperBit (gt_X2_printBit))) inX2)
set_option maxRecDepth 100000 in
theorem gt_X2_tell : ∀ w ∈ wsX2_tell, w ∈ lw_tbl := mem_pos [(5, 155), (2, 200), (2, 184), (2, 202), (5, 156), (3, 157), (1, 16), (3, 158), (2, 203), (2, 205), (2, 207), (2, 209), (2, 211), (2, 213), (2, 215), (2, 217), (2, 219), (2, 221), (2, 223), (2, 225), (2, 227), (2, 229), (2, 231), (2, 233), (2, 235), (2, 237)] rfl
set_option maxRecDepth 100000 in
theorem gto_X2_addPrint : ∀ w ∈ (.code yX2_addPrint cX2_addPrint 6 (some .int) :: wsX2_addPrint_own : List Cond), w ∈ lw_tbl := mem_pos [(5, 160), (5, 142), (5, 144), (0, 23), (1, 12), (5, 149), (5, 150), (5, 152), (5, 154), (0, 24), (2, 177), (2, 192), (2, 193), (2, 194), (2, 179)] rfl
theorem gt_X2_addPrint : ∀ w ∈ wsX2_addPrint, w ∈ lw_tbl := gt_c (gto_X2_addPrint _ List.mem_cons_self) (gt_a (gt_a (gt_t gto_X2_addPrint) (gt_a gt_X2_compare (gt_a gt_X2_printBit (gt_X2_tell)))) inX2)
set_option maxRecDepth 100000 in
theorem gto_X2_addPaper : ∀ w ∈ (.code yX2_addPaper cX2_addPaper 6 (some .int) :: wsX2_addPaper_own : List Cond), w ∈ lw_tbl := mem_pos [(5, 141), (5, 142), (5, 144), (0, 23), (1, 12), (5, 146), (5, 147), (5, 152), (5, 154), (0, 24), (2, 179), (2, 195), (2, 196), (2, 177)] rfl
theorem gt_X2_addPaper : ∀ w ∈ wsX2_addPaper, w ∈ lw_tbl := gt_c (gto_X2_addPaper _ List.mem_cons_self) (gt_a (gt_a (gt_t gto_X2_addPaper) (gt_a gt_X2_compare (gt_a gt_X2_paperBit (gt_X2_tell)))) inX2)
set_option maxRecDepth 100000 in
theorem gto_X11_print : ∀ w ∈ (.code yX11_print cX11_print 5 (some .int) :: wsX11_print_own : List Cond), w ∈ lw_tbl := mem_pos [(5, 133), (5, 134), (5, 135), (5, 136), (1, 12), (5, 157), (5, 158), (5, 159), (5, 138), (5, 139), (5, 140), (3, 42), (2, 178), (3, 44), (2, 180)] rfl
theorem gt_X11_print : ∀ w ∈ wsX11_print, w ∈ lw_tbl := gt_c (gto_X11_print _ List.mem_cons_self) (gt_a (gt_a (gt_a (gt_t gto_X11_print) (gt_a gt_X2_has (gt_a gt_X2_addPrint (gt_X2_addPaper)))) inX11) inX2)
theorem gw_X11_print : ∀ w ∈ wsV RL 145 RX11 yX11_print wsX11_print, w ∈ lw_tbl := gt_a (mem_pos [(5, 130), (5, 131), (5, 132), (1, 1)] rfl) gt_X11_print
theorem gx_X11_print : GoodIn (wsV RL 145 RX11 yX11_print wsX11_print) (wsV RL 145 RX11 yX11_print wsX11_print) := ggi (fun _ h => h) (gs_a (gs_e (by decide +kernel)) gs_X11_print)
set_option maxRecDepth 100000 in
theorem gt_X12_isHouse : ∀ w ∈ wsX12_isHouse, w ∈ lw_tbl := mem_pos [(8, 183), (6, 167), (6, 171), (6, 173), (6, 175), (6, 177), (6, 179), (6, 181), (6, 183), (6, 185), (6, 187), (6, 189), (6, 191), (6, 193), (6, 195), (6, 197), (6, 199), (6, 201), (6, 203), (6, 205), (6, 207), (6, 209), (6, 211), (6, 213), (6, 215), (6, 217), (6, 219), (6, 221), (6, 223), (6, 225), (6, 227), (6, 229), (6, 231), (6, 233), (6, 235), (6, 237), (6, 239), (7, 1), (7, 3), (7, 5), (7, 7), (7, 9), (7, 11), (7, 13), (7, 15), (7, 17), (7, 19), (7, 21), (7, 23), (7, 25), (7, 27), (7, 29), (7, 31), (7, 33), (7, 35), (7, 37), (7, 39), (7, 41), (7, 43), (7, 45), (7, 47), (7, 49), (7, 51), (7, 53), (7, 55), (7, 57), (7, 59), (7, 61), (7, 63), (7, 65), (7, 67)] rfl
set_option maxRecDepth 100000 in
theorem gto_X12_print : ∀ w ∈ (.code yX12_print cX12_print 6 (some .int) :: wsX12_print_own : List Cond), w ∈ lw_tbl := mem_pos [(8, 179), (8, 180), (8, 182), (0, 76), (1, 14), (7, 74), (7, 75), (6, 102), (6, 168), (6, 158), (6, 159), (6, 160), (6, 161), (6, 103), (6, 169)] rfl
theorem gt_X12_print : ∀ w ∈ wsX12_print, w ∈ lw_tbl := gt_c (gto_X12_print _ List.mem_cons_self) (gt_a (gt_a (gt_t gto_X12_print) (gt_a gt_X12_isHouse (gt_X12_isIn))) inX12)
theorem gw_X12_print : ∀ w ∈ wsV RL 149 RX12 yX12_print wsX12_print, w ∈ lw_tbl := gt_a (mem_pos [(8, 176), (8, 177), (8, 178), (1, 14)] rfl) gt_X12_print
theorem gx_X12_print : GoodIn (wsV RL 149 RX12 yX12_print wsX12_print) (wsV RL 149 RX12 yX12_print wsX12_print) := ggi (fun _ h => h) (gs_a (gs_e (by decide +kernel)) gs_X12_print)
set_option maxRecDepth 100000 in
theorem gt_X2_having : ∀ w ∈ wsX2_having, w ∈ lw_tbl := mem_pos [(5, 168), (2, 177), (2, 192), (2, 194), (2, 193), (2, 203), (2, 205), (2, 207), (2, 209), (2, 211), (2, 213), (2, 215), (2, 217), (2, 219), (2, 221), (2, 223), (2, 225), (2, 227), (2, 229), (2, 231), (2, 233), (2, 235), (2, 237)] rfl
set_option maxRecDepth 100000 in
theorem gto_X11_had : ∀ w ∈ (.code yX11_had cX11_had 3 (some .int) :: wsX11_had_own : List Cond), w ∈ lw_tbl := mem_pos [(5, 164), (5, 165), (5, 166), (5, 167), (1, 12), (4, 42), (4, 44), (0, 10), (1, 1), (4, 46), (4, 47), (3, 42)] rfl
theorem gt_X11_had : ∀ w ∈ wsX11_had, w ∈ lw_tbl := gt_c (gto_X11_had _ List.mem_cons_self) (gt_a (gt_a (gt_a (gt_t gto_X11_had) (gt_a gt_X2_having (gt_a gt_X11_isDay (gt_X11_isEither)))) inX11) inX2)
theorem gw_X11_had : ∀ w ∈ wsV RL 150 RX11 yX11_had wsX11_had, w ∈ lw_tbl := gt_a (mem_pos [(5, 161), (5, 162), (5, 163), (1, 1)] rfl) gt_X11_had
theorem gx_X11_had : GoodIn (wsV RL 150 RX11 yX11_had wsX11_had) (wsV RL 150 RX11 yX11_had wsX11_had) := ggi (fun _ h => h) (gs_a (gs_e (by decide +kernel)) gs_X11_had)
set_option maxRecDepth 100000 in
theorem gto_X12_had : ∀ w ∈ (.code yX12_had cX12_had 5 (some .int) :: wsX12_had_own : List Cond), w ∈ lw_tbl := mem_pos [(8, 187), (7, 74), (7, 75), (1, 14), (6, 102), (6, 103), (6, 168), (6, 161), (6, 159), (6, 160)] rfl
theorem gt_X12_had : ∀ w ∈ wsX12_had, w ∈ lw_tbl := gt_c (gto_X12_had _ List.mem_cons_self) (gt_a (gt_a (gt_t gto_X12_had) (gt_X12_isIn)) inX12)
theorem gw_X12_had : ∀ w ∈ wsV RL 153 RX12 yX12_had wsX12_had, w ∈ lw_tbl := gt_a (mem_pos [(8, 184), (8, 185), (8, 186), (1, 14)] rfl) gt_X12_had
theorem gx_X12_had : GoodIn (wsV RL 153 RX12 yX12_had wsX12_had) (wsV RL 153 RX12 yX12_had wsX12_had) := ggi (fun _ h => h) (gs_a (gs_e (by decide +kernel)) gs_X12_had)
set_option maxRecDepth 100000 in
theorem gt_X2_send : ∀ w ∈ wsX2_send, w ∈ lw_tbl := mem_pos [(5, 176), (2, 182), (2, 186), (2, 188), (2, 190), (2, 184), (2, 202), (5, 156), (3, 157), (1, 16), (3, 158), (2, 203), (2, 205), (2, 207), (2, 209), (2, 211), (2, 213), (2, 215), (2, 217), (2, 219), (2, 221), (2, 223), (2, 225), (2, 227), (2, 229), (2, 231), (2, 233), (2, 235), (2, 237)] rfl
set_option maxRecDepth 100000 in
theorem gto_X11_letter : ∀ w ∈ (.code yX11_letter cX11_letter 3 (some .boolean) :: wsX11_letter_own : List Cond), w ∈ lw_tbl := mem_pos [(5, 172), (5, 134), (5, 135), (5, 136), (1, 12), (5, 173), (5, 174), (5, 175), (3, 42), (2, 183), (3, 44)] rfl
theorem gt_X11_letter : ∀ w ∈ wsX11_letter, w ∈ lw_tbl := gt_c (gto_X11_letter _ List.mem_cons_self) (gt_a (gt_a (gt_a (gt_t gto_X11_letter) (gt_a gt_X2_has (gt_X2_send))) inX11) inX2)
theorem gw_X11_letter : ∀ w ∈ wsV RL 154 RX11 yX11_letter wsX11_letter, w ∈ lw_tbl := gt_a (mem_pos [(5, 169), (5, 170), (5, 171), (1, 1)] rfl) gt_X11_letter
theorem gx_X11_letter : GoodIn (wsV RL 154 RX11 yX11_letter wsX11_letter) (wsV RL 154 RX11 yX11_letter wsX11_letter) := ggi (fun _ h => h) (gs_a (gs_e (by decide +kernel)) gs_X11_letter)
set_option maxRecDepth 100000 in
theorem gto_X12_letter : ∀ w ∈ (.code yX12_letter cX12_letter 3 (some .boolean) :: wsX12_letter_own : List Cond), w ∈ lw_tbl := mem_pos [(8, 191), (8, 180), (8, 182), (0, 76), (1, 14), (6, 102), (6, 170), (6, 162), (6, 163), (6, 164), (6, 103)] rfl
theorem gt_X12_letter : ∀ w ∈ wsX12_letter, w ∈ lw_tbl := gt_c (gto_X12_letter _ List.mem_cons_self) (gt_a (gt_a (gt_t gto_X12_letter) (gt_X12_isHouse)) inX12)
theorem gw_X12_letter : ∀ w ∈ wsV RL 158 RX12 yX12_letter wsX12_letter, w ∈ lw_tbl := gt_a (mem_pos [(8, 188), (8, 189), (8, 190), (1, 14)] rfl) gt_X12_letter
theorem gx_X12_letter : GoodIn (wsV RL 158 RX12 yX12_letter wsX12_letter) (wsV RL 158 RX12 yX12_letter wsX12_letter) := ggi (fun _ h => h) (gs_a (gs_e (by decide +kernel)) gs_X12_letter)
set_option maxRecDepth 100000 in
theorem gt_X2_knownBy : ∀ w ∈ wsX2_knownBy, w ∈ lw_tbl := mem_pos [(5, 188), (2, 201), (2, 203), (2, 205), (2, 207), (2, 209), (2, 211), (2, 213), (2, 215), (2, 217), (2, 219), (2, 221), (2, 223), (2, 225), (2, 227), (2, 229), (2, 231), (2, 233), (2, 235), (2, 237)] rfl
set_option maxRecDepth 100000 in
theorem gt_X2_toldBy : ∀ w ∈ wsX2_toldBy, w ∈ lw_tbl := mem_pos [(5, 192), (2, 200), (2, 203), (2, 205), (2, 207), (2, 209), (2, 211), (2, 213), (2, 215), (2, 217), (2, 219), (2, 221), (2, 223), (2, 225), (2, 227), (2, 229), (2, 231), (2, 233), (2, 235), (2, 237)] rfl
set_option maxRecDepth 100000 in
theorem gto_X2_deliver : ∀ w ∈ (.code yX2_deliver cX2_deliver 3 none :: wsX2_deliver_own : List Cond), w ∈ lw_tbl := mem_pos [(5, 196), (5, 185), (5, 186), (5, 187), (1, 12), (2, 182), (2, 190), (2, 201), (2, 188), (2, 186)] rfl
theorem gt_X2_deliver : ∀ w ∈ wsX2_deliver, w ∈ lw_tbl := gt_c (gto_X2_deliver _ List.mem_cons_self) (gt_a (gt_a (gt_t gto_X2_deliver) (gt_X2_knownBy)) inX2)
set_option maxRecDepth 100000 in
theorem gto_X2_settle : ∀ w ∈ (.code yX2_settle cX2_settle 4 none :: wsX2_settle_own : List Cond), w ∈ lw_tbl := mem_pos [(5, 184), (5, 185), (5, 186), (5, 187), (1, 12), (5, 189), (5, 190), (5, 191), (5, 193), (5, 195), (0, 25), (2, 202), (2, 201), (2, 184), (5, 197), (3, 154), (1, 16), (3, 155)] rfl
theorem gt_X2_settle : ∀ w ∈ wsX2_settle, w ∈ lw_tbl := gt_c (gto_X2_settle _ List.mem_cons_self) (gt_a (gt_a (gt_t gto_X2_settle) (gt_a gt_X2_knownBy (gt_a gt_X2_toldBy (gt_X2_deliver)))) inX2)
set_option maxRecDepth 100000 in
theorem gto_X11_knows : ∀ w ∈ (.code yX11_knows cX11_knows 8 (some .int) :: wsX11_knows_own : List Cond), w ∈ lw_tbl := mem_pos [(5, 180), (5, 200), (5, 186), (5, 187), (1, 12), (5, 134), (5, 135), (5, 136), (3, 76), (3, 77), (1, 1), (4, 42), (4, 44), (0, 10), (5, 181), (5, 182), (5, 183), (5, 199), (5, 150), (5, 198), (5, 147), (3, 42), (2, 178), (2, 180)] rfl
theorem gt_X11_knows : ∀ w ∈ wsX11_knows, w ∈ lw_tbl := gt_c (gto_X11_knows _ List.mem_cons_self) (gt_a (gt_a (gt_a (gt_t gto_X11_knows) (gt_a gt_X2_knownBy (gt_a gt_X2_has (gt_a gt_X11_within (gt_a gt_X11_isDay (gt_a gt_X2_settle (gt_a gt_X2_printBit (gt_X2_paperBit)))))))) inX11) inX2)
theorem gw_X11_knows : ∀ w ∈ wsV RL 159 RX11 yX11_knows wsX11_knows, w ∈ lw_tbl := gt_a (mem_pos [(5, 177), (5, 178), (5, 179), (1, 1)] rfl) gt_X11_knows
theorem gx_X11_knows : GoodIn (wsV RL 159 RX11 yX11_knows wsX11_knows) (wsV RL 159 RX11 yX11_knows wsX11_knows) := ggi (fun _ h => h) (gs_a (gs_e (by decide +kernel)) gs_X11_knows)
set_option maxRecDepth 100000 in
theorem gt_X12_isThere : ∀ w ∈ wsX12_isThere, w ∈ lw_tbl := mem_pos [(8, 211), (6, 168), (6, 169), (6, 171), (6, 173), (6, 175), (6, 177), (6, 179), (6, 181), (6, 183), (6, 185), (6, 187), (6, 189), (6, 191), (6, 193), (6, 195), (6, 197), (6, 199), (6, 201), (6, 203), (6, 205), (6, 207), (6, 209), (6, 211), (6, 213), (6, 215), (6, 217), (6, 219), (6, 221), (6, 223), (6, 225), (6, 227), (6, 229), (6, 231), (6, 233), (6, 235), (6, 237), (6, 239), (7, 1), (7, 3), (7, 5), (7, 7), (7, 9), (7, 11), (7, 13), (7, 15), (7, 17), (7, 19), (7, 21), (7, 23), (7, 25), (7, 27), (7, 29), (7, 31), (7, 33), (7, 35), (7, 37), (7, 39), (7, 41), (7, 43), (7, 45), (7, 47), (7, 49), (7, 51), (7, 53), (7, 55), (7, 57), (7, 59), (7, 61), (7, 63), (7, 65), (7, 67)] rfl
set_option maxRecDepth 100000 in
theorem gto_X12_knowsNow : ∀ w ∈ (.code yX12_knowsNow cX12_knowsNow 4 (some .boolean) :: wsX12_knowsNow_own : List Cond), w ∈ lw_tbl := mem_pos [(8, 207), (8, 208), (8, 210), (0, 80), (1, 14), (6, 165), (6, 158), (6, 161)] rfl
theorem gt_X12_knowsNow : ∀ w ∈ wsX12_knowsNow, w ∈ lw_tbl := gt_c (gto_X12_knowsNow _ List.mem_cons_self) (gt_a (gt_a (gt_t gto_X12_knowsNow) (gt_X12_isThere)) inX12)
set_option maxRecDepth 100000 in
theorem gto_X12_passes : ∀ w ∈ (.code yX12_passes cX12_passes 5 none :: wsX12_passes_own : List Cond), w ∈ lw_tbl := mem_pos [(8, 203), (8, 204), (8, 206), (0, 79), (1, 14), (6, 167), (6, 166), (6, 164), (6, 165), (6, 162), (6, 163)] rfl
theorem gt_X12_passes : ∀ w ∈ wsX12_passes, w ∈ lw_tbl := gt_c (gto_X12_passes _ List.mem_cons_self) (gt_a (gt_a (gt_t gto_X12_passes) (gt_X12_knowsNow)) inX12)
set_option maxRecDepth 100000 in
theorem gt_X12_nobodyKnows : ∀ w ∈ wsX12_nobodyKnows, w ∈ lw_tbl := mem_pos [(8, 199), (6, 165), (6, 171), (6, 173), (6, 175), (6, 177), (6, 179), (6, 181), (6, 183), (6, 185), (6, 187), (6, 189), (6, 191), (6, 193), (6, 195), (6, 197), (6, 199), (6, 201), (6, 203), (6, 205), (6, 207), (6, 209), (6, 211), (6, 213), (6, 215), (6, 217), (6, 219), (6, 221), (6, 223), (6, 225), (6, 227), (6, 229), (6, 231), (6, 233), (6, 235), (6, 237), (6, 239), (7, 1), (7, 3), (7, 5), (7, 7), (7, 9), (7, 11), (7, 13), (7, 15), (7, 17), (7, 19), (7, 21), (7, 23), (7, 25), (7, 27), (7, 29), (7, 31), (7, 33), (7, 35), (7, 37), (7, 39), (7, 41), (7, 43), (7, 45), (7, 47), (7, 49), (7, 51), (7, 53), (7, 55), (7, 57), (7, 59), (7, 61), (7, 63), (7, 65), (7, 67)] rfl
set_option maxRecDepth 100000 in
theorem gto_X12_knows : ∀ w ∈ (.code yX12_knows cX12_knows 6 (some .int) :: wsX12_knows_own : List Cond), w ∈ lw_tbl := mem_pos [(8, 195), (8, 200), (8, 202), (0, 78), (1, 14), (7, 74), (7, 75), (8, 196), (8, 198), (0, 77), (8, 180), (8, 182), (0, 76), (6, 102), (6, 168), (6, 103), (6, 170), (6, 165), (6, 169)] rfl
theorem gt_X12_knows : ∀ w ∈ wsX12_knows, w ∈ lw_tbl := gt_c (gto_X12_knows _ List.mem_cons_self) (gt_a (gt_a (gt_t gto_X12_knows) (gt_a gt_X12_passes (gt_a gt_X12_isIn (gt_a gt_X12_nobodyKnows (gt_X12_isHouse))))) inX12)
theorem gw_X12_knows : ∀ w ∈ wsV RL 162 RX12 yX12_knows wsX12_knows, w ∈ lw_tbl := gt_a (mem_pos [(8, 192), (8, 193), (8, 194), (1, 14)] rfl) gt_X12_knows
theorem gx_X12_knows : GoodIn (wsV RL 162 RX12 yX12_knows wsX12_knows) (wsV RL 162 RX12 yX12_knows wsX12_knows) := ggi (fun _ h => h) (gs_a (gs_e (by decide +kernel)) gs_X12_knows)
set_option maxRecDepth 100000 in
theorem gto_X2_areMet : ∀ w ∈ (.code yX2_areMet cX2_areMet 4 (some .boolean) :: wsX2_areMet_own : List Cond), w ∈ lw_tbl := mem_pos [(5, 213), (5, 149), (5, 150), (1, 12), (2, 199), (2, 177), (2, 197)] rfl
theorem gt_X2_areMet : ∀ w ∈ wsX2_areMet, w ∈ lw_tbl := gt_c (gto_X2_areMet _ List.mem_cons_self) (gt_a (gt_a (gt_t gto_X2_areMet) (gt_X2_printBit)) inX2)
set_option maxRecDepth 100000 in
theorem gto_X4_firstDay : ∀ w ∈ (.code yX4_firstDay cX4_firstDay 4 (some .int) :: wsX4_firstDay_own : List Cond), w ∈ lw_tbl := mem_pos [(5, 208), (5, 209), (5, 186), (5, 187), (1, 12), (5, 210), (5, 211), (5, 212), (3, 14), (2, 185), (2, 174)] rfl
theorem gt_X4_firstDay : ∀ w ∈ wsX4_firstDay, w ∈ lw_tbl := gt_c (gto_X4_firstDay _ List.mem_cons_self) (gt_a (gt_a (gt_a (gt_t gto_X4_firstDay) (gt_a gt_X2_knownBy (gt_X2_areMet))) inX4) inX2)
set_option maxRecDepth 100000 in
theorem gto_X11_met : ∀ w ∈ (.code yX11_met cX11_met 1 (some .int) :: wsX11_met_own : List Cond), w ∈ lw_tbl := mem_pos [(5, 204), (5, 181), (5, 182), (5, 183), (1, 12), (5, 205), (5, 206), (5, 207), (1, 13), (3, 42), (3, 44), (3, 43)] rfl
theorem gt_X11_met : ∀ w ∈ wsX11_met, w ∈ lw_tbl := gt_c (gto_X11_met _ List.mem_cons_self) (gt_a (gt_a (gt_a (gt_a (gt_t gto_X11_met) (gt_a gt_X2_settle (gt_X4_firstDay))) inX11) inX2) inX4)
theorem gw_X11_met : ∀ w ∈ wsV RL 163 RX11 yX11_met wsX11_met, w ∈ lw_tbl := gt_a (mem_pos [(5, 201), (5, 202), (5, 203), (1, 1)] rfl) gt_X11_met
theorem gx_X11_met : GoodIn (wsV RL 163 RX11 yX11_met wsX11_met) (wsV RL 163 RX11 yX11_met wsX11_met) := ggi (fun _ h => h) (gs_a (gs_e (by decide +kernel)) gs_X11_met)
set_option maxRecDepth 100000 in
theorem gt_X12_meets : ∀ w ∈ wsX12_meets, w ∈ lw_tbl := mem_pos [(8, 223), (6, 168), (6, 165), (6, 159), (6, 169), (7, 219), (3, 154), (1, 16), (3, 155), (6, 160), (7, 220), (3, 157), (3, 158), (6, 171), (6, 173), (6, 175), (6, 177), (6, 179), (6, 181), (6, 183), (6, 185), (6, 187), (6, 189), (6, 191), (6, 193), (6, 195), (6, 197), (6, 199), (6, 201), (6, 203), (6, 205), (6, 207), (6, 209), (6, 211), (6, 213), (6, 215), (6, 217), (6, 219), (6, 221), (6, 223), (6, 225), (6, 227), (6, 229), (6, 231), (6, 233), (6, 235), (6, 237), (6, 239), (7, 1), (7, 3), (7, 5), (7, 7), (7, 9), (7, 11), (7, 13), (7, 15), (7, 17), (7, 19), (7, 21), (7, 23), (7, 25), (7, 27), (7, 29), (7, 31), (7, 33), (7, 35), (7, 37), (7, 39), (7, 41), (7, 43), (7, 45), (7, 47), (7, 49), (7, 51), (7, 53), (7, 55), (7, 57), (7, 59), (7, 61), (7, 63), (7, 65), (7, 67)] rfl
set_option maxRecDepth 100000 in
theorem gto_X12_metBy : ∀ w ∈ (.code yX12_metBy cX12_metBy 5 (some .int) :: wsX12_metBy_own : List Cond), w ∈ lw_tbl := mem_pos [(8, 219), (8, 220), (8, 222), (0, 82), (1, 14), (8, 200), (8, 202), (0, 78), (8, 196), (8, 198), (0, 77), (6, 167)] rfl
theorem gt_X12_metBy : ∀ w ∈ wsX12_metBy, w ∈ lw_tbl := gt_c (gto_X12_metBy _ List.mem_cons_self) (gt_a (gt_a (gt_t gto_X12_metBy) (gt_a gt_X12_meets (gt_a gt_X12_passes (gt_X12_nobodyKnows)))) inX12)
set_option maxRecDepth 100000 in
theorem gto_X12_met : ∀ w ∈ (.code yX12_met cX12_met 1 (some .int) :: wsX12_met_own : List Cond), w ∈ lw_tbl := mem_pos [(8, 215), (8, 216), (8, 218), (0, 81), (1, 14), (6, 102), (6, 170), (6, 103)] rfl
theorem gt_X12_met : ∀ w ∈ wsX12_met, w ∈ lw_tbl := gt_c (gto_X12_met _ List.mem_cons_self) (gt_a (gt_a (gt_t gto_X12_met) (gt_X12_metBy)) inX12)
theorem gw_X12_met : ∀ w ∈ wsV RL 166 RX12 yX12_met wsX12_met, w ∈ lw_tbl := gt_a (mem_pos [(8, 212), (8, 213), (8, 214), (1, 14)] rfl) gt_X12_met
theorem gx_X12_met : GoodIn (wsV RL 166 RX12 yX12_met wsX12_met) (wsV RL 166 RX12 yX12_met wsX12_met) := ggi (fun _ h => h) (gs_a (gs_e (by decide +kernel)) gs_X12_met)
set_option maxRecDepth 100000 in
theorem gto_X4_passDay : ∀ w ∈ (.code yX4_passDay cX4_passDay 4 (some .int) :: wsX4_passDay_own : List Cond), w ∈ lw_tbl := mem_pos [(5, 235), (5, 236), (5, 190), (5, 191), (1, 12), (3, 15), (3, 16), (3, 14), (2, 181), (2, 191), (2, 189), (2, 187)] rfl
theorem gt_X4_passDay : ∀ w ∈ wsX4_passDay, w ∈ lw_tbl := gt_c (gto_X4_passDay _ List.mem_cons_self) (gt_a (gt_a (gt_a (gt_t gto_X4_passDay) (gt_X2_toldBy)) inX4) inX2)
set_option maxRecDepth 100000 in
theorem gto_X4_anyMet : ∀ w ∈ (.code yX4_anyMet cX4_anyMet 2 (some .boolean) :: wsX4_anyMet_own : List Cond), w ∈ lw_tbl := mem_pos [(6, 0), (5, 210), (5, 211), (5, 212), (1, 12), (3, 14), (2, 174), (3, 16), (3, 15)] rfl
theorem gt_X4_anyMet : ∀ w ∈ wsX4_anyMet, w ∈ lw_tbl := gt_c (gto_X4_anyMet _ List.mem_cons_self) (gt_a (gt_a (gt_a (gt_t gto_X4_anyMet) (gt_X2_areMet)) inX4) inX2)
set_option maxRecDepth 100000 in
theorem gto_X4_meetingBy : ∀ w ∈ (.code yX4_meetingBy cX4_meetingBy 8 (some .int) :: wsX4_meetingBy_own : List Cond), w ∈ lw_tbl := mem_pos [(5, 230), (5, 209), (5, 186), (5, 187), (1, 12), (5, 232), (5, 234), (0, 28), (1, 13), (5, 237), (5, 239), (0, 29), (5, 210), (5, 211), (5, 212), (3, 16), (3, 14), (2, 191), (2, 181), (1, 1), (4, 58), (2, 185)] rfl
theorem gt_X4_meetingBy : ∀ w ∈ wsX4_meetingBy, w ∈ lw_tbl := gt_c (gto_X4_meetingBy _ List.mem_cons_self) (gt_a (gt_a (gt_a (gt_t gto_X4_meetingBy) (gt_a gt_X2_knownBy (gt_a gt_X4_passDay (gt_a gt_X4_anyMet (gt_a gt_X2_areMet (gt_X11_rowsUpTo)))))) inX4) inX2)
set_option maxRecDepth 100000 in
theorem gto_X4_tryAll : ∀ w ∈ (.code yX4_tryAll cX4_tryAll 9 (some .int) :: wsX4_tryAll_own : List Cond), w ∈ lw_tbl := mem_pos [(5, 225), (5, 209), (5, 186), (5, 187), (1, 12), (5, 227), (5, 229), (0, 27), (1, 13), (3, 14), (2, 174), (5, 226), (3, 6), (3, 8), (3, 10), (3, 12)] rfl
theorem gt_X4_tryAll : ∀ w ∈ wsX4_tryAll, w ∈ lw_tbl := gt_c (gto_X4_tryAll _ List.mem_cons_self) (gt_a (gt_a (gt_a (gt_t gto_X4_tryAll) (gt_a gt_X2_knownBy (gt_X4_meetingBy))) inX4) inX2)
set_option maxRecDepth 100000 in
theorem gto_X4_search : ∀ w ∈ (.code yX4_search cX4_search 7 none :: wsX4_search_own : List Cond), w ∈ lw_tbl := mem_pos [(5, 221), (5, 209), (5, 186), (5, 187), (1, 12), (5, 222), (5, 224), (0, 26), (1, 13), (3, 6), (3, 8), (3, 10), (3, 12), (3, 14), (2, 174), (2, 198)] rfl
theorem gt_X4_search : ∀ w ∈ wsX4_search, w ∈ lw_tbl := gt_c (gto_X4_search _ List.mem_cons_self) (gt_a (gt_a (gt_a (gt_t gto_X4_search) (gt_a gt_X2_knownBy (gt_X4_tryAll))) inX4) inX2)
set_option maxRecDepth 100000 in
theorem gto_X11_sooner : ∀ w ∈ (.code yX11_sooner cX11_sooner 3 (some .int) :: wsX11_sooner_own : List Cond), w ∈ lw_tbl := mem_pos [(5, 217), (5, 218), (5, 219), (5, 220), (1, 13), (3, 76), (3, 77), (1, 1), (5, 181), (5, 182), (5, 183), (1, 12), (5, 205), (5, 206), (5, 207), (3, 42), (3, 44), (3, 43), (3, 7), (3, 9), (3, 11), (3, 13)] rfl
theorem gt_X11_sooner : ∀ w ∈ wsX11_sooner, w ∈ lw_tbl := gt_c (gto_X11_sooner _ List.mem_cons_self) (gt_a (gt_a (gt_a (gt_a (gt_t gto_X11_sooner) (gt_a gt_X4_search (gt_a gt_X11_within (gt_a gt_X2_settle (gt_X4_firstDay))))) inX11) inX4) inX2)
theorem gw_X11_sooner : ∀ w ∈ wsV RL 167 RX11 yX11_sooner wsX11_sooner, w ∈ lw_tbl := gt_a (mem_pos [(5, 214), (5, 215), (5, 216), (1, 1)] rfl) gt_X11_sooner
theorem gx_X11_sooner : GoodIn (wsV RL 167 RX11 yX11_sooner wsX11_sooner) (wsV RL 167 RX11 yX11_sooner wsX11_sooner) := ggi (fun _ h => h) (gs_a (gs_e (by decide +kernel)) gs_X11_sooner)
set_option maxRecDepth 100000 in
theorem gt_X12_wasSent : ∀ w ∈ wsX12_wasSent, w ∈ lw_tbl := mem_pos [(8, 231), (6, 170), (6, 162), (6, 163), (6, 164), (6, 171), (6, 173), (6, 175), (6, 177), (6, 179), (6, 181), (6, 183), (6, 185), (6, 187), (6, 189), (6, 191), (6, 193), (6, 195), (6, 197), (6, 199), (6, 201), (6, 203), (6, 205), (6, 207), (6, 209), (6, 211), (6, 213), (6, 215), (6, 217), (6, 219), (6, 221), (6, 223), (6, 225), (6, 227), (6, 229), (6, 231), (6, 233), (6, 235), (6, 237), (6, 239), (7, 1), (7, 3), (7, 5), (7, 7), (7, 9), (7, 11), (7, 13), (7, 15), (7, 17), (7, 19), (7, 21), (7, 23), (7, 25), (7, 27), (7, 29), (7, 31), (7, 33), (7, 35), (7, 37), (7, 39), (7, 41), (7, 43), (7, 45), (7, 47), (7, 49), (7, 51), (7, 53), (7, 55), (7, 57), (7, 59), (7, 61), (7, 63), (7, 65), (7, 67)] rfl
set_option maxRecDepth 100000 in
theorem gto_X12_sooner : ∀ w ∈ (.code yX12_sooner cX12_sooner 11 (some .int) :: wsX12_sooner_own : List Cond), w ∈ lw_tbl := mem_pos [(8, 227), (8, 228), (8, 230), (0, 83), (1, 14), (8, 216), (8, 218), (0, 81), (7, 74), (7, 75), (6, 102), (6, 170), (6, 103), (6, 167), (6, 162), (6, 163), (6, 164)] rfl
theorem gt_X12_sooner : ∀ w ∈ wsX12_sooner, w ∈ lw_tbl := gt_c (gto_X12_sooner _ List.mem_cons_self) (gt_a (gt_a (gt_t gto_X12_sooner) (gt_a gt_X12_wasSent (gt_a gt_X12_metBy (gt_X12_isIn)))) inX12)
theorem gw_X12_sooner : ∀ w ∈ wsV RL 170 RX12 yX12_sooner wsX12_sooner, w ∈ lw_tbl := gt_a (mem_pos [(8, 224), (8, 225), (8, 226), (1, 14)] rfl) gt_X12_sooner
theorem gx_X12_sooner : GoodIn (wsV RL 170 RX12 yX12_sooner wsX12_sooner) (wsV RL 170 RX12 yX12_sooner wsX12_sooner) := ggi (fun _ h => h) (gs_a (gs_e (by decide +kernel)) gs_X12_sooner)
set_option maxRecDepth 100000 in
theorem gt_X1_oneSide : ∀ w ∈ wsX1_oneSide, w ∈ lw_tbl := mem_pos [(6, 8), (6, 9), (2, 34), (2, 33), (6, 10), (6, 11), (1, 16), (6, 12), (4, 185), (3, 154), (3, 155), (2, 37), (2, 39), (2, 41), (2, 43), (2, 45), (2, 47), (2, 49), (2, 51), (2, 53), (2, 55), (2, 57), (2, 59), (2, 61)] rfl
set_option maxRecDepth 100000 in
theorem gto_X11_even : ∀ w ∈ (.code yX11_even cX11_even 4 (some .int) :: wsX11_even_own : List Cond), w ∈ lw_tbl := mem_pos [(6, 4), (4, 42), (4, 44), (0, 10), (1, 1), (4, 46), (4, 47), (4, 145), (4, 146), (4, 147), (1, 7), (4, 191), (4, 192), (4, 193), (1, 9), (4, 199), (4, 200), (4, 201), (6, 5), (6, 6), (6, 7), (4, 78), (3, 38), (3, 39)] rfl
theorem gt_X11_even : ∀ w ∈ wsX11_even, w ∈ lw_tbl := gt_c (gto_X11_even _ List.mem_cons_self) (gt_a (gt_a (gt_a (gt_a (gt_a (gt_a (gt_a (gt_t gto_X11_even) (gt_a gt_X11_isDay (gt_a gt_X11_isEither (gt_a gt_X7_recall (gt_a gt_X1_meansBy (gt_a gt_X1_distance (gt_X1_oneSide))))))) inX11) inX7) inX6) inX8) inX10) inX1)
theorem gw_X11_even : ∀ w ∈ wsV RL 171 RX11 yX11_even wsX11_even, w ∈ lw_tbl := gt_a (mem_pos [(6, 1), (6, 2), (6, 3), (1, 1)] rfl) gt_X11_even
theorem gx_X11_even : GoodIn (wsV RL 171 RX11 yX11_even wsX11_even) (wsV RL 171 RX11 yX11_even wsX11_even) := ggi (fun _ h => h) (gs_a (gs_e (by decide +kernel)) gs_X11_even)
set_option maxRecDepth 100000 in
theorem gto_X12_even : ∀ w ∈ (.code yX12_even cX12_even 5 (some .int) :: wsX12_even_own : List Cond), w ∈ lw_tbl := mem_pos [(8, 72), (8, 65), (8, 67), (0, 65), (1, 14), (8, 60), (8, 62), (0, 64), (7, 74), (7, 75), (8, 56), (8, 58), (0, 63), (6, 102), (6, 103), (7, 239), (6, 145), (8, 73), (4, 175), (1, 16), (4, 176), (7, 219), (3, 154), (3, 155)] rfl
theorem gt_X12_even : ∀ w ∈ wsX12_even, w ∈ lw_tbl := gt_c (gto_X12_even _ List.mem_cons_self) (gt_a (gt_a (gt_t gto_X12_even) (gt_a gt_X12_mean (gt_a gt_X12_apart (gt_a gt_X12_isIn (gt_X12_layMeans))))) inX12)
theorem gw_X12_even : ∀ w ∈ wsV RL 174 RX12 yX12_even wsX12_even, w ∈ lw_tbl := gt_a (mem_pos [(8, 69), (8, 70), (8, 71), (1, 14)] rfl) gt_X12_even
theorem gx_X12_even : GoodIn (wsV RL 174 RX12 yX12_even wsX12_even) (wsV RL 174 RX12 yX12_even wsX12_even) := ggi (fun _ h => h) (gs_a (gs_e (by decide +kernel)) gs_X12_even)
set_option maxRecDepth 100000 in
theorem gto_X3_doneUpTo : ∀ w ∈ (.code yX3_doneUpTo cX3_doneUpTo 4 (some .int) :: wsX3_doneUpTo_own : List Cond), w ∈ lw_tbl := mem_pos [(6, 21), (5, 50), (5, 15), (5, 16), (1, 11), (2, 107), (2, 117)] rfl
theorem gt_X3_doneUpTo : ∀ w ∈ wsX3_doneUpTo, w ∈ lw_tbl := gt_c (gto_X3_doneUpTo _ List.mem_cons_self) (gt_a (gt_a (gt_t gto_X3_doneUpTo) (gt_X3_isDone)) inX3)
set_option maxRecDepth 100000 in
theorem gto_X11_say : ∀ w ∈ (.code yX11_say cX11_say 4 (some .int) :: wsX11_say_own : List Cond), w ∈ lw_tbl := mem_pos [(6, 16), (6, 17), (4, 87), (4, 88), (1, 4), (6, 18), (6, 19), (6, 20), (1, 11), (4, 94), (4, 95), (4, 96), (4, 145), (4, 146), (4, 147), (1, 7), (4, 181), (4, 182), (4, 183), (1, 9), (4, 27), (4, 28), (4, 29), (3, 36), (3, 44), (3, 38), (3, 39), (1, 211), (3, 41), (2, 18), (2, 20)] rfl
theorem gt_X11_say : ∀ w ∈ wsX11_say, w ∈ lw_tbl := gt_c (gto_X11_say _ List.mem_cons_self) (gt_a (gt_a (gt_a (gt_a (gt_a (gt_a (gt_a (gt_a (gt_t gto_X11_say) (gt_a gt_X8_set (gt_a gt_X3_doneUpTo (gt_a gt_X8_ask (gt_a gt_X7_recall (gt_a gt_X1_compare (gt_X8_has))))))) inX11) inX7) inX1) inX8) inX6) inX10) inX3)
theorem gw_X11_say : ∀ w ∈ wsV RL 175 RX11 yX11_say wsX11_say, w ∈ lw_tbl := gt_a (mem_pos [(6, 13), (6, 14), (6, 15), (1, 1)] rfl) gt_X11_say
theorem gx_X11_say : GoodIn (wsV RL 175 RX11 yX11_say wsX11_say) (wsV RL 175 RX11 yX11_say wsX11_say) := ggi (fun _ h => h) (gs_a (gs_e (by decide +kernel)) gs_X11_say)
set_option maxRecDepth 100000 in
theorem gto_X12_say : ∀ w ∈ (.code yX12_say cX12_say 6 (some .int) :: wsX12_say_own : List Cond), w ∈ lw_tbl := mem_pos [(8, 235), (7, 184), (7, 186), (0, 48), (1, 14), (7, 180), (7, 182), (0, 47), (8, 48), (8, 50), (0, 62), (7, 74), (7, 75), (6, 102), (6, 107), (6, 103), (6, 141), (6, 132), (6, 124), (6, 128), (6, 108), (6, 142), (6, 143)] rfl
theorem gt_X12_say : ∀ w ∈ wsX12_say, w ∈ lw_tbl := gt_c (gto_X12_say _ List.mem_cons_self) (gt_a (gt_a (gt_t gto_X12_say) (gt_a gt_X12_worthOf (gt_a gt_X12_noLetters (gt_a gt_X12_layAlike (gt_X12_isIn))))) inX12)
theorem gw_X12_say : ∀ w ∈ wsV RL 178 RX12 yX12_say wsX12_say, w ∈ lw_tbl := gt_a (mem_pos [(8, 232), (8, 233), (8, 234), (1, 14)] rfl) gt_X12_say
theorem gx_X12_say : GoodIn (wsV RL 178 RX12 yX12_say wsX12_say) (wsV RL 178 RX12 yX12_say wsX12_say) := ggi (fun _ h => h) (gs_a (gs_e (by decide +kernel)) gs_X12_say)
set_option maxRecDepth 100000 in
theorem gto_X11_count : ∀ w ∈ (.code yX11_count cX11_count 2 (some .int) :: wsX11_count_own : List Cond), w ∈ lw_tbl := mem_pos [(6, 25), (6, 18), (6, 19), (6, 20), (1, 11), (3, 44), (3, 34), (1, 102), (3, 35), (3, 36), (3, 37), (1, 130), (3, 38), (1, 207), (3, 41), (2, 108), (1, 131), (3, 42), (2, 176), (2, 178), (2, 180), (2, 183), (3, 32), (1, 45)] rfl
theorem gt_X11_count : ∀ w ∈ wsX11_count, w ∈ lw_tbl := gt_c (gto_X11_count _ List.mem_cons_self) (gt_a (gt_a (gt_a (gt_a (gt_a (gt_a (gt_a (gt_a (gt_t gto_X11_count) (gt_X3_doneUpTo)) inX11) inX8) inX6) inX7) inX3) inX2) inX9)
theorem gw_X11_count : ∀ w ∈ wsV RL 179 RX11 yX11_count wsX11_count, w ∈ lw_tbl := gt_a (mem_pos [(6, 22), (6, 23), (6, 24), (1, 1)] rfl) gt_X11_count
theorem gx_X11_count : GoodIn (wsV RL 179 RX11 yX11_count wsX11_count) (wsV RL 179 RX11 yX11_count wsX11_count) := ggi (fun _ h => h) (gs_a (gs_e (by decide +kernel)) gs_X11_count)
set_option maxRecDepth 100000 in
theorem gt_X12_count : ∀ w ∈ wsX12_count, w ∈ lw_tbl := mem_pos [(8, 239), (6, 102), (6, 103), (6, 107), (6, 131), (6, 138), (6, 156), (6, 132), (6, 133), (6, 167), (6, 168), (6, 169), (6, 170), (6, 110), (6, 171), (6, 173), (6, 175), (6, 177), (6, 179), (6, 181), (6, 183), (6, 185), (6, 187), (6, 189), (6, 191), (6, 193), (6, 195), (6, 197), (6, 199), (6, 201), (6, 203), (6, 205), (6, 207), (6, 209), (6, 211), (6, 213), (6, 215), (6, 217), (6, 219), (6, 221), (6, 223), (6, 225), (6, 227), (6, 229), (6, 231), (6, 233), (6, 235), (6, 237), (6, 239), (7, 1), (7, 3), (7, 5), (7, 7), (7, 9), (7, 11), (7, 13), (7, 15), (7, 17), (7, 19), (7, 21), (7, 23), (7, 25), (7, 27), (7, 29), (7, 31), (7, 33), (7, 35), (7, 37), (7, 39), (7, 41), (7, 43), (7, 45), (7, 47), (7, 49), (7, 51), (7, 53), (7, 55), (7, 57), (7, 59), (7, 61), (7, 63), (7, 65), (7, 67)] rfl
set_option maxRecDepth 100000 in
theorem gs_X12_count : ∀ w ∈ wsX12_count, gW w := gs_e (by decide +kernel)
theorem gw_X12_count : ∀ w ∈ wsV RL 182 RX12 yX12_count wsX12_count, w ∈ lw_tbl := gt_a (mem_pos [(8, 236), (8, 237), (8, 238), (1, 14)] rfl) gt_X12_count
theorem gx_X12_count : GoodIn (wsV RL 182 RX12 yX12_count wsX12_count) (wsV RL 182 RX12 yX12_count wsX12_count) := ggi (fun _ h => h) (gs_a (gs_e (by decide +kernel)) gs_X12_count)
