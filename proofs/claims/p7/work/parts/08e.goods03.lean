theorem gt_X12_next : ∀ w ∈ wsX12_next, w ∈ lw_tbl := gt_c (gto_X12_next _ List.mem_cons_self) (gt_a (gt_a (gt_t gto_X12_next) (gt_a gt_X12_guessWorth (gt_a gt_X12_isGuess (gt_a gt_X12_isIn (gt_X12_fits))))) inX12)
theorem gw_X12_next : ∀ w ∈ wsV RL 143 RX12 yX12_next wsX12_next, w ∈ lw_tbl := gt_a (mem_pos [(8, 171), (8, 172), (8, 173), (1, 14)] rfl) gt_X12_next
theorem gx_X12_next : GoodIn (wsV RL 143 RX12 yX12_next wsX12_next) (wsV RL 143 RX12 yX12_next wsX12_next) := ggi (fun _ h => h) (gs_a (gs_e (by decide +kernel)) gs_X12_next)
set_option maxRecDepth 100000 in
theorem gt_X11_house : ∀ w ∈ wsX11_house, w ∈ lw_tbl := mem_pos [(5, 129), (3, 42), (2, 176), (3, 45), (3, 47), (3, 49), (3, 51), (3, 53), (3, 55), (3, 57), (3, 59), (3, 61), (3, 63), (3, 65), (3, 67), (3, 69), (2, 203), (2, 205), (2, 207), (2, 209), (2, 211), (2, 213), (2, 215), (2, 217), (2, 219), (2, 221), (2, 223), (2, 225), (2, 227), (2, 229), (2, 231), (2, 233), (2, 235), (2, 237)] rfl
set_option maxRecDepth 100000 in
theorem gs_X11_house : ∀ w ∈ wsX11_house, gW w := gs_e (by decide +kernel)
theorem gw_X11_house : ∀ w ∈ wsV RL 144 RX11 yX11_house wsX11_house, w ∈ lw_tbl := gt_a (mem_pos [(5, 126), (5, 127), (5, 128), (1, 1)] rfl) gt_X11_house
theorem gx_X11_house : GoodIn (wsV RL 144 RX11 yX11_house wsX11_house) (wsV RL 144 RX11 yX11_house wsX11_house) := ggi (fun _ h => h) (gs_a (gs_e (by decide +kernel)) gs_X11_house)
set_option maxRecDepth 100000 in
theorem gt_X12_house : ∀ w ∈ wsX12_house, w ∈ lw_tbl := mem_pos [(8, 179), (6, 102), (6, 167), (6, 171), (6, 173), (6, 175), (6, 177), (6, 179), (6, 181), (6, 183), (6, 185), (6, 187), (6, 189), (6, 191), (6, 193), (6, 195), (6, 197), (6, 199), (6, 201), (6, 203), (6, 205), (6, 207), (6, 209), (6, 211), (6, 213), (6, 215), (6, 217), (6, 219), (6, 221), (6, 223), (6, 225), (6, 227), (6, 229), (6, 231), (6, 233), (6, 235), (6, 237), (6, 239), (7, 1), (7, 3), (7, 5), (7, 7), (7, 9), (7, 11), (7, 13), (7, 15), (7, 17), (7, 19), (7, 21), (7, 23), (7, 25), (7, 27), (7, 29), (7, 31), (7, 33), (7, 35), (7, 37), (7, 39), (7, 41), (7, 43), (7, 45), (7, 47), (7, 49), (7, 51), (7, 53), (7, 55), (7, 57), (7, 59), (7, 61), (7, 63), (7, 65), (7, 67)] rfl
set_option maxRecDepth 100000 in
theorem gs_X12_house : ∀ w ∈ wsX12_house, gW w := gs_e (by decide +kernel)
theorem gw_X12_house : ∀ w ∈ wsV RL 147 RX12 yX12_house wsX12_house, w ∈ lw_tbl := gt_a (mem_pos [(8, 176), (8, 177), (8, 178), (1, 14)] rfl) gt_X12_house
theorem gx_X12_house : GoodIn (wsV RL 147 RX12 yX12_house wsX12_house) (wsV RL 147 RX12 yX12_house wsX12_house) := ggi (fun _ h => h) (gs_a (gs_e (by decide +kernel)) gs_X12_house)
set_option maxRecDepth 100000 in
theorem gt_X2_has : ∀ w ∈ wsX2_has, w ∈ lw_tbl := mem_pos [(5, 137), (2, 175), (2, 203), (2, 205), (2, 207), (2, 209), (2, 211), (2, 213), (2, 215), (2, 217), (2, 219), (2, 221), (2, 223), (2, 225), (2, 227), (2, 229), (2, 231), (2, 233), (2, 235), (2, 237)] rfl
set_option maxRecDepth 100000 in
theorem gt_X2_paperBit : ∀ w ∈ wsX2_paperBit, w ∈ lw_tbl := mem_pos [(5, 148)] rfl
set_option maxRecDepth 100000 in
theorem gt_X2_printBit : ∀ w ∈ wsX2_printBit, w ∈ lw_tbl := mem_pos [(5, 151)] rfl
set_option maxRecDepth 100000 in
theorem gto_X2_compare : ∀ w ∈ (.code yX2_compare cX2_compare 4 none :: wsX2_compare_own : List Cond), w ∈ lw_tbl := mem_pos [(5, 145), (5, 146), (5, 147), (1, 12), (5, 149), (5, 150), (2, 192), (2, 196), (2, 197), (2, 199), (2, 195), (2, 193)] rfl
theorem gt_X2_compare : ∀ w ∈ wsX2_compare, w ∈ lw_tbl := gt_c (gto_X2_compare _ List.mem_cons_self) (gt_a (gt_a (gt_t gto_X2_compare) (gt_a gt_X2_paperBit (gt_X2_printBit))) inX2)
set_option maxRecDepth 100000 in
theorem gt_X2_tell : ∀ w ∈ wsX2_tell, w ∈ lw_tbl := mem_pos [(5, 155), (2, 200), (2, 184), (2, 202), (5, 156), (3, 157), (1, 16), (3, 158), (2, 203), (2, 205), (2, 207), (2, 209), (2, 211), (2, 213), (2, 215), (2, 217), (2, 219), (2, 221), (2, 223), (2, 225), (2, 227), (2, 229), (2, 231), (2, 233), (2, 235), (2, 237)] rfl
set_option maxRecDepth 100000 in
theorem gto_X2_addPrint : ∀ w ∈ (.code yX2_addPrint cX2_addPrint 6 (some .int) :: wsX2_addPrint_own : List Cond), w ∈ lw_tbl := mem_pos [(5, 160), (5, 142), (5, 144), (0, 23), (1, 12), (5, 149), (5, 150), (5, 152), (5, 154), (0, 24), (2, 177), (2, 192), (2, 193), (2, 194), (2, 179)] rfl
theorem gt_X2_addPrint : ∀ w ∈ wsX2_addPrint, w ∈ lw_tbl := gt_c (gto_X2_addPrint _ List.mem_cons_self) (gt_a (gt_a (gt_t gto_X2_addPrint) (gt_a gt_X2_compare (gt_a gt_X2_printBit (gt_X2_tell)))) inX2)
set_option maxRecDepth 100000 in
theorem gto_X2_addPaper : ∀ w ∈ (.code yX2_addPaper cX2_addPaper 6 (some .int) :: wsX2_addPaper_own : List Cond), w ∈ lw_tbl := mem_pos [(5, 141), (5, 142), (5, 144), (0, 23), (1, 12), (5, 146), (5, 147), (5, 152), (5, 154), (0, 24), (2, 179), (2, 195), (2, 196), (2, 177)] rfl
theorem gt_X2_addPaper : ∀ w ∈ wsX2_addPaper, w ∈ lw_tbl := gt_c (gto_X2_addPaper _ List.mem_cons_self) (gt_a (gt_a (gt_t gto_X2_addPaper) (gt_a gt_X2_compare (gt_a gt_X2_paperBit (gt_X2_tell)))) inX2)
set_option maxRecDepth 100000 in
theorem gto_X11_print : ∀ w ∈ (.code yX11_print cX11_print 5 (some .int) :: wsX11_print_own : List Cond), w ∈ lw_tbl := mem_pos [(5, 133), (5, 134), (5, 135), (5, 136), (1, 12), (5, 157), (5, 158), (5, 159), (5, 138), (5, 139), (5, 140), (3, 42), (2, 178), (3, 44), (2, 180)] rfl
theorem gt_X11_print : ∀ w ∈ wsX11_print, w ∈ lw_tbl := gt_c (gto_X11_print _ List.mem_cons_self) (gt_a (gt_a (gt_a (gt_t gto_X11_print) (gt_a gt_X2_has (gt_a gt_X2_addPrint (gt_X2_addPaper)))) inX11) inX2)
theorem gw_X11_print : ∀ w ∈ wsV RL 148 RX11 yX11_print wsX11_print, w ∈ lw_tbl := gt_a (mem_pos [(5, 130), (5, 131), (5, 132), (1, 1)] rfl) gt_X11_print
theorem gx_X11_print : GoodIn (wsV RL 148 RX11 yX11_print wsX11_print) (wsV RL 148 RX11 yX11_print wsX11_print) := ggi (fun _ h => h) (gs_a (gs_e (by decide +kernel)) gs_X11_print)
set_option maxRecDepth 100000 in
theorem gt_X12_isHouse : ∀ w ∈ wsX12_isHouse, w ∈ lw_tbl := mem_pos [(8, 187), (6, 167), (6, 171), (6, 173), (6, 175), (6, 177), (6, 179), (6, 181), (6, 183), (6, 185), (6, 187), (6, 189), (6, 191), (6, 193), (6, 195), (6, 197), (6, 199), (6, 201), (6, 203), (6, 205), (6, 207), (6, 209), (6, 211), (6, 213), (6, 215), (6, 217), (6, 219), (6, 221), (6, 223), (6, 225), (6, 227), (6, 229), (6, 231), (6, 233), (6, 235), (6, 237), (6, 239), (7, 1), (7, 3), (7, 5), (7, 7), (7, 9), (7, 11), (7, 13), (7, 15), (7, 17), (7, 19), (7, 21), (7, 23), (7, 25), (7, 27), (7, 29), (7, 31), (7, 33), (7, 35), (7, 37), (7, 39), (7, 41), (7, 43), (7, 45), (7, 47), (7, 49), (7, 51), (7, 53), (7, 55), (7, 57), (7, 59), (7, 61), (7, 63), (7, 65), (7, 67)] rfl
set_option maxRecDepth 100000 in
theorem gto_X12_print : ∀ w ∈ (.code yX12_print cX12_print 6 (some .int) :: wsX12_print_own : List Cond), w ∈ lw_tbl := mem_pos [(8, 183), (8, 184), (8, 186), (0, 76), (1, 14), (7, 78), (7, 79), (6, 102), (6, 168), (6, 158), (6, 159), (6, 160), (6, 161), (6, 103), (6, 169)] rfl
theorem gt_X12_print : ∀ w ∈ wsX12_print, w ∈ lw_tbl := gt_c (gto_X12_print _ List.mem_cons_self) (gt_a (gt_a (gt_t gto_X12_print) (gt_a gt_X12_isHouse (gt_X12_isIn))) inX12)
theorem gw_X12_print : ∀ w ∈ wsV RL 152 RX12 yX12_print wsX12_print, w ∈ lw_tbl := gt_a (mem_pos [(8, 180), (8, 181), (8, 182), (1, 14)] rfl) gt_X12_print
theorem gx_X12_print : GoodIn (wsV RL 152 RX12 yX12_print wsX12_print) (wsV RL 152 RX12 yX12_print wsX12_print) := ggi (fun _ h => h) (gs_a (gs_e (by decide +kernel)) gs_X12_print)
set_option maxRecDepth 100000 in
theorem gt_X2_having : ∀ w ∈ wsX2_having, w ∈ lw_tbl := mem_pos [(5, 168), (2, 177), (2, 192), (2, 194), (2, 193), (2, 203), (2, 205), (2, 207), (2, 209), (2, 211), (2, 213), (2, 215), (2, 217), (2, 219), (2, 221), (2, 223), (2, 225), (2, 227), (2, 229), (2, 231), (2, 233), (2, 235), (2, 237)] rfl
set_option maxRecDepth 100000 in
theorem gto_X11_had : ∀ w ∈ (.code yX11_had cX11_had 3 (some .int) :: wsX11_had_own : List Cond), w ∈ lw_tbl := mem_pos [(5, 164), (5, 165), (5, 166), (5, 167), (1, 12), (4, 42), (4, 44), (0, 10), (1, 1), (4, 46), (4, 47), (3, 42)] rfl
theorem gt_X11_had : ∀ w ∈ wsX11_had, w ∈ lw_tbl := gt_c (gto_X11_had _ List.mem_cons_self) (gt_a (gt_a (gt_a (gt_t gto_X11_had) (gt_a gt_X2_having (gt_a gt_X11_isDay (gt_X11_isEither)))) inX11) inX2)
theorem gw_X11_had : ∀ w ∈ wsV RL 153 RX11 yX11_had wsX11_had, w ∈ lw_tbl := gt_a (mem_pos [(5, 161), (5, 162), (5, 163), (1, 1)] rfl) gt_X11_had
theorem gx_X11_had : GoodIn (wsV RL 153 RX11 yX11_had wsX11_had) (wsV RL 153 RX11 yX11_had wsX11_had) := ggi (fun _ h => h) (gs_a (gs_e (by decide +kernel)) gs_X11_had)
set_option maxRecDepth 100000 in
theorem gto_X12_had : ∀ w ∈ (.code yX12_had cX12_had 5 (some .int) :: wsX12_had_own : List Cond), w ∈ lw_tbl := mem_pos [(8, 191), (7, 78), (7, 79), (1, 14), (6, 102), (6, 103), (6, 168), (6, 161), (6, 159), (6, 160)] rfl
theorem gt_X12_had : ∀ w ∈ wsX12_had, w ∈ lw_tbl := gt_c (gto_X12_had _ List.mem_cons_self) (gt_a (gt_a (gt_t gto_X12_had) (gt_X12_isIn)) inX12)
theorem gw_X12_had : ∀ w ∈ wsV RL 156 RX12 yX12_had wsX12_had, w ∈ lw_tbl := gt_a (mem_pos [(8, 188), (8, 189), (8, 190), (1, 14)] rfl) gt_X12_had
theorem gx_X12_had : GoodIn (wsV RL 156 RX12 yX12_had wsX12_had) (wsV RL 156 RX12 yX12_had wsX12_had) := ggi (fun _ h => h) (gs_a (gs_e (by decide +kernel)) gs_X12_had)
set_option maxRecDepth 100000 in
theorem gt_X2_send : ∀ w ∈ wsX2_send, w ∈ lw_tbl := mem_pos [(5, 176), (2, 182), (2, 186), (2, 188), (2, 190), (2, 184), (2, 202), (5, 156), (3, 157), (1, 16), (3, 158), (2, 203), (2, 205), (2, 207), (2, 209), (2, 211), (2, 213), (2, 215), (2, 217), (2, 219), (2, 221), (2, 223), (2, 225), (2, 227), (2, 229), (2, 231), (2, 233), (2, 235), (2, 237)] rfl
set_option maxRecDepth 100000 in
theorem gto_X11_letter : ∀ w ∈ (.code yX11_letter cX11_letter 3 (some .boolean) :: wsX11_letter_own : List Cond), w ∈ lw_tbl := mem_pos [(5, 172), (5, 134), (5, 135), (5, 136), (1, 12), (5, 173), (5, 174), (5, 175), (3, 42), (2, 183), (3, 44)] rfl
theorem gt_X11_letter : ∀ w ∈ wsX11_letter, w ∈ lw_tbl := gt_c (gto_X11_letter _ List.mem_cons_self) (gt_a (gt_a (gt_a (gt_t gto_X11_letter) (gt_a gt_X2_has (gt_X2_send))) inX11) inX2)
theorem gw_X11_letter : ∀ w ∈ wsV RL 157 RX11 yX11_letter wsX11_letter, w ∈ lw_tbl := gt_a (mem_pos [(5, 169), (5, 170), (5, 171), (1, 1)] rfl) gt_X11_letter
theorem gx_X11_letter : GoodIn (wsV RL 157 RX11 yX11_letter wsX11_letter) (wsV RL 157 RX11 yX11_letter wsX11_letter) := ggi (fun _ h => h) (gs_a (gs_e (by decide +kernel)) gs_X11_letter)
set_option maxRecDepth 100000 in
theorem gto_X12_letter : ∀ w ∈ (.code yX12_letter cX12_letter 3 (some .boolean) :: wsX12_letter_own : List Cond), w ∈ lw_tbl := mem_pos [(8, 195), (8, 184), (8, 186), (0, 76), (1, 14), (6, 102), (6, 170), (6, 162), (6, 163), (6, 164), (6, 103)] rfl
theorem gt_X12_letter : ∀ w ∈ wsX12_letter, w ∈ lw_tbl := gt_c (gto_X12_letter _ List.mem_cons_self) (gt_a (gt_a (gt_t gto_X12_letter) (gt_X12_isHouse)) inX12)
theorem gw_X12_letter : ∀ w ∈ wsV RL 161 RX12 yX12_letter wsX12_letter, w ∈ lw_tbl := gt_a (mem_pos [(8, 192), (8, 193), (8, 194), (1, 14)] rfl) gt_X12_letter
theorem gx_X12_letter : GoodIn (wsV RL 161 RX12 yX12_letter wsX12_letter) (wsV RL 161 RX12 yX12_letter wsX12_letter) := ggi (fun _ h => h) (gs_a (gs_e (by decide +kernel)) gs_X12_letter)
set_option maxRecDepth 100000 in
theorem gt_X2_knownBy : ∀ w ∈ wsX2_knownBy, w ∈ lw_tbl := mem_pos [(5, 188), (2, 201), (2, 203), (2, 205), (2, 207), (2, 209), (2, 211), (2, 213), (2, 215), (2, 217), (2, 219), (2, 221), (2, 223), (2, 225), (2, 227), (2, 229), (2, 231), (2, 233), (2, 235), (2, 237)] rfl
set_option maxRecDepth 100000 in
theorem gt_X2_toldBy : ∀ w ∈ wsX2_toldBy, w ∈ lw_tbl := mem_pos [(5, 192), (2, 200), (2, 203), (2, 205), (2, 207), (2, 209), (2, 211), (2, 213), (2, 215), (2, 217), (2, 219), (2, 221), (2, 223), (2, 225), (2, 227), (2, 229), (2, 231), (2, 233), (2, 235), (2, 237)] rfl
set_option maxRecDepth 100000 in
theorem gto_X2_deliver : ∀ w ∈ (.code yX2_deliver cX2_deliver 3 none :: wsX2_deliver_own : List Cond), w ∈ lw_tbl := mem_pos [(5, 196), (5, 185), (5, 186), (5, 187), (1, 12), (2, 182), (2, 190), (2, 201), (2, 188), (2, 186)] rfl
theorem gt_X2_deliver : ∀ w ∈ wsX2_deliver, w ∈ lw_tbl := gt_c (gto_X2_deliver _ List.mem_cons_self) (gt_a (gt_a (gt_t gto_X2_deliver) (gt_X2_knownBy)) inX2)
set_option maxRecDepth 100000 in
theorem gto_X2_settle : ∀ w ∈ (.code yX2_settle cX2_settle 4 none :: wsX2_settle_own : List Cond), w ∈ lw_tbl := mem_pos [(5, 184), (5, 185), (5, 186), (5, 187), (1, 12), (5, 189), (5, 190), (5, 191), (5, 193), (5, 195), (0, 25), (2, 202), (2, 201), (2, 184), (5, 197), (3, 154), (1, 16), (3, 155)] rfl
theorem gt_X2_settle : ∀ w ∈ wsX2_settle, w ∈ lw_tbl := gt_c (gto_X2_settle _ List.mem_cons_self) (gt_a (gt_a (gt_t gto_X2_settle) (gt_a gt_X2_knownBy (gt_a gt_X2_toldBy (gt_X2_deliver)))) inX2)
set_option maxRecDepth 100000 in
theorem gto_X11_knows : ∀ w ∈ (.code yX11_knows cX11_knows 8 (some .int) :: wsX11_knows_own : List Cond), w ∈ lw_tbl := mem_pos [(5, 180), (5, 200), (5, 186), (5, 187), (1, 12), (5, 134), (5, 135), (5, 136), (3, 76), (3, 77), (1, 1), (4, 42), (4, 44), (0, 10), (5, 181), (5, 182), (5, 183), (5, 199), (5, 150), (5, 198), (5, 147), (3, 42), (2, 178), (2, 180)] rfl
theorem gt_X11_knows : ∀ w ∈ wsX11_knows, w ∈ lw_tbl := gt_c (gto_X11_knows _ List.mem_cons_self) (gt_a (gt_a (gt_a (gt_t gto_X11_knows) (gt_a gt_X2_knownBy (gt_a gt_X2_has (gt_a gt_X11_within (gt_a gt_X11_isDay (gt_a gt_X2_settle (gt_a gt_X2_printBit (gt_X2_paperBit)))))))) inX11) inX2)
theorem gw_X11_knows : ∀ w ∈ wsV RL 162 RX11 yX11_knows wsX11_knows, w ∈ lw_tbl := gt_a (mem_pos [(5, 177), (5, 178), (5, 179), (1, 1)] rfl) gt_X11_knows
theorem gx_X11_knows : GoodIn (wsV RL 162 RX11 yX11_knows wsX11_knows) (wsV RL 162 RX11 yX11_knows wsX11_knows) := ggi (fun _ h => h) (gs_a (gs_e (by decide +kernel)) gs_X11_knows)
set_option maxRecDepth 100000 in
theorem gt_X12_isThere : ∀ w ∈ wsX12_isThere, w ∈ lw_tbl := mem_pos [(8, 215), (6, 168), (6, 169), (6, 171), (6, 173), (6, 175), (6, 177), (6, 179), (6, 181), (6, 183), (6, 185), (6, 187), (6, 189), (6, 191), (6, 193), (6, 195), (6, 197), (6, 199), (6, 201), (6, 203), (6, 205), (6, 207), (6, 209), (6, 211), (6, 213), (6, 215), (6, 217), (6, 219), (6, 221), (6, 223), (6, 225), (6, 227), (6, 229), (6, 231), (6, 233), (6, 235), (6, 237), (6, 239), (7, 1), (7, 3), (7, 5), (7, 7), (7, 9), (7, 11), (7, 13), (7, 15), (7, 17), (7, 19), (7, 21), (7, 23), (7, 25), (7, 27), (7, 29), (7, 31), (7, 33), (7, 35), (7, 37), (7, 39), (7, 41), (7, 43), (7, 45), (7, 47), (7, 49), (7, 51), (7, 53), (7, 55), (7, 57), (7, 59), (7, 61), (7, 63), (7, 65), (7, 67)] rfl
set_option maxRecDepth 100000 in
theorem gto_X12_knowsNow : ∀ w ∈ (.code yX12_knowsNow cX12_knowsNow 4 (some .boolean) :: wsX12_knowsNow_own : List Cond), w ∈ lw_tbl := mem_pos [(8, 211), (8, 212), (8, 214), (0, 80), (1, 14), (6, 165), (6, 158), (6, 161)] rfl
theorem gt_X12_knowsNow : ∀ w ∈ wsX12_knowsNow, w ∈ lw_tbl := gt_c (gto_X12_knowsNow _ List.mem_cons_self) (gt_a (gt_a (gt_t gto_X12_knowsNow) (gt_X12_isThere)) inX12)
set_option maxRecDepth 100000 in
theorem gto_X12_passes : ∀ w ∈ (.code yX12_passes cX12_passes 5 none :: wsX12_passes_own : List Cond), w ∈ lw_tbl := mem_pos [(8, 207), (8, 208), (8, 210), (0, 79), (1, 14), (6, 167), (6, 166), (6, 164), (6, 165), (6, 162), (6, 163)] rfl
theorem gt_X12_passes : ∀ w ∈ wsX12_passes, w ∈ lw_tbl := gt_c (gto_X12_passes _ List.mem_cons_self) (gt_a (gt_a (gt_t gto_X12_passes) (gt_X12_knowsNow)) inX12)
set_option maxRecDepth 100000 in
theorem gt_X12_nobodyKnows : ∀ w ∈ wsX12_nobodyKnows, w ∈ lw_tbl := mem_pos [(8, 203), (6, 165), (6, 171), (6, 173), (6, 175), (6, 177), (6, 179), (6, 181), (6, 183), (6, 185), (6, 187), (6, 189), (6, 191), (6, 193), (6, 195), (6, 197), (6, 199), (6, 201), (6, 203), (6, 205), (6, 207), (6, 209), (6, 211), (6, 213), (6, 215), (6, 217), (6, 219), (6, 221), (6, 223), (6, 225), (6, 227), (6, 229), (6, 231), (6, 233), (6, 235), (6, 237), (6, 239), (7, 1), (7, 3), (7, 5), (7, 7), (7, 9), (7, 11), (7, 13), (7, 15), (7, 17), (7, 19), (7, 21), (7, 23), (7, 25), (7, 27), (7, 29), (7, 31), (7, 33), (7, 35), (7, 37), (7, 39), (7, 41), (7, 43), (7, 45), (7, 47), (7, 49), (7, 51), (7, 53), (7, 55), (7, 57), (7, 59), (7, 61), (7, 63), (7, 65), (7, 67)] rfl
set_option maxRecDepth 100000 in
theorem gto_X12_knows : ∀ w ∈ (.code yX12_knows cX12_knows 6 (some .int) :: wsX12_knows_own : List Cond), w ∈ lw_tbl := mem_pos [(8, 199), (8, 204), (8, 206), (0, 78), (1, 14), (7, 78), (7, 79), (8, 200), (8, 202), (0, 77), (8, 184), (8, 186), (0, 76), (6, 102), (6, 168), (6, 103), (6, 170), (6, 165), (6, 169)] rfl
theorem gt_X12_knows : ∀ w ∈ wsX12_knows, w ∈ lw_tbl := gt_c (gto_X12_knows _ List.mem_cons_self) (gt_a (gt_a (gt_t gto_X12_knows) (gt_a gt_X12_passes (gt_a gt_X12_isIn (gt_a gt_X12_nobodyKnows (gt_X12_isHouse))))) inX12)
theorem gw_X12_knows : ∀ w ∈ wsV RL 165 RX12 yX12_knows wsX12_knows, w ∈ lw_tbl := gt_a (mem_pos [(8, 196), (8, 197), (8, 198), (1, 14)] rfl) gt_X12_knows
theorem gx_X12_knows : GoodIn (wsV RL 165 RX12 yX12_knows wsX12_knows) (wsV RL 165 RX12 yX12_knows wsX12_knows) := ggi (fun _ h => h) (gs_a (gs_e (by decide +kernel)) gs_X12_knows)
set_option maxRecDepth 100000 in
theorem gto_X2_areMet : ∀ w ∈ (.code yX2_areMet cX2_areMet 4 (some .boolean) :: wsX2_areMet_own : List Cond), w ∈ lw_tbl := mem_pos [(5, 213), (5, 149), (5, 150), (1, 12), (2, 199), (2, 177), (2, 197)] rfl
theorem gt_X2_areMet : ∀ w ∈ wsX2_areMet, w ∈ lw_tbl := gt_c (gto_X2_areMet _ List.mem_cons_self) (gt_a (gt_a (gt_t gto_X2_areMet) (gt_X2_printBit)) inX2)
set_option maxRecDepth 100000 in
theorem gto_X4_firstDay : ∀ w ∈ (.code yX4_firstDay cX4_firstDay 4 (some .int) :: wsX4_firstDay_own : List Cond), w ∈ lw_tbl := mem_pos [(5, 208), (5, 209), (5, 186), (5, 187), (1, 12), (5, 210), (5, 211), (5, 212), (3, 14), (2, 185), (2, 174)] rfl
theorem gt_X4_firstDay : ∀ w ∈ wsX4_firstDay, w ∈ lw_tbl := gt_c (gto_X4_firstDay _ List.mem_cons_self) (gt_a (gt_a (gt_a (gt_t gto_X4_firstDay) (gt_a gt_X2_knownBy (gt_X2_areMet))) inX4) inX2)
set_option maxRecDepth 100000 in
theorem gto_X11_met : ∀ w ∈ (.code yX11_met cX11_met 1 (some .int) :: wsX11_met_own : List Cond), w ∈ lw_tbl := mem_pos [(5, 204), (5, 181), (5, 182), (5, 183), (1, 12), (5, 205), (5, 206), (5, 207), (1, 13), (3, 42), (3, 44), (3, 43)] rfl
theorem gt_X11_met : ∀ w ∈ wsX11_met, w ∈ lw_tbl := gt_c (gto_X11_met _ List.mem_cons_self) (gt_a (gt_a (gt_a (gt_a (gt_t gto_X11_met) (gt_a gt_X2_settle (gt_X4_firstDay))) inX11) inX2) inX4)
theorem gw_X11_met : ∀ w ∈ wsV RL 166 RX11 yX11_met wsX11_met, w ∈ lw_tbl := gt_a (mem_pos [(5, 201), (5, 202), (5, 203), (1, 1)] rfl) gt_X11_met
theorem gx_X11_met : GoodIn (wsV RL 166 RX11 yX11_met wsX11_met) (wsV RL 166 RX11 yX11_met wsX11_met) := ggi (fun _ h => h) (gs_a (gs_e (by decide +kernel)) gs_X11_met)
set_option maxRecDepth 100000 in
theorem gt_X12_meets : ∀ w ∈ wsX12_meets, w ∈ lw_tbl := mem_pos [(8, 227), (6, 168), (6, 165), (6, 159), (6, 169), (7, 223), (3, 154), (1, 16), (3, 155), (6, 160), (7, 224), (3, 157), (3, 158), (6, 171), (6, 173), (6, 175), (6, 177), (6, 179), (6, 181), (6, 183), (6, 185), (6, 187), (6, 189), (6, 191), (6, 193), (6, 195), (6, 197), (6, 199), (6, 201), (6, 203), (6, 205), (6, 207), (6, 209), (6, 211), (6, 213), (6, 215), (6, 217), (6, 219), (6, 221), (6, 223), (6, 225), (6, 227), (6, 229), (6, 231), (6, 233), (6, 235), (6, 237), (6, 239), (7, 1), (7, 3), (7, 5), (7, 7), (7, 9), (7, 11), (7, 13), (7, 15), (7, 17), (7, 19), (7, 21), (7, 23), (7, 25), (7, 27), (7, 29), (7, 31), (7, 33), (7, 35), (7, 37), (7, 39), (7, 41), (7, 43), (7, 45), (7, 47), (7, 49), (7, 51), (7, 53), (7, 55), (7, 57), (7, 59), (7, 61), (7, 63), (7, 65), (7, 67)] rfl
set_option maxRecDepth 100000 in
theorem gto_X12_metBy : ∀ w ∈ (.code yX12_metBy cX12_metBy 5 (some .int) :: wsX12_metBy_own : List Cond), w ∈ lw_tbl := mem_pos [(8, 223), (8, 224), (8, 226), (0, 82), (1, 14), (8, 204), (8, 206), (0, 78), (8, 200), (8, 202), (0, 77), (6, 167)] rfl
theorem gt_X12_metBy : ∀ w ∈ wsX12_metBy, w ∈ lw_tbl := gt_c (gto_X12_metBy _ List.mem_cons_self) (gt_a (gt_a (gt_t gto_X12_metBy) (gt_a gt_X12_meets (gt_a gt_X12_passes (gt_X12_nobodyKnows)))) inX12)
set_option maxRecDepth 100000 in
theorem gto_X12_met : ∀ w ∈ (.code yX12_met cX12_met 1 (some .int) :: wsX12_met_own : List Cond), w ∈ lw_tbl := mem_pos [(8, 219), (8, 220), (8, 222), (0, 81), (1, 14), (6, 102), (6, 170), (6, 103)] rfl
theorem gt_X12_met : ∀ w ∈ wsX12_met, w ∈ lw_tbl := gt_c (gto_X12_met _ List.mem_cons_self) (gt_a (gt_a (gt_t gto_X12_met) (gt_X12_metBy)) inX12)
theorem gw_X12_met : ∀ w ∈ wsV RL 169 RX12 yX12_met wsX12_met, w ∈ lw_tbl := gt_a (mem_pos [(8, 216), (8, 217), (8, 218), (1, 14)] rfl) gt_X12_met
theorem gx_X12_met : GoodIn (wsV RL 169 RX12 yX12_met wsX12_met) (wsV RL 169 RX12 yX12_met wsX12_met) := ggi (fun _ h => h) (gs_a (gs_e (by decide +kernel)) gs_X12_met)
set_option maxRecDepth 100000 in
theorem gto_X4_passDay : ∀ w ∈ (.code yX4_passDay cX4_passDay 4 (some .int) :: wsX4_passDay_own : List Cond), w ∈ lw_tbl := mem_pos [(5, 235), (5, 236), (5, 190), (5, 191), (1, 12), (3, 15), (3, 16), (3, 14), (2, 181), (2, 191), (2, 189), (2, 187)] rfl
theorem gt_X4_passDay : ∀ w ∈ wsX4_passDay, w ∈ lw_tbl := gt_c (gto_X4_passDay _ List.mem_cons_self) (gt_a (gt_a (gt_a (gt_t gto_X4_passDay) (gt_X2_toldBy)) inX4) inX2)
set_option maxRecDepth 100000 in
theorem gto_X4_anyMet : ∀ w ∈ (.code yX4_anyMet cX4_anyMet 2 (some .boolean) :: wsX4_anyMet_own : List Cond), w ∈ lw_tbl := mem_pos [(6, 0), (5, 210), (5, 211), (5, 212), (1, 12), (3, 14), (2, 174), (3, 16), (3, 15)] rfl
theorem gt_X4_anyMet : ∀ w ∈ wsX4_anyMet, w ∈ lw_tbl := gt_c (gto_X4_anyMet _ List.mem_cons_self) (gt_a (gt_a (gt_a (gt_t gto_X4_anyMet) (gt_X2_areMet)) inX4) inX2)
set_option maxRecDepth 100000 in
theorem gto_X4_meetingBy : ∀ w ∈ (.code yX4_meetingBy cX4_meetingBy 8 (some .int) :: wsX4_meetingBy_own : List Cond), w ∈ lw_tbl := mem_pos [(5, 230), (5, 209), (5, 186), (5, 187), (1, 12), (5, 232), (5, 234), (0, 28), (1, 13), (5, 237), (5, 239), (0, 29), (5, 210), (5, 211), (5, 212), (3, 16), (3, 14), (2, 191), (2, 181), (1, 1), (4, 58), (2, 185)] rfl
theorem gt_X4_meetingBy : ∀ w ∈ wsX4_meetingBy, w ∈ lw_tbl := gt_c (gto_X4_meetingBy _ List.mem_cons_self) (gt_a (gt_a (gt_a (gt_t gto_X4_meetingBy) (gt_a gt_X2_knownBy (gt_a gt_X4_passDay (gt_a gt_X4_anyMet (gt_a gt_X2_areMet (gt_X11_rowsUpTo)))))) inX4) inX2)
set_option maxRecDepth 100000 in
theorem gto_X4_tryAll : ∀ w ∈ (.code yX4_tryAll cX4_tryAll 9 (some .int) :: wsX4_tryAll_own : List Cond), w ∈ lw_tbl := mem_pos [(5, 225), (5, 209), (5, 186), (5, 187), (1, 12), (5, 227), (5, 229), (0, 27), (1, 13), (3, 14), (2, 174), (5, 226), (3, 6), (3, 8), (3, 10), (3, 12)] rfl
theorem gt_X4_tryAll : ∀ w ∈ wsX4_tryAll, w ∈ lw_tbl := gt_c (gto_X4_tryAll _ List.mem_cons_self) (gt_a (gt_a (gt_a (gt_t gto_X4_tryAll) (gt_a gt_X2_knownBy (gt_X4_meetingBy))) inX4) inX2)
set_option maxRecDepth 100000 in
theorem gto_X4_search : ∀ w ∈ (.code yX4_search cX4_search 7 none :: wsX4_search_own : List Cond), w ∈ lw_tbl := mem_pos [(5, 221), (5, 209), (5, 186), (5, 187), (1, 12), (5, 222), (5, 224), (0, 26), (1, 13), (3, 6), (3, 8), (3, 10), (3, 12), (3, 14), (2, 174), (2, 198)] rfl
theorem gt_X4_search : ∀ w ∈ wsX4_search, w ∈ lw_tbl := gt_c (gto_X4_search _ List.mem_cons_self) (gt_a (gt_a (gt_a (gt_t gto_X4_search) (gt_a gt_X2_knownBy (gt_X4_tryAll))) inX4) inX2)
set_option maxRecDepth 100000 in
theorem gto_X11_sooner : ∀ w ∈ (.code yX11_sooner cX11_sooner 3 (some .int) :: wsX11_sooner_own : List Cond), w ∈ lw_tbl := mem_pos [(5, 217), (5, 218), (5, 219), (5, 220), (1, 13), (3, 76), (3, 77), (1, 1), (5, 181), (5, 182), (5, 183), (1, 12), (5, 205), (5, 206), (5, 207), (3, 42), (3, 44), (3, 43), (3, 7), (3, 9), (3, 11), (3, 13)] rfl
theorem gt_X11_sooner : ∀ w ∈ wsX11_sooner, w ∈ lw_tbl := gt_c (gto_X11_sooner _ List.mem_cons_self) (gt_a (gt_a (gt_a (gt_a (gt_t gto_X11_sooner) (gt_a gt_X4_search (gt_a gt_X11_within (gt_a gt_X2_settle (gt_X4_firstDay))))) inX11) inX4) inX2)
theorem gw_X11_sooner : ∀ w ∈ wsV RL 170 RX11 yX11_sooner wsX11_sooner, w ∈ lw_tbl := gt_a (mem_pos [(5, 214), (5, 215), (5, 216), (1, 1)] rfl) gt_X11_sooner
theorem gx_X11_sooner : GoodIn (wsV RL 170 RX11 yX11_sooner wsX11_sooner) (wsV RL 170 RX11 yX11_sooner wsX11_sooner) := ggi (fun _ h => h) (gs_a (gs_e (by decide +kernel)) gs_X11_sooner)
set_option maxRecDepth 100000 in
theorem gt_X12_wasSent : ∀ w ∈ wsX12_wasSent, w ∈ lw_tbl := mem_pos [(8, 235), (6, 170), (6, 162), (6, 163), (6, 164), (6, 171), (6, 173), (6, 175), (6, 177), (6, 179), (6, 181), (6, 183), (6, 185), (6, 187), (6, 189), (6, 191), (6, 193), (6, 195), (6, 197), (6, 199), (6, 201), (6, 203), (6, 205), (6, 207), (6, 209), (6, 211), (6, 213), (6, 215), (6, 217), (6, 219), (6, 221), (6, 223), (6, 225), (6, 227), (6, 229), (6, 231), (6, 233), (6, 235), (6, 237), (6, 239), (7, 1), (7, 3), (7, 5), (7, 7), (7, 9), (7, 11), (7, 13), (7, 15), (7, 17), (7, 19), (7, 21), (7, 23), (7, 25), (7, 27), (7, 29), (7, 31), (7, 33), (7, 35), (7, 37), (7, 39), (7, 41), (7, 43), (7, 45), (7, 47), (7, 49), (7, 51), (7, 53), (7, 55), (7, 57), (7, 59), (7, 61), (7, 63), (7, 65), (7, 67)] rfl
set_option maxRecDepth 100000 in
theorem gto_X12_sooner : ∀ w ∈ (.code yX12_sooner cX12_sooner 11 (some .int) :: wsX12_sooner_own : List Cond), w ∈ lw_tbl := mem_pos [(8, 231), (8, 232), (8, 234), (0, 83), (1, 14), (8, 220), (8, 222), (0, 81), (7, 78), (7, 79), (6, 102), (6, 170), (6, 103), (6, 167), (6, 162), (6, 163), (6, 164)] rfl
theorem gt_X12_sooner : ∀ w ∈ wsX12_sooner, w ∈ lw_tbl := gt_c (gto_X12_sooner _ List.mem_cons_self) (gt_a (gt_a (gt_t gto_X12_sooner) (gt_a gt_X12_wasSent (gt_a gt_X12_metBy (gt_X12_isIn)))) inX12)
theorem gw_X12_sooner : ∀ w ∈ wsV RL 173 RX12 yX12_sooner wsX12_sooner, w ∈ lw_tbl := gt_a (mem_pos [(8, 228), (8, 229), (8, 230), (1, 14)] rfl) gt_X12_sooner
theorem gx_X12_sooner : GoodIn (wsV RL 173 RX12 yX12_sooner wsX12_sooner) (wsV RL 173 RX12 yX12_sooner wsX12_sooner) := ggi (fun _ h => h) (gs_a (gs_e (by decide +kernel)) gs_X12_sooner)
set_option maxRecDepth 100000 in
theorem gt_X1_oneSide : ∀ w ∈ wsX1_oneSide, w ∈ lw_tbl := mem_pos [(6, 8), (6, 9), (2, 34), (2, 33), (6, 10), (6, 11), (1, 16), (6, 12), (4, 185), (3, 154), (3, 155), (2, 37), (2, 39), (2, 41), (2, 43), (2, 45), (2, 47), (2, 49), (2, 51), (2, 53), (2, 55), (2, 57), (2, 59), (2, 61)] rfl
set_option maxRecDepth 100000 in
theorem gto_X11_even : ∀ w ∈ (.code yX11_even cX11_even 4 (some .int) :: wsX11_even_own : List Cond), w ∈ lw_tbl := mem_pos [(6, 4), (4, 42), (4, 44), (0, 10), (1, 1), (4, 46), (4, 47), (4, 145), (4, 146), (4, 147), (1, 7), (4, 191), (4, 192), (4, 193), (1, 9), (4, 199), (4, 200), (4, 201), (6, 5), (6, 6), (6, 7), (4, 78), (3, 38), (3, 39)] rfl
theorem gt_X11_even : ∀ w ∈ wsX11_even, w ∈ lw_tbl := gt_c (gto_X11_even _ List.mem_cons_self) (gt_a (gt_a (gt_a (gt_a (gt_a (gt_a (gt_a (gt_t gto_X11_even) (gt_a gt_X11_isDay (gt_a gt_X11_isEither (gt_a gt_X7_recall (gt_a gt_X1_meansBy (gt_a gt_X1_distance (gt_X1_oneSide))))))) inX11) inX7) inX6) inX8) inX10) inX1)
theorem gw_X11_even : ∀ w ∈ wsV RL 174 RX11 yX11_even wsX11_even, w ∈ lw_tbl := gt_a (mem_pos [(6, 1), (6, 2), (6, 3), (1, 1)] rfl) gt_X11_even
theorem gx_X11_even : GoodIn (wsV RL 174 RX11 yX11_even wsX11_even) (wsV RL 174 RX11 yX11_even wsX11_even) := ggi (fun _ h => h) (gs_a (gs_e (by decide +kernel)) gs_X11_even)
set_option maxRecDepth 100000 in
theorem gto_X12_even : ∀ w ∈ (.code yX12_even cX12_even 5 (some .int) :: wsX12_even_own : List Cond), w ∈ lw_tbl := mem_pos [(8, 76), (8, 69), (8, 71), (0, 65), (1, 14), (8, 64), (8, 66), (0, 64), (7, 78), (7, 79), (8, 60), (8, 62), (0, 63), (6, 102), (6, 103), (8, 3), (6, 145), (8, 77), (4, 175), (1, 16), (4, 176), (7, 223), (3, 154), (3, 155)] rfl
theorem gt_X12_even : ∀ w ∈ wsX12_even, w ∈ lw_tbl := gt_c (gto_X12_even _ List.mem_cons_self) (gt_a (gt_a (gt_t gto_X12_even) (gt_a gt_X12_mean (gt_a gt_X12_apart (gt_a gt_X12_isIn (gt_X12_layMeans))))) inX12)
theorem gw_X12_even : ∀ w ∈ wsV RL 177 RX12 yX12_even wsX12_even, w ∈ lw_tbl := gt_a (mem_pos [(8, 73), (8, 74), (8, 75), (1, 14)] rfl) gt_X12_even
theorem gx_X12_even : GoodIn (wsV RL 177 RX12 yX12_even wsX12_even) (wsV RL 177 RX12 yX12_even wsX12_even) := ggi (fun _ h => h) (gs_a (gs_e (by decide +kernel)) gs_X12_even)
set_option maxRecDepth 100000 in
theorem gto_X3_doneUpTo : ∀ w ∈ (.code yX3_doneUpTo cX3_doneUpTo 4 (some .int) :: wsX3_doneUpTo_own : List Cond), w ∈ lw_tbl := mem_pos [(6, 21), (5, 50), (5, 15), (5, 16), (1, 11), (2, 107), (2, 117)] rfl
theorem gt_X3_doneUpTo : ∀ w ∈ wsX3_doneUpTo, w ∈ lw_tbl := gt_c (gto_X3_doneUpTo _ List.mem_cons_self) (gt_a (gt_a (gt_t gto_X3_doneUpTo) (gt_X3_isDone)) inX3)
set_option maxRecDepth 100000 in
theorem gto_X11_say : ∀ w ∈ (.code yX11_say cX11_say 4 (some .int) :: wsX11_say_own : List Cond), w ∈ lw_tbl := mem_pos [(6, 16), (6, 17), (4, 87), (4, 88), (1, 4), (6, 18), (6, 19), (6, 20), (1, 11), (4, 94), (4, 95), (4, 96), (4, 145), (4, 146), (4, 147), (1, 7), (4, 181), (4, 182), (4, 183), (1, 9), (4, 27), (4, 28), (4, 29), (3, 36), (3, 44), (3, 38), (3, 39), (1, 211), (3, 41), (2, 18), (2, 20)] rfl
theorem gt_X11_say : ∀ w ∈ wsX11_say, w ∈ lw_tbl := gt_c (gto_X11_say _ List.mem_cons_self) (gt_a (gt_a (gt_a (gt_a (gt_a (gt_a (gt_a (gt_a (gt_t gto_X11_say) (gt_a gt_X8_set (gt_a gt_X3_doneUpTo (gt_a gt_X8_ask (gt_a gt_X7_recall (gt_a gt_X1_compare (gt_X8_has))))))) inX11) inX7) inX1) inX8) inX6) inX10) inX3)
theorem gw_X11_say : ∀ w ∈ wsV RL 178 RX11 yX11_say wsX11_say, w ∈ lw_tbl := gt_a (mem_pos [(6, 13), (6, 14), (6, 15), (1, 1)] rfl) gt_X11_say
theorem gx_X11_say : GoodIn (wsV RL 178 RX11 yX11_say wsX11_say) (wsV RL 178 RX11 yX11_say wsX11_say) := ggi (fun _ h => h) (gs_a (gs_e (by decide +kernel)) gs_X11_say)
set_option maxRecDepth 100000 in
theorem gto_X12_say : ∀ w ∈ (.code yX12_say cX12_say 6 (some .int) :: wsX12_say_own : List Cond), w ∈ lw_tbl := mem_pos [(8, 239), (7, 188), (7, 190), (0, 48), (1, 14), (7, 184), (7, 186), (0, 47), (8, 52), (8, 54), (0, 62), (7, 78), (7, 79), (6, 102), (6, 107), (6, 103), (6, 141), (6, 132), (6, 124), (6, 128), (6, 108), (6, 142), (6, 143)] rfl
theorem gt_X12_say : ∀ w ∈ wsX12_say, w ∈ lw_tbl := gt_c (gto_X12_say _ List.mem_cons_self) (gt_a (gt_a (gt_t gto_X12_say) (gt_a gt_X12_worthOf (gt_a gt_X12_noLetters (gt_a gt_X12_layAlike (gt_X12_isIn))))) inX12)
theorem gw_X12_say : ∀ w ∈ wsV RL 181 RX12 yX12_say wsX12_say, w ∈ lw_tbl := gt_a (mem_pos [(8, 236), (8, 237), (8, 238), (1, 14)] rfl) gt_X12_say
theorem gx_X12_say : GoodIn (wsV RL 181 RX12 yX12_say wsX12_say) (wsV RL 181 RX12 yX12_say wsX12_say) := ggi (fun _ h => h) (gs_a (gs_e (by decide +kernel)) gs_X12_say)
set_option maxRecDepth 100000 in
theorem gto_X11_count : ∀ w ∈ (.code yX11_count cX11_count 2 (some .int) :: wsX11_count_own : List Cond), w ∈ lw_tbl := mem_pos [(6, 25), (6, 18), (6, 19), (6, 20), (1, 11), (3, 44), (3, 34), (1, 102), (3, 35), (3, 36), (3, 37), (1, 130), (3, 38), (1, 207), (3, 41), (2, 108), (1, 131), (3, 42), (2, 176), (2, 178), (2, 180), (2, 183), (3, 32), (1, 45)] rfl
theorem gt_X11_count : ∀ w ∈ wsX11_count, w ∈ lw_tbl := gt_c (gto_X11_count _ List.mem_cons_self) (gt_a (gt_a (gt_a (gt_a (gt_a (gt_a (gt_a (gt_a (gt_t gto_X11_count) (gt_X3_doneUpTo)) inX11) inX8) inX6) inX7) inX3) inX2) inX9)
theorem gw_X11_count : ∀ w ∈ wsV RL 182 RX11 yX11_count wsX11_count, w ∈ lw_tbl := gt_a (mem_pos [(6, 22), (6, 23), (6, 24), (1, 1)] rfl) gt_X11_count
theorem gx_X11_count : GoodIn (wsV RL 182 RX11 yX11_count wsX11_count) (wsV RL 182 RX11 yX11_count wsX11_count) := ggi (fun _ h => h) (gs_a (gs_e (by decide +kernel)) gs_X11_count)
set_option maxRecDepth 100000 in
theorem gt_X12_count : ∀ w ∈ wsX12_count, w ∈ lw_tbl := mem_pos [(9, 3), (6, 102), (6, 103), (6, 107), (6, 131), (6, 138), (6, 156), (6, 132), (6, 133), (6, 167), (6, 168), (6, 169), (6, 170), (6, 110), (6, 171), (6, 173), (6, 175), (6, 177), (6, 179), (6, 181), (6, 183), (6, 185), (6, 187), (6, 189), (6, 191), (6, 193), (6, 195), (6, 197), (6, 199), (6, 201), (6, 203), (6, 205), (6, 207), (6, 209), (6, 211), (6, 213), (6, 215), (6, 217), (6, 219), (6, 221), (6, 223), (6, 225), (6, 227), (6, 229), (6, 231), (6, 233), (6, 235), (6, 237), (6, 239), (7, 1), (7, 3), (7, 5), (7, 7), (7, 9), (7, 11), (7, 13), (7, 15), (7, 17), (7, 19), (7, 21), (7, 23), (7, 25), (7, 27), (7, 29), (7, 31), (7, 33), (7, 35), (7, 37), (7, 39), (7, 41), (7, 43), (7, 45), (7, 47), (7, 49), (7, 51), (7, 53), (7, 55), (7, 57), (7, 59), (7, 61), (7, 63), (7, 65), (7, 67)] rfl
set_option maxRecDepth 100000 in
theorem gs_X12_count : ∀ w ∈ wsX12_count, gW w := gs_e (by decide +kernel)
theorem gw_X12_count : ∀ w ∈ wsV RL 185 RX12 yX12_count wsX12_count, w ∈ lw_tbl := gt_a (mem_pos [(9, 0), (9, 1), (9, 2), (1, 14)] rfl) gt_X12_count
theorem gx_X12_count : GoodIn (wsV RL 185 RX12 yX12_count wsX12_count) (wsV RL 185 RX12 yX12_count wsX12_count) := ggi (fun _ h => h) (gs_a (gs_e (by decide +kernel)) gs_X12_count)

