def LyC : List Ds := [(0, 9, [3, 7, 0]), (0, 2, [4, 5, 6, 0]), (1, 240, []), (1, 180, []), (1, 60, []), (0, 6, [3, 8, 12, 13, 0, 14, 16, 23, 0]), (0, 7, [9, 10, 11, 0, 0]), (2, 1708, []), (1, 1700, []), (2, 1700, []), (0, 3, [0, 0, 0, 0, 0, 0, 1]), (1, 40, []), (0, 4, [15, 0]), (2, 808, []), (0, 5, [17, 18, 19, 20, 21, 22, 0]), (1, 200, []), (1, 200, []), (1, 200, []), (1, 200, []), (1, 200, []), (2, 200, []), (0, 8, [24, 25, 26, 27, 28, 29, 30, 31, 0, 0]), (1, 200, []), (1, 200, []), (1, 200, []), (2, 600, []), (1, 200, []), (1, 200, []), (1, 200, []), (1, 200, [])]
def LyM : List Ds := [(0, 10, [0, 3, 4, 5, 6, 0, 0, 7, 8, 9, 10, 11, 12, 13, 14, 0, 15, 16, 17, 18, 0, 19, 20, 21, 0, 22, 0, 23, 24, 25, 26, 27, 28, 29, 30, 31, 0, 0, 0, 0, 0, 0, 0, 0, 0, 0, 0, 0, 0, 0, 0, 0, 0, 0, 0, 0]), (1, 60, []), (1, 60, []), (1, 60, []), (1, 60, []), (1, 220, []), (1, 3520, []), (1, 3520, []), (1, 220, []), (1, 220, []), (1, 220, []), (1, 220, []), (1, 220, []), (1, 1760, []), (1, 1760, []), (1, 8, []), (1, 8, []), (1, 3600, []), (1, 3600, []), (1, 3600, []), (1, 40, []), (1, 220, []), (1, 220, []), (1, 220, []), (1, 220, []), (1, 220, []), (1, 220, []), (1, 220, []), (1, 220, []), (1, 220, [])]
theorem inT1 {w : Cond} (h : w ∈ tables_1_1) (g : goodWord w = true) : w ∈ wsG := wsG_of (List.mem_append_right (k2_sels lw_privs) (show w ∈ tables_1 from List.mem_append_left _ h)) g
theorem inT2 {w : Cond} (h : w ∈ tables_1_2) (g : goodWord w = true) : w ∈ wsG := wsG_of (List.mem_append_right (k2_sels lw_privs) (show w ∈ tables_1 from List.mem_append_right _ (List.mem_append_left _ h))) g
theorem inT3 {w : Cond} (h : w ∈ tables_1_3) (g : goodWord w = true) : w ∈ wsG := wsG_of (List.mem_append_right (k2_sels lw_privs) (show w ∈ tables_1 from List.mem_append_right _ (List.mem_append_right _ (List.mem_append_left _ h)))) g
theorem inT4 {w : Cond} (h : w ∈ tables_1_4) (g : goodWord w = true) : w ∈ wsG := wsG_of (List.mem_append_right (k2_sels lw_privs) (show w ∈ tables_1 from List.mem_append_right _ (List.mem_append_right _ (List.mem_append_right _ (List.mem_append_left _ h))))) g
theorem inT5 {w : Cond} (h : w ∈ tables_1_5) (g : goodWord w = true) : w ∈ wsG := wsG_of (List.mem_append_right (k2_sels lw_privs) (show w ∈ tables_1 from List.mem_append_right _ (List.mem_append_right _ (List.mem_append_right _ (List.mem_append_right _ (h)))))) g
theorem inP1 {q : MethodName × Nat} (h : q ∈ lw_privs_1) : Cond.selects q.1.cls q.1 q.1 ∈ wsG := wsG_of (List.mem_append_left tables_1 (List.mem_map_of_mem (show q ∈ lw_privs from List.mem_append_left _ h))) rfl
theorem inP2 {q : MethodName × Nat} (h : q ∈ lw_privs_2) : Cond.selects q.1.cls q.1 q.1 ∈ wsG := wsG_of (List.mem_append_left tables_1 (List.mem_map_of_mem (show q ∈ lw_privs from List.mem_append_right _ (List.mem_append_left _ h)))) rfl
theorem inP3 {q : MethodName × Nat} (h : q ∈ lw_privs_3) : Cond.selects q.1.cls q.1 q.1 ∈ wsG := wsG_of (List.mem_append_left tables_1 (List.mem_map_of_mem (show q ∈ lw_privs from List.mem_append_right _ (List.mem_append_right _ (List.mem_append_left _ h))))) rfl
theorem inP4 {q : MethodName × Nat} (h : q ∈ lw_privs_4) : Cond.selects q.1.cls q.1 q.1 ∈ wsG := wsG_of (List.mem_append_left tables_1 (List.mem_map_of_mem (show q ∈ lw_privs from List.mem_append_right _ (List.mem_append_right _ (List.mem_append_right _ (h)))))) rfl
set_option maxRecDepth 100000 in
theorem inF_X0 : ∀ w ∈ u_ws RX0 TX0 4, w ∈ wsG := List.forall_mem_cons.mpr ⟨inT1 (List.mem_of_getElem? (i := 38) rfl) rfl, List.forall_mem_cons.mpr ⟨inT1 (List.mem_of_getElem? (i := 40) rfl) rfl, List.forall_mem_cons.mpr ⟨inT1 (List.mem_of_getElem? (i := 42) rfl) rfl, List.forall_mem_cons.mpr ⟨inT1 (List.mem_of_getElem? (i := 44) rfl) rfl, fun _ h => absurd h List.not_mem_nil⟩⟩⟩⟩
theorem KC_X0 : KC 2 RX0 TX0 4 tyX0 := ⟨rfl, inF_X0, tyX0_ok, nmX0⟩
set_option maxRecDepth 100000 in
theorem inF_X1 : ∀ w ∈ u_ws RX1 TX1 7, w ∈ wsG := List.forall_mem_cons.mpr ⟨inT1 (List.mem_of_getElem? (i := 120) rfl) rfl, List.forall_mem_cons.mpr ⟨inT1 (List.mem_of_getElem? (i := 122) rfl) rfl, List.forall_mem_cons.mpr ⟨inT1 (List.mem_of_getElem? (i := 124) rfl) rfl, List.forall_mem_cons.mpr ⟨inT1 (List.mem_of_getElem? (i := 126) rfl) rfl, List.forall_mem_cons.mpr ⟨inT1 (List.mem_of_getElem? (i := 128) rfl) rfl, List.forall_mem_cons.mpr ⟨inT1 (List.mem_of_getElem? (i := 130) rfl) rfl, List.forall_mem_cons.mpr ⟨inT1 (List.mem_of_getElem? (i := 132) rfl) rfl, fun _ h => absurd h List.not_mem_nil⟩⟩⟩⟩⟩⟩⟩
theorem KC_X1 : KC 3 RX1 TX1 7 tyX1 := ⟨rfl, inF_X1, tyX1_ok, nmX1⟩
set_option maxRecDepth 100000 in
theorem inF_X3 : ∀ w ∈ u_ws RX3 TX3 2, w ∈ wsG := List.forall_mem_cons.mpr ⟨inT1 (List.mem_of_getElem? (i := 143) rfl) rfl, List.forall_mem_cons.mpr ⟨inT1 (List.mem_of_getElem? (i := 145) rfl) rfl, fun _ h => absurd h List.not_mem_nil⟩⟩
theorem KC_X3 : KC 4 RX3 TX3 2 tyX3 := ⟨rfl, inF_X3, tyX3_ok, nmX3⟩
set_option maxRecDepth 100000 in
theorem inF_X5 : ∀ w ∈ u_ws RX5 TX5 7, w ∈ wsG := List.forall_mem_cons.mpr ⟨inT1 (List.mem_of_getElem? (i := 161) rfl) rfl, List.forall_mem_cons.mpr ⟨inT1 (List.mem_of_getElem? (i := 163) rfl) rfl, List.forall_mem_cons.mpr ⟨inT1 (List.mem_of_getElem? (i := 165) rfl) rfl, List.forall_mem_cons.mpr ⟨inT1 (List.mem_of_getElem? (i := 167) rfl) rfl, List.forall_mem_cons.mpr ⟨inT1 (List.mem_of_getElem? (i := 169) rfl) rfl, List.forall_mem_cons.mpr ⟨inT1 (List.mem_of_getElem? (i := 171) rfl) rfl, List.forall_mem_cons.mpr ⟨inT1 (List.mem_of_getElem? (i := 173) rfl) rfl, fun _ h => absurd h List.not_mem_nil⟩⟩⟩⟩⟩⟩⟩
theorem KC_X5 : KC 5 RX5 TX5 7 tyX5 := ⟨rfl, inF_X5, tyX5_ok, nmX5⟩
set_option maxRecDepth 100000 in
theorem inF_X6 : ∀ w ∈ u_ws RX6 TX6 9, w ∈ wsG := List.forall_mem_cons.mpr ⟨inT1 (List.mem_of_getElem? (i := 226) rfl) rfl, List.forall_mem_cons.mpr ⟨inT1 (List.mem_of_getElem? (i := 228) rfl) rfl, List.forall_mem_cons.mpr ⟨inT1 (List.mem_of_getElem? (i := 230) rfl) rfl, List.forall_mem_cons.mpr ⟨inT1 (List.mem_of_getElem? (i := 232) rfl) rfl, List.forall_mem_cons.mpr ⟨inT1 (List.mem_of_getElem? (i := 234) rfl) rfl, List.forall_mem_cons.mpr ⟨inT1 (List.mem_of_getElem? (i := 236) rfl) rfl, List.forall_mem_cons.mpr ⟨inT1 (List.mem_of_getElem? (i := 238) rfl) rfl, List.forall_mem_cons.mpr ⟨inT2 (List.mem_of_getElem? (i := 0) rfl) rfl, List.forall_mem_cons.mpr ⟨inT2 (List.mem_of_getElem? (i := 2) rfl) rfl, fun _ h => absurd h List.not_mem_nil⟩⟩⟩⟩⟩⟩⟩⟩⟩
theorem KC_X6 : KC 6 RX6 TX6 9 tyX6 := ⟨rfl, inF_X6, tyX6_ok, nmX6⟩
set_option maxRecDepth 100000 in
theorem inF_X7 : ∀ w ∈ u_ws RX7 TX7 5, w ∈ wsG := List.forall_mem_cons.mpr ⟨inT1 (List.mem_of_getElem? (i := 70) rfl) rfl, List.forall_mem_cons.mpr ⟨inT1 (List.mem_of_getElem? (i := 72) rfl) rfl, List.forall_mem_cons.mpr ⟨inT1 (List.mem_of_getElem? (i := 74) rfl) rfl, List.forall_mem_cons.mpr ⟨inT1 (List.mem_of_getElem? (i := 76) rfl) rfl, List.forall_mem_cons.mpr ⟨inT1 (List.mem_of_getElem? (i := 78) rfl) rfl, fun _ h => absurd h List.not_mem_nil⟩⟩⟩⟩⟩
theorem KC_X7 : KC 7 RX7 TX7 5 tyX7 := ⟨rfl, inF_X7, tyX7_ok, nmX7⟩
set_option maxRecDepth 100000 in
theorem inF_X8 : ∀ w ∈ u_ws RX8 TX8 10, w ∈ wsG := List.forall_mem_cons.mpr ⟨inT1 (List.mem_of_getElem? (i := 192) rfl) rfl, List.forall_mem_cons.mpr ⟨inT1 (List.mem_of_getElem? (i := 194) rfl) rfl, List.forall_mem_cons.mpr ⟨inT1 (List.mem_of_getElem? (i := 196) rfl) rfl, List.forall_mem_cons.mpr ⟨inT1 (List.mem_of_getElem? (i := 198) rfl) rfl, List.forall_mem_cons.mpr ⟨inT1 (List.mem_of_getElem? (i := 200) rfl) rfl, List.forall_mem_cons.mpr ⟨inT1 (List.mem_of_getElem? (i := 202) rfl) rfl, List.forall_mem_cons.mpr ⟨inT1 (List.mem_of_getElem? (i := 204) rfl) rfl, List.forall_mem_cons.mpr ⟨inT1 (List.mem_of_getElem? (i := 206) rfl) rfl, List.forall_mem_cons.mpr ⟨inT1 (List.mem_of_getElem? (i := 208) rfl) rfl, List.forall_mem_cons.mpr ⟨inT1 (List.mem_of_getElem? (i := 210) rfl) rfl, fun _ h => absurd h List.not_mem_nil⟩⟩⟩⟩⟩⟩⟩⟩⟩⟩
theorem KC_X8 : KC 8 RX8 TX8 10 tyX8 := ⟨rfl, inF_X8, tyX8_ok, nmX8⟩
set_option maxRecDepth 100000 in
theorem inF_X10 : ∀ w ∈ u_ws RX10 TX10 3, w ∈ wsG := List.forall_mem_cons.mpr ⟨inT2 (List.mem_of_getElem? (i := 8) rfl) rfl, List.forall_mem_cons.mpr ⟨inT2 (List.mem_of_getElem? (i := 10) rfl) rfl, List.forall_mem_cons.mpr ⟨inT2 (List.mem_of_getElem? (i := 12) rfl) rfl, fun _ h => absurd h List.not_mem_nil⟩⟩⟩
theorem KC_X10 : KC 9 RX10 TX10 3 tyX10 := ⟨rfl, inF_X10, tyX10_ok, nmX10⟩
set_option maxRecDepth 100000 in
theorem inF_X11 : ∀ w ∈ u_ws RX11 TX11 56, w ∈ wsG := List.forall_mem_cons.mpr ⟨inT4 (List.mem_of_getElem? (i := 157) rfl) rfl, List.forall_mem_cons.mpr ⟨inT4 (List.mem_of_getElem? (i := 159) rfl) rfl, List.forall_mem_cons.mpr ⟨inT4 (List.mem_of_getElem? (i := 161) rfl) rfl, List.forall_mem_cons.mpr ⟨inT4 (List.mem_of_getElem? (i := 163) rfl) rfl, List.forall_mem_cons.mpr ⟨inT4 (List.mem_of_getElem? (i := 165) rfl) rfl, List.forall_mem_cons.mpr ⟨inT4 (List.mem_of_getElem? (i := 167) rfl) rfl, List.forall_mem_cons.mpr ⟨inT4 (List.mem_of_getElem? (i := 169) rfl) rfl, List.forall_mem_cons.mpr ⟨inT4 (List.mem_of_getElem? (i := 171) rfl) rfl, List.forall_mem_cons.mpr ⟨inT4 (List.mem_of_getElem? (i := 173) rfl) rfl, List.forall_mem_cons.mpr ⟨inT4 (List.mem_of_getElem? (i := 175) rfl) rfl, List.forall_mem_cons.mpr ⟨inT4 (List.mem_of_getElem? (i := 177) rfl) rfl, List.forall_mem_cons.mpr ⟨inT4 (List.mem_of_getElem? (i := 179) rfl) rfl, List.forall_mem_cons.mpr ⟨inT4 (List.mem_of_getElem? (i := 181) rfl) rfl, List.forall_mem_cons.mpr ⟨inT4 (List.mem_of_getElem? (i := 183) rfl) rfl, List.forall_mem_cons.mpr ⟨inT4 (List.mem_of_getElem? (i := 185) rfl) rfl, List.forall_mem_cons.mpr ⟨inT4 (List.mem_of_getElem? (i := 187) rfl) rfl, List.forall_mem_cons.mpr ⟨inT4 (List.mem_of_getElem? (i := 189) rfl) rfl, List.forall_mem_cons.mpr ⟨inT4 (List.mem_of_getElem? (i := 191) rfl) rfl, List.forall_mem_cons.mpr ⟨inT4 (List.mem_of_getElem? (i := 193) rfl) rfl, List.forall_mem_cons.mpr ⟨inT4 (List.mem_of_getElem? (i := 195) rfl) rfl, List.forall_mem_cons.mpr ⟨inT4 (List.mem_of_getElem? (i := 197) rfl) rfl, List.forall_mem_cons.mpr ⟨inT4 (List.mem_of_getElem? (i := 199) rfl) rfl, List.forall_mem_cons.mpr ⟨inT4 (List.mem_of_getElem? (i := 201) rfl) rfl, List.forall_mem_cons.mpr ⟨inT4 (List.mem_of_getElem? (i := 203) rfl) rfl, List.forall_mem_cons.mpr ⟨inT4 (List.mem_of_getElem? (i := 205) rfl) rfl, List.forall_mem_cons.mpr ⟨inT4 (List.mem_of_getElem? (i := 207) rfl) rfl, List.forall_mem_cons.mpr ⟨inT4 (List.mem_of_getElem? (i := 209) rfl) rfl, List.forall_mem_cons.mpr ⟨inT4 (List.mem_of_getElem? (i := 211) rfl) rfl, List.forall_mem_cons.mpr ⟨inT4 (List.mem_of_getElem? (i := 213) rfl) rfl, List.forall_mem_cons.mpr ⟨inT4 (List.mem_of_getElem? (i := 215) rfl) rfl, List.forall_mem_cons.mpr ⟨inT4 (List.mem_of_getElem? (i := 217) rfl) rfl, List.forall_mem_cons.mpr ⟨inT4 (List.mem_of_getElem? (i := 219) rfl) rfl, List.forall_mem_cons.mpr ⟨inT4 (List.mem_of_getElem? (i := 221) rfl) rfl, List.forall_mem_cons.mpr ⟨inT4 (List.mem_of_getElem? (i := 223) rfl) rfl, List.forall_mem_cons.mpr ⟨inT4 (List.mem_of_getElem? (i := 225) rfl) rfl, List.forall_mem_cons.mpr ⟨inT4 (List.mem_of_getElem? (i := 227) rfl) rfl, List.forall_mem_cons.mpr ⟨inT4 (List.mem_of_getElem? (i := 229) rfl) rfl, List.forall_mem_cons.mpr ⟨inT4 (List.mem_of_getElem? (i := 231) rfl) rfl, List.forall_mem_cons.mpr ⟨inT4 (List.mem_of_getElem? (i := 233) rfl) rfl, List.forall_mem_cons.mpr ⟨inT4 (List.mem_of_getElem? (i := 235) rfl) rfl, List.forall_mem_cons.mpr ⟨inT4 (List.mem_of_getElem? (i := 237) rfl) rfl, List.forall_mem_cons.mpr ⟨inT4 (List.mem_of_getElem? (i := 239) rfl) rfl, List.forall_mem_cons.mpr ⟨inT5 (List.mem_of_getElem? (i := 1) rfl) rfl, List.forall_mem_cons.mpr ⟨inT5 (List.mem_of_getElem? (i := 3) rfl) rfl, List.forall_mem_cons.mpr ⟨inT5 (List.mem_of_getElem? (i := 5) rfl) rfl, List.forall_mem_cons.mpr ⟨inT5 (List.mem_of_getElem? (i := 7) rfl) rfl, List.forall_mem_cons.mpr ⟨inT5 (List.mem_of_getElem? (i := 9) rfl) rfl, List.forall_mem_cons.mpr ⟨inT5 (List.mem_of_getElem? (i := 11) rfl) rfl, List.forall_mem_cons.mpr ⟨inT5 (List.mem_of_getElem? (i := 13) rfl) rfl, List.forall_mem_cons.mpr ⟨inT5 (List.mem_of_getElem? (i := 15) rfl) rfl, List.forall_mem_cons.mpr ⟨inT5 (List.mem_of_getElem? (i := 17) rfl) rfl, List.forall_mem_cons.mpr ⟨inT5 (List.mem_of_getElem? (i := 19) rfl) rfl, List.forall_mem_cons.mpr ⟨inT5 (List.mem_of_getElem? (i := 21) rfl) rfl, List.forall_mem_cons.mpr ⟨inT5 (List.mem_of_getElem? (i := 23) rfl) rfl, List.forall_mem_cons.mpr ⟨inT5 (List.mem_of_getElem? (i := 25) rfl) rfl, List.forall_mem_cons.mpr ⟨inT5 (List.mem_of_getElem? (i := 27) rfl) rfl, fun _ h => absurd h List.not_mem_nil⟩⟩⟩⟩⟩⟩⟩⟩⟩⟩⟩⟩⟩⟩⟩⟩⟩⟩⟩⟩⟩⟩⟩⟩⟩⟩⟩⟩⟩⟩⟩⟩⟩⟩⟩⟩⟩⟩⟩⟩⟩⟩⟩⟩⟩⟩⟩⟩⟩⟩⟩⟩⟩⟩⟩⟩
theorem KC_X11 : KC 10 RX11 TX11 56 tyX11 := ⟨rfl, inF_X11, tyX11_ok, nmX11⟩
theorem fl_X10_10 : Cond.fieldLink RX10 10 "SideWork" "acts" "LSideWork$Acts;" ∈ wsG := inT2 (List.mem_of_getElem? (i := 5) rfl) rfl
theorem fg_X10_10 : FG LyC RX10 10 0 0 3 := ⟨9, RX10, TX10, 3, tyX10, _, KC_X10, rfl, rfl, by decide, fl_X10_10⟩
theorem fl_X10_21 : Cond.fieldLink RX10 21 "SideWork" "machine" "LSideWork$Machine;" ∈ wsG := inT2 (List.mem_of_getElem? (i := 6) rfl) rfl
theorem fg_X10_21 : FG LyC RX10 21 0 1 7 := ⟨9, RX10, TX10, 3, tyX10, _, KC_X10, rfl, rfl, by decide, fl_X10_21⟩
theorem fl_X10_25 : Cond.fieldLink RX10 25 "SideWork" "runs" "I" ∈ wsG := inT2 (List.mem_of_getElem? (i := 7) rfl) rfl
theorem fg_X10_25 : FG LyC RX10 25 0 2 0 := ⟨9, RX10, TX10, 3, tyX10, _, KC_X10, rfl, rfl, by decide, fl_X10_25⟩
theorem fp_X10_25 : FP LyC RX10 25 0 2 0 := ⟨9, RX10, TX10, 3, tyX10, _, KC_X10, rfl, rfl, by decide, fl_X10_25, rfl, rfl⟩
theorem fl_X10_48 : Cond.fieldLink RX10 48 "SideWork$Machine" "course" "LSideWork$Course;" ∈ wsG := inT1 (List.mem_of_getElem? (i := 217) rfl) rfl
theorem fg_X10_48 : FG LyC RX10 48 5 2 12 := ⟨6, RX6, TX6, 9, tyX6, _, KC_X6, rfl, rfl, by decide, fl_X10_48⟩
theorem fl_X10_52 : Cond.fieldLink RX10 52 "SideWork$Course" "ending" "I" ∈ wsG := inT1 (List.mem_of_getElem? (i := 108) rfl) rfl
theorem fg_X10_52 : FG LyC RX10 52 10 3 0 := ⟨3, RX1, TX1, 7, tyX1, _, KC_X1, rfl, rfl, by decide, fl_X10_52⟩
theorem fp_X10_52 : FP LyC RX10 52 10 3 0 := ⟨3, RX1, TX1, 7, tyX1, _, KC_X1, rfl, rfl, by decide, fl_X10_52, rfl, rfl⟩
theorem fl_X10_57 : Cond.fieldLink RX10 57 "SideWork$Course" "value" "J" ∈ wsG := inT1 (List.mem_of_getElem? (i := 118) rfl) rfl
theorem fg_X10_57 : FG LyC RX10 57 10 6 1 := ⟨3, RX1, TX1, 7, tyX1, _, KC_X1, rfl, rfl, by decide, fl_X10_57⟩
theorem fp_X10_57 : FP LyC RX10 57 10 6 1 := ⟨3, RX1, TX1, 7, tyX1, _, KC_X1, rfl, rfl, by decide, fl_X10_57, rfl, rfl⟩
theorem fl_X10_67 : Cond.fieldLink RX10 67 "SideWork$Course" "code" "I" ∈ wsG := inT1 (List.mem_of_getElem? (i := 111) rfl) rfl
theorem fg_X10_67 : FG LyC RX10 67 10 4 0 := ⟨3, RX1, TX1, 7, tyX1, _, KC_X1, rfl, rfl, by decide, fl_X10_67⟩
theorem fp_X10_67 : FP LyC RX10 67 10 4 0 := ⟨3, RX1, TX1, 7, tyX1, _, KC_X1, rfl, rfl, by decide, fl_X10_67, rfl, rfl⟩
theorem fl_X10_70 : Cond.fieldLink RX10 70 "SideWork$Course" "at" "I" ∈ wsG := inT1 (List.mem_of_getElem? (i := 115) rfl) rfl
theorem fg_X10_70 : FG LyC RX10 70 10 5 0 := ⟨3, RX1, TX1, 7, tyX1, _, KC_X1, rfl, rfl, by decide, fl_X10_70⟩
theorem fp_X10_70 : FP LyC RX10 70 10 5 0 := ⟨3, RX1, TX1, 7, tyX1, _, KC_X1, rfl, rfl, by decide, fl_X10_70, rfl, rfl⟩
theorem fl_X10_73 : Cond.fieldLink RX10 73 "SideWork$Course" "steps" "I" ∈ wsG := inT1 (List.mem_of_getElem? (i := 103) rfl) rfl
theorem fg_X10_73 : FG LyC RX10 73 10 1 0 := ⟨3, RX1, TX1, 7, tyX1, _, KC_X1, rfl, rfl, by decide, fl_X10_73⟩
theorem fp_X10_73 : FP LyC RX10 73 10 1 0 := ⟨3, RX1, TX1, 7, tyX1, _, KC_X1, rfl, rfl, by decide, fl_X10_73, rfl, rfl⟩
theorem fl_X10_76 : Cond.fieldLink RX10 76 "SideWork$Course" "failures" "I" ∈ wsG := inT1 (List.mem_of_getElem? (i := 105) rfl) rfl
theorem fg_X10_76 : FG LyC RX10 76 10 2 0 := ⟨3, RX1, TX1, 7, tyX1, _, KC_X1, rfl, rfl, by decide, fl_X10_76⟩
theorem fp_X10_76 : FP LyC RX10 76 10 2 0 := ⟨3, RX1, TX1, 7, tyX1, _, KC_X1, rfl, rfl, by decide, fl_X10_76, rfl, rfl⟩
theorem fl_X10_79 : Cond.fieldLink RX10 79 "SideWork$Machine" "memory" "LSideWork$Memory;" ∈ wsG := inT1 (List.mem_of_getElem? (i := 215) rfl) rfl
theorem fg_X10_79 : FG LyC RX10 79 5 1 8 := ⟨6, RX6, TX6, 9, tyX6, _, KC_X6, rfl, rfl, by decide, fl_X10_79⟩
theorem fl_X10_116 : Cond.fieldLink RX10 116 "SideWork$Machine" "outSize" "I" ∈ wsG := inT1 (List.mem_of_getElem? (i := 221) rfl) rfl
theorem fg_X10_116 : FG LyC RX10 116 5 4 0 := ⟨6, RX6, TX6, 9, tyX6, _, KC_X6, rfl, rfl, by decide, fl_X10_116⟩
theorem fp_X10_116 : FP LyC RX10 116 5 4 0 := ⟨6, RX6, TX6, 9, tyX6, _, KC_X6, rfl, rfl, by decide, fl_X10_116, rfl, rfl⟩
theorem fl_X10_119 : Cond.fieldLink RX10 119 "SideWork$Machine" "outRow" "[I" ∈ wsG := inT1 (List.mem_of_getElem? (i := 219) rfl) rfl
theorem fg_X10_119 : FG LyC RX10 119 5 3 13 := ⟨6, RX6, TX6, 9, tyX6, _, KC_X6, rfl, rfl, by decide, fl_X10_119⟩
theorem fl_X10_123 : Cond.fieldLink RX10 123 "SideWork$Acts" "size" "I" ∈ wsG := inT1 (List.mem_of_getElem? (i := 37) rfl) rfl
theorem fg_X10_123 : FG LyC RX10 123 1 3 0 := ⟨2, RX0, TX0, 4, tyX0, _, KC_X0, rfl, rfl, by decide, fl_X10_123⟩
theorem fp_X10_123 : FP LyC RX10 123 1 3 0 := ⟨2, RX0, TX0, 4, tyX0, _, KC_X0, rfl, rfl, by decide, fl_X10_123, rfl, rfl⟩
theorem fl_X11_7 : Cond.fieldLink RX11 7 "SideWorkModel" "kind" "[I" ∈ wsG := inT4 (List.mem_of_getElem? (i := 102) rfl) rfl
theorem fg_X11_7 : FG LyM RX11 7 0 1 3 := ⟨10, RX11, TX11, 56, tyX11, _, KC_X11, rfl, rfl, by decide, fl_X11_7⟩
theorem fl_X11_13 : Cond.fieldLink RX11 13 "SideWorkModel" "argA" "[I" ∈ wsG := inT4 (List.mem_of_getElem? (i := 103) rfl) rfl
theorem fg_X11_13 : FG LyM RX11 13 0 2 4 := ⟨10, RX11, TX11, 56, tyX11, _, KC_X11, rfl, rfl, by decide, fl_X11_13⟩
theorem fl_X11_16 : Cond.fieldLink RX11 16 "SideWorkModel" "argB" "[I" ∈ wsG := inT4 (List.mem_of_getElem? (i := 104) rfl) rfl
theorem fg_X11_16 : FG LyM RX11 16 0 3 5 := ⟨10, RX11, TX11, 56, tyX11, _, KC_X11, rfl, rfl, by decide, fl_X11_16⟩
theorem fl_X11_19 : Cond.fieldLink RX11 19 "SideWorkModel" "argC" "[I" ∈ wsG := inT4 (List.mem_of_getElem? (i := 105) rfl) rfl
theorem fg_X11_19 : FG LyM RX11 19 0 4 6 := ⟨10, RX11, TX11, 56, tyX11, _, KC_X11, rfl, rfl, by decide, fl_X11_19⟩
theorem fl_X11_22 : Cond.fieldLink RX11 22 "SideWorkModel" "thingSize" "[I" ∈ wsG := inT4 (List.mem_of_getElem? (i := 108) rfl) rfl
theorem fg_X11_22 : FG LyM RX11 22 0 7 7 := ⟨10, RX11, TX11, 56, tyX11, _, KC_X11, rfl, rfl, by decide, fl_X11_22⟩
theorem fl_X11_25 : Cond.fieldLink RX11 25 "SideWorkModel" "placeType" "[I" ∈ wsG := inT4 (List.mem_of_getElem? (i := 109) rfl) rfl
theorem fg_X11_25 : FG LyM RX11 25 0 8 8 := ⟨10, RX11, TX11, 56, tyX11, _, KC_X11, rfl, rfl, by decide, fl_X11_25⟩
theorem fl_X11_28 : Cond.fieldLink RX11 28 "SideWorkModel" "placeNumber" "[I" ∈ wsG := inT4 (List.mem_of_getElem? (i := 110) rfl) rfl
theorem fg_X11_28 : FG LyM RX11 28 0 9 9 := ⟨10, RX11, TX11, 56, tyX11, _, KC_X11, rfl, rfl, by decide, fl_X11_28⟩
theorem fl_X11_31 : Cond.fieldLink RX11 31 "SideWorkModel" "laterAct" "[I" ∈ wsG := inT4 (List.mem_of_getElem? (i := 111) rfl) rfl
theorem fg_X11_31 : FG LyM RX11 31 0 10 10 := ⟨10, RX11, TX11, 56, tyX11, _, KC_X11, rfl, rfl, by decide, fl_X11_31⟩
theorem fl_X11_34 : Cond.fieldLink RX11 34 "SideWorkModel" "laterFrame" "[I" ∈ wsG := inT4 (List.mem_of_getElem? (i := 112) rfl) rfl
theorem fg_X11_34 : FG LyM RX11 34 0 11 11 := ⟨10, RX11, TX11, 56, tyX11, _, KC_X11, rfl, rfl, by decide, fl_X11_34⟩
theorem fl_X11_37 : Cond.fieldLink RX11 37 "SideWorkModel" "laterState" "[I" ∈ wsG := inT4 (List.mem_of_getElem? (i := 113) rfl) rfl
theorem fg_X11_37 : FG LyM RX11 37 0 12 12 := ⟨10, RX11, TX11, 56, tyX11, _, KC_X11, rfl, rfl, by decide, fl_X11_37⟩
theorem fl_X11_40 : Cond.fieldLink RX11 40 "SideWorkModel" "laterType" "[I" ∈ wsG := inT4 (List.mem_of_getElem? (i := 114) rfl) rfl
theorem fg_X11_40 : FG LyM RX11 40 0 13 13 := ⟨10, RX11, TX11, 56, tyX11, _, KC_X11, rfl, rfl, by decide, fl_X11_40⟩
theorem fl_X11_43 : Cond.fieldLink RX11 43 "SideWorkModel" "laterNumber" "[I" ∈ wsG := inT4 (List.mem_of_getElem? (i := 115) rfl) rfl
theorem fg_X11_43 : FG LyM RX11 43 0 14 14 := ⟨10, RX11, TX11, 56, tyX11, _, KC_X11, rfl, rfl, by decide, fl_X11_43⟩
theorem fl_X11_46 : Cond.fieldLink RX11 46 "SideWorkModel" "slotType" "[I" ∈ wsG := inT4 (List.mem_of_getElem? (i := 117) rfl) rfl
theorem fg_X11_46 : FG LyM RX11 46 0 16 15 := ⟨10, RX11, TX11, 56, tyX11, _, KC_X11, rfl, rfl, by decide, fl_X11_46⟩
theorem fl_X11_49 : Cond.fieldLink RX11 49 "SideWorkModel" "slotNumber" "[I" ∈ wsG := inT4 (List.mem_of_getElem? (i := 118) rfl) rfl
theorem fg_X11_49 : FG LyM RX11 49 0 17 16 := ⟨10, RX11, TX11, 56, tyX11, _, KC_X11, rfl, rfl, by decide, fl_X11_49⟩
theorem fl_X11_52 : Cond.fieldLink RX11 52 "SideWorkModel" "boxType" "[I" ∈ wsG := inT4 (List.mem_of_getElem? (i := 119) rfl) rfl
theorem fg_X11_52 : FG LyM RX11 52 0 18 17 := ⟨10, RX11, TX11, 56, tyX11, _, KC_X11, rfl, rfl, by decide, fl_X11_52⟩
theorem fl_X11_55 : Cond.fieldLink RX11 55 "SideWorkModel" "boxNumber" "[I" ∈ wsG := inT4 (List.mem_of_getElem? (i := 120) rfl) rfl
theorem fg_X11_55 : FG LyM RX11 55 0 19 18 := ⟨10, RX11, TX11, 56, tyX11, _, KC_X11, rfl, rfl, by decide, fl_X11_55⟩
theorem fl_X11_58 : Cond.fieldLink RX11 58 "SideWorkModel" "changed" "[I" ∈ wsG := inT4 (List.mem_of_getElem? (i := 122) rfl) rfl
theorem fg_X11_58 : FG LyM RX11 58 0 21 19 := ⟨10, RX11, TX11, 56, tyX11, _, KC_X11, rfl, rfl, by decide, fl_X11_58⟩
theorem fl_X11_61 : Cond.fieldLink RX11 61 "SideWorkModel" "wasType" "[I" ∈ wsG := inT4 (List.mem_of_getElem? (i := 123) rfl) rfl
theorem fg_X11_61 : FG LyM RX11 61 0 22 20 := ⟨10, RX11, TX11, 56, tyX11, _, KC_X11, rfl, rfl, by decide, fl_X11_61⟩
theorem fl_X11_64 : Cond.fieldLink RX11 64 "SideWorkModel" "wasNumber" "[I" ∈ wsG := inT4 (List.mem_of_getElem? (i := 124) rfl) rfl
theorem fg_X11_64 : FG LyM RX11 64 0 23 21 := ⟨10, RX11, TX11, 56, tyX11, _, KC_X11, rfl, rfl, by decide, fl_X11_64⟩
theorem fl_X11_67 : Cond.fieldLink RX11 67 "SideWorkModel" "toldRow" "[I" ∈ wsG := inT4 (List.mem_of_getElem? (i := 126) rfl) rfl
theorem fg_X11_67 : FG LyM RX11 67 0 25 22 := ⟨10, RX11, TX11, 56, tyX11, _, KC_X11, rfl, rfl, by decide, fl_X11_67⟩
theorem fl_X11_70 : Cond.fieldLink RX11 70 "SideWorkModel" "sAct" "[I" ∈ wsG := inT4 (List.mem_of_getElem? (i := 128) rfl) rfl
theorem fg_X11_70 : FG LyM RX11 70 0 27 23 := ⟨10, RX11, TX11, 56, tyX11, _, KC_X11, rfl, rfl, by decide, fl_X11_70⟩
theorem fl_X11_73 : Cond.fieldLink RX11 73 "SideWorkModel" "sPhase" "[I" ∈ wsG := inT4 (List.mem_of_getElem? (i := 129) rfl) rfl
theorem fg_X11_73 : FG LyM RX11 73 0 28 24 := ⟨10, RX11, TX11, 56, tyX11, _, KC_X11, rfl, rfl, by decide, fl_X11_73⟩
theorem fl_X11_76 : Cond.fieldLink RX11 76 "SideWorkModel" "sFrame" "[I" ∈ wsG := inT4 (List.mem_of_getElem? (i := 130) rfl) rfl
theorem fg_X11_76 : FG LyM RX11 76 0 29 25 := ⟨10, RX11, TX11, 56, tyX11, _, KC_X11, rfl, rfl, by decide, fl_X11_76⟩
theorem fl_X11_79 : Cond.fieldLink RX11 79 "SideWorkModel" "sTypeX" "[I" ∈ wsG := inT4 (List.mem_of_getElem? (i := 131) rfl) rfl
theorem fg_X11_79 : FG LyM RX11 79 0 30 26 := ⟨10, RX11, TX11, 56, tyX11, _, KC_X11, rfl, rfl, by decide, fl_X11_79⟩
theorem fl_X11_82 : Cond.fieldLink RX11 82 "SideWorkModel" "sNumberX" "[I" ∈ wsG := inT4 (List.mem_of_getElem? (i := 132) rfl) rfl
theorem fg_X11_82 : FG LyM RX11 82 0 31 27 := ⟨10, RX11, TX11, 56, tyX11, _, KC_X11, rfl, rfl, by decide, fl_X11_82⟩
theorem fl_X11_85 : Cond.fieldLink RX11 85 "SideWorkModel" "sTypeY" "[I" ∈ wsG := inT4 (List.mem_of_getElem? (i := 133) rfl) rfl
theorem fg_X11_85 : FG LyM RX11 85 0 32 28 := ⟨10, RX11, TX11, 56, tyX11, _, KC_X11, rfl, rfl, by decide, fl_X11_85⟩
theorem fl_X11_88 : Cond.fieldLink RX11 88 "SideWorkModel" "sNumberY" "[I" ∈ wsG := inT4 (List.mem_of_getElem? (i := 134) rfl) rfl
theorem fg_X11_88 : FG LyM RX11 88 0 33 29 := ⟨10, RX11, TX11, 56, tyX11, _, KC_X11, rfl, rfl, by decide, fl_X11_88⟩
theorem fl_X11_91 : Cond.fieldLink RX11 91 "SideWorkModel" "sMark" "[I" ∈ wsG := inT4 (List.mem_of_getElem? (i := 135) rfl) rfl
theorem fg_X11_91 : FG LyM RX11 91 0 34 30 := ⟨10, RX11, TX11, 56, tyX11, _, KC_X11, rfl, rfl, by decide, fl_X11_91⟩
theorem fl_X11_94 : Cond.fieldLink RX11 94 "SideWorkModel" "sAt" "[I" ∈ wsG := inT4 (List.mem_of_getElem? (i := 136) rfl) rfl
theorem fg_X11_94 : FG LyM RX11 94 0 35 31 := ⟨10, RX11, TX11, 56, tyX11, _, KC_X11, rfl, rfl, by decide, fl_X11_94⟩
theorem fl_X11_97 : Cond.fieldLink RX11 97 "SideWorkModel" "endAt" "I" ∈ wsG := inT4 (List.mem_of_getElem? (i := 153) rfl) rfl
theorem fg_X11_97 : FG LyM RX11 97 0 52 0 := ⟨10, RX11, TX11, 56, tyX11, _, KC_X11, rfl, rfl, by decide, fl_X11_97⟩
theorem fp_X11_97 : FP LyM RX11 97 0 52 0 := ⟨10, RX11, TX11, 56, tyX11, _, KC_X11, rfl, rfl, by decide, fl_X11_97, rfl, rfl⟩
theorem fl_X11_101 : Cond.fieldLink RX11 101 "SideWorkModel" "gaveType" "I" ∈ wsG := inT4 (List.mem_of_getElem? (i := 149) rfl) rfl
theorem fg_X11_101 : FG LyM RX11 101 0 48 0 := ⟨10, RX11, TX11, 56, tyX11, _, KC_X11, rfl, rfl, by decide, fl_X11_101⟩
theorem fp_X11_101 : FP LyM RX11 101 0 48 0 := ⟨10, RX11, TX11, 56, tyX11, _, KC_X11, rfl, rfl, by decide, fl_X11_101, rfl, rfl⟩
theorem fl_X11_104 : Cond.fieldLink RX11 104 "SideWorkModel" "acts" "I" ∈ wsG := inT4 (List.mem_of_getElem? (i := 101) rfl) rfl
theorem fg_X11_104 : FG LyM RX11 104 0 0 0 := ⟨10, RX11, TX11, 56, tyX11, _, KC_X11, rfl, rfl, by decide, fl_X11_104⟩
theorem fp_X11_104 : FP LyM RX11 104 0 0 0 := ⟨10, RX11, TX11, 56, tyX11, _, KC_X11, rfl, rfl, by decide, fl_X11_104, rfl, rfl⟩
theorem fl_X11_111 : Cond.fieldLink RX11 111 "SideWorkModel" "thrown" "I" ∈ wsG := inT4 (List.mem_of_getElem? (i := 156) rfl) rfl
theorem fg_X11_111 : FG LyM RX11 111 0 55 0 := ⟨10, RX11, TX11, 56, tyX11, _, KC_X11, rfl, rfl, by decide, fl_X11_111⟩
theorem fp_X11_111 : FP LyM RX11 111 0 55 0 := ⟨10, RX11, TX11, 56, tyX11, _, KC_X11, rfl, rfl, by decide, fl_X11_111, rfl, rfl⟩
theorem fl_X11_122 : Cond.fieldLink RX11 122 "SideWorkModel" "mode" "I" ∈ wsG := inT4 (List.mem_of_getElem? (i := 137) rfl) rfl
theorem fg_X11_122 : FG LyM RX11 122 0 36 0 := ⟨10, RX11, TX11, 56, tyX11, _, KC_X11, rfl, rfl, by decide, fl_X11_122⟩
theorem fp_X11_122 : FP LyM RX11 122 0 36 0 := ⟨10, RX11, TX11, 56, tyX11, _, KC_X11, rfl, rfl, by decide, fl_X11_122, rfl, rfl⟩
theorem fl_X11_125 : Cond.fieldLink RX11 125 "SideWorkModel" "vType" "I" ∈ wsG := inT4 (List.mem_of_getElem? (i := 140) rfl) rfl
theorem fg_X11_125 : FG LyM RX11 125 0 39 0 := ⟨10, RX11, TX11, 56, tyX11, _, KC_X11, rfl, rfl, by decide, fl_X11_125⟩
theorem fp_X11_125 : FP LyM RX11 125 0 39 0 := ⟨10, RX11, TX11, 56, tyX11, _, KC_X11, rfl, rfl, by decide, fl_X11_125, rfl, rfl⟩
theorem fl_X11_128 : Cond.fieldLink RX11 128 "SideWorkModel" "vNumber" "I" ∈ wsG := inT4 (List.mem_of_getElem? (i := 141) rfl) rfl
theorem fg_X11_128 : FG LyM RX11 128 0 40 0 := ⟨10, RX11, TX11, 56, tyX11, _, KC_X11, rfl, rfl, by decide, fl_X11_128⟩
theorem fp_X11_128 : FP LyM RX11 128 0 40 0 := ⟨10, RX11, TX11, 56, tyX11, _, KC_X11, rfl, rfl, by decide, fl_X11_128, rfl, rfl⟩
theorem fl_X11_131 : Cond.fieldLink RX11 131 "SideWorkModel" "nowAct" "I" ∈ wsG := inT4 (List.mem_of_getElem? (i := 138) rfl) rfl
theorem fg_X11_131 : FG LyM RX11 131 0 37 0 := ⟨10, RX11, TX11, 56, tyX11, _, KC_X11, rfl, rfl, by decide, fl_X11_131⟩
theorem fp_X11_131 : FP LyM RX11 131 0 37 0 := ⟨10, RX11, TX11, 56, tyX11, _, KC_X11, rfl, rfl, by decide, fl_X11_131, rfl, rfl⟩
theorem fl_X11_134 : Cond.fieldLink RX11 134 "SideWorkModel" "nowFrame" "I" ∈ wsG := inT4 (List.mem_of_getElem? (i := 139) rfl) rfl
theorem fg_X11_134 : FG LyM RX11 134 0 38 0 := ⟨10, RX11, TX11, 56, tyX11, _, KC_X11, rfl, rfl, by decide, fl_X11_134⟩
theorem fp_X11_134 : FP LyM RX11 134 0 38 0 := ⟨10, RX11, TX11, 56, tyX11, _, KC_X11, rfl, rfl, by decide, fl_X11_134, rfl, rfl⟩
theorem fl_X11_137 : Cond.fieldLink RX11 137 "SideWorkModel" "fKind" "I" ∈ wsG := inT4 (List.mem_of_getElem? (i := 142) rfl) rfl
theorem fg_X11_137 : FG LyM RX11 137 0 41 0 := ⟨10, RX11, TX11, 56, tyX11, _, KC_X11, rfl, rfl, by decide, fl_X11_137⟩
theorem fp_X11_137 : FP LyM RX11 137 0 41 0 := ⟨10, RX11, TX11, 56, tyX11, _, KC_X11, rfl, rfl, by decide, fl_X11_137, rfl, rfl⟩
theorem fl_X11_140 : Cond.fieldLink RX11 140 "SideWorkModel" "fCode" "I" ∈ wsG := inT4 (List.mem_of_getElem? (i := 143) rfl) rfl
theorem fg_X11_140 : FG LyM RX11 140 0 42 0 := ⟨10, RX11, TX11, 56, tyX11, _, KC_X11, rfl, rfl, by decide, fl_X11_140⟩
theorem fp_X11_140 : FP LyM RX11 140 0 42 0 := ⟨10, RX11, TX11, 56, tyX11, _, KC_X11, rfl, rfl, by decide, fl_X11_140, rfl, rfl⟩
theorem fl_X11_143 : Cond.fieldLink RX11 143 "SideWorkModel" "fAt" "I" ∈ wsG := inT4 (List.mem_of_getElem? (i := 144) rfl) rfl
theorem fg_X11_143 : FG LyM RX11 143 0 43 0 := ⟨10, RX11, TX11, 56, tyX11, _, KC_X11, rfl, rfl, by decide, fl_X11_143⟩
theorem fp_X11_143 : FP LyM RX11 143 0 43 0 := ⟨10, RX11, TX11, 56, tyX11, _, KC_X11, rfl, rfl, by decide, fl_X11_143, rfl, rfl⟩
theorem fl_X11_146 : Cond.fieldLink RX11 146 "SideWorkModel" "failures" "I" ∈ wsG := inT4 (List.mem_of_getElem? (i := 145) rfl) rfl
theorem fg_X11_146 : FG LyM RX11 146 0 44 0 := ⟨10, RX11, TX11, 56, tyX11, _, KC_X11, rfl, rfl, by decide, fl_X11_146⟩
theorem fp_X11_146 : FP LyM RX11 146 0 44 0 := ⟨10, RX11, TX11, 56, tyX11, _, KC_X11, rfl, rfl, by decide, fl_X11_146, rfl, rfl⟩
theorem fl_X11_153 : Cond.fieldLink RX11 153 "SideWorkModel" "things" "I" ∈ wsG := inT4 (List.mem_of_getElem? (i := 107) rfl) rfl
theorem fg_X11_153 : FG LyM RX11 153 0 6 0 := ⟨10, RX11, TX11, 56, tyX11, _, KC_X11, rfl, rfl, by decide, fl_X11_153⟩
theorem fp_X11_153 : FP LyM RX11 153 0 6 0 := ⟨10, RX11, TX11, 56, tyX11, _, KC_X11, rfl, rfl, by decide, fl_X11_153, rfl, rfl⟩
theorem fl_X11_156 : Cond.fieldLink RX11 156 "SideWorkModel" "frames" "I" ∈ wsG := inT4 (List.mem_of_getElem? (i := 116) rfl) rfl
theorem fg_X11_156 : FG LyM RX11 156 0 15 0 := ⟨10, RX11, TX11, 56, tyX11, _, KC_X11, rfl, rfl, by decide, fl_X11_156⟩
theorem fp_X11_156 : FP LyM RX11 156 0 15 0 := ⟨10, RX11, TX11, 56, tyX11, _, KC_X11, rfl, rfl, by decide, fl_X11_156, rfl, rfl⟩
theorem fl_X11_159 : Cond.fieldLink RX11 159 "SideWorkModel" "changes" "I" ∈ wsG := inT4 (List.mem_of_getElem? (i := 121) rfl) rfl
theorem fg_X11_159 : FG LyM RX11 159 0 20 0 := ⟨10, RX11, TX11, 56, tyX11, _, KC_X11, rfl, rfl, by decide, fl_X11_159⟩
theorem fp_X11_159 : FP LyM RX11 159 0 20 0 := ⟨10, RX11, TX11, 56, tyX11, _, KC_X11, rfl, rfl, by decide, fl_X11_159, rfl, rfl⟩
theorem fl_X11_162 : Cond.fieldLink RX11 162 "SideWorkModel" "steps" "I" ∈ wsG := inT4 (List.mem_of_getElem? (i := 146) rfl) rfl
theorem fg_X11_162 : FG LyM RX11 162 0 45 0 := ⟨10, RX11, TX11, 56, tyX11, _, KC_X11, rfl, rfl, by decide, fl_X11_162⟩
theorem fp_X11_162 : FP LyM RX11 162 0 45 0 := ⟨10, RX11, TX11, 56, tyX11, _, KC_X11, rfl, rfl, by decide, fl_X11_162, rfl, rfl⟩
theorem fl_X11_165 : Cond.fieldLink RX11 165 "SideWorkModel" "most" "I" ∈ wsG := inT4 (List.mem_of_getElem? (i := 147) rfl) rfl
theorem fg_X11_165 : FG LyM RX11 165 0 46 0 := ⟨10, RX11, TX11, 56, tyX11, _, KC_X11, rfl, rfl, by decide, fl_X11_165⟩
theorem fp_X11_165 : FP LyM RX11 165 0 46 0 := ⟨10, RX11, TX11, 56, tyX11, _, KC_X11, rfl, rfl, by decide, fl_X11_165, rfl, rfl⟩
theorem fl_X11_174 : Cond.fieldLink RX11 174 "SideWorkModel" "top" "I" ∈ wsG := inT4 (List.mem_of_getElem? (i := 127) rfl) rfl
theorem fg_X11_174 : FG LyM RX11 174 0 26 0 := ⟨10, RX11, TX11, 56, tyX11, _, KC_X11, rfl, rfl, by decide, fl_X11_174⟩
theorem fp_X11_174 : FP LyM RX11 174 0 26 0 := ⟨10, RX11, TX11, 56, tyX11, _, KC_X11, rfl, rfl, by decide, fl_X11_174, rfl, rfl⟩
theorem fl_X11_230 : Cond.fieldLink RX11 230 "SideWorkModel" "tolds" "I" ∈ wsG := inT4 (List.mem_of_getElem? (i := 125) rfl) rfl
theorem fg_X11_230 : FG LyM RX11 230 0 24 0 := ⟨10, RX11, TX11, 56, tyX11, _, KC_X11, rfl, rfl, by decide, fl_X11_230⟩
theorem fp_X11_230 : FP LyM RX11 230 0 24 0 := ⟨10, RX11, TX11, 56, tyX11, _, KC_X11, rfl, rfl, by decide, fl_X11_230, rfl, rfl⟩
theorem fl_X11_236 : Cond.fieldLink RX11 236 "SideWorkModel" "deep" "I" ∈ wsG := inT4 (List.mem_of_getElem? (i := 148) rfl) rfl
theorem fg_X11_236 : FG LyM RX11 236 0 47 0 := ⟨10, RX11, TX11, 56, tyX11, _, KC_X11, rfl, rfl, by decide, fl_X11_236⟩
theorem fp_X11_236 : FP LyM RX11 236 0 47 0 := ⟨10, RX11, TX11, 56, tyX11, _, KC_X11, rfl, rfl, by decide, fl_X11_236, rfl, rfl⟩
theorem fl_X11_258 : Cond.fieldLink RX11 258 "SideWorkModel" "runs" "I" ∈ wsG := inT4 (List.mem_of_getElem? (i := 106) rfl) rfl
theorem fg_X11_258 : FG LyM RX11 258 0 5 0 := ⟨10, RX11, TX11, 56, tyX11, _, KC_X11, rfl, rfl, by decide, fl_X11_258⟩
theorem fp_X11_258 : FP LyM RX11 258 0 5 0 := ⟨10, RX11, TX11, 56, tyX11, _, KC_X11, rfl, rfl, by decide, fl_X11_258, rfl, rfl⟩
theorem fl_X11_270 : Cond.fieldLink RX11 270 "SideWorkModel" "endSteps" "I" ∈ wsG := inT4 (List.mem_of_getElem? (i := 154) rfl) rfl
theorem fg_X11_270 : FG LyM RX11 270 0 53 0 := ⟨10, RX11, TX11, 56, tyX11, _, KC_X11, rfl, rfl, by decide, fl_X11_270⟩
theorem fp_X11_270 : FP LyM RX11 270 0 53 0 := ⟨10, RX11, TX11, 56, tyX11, _, KC_X11, rfl, rfl, by decide, fl_X11_270, rfl, rfl⟩
theorem fl_X11_273 : Cond.fieldLink RX11 273 "SideWorkModel" "endFailures" "I" ∈ wsG := inT4 (List.mem_of_getElem? (i := 155) rfl) rfl
theorem fg_X11_273 : FG LyM RX11 273 0 54 0 := ⟨10, RX11, TX11, 56, tyX11, _, KC_X11, rfl, rfl, by decide, fl_X11_273⟩
theorem fp_X11_273 : FP LyM RX11 273 0 54 0 := ⟨10, RX11, TX11, 56, tyX11, _, KC_X11, rfl, rfl, by decide, fl_X11_273, rfl, rfl⟩
theorem fl_X11_276 : Cond.fieldLink RX11 276 "SideWorkModel" "gaveNumber" "I" ∈ wsG := inT4 (List.mem_of_getElem? (i := 150) rfl) rfl
theorem fg_X11_276 : FG LyM RX11 276 0 49 0 := ⟨10, RX11, TX11, 56, tyX11, _, KC_X11, rfl, rfl, by decide, fl_X11_276⟩
theorem fp_X11_276 : FP LyM RX11 276 0 49 0 := ⟨10, RX11, TX11, 56, tyX11, _, KC_X11, rfl, rfl, by decide, fl_X11_276, rfl, rfl⟩
theorem fl_X11_279 : Cond.fieldLink RX11 279 "SideWorkModel" "endKind" "I" ∈ wsG := inT4 (List.mem_of_getElem? (i := 151) rfl) rfl
theorem fg_X11_279 : FG LyM RX11 279 0 50 0 := ⟨10, RX11, TX11, 56, tyX11, _, KC_X11, rfl, rfl, by decide, fl_X11_279⟩
theorem fp_X11_279 : FP LyM RX11 279 0 50 0 := ⟨10, RX11, TX11, 56, tyX11, _, KC_X11, rfl, rfl, by decide, fl_X11_279, rfl, rfl⟩
theorem fl_X11_282 : Cond.fieldLink RX11 282 "SideWorkModel" "endCode" "I" ∈ wsG := inT4 (List.mem_of_getElem? (i := 152) rfl) rfl
theorem fg_X11_282 : FG LyM RX11 282 0 51 0 := ⟨10, RX11, TX11, 56, tyX11, _, KC_X11, rfl, rfl, by decide, fl_X11_282⟩
theorem fp_X11_282 : FP LyM RX11 282 0 51 0 := ⟨10, RX11, TX11, 56, tyX11, _, KC_X11, rfl, rfl, by decide, fl_X11_282, rfl, rfl⟩
theorem fl_X0_11 : Cond.fieldLink RX0 11 "SideWork$Acts" "givens" "[I" ∈ wsG := inT1 (List.mem_of_getElem? (i := 33) rfl) rfl
theorem fg_X0_11 : FG LyC RX0 11 1 0 4 := ⟨2, RX0, TX0, 4, tyX0, _, KC_X0, rfl, rfl, by decide, fl_X0_11⟩
theorem fl_X0_15 : Cond.fieldLink RX0 15 "SideWork$Acts" "parts" "[I" ∈ wsG := inT1 (List.mem_of_getElem? (i := 34) rfl) rfl
theorem fg_X0_15 : FG LyC RX0 15 1 1 5 := ⟨2, RX0, TX0, 4, tyX0, _, KC_X0, rfl, rfl, by decide, fl_X0_15⟩
theorem fl_X0_18 : Cond.fieldLink RX0 18 "SideWork$Acts" "aheads" "[I" ∈ wsG := inT1 (List.mem_of_getElem? (i := 35) rfl) rfl
theorem fg_X0_18 : FG LyC RX0 18 1 2 6 := ⟨2, RX0, TX0, 4, tyX0, _, KC_X0, rfl, rfl, by decide, fl_X0_18⟩
theorem fl_X0_21 : Cond.fieldLink RX0 21 "SideWork$Acts" "size" "I" ∈ wsG := inT1 (List.mem_of_getElem? (i := 36) rfl) rfl
theorem fg_X0_21 : FG LyC RX0 21 1 3 0 := ⟨2, RX0, TX0, 4, tyX0, _, KC_X0, rfl, rfl, by decide, fl_X0_21⟩
theorem fp_X0_21 : FP LyC RX0 21 1 3 0 := ⟨2, RX0, TX0, 4, tyX0, _, KC_X0, rfl, rfl, by decide, fl_X0_21, rfl, rfl⟩
theorem fl_X0_31 : Cond.fieldLink RX0 31 "SideWork$Acts" "MEANINGS" "[I" ∈ wsG := inT2 (List.mem_of_getElem? (i := 23) rfl) rfl
theorem fl_X0_41 : Cond.fieldLink RX0 41 "SideWork$Acts" "GREATEST" "[I" ∈ wsG := inT2 (List.mem_of_getElem? (i := 37) rfl) rfl
theorem fl_X1_13 : Cond.fieldLink RX1 13 "SideWork$Course" "limit" "I" ∈ wsG := inT1 (List.mem_of_getElem? (i := 101) rfl) rfl
theorem fg_X1_13 : FG LyC RX1 13 10 0 0 := ⟨3, RX1, TX1, 7, tyX1, _, KC_X1, rfl, rfl, by decide, fl_X1_13⟩
theorem fp_X1_13 : FP LyC RX1 13 10 0 0 := ⟨3, RX1, TX1, 7, tyX1, _, KC_X1, rfl, rfl, by decide, fl_X1_13, rfl, rfl⟩
theorem fl_X1_17 : Cond.fieldLink RX1 17 "SideWork$Course" "steps" "I" ∈ wsG := inT1 (List.mem_of_getElem? (i := 102) rfl) rfl
theorem fg_X1_17 : FG LyC RX1 17 10 1 0 := ⟨3, RX1, TX1, 7, tyX1, _, KC_X1, rfl, rfl, by decide, fl_X1_17⟩
theorem fp_X1_17 : FP LyC RX1 17 10 1 0 := ⟨3, RX1, TX1, 7, tyX1, _, KC_X1, rfl, rfl, by decide, fl_X1_17, rfl, rfl⟩
theorem fl_X1_20 : Cond.fieldLink RX1 20 "SideWork$Course" "failures" "I" ∈ wsG := inT1 (List.mem_of_getElem? (i := 104) rfl) rfl
theorem fg_X1_20 : FG LyC RX1 20 10 2 0 := ⟨3, RX1, TX1, 7, tyX1, _, KC_X1, rfl, rfl, by decide, fl_X1_20⟩
theorem fp_X1_20 : FP LyC RX1 20 10 2 0 := ⟨3, RX1, TX1, 7, tyX1, _, KC_X1, rfl, rfl, by decide, fl_X1_20, rfl, rfl⟩
theorem fl_X1_27 : Cond.fieldLink RX1 27 "SideWork$Course" "value" "J" ∈ wsG := inT1 (List.mem_of_getElem? (i := 117) rfl) rfl
theorem fg_X1_27 : FG LyC RX1 27 10 6 1 := ⟨3, RX1, TX1, 7, tyX1, _, KC_X1, rfl, rfl, by decide, fl_X1_27⟩
theorem fp_X1_27 : FP LyC RX1 27 10 6 1 := ⟨3, RX1, TX1, 7, tyX1, _, KC_X1, rfl, rfl, by decide, fl_X1_27, rfl, rfl⟩
theorem fl_X1_38 : Cond.fieldLink RX1 38 "SideWork$Course" "ending" "I" ∈ wsG := inT1 (List.mem_of_getElem? (i := 107) rfl) rfl
theorem fg_X1_38 : FG LyC RX1 38 10 3 0 := ⟨3, RX1, TX1, 7, tyX1, _, KC_X1, rfl, rfl, by decide, fl_X1_38⟩
theorem fp_X1_38 : FP LyC RX1 38 10 3 0 := ⟨3, RX1, TX1, 7, tyX1, _, KC_X1, rfl, rfl, by decide, fl_X1_38, rfl, rfl⟩
theorem fl_X1_41 : Cond.fieldLink RX1 41 "SideWork$Course" "code" "I" ∈ wsG := inT1 (List.mem_of_getElem? (i := 110) rfl) rfl
theorem fg_X1_41 : FG LyC RX1 41 10 4 0 := ⟨3, RX1, TX1, 7, tyX1, _, KC_X1, rfl, rfl, by decide, fl_X1_41⟩
theorem fp_X1_41 : FP LyC RX1 41 10 4 0 := ⟨3, RX1, TX1, 7, tyX1, _, KC_X1, rfl, rfl, by decide, fl_X1_41, rfl, rfl⟩
theorem fl_X1_44 : Cond.fieldLink RX1 44 "SideWork$Course" "at" "I" ∈ wsG := inT1 (List.mem_of_getElem? (i := 114) rfl) rfl
theorem fg_X1_44 : FG LyC RX1 44 10 5 0 := ⟨3, RX1, TX1, 7, tyX1, _, KC_X1, rfl, rfl, by decide, fl_X1_44⟩
theorem fp_X1_44 : FP LyC RX1 44 10 5 0 := ⟨3, RX1, TX1, 7, tyX1, _, KC_X1, rfl, rfl, by decide, fl_X1_44, rfl, rfl⟩
theorem fl_X3_11 : Cond.fieldLink RX3 11 "SideWork$Frames" "slots" "[J" ∈ wsG := inT1 (List.mem_of_getElem? (i := 141) rfl) rfl
theorem fg_X3_11 : FG LyC RX3 11 12 0 15 := ⟨4, RX3, TX3, 2, tyX3, _, KC_X3, rfl, rfl, by decide, fl_X3_11⟩
theorem fl_X3_15 : Cond.fieldLink RX3 15 "SideWork$Frames" "made" "I" ∈ wsG := inT1 (List.mem_of_getElem? (i := 142) rfl) rfl
theorem fg_X3_15 : FG LyC RX3 15 12 1 0 := ⟨4, RX3, TX3, 2, tyX3, _, KC_X3, rfl, rfl, by decide, fl_X3_15⟩
theorem fp_X3_15 : FP LyC RX3 15 12 1 0 := ⟨4, RX3, TX3, 2, tyX3, _, KC_X3, rfl, rfl, by decide, fl_X3_15, rfl, rfl⟩
theorem fl_X5_9 : Cond.fieldLink RX5 9 "SideWork$Laters" "acts" "[I" ∈ wsG := inT1 (List.mem_of_getElem? (i := 154) rfl) rfl
theorem fg_X5_9 : FG LyC RX5 9 14 0 17 := ⟨5, RX5, TX5, 7, tyX5, _, KC_X5, rfl, rfl, by decide, fl_X5_9⟩
theorem fl_X5_15 : Cond.fieldLink RX5 15 "SideWork$Laters" "frames" "[I" ∈ wsG := inT1 (List.mem_of_getElem? (i := 155) rfl) rfl
theorem fg_X5_15 : FG LyC RX5 15 14 1 18 := ⟨5, RX5, TX5, 7, tyX5, _, KC_X5, rfl, rfl, by decide, fl_X5_15⟩
theorem fl_X5_18 : Cond.fieldLink RX5 18 "SideWork$Laters" "states" "[I" ∈ wsG := inT1 (List.mem_of_getElem? (i := 156) rfl) rfl
theorem fg_X5_18 : FG LyC RX5 18 14 2 19 := ⟨5, RX5, TX5, 7, tyX5, _, KC_X5, rfl, rfl, by decide, fl_X5_18⟩
theorem fl_X5_21 : Cond.fieldLink RX5 21 "SideWork$Laters" "failures" "[I" ∈ wsG := inT1 (List.mem_of_getElem? (i := 157) rfl) rfl
theorem fg_X5_21 : FG LyC RX5 21 14 3 20 := ⟨5, RX5, TX5, 7, tyX5, _, KC_X5, rfl, rfl, by decide, fl_X5_21⟩
theorem fl_X5_24 : Cond.fieldLink RX5 24 "SideWork$Laters" "codes" "[I" ∈ wsG := inT1 (List.mem_of_getElem? (i := 158) rfl) rfl
theorem fg_X5_24 : FG LyC RX5 24 14 4 21 := ⟨5, RX5, TX5, 7, tyX5, _, KC_X5, rfl, rfl, by decide, fl_X5_24⟩
theorem fl_X5_27 : Cond.fieldLink RX5 27 "SideWork$Laters" "values" "[J" ∈ wsG := inT1 (List.mem_of_getElem? (i := 159) rfl) rfl
theorem fg_X5_27 : FG LyC RX5 27 14 5 22 := ⟨5, RX5, TX5, 7, tyX5, _, KC_X5, rfl, rfl, by decide, fl_X5_27⟩
theorem fl_X5_31 : Cond.fieldLink RX5 31 "SideWork$Laters" "made" "I" ∈ wsG := inT1 (List.mem_of_getElem? (i := 160) rfl) rfl
theorem fg_X5_31 : FG LyC RX5 31 14 6 0 := ⟨5, RX5, TX5, 7, tyX5, _, KC_X5, rfl, rfl, by decide, fl_X5_31⟩
theorem fp_X5_31 : FP LyC RX5 31 14 6 0 := ⟨5, RX5, TX5, 7, tyX5, _, KC_X5, rfl, rfl, by decide, fl_X5_31, rfl, rfl⟩
theorem fl_X6_7 : Cond.fieldLink RX6 7 "SideWork$Machine" "acts" "LSideWork$Acts;" ∈ wsG := inT1 (List.mem_of_getElem? (i := 213) rfl) rfl
theorem fg_X6_7 : FG LyC RX6 7 5 0 3 := ⟨6, RX6, TX6, 9, tyX6, _, KC_X6, rfl, rfl, by decide, fl_X6_7⟩
theorem fl_X6_16 : Cond.fieldLink RX6 16 "SideWork$Machine" "memory" "LSideWork$Memory;" ∈ wsG := inT1 (List.mem_of_getElem? (i := 214) rfl) rfl
theorem fg_X6_16 : FG LyC RX6 16 5 1 8 := ⟨6, RX6, TX6, 9, tyX6, _, KC_X6, rfl, rfl, by decide, fl_X6_16⟩
theorem fl_X6_23 : Cond.fieldLink RX6 23 "SideWork$Machine" "course" "LSideWork$Course;" ∈ wsG := inT1 (List.mem_of_getElem? (i := 216) rfl) rfl
theorem fg_X6_23 : FG LyC RX6 23 5 2 12 := ⟨6, RX6, TX6, 9, tyX6, _, KC_X6, rfl, rfl, by decide, fl_X6_23⟩
theorem fl_X6_27 : Cond.fieldLink RX6 27 "SideWork$Machine" "outRow" "[I" ∈ wsG := inT1 (List.mem_of_getElem? (i := 218) rfl) rfl
theorem fg_X6_27 : FG LyC RX6 27 5 3 13 := ⟨6, RX6, TX6, 9, tyX6, _, KC_X6, rfl, rfl, by decide, fl_X6_27⟩
theorem fl_X6_31 : Cond.fieldLink RX6 31 "SideWork$Machine" "outSize" "I" ∈ wsG := inT1 (List.mem_of_getElem? (i := 220) rfl) rfl
theorem fg_X6_31 : FG LyC RX6 31 5 4 0 := ⟨6, RX6, TX6, 9, tyX6, _, KC_X6, rfl, rfl, by decide, fl_X6_31⟩
theorem fp_X6_31 : FP LyC RX6 31 5 4 0 := ⟨6, RX6, TX6, 9, tyX6, _, KC_X6, rfl, rfl, by decide, fl_X6_31, rfl, rfl⟩
theorem fl_X6_38 : Cond.fieldLink RX6 38 "SideWork$Machine" "frames" "LSideWork$Frames;" ∈ wsG := inT1 (List.mem_of_getElem? (i := 222) rfl) rfl
theorem fg_X6_38 : FG LyC RX6 38 5 5 14 := ⟨6, RX6, TX6, 9, tyX6, _, KC_X6, rfl, rfl, by decide, fl_X6_38⟩
theorem fl_X6_45 : Cond.fieldLink RX6 45 "SideWork$Machine" "laters" "LSideWork$Laters;" ∈ wsG := inT1 (List.mem_of_getElem? (i := 223) rfl) rfl
theorem fg_X6_45 : FG LyC RX6 45 5 6 16 := ⟨6, RX6, TX6, 9, tyX6, _, KC_X6, rfl, rfl, by decide, fl_X6_45⟩
theorem fl_X6_52 : Cond.fieldLink RX6 52 "SideWork$Machine" "stack" "LSideWork$Stack;" ∈ wsG := inT1 (List.mem_of_getElem? (i := 224) rfl) rfl
theorem fg_X6_52 : FG LyC RX6 52 5 7 23 := ⟨6, RX6, TX6, 9, tyX6, _, KC_X6, rfl, rfl, by decide, fl_X6_52⟩
theorem fl_X6_56 : Cond.fieldLink RX6 56 "SideWork$Machine" "calls" "I" ∈ wsG := inT1 (List.mem_of_getElem? (i := 225) rfl) rfl
theorem fg_X6_56 : FG LyC RX6 56 5 8 0 := ⟨6, RX6, TX6, 9, tyX6, _, KC_X6, rfl, rfl, by decide, fl_X6_56⟩
theorem fp_X6_56 : FP LyC RX6 56 5 8 0 := ⟨6, RX6, TX6, 9, tyX6, _, KC_X6, rfl, rfl, by decide, fl_X6_56, rfl, rfl⟩
theorem fl_X6_82 : Cond.fieldLink RX6 82 "SideWork$Course" "ending" "I" ∈ wsG := inT1 (List.mem_of_getElem? (i := 106) rfl) rfl
theorem fg_X6_82 : FG LyC RX6 82 10 3 0 := ⟨3, RX1, TX1, 7, tyX1, _, KC_X1, rfl, rfl, by decide, fl_X6_82⟩
theorem fp_X6_82 : FP LyC RX6 82 10 3 0 := ⟨3, RX1, TX1, 7, tyX1, _, KC_X1, rfl, rfl, by decide, fl_X6_82, rfl, rfl⟩
theorem fl_X6_120 : Cond.fieldLink RX6 120 "SideWork$Course" "value" "J" ∈ wsG := inT1 (List.mem_of_getElem? (i := 119) rfl) rfl
theorem fg_X6_120 : FG LyC RX6 120 10 6 1 := ⟨3, RX1, TX1, 7, tyX1, _, KC_X1, rfl, rfl, by decide, fl_X6_120⟩
theorem fp_X6_120 : FP LyC RX6 120 10 6 1 := ⟨3, RX1, TX1, 7, tyX1, _, KC_X1, rfl, rfl, by decide, fl_X6_120, rfl, rfl⟩
theorem fl_X6_331 : Cond.fieldLink RX6 331 "SideWork$Course" "code" "I" ∈ wsG := inT1 (List.mem_of_getElem? (i := 113) rfl) rfl
theorem fg_X6_331 : FG LyC RX6 331 10 4 0 := ⟨3, RX1, TX1, 7, tyX1, _, KC_X1, rfl, rfl, by decide, fl_X6_331⟩
theorem fp_X6_331 : FP LyC RX6 331 10 4 0 := ⟨3, RX1, TX1, 7, tyX1, _, KC_X1, rfl, rfl, by decide, fl_X6_331, rfl, rfl⟩
theorem fl_X7_11 : Cond.fieldLink RX7 11 "SideWork$Memory" "cells" "[J" ∈ wsG := inT1 (List.mem_of_getElem? (i := 65) rfl) rfl
theorem fg_X7_11 : FG LyC RX7 11 6 0 9 := ⟨7, RX7, TX7, 5, tyX7, _, KC_X7, rfl, rfl, by decide, fl_X7_11⟩
theorem fl_X7_15 : Cond.fieldLink RX7 15 "SideWork$Memory" "changedCells" "[I" ∈ wsG := inT1 (List.mem_of_getElem? (i := 66) rfl) rfl
theorem fg_X7_15 : FG LyC RX7 15 6 1 10 := ⟨7, RX7, TX7, 5, tyX7, _, KC_X7, rfl, rfl, by decide, fl_X7_15⟩
theorem fl_X7_19 : Cond.fieldLink RX7 19 "SideWork$Memory" "changedFrom" "[J" ∈ wsG := inT1 (List.mem_of_getElem? (i := 67) rfl) rfl
theorem fg_X7_19 : FG LyC RX7 19 6 2 11 := ⟨7, RX7, TX7, 5, tyX7, _, KC_X7, rfl, rfl, by decide, fl_X7_19⟩
theorem fl_X7_33 : Cond.fieldLink RX7 33 "SideWork$Memory" "used" "I" ∈ wsG := inT1 (List.mem_of_getElem? (i := 68) rfl) rfl
theorem fg_X7_33 : FG LyC RX7 33 6 3 0 := ⟨7, RX7, TX7, 5, tyX7, _, KC_X7, rfl, rfl, by decide, fl_X7_33⟩
theorem fp_X7_33 : FP LyC RX7 33 6 3 0 := ⟨7, RX7, TX7, 5, tyX7, _, KC_X7, rfl, rfl, by decide, fl_X7_33, rfl, rfl⟩
theorem fl_X7_37 : Cond.fieldLink RX7 37 "SideWork$Memory" "changes" "I" ∈ wsG := inT1 (List.mem_of_getElem? (i := 69) rfl) rfl
theorem fg_X7_37 : FG LyC RX7 37 6 4 0 := ⟨7, RX7, TX7, 5, tyX7, _, KC_X7, rfl, rfl, by decide, fl_X7_37⟩
theorem fp_X7_37 : FP LyC RX7 37 6 4 0 := ⟨7, RX7, TX7, 5, tyX7, _, KC_X7, rfl, rfl, by decide, fl_X7_37, rfl, rfl⟩
theorem fl_X8_9 : Cond.fieldLink RX8 9 "SideWork$Stack" "acts" "[I" ∈ wsG := inT1 (List.mem_of_getElem? (i := 182) rfl) rfl
theorem fg_X8_9 : FG LyC RX8 9 21 0 24 := ⟨8, RX8, TX8, 10, tyX8, _, KC_X8, rfl, rfl, by decide, fl_X8_9⟩
theorem fl_X8_15 : Cond.fieldLink RX8 15 "SideWork$Stack" "frames" "[I" ∈ wsG := inT1 (List.mem_of_getElem? (i := 183) rfl) rfl
theorem fg_X8_15 : FG LyC RX8 15 21 1 25 := ⟨8, RX8, TX8, 10, tyX8, _, KC_X8, rfl, rfl, by decide, fl_X8_15⟩
theorem fl_X8_18 : Cond.fieldLink RX8 18 "SideWork$Stack" "stages" "[I" ∈ wsG := inT1 (List.mem_of_getElem? (i := 184) rfl) rfl
theorem fg_X8_18 : FG LyC RX8 18 21 2 26 := ⟨8, RX8, TX8, 10, tyX8, _, KC_X8, rfl, rfl, by decide, fl_X8_18⟩
theorem fl_X8_21 : Cond.fieldLink RX8 21 "SideWork$Stack" "partValues" "[J" ∈ wsG := inT1 (List.mem_of_getElem? (i := 185) rfl) rfl
theorem fg_X8_21 : FG LyC RX8 21 21 3 27 := ⟨8, RX8, TX8, 10, tyX8, _, KC_X8, rfl, rfl, by decide, fl_X8_21⟩
theorem fl_X8_25 : Cond.fieldLink RX8 25 "SideWork$Stack" "marks" "[I" ∈ wsG := inT1 (List.mem_of_getElem? (i := 186) rfl) rfl
theorem fg_X8_25 : FG LyC RX8 25 21 4 28 := ⟨8, RX8, TX8, 10, tyX8, _, KC_X8, rfl, rfl, by decide, fl_X8_25⟩
theorem fl_X8_28 : Cond.fieldLink RX8 28 "SideWork$Stack" "heldFailures" "[I" ∈ wsG := inT1 (List.mem_of_getElem? (i := 187) rfl) rfl
theorem fg_X8_28 : FG LyC RX8 28 21 5 29 := ⟨8, RX8, TX8, 10, tyX8, _, KC_X8, rfl, rfl, by decide, fl_X8_28⟩
theorem fl_X8_31 : Cond.fieldLink RX8 31 "SideWork$Stack" "heldCodes" "[I" ∈ wsG := inT1 (List.mem_of_getElem? (i := 188) rfl) rfl
theorem fg_X8_31 : FG LyC RX8 31 21 6 30 := ⟨8, RX8, TX8, 10, tyX8, _, KC_X8, rfl, rfl, by decide, fl_X8_31⟩
theorem fl_X8_34 : Cond.fieldLink RX8 34 "SideWork$Stack" "heldAts" "[I" ∈ wsG := inT1 (List.mem_of_getElem? (i := 189) rfl) rfl
theorem fg_X8_34 : FG LyC RX8 34 21 7 31 := ⟨8, RX8, TX8, 10, tyX8, _, KC_X8, rfl, rfl, by decide, fl_X8_34⟩
theorem fl_X8_37 : Cond.fieldLink RX8 37 "SideWork$Stack" "height" "I" ∈ wsG := inT1 (List.mem_of_getElem? (i := 190) rfl) rfl
theorem fg_X8_37 : FG LyC RX8 37 21 8 0 := ⟨8, RX8, TX8, 10, tyX8, _, KC_X8, rfl, rfl, by decide, fl_X8_37⟩
theorem fp_X8_37 : FP LyC RX8 37 21 8 0 := ⟨8, RX8, TX8, 10, tyX8, _, KC_X8, rfl, rfl, by decide, fl_X8_37, rfl, rfl⟩
theorem fl_X8_41 : Cond.fieldLink RX8 41 "SideWork$Stack" "top" "I" ∈ wsG := inT1 (List.mem_of_getElem? (i := 191) rfl) rfl
theorem fg_X8_41 : FG LyC RX8 41 21 9 0 := ⟨8, RX8, TX8, 10, tyX8, _, KC_X8, rfl, rfl, by decide, fl_X8_41⟩
theorem fp_X8_41 : FP LyC RX8 41 21 9 0 := ⟨8, RX8, TX8, 10, tyX8, _, KC_X8, rfl, rfl, by decide, fl_X8_41, rfl, rfl⟩
theorem fl_X8_48 : Cond.fieldLink RX8 48 "SideWork$Course" "ending" "I" ∈ wsG := inT1 (List.mem_of_getElem? (i := 109) rfl) rfl
theorem fg_X8_48 : FG LyC RX8 48 10 3 0 := ⟨3, RX1, TX1, 7, tyX1, _, KC_X1, rfl, rfl, by decide, fl_X8_48⟩
theorem fp_X8_48 : FP LyC RX8 48 10 3 0 := ⟨3, RX1, TX1, 7, tyX1, _, KC_X1, rfl, rfl, by decide, fl_X8_48, rfl, rfl⟩
theorem fl_X8_53 : Cond.fieldLink RX8 53 "SideWork$Course" "code" "I" ∈ wsG := inT1 (List.mem_of_getElem? (i := 112) rfl) rfl
theorem fg_X8_53 : FG LyC RX8 53 10 4 0 := ⟨3, RX1, TX1, 7, tyX1, _, KC_X1, rfl, rfl, by decide, fl_X8_53⟩
theorem fp_X8_53 : FP LyC RX8 53 10 4 0 := ⟨3, RX1, TX1, 7, tyX1, _, KC_X1, rfl, rfl, by decide, fl_X8_53, rfl, rfl⟩
theorem fl_X8_56 : Cond.fieldLink RX8 56 "SideWork$Course" "at" "I" ∈ wsG := inT1 (List.mem_of_getElem? (i := 116) rfl) rfl
theorem fg_X8_56 : FG LyC RX8 56 10 5 0 := ⟨3, RX1, TX1, 7, tyX1, _, KC_X1, rfl, rfl, by decide, fl_X8_56⟩
theorem fp_X8_56 : FP LyC RX8 56 10 5 0 := ⟨3, RX1, TX1, 7, tyX1, _, KC_X1, rfl, rfl, by decide, fl_X8_56, rfl, rfl⟩
theorem cl_X1_25 : Cond.constantLong RX1 25 (4294967296 : Int64) ∈ wsG := inT1 (List.mem_of_getElem? (i := 92) rfl) rfl
theorem cl_X2_56 : Cond.constantLong RX2 56 (4294967296 : Int64) ∈ wsG := inT2 (List.mem_of_getElem? (i := 239) rfl) rfl
theorem cl_X3_21 : Cond.constantLong RX3 21 (4294967296 : Int64) ∈ wsG := inT2 (List.mem_of_getElem? (i := 86) rfl) rfl
theorem cl_X5_37 : Cond.constantLong RX5 37 (4294967296 : Int64) ∈ wsG := inT3 (List.mem_of_getElem? (i := 107) rfl) rfl
theorem ci_X6_77 : Cond.constant RX6 77 (100000 : Int32) ∈ wsG := inT2 (List.mem_of_getElem? (i := 103) rfl) rfl
theorem cl_X6_218 : Cond.constantLong RX6 218 (4294967296 : Int64) ∈ wsG := inT3 (List.mem_of_getElem? (i := 89) rfl) rfl
theorem cl_X7_31 : Cond.constantLong RX7 31 (4294967296 : Int64) ∈ wsG := inT1 (List.mem_of_getElem? (i := 64) rfl) rfl
theorem cl_X8_46 : Cond.constantLong RX8 46 (4294967296 : Int64) ∈ wsG := inT2 (List.mem_of_getElem? (i := 170) rfl) rfl
theorem cl_X9_7 : Cond.constantLong RX9 7 (4294967295 : Int64) ∈ wsG := inT2 (List.mem_of_getElem? (i := 140) rfl) rfl
abbrev mX0_init : Mi := (yX0_init, cX0_init, 1, none)
theorem mk_X0_init : MK mX0_init 0 := ⟨⟨by decide +kernel, by decide +kernel, by decide +kernel⟩, inT1 (List.mem_of_getElem? (i := 31) rfl) rfl, inT1 (List.mem_of_getElem? (i := 2) rfl) rfl⟩
abbrev mX0_has : Mi := (yX0_has, cX0_has, 2, (some .boolean))
theorem mk_X0_has : MK mX0_has 1 := ⟨⟨by decide +kernel, by decide +kernel, by decide +kernel⟩, inT2 (List.mem_of_getElem? (i := 32) rfl) rfl, inT1 (List.mem_of_getElem? (i := 2) rfl) rfl⟩
theorem mv_X0_has : MV mX0_has 1 := ⟨mk_X0_has, inT2 (List.mem_of_getElem? (i := 30) rfl) rfl, inT2 (List.mem_of_getElem? (i := 31) rfl) rfl⟩
abbrev mX0_given : Mi := (yX0_given, cX0_given, 3, (some .int))
theorem mk_X0_given : MK mX0_given 2 := ⟨⟨by decide +kernel, by decide +kernel, by decide +kernel⟩, inT2 (List.mem_of_getElem? (i := 55) rfl) rfl, inT1 (List.mem_of_getElem? (i := 2) rfl) rfl⟩
theorem mv_X0_given : MV mX0_given 2 := ⟨mk_X0_given, inT2 (List.mem_of_getElem? (i := 53) rfl) rfl, inT2 (List.mem_of_getElem? (i := 54) rfl) rfl⟩
abbrev mX0_part : Mi := (yX0_part, cX0_part, 3, (some .int))
theorem mk_X0_part : MK mX0_part 2 := ⟨⟨by decide +kernel, by decide +kernel, by decide +kernel⟩, inT2 (List.mem_of_getElem? (i := 161) rfl) rfl, inT1 (List.mem_of_getElem? (i := 2) rfl) rfl⟩
theorem mv_X0_part : MV mX0_part 2 := ⟨mk_X0_part, inT2 (List.mem_of_getElem? (i := 159) rfl) rfl, inT2 (List.mem_of_getElem? (i := 160) rfl) rfl⟩
abbrev mX0_partsAhead : Mi := (yX0_partsAhead, cX0_partsAhead, 2, (some .int))
theorem mk_X0_partsAhead : MK mX0_partsAhead 1 := ⟨⟨by decide +kernel, by decide +kernel, by decide +kernel⟩, inT2 (List.mem_of_getElem? (i := 209) rfl) rfl, inT1 (List.mem_of_getElem? (i := 2) rfl) rfl⟩
theorem mv_X0_partsAhead : MV mX0_partsAhead 1 := ⟨mk_X0_partsAhead, inT2 (List.mem_of_getElem? (i := 207) rfl) rfl, inT2 (List.mem_of_getElem? (i := 208) rfl) rfl⟩
abbrev mX0_refusalOf : Mi := (yX0_refusalOf, cX0_refusalOf, 6, (some .int))
theorem mk_X0_refusalOf : MK mX0_refusalOf 4 := ⟨⟨by decide +kernel, by decide +kernel, by decide +kernel⟩, inT2 (List.mem_of_getElem? (i := 22) rfl) rfl, inT1 (List.mem_of_getElem? (i := 2) rfl) rfl⟩
theorem mv_X0_refusalOf : MV mX0_refusalOf 4 := ⟨mk_X0_refusalOf, inT2 (List.mem_of_getElem? (i := 20) rfl) rfl, inT2 (List.mem_of_getElem? (i := 21) rfl) rfl⟩
abbrev mX0_isUnknown : Mi := (yX0_isUnknown, cX0_isUnknown, 3, (some .boolean))
theorem mk_X0_isUnknown : MK mX0_isUnknown 2 := ⟨⟨by decide +kernel, by decide +kernel, by decide +kernel⟩, inT2 (List.mem_of_getElem? (i := 28) rfl) rfl, inT1 (List.mem_of_getElem? (i := 2) rfl) rfl⟩
theorem mv_X0_isUnknown : MV mX0_isUnknown 2 := ⟨mk_X0_isUnknown, inT2 (List.mem_of_getElem? (i := 27) rfl) rfl, inP1 (List.mem_of_getElem? (i := 0) rfl)⟩
abbrev mX0_isOutside : Mi := (yX0_isOutside, cX0_isOutside, 3, (some .boolean))
theorem mk_X0_isOutside : MK mX0_isOutside 2 := ⟨⟨by decide +kernel, by decide +kernel, by decide +kernel⟩, inT2 (List.mem_of_getElem? (i := 36) rfl) rfl, inT1 (List.mem_of_getElem? (i := 2) rfl) rfl⟩
theorem mv_X0_isOutside : MV mX0_isOutside 2 := ⟨mk_X0_isOutside, inT2 (List.mem_of_getElem? (i := 35) rfl) rfl, inP1 (List.mem_of_getElem? (i := 1) rfl)⟩
abbrev mX0_add : Mi := (yX0_add, cX0_add, 6, (some .int))
theorem mk_X0_add : MK mX0_add 4 := ⟨⟨by decide +kernel, by decide +kernel, by decide +kernel⟩, inT2 (List.mem_of_getElem? (i := 42) rfl) rfl, inT1 (List.mem_of_getElem? (i := 2) rfl) rfl⟩
theorem mv_X0_add : MV mX0_add 4 := ⟨mk_X0_add, inT2 (List.mem_of_getElem? (i := 40) rfl) rfl, inT2 (List.mem_of_getElem? (i := 41) rfl) rfl⟩
abbrev mX0_sortParts : Mi := (yX0_sortParts, cX0_sortParts, 7, none)
theorem mk_X0_sortParts : MK mX0_sortParts 2 := ⟨⟨by decide +kernel, by decide +kernel, by decide +kernel⟩, inT2 (List.mem_of_getElem? (i := 46) rfl) rfl, inT1 (List.mem_of_getElem? (i := 2) rfl) rfl⟩
theorem mv_X0_sortParts : MV mX0_sortParts 2 := ⟨mk_X0_sortParts, inT2 (List.mem_of_getElem? (i := 45) rfl) rfl, inP1 (List.mem_of_getElem? (i := 2) rfl)⟩
abbrev mX1_init : Mi := (yX1_init, cX1_init, 1, none)
theorem mk_X1_init : MK mX1_init 0 := ⟨⟨by decide +kernel, by decide +kernel, by decide +kernel⟩, inT1 (List.mem_of_getElem? (i := 86) rfl) rfl, inT1 (List.mem_of_getElem? (i := 5) rfl) rfl⟩
abbrev mX1_restart : Mi := (yX1_restart, cX1_restart, 2, none)
theorem mk_X1_restart : MK mX1_restart 1 := ⟨⟨by decide +kernel, by decide +kernel, by decide +kernel⟩, inT1 (List.mem_of_getElem? (i := 91) rfl) rfl, inT1 (List.mem_of_getElem? (i := 5) rfl) rfl⟩
theorem mv_X1_restart : MV mX1_restart 1 := ⟨mk_X1_restart, inT1 (List.mem_of_getElem? (i := 89) rfl) rfl, inT1 (List.mem_of_getElem? (i := 90) rfl) rfl⟩
abbrev mX1_settle : Mi := (yX1_settle, cX1_settle, 1, none)
theorem mk_X1_settle : MK mX1_settle 0 := ⟨⟨by decide +kernel, by decide +kernel, by decide +kernel⟩, inT1 (List.mem_of_getElem? (i := 96) rfl) rfl, inT1 (List.mem_of_getElem? (i := 5) rfl) rfl⟩
theorem mv_X1_settle : MV mX1_settle 0 := ⟨mk_X1_settle, inT1 (List.mem_of_getElem? (i := 94) rfl) rfl, inT1 (List.mem_of_getElem? (i := 95) rfl) rfl⟩
abbrev mX1_goOn : Mi := (yX1_goOn, cX1_goOn, 4, none)
theorem mk_X1_goOn : MK mX1_goOn 3 := ⟨⟨by decide +kernel, by decide +kernel, by decide +kernel⟩, inT1 (List.mem_of_getElem? (i := 100) rfl) rfl, inT1 (List.mem_of_getElem? (i := 5) rfl) rfl⟩
theorem mv_X1_goOn : MV mX1_goOn 3 := ⟨mk_X1_goOn, inT1 (List.mem_of_getElem? (i := 98) rfl) rfl, inT1 (List.mem_of_getElem? (i := 99) rfl) rfl⟩
abbrev mX1_end : Mi := (yX1_end, cX1_end, 3, none)
theorem mk_X1_end : MK mX1_end 2 := ⟨⟨by decide +kernel, by decide +kernel, by decide +kernel⟩, inT3 (List.mem_of_getElem? (i := 39) rfl) rfl, inT1 (List.mem_of_getElem? (i := 5) rfl) rfl⟩
theorem mv_X1_end : MV mX1_end 2 := ⟨mk_X1_end, inT3 (List.mem_of_getElem? (i := 37) rfl) rfl, inT3 (List.mem_of_getElem? (i := 38) rfl) rfl⟩
abbrev mX1_arise : Mi := (yX1_arise, cX1_arise, 5, none)
theorem mk_X1_arise : MK mX1_arise 3 := ⟨⟨by decide +kernel, by decide +kernel, by decide +kernel⟩, inT3 (List.mem_of_getElem? (i := 47) rfl) rfl, inT1 (List.mem_of_getElem? (i := 5) rfl) rfl⟩
theorem mv_X1_arise : MV mX1_arise 3 := ⟨mk_X1_arise, inT3 (List.mem_of_getElem? (i := 45) rfl) rfl, inT3 (List.mem_of_getElem? (i := 46) rfl) rfl⟩
abbrev mX1_takesStep : Mi := (yX1_takesStep, cX1_takesStep, 2, (some .boolean))
theorem mk_X1_takesStep : MK mX1_takesStep 1 := ⟨⟨by decide +kernel, by decide +kernel, by decide +kernel⟩, inT2 (List.mem_of_getElem? (i := 94) rfl) rfl, inT1 (List.mem_of_getElem? (i := 5) rfl) rfl⟩
theorem mv_X1_takesStep : MV mX1_takesStep 1 := ⟨mk_X1_takesStep, inT2 (List.mem_of_getElem? (i := 92) rfl) rfl, inT2 (List.mem_of_getElem? (i := 93) rfl) rfl⟩
abbrev mX1_isFailing : Mi := (yX1_isFailing, cX1_isFailing, 1, (some .boolean))
theorem mk_X1_isFailing : MK mX1_isFailing 0 := ⟨⟨by decide +kernel, by decide +kernel, by decide +kernel⟩, inT2 (List.mem_of_getElem? (i := 124) rfl) rfl, inT1 (List.mem_of_getElem? (i := 5) rfl) rfl⟩
theorem mv_X1_isFailing : MV mX1_isFailing 0 := ⟨mk_X1_isFailing, inT2 (List.mem_of_getElem? (i := 122) rfl) rfl, inT2 (List.mem_of_getElem? (i := 123) rfl) rfl⟩
abbrev mX2_of : Mi := (yX2_of, cX2_of, 9, (some .int))
theorem mk_X2_of : MK mX2_of 6 := ⟨⟨by decide +kernel, by decide +kernel, by decide +kernel⟩, inT2 (List.mem_of_getElem? (i := 231) rfl) rfl, inT1 (List.mem_of_getElem? (i := 11) rfl) rfl⟩
theorem ms_X2_of : MS mX2_of 6 := ⟨mk_X2_of, inT2 (List.mem_of_getElem? (i := 230) rfl) rfl⟩
abbrev mX2_firstOf : Mi := (yX2_firstOf, cX2_firstOf, 3, (some .int))
theorem mk_X2_firstOf : MK mX2_firstOf 3 := ⟨⟨by decide +kernel, by decide +kernel, by decide +kernel⟩, inT3 (List.mem_of_getElem? (i := 2) rfl) rfl, inT1 (List.mem_of_getElem? (i := 11) rfl) rfl⟩
theorem ms_X2_firstOf : MS mX2_firstOf 3 := ⟨mk_X2_firstOf, inT3 (List.mem_of_getElem? (i := 1) rfl) rfl⟩
abbrev mX2_ofThing : Mi := (yX2_ofThing, cX2_ofThing, 3, (some .int))
theorem mk_X2_ofThing : MK mX2_ofThing 2 := ⟨⟨by decide +kernel, by decide +kernel, by decide +kernel⟩, inT2 (List.mem_of_getElem? (i := 238) rfl) rfl, inT1 (List.mem_of_getElem? (i := 11) rfl) rfl⟩
theorem ms_X2_ofThing : MS mX2_ofThing 2 := ⟨mk_X2_ofThing, inT2 (List.mem_of_getElem? (i := 237) rfl) rfl⟩
abbrev mX2_ofWhole : Mi := (yX2_ofWhole, cX2_ofWhole, 2, (some .int))
theorem mk_X2_ofWhole : MK mX2_ofWhole 1 := ⟨⟨by decide +kernel, by decide +kernel, by decide +kernel⟩, inT2 (List.mem_of_getElem? (i := 234) rfl) rfl, inT1 (List.mem_of_getElem? (i := 11) rfl) rfl⟩
theorem ms_X2_ofWhole : MS mX2_ofWhole 1 := ⟨mk_X2_ofWhole, inT2 (List.mem_of_getElem? (i := 233) rfl) rfl⟩
abbrev mX2_ofLength : Mi := (yX2_ofLength, cX2_ofLength, 1, (some .int))
theorem mk_X2_ofLength : MK mX2_ofLength 1 := ⟨⟨by decide +kernel, by decide +kernel, by decide +kernel⟩, inT3 (List.mem_of_getElem? (i := 6) rfl) rfl, inT1 (List.mem_of_getElem? (i := 11) rfl) rfl⟩
theorem ms_X2_ofLength : MS mX2_ofLength 1 := ⟨mk_X2_ofLength, inT3 (List.mem_of_getElem? (i := 5) rfl) rfl⟩
abbrev mX2_ofPlace : Mi := (yX2_ofPlace, cX2_ofPlace, 2, (some .int))
theorem mk_X2_ofPlace : MK mX2_ofPlace 2 := ⟨⟨by decide +kernel, by decide +kernel, by decide +kernel⟩, inT3 (List.mem_of_getElem? (i := 10) rfl) rfl, inT1 (List.mem_of_getElem? (i := 11) rfl) rfl⟩
theorem ms_X2_ofPlace : MS mX2_ofPlace 2 := ⟨mk_X2_ofPlace, inT3 (List.mem_of_getElem? (i := 9) rfl) rfl⟩
abbrev mX2_ofWrite : Mi := (yX2_ofWrite, cX2_ofWrite, 9, (some .int))
theorem mk_X2_ofWrite : MK mX2_ofWrite 4 := ⟨⟨by decide +kernel, by decide +kernel, by decide +kernel⟩, inT3 (List.mem_of_getElem? (i := 13) rfl) rfl, inT1 (List.mem_of_getElem? (i := 11) rfl) rfl⟩
theorem ms_X2_ofWrite : MS mX2_ofWrite 4 := ⟨mk_X2_ofWrite, inT3 (List.mem_of_getElem? (i := 12) rfl) rfl⟩
abbrev mX2_ofCopy : Mi := (yX2_ofCopy, cX2_ofCopy, 7, (some .int))
theorem mk_X2_ofCopy : MK mX2_ofCopy 4 := ⟨⟨by decide +kernel, by decide +kernel, by decide +kernel⟩, inT3 (List.mem_of_getElem? (i := 31) rfl) rfl, inT1 (List.mem_of_getElem? (i := 11) rfl) rfl⟩
theorem ms_X2_ofCopy : MS mX2_ofCopy 4 := ⟨mk_X2_ofCopy, inT3 (List.mem_of_getElem? (i := 30) rfl) rfl⟩
abbrev mX3_init : Mi := (yX3_init, cX3_init, 1, none)
theorem mk_X3_init : MK mX3_init 0 := ⟨⟨by decide +kernel, by decide +kernel, by decide +kernel⟩, inT1 (List.mem_of_getElem? (i := 139) rfl) rfl, inT1 (List.mem_of_getElem? (i := 6) rfl) rfl⟩
abbrev mX3_restart : Mi := (yX3_restart, cX3_restart, 1, none)
theorem mk_X3_restart : MK mX3_restart 0 := ⟨⟨by decide +kernel, by decide +kernel, by decide +kernel⟩, inT2 (List.mem_of_getElem? (i := 73) rfl) rfl, inT1 (List.mem_of_getElem? (i := 6) rfl) rfl⟩
theorem mv_X3_restart : MV mX3_restart 0 := ⟨mk_X3_restart, inT2 (List.mem_of_getElem? (i := 71) rfl) rfl, inT2 (List.mem_of_getElem? (i := 72) rfl) rfl⟩
abbrev mX3_open : Mi := (yX3_open, cX3_open, 3, (some .int))
theorem mk_X3_open : MK mX3_open 0 := ⟨⟨by decide +kernel, by decide +kernel, by decide +kernel⟩, inT2 (List.mem_of_getElem? (i := 85) rfl) rfl, inT1 (List.mem_of_getElem? (i := 6) rfl) rfl⟩
theorem mv_X3_open : MV mX3_open 0 := ⟨mk_X3_open, inT2 (List.mem_of_getElem? (i := 83) rfl) rfl, inT2 (List.mem_of_getElem? (i := 84) rfl) rfl⟩
abbrev mX3_read : Mi := (yX3_read, cX3_read, 3, (some .long))
theorem mk_X3_read : MK mX3_read 2 := ⟨⟨by decide +kernel, by decide +kernel, by decide +kernel⟩, inT3 (List.mem_of_getElem? (i := 174) rfl) rfl, inT1 (List.mem_of_getElem? (i := 6) rfl) rfl⟩
theorem mv_X3_read : MV mX3_read 2 := ⟨mk_X3_read, inT3 (List.mem_of_getElem? (i := 172) rfl) rfl, inT3 (List.mem_of_getElem? (i := 173) rfl) rfl⟩
abbrev mX3_write : Mi := (yX3_write, cX3_write, 5, none)
theorem mk_X3_write : MK mX3_write 3 := ⟨⟨by decide +kernel, by decide +kernel, by decide +kernel⟩, inT2 (List.mem_of_getElem? (i := 144) rfl) rfl, inT1 (List.mem_of_getElem? (i := 6) rfl) rfl⟩
theorem mv_X3_write : MV mX3_write 3 := ⟨mk_X3_write, inT2 (List.mem_of_getElem? (i := 142) rfl) rfl, inT2 (List.mem_of_getElem? (i := 143) rfl) rfl⟩
abbrev mX3_has : Mi := (yX3_has, cX3_has, 3, (some .boolean))
theorem mk_X3_has : MK mX3_has 2 := ⟨⟨by decide +kernel, by decide +kernel, by decide +kernel⟩, inT2 (List.mem_of_getElem? (i := 148) rfl) rfl, inT1 (List.mem_of_getElem? (i := 6) rfl) rfl⟩
theorem mv_X3_has : MV mX3_has 2 := ⟨mk_X3_has, inT2 (List.mem_of_getElem? (i := 147) rfl) rfl, inP1 (List.mem_of_getElem? (i := 7) rfl)⟩
abbrev mX5_init : Mi := (yX5_init, cX5_init, 1, none)
theorem mk_X5_init : MK mX5_init 0 := ⟨⟨by decide +kernel, by decide +kernel, by decide +kernel⟩, inT1 (List.mem_of_getElem? (i := 152) rfl) rfl, inT1 (List.mem_of_getElem? (i := 7) rfl) rfl⟩
abbrev mX5_restart : Mi := (yX5_restart, cX5_restart, 1, none)
theorem mk_X5_restart : MK mX5_restart 0 := ⟨⟨by decide +kernel, by decide +kernel, by decide +kernel⟩, inT2 (List.mem_of_getElem? (i := 77) rfl) rfl, inT1 (List.mem_of_getElem? (i := 7) rfl) rfl⟩
theorem mv_X5_restart : MV mX5_restart 0 := ⟨mk_X5_restart, inT2 (List.mem_of_getElem? (i := 75) rfl) rfl, inT2 (List.mem_of_getElem? (i := 76) rfl) rfl⟩
abbrev mX5_add : Mi := (yX5_add, cX5_add, 4, (some .long))
theorem mk_X5_add : MK mX5_add 2 := ⟨⟨by decide +kernel, by decide +kernel, by decide +kernel⟩, inT3 (List.mem_of_getElem? (i := 106) rfl) rfl, inT1 (List.mem_of_getElem? (i := 7) rfl) rfl⟩
theorem mv_X5_add : MV mX5_add 2 := ⟨mk_X5_add, inT3 (List.mem_of_getElem? (i := 104) rfl) rfl, inT3 (List.mem_of_getElem? (i := 105) rfl) rfl⟩
abbrev mX5_has : Mi := (yX5_has, cX5_has, 2, (some .boolean))
theorem mk_X5_has : MK mX5_has 1 := ⟨⟨by decide +kernel, by decide +kernel, by decide +kernel⟩, inT2 (List.mem_of_getElem? (i := 185) rfl) rfl, inT1 (List.mem_of_getElem? (i := 7) rfl) rfl⟩
theorem mv_X5_has : MV mX5_has 1 := ⟨mk_X5_has, inT2 (List.mem_of_getElem? (i := 184) rfl) rfl, inP1 (List.mem_of_getElem? (i := 10) rfl)⟩
abbrev mX5_actOf : Mi := (yX5_actOf, cX5_actOf, 2, (some .int))
theorem mk_X5_actOf : MK mX5_actOf 1 := ⟨⟨by decide +kernel, by decide +kernel, by decide +kernel⟩, inT3 (List.mem_of_getElem? (i := 138) rfl) rfl, inT1 (List.mem_of_getElem? (i := 7) rfl) rfl⟩
theorem mv_X5_actOf : MV mX5_actOf 1 := ⟨mk_X5_actOf, inT3 (List.mem_of_getElem? (i := 136) rfl) rfl, inT3 (List.mem_of_getElem? (i := 137) rfl) rfl⟩
abbrev mX5_frameOf : Mi := (yX5_frameOf, cX5_frameOf, 2, (some .int))
theorem mk_X5_frameOf : MK mX5_frameOf 1 := ⟨⟨by decide +kernel, by decide +kernel, by decide +kernel⟩, inT3 (List.mem_of_getElem? (i := 142) rfl) rfl, inT1 (List.mem_of_getElem? (i := 7) rfl) rfl⟩
theorem mv_X5_frameOf : MV mX5_frameOf 1 := ⟨mk_X5_frameOf, inT3 (List.mem_of_getElem? (i := 140) rfl) rfl, inT3 (List.mem_of_getElem? (i := 141) rfl) rfl⟩
abbrev mX5_stateOf : Mi := (yX5_stateOf, cX5_stateOf, 2, (some .int))
theorem mk_X5_stateOf : MK mX5_stateOf 1 := ⟨⟨by decide +kernel, by decide +kernel, by decide +kernel⟩, inT3 (List.mem_of_getElem? (i := 122) rfl) rfl, inT1 (List.mem_of_getElem? (i := 7) rfl) rfl⟩
theorem mv_X5_stateOf : MV mX5_stateOf 1 := ⟨mk_X5_stateOf, inT3 (List.mem_of_getElem? (i := 120) rfl) rfl, inT3 (List.mem_of_getElem? (i := 121) rfl) rfl⟩
abbrev mX5_failureOf : Mi := (yX5_failureOf, cX5_failureOf, 2, (some .int))
theorem mk_X5_failureOf : MK mX5_failureOf 1 := ⟨⟨by decide +kernel, by decide +kernel, by decide +kernel⟩, inT3 (List.mem_of_getElem? (i := 130) rfl) rfl, inT1 (List.mem_of_getElem? (i := 7) rfl) rfl⟩
theorem mv_X5_failureOf : MV mX5_failureOf 1 := ⟨mk_X5_failureOf, inT3 (List.mem_of_getElem? (i := 128) rfl) rfl, inT3 (List.mem_of_getElem? (i := 129) rfl) rfl⟩
abbrev mX5_codeOf : Mi := (yX5_codeOf, cX5_codeOf, 2, (some .int))
theorem mk_X5_codeOf : MK mX5_codeOf 1 := ⟨⟨by decide +kernel, by decide +kernel, by decide +kernel⟩, inT3 (List.mem_of_getElem? (i := 134) rfl) rfl, inT1 (List.mem_of_getElem? (i := 7) rfl) rfl⟩
theorem mv_X5_codeOf : MV mX5_codeOf 1 := ⟨mk_X5_codeOf, inT3 (List.mem_of_getElem? (i := 132) rfl) rfl, inT3 (List.mem_of_getElem? (i := 133) rfl) rfl⟩
abbrev mX5_valueOf : Mi := (yX5_valueOf, cX5_valueOf, 2, (some .long))
theorem mk_X5_valueOf : MK mX5_valueOf 1 := ⟨⟨by decide +kernel, by decide +kernel, by decide +kernel⟩, inT3 (List.mem_of_getElem? (i := 126) rfl) rfl, inT1 (List.mem_of_getElem? (i := 7) rfl) rfl⟩
theorem mv_X5_valueOf : MV mX5_valueOf 1 := ⟨mk_X5_valueOf, inT3 (List.mem_of_getElem? (i := 124) rfl) rfl, inT3 (List.mem_of_getElem? (i := 125) rfl) rfl⟩
abbrev mX5_setState : Mi := (yX5_setState, cX5_setState, 3, none)
theorem mk_X5_setState : MK mX5_setState 2 := ⟨⟨by decide +kernel, by decide +kernel, by decide +kernel⟩, inT2 (List.mem_of_getElem? (i := 189) rfl) rfl, inT1 (List.mem_of_getElem? (i := 7) rfl) rfl⟩
theorem mv_X5_setState : MV mX5_setState 2 := ⟨mk_X5_setState, inT2 (List.mem_of_getElem? (i := 187) rfl) rfl, inT2 (List.mem_of_getElem? (i := 188) rfl) rfl⟩
abbrev mX5_finish : Mi := (yX5_finish, cX5_finish, 4, none)
theorem mk_X5_finish : MK mX5_finish 2 := ⟨⟨by decide +kernel, by decide +kernel, by decide +kernel⟩, inT3 (List.mem_of_getElem? (i := 146) rfl) rfl, inT1 (List.mem_of_getElem? (i := 7) rfl) rfl⟩
theorem mv_X5_finish : MV mX5_finish 2 := ⟨mk_X5_finish, inT3 (List.mem_of_getElem? (i := 144) rfl) rfl, inT3 (List.mem_of_getElem? (i := 145) rfl) rfl⟩
abbrev mX5_giveUp : Mi := (yX5_giveUp, cX5_giveUp, 4, none)
theorem mk_X5_giveUp : MK mX5_giveUp 3 := ⟨⟨by decide +kernel, by decide +kernel, by decide +kernel⟩, inT2 (List.mem_of_getElem? (i := 181) rfl) rfl, inT1 (List.mem_of_getElem? (i := 7) rfl) rfl⟩
theorem mv_X5_giveUp : MV mX5_giveUp 3 := ⟨mk_X5_giveUp, inT2 (List.mem_of_getElem? (i := 179) rfl) rfl, inT2 (List.mem_of_getElem? (i := 180) rfl) rfl⟩
abbrev mX6_init : Mi := (yX6_init, cX6_init, 2, none)
theorem mk_X6_init : MK mX6_init 1 := ⟨⟨by decide +kernel, by decide +kernel, by decide +kernel⟩, inT1 (List.mem_of_getElem? (i := 52) rfl) rfl, inT1 (List.mem_of_getElem? (i := 3) rfl) rfl⟩
abbrev mX6_restart : Mi := (yX6_restart, cX6_restart, 2, none)
theorem mk_X6_restart : MK mX6_restart 1 := ⟨⟨by decide +kernel, by decide +kernel, by decide +kernel⟩, inT2 (List.mem_of_getElem? (i := 67) rfl) rfl, inT1 (List.mem_of_getElem? (i := 3) rfl) rfl⟩
theorem mv_X6_restart : MV mX6_restart 1 := ⟨mk_X6_restart, inT2 (List.mem_of_getElem? (i := 65) rfl) rfl, inT2 (List.mem_of_getElem? (i := 66) rfl) rfl⟩
abbrev mX6_perform : Mi := (yX6_perform, cX6_perform, 4, none)
theorem mk_X6_perform : MK mX6_perform 2 := ⟨⟨by decide +kernel, by decide +kernel, by decide +kernel⟩, inT2 (List.mem_of_getElem? (i := 63) rfl) rfl, inT1 (List.mem_of_getElem? (i := 3) rfl) rfl⟩
theorem mv_X6_perform : MV mX6_perform 2 := ⟨mk_X6_perform, inT2 (List.mem_of_getElem? (i := 61) rfl) rfl, inT2 (List.mem_of_getElem? (i := 62) rfl) rfl⟩
abbrev mX6_begin : Mi := (yX6_begin, cX6_begin, 3, none)
theorem mk_X6_begin : MK mX6_begin 2 := ⟨⟨by decide +kernel, by decide +kernel, by decide +kernel⟩, inT2 (List.mem_of_getElem? (i := 90) rfl) rfl, inT1 (List.mem_of_getElem? (i := 3) rfl) rfl⟩
theorem mv_X6_begin : MV mX6_begin 2 := ⟨mk_X6_begin, inT2 (List.mem_of_getElem? (i := 89) rfl) rfl, inP1 (List.mem_of_getElem? (i := 3) rfl)⟩
abbrev mX6_beginPart : Mi := (yX6_beginPart, cX6_beginPart, 2, none)
theorem mk_X6_beginPart : MK mX6_beginPart 1 := ⟨⟨by decide +kernel, by decide +kernel, by decide +kernel⟩, inT2 (List.mem_of_getElem? (i := 157) rfl) rfl, inT1 (List.mem_of_getElem? (i := 3) rfl) rfl⟩
theorem mv_X6_beginPart : MV mX6_beginPart 1 := ⟨mk_X6_beginPart, inT2 (List.mem_of_getElem? (i := 156) rfl) rfl, inP1 (List.mem_of_getElem? (i := 8) rfl)⟩
abbrev mX6_give : Mi := (yX6_give, cX6_give, 3, none)
theorem mk_X6_give : MK mX6_give 1 := ⟨⟨by decide +kernel, by decide +kernel, by decide +kernel⟩, inT3 (List.mem_of_getElem? (i := 59) rfl) rfl, inT1 (List.mem_of_getElem? (i := 3) rfl) rfl⟩
theorem mv_X6_give : MV mX6_give 1 := ⟨mk_X6_give, inT3 (List.mem_of_getElem? (i := 58) rfl) rfl, inP2 (List.mem_of_getElem? (i := 1) rfl)⟩
abbrev mX6_fail : Mi := (yX6_fail, cX6_fail, 4, none)
theorem mk_X6_fail : MK mX6_fail 2 := ⟨⟨by decide +kernel, by decide +kernel, by decide +kernel⟩, inT3 (List.mem_of_getElem? (i := 43) rfl) rfl, inT1 (List.mem_of_getElem? (i := 3) rfl) rfl⟩
theorem mv_X6_fail : MV mX6_fail 2 := ⟨mk_X6_fail, inT3 (List.mem_of_getElem? (i := 42) rfl) rfl, inP1 (List.mem_of_getElem? (i := 14) rfl)⟩
abbrev mX6_endRun : Mi := (yX6_endRun, cX6_endRun, 3, none)
theorem mk_X6_endRun : MK mX6_endRun 1 := ⟨⟨by decide +kernel, by decide +kernel, by decide +kernel⟩, inT3 (List.mem_of_getElem? (i := 35) rfl) rfl, inT1 (List.mem_of_getElem? (i := 3) rfl) rfl⟩
theorem mv_X6_endRun : MV mX6_endRun 1 := ⟨mk_X6_endRun, inT3 (List.mem_of_getElem? (i := 34) rfl) rfl, inP1 (List.mem_of_getElem? (i := 13) rfl)⟩
abbrev mX6_comesToWork : Mi := (yX6_comesToWork, cX6_comesToWork, 3, (some .boolean))
theorem mk_X6_comesToWork : MK mX6_comesToWork 0 := ⟨⟨by decide +kernel, by decide +kernel, by decide +kernel⟩, inT2 (List.mem_of_getElem? (i := 205) rfl) rfl, inT1 (List.mem_of_getElem? (i := 3) rfl) rfl⟩
theorem mv_X6_comesToWork : MV mX6_comesToWork 0 := ⟨mk_X6_comesToWork, inT2 (List.mem_of_getElem? (i := 204) rfl) rfl, inP1 (List.mem_of_getElem? (i := 11) rfl)⟩
abbrev mX6_isStopped : Mi := (yX6_isStopped, cX6_isStopped, 7, (some .boolean))
theorem mk_X6_isStopped : MK mX6_isStopped 1 := ⟨⟨by decide +kernel, by decide +kernel, by decide +kernel⟩, inT2 (List.mem_of_getElem? (i := 213) rfl) rfl, inT1 (List.mem_of_getElem? (i := 3) rfl) rfl⟩
theorem mv_X6_isStopped : MV mX6_isStopped 1 := ⟨mk_X6_isStopped, inT2 (List.mem_of_getElem? (i := 212) rfl) rfl, inP1 (List.mem_of_getElem? (i := 12) rfl)⟩
abbrev mX6_work : Mi := (yX6_work, cX6_work, 2, none)
theorem mk_X6_work : MK mX6_work 0 := ⟨⟨by decide +kernel, by decide +kernel, by decide +kernel⟩, inT3 (List.mem_of_getElem? (i := 51) rfl) rfl, inT1 (List.mem_of_getElem? (i := 3) rfl) rfl⟩
theorem mv_X6_work : MV mX6_work 0 := ⟨mk_X6_work, inT3 (List.mem_of_getElem? (i := 50) rfl) rfl, inP1 (List.mem_of_getElem? (i := 15) rfl)⟩
abbrev mX6_keep : Mi := (yX6_keep, cX6_keep, 1, none)
theorem mk_X6_keep : MK mX6_keep 0 := ⟨⟨by decide +kernel, by decide +kernel, by decide +kernel⟩, inT3 (List.mem_of_getElem? (i := 55) rfl) rfl, inT1 (List.mem_of_getElem? (i := 3) rfl) rfl⟩
theorem mv_X6_keep : MV mX6_keep 0 := ⟨mk_X6_keep, inT3 (List.mem_of_getElem? (i := 54) rfl) rfl, inP2 (List.mem_of_getElem? (i := 0) rfl)⟩
abbrev mX6_doAlways : Mi := (yX6_doAlways, cX6_doAlways, 1, none)
theorem mk_X6_doAlways : MK mX6_doAlways 0 := ⟨⟨by decide +kernel, by decide +kernel, by decide +kernel⟩, inT3 (List.mem_of_getElem? (i := 67) rfl) rfl, inT1 (List.mem_of_getElem? (i := 3) rfl) rfl⟩
theorem mv_X6_doAlways : MV mX6_doAlways 0 := ⟨mk_X6_doAlways, inT3 (List.mem_of_getElem? (i := 66) rfl) rfl, inP2 (List.mem_of_getElem? (i := 2) rfl)⟩
abbrev mX6_choose : Mi := (yX6_choose, cX6_choose, 1, none)
theorem mk_X6_choose : MK mX6_choose 0 := ⟨⟨by decide +kernel, by decide +kernel, by decide +kernel⟩, inT3 (List.mem_of_getElem? (i := 80) rfl) rfl, inT1 (List.mem_of_getElem? (i := 3) rfl) rfl⟩
theorem mv_X6_choose : MV mX6_choose 0 := ⟨mk_X6_choose, inT3 (List.mem_of_getElem? (i := 79) rfl) rfl, inP2 (List.mem_of_getElem? (i := 3) rfl)⟩
abbrev mX6_loop : Mi := (yX6_loop, cX6_loop, 1, none)
theorem mk_X6_loop : MK mX6_loop 0 := ⟨⟨by decide +kernel, by decide +kernel, by decide +kernel⟩, inT3 (List.mem_of_getElem? (i := 84) rfl) rfl, inT1 (List.mem_of_getElem? (i := 3) rfl) rfl⟩
theorem mv_X6_loop : MV mX6_loop 0 := ⟨mk_X6_loop, inT3 (List.mem_of_getElem? (i := 83) rfl) rfl, inP2 (List.mem_of_getElem? (i := 4) rfl)⟩
abbrev mX6_askAgain : Mi := (yX6_askAgain, cX6_askAgain, 1, none)
theorem mk_X6_askAgain : MK mX6_askAgain 0 := ⟨⟨by decide +kernel, by decide +kernel, by decide +kernel⟩, inT3 (List.mem_of_getElem? (i := 88) rfl) rfl, inT1 (List.mem_of_getElem? (i := 3) rfl) rfl⟩
theorem mv_X6_askAgain : MV mX6_askAgain 0 := ⟨mk_X6_askAgain, inT3 (List.mem_of_getElem? (i := 87) rfl) rfl, inP2 (List.mem_of_getElem? (i := 5) rfl)⟩
abbrev mX6_call : Mi := (yX6_call, cX6_call, 1, none)
theorem mk_X6_call : MK mX6_call 0 := ⟨⟨by decide +kernel, by decide +kernel, by decide +kernel⟩, inT3 (List.mem_of_getElem? (i := 93) rfl) rfl, inT1 (List.mem_of_getElem? (i := 3) rfl) rfl⟩
theorem mv_X6_call : MV mX6_call 0 := ⟨mk_X6_call, inT3 (List.mem_of_getElem? (i := 92) rfl) rfl, inP2 (List.mem_of_getElem? (i := 6) rfl)⟩
abbrev mX6_enter : Mi := (yX6_enter, cX6_enter, 3, none)
theorem mk_X6_enter : MK mX6_enter 1 := ⟨⟨by decide +kernel, by decide +kernel, by decide +kernel⟩, inT3 (List.mem_of_getElem? (i := 97) rfl) rfl, inT1 (List.mem_of_getElem? (i := 3) rfl) rfl⟩
theorem mv_X6_enter : MV mX6_enter 1 := ⟨mk_X6_enter, inT3 (List.mem_of_getElem? (i := 96) rfl) rfl, inP2 (List.mem_of_getElem? (i := 7) rfl)⟩
abbrev mX6_delay : Mi := (yX6_delay, cX6_delay, 1, none)
theorem mk_X6_delay : MK mX6_delay 0 := ⟨⟨by decide +kernel, by decide +kernel, by decide +kernel⟩, inT3 (List.mem_of_getElem? (i := 102) rfl) rfl, inT1 (List.mem_of_getElem? (i := 3) rfl) rfl⟩
theorem mv_X6_delay : MV mX6_delay 0 := ⟨mk_X6_delay, inT3 (List.mem_of_getElem? (i := 101) rfl) rfl, inP2 (List.mem_of_getElem? (i := 8) rfl)⟩
abbrev mX6_force : Mi := (yX6_force, cX6_force, 2, none)
theorem mk_X6_force : MK mX6_force 1 := ⟨⟨by decide +kernel, by decide +kernel, by decide +kernel⟩, inT3 (List.mem_of_getElem? (i := 114) rfl) rfl, inT1 (List.mem_of_getElem? (i := 3) rfl) rfl⟩
theorem mv_X6_force : MV mX6_force 1 := ⟨mk_X6_force, inT3 (List.mem_of_getElem? (i := 113) rfl) rfl, inP2 (List.mem_of_getElem? (i := 9) rfl)⟩
abbrev mX6_workLater : Mi := (yX6_workLater, cX6_workLater, 2, none)
theorem mk_X6_workLater : MK mX6_workLater 1 := ⟨⟨by decide +kernel, by decide +kernel, by decide +kernel⟩, inT3 (List.mem_of_getElem? (i := 118) rfl) rfl, inT1 (List.mem_of_getElem? (i := 3) rfl) rfl⟩
theorem mv_X6_workLater : MV mX6_workLater 1 := ⟨mk_X6_workLater, inT3 (List.mem_of_getElem? (i := 117) rfl) rfl, inP2 (List.mem_of_getElem? (i := 10) rfl)⟩
abbrev mX6_copy : Mi := (yX6_copy, cX6_copy, 3, none)
theorem mk_X6_copy : MK mX6_copy 0 := ⟨⟨by decide +kernel, by decide +kernel, by decide +kernel⟩, inT3 (List.mem_of_getElem? (i := 150) rfl) rfl, inT1 (List.mem_of_getElem? (i := 3) rfl) rfl⟩
theorem mv_X6_copy : MV mX6_copy 0 := ⟨mk_X6_copy, inT3 (List.mem_of_getElem? (i := 149) rfl) rfl, inP2 (List.mem_of_getElem? (i := 11) rfl)⟩
abbrev mX6_workPlainly : Mi := (yX6_workPlainly, cX6_workPlainly, 7, none)
theorem mk_X6_workPlainly : MK mX6_workPlainly 1 := ⟨⟨by decide +kernel, by decide +kernel, by decide +kernel⟩, inT3 (List.mem_of_getElem? (i := 166) rfl) rfl, inT1 (List.mem_of_getElem? (i := 3) rfl) rfl⟩
theorem mv_X6_workPlainly : MV mX6_workPlainly 1 := ⟨mk_X6_workPlainly, inT3 (List.mem_of_getElem? (i := 165) rfl) rfl, inP2 (List.mem_of_getElem? (i := 12) rfl)⟩
abbrev mX6_reckon : Mi := (yX6_reckon, cX6_reckon, 9, (some .long))
theorem mk_X6_reckon : MK mX6_reckon 4 := ⟨⟨by decide +kernel, by decide +kernel, by decide +kernel⟩, inT3 (List.mem_of_getElem? (i := 170) rfl) rfl, inT1 (List.mem_of_getElem? (i := 3) rfl) rfl⟩
theorem mv_X6_reckon : MV mX6_reckon 4 := ⟨mk_X6_reckon, inT3 (List.mem_of_getElem? (i := 169) rfl) rfl, inP2 (List.mem_of_getElem? (i := 13) rfl)⟩
abbrev mX6_change : Mi := (yX6_change, cX6_change, 9, (some .long))
theorem mk_X6_change : MK mX6_change 5 := ⟨⟨by decide +kernel, by decide +kernel, by decide +kernel⟩, inT3 (List.mem_of_getElem? (i := 181) rfl) rfl, inT1 (List.mem_of_getElem? (i := 3) rfl) rfl⟩
theorem mv_X6_change : MV mX6_change 5 := ⟨mk_X6_change, inT3 (List.mem_of_getElem? (i := 180) rfl) rfl, inP2 (List.mem_of_getElem? (i := 14) rfl)⟩
abbrev mX6_put : Mi := (yX6_put, cX6_put, 4, (some .long))
theorem mk_X6_put : MK mX6_put 2 := ⟨⟨by decide +kernel, by decide +kernel, by decide +kernel⟩, inT3 (List.mem_of_getElem? (i := 197) rfl) rfl, inT1 (List.mem_of_getElem? (i := 3) rfl) rfl⟩
theorem mv_X6_put : MV mX6_put 2 := ⟨mk_X6_put, inT3 (List.mem_of_getElem? (i := 196) rfl) rfl, inP2 (List.mem_of_getElem? (i := 15) rfl)⟩
abbrev mX6_tell : Mi := (yX6_tell, cX6_tell, 3, (some .long))
theorem mk_X6_tell : MK mX6_tell 1 := ⟨⟨by decide +kernel, by decide +kernel, by decide +kernel⟩, inT3 (List.mem_of_getElem? (i := 202) rfl) rfl, inT1 (List.mem_of_getElem? (i := 3) rfl) rfl⟩
theorem mv_X6_tell : MV mX6_tell 1 := ⟨mk_X6_tell, inT3 (List.mem_of_getElem? (i := 201) rfl) rfl, inP3 (List.mem_of_getElem? (i := 0) rfl)⟩
abbrev mX6_leave : Mi := (yX6_leave, cX6_leave, 3, none)
theorem mk_X6_leave : MK mX6_leave 0 := ⟨⟨by decide +kernel, by decide +kernel, by decide +kernel⟩, inT2 (List.mem_of_getElem? (i := 111) rfl) rfl, inT1 (List.mem_of_getElem? (i := 3) rfl) rfl⟩
theorem mv_X6_leave : MV mX6_leave 0 := ⟨mk_X6_leave, inT2 (List.mem_of_getElem? (i := 110) rfl) rfl, inP1 (List.mem_of_getElem? (i := 4) rfl)⟩
abbrev mX6_isCaught : Mi := (yX6_isCaught, cX6_isCaught, 2, (some .boolean))
theorem mk_X6_isCaught : MK mX6_isCaught 0 := ⟨⟨by decide +kernel, by decide +kernel, by decide +kernel⟩, inT2 (List.mem_of_getElem? (i := 128) rfl) rfl, inT1 (List.mem_of_getElem? (i := 3) rfl) rfl⟩
theorem mv_X6_isCaught : MV mX6_isCaught 0 := ⟨mk_X6_isCaught, inT2 (List.mem_of_getElem? (i := 127) rfl) rfl, inP1 (List.mem_of_getElem? (i := 5) rfl)⟩
abbrev mX6_takeUp : Mi := (yX6_takeUp, cX6_takeUp, 1, none)
theorem mk_X6_takeUp : MK mX6_takeUp 0 := ⟨⟨by decide +kernel, by decide +kernel, by decide +kernel⟩, inT2 (List.mem_of_getElem? (i := 132) rfl) rfl, inT1 (List.mem_of_getElem? (i := 3) rfl) rfl⟩
theorem mv_X6_takeUp : MV mX6_takeUp 0 := ⟨mk_X6_takeUp, inT2 (List.mem_of_getElem? (i := 131) rfl) rfl, inP1 (List.mem_of_getElem? (i := 6) rfl)⟩
abbrev mX6_leaveLater : Mi := (yX6_leaveLater, cX6_leaveLater, 2, none)
theorem mk_X6_leaveLater : MK mX6_leaveLater 1 := ⟨⟨by decide +kernel, by decide +kernel, by decide +kernel⟩, inT2 (List.mem_of_getElem? (i := 177) rfl) rfl, inT1 (List.mem_of_getElem? (i := 3) rfl) rfl⟩
theorem mv_X6_leaveLater : MV mX6_leaveLater 1 := ⟨mk_X6_leaveLater, inT2 (List.mem_of_getElem? (i := 176) rfl) rfl, inP1 (List.mem_of_getElem? (i := 9) rfl)⟩
abbrev mX7_init : Mi := (yX7_init, cX7_init, 1, none)
theorem mk_X7_init : MK mX7_init 0 := ⟨⟨by decide +kernel, by decide +kernel, by decide +kernel⟩, inT1 (List.mem_of_getElem? (i := 58) rfl) rfl, inT1 (List.mem_of_getElem? (i := 4) rfl) rfl⟩
abbrev mX7_isBox : Mi := (yX7_isBox, cX7_isBox, 1, (some .boolean))
theorem mk_X7_isBox : MK mX7_isBox 1 := ⟨⟨by decide +kernel, by decide +kernel, by decide +kernel⟩, inT3 (List.mem_of_getElem? (i := 224) rfl) rfl, inT1 (List.mem_of_getElem? (i := 4) rfl) rfl⟩
theorem ms_X7_isBox : MS mX7_isBox 1 := ⟨mk_X7_isBox, inT3 (List.mem_of_getElem? (i := 223) rfl) rfl⟩
abbrev mX7_cellOf : Mi := (yX7_cellOf, cX7_cellOf, 3, (some .int))
theorem mk_X7_cellOf : MK mX7_cellOf 2 := ⟨⟨by decide +kernel, by decide +kernel, by decide +kernel⟩, inT3 (List.mem_of_getElem? (i := 157) rfl) rfl, inT1 (List.mem_of_getElem? (i := 4) rfl) rfl⟩
theorem ms_X7_cellOf : MS mX7_cellOf 2 := ⟨mk_X7_cellOf, inT3 (List.mem_of_getElem? (i := 156) rfl) rfl⟩
abbrev mX7_restart : Mi := (yX7_restart, cX7_restart, 2, none)
theorem mk_X7_restart : MK mX7_restart 0 := ⟨⟨by decide +kernel, by decide +kernel, by decide +kernel⟩, inT1 (List.mem_of_getElem? (i := 63) rfl) rfl, inT1 (List.mem_of_getElem? (i := 4) rfl) rfl⟩
theorem mv_X7_restart : MV mX7_restart 0 := ⟨mk_X7_restart, inT1 (List.mem_of_getElem? (i := 61) rfl) rfl, inT1 (List.mem_of_getElem? (i := 62) rfl) rfl⟩
abbrev mX7_newRow : Mi := (yX7_newRow, cX7_newRow, 7, (some .long))
theorem mk_X7_newRow : MK mX7_newRow 2 := ⟨⟨by decide +kernel, by decide +kernel, by decide +kernel⟩, inT3 (List.mem_of_getElem? (i := 185) rfl) rfl, inT1 (List.mem_of_getElem? (i := 4) rfl) rfl⟩
theorem mv_X7_newRow : MV mX7_newRow 2 := ⟨mk_X7_newRow, inT3 (List.mem_of_getElem? (i := 183) rfl) rfl, inT3 (List.mem_of_getElem? (i := 184) rfl) rfl⟩
abbrev mX7_newLink : Mi := (yX7_newLink, cX7_newLink, 5, (some .long))
theorem mk_X7_newLink : MK mX7_newLink 2 := ⟨⟨by decide +kernel, by decide +kernel, by decide +kernel⟩, inT3 (List.mem_of_getElem? (i := 191) rfl) rfl, inT1 (List.mem_of_getElem? (i := 4) rfl) rfl⟩
theorem mv_X7_newLink : MV mX7_newLink 2 := ⟨mk_X7_newLink, inT3 (List.mem_of_getElem? (i := 189) rfl) rfl, inT3 (List.mem_of_getElem? (i := 190) rfl) rfl⟩
abbrev mX7_read : Mi := (yX7_read, cX7_read, 2, (some .long))
theorem mk_X7_read : MK mX7_read 1 := ⟨⟨by decide +kernel, by decide +kernel, by decide +kernel⟩, inT2 (List.mem_of_getElem? (i := 228) rfl) rfl, inT1 (List.mem_of_getElem? (i := 4) rfl) rfl⟩
theorem mv_X7_read : MV mX7_read 1 := ⟨mk_X7_read, inT2 (List.mem_of_getElem? (i := 226) rfl) rfl, inT2 (List.mem_of_getElem? (i := 227) rfl) rfl⟩
abbrev mX7_write : Mi := (yX7_write, cX7_write, 4, none)
theorem mk_X7_write : MK mX7_write 2 := ⟨⟨by decide +kernel, by decide +kernel, by decide +kernel⟩, inT3 (List.mem_of_getElem? (i := 162) rfl) rfl, inT1 (List.mem_of_getElem? (i := 4) rfl) rfl⟩
theorem mv_X7_write : MV mX7_write 2 := ⟨mk_X7_write, inT3 (List.mem_of_getElem? (i := 160) rfl) rfl, inT3 (List.mem_of_getElem? (i := 161) rfl) rfl⟩
abbrev mX7_copied : Mi := (yX7_copied, cX7_copied, 9, (some .boolean))
theorem mk_X7_copied : MK mX7_copied 3 := ⟨⟨by decide +kernel, by decide +kernel, by decide +kernel⟩, inT3 (List.mem_of_getElem? (i := 154) rfl) rfl, inT1 (List.mem_of_getElem? (i := 4) rfl) rfl⟩
theorem mv_X7_copied : MV mX7_copied 3 := ⟨mk_X7_copied, inT3 (List.mem_of_getElem? (i := 152) rfl) rfl, inT3 (List.mem_of_getElem? (i := 153) rfl) rfl⟩
abbrev mX7_changesSoFar : Mi := (yX7_changesSoFar, cX7_changesSoFar, 1, (some .int))
theorem mk_X7_changesSoFar : MK mX7_changesSoFar 0 := ⟨⟨by decide +kernel, by decide +kernel, by decide +kernel⟩, inT2 (List.mem_of_getElem? (i := 98) rfl) rfl, inT1 (List.mem_of_getElem? (i := 4) rfl) rfl⟩
theorem mv_X7_changesSoFar : MV mX7_changesSoFar 0 := ⟨mk_X7_changesSoFar, inT2 (List.mem_of_getElem? (i := 96) rfl) rfl, inT2 (List.mem_of_getElem? (i := 97) rfl) rfl⟩
abbrev mX7_undoBackTo : Mi := (yX7_undoBackTo, cX7_undoBackTo, 2, none)
theorem mk_X7_undoBackTo : MK mX7_undoBackTo 1 := ⟨⟨by decide +kernel, by decide +kernel, by decide +kernel⟩, inT2 (List.mem_of_getElem? (i := 197) rfl) rfl, inT1 (List.mem_of_getElem? (i := 4) rfl) rfl⟩
theorem mv_X7_undoBackTo : MV mX7_undoBackTo 1 := ⟨mk_X7_undoBackTo, inT2 (List.mem_of_getElem? (i := 195) rfl) rfl, inT2 (List.mem_of_getElem? (i := 196) rfl) rfl⟩
abbrev mX7_lengthOf : Mi := (yX7_lengthOf, cX7_lengthOf, 3, (some .int))
theorem mk_X7_lengthOf : MK mX7_lengthOf 1 := ⟨⟨by decide +kernel, by decide +kernel, by decide +kernel⟩, inT2 (List.mem_of_getElem? (i := 217) rfl) rfl, inT1 (List.mem_of_getElem? (i := 4) rfl) rfl⟩
theorem mv_X7_lengthOf : MV mX7_lengthOf 1 := ⟨mk_X7_lengthOf, inT2 (List.mem_of_getElem? (i := 215) rfl) rfl, inT2 (List.mem_of_getElem? (i := 216) rfl) rfl⟩
abbrev mX7_measure : Mi := (yX7_measure, cX7_measure, 3, (some .int))
theorem mk_X7_measure : MK mX7_measure 1 := ⟨⟨by decide +kernel, by decide +kernel, by decide +kernel⟩, inT3 (List.mem_of_getElem? (i := 215) rfl) rfl, inT1 (List.mem_of_getElem? (i := 4) rfl) rfl⟩
theorem mv_X7_measure : MV mX7_measure 1 := ⟨mk_X7_measure, inT3 (List.mem_of_getElem? (i := 213) rfl) rfl, inT3 (List.mem_of_getElem? (i := 214) rfl) rfl⟩
abbrev mX8_init : Mi := (yX8_init, cX8_init, 1, none)
theorem mk_X8_init : MK mX8_init 0 := ⟨⟨by decide +kernel, by decide +kernel, by decide +kernel⟩, inT1 (List.mem_of_getElem? (i := 180) rfl) rfl, inT1 (List.mem_of_getElem? (i := 8) rfl) rfl⟩
abbrev mX8_restart : Mi := (yX8_restart, cX8_restart, 1, none)
theorem mk_X8_restart : MK mX8_restart 0 := ⟨⟨by decide +kernel, by decide +kernel, by decide +kernel⟩, inT2 (List.mem_of_getElem? (i := 81) rfl) rfl, inT1 (List.mem_of_getElem? (i := 8) rfl) rfl⟩
theorem mv_X8_restart : MV mX8_restart 0 := ⟨mk_X8_restart, inT2 (List.mem_of_getElem? (i := 79) rfl) rfl, inT2 (List.mem_of_getElem? (i := 80) rfl) rfl⟩
abbrev mX8_isEmpty : Mi := (yX8_isEmpty, cX8_isEmpty, 1, (some .boolean))
theorem mk_X8_isEmpty : MK mX8_isEmpty 0 := ⟨⟨by decide +kernel, by decide +kernel, by decide +kernel⟩, inT2 (List.mem_of_getElem? (i := 107) rfl) rfl, inT1 (List.mem_of_getElem? (i := 8) rfl) rfl⟩
theorem mv_X8_isEmpty : MV mX8_isEmpty 0 := ⟨mk_X8_isEmpty, inT2 (List.mem_of_getElem? (i := 105) rfl) rfl, inT2 (List.mem_of_getElem? (i := 106) rfl) rfl⟩
abbrev mX8_push : Mi := (yX8_push, cX8_push, 4, none)
theorem mk_X8_push : MK mX8_push 3 := ⟨⟨by decide +kernel, by decide +kernel, by decide +kernel⟩, inT2 (List.mem_of_getElem? (i := 102) rfl) rfl, inT1 (List.mem_of_getElem? (i := 8) rfl) rfl⟩
theorem mv_X8_push : MV mX8_push 3 := ⟨mk_X8_push, inT2 (List.mem_of_getElem? (i := 100) rfl) rfl, inT2 (List.mem_of_getElem? (i := 101) rfl) rfl⟩
abbrev mX8_pop : Mi := (yX8_pop, cX8_pop, 1, none)
theorem mk_X8_pop : MK mX8_pop 0 := ⟨⟨by decide +kernel, by decide +kernel, by decide +kernel⟩, inT2 (List.mem_of_getElem? (i := 201) rfl) rfl, inT1 (List.mem_of_getElem? (i := 8) rfl) rfl⟩
theorem mv_X8_pop : MV mX8_pop 0 := ⟨mk_X8_pop, inT2 (List.mem_of_getElem? (i := 199) rfl) rfl, inT2 (List.mem_of_getElem? (i := 200) rfl) rfl⟩
abbrev mX8_actOnTop : Mi := (yX8_actOnTop, cX8_actOnTop, 1, (some .int))
theorem mk_X8_actOnTop : MK mX8_actOnTop 0 := ⟨⟨by decide +kernel, by decide +kernel, by decide +kernel⟩, inT2 (List.mem_of_getElem? (i := 115) rfl) rfl, inT1 (List.mem_of_getElem? (i := 8) rfl) rfl⟩
theorem mv_X8_actOnTop : MV mX8_actOnTop 0 := ⟨mk_X8_actOnTop, inT2 (List.mem_of_getElem? (i := 113) rfl) rfl, inT2 (List.mem_of_getElem? (i := 114) rfl) rfl⟩
abbrev mX8_frame : Mi := (yX8_frame, cX8_frame, 1, (some .int))
theorem mk_X8_frame : MK mX8_frame 0 := ⟨⟨by decide +kernel, by decide +kernel, by decide +kernel⟩, inT2 (List.mem_of_getElem? (i := 136) rfl) rfl, inT1 (List.mem_of_getElem? (i := 8) rfl) rfl⟩
theorem mv_X8_frame : MV mX8_frame 0 := ⟨mk_X8_frame, inT2 (List.mem_of_getElem? (i := 134) rfl) rfl, inT2 (List.mem_of_getElem? (i := 135) rfl) rfl⟩
abbrev mX8_stage : Mi := (yX8_stage, cX8_stage, 1, (some .int))
theorem mk_X8_stage : MK mX8_stage 0 := ⟨⟨by decide +kernel, by decide +kernel, by decide +kernel⟩, inT2 (List.mem_of_getElem? (i := 120) rfl) rfl, inT1 (List.mem_of_getElem? (i := 8) rfl) rfl⟩
theorem mv_X8_stage : MV mX8_stage 0 := ⟨mk_X8_stage, inT2 (List.mem_of_getElem? (i := 118) rfl) rfl, inT2 (List.mem_of_getElem? (i := 119) rfl) rfl⟩
abbrev mX8_setStage : Mi := (yX8_setStage, cX8_setStage, 2, none)
theorem mk_X8_setStage : MK mX8_setStage 1 := ⟨⟨by decide +kernel, by decide +kernel, by decide +kernel⟩, inT2 (List.mem_of_getElem? (i := 153) rfl) rfl, inT1 (List.mem_of_getElem? (i := 8) rfl) rfl⟩
theorem mv_X8_setStage : MV mX8_setStage 1 := ⟨mk_X8_setStage, inT2 (List.mem_of_getElem? (i := 151) rfl) rfl, inT2 (List.mem_of_getElem? (i := 152) rfl) rfl⟩
abbrev mX8_take : Mi := (yX8_take, cX8_take, 4, none)
theorem mk_X8_take : MK mX8_take 1 := ⟨⟨by decide +kernel, by decide +kernel, by decide +kernel⟩, inT3 (List.mem_of_getElem? (i := 63) rfl) rfl, inT1 (List.mem_of_getElem? (i := 8) rfl) rfl⟩
theorem mv_X8_take : MV mX8_take 1 := ⟨mk_X8_take, inT3 (List.mem_of_getElem? (i := 61) rfl) rfl, inT3 (List.mem_of_getElem? (i := 62) rfl) rfl⟩
abbrev mX8_value : Mi := (yX8_value, cX8_value, 2, (some .long))
theorem mk_X8_value : MK mX8_value 1 := ⟨⟨by decide +kernel, by decide +kernel, by decide +kernel⟩, inT2 (List.mem_of_getElem? (i := 169) rfl) rfl, inT1 (List.mem_of_getElem? (i := 8) rfl) rfl⟩
theorem mv_X8_value : MV mX8_value 1 := ⟨mk_X8_value, inT2 (List.mem_of_getElem? (i := 167) rfl) rfl, inT2 (List.mem_of_getElem? (i := 168) rfl) rfl⟩
abbrev mX8_mark : Mi := (yX8_mark, cX8_mark, 1, (some .int))
theorem mk_X8_mark : MK mX8_mark 0 := ⟨⟨by decide +kernel, by decide +kernel, by decide +kernel⟩, inT2 (List.mem_of_getElem? (i := 193) rfl) rfl, inT1 (List.mem_of_getElem? (i := 8) rfl) rfl⟩
theorem mv_X8_mark : MV mX8_mark 0 := ⟨mk_X8_mark, inT2 (List.mem_of_getElem? (i := 191) rfl) rfl, inT2 (List.mem_of_getElem? (i := 192) rfl) rfl⟩
abbrev mX8_hold : Mi := (yX8_hold, cX8_hold, 2, none)
theorem mk_X8_hold : MK mX8_hold 1 := ⟨⟨by decide +kernel, by decide +kernel, by decide +kernel⟩, inT2 (List.mem_of_getElem? (i := 165) rfl) rfl, inT1 (List.mem_of_getElem? (i := 8) rfl) rfl⟩
theorem mv_X8_hold : MV mX8_hold 1 := ⟨mk_X8_hold, inT2 (List.mem_of_getElem? (i := 163) rfl) rfl, inT2 (List.mem_of_getElem? (i := 164) rfl) rfl⟩
abbrev mX8_holdsFailure : Mi := (yX8_holdsFailure, cX8_holdsFailure, 1, (some .boolean))
theorem mk_X8_holdsFailure : MK mX8_holdsFailure 0 := ⟨⟨by decide +kernel, by decide +kernel, by decide +kernel⟩, inT3 (List.mem_of_getElem? (i := 71) rfl) rfl, inT1 (List.mem_of_getElem? (i := 8) rfl) rfl⟩
theorem mv_X8_holdsFailure : MV mX8_holdsFailure 0 := ⟨mk_X8_holdsFailure, inT3 (List.mem_of_getElem? (i := 69) rfl) rfl, inT3 (List.mem_of_getElem? (i := 70) rfl) rfl⟩
abbrev mX8_letGo : Mi := (yX8_letGo, cX8_letGo, 2, none)
theorem mk_X8_letGo : MK mX8_letGo 1 := ⟨⟨by decide +kernel, by decide +kernel, by decide +kernel⟩, inT3 (List.mem_of_getElem? (i := 75) rfl) rfl, inT1 (List.mem_of_getElem? (i := 8) rfl) rfl⟩
theorem mv_X8_letGo : MV mX8_letGo 1 := ⟨mk_X8_letGo, inT3 (List.mem_of_getElem? (i := 73) rfl) rfl, inT3 (List.mem_of_getElem? (i := 74) rfl) rfl⟩
abbrev mX9_of : Mi := (yX9_of, cX9_of, 2, (some .long))
theorem mk_X9_of : MK mX9_of 2 := ⟨⟨by decide +kernel, by decide +kernel, by decide +kernel⟩, inT3 (List.mem_of_getElem? (i := 110) rfl) rfl, inT1 (List.mem_of_getElem? (i := 10) rfl) rfl⟩
theorem ms_X9_of : MS mX9_of 2 := ⟨mk_X9_of, inT3 (List.mem_of_getElem? (i := 109) rfl) rfl⟩
abbrev mX9_whole : Mi := (yX9_whole, cX9_whole, 1, (some .long))
theorem mk_X9_whole : MK mX9_whole 1 := ⟨⟨by decide +kernel, by decide +kernel, by decide +kernel⟩, inT2 (List.mem_of_getElem? (i := 139) rfl) rfl, inT1 (List.mem_of_getElem? (i := 10) rfl) rfl⟩
theorem ms_X9_whole : MS mX9_whole 1 := ⟨mk_X9_whole, inT2 (List.mem_of_getElem? (i := 138) rfl) rfl⟩
abbrev mX9_truth : Mi := (yX9_truth, cX9_truth, 1, (some .long))
theorem mk_X9_truth : MK mX9_truth 1 := ⟨⟨by decide +kernel, by decide +kernel, by decide +kernel⟩, inT3 (List.mem_of_getElem? (i := 177) rfl) rfl, inT1 (List.mem_of_getElem? (i := 10) rfl) rfl⟩
theorem ms_X9_truth : MS mX9_truth 1 := ⟨mk_X9_truth, inT3 (List.mem_of_getElem? (i := 176) rfl) rfl⟩
abbrev mX9_sort : Mi := (yX9_sort, cX9_sort, 2, (some .int))
theorem mk_X9_sort : MK mX9_sort 1 := ⟨⟨by decide +kernel, by decide +kernel, by decide +kernel⟩, inT2 (List.mem_of_getElem? (i := 223) rfl) rfl, inT1 (List.mem_of_getElem? (i := 10) rfl) rfl⟩
theorem ms_X9_sort : MS mX9_sort 1 := ⟨mk_X9_sort, inT2 (List.mem_of_getElem? (i := 222) rfl) rfl⟩
abbrev mX9_number : Mi := (yX9_number, cX9_number, 2, (some .int))
theorem mk_X9_number : MK mX9_number 1 := ⟨⟨by decide +kernel, by decide +kernel, by decide +kernel⟩, inT2 (List.mem_of_getElem? (i := 173) rfl) rfl, inT1 (List.mem_of_getElem? (i := 10) rfl) rfl⟩
theorem ms_X9_number : MS mX9_number 1 := ⟨mk_X9_number, inT2 (List.mem_of_getElem? (i := 172) rfl) rfl⟩
abbrev mX9_isRow : Mi := (yX9_isRow, cX9_isRow, 3, (some .boolean))
theorem mk_X9_isRow : MK mX9_isRow 1 := ⟨⟨by decide +kernel, by decide +kernel, by decide +kernel⟩, inT2 (List.mem_of_getElem? (i := 220) rfl) rfl, inT1 (List.mem_of_getElem? (i := 10) rfl) rfl⟩
theorem ms_X9_isRow : MS mX9_isRow 1 := ⟨mk_X9_isRow, inT2 (List.mem_of_getElem? (i := 219) rfl) rfl⟩
abbrev mX9_isRowForLinks : Mi := (yX9_isRowForLinks, cX9_isRowForLinks, 3, (some .boolean))
theorem mk_X9_isRowForLinks : MK mX9_isRowForLinks 1 := ⟨⟨by decide +kernel, by decide +kernel, by decide +kernel⟩, inT3 (List.mem_of_getElem? (i := 16) rfl) rfl, inT1 (List.mem_of_getElem? (i := 10) rfl) rfl⟩
theorem ms_X9_isRowForLinks : MS mX9_isRowForLinks 1 := ⟨mk_X9_isRowForLinks, inT3 (List.mem_of_getElem? (i := 15) rfl) rfl⟩
abbrev mX9_isLink : Mi := (yX9_isLink, cX9_isLink, 3, (some .boolean))
theorem mk_X9_isLink : MK mX9_isLink 1 := ⟨⟨by decide +kernel, by decide +kernel, by decide +kernel⟩, inT3 (List.mem_of_getElem? (i := 25) rfl) rfl, inT1 (List.mem_of_getElem? (i := 10) rfl) rfl⟩
theorem ms_X9_isLink : MS mX9_isLink 1 := ⟨mk_X9_isLink, inT3 (List.mem_of_getElem? (i := 24) rfl) rfl⟩
abbrev mX9_isLinkOrNothing : Mi := (yX9_isLinkOrNothing, cX9_isLinkOrNothing, 3, (some .boolean))
theorem mk_X9_isLinkOrNothing : MK mX9_isLinkOrNothing 1 := ⟨⟨by decide +kernel, by decide +kernel, by decide +kernel⟩, inT3 (List.mem_of_getElem? (i := 19) rfl) rfl, inT1 (List.mem_of_getElem? (i := 10) rfl) rfl⟩
theorem ms_X9_isLinkOrNothing : MS mX9_isLinkOrNothing 1 := ⟨mk_X9_isLinkOrNothing, inT3 (List.mem_of_getElem? (i := 18) rfl) rfl⟩
abbrev mX9_isStrange : Mi := (yX9_isStrange, cX9_isStrange, 4, (some .boolean))
theorem mk_X9_isStrange : MK mX9_isStrange 2 := ⟨⟨by decide +kernel, by decide +kernel, by decide +kernel⟩, inT3 (List.mem_of_getElem? (i := 22) rfl) rfl, inT1 (List.mem_of_getElem? (i := 10) rfl) rfl⟩
theorem ms_X9_isStrange : MS mX9_isStrange 2 := ⟨mk_X9_isStrange, inT3 (List.mem_of_getElem? (i := 21) rfl) rfl⟩
abbrev mX10_init : Mi := (yX10_init, cX10_init, 1, none)
theorem mk_X10_init : MK mX10_init 0 := ⟨⟨by decide +kernel, by decide +kernel, by decide +kernel⟩, inT1 (List.mem_of_getElem? (i := 23) rfl) rfl, inT1 (List.mem_of_getElem? (i := 1) rfl) rfl⟩
abbrev mX10_act : Mi := (yX10_act, cX10_act, 6, (some .int))
theorem mk_X10_act : MK mX10_act 4 := ⟨⟨by decide +kernel, by decide +kernel, by decide +kernel⟩, inT2 (List.mem_of_getElem? (i := 18) rfl) rfl, inT1 (List.mem_of_getElem? (i := 1) rfl) rfl⟩
theorem mv_X10_act : MV mX10_act 4 := ⟨mk_X10_act, inT2 (List.mem_of_getElem? (i := 16) rfl) rfl, inT2 (List.mem_of_getElem? (i := 17) rfl) rfl⟩
abbrev mX10_told : Mi := (yX10_told, cX10_told, 3, (some .int))
theorem mk_X10_told : MK mX10_told 2 := ⟨⟨by decide +kernel, by decide +kernel, by decide +kernel⟩, inT2 (List.mem_of_getElem? (i := 50) rfl) rfl, inT1 (List.mem_of_getElem? (i := 1) rfl) rfl⟩
theorem mv_X10_told : MV mX10_told 2 := ⟨mk_X10_told, inT2 (List.mem_of_getElem? (i := 48) rfl) rfl, inT2 (List.mem_of_getElem? (i := 49) rfl) rfl⟩
abbrev mX10_run : Mi := (yX10_run, cX10_run, 4, (some .int))
theorem mk_X10_run : MK mX10_run 2 := ⟨⟨by decide +kernel, by decide +kernel, by decide +kernel⟩, inT2 (List.mem_of_getElem? (i := 59) rfl) rfl, inT1 (List.mem_of_getElem? (i := 1) rfl) rfl⟩
theorem mv_X10_run : MV mX10_run 2 := ⟨mk_X10_run, inT2 (List.mem_of_getElem? (i := 57) rfl) rfl, inT2 (List.mem_of_getElem? (i := 58) rfl) rfl⟩
abbrev mX10_ended : Mi := (yX10_ended, cX10_ended, 3, (some .int))
theorem mk_X10_ended : MK mX10_ended 1 := ⟨⟨by decide +kernel, by decide +kernel, by decide +kernel⟩, inT3 (List.mem_of_getElem? (i := 207) rfl) rfl, inT1 (List.mem_of_getElem? (i := 1) rfl) rfl⟩
theorem mv_X10_ended : MV mX10_ended 1 := ⟨mk_X10_ended, inT3 (List.mem_of_getElem? (i := 205) rfl) rfl, inT3 (List.mem_of_getElem? (i := 206) rfl) rfl⟩
abbrev mX10_gave : Mi := (yX10_gave, cX10_gave, 1, (some .int))
theorem mk_X10_gave : MK mX10_gave 0 := ⟨⟨by decide +kernel, by decide +kernel, by decide +kernel⟩, inT3 (List.mem_of_getElem? (i := 211) rfl) rfl, inT1 (List.mem_of_getElem? (i := 1) rfl) rfl⟩
theorem mv_X10_gave : MV mX10_gave 0 := ⟨mk_X10_gave, inT3 (List.mem_of_getElem? (i := 209) rfl) rfl, inT3 (List.mem_of_getElem? (i := 210) rfl) rfl⟩
abbrev mX10_place : Mi := (yX10_place, cX10_place, 6, (some .int))
theorem mk_X10_place : MK mX10_place 1 := ⟨⟨by decide +kernel, by decide +kernel, by decide +kernel⟩, inT4 (List.mem_of_getElem? (i := 87) rfl) rfl, inT1 (List.mem_of_getElem? (i := 1) rfl) rfl⟩
theorem mv_X10_place : MV mX10_place 1 := ⟨mk_X10_place, inT4 (List.mem_of_getElem? (i := 85) rfl) rfl, inT4 (List.mem_of_getElem? (i := 86) rfl) rfl⟩
abbrev mX10_box : Mi := (yX10_box, cX10_box, 2, (some .int))
theorem mk_X10_box : MK mX10_box 1 := ⟨⟨by decide +kernel, by decide +kernel, by decide +kernel⟩, inT3 (List.mem_of_getElem? (i := 221) rfl) rfl, inT1 (List.mem_of_getElem? (i := 1) rfl) rfl⟩
theorem mv_X10_box : MV mX10_box 1 := ⟨mk_X10_box, inT3 (List.mem_of_getElem? (i := 219) rfl) rfl, inT3 (List.mem_of_getElem? (i := 220) rfl) rfl⟩
abbrev mX10_boxed : Mi := (yX10_boxed, cX10_boxed, 2, (some .int))
theorem mk_X10_boxed : MK mX10_boxed 1 := ⟨⟨by decide +kernel, by decide +kernel, by decide +kernel⟩, inT3 (List.mem_of_getElem? (i := 229) rfl) rfl, inT1 (List.mem_of_getElem? (i := 1) rfl) rfl⟩
theorem mv_X10_boxed : MV mX10_boxed 1 := ⟨mk_X10_boxed, inT3 (List.mem_of_getElem? (i := 227) rfl) rfl, inT3 (List.mem_of_getElem? (i := 228) rfl) rfl⟩
abbrev mX10_same : Mi := (yX10_same, cX10_same, 3, (some .int))
theorem mk_X10_same : MK mX10_same 2 := ⟨⟨by decide +kernel, by decide +kernel, by decide +kernel⟩, inT3 (List.mem_of_getElem? (i := 233) rfl) rfl, inT1 (List.mem_of_getElem? (i := 1) rfl) rfl⟩
theorem mv_X10_same : MV mX10_same 2 := ⟨mk_X10_same, inT3 (List.mem_of_getElem? (i := 231) rfl) rfl, inT3 (List.mem_of_getElem? (i := 232) rfl) rfl⟩
abbrev mX10_out : Mi := (yX10_out, cX10_out, 2, (some .int))
theorem mk_X10_out : MK mX10_out 1 := ⟨⟨by decide +kernel, by decide +kernel, by decide +kernel⟩, inT3 (List.mem_of_getElem? (i := 237) rfl) rfl, inT1 (List.mem_of_getElem? (i := 1) rfl) rfl⟩
theorem mv_X10_out : MV mX10_out 1 := ⟨mk_X10_out, inT3 (List.mem_of_getElem? (i := 235) rfl) rfl, inT3 (List.mem_of_getElem? (i := 236) rfl) rfl⟩
abbrev mX10_count : Mi := (yX10_count, cX10_count, 2, (some .int))
theorem mk_X10_count : MK mX10_count 1 := ⟨⟨by decide +kernel, by decide +kernel, by decide +kernel⟩, inT4 (List.mem_of_getElem? (i := 1) rfl) rfl, inT1 (List.mem_of_getElem? (i := 1) rfl) rfl⟩
theorem mv_X10_count : MV mX10_count 1 := ⟨mk_X10_count, inT3 (List.mem_of_getElem? (i := 239) rfl) rfl, inT4 (List.mem_of_getElem? (i := 0) rfl) rfl⟩
abbrev mX10_clear : Mi := (yX10_clear, cX10_clear, 2, (some .int))
theorem mk_X10_clear : MK mX10_clear 0 := ⟨⟨by decide +kernel, by decide +kernel, by decide +kernel⟩, inT4 (List.mem_of_getElem? (i := 5) rfl) rfl, inT1 (List.mem_of_getElem? (i := 1) rfl) rfl⟩
theorem mv_X10_clear : MV mX10_clear 0 := ⟨mk_X10_clear, inT4 (List.mem_of_getElem? (i := 3) rfl) rfl, inT4 (List.mem_of_getElem? (i := 4) rfl) rfl⟩
abbrev mX11_init : Mi := (yX11_init, cX11_init, 2, none)
theorem mk_X11_init : MK mX11_init 0 := ⟨⟨by decide +kernel, by decide +kernel, by decide +kernel⟩, inT4 (List.mem_of_getElem? (i := 99) rfl) rfl, inT1 (List.mem_of_getElem? (i := 9) rfl) rfl⟩
abbrev mX11_in : Mi := (yX11_in, cX11_in, 3, (some .boolean))
theorem mk_X11_in : MK mX11_in 3 := ⟨⟨by decide +kernel, by decide +kernel, by decide +kernel⟩, inT5 (List.mem_of_getElem? (i := 36) rfl) rfl, inT1 (List.mem_of_getElem? (i := 9) rfl) rfl⟩
theorem ms_X11_in : MS mX11_in 3 := ⟨mk_X11_in, inT5 (List.mem_of_getElem? (i := 35) rfl) rfl⟩
abbrev mX11_noAct : Mi := (yX11_noAct, cX11_noAct, 2, (some .boolean))
theorem mk_X11_noAct : MK mX11_noAct 1 := ⟨⟨by decide +kernel, by decide +kernel, by decide +kernel⟩, inT5 (List.mem_of_getElem? (i := 43) rfl) rfl, inT1 (List.mem_of_getElem? (i := 9) rfl) rfl⟩
theorem mv_X11_noAct : MV mX11_noAct 1 := ⟨mk_X11_noAct, inT5 (List.mem_of_getElem? (i := 42) rfl) rfl, inP3 (List.mem_of_getElem? (i := 2) rfl)⟩
abbrev mX11_actsOf : Mi := (yX11_actsOf, cX11_actsOf, 1, (some .int))
theorem mk_X11_actsOf : MK mX11_actsOf 1 := ⟨⟨by decide +kernel, by decide +kernel, by decide +kernel⟩, inT5 (List.mem_of_getElem? (i := 39) rfl) rfl, inT1 (List.mem_of_getElem? (i := 9) rfl) rfl⟩
theorem ms_X11_actsOf : MS mX11_actsOf 1 := ⟨mk_X11_actsOf, inT5 (List.mem_of_getElem? (i := 38) rfl) rfl⟩
abbrev mX11_act : Mi := (yX11_act, cX11_act, 7, (some .int))
theorem mk_X11_act : MK mX11_act 4 := ⟨⟨by decide +kernel, by decide +kernel, by decide +kernel⟩, inT5 (List.mem_of_getElem? (i := 33) rfl) rfl, inT1 (List.mem_of_getElem? (i := 9) rfl) rfl⟩
theorem mv_X11_act : MV mX11_act 4 := ⟨mk_X11_act, inT5 (List.mem_of_getElem? (i := 31) rfl) rfl, inT5 (List.mem_of_getElem? (i := 32) rfl) rfl⟩
abbrev mX11_told : Mi := (yX11_told, cX11_told, 3, (some .int))
theorem mk_X11_told : MK mX11_told 2 := ⟨⟨by decide +kernel, by decide +kernel, by decide +kernel⟩, inT5 (List.mem_of_getElem? (i := 47) rfl) rfl, inT1 (List.mem_of_getElem? (i := 9) rfl) rfl⟩
theorem mv_X11_told : MV mX11_told 2 := ⟨mk_X11_told, inT5 (List.mem_of_getElem? (i := 45) rfl) rfl, inT5 (List.mem_of_getElem? (i := 46) rfl) rfl⟩
abbrev mX11_value : Mi := (yX11_value, cX11_value, 3, none)
theorem mk_X11_value : MK mX11_value 2 := ⟨⟨by decide +kernel, by decide +kernel, by decide +kernel⟩, inT5 (List.mem_of_getElem? (i := 71) rfl) rfl, inT1 (List.mem_of_getElem? (i := 9) rfl) rfl⟩
theorem mv_X11_value : MV mX11_value 2 := ⟨mk_X11_value, inT5 (List.mem_of_getElem? (i := 70) rfl) rfl, inP3 (List.mem_of_getElem? (i := 7) rfl)⟩
abbrev mX11_start : Mi := (yX11_start, cX11_start, 3, none)
theorem mk_X11_start : MK mX11_start 2 := ⟨⟨by decide +kernel, by decide +kernel, by decide +kernel⟩, inT5 (List.mem_of_getElem? (i := 59) rfl) rfl, inT1 (List.mem_of_getElem? (i := 9) rfl) rfl⟩
theorem mv_X11_start : MV mX11_start 2 := ⟨mk_X11_start, inT5 (List.mem_of_getElem? (i := 58) rfl) rfl, inP3 (List.mem_of_getElem? (i := 4) rfl)⟩
abbrev mX11_finish : Mi := (yX11_finish, cX11_finish, 3, none)
theorem mk_X11_finish : MK mX11_finish 2 := ⟨⟨by decide +kernel, by decide +kernel, by decide +kernel⟩, inT5 (List.mem_of_getElem? (i := 67) rfl) rfl, inT1 (List.mem_of_getElem? (i := 9) rfl) rfl⟩
theorem mv_X11_finish : MV mX11_finish 2 := ⟨mk_X11_finish, inT5 (List.mem_of_getElem? (i := 66) rfl) rfl, inP3 (List.mem_of_getElem? (i := 6) rfl)⟩
abbrev mX11_fail : Mi := (yX11_fail, cX11_fail, 4, none)
theorem mk_X11_fail : MK mX11_fail 3 := ⟨⟨by decide +kernel, by decide +kernel, by decide +kernel⟩, inT5 (List.mem_of_getElem? (i := 103) rfl) rfl, inT1 (List.mem_of_getElem? (i := 9) rfl) rfl⟩
theorem mv_X11_fail : MV mX11_fail 3 := ⟨mk_X11_fail, inT5 (List.mem_of_getElem? (i := 102) rfl) rfl, inP3 (List.mem_of_getElem? (i := 15) rfl)⟩
abbrev mX11_newThing : Mi := (yX11_newThing, cX11_newThing, 4, (some .int))
theorem mk_X11_newThing : MK mX11_newThing 1 := ⟨⟨by decide +kernel, by decide +kernel, by decide +kernel⟩, inT5 (List.mem_of_getElem? (i := 75) rfl) rfl, inT1 (List.mem_of_getElem? (i := 9) rfl) rfl⟩
theorem mv_X11_newThing : MV mX11_newThing 1 := ⟨mk_X11_newThing, inT5 (List.mem_of_getElem? (i := 74) rfl) rfl, inP3 (List.mem_of_getElem? (i := 8) rfl)⟩
abbrev mX11_newFrame : Mi := (yX11_newFrame, cX11_newFrame, 3, (some .int))
theorem mk_X11_newFrame : MK mX11_newFrame 0 := ⟨⟨by decide +kernel, by decide +kernel, by decide +kernel⟩, inT5 (List.mem_of_getElem? (i := 55) rfl) rfl, inT1 (List.mem_of_getElem? (i := 9) rfl) rfl⟩
theorem mv_X11_newFrame : MV mX11_newFrame 0 := ⟨mk_X11_newFrame, inT5 (List.mem_of_getElem? (i := 54) rfl) rfl, inP3 (List.mem_of_getElem? (i := 3) rfl)⟩
abbrev mX11_write : Mi := (yX11_write, cX11_write, 4, none)
theorem mk_X11_write : MK mX11_write 3 := ⟨⟨by decide +kernel, by decide +kernel, by decide +kernel⟩, inT5 (List.mem_of_getElem? (i := 130) rfl) rfl, inT1 (List.mem_of_getElem? (i := 9) rfl) rfl⟩
theorem mv_X11_write : MV mX11_write 3 := ⟨mk_X11_write, inT5 (List.mem_of_getElem? (i := 129) rfl) rfl, inP4 (List.mem_of_getElem? (i := 5) rfl)⟩
abbrev mX11_back : Mi := (yX11_back, cX11_back, 3, none)
theorem mk_X11_back : MK mX11_back 1 := ⟨⟨by decide +kernel, by decide +kernel, by decide +kernel⟩, inT5 (List.mem_of_getElem? (i := 166) rfl) rfl, inT1 (List.mem_of_getElem? (i := 9) rfl) rfl⟩
theorem mv_X11_back : MV mX11_back 1 := ⟨mk_X11_back, inT5 (List.mem_of_getElem? (i := 165) rfl) rfl, inP4 (List.mem_of_getElem? (i := 14) rfl)⟩
abbrev mX11_begin : Mi := (yX11_begin, cX11_begin, 4, none)
theorem mk_X11_begin : MK mX11_begin 0 := ⟨⟨by decide +kernel, by decide +kernel, by decide +kernel⟩, inT5 (List.mem_of_getElem? (i := 63) rfl) rfl, inT1 (List.mem_of_getElem? (i := 9) rfl) rfl⟩
theorem mv_X11_begin : MV mX11_begin 0 := ⟨mk_X11_begin, inT5 (List.mem_of_getElem? (i := 62) rfl) rfl, inP3 (List.mem_of_getElem? (i := 5) rfl)⟩
abbrev mX11_keepX : Mi := (yX11_keepX, cX11_keepX, 2, none)
theorem mk_X11_keepX : MK mX11_keepX 1 := ⟨⟨by decide +kernel, by decide +kernel, by decide +kernel⟩, inT5 (List.mem_of_getElem? (i := 83) rfl) rfl, inT1 (List.mem_of_getElem? (i := 9) rfl) rfl⟩
theorem mv_X11_keepX : MV mX11_keepX 1 := ⟨mk_X11_keepX, inT5 (List.mem_of_getElem? (i := 82) rfl) rfl, inP3 (List.mem_of_getElem? (i := 10) rfl)⟩
abbrev mX11_keepY : Mi := (yX11_keepY, cX11_keepY, 2, none)
theorem mk_X11_keepY : MK mX11_keepY 1 := ⟨⟨by decide +kernel, by decide +kernel, by decide +kernel⟩, inT5 (List.mem_of_getElem? (i := 87) rfl) rfl, inT1 (List.mem_of_getElem? (i := 9) rfl) rfl⟩
theorem mv_X11_keepY : MV mX11_keepY 1 := ⟨mk_X11_keepY, inT5 (List.mem_of_getElem? (i := 86) rfl) rfl, inP3 (List.mem_of_getElem? (i := 11) rfl)⟩
abbrev mX11_isWhole : Mi := (yX11_isWhole, cX11_isWhole, 4, (some .boolean))
theorem mk_X11_isWhole : MK mX11_isWhole 2 := ⟨⟨by decide +kernel, by decide +kernel, by decide +kernel⟩, inT5 (List.mem_of_getElem? (i := 99) rfl) rfl, inT1 (List.mem_of_getElem? (i := 9) rfl) rfl⟩
theorem mv_X11_isWhole : MV mX11_isWhole 2 := ⟨mk_X11_isWhole, inT5 (List.mem_of_getElem? (i := 98) rfl) rfl, inP3 (List.mem_of_getElem? (i := 14) rfl)⟩
abbrev mX11_failBy : Mi := (yX11_failBy, cX11_failBy, 3, none)
theorem mk_X11_failBy : MK mX11_failBy 2 := ⟨⟨by decide +kernel, by decide +kernel, by decide +kernel⟩, inT5 (List.mem_of_getElem? (i := 107) rfl) rfl, inT1 (List.mem_of_getElem? (i := 9) rfl) rfl⟩
theorem mv_X11_failBy : MV mX11_failBy 2 := ⟨mk_X11_failBy, inT5 (List.mem_of_getElem? (i := 106) rfl) rfl, inP4 (List.mem_of_getElem? (i := 0) rfl)⟩
abbrev mX11_up : Mi := (yX11_up, cX11_up, 7, none)
theorem mk_X11_up : MK mX11_up 0 := ⟨⟨by decide +kernel, by decide +kernel, by decide +kernel⟩, inT5 (List.mem_of_getElem? (i := 79) rfl) rfl, inT1 (List.mem_of_getElem? (i := 9) rfl) rfl⟩
theorem mv_X11_up : MV mX11_up 0 := ⟨mk_X11_up, inT5 (List.mem_of_getElem? (i := 78) rfl) rfl, inP3 (List.mem_of_getElem? (i := 9) rfl)⟩
abbrev mX11_upOf : Mi := (yX11_upOf, cX11_upOf, 7, none)
theorem mk_X11_upOf : MK mX11_upOf 5 := ⟨⟨by decide +kernel, by decide +kernel, by decide +kernel⟩, inT5 (List.mem_of_getElem? (i := 91) rfl) rfl, inT1 (List.mem_of_getElem? (i := 9) rfl) rfl⟩
theorem mv_X11_upOf : MV mX11_upOf 5 := ⟨mk_X11_upOf, inT5 (List.mem_of_getElem? (i := 90) rfl) rfl, inP3 (List.mem_of_getElem? (i := 12) rfl)⟩
abbrev mX11_upLater : Mi := (yX11_upLater, cX11_upLater, 6, none)
theorem mk_X11_upLater : MK mX11_upLater 5 := ⟨⟨by decide +kernel, by decide +kernel, by decide +kernel⟩, inT5 (List.mem_of_getElem? (i := 142) rfl) rfl, inT1 (List.mem_of_getElem? (i := 9) rfl) rfl⟩
theorem mv_X11_upLater : MV mX11_upLater 5 := ⟨mk_X11_upLater, inT5 (List.mem_of_getElem? (i := 141) rfl) rfl, inP4 (List.mem_of_getElem? (i := 8) rfl)⟩
abbrev mX11_upLoop : Mi := (yX11_upLoop, cX11_upLoop, 5, none)
theorem mk_X11_upLoop : MK mX11_upLoop 4 := ⟨⟨by decide +kernel, by decide +kernel, by decide +kernel⟩, inT5 (List.mem_of_getElem? (i := 146) rfl) rfl, inT1 (List.mem_of_getElem? (i := 9) rfl) rfl⟩
theorem mv_X11_upLoop : MV mX11_upLoop 4 := ⟨mk_X11_upLoop, inT5 (List.mem_of_getElem? (i := 145) rfl) rfl, inP4 (List.mem_of_getElem? (i := 9) rfl)⟩
abbrev mX11_upCall : Mi := (yX11_upCall, cX11_upCall, 5, none)
theorem mk_X11_upCall : MK mX11_upCall 3 := ⟨⟨by decide +kernel, by decide +kernel, by decide +kernel⟩, inT5 (List.mem_of_getElem? (i := 150) rfl) rfl, inT1 (List.mem_of_getElem? (i := 9) rfl) rfl⟩
theorem mv_X11_upCall : MV mX11_upCall 3 := ⟨mk_X11_upCall, inT5 (List.mem_of_getElem? (i := 149) rfl) rfl, inP4 (List.mem_of_getElem? (i := 10) rfl)⟩
abbrev mX11_upWork : Mi := (yX11_upWork, cX11_upWork, 5, none)
theorem mk_X11_upWork : MK mX11_upWork 3 := ⟨⟨by decide +kernel, by decide +kernel, by decide +kernel⟩, inT5 (List.mem_of_getElem? (i := 154) rfl) rfl, inT1 (List.mem_of_getElem? (i := 9) rfl) rfl⟩
theorem mv_X11_upWork : MV mX11_upWork 3 := ⟨mk_X11_upWork, inT5 (List.mem_of_getElem? (i := 153) rfl) rfl, inP4 (List.mem_of_getElem? (i := 11) rfl)⟩
abbrev mX11_reckon : Mi := (yX11_reckon, cX11_reckon, 6, none)
theorem mk_X11_reckon : MK mX11_reckon 4 := ⟨⟨by decide +kernel, by decide +kernel, by decide +kernel⟩, inT5 (List.mem_of_getElem? (i := 95) rfl) rfl, inT1 (List.mem_of_getElem? (i := 9) rfl) rfl⟩
theorem mv_X11_reckon : MV mX11_reckon 4 := ⟨mk_X11_reckon, inT5 (List.mem_of_getElem? (i := 94) rfl) rfl, inP3 (List.mem_of_getElem? (i := 13) rfl)⟩
abbrev mX11_makeRow : Mi := (yX11_makeRow, cX11_makeRow, 6, none)
theorem mk_X11_makeRow : MK mX11_makeRow 2 := ⟨⟨by decide +kernel, by decide +kernel, by decide +kernel⟩, inT5 (List.mem_of_getElem? (i := 111) rfl) rfl, inT1 (List.mem_of_getElem? (i := 9) rfl) rfl⟩
theorem mv_X11_makeRow : MV mX11_makeRow 2 := ⟨mk_X11_makeRow, inT5 (List.mem_of_getElem? (i := 110) rfl) rfl, inP4 (List.mem_of_getElem? (i := 1) rfl)⟩
abbrev mX11_isRow : Mi := (yX11_isRow, cX11_isRow, 1, (some .boolean))
theorem mk_X11_isRow : MK mX11_isRow 1 := ⟨⟨by decide +kernel, by decide +kernel, by decide +kernel⟩, inT5 (List.mem_of_getElem? (i := 122) rfl) rfl, inT1 (List.mem_of_getElem? (i := 9) rfl) rfl⟩
theorem ms_X11_isRow : MS mX11_isRow 1 := ⟨mk_X11_isRow, inT5 (List.mem_of_getElem? (i := 121) rfl) rfl⟩
abbrev mX11_isRowHere : Mi := (yX11_isRowHere, cX11_isRowHere, 3, (some .boolean))
theorem mk_X11_isRowHere : MK mX11_isRowHere 2 := ⟨⟨by decide +kernel, by decide +kernel, by decide +kernel⟩, inT5 (List.mem_of_getElem? (i := 119) rfl) rfl, inT1 (List.mem_of_getElem? (i := 9) rfl) rfl⟩
theorem mv_X11_isRowHere : MV mX11_isRowHere 2 := ⟨mk_X11_isRowHere, inT5 (List.mem_of_getElem? (i := 118) rfl) rfl, inP4 (List.mem_of_getElem? (i := 3) rfl)⟩
abbrev mX11_isLink : Mi := (yX11_isLink, cX11_isLink, 4, (some .boolean))
theorem mk_X11_isLink : MK mX11_isLink 2 := ⟨⟨by decide +kernel, by decide +kernel, by decide +kernel⟩, inT5 (List.mem_of_getElem? (i := 134) rfl) rfl, inT1 (List.mem_of_getElem? (i := 9) rfl) rfl⟩
theorem mv_X11_isLink : MV mX11_isLink 2 := ⟨mk_X11_isLink, inT5 (List.mem_of_getElem? (i := 133) rfl) rfl, inP4 (List.mem_of_getElem? (i := 6) rfl)⟩
abbrev mX11_readPlace : Mi := (yX11_readPlace, cX11_readPlace, 5, none)
theorem mk_X11_readPlace : MK mX11_readPlace 3 := ⟨⟨by decide +kernel, by decide +kernel, by decide +kernel⟩, inT5 (List.mem_of_getElem? (i := 115) rfl) rfl, inT1 (List.mem_of_getElem? (i := 9) rfl) rfl⟩
theorem mv_X11_readPlace : MV mX11_readPlace 3 := ⟨mk_X11_readPlace, inT5 (List.mem_of_getElem? (i := 114) rfl) rfl, inP4 (List.mem_of_getElem? (i := 2) rfl)⟩
abbrev mX11_writePlace : Mi := (yX11_writePlace, cX11_writePlace, 6, none)
theorem mk_X11_writePlace : MK mX11_writePlace 2 := ⟨⟨by decide +kernel, by decide +kernel, by decide +kernel⟩, inT5 (List.mem_of_getElem? (i := 126) rfl) rfl, inT1 (List.mem_of_getElem? (i := 9) rfl) rfl⟩
theorem mv_X11_writePlace : MV mX11_writePlace 2 := ⟨mk_X11_writePlace, inT5 (List.mem_of_getElem? (i := 125) rfl) rfl, inP4 (List.mem_of_getElem? (i := 4) rfl)⟩
abbrev mX11_copyPlaces : Mi := (yX11_copyPlaces, cX11_copyPlaces, 9, none)
theorem mk_X11_copyPlaces : MK mX11_copyPlaces 2 := ⟨⟨by decide +kernel, by decide +kernel, by decide +kernel⟩, inT5 (List.mem_of_getElem? (i := 138) rfl) rfl, inT1 (List.mem_of_getElem? (i := 9) rfl) rfl⟩
theorem mv_X11_copyPlaces : MV mX11_copyPlaces 2 := ⟨mk_X11_copyPlaces, inT5 (List.mem_of_getElem? (i := 137) rfl) rfl, inP4 (List.mem_of_getElem? (i := 7) rfl)⟩
abbrev mX11_upFailure : Mi := (yX11_upFailure, cX11_upFailure, 6, none)
theorem mk_X11_upFailure : MK mX11_upFailure 0 := ⟨⟨by decide +kernel, by decide +kernel, by decide +kernel⟩, inT5 (List.mem_of_getElem? (i := 158) rfl) rfl, inT1 (List.mem_of_getElem? (i := 9) rfl) rfl⟩
theorem mv_X11_upFailure : MV mX11_upFailure 0 := ⟨mk_X11_upFailure, inT5 (List.mem_of_getElem? (i := 157) rfl) rfl, inP4 (List.mem_of_getElem? (i := 12) rfl)⟩
abbrev mX11_leave : Mi := (yX11_leave, cX11_leave, 5, none)
theorem mk_X11_leave : MK mX11_leave 4 := ⟨⟨by decide +kernel, by decide +kernel, by decide +kernel⟩, inT5 (List.mem_of_getElem? (i := 162) rfl) rfl, inT1 (List.mem_of_getElem? (i := 9) rfl) rfl⟩
theorem mv_X11_leave : MV mX11_leave 4 := ⟨mk_X11_leave, inT5 (List.mem_of_getElem? (i := 161) rfl) rfl, inP4 (List.mem_of_getElem? (i := 13) rfl)⟩
abbrev mX11_run : Mi := (yX11_run, cX11_run, 5, (some .int))
theorem mk_X11_run : MK mX11_run 2 := ⟨⟨by decide +kernel, by decide +kernel, by decide +kernel⟩, inT5 (List.mem_of_getElem? (i := 51) rfl) rfl, inT1 (List.mem_of_getElem? (i := 9) rfl) rfl⟩
theorem mv_X11_run : MV mX11_run 2 := ⟨mk_X11_run, inT5 (List.mem_of_getElem? (i := 49) rfl) rfl, inT5 (List.mem_of_getElem? (i := 50) rfl) rfl⟩
abbrev mX11_ended : Mi := (yX11_ended, cX11_ended, 2, (some .int))
theorem mk_X11_ended : MK mX11_ended 1 := ⟨⟨by decide +kernel, by decide +kernel, by decide +kernel⟩, inT5 (List.mem_of_getElem? (i := 170) rfl) rfl, inT1 (List.mem_of_getElem? (i := 9) rfl) rfl⟩
theorem mv_X11_ended : MV mX11_ended 1 := ⟨mk_X11_ended, inT5 (List.mem_of_getElem? (i := 168) rfl) rfl, inT5 (List.mem_of_getElem? (i := 169) rfl) rfl⟩
abbrev mX11_numberOf : Mi := (yX11_numberOf, cX11_numberOf, 3, (some .int))
theorem mk_X11_numberOf : MK mX11_numberOf 2 := ⟨⟨by decide +kernel, by decide +kernel, by decide +kernel⟩, inT5 (List.mem_of_getElem? (i := 178) rfl) rfl, inT1 (List.mem_of_getElem? (i := 9) rfl) rfl⟩
theorem mv_X11_numberOf : MV mX11_numberOf 2 := ⟨mk_X11_numberOf, inT5 (List.mem_of_getElem? (i := 177) rfl) rfl, inP4 (List.mem_of_getElem? (i := 15) rfl)⟩
abbrev mX11_gave : Mi := (yX11_gave, cX11_gave, 1, (some .int))
theorem mk_X11_gave : MK mX11_gave 0 := ⟨⟨by decide +kernel, by decide +kernel, by decide +kernel⟩, inT5 (List.mem_of_getElem? (i := 174) rfl) rfl, inT1 (List.mem_of_getElem? (i := 9) rfl) rfl⟩
theorem mv_X11_gave : MV mX11_gave 0 := ⟨mk_X11_gave, inT5 (List.mem_of_getElem? (i := 172) rfl) rfl, inT5 (List.mem_of_getElem? (i := 173) rfl) rfl⟩
abbrev mX11_thrown : Mi := (yX11_thrown, cX11_thrown, 1, (some .int))
theorem mk_X11_thrown : MK mX11_thrown 0 := ⟨⟨by decide +kernel, by decide +kernel, by decide +kernel⟩, inT5 (List.mem_of_getElem? (i := 182) rfl) rfl, inT1 (List.mem_of_getElem? (i := 9) rfl) rfl⟩
theorem mv_X11_thrown : MV mX11_thrown 0 := ⟨mk_X11_thrown, inT5 (List.mem_of_getElem? (i := 180) rfl) rfl, inT5 (List.mem_of_getElem? (i := 181) rfl) rfl⟩
abbrev mX11_place : Mi := (yX11_place, cX11_place, 3, (some .int))
theorem mk_X11_place : MK mX11_place 1 := ⟨⟨by decide +kernel, by decide +kernel, by decide +kernel⟩, inT5 (List.mem_of_getElem? (i := 186) rfl) rfl, inT1 (List.mem_of_getElem? (i := 9) rfl) rfl⟩
theorem mv_X11_place : MV mX11_place 1 := ⟨mk_X11_place, inT5 (List.mem_of_getElem? (i := 184) rfl) rfl, inT5 (List.mem_of_getElem? (i := 185) rfl) rfl⟩
abbrev mX11_box : Mi := (yX11_box, cX11_box, 2, (some .int))
theorem mk_X11_box : MK mX11_box 1 := ⟨⟨by decide +kernel, by decide +kernel, by decide +kernel⟩, inT5 (List.mem_of_getElem? (i := 190) rfl) rfl, inT1 (List.mem_of_getElem? (i := 9) rfl) rfl⟩
theorem mv_X11_box : MV mX11_box 1 := ⟨mk_X11_box, inT5 (List.mem_of_getElem? (i := 188) rfl) rfl, inT5 (List.mem_of_getElem? (i := 189) rfl) rfl⟩
abbrev mX11_boxed : Mi := (yX11_boxed, cX11_boxed, 2, (some .int))
theorem mk_X11_boxed : MK mX11_boxed 1 := ⟨⟨by decide +kernel, by decide +kernel, by decide +kernel⟩, inT5 (List.mem_of_getElem? (i := 194) rfl) rfl, inT1 (List.mem_of_getElem? (i := 9) rfl) rfl⟩
theorem mv_X11_boxed : MV mX11_boxed 1 := ⟨mk_X11_boxed, inT5 (List.mem_of_getElem? (i := 192) rfl) rfl, inT5 (List.mem_of_getElem? (i := 193) rfl) rfl⟩
abbrev mX11_same : Mi := (yX11_same, cX11_same, 3, (some .int))
theorem mk_X11_same : MK mX11_same 2 := ⟨⟨by decide +kernel, by decide +kernel, by decide +kernel⟩, inT5 (List.mem_of_getElem? (i := 198) rfl) rfl, inT1 (List.mem_of_getElem? (i := 9) rfl) rfl⟩
theorem mv_X11_same : MV mX11_same 2 := ⟨mk_X11_same, inT5 (List.mem_of_getElem? (i := 196) rfl) rfl, inT5 (List.mem_of_getElem? (i := 197) rfl) rfl⟩
abbrev mX11_out : Mi := (yX11_out, cX11_out, 2, (some .int))
theorem mk_X11_out : MK mX11_out 1 := ⟨⟨by decide +kernel, by decide +kernel, by decide +kernel⟩, inT5 (List.mem_of_getElem? (i := 202) rfl) rfl, inT1 (List.mem_of_getElem? (i := 9) rfl) rfl⟩
theorem mv_X11_out : MV mX11_out 1 := ⟨mk_X11_out, inT5 (List.mem_of_getElem? (i := 200) rfl) rfl, inT5 (List.mem_of_getElem? (i := 201) rfl) rfl⟩
abbrev mX11_count : Mi := (yX11_count, cX11_count, 2, (some .int))
theorem mk_X11_count : MK mX11_count 1 := ⟨⟨by decide +kernel, by decide +kernel, by decide +kernel⟩, inT5 (List.mem_of_getElem? (i := 206) rfl) rfl, inT1 (List.mem_of_getElem? (i := 9) rfl) rfl⟩
theorem mv_X11_count : MV mX11_count 1 := ⟨mk_X11_count, inT5 (List.mem_of_getElem? (i := 204) rfl) rfl, inT5 (List.mem_of_getElem? (i := 205) rfl) rfl⟩
abbrev mX11_clear : Mi := (yX11_clear, cX11_clear, 3, (some .int))
theorem mk_X11_clear : MK mX11_clear 0 := ⟨⟨by decide +kernel, by decide +kernel, by decide +kernel⟩, inT5 (List.mem_of_getElem? (i := 210) rfl) rfl, inT1 (List.mem_of_getElem? (i := 9) rfl) rfl⟩
theorem mv_X11_clear : MV mX11_clear 0 := ⟨mk_X11_clear, inT5 (List.mem_of_getElem? (i := 208) rfl) rfl, inT5 (List.mem_of_getElem? (i := 209) rfl) rfl⟩
theorem lk_X10_9 : Cond.methodLink RX10 9 yX0_init ∈ wsG := inT1 (List.mem_of_getElem? (i := 29) rfl) rfl
theorem lk_X10_18 : Cond.methodLink RX10 18 yX6_init ∈ wsG := inT1 (List.mem_of_getElem? (i := 50) rfl) rfl
theorem lk_X10_29 : Cond.methodLink RX10 29 yX0_refusalOf ∈ wsG := inT2 (List.mem_of_getElem? (i := 19) rfl) rfl
theorem lk_X10_33 : Cond.methodLink RX10 33 yX0_add ∈ wsG := inT2 (List.mem_of_getElem? (i := 39) rfl) rfl
theorem lk_X10_36 : Cond.methodLink RX10 36 yX0_has ∈ wsG := inT2 (List.mem_of_getElem? (i := 51) rfl) rfl
theorem lk_X10_40 : Cond.methodLink RX10 40 yX0_given ∈ wsG := inT2 (List.mem_of_getElem? (i := 52) rfl) rfl
theorem lk_X10_44 : Cond.methodLink RX10 44 yX6_perform ∈ wsG := inT2 (List.mem_of_getElem? (i := 60) rfl) rfl
theorem lk_X10_61 : Cond.methodLink RX10 61 yX9_sort ∈ wsG := inT3 (List.mem_of_getElem? (i := 203) rfl) rfl
theorem lk_X10_83 : Cond.methodLink RX10 83 yX7_measure ∈ wsG := inT3 (List.mem_of_getElem? (i := 212) rfl) rfl
theorem lk_X10_88 : Cond.methodLink RX10 88 yX9_isRow ∈ wsG := inT4 (List.mem_of_getElem? (i := 88) rfl) rfl
theorem lk_X10_92 : Cond.methodLink RX10 92 yX7_lengthOf ∈ wsG := inT4 (List.mem_of_getElem? (i := 89) rfl) rfl
theorem lk_X10_102 : Cond.methodLink RX10 102 yX7_cellOf ∈ wsG := inT4 (List.mem_of_getElem? (i := 93) rfl) rfl
theorem lk_X10_106 : Cond.methodLink RX10 106 yX7_read ∈ wsG := inT3 (List.mem_of_getElem? (i := 225) rfl) rfl
theorem lk_X10_110 : Cond.methodLink RX10 110 yX9_number ∈ wsG := inT4 (List.mem_of_getElem? (i := 94) rfl) rfl
theorem lk_X10_113 : Cond.methodLink RX10 113 yX7_isBox ∈ wsG := inT3 (List.mem_of_getElem? (i := 222) rfl) rfl
theorem lk_X10_126 : Cond.methodLink RX10 126 yX6_restart ∈ wsG := inT4 (List.mem_of_getElem? (i := 6) rfl) rfl
theorem lk_X11_107 : Cond.methodLink RX11 107 yX11_in ∈ wsG := inT5 (List.mem_of_getElem? (i := 34) rfl) rfl
theorem lk_X11_114 : Cond.methodLink RX11 114 yX11_actsOf ∈ wsG := inT5 (List.mem_of_getElem? (i := 37) rfl) rfl
theorem lk_X11_118 : Cond.methodLink RX11 118 yX11_noAct ∈ wsG := inT5 (List.mem_of_getElem? (i := 40) rfl) rfl
theorem lk_X11_149 : Cond.methodLink RX11 149 yX11_finish ∈ wsG := inT5 (List.mem_of_getElem? (i := 64) rfl) rfl
theorem lk_X11_168 : Cond.methodLink RX11 168 yX11_value ∈ wsG := inT5 (List.mem_of_getElem? (i := 68) rfl) rfl
theorem lk_X11_171 : Cond.methodLink RX11 171 yX11_newThing ∈ wsG := inT5 (List.mem_of_getElem? (i := 72) rfl) rfl
theorem lk_X11_177 : Cond.methodLink RX11 177 yX11_start ∈ wsG := inT5 (List.mem_of_getElem? (i := 56) rfl) rfl
theorem lk_X11_180 : Cond.methodLink RX11 180 yX11_fail ∈ wsG := inT5 (List.mem_of_getElem? (i := 100) rfl) rfl
theorem lk_X11_184 : Cond.methodLink RX11 184 yX11_keepX ∈ wsG := inT5 (List.mem_of_getElem? (i := 80) rfl) rfl
theorem lk_X11_188 : Cond.methodLink RX11 188 yX11_keepY ∈ wsG := inT5 (List.mem_of_getElem? (i := 84) rfl) rfl
theorem lk_X11_191 : Cond.methodLink RX11 191 yX11_upOf ∈ wsG := inT5 (List.mem_of_getElem? (i := 88) rfl) rfl
theorem lk_X11_195 : Cond.methodLink RX11 195 yX11_reckon ∈ wsG := inT5 (List.mem_of_getElem? (i := 92) rfl) rfl
theorem lk_X11_199 : Cond.methodLink RX11 199 yX11_makeRow ∈ wsG := inT5 (List.mem_of_getElem? (i := 108) rfl) rfl
theorem lk_X11_202 : Cond.methodLink RX11 202 yX11_readPlace ∈ wsG := inT5 (List.mem_of_getElem? (i := 112) rfl) rfl
theorem lk_X11_205 : Cond.methodLink RX11 205 yX11_writePlace ∈ wsG := inT5 (List.mem_of_getElem? (i := 123) rfl) rfl
theorem lk_X11_208 : Cond.methodLink RX11 208 yX11_isLink ∈ wsG := inT5 (List.mem_of_getElem? (i := 131) rfl) rfl
theorem lk_X11_212 : Cond.methodLink RX11 212 yX11_write ∈ wsG := inT5 (List.mem_of_getElem? (i := 127) rfl) rfl
theorem lk_X11_215 : Cond.methodLink RX11 215 yX11_copyPlaces ∈ wsG := inT5 (List.mem_of_getElem? (i := 135) rfl) rfl
theorem lk_X11_218 : Cond.methodLink RX11 218 yX11_isWhole ∈ wsG := inT5 (List.mem_of_getElem? (i := 96) rfl) rfl
theorem lk_X11_221 : Cond.methodLink RX11 221 yX11_upLater ∈ wsG := inT5 (List.mem_of_getElem? (i := 139) rfl) rfl
theorem lk_X11_224 : Cond.methodLink RX11 224 yX11_upLoop ∈ wsG := inT5 (List.mem_of_getElem? (i := 143) rfl) rfl
theorem lk_X11_227 : Cond.methodLink RX11 227 yX11_upCall ∈ wsG := inT5 (List.mem_of_getElem? (i := 147) rfl) rfl
theorem lk_X11_233 : Cond.methodLink RX11 233 yX11_upWork ∈ wsG := inT5 (List.mem_of_getElem? (i := 151) rfl) rfl
theorem lk_X11_239 : Cond.methodLink RX11 239 yX11_newFrame ∈ wsG := inT5 (List.mem_of_getElem? (i := 52) rfl) rfl
theorem lk_X11_243 : Cond.methodLink RX11 243 yX11_failBy ∈ wsG := inT5 (List.mem_of_getElem? (i := 104) rfl) rfl
theorem lk_X11_246 : Cond.methodLink RX11 246 yX11_isRow ∈ wsG := inT5 (List.mem_of_getElem? (i := 120) rfl) rfl
theorem lk_X11_249 : Cond.methodLink RX11 249 yX11_isRowHere ∈ wsG := inT5 (List.mem_of_getElem? (i := 116) rfl) rfl
theorem lk_X11_252 : Cond.methodLink RX11 252 yX11_leave ∈ wsG := inT5 (List.mem_of_getElem? (i := 159) rfl) rfl
theorem lk_X11_255 : Cond.methodLink RX11 255 yX11_back ∈ wsG := inT5 (List.mem_of_getElem? (i := 163) rfl) rfl
theorem lk_X11_261 : Cond.methodLink RX11 261 yX11_begin ∈ wsG := inT5 (List.mem_of_getElem? (i := 60) rfl) rfl
theorem lk_X11_264 : Cond.methodLink RX11 264 yX11_up ∈ wsG := inT5 (List.mem_of_getElem? (i := 76) rfl) rfl
theorem lk_X11_267 : Cond.methodLink RX11 267 yX11_upFailure ∈ wsG := inT5 (List.mem_of_getElem? (i := 155) rfl) rfl
theorem lk_X11_285 : Cond.methodLink RX11 285 yX11_numberOf ∈ wsG := inT5 (List.mem_of_getElem? (i := 175) rfl) rfl
theorem lk_X0_25 : Cond.methodLink RX0 25 yX0_has ∈ wsG := inT2 (List.mem_of_getElem? (i := 29) rfl) rfl
theorem lk_X0_34 : Cond.methodLink RX0 34 yX0_isUnknown ∈ wsG := inT2 (List.mem_of_getElem? (i := 25) rfl) rfl
theorem lk_X0_38 : Cond.methodLink RX0 38 yX0_isOutside ∈ wsG := inT2 (List.mem_of_getElem? (i := 33) rfl) rfl
theorem lk_X0_44 : Cond.methodLink RX0 44 yX0_sortParts ∈ wsG := inT2 (List.mem_of_getElem? (i := 43) rfl) rfl
theorem lk_X1_7 : Cond.methodLink RX1 7 yX1_restart ∈ wsG := inT1 (List.mem_of_getElem? (i := 88) rfl) rfl
theorem lk_X1_31 : Cond.methodLink RX1 31 yX1_settle ∈ wsG := inT1 (List.mem_of_getElem? (i := 93) rfl) rfl
theorem lk_X1_34 : Cond.methodLink RX1 34 yX1_goOn ∈ wsG := inT1 (List.mem_of_getElem? (i := 97) rfl) rfl
theorem lk_X2_7 : Cond.methodLink RX2 7 yX2_ofWhole ∈ wsG := inT2 (List.mem_of_getElem? (i := 232) rfl) rfl
theorem lk_X2_13 : Cond.methodLink RX2 13 yX2_firstOf ∈ wsG := inT3 (List.mem_of_getElem? (i := 0) rfl) rfl
theorem lk_X2_17 : Cond.methodLink RX2 17 yX9_number ∈ wsG := inT3 (List.mem_of_getElem? (i := 3) rfl) rfl
theorem lk_X2_22 : Cond.methodLink RX2 22 yX2_ofLength ∈ wsG := inT3 (List.mem_of_getElem? (i := 4) rfl) rfl
theorem lk_X2_26 : Cond.methodLink RX2 26 yX9_isRow ∈ wsG := inT3 (List.mem_of_getElem? (i := 7) rfl) rfl
theorem lk_X2_30 : Cond.methodLink RX2 30 yX2_ofThing ∈ wsG := inT2 (List.mem_of_getElem? (i := 236) rfl) rfl
theorem lk_X2_34 : Cond.methodLink RX2 34 yX2_ofPlace ∈ wsG := inT3 (List.mem_of_getElem? (i := 8) rfl) rfl
theorem lk_X2_38 : Cond.methodLink RX2 38 yX2_ofWrite ∈ wsG := inT3 (List.mem_of_getElem? (i := 11) rfl) rfl
theorem lk_X2_42 : Cond.methodLink RX2 42 yX9_isLink ∈ wsG := inT3 (List.mem_of_getElem? (i := 23) rfl) rfl
theorem lk_X2_45 : Cond.methodLink RX2 45 Lib.Math.min.name ∈ wsG := inT3 (List.mem_of_getElem? (i := 26) rfl) rfl
theorem mm_1 : Cond.static Lib.Math.min.name ∈ wsG := inT3 (List.mem_of_getElem? (i := 27) rfl) rfl
theorem mm_2 : Cond.initialized "java/lang/Math" ∈ wsG := inT1 (List.mem_of_getElem? (i := 12) rfl) rfl
theorem mm_3 : Cond.code Lib.Math.min.name Lib.Math.min.code 2 (some .int) ∈ wsG := inT3 (List.mem_of_getElem? (i := 28) rfl) rfl
theorem lk_X2_50 : Cond.methodLink RX2 50 yX2_ofCopy ∈ wsG := inT3 (List.mem_of_getElem? (i := 29) rfl) rfl
theorem lk_X2_53 : Cond.methodLink RX2 53 yX9_sort ∈ wsG := inT2 (List.mem_of_getElem? (i := 235) rfl) rfl
theorem lk_X2_60 : Cond.methodLink RX2 60 yX9_isRowForLinks ∈ wsG := inT3 (List.mem_of_getElem? (i := 14) rfl) rfl
theorem lk_X2_63 : Cond.methodLink RX2 63 yX9_isLinkOrNothing ∈ wsG := inT3 (List.mem_of_getElem? (i := 17) rfl) rfl
theorem lk_X2_66 : Cond.methodLink RX2 66 yX9_isStrange ∈ wsG := inT3 (List.mem_of_getElem? (i := 20) rfl) rfl
theorem lk_X3_23 : Cond.methodLink RX3 23 yX3_has ∈ wsG := inT2 (List.mem_of_getElem? (i := 145) rfl) rfl
theorem lk_X5_39 : Cond.methodLink RX5 39 yX9_of ∈ wsG := inT3 (List.mem_of_getElem? (i := 108) rfl) rfl
theorem lk_X5_43 : Cond.methodLink RX5 43 yX5_has ∈ wsG := inT2 (List.mem_of_getElem? (i := 182) rfl) rfl
theorem lk_X6_15 : Cond.methodLink RX6 15 yX7_init ∈ wsG := inT1 (List.mem_of_getElem? (i := 56) rfl) rfl
theorem lk_X6_22 : Cond.methodLink RX6 22 yX1_init ∈ wsG := inT1 (List.mem_of_getElem? (i := 84) rfl) rfl
theorem lk_X6_37 : Cond.methodLink RX6 37 yX3_init ∈ wsG := inT1 (List.mem_of_getElem? (i := 137) rfl) rfl
theorem lk_X6_44 : Cond.methodLink RX6 44 yX5_init ∈ wsG := inT1 (List.mem_of_getElem? (i := 150) rfl) rfl
theorem lk_X6_51 : Cond.methodLink RX6 51 yX8_init ∈ wsG := inT1 (List.mem_of_getElem? (i := 178) rfl) rfl
theorem lk_X6_59 : Cond.methodLink RX6 59 yX7_restart ∈ wsG := inT2 (List.mem_of_getElem? (i := 68) rfl) rfl
theorem lk_X6_62 : Cond.methodLink RX6 62 yX1_restart ∈ wsG := inT2 (List.mem_of_getElem? (i := 69) rfl) rfl
theorem lk_X6_65 : Cond.methodLink RX6 65 yX3_restart ∈ wsG := inT2 (List.mem_of_getElem? (i := 70) rfl) rfl
theorem lk_X6_66 : Cond.methodLink RX6 66 yX5_restart ∈ wsG := inT2 (List.mem_of_getElem? (i := 74) rfl) rfl
theorem lk_X6_67 : Cond.methodLink RX6 67 yX8_restart ∈ wsG := inT2 (List.mem_of_getElem? (i := 78) rfl) rfl
theorem lk_X6_68 : Cond.methodLink RX6 68 yX6_restart ∈ wsG := inT2 (List.mem_of_getElem? (i := 64) rfl) rfl
theorem lk_X6_69 : Cond.methodLink RX6 69 yX3_open ∈ wsG := inT2 (List.mem_of_getElem? (i := 82) rfl) rfl
theorem lk_X6_73 : Cond.methodLink RX6 73 yX6_begin ∈ wsG := inT2 (List.mem_of_getElem? (i := 87) rfl) rfl
theorem lk_X6_78 : Cond.methodLink RX6 78 yX8_isEmpty ∈ wsG := inT2 (List.mem_of_getElem? (i := 104) rfl) rfl
theorem lk_X6_85 : Cond.methodLink RX6 85 yX6_leave ∈ wsG := inT2 (List.mem_of_getElem? (i := 108) rfl) rfl
theorem lk_X6_88 : Cond.methodLink RX6 88 yX6_comesToWork ∈ wsG := inT2 (List.mem_of_getElem? (i := 202) rfl) rfl
theorem lk_X6_91 : Cond.methodLink RX6 91 yX6_work ∈ wsG := inT3 (List.mem_of_getElem? (i := 48) rfl) rfl
theorem lk_X6_94 : Cond.methodLink RX6 94 yX1_takesStep ∈ wsG := inT2 (List.mem_of_getElem? (i := 91) rfl) rfl
theorem lk_X6_98 : Cond.methodLink RX6 98 yX7_changesSoFar ∈ wsG := inT2 (List.mem_of_getElem? (i := 95) rfl) rfl
theorem lk_X6_101 : Cond.methodLink RX6 101 yX8_push ∈ wsG := inT2 (List.mem_of_getElem? (i := 99) rfl) rfl
theorem lk_X6_105 : Cond.methodLink RX6 105 yX8_actOnTop ∈ wsG := inT2 (List.mem_of_getElem? (i := 112) rfl) rfl
theorem lk_X6_108 : Cond.methodLink RX6 108 yX0_part ∈ wsG := inT2 (List.mem_of_getElem? (i := 158) rfl) rfl
theorem lk_X6_114 : Cond.methodLink RX6 114 yX8_frame ∈ wsG := inT2 (List.mem_of_getElem? (i := 133) rfl) rfl
theorem lk_X6_117 : Cond.methodLink RX6 117 yX8_pop ∈ wsG := inT2 (List.mem_of_getElem? (i := 198) rfl) rfl
theorem lk_X6_124 : Cond.methodLink RX6 124 yX8_take ∈ wsG := inT3 (List.mem_of_getElem? (i := 60) rfl) rfl
theorem lk_X6_128 : Cond.methodLink RX6 128 yX1_arise ∈ wsG := inT3 (List.mem_of_getElem? (i := 44) rfl) rfl
theorem lk_X6_131 : Cond.methodLink RX6 131 yX1_end ∈ wsG := inT3 (List.mem_of_getElem? (i := 36) rfl) rfl
theorem lk_X6_134 : Cond.methodLink RX6 134 yX0_partsAhead ∈ wsG := inT2 (List.mem_of_getElem? (i := 206) rfl) rfl
theorem lk_X6_138 : Cond.methodLink RX6 138 yX8_stage ∈ wsG := inT2 (List.mem_of_getElem? (i := 117) rfl) rfl
theorem lk_X6_141 : Cond.methodLink RX6 141 yX6_beginPart ∈ wsG := inT2 (List.mem_of_getElem? (i := 154) rfl) rfl
theorem lk_X6_144 : Cond.methodLink RX6 144 yX0_given ∈ wsG := inT2 (List.mem_of_getElem? (i := 116) rfl) rfl
theorem lk_X6_147 : Cond.methodLink RX6 147 yX6_isStopped ∈ wsG := inT2 (List.mem_of_getElem? (i := 210) rfl) rfl
theorem lk_X6_150 : Cond.methodLink RX6 150 yX8_value ∈ wsG := inT2 (List.mem_of_getElem? (i := 166) rfl) rfl
theorem lk_X6_153 : Cond.methodLink RX6 153 yX7_lengthOf ∈ wsG := inT2 (List.mem_of_getElem? (i := 214) rfl) rfl
theorem lk_X6_157 : Cond.methodLink RX6 157 yX2_of ∈ wsG := inT2 (List.mem_of_getElem? (i := 229) rfl) rfl
theorem lk_X6_163 : Cond.methodLink RX6 163 yX6_endRun ∈ wsG := inT3 (List.mem_of_getElem? (i := 32) rfl) rfl
theorem lk_X6_166 : Cond.methodLink RX6 166 yX9_number ∈ wsG := inT2 (List.mem_of_getElem? (i := 171) rfl) rfl
theorem lk_X6_171 : Cond.methodLink RX6 171 yX6_fail ∈ wsG := inT3 (List.mem_of_getElem? (i := 40) rfl) rfl
theorem lk_X6_174 : Cond.methodLink RX6 174 yX6_keep ∈ wsG := inT3 (List.mem_of_getElem? (i := 52) rfl) rfl
theorem lk_X6_177 : Cond.methodLink RX6 177 yX6_give ∈ wsG := inT3 (List.mem_of_getElem? (i := 56) rfl) rfl
theorem lk_X6_180 : Cond.methodLink RX6 180 yX6_doAlways ∈ wsG := inT3 (List.mem_of_getElem? (i := 64) rfl) rfl
theorem lk_X6_183 : Cond.methodLink RX6 183 yX6_choose ∈ wsG := inT3 (List.mem_of_getElem? (i := 77) rfl) rfl
theorem lk_X6_186 : Cond.methodLink RX6 186 yX6_loop ∈ wsG := inT3 (List.mem_of_getElem? (i := 81) rfl) rfl
theorem lk_X6_189 : Cond.methodLink RX6 189 yX6_call ∈ wsG := inT3 (List.mem_of_getElem? (i := 90) rfl) rfl
theorem lk_X6_192 : Cond.methodLink RX6 192 yX6_delay ∈ wsG := inT3 (List.mem_of_getElem? (i := 99) rfl) rfl
theorem lk_X6_195 : Cond.methodLink RX6 195 yX6_force ∈ wsG := inT3 (List.mem_of_getElem? (i := 111) rfl) rfl
theorem lk_X6_198 : Cond.methodLink RX6 198 yX6_copy ∈ wsG := inT3 (List.mem_of_getElem? (i := 147) rfl) rfl
theorem lk_X6_201 : Cond.methodLink RX6 201 yX6_workPlainly ∈ wsG := inT3 (List.mem_of_getElem? (i := 163) rfl) rfl
theorem lk_X6_204 : Cond.methodLink RX6 204 yX3_write ∈ wsG := inT2 (List.mem_of_getElem? (i := 141) rfl) rfl
theorem lk_X6_208 : Cond.methodLink RX6 208 yX8_holdsFailure ∈ wsG := inT3 (List.mem_of_getElem? (i := 68) rfl) rfl
theorem lk_X6_211 : Cond.methodLink RX6 211 yX8_letGo ∈ wsG := inT3 (List.mem_of_getElem? (i := 72) rfl) rfl
theorem lk_X6_215 : Cond.methodLink RX6 215 yX6_askAgain ∈ wsG := inT3 (List.mem_of_getElem? (i := 85) rfl) rfl
theorem lk_X6_220 : Cond.methodLink RX6 220 yX8_setStage ∈ wsG := inT2 (List.mem_of_getElem? (i := 150) rfl) rfl
theorem lk_X6_223 : Cond.methodLink RX6 223 yX6_enter ∈ wsG := inT3 (List.mem_of_getElem? (i := 94) rfl) rfl
theorem lk_X6_226 : Cond.methodLink RX6 226 yX0_has ∈ wsG := inT3 (List.mem_of_getElem? (i := 98) rfl) rfl
theorem lk_X6_229 : Cond.methodLink RX6 229 yX5_add ∈ wsG := inT3 (List.mem_of_getElem? (i := 103) rfl) rfl
theorem lk_X6_233 : Cond.methodLink RX6 233 yX6_workLater ∈ wsG := inT3 (List.mem_of_getElem? (i := 115) rfl) rfl
theorem lk_X6_236 : Cond.methodLink RX6 236 yX5_finish ∈ wsG := inT3 (List.mem_of_getElem? (i := 143) rfl) rfl
theorem lk_X6_240 : Cond.methodLink RX6 240 yX5_stateOf ∈ wsG := inT3 (List.mem_of_getElem? (i := 119) rfl) rfl
theorem lk_X6_243 : Cond.methodLink RX6 243 yX5_valueOf ∈ wsG := inT3 (List.mem_of_getElem? (i := 123) rfl) rfl
theorem lk_X6_246 : Cond.methodLink RX6 246 yX5_failureOf ∈ wsG := inT3 (List.mem_of_getElem? (i := 127) rfl) rfl
theorem lk_X6_249 : Cond.methodLink RX6 249 yX5_codeOf ∈ wsG := inT3 (List.mem_of_getElem? (i := 131) rfl) rfl
theorem lk_X6_252 : Cond.methodLink RX6 252 yX5_setState ∈ wsG := inT2 (List.mem_of_getElem? (i := 186) rfl) rfl
theorem lk_X6_255 : Cond.methodLink RX6 255 yX5_actOf ∈ wsG := inT3 (List.mem_of_getElem? (i := 135) rfl) rfl
theorem lk_X6_258 : Cond.methodLink RX6 258 yX5_frameOf ∈ wsG := inT3 (List.mem_of_getElem? (i := 139) rfl) rfl
theorem lk_X6_261 : Cond.methodLink RX6 261 yX7_copied ∈ wsG := inT3 (List.mem_of_getElem? (i := 151) rfl) rfl
theorem lk_X6_267 : Cond.methodLink RX6 267 yX6_reckon ∈ wsG := inT3 (List.mem_of_getElem? (i := 167) rfl) rfl
theorem lk_X6_271 : Cond.methodLink RX6 271 yX6_change ∈ wsG := inT3 (List.mem_of_getElem? (i := 178) rfl) rfl
theorem lk_X6_275 : Cond.methodLink RX6 275 yX9_whole ∈ wsG := inT2 (List.mem_of_getElem? (i := 137) rfl) rfl
theorem lk_X6_278 : Cond.methodLink RX6 278 yX3_read ∈ wsG := inT3 (List.mem_of_getElem? (i := 171) rfl) rfl
theorem lk_X6_281 : Cond.methodLink RX6 281 yX9_truth ∈ wsG := inT3 (List.mem_of_getElem? (i := 175) rfl) rfl
theorem lk_X6_285 : Cond.methodLink RX6 285 yX7_newRow ∈ wsG := inT3 (List.mem_of_getElem? (i := 182) rfl) rfl
theorem lk_X6_288 : Cond.methodLink RX6 288 yX7_newLink ∈ wsG := inT3 (List.mem_of_getElem? (i := 188) rfl) rfl
theorem lk_X6_292 : Cond.methodLink RX6 292 yX7_cellOf ∈ wsG := inT3 (List.mem_of_getElem? (i := 192) rfl) rfl
theorem lk_X6_296 : Cond.methodLink RX6 296 yX7_read ∈ wsG := inT3 (List.mem_of_getElem? (i := 193) rfl) rfl
theorem lk_X6_298 : Cond.methodLink RX6 298 yX6_put ∈ wsG := inT3 (List.mem_of_getElem? (i := 194) rfl) rfl
theorem lk_X6_301 : Cond.methodLink RX6 301 yX6_tell ∈ wsG := inT3 (List.mem_of_getElem? (i := 199) rfl) rfl
theorem lk_X6_305 : Cond.methodLink RX6 305 yX7_write ∈ wsG := inT3 (List.mem_of_getElem? (i := 198) rfl) rfl
theorem lk_X6_307 : Cond.methodLink RX6 307 yX1_isFailing ∈ wsG := inT2 (List.mem_of_getElem? (i := 121) rfl) rfl
theorem lk_X6_310 : Cond.methodLink RX6 310 yX6_isCaught ∈ wsG := inT2 (List.mem_of_getElem? (i := 125) rfl) rfl
theorem lk_X6_313 : Cond.methodLink RX6 313 yX6_takeUp ∈ wsG := inT2 (List.mem_of_getElem? (i := 129) rfl) rfl
theorem lk_X6_316 : Cond.methodLink RX6 316 yX8_hold ∈ wsG := inT2 (List.mem_of_getElem? (i := 162) rfl) rfl
theorem lk_X6_319 : Cond.methodLink RX6 319 yX1_settle ∈ wsG := inT2 (List.mem_of_getElem? (i := 149) rfl) rfl
theorem lk_X6_322 : Cond.methodLink RX6 322 yX6_leaveLater ∈ wsG := inT2 (List.mem_of_getElem? (i := 174) rfl) rfl
theorem lk_X6_325 : Cond.methodLink RX6 325 yX8_mark ∈ wsG := inT2 (List.mem_of_getElem? (i := 190) rfl) rfl
theorem lk_X6_328 : Cond.methodLink RX6 328 yX7_undoBackTo ∈ wsG := inT2 (List.mem_of_getElem? (i := 194) rfl) rfl
theorem lk_X6_334 : Cond.methodLink RX6 334 yX5_giveUp ∈ wsG := inT2 (List.mem_of_getElem? (i := 178) rfl) rfl
theorem lk_X7_22 : Cond.methodLink RX7 22 yX7_restart ∈ wsG := inT1 (List.mem_of_getElem? (i := 60) rfl) rfl
theorem lk_X7_25 : Cond.methodLink RX7 25 yX9_number ∈ wsG := inT2 (List.mem_of_getElem? (i := 224) rfl) rfl
theorem lk_X7_40 : Cond.methodLink RX7 40 yX9_whole ∈ wsG := inT3 (List.mem_of_getElem? (i := 186) rfl) rfl
theorem lk_X7_44 : Cond.methodLink RX7 44 yX9_of ∈ wsG := inT3 (List.mem_of_getElem? (i := 187) rfl) rfl
theorem lk_X7_48 : Cond.methodLink RX7 48 yX7_cellOf ∈ wsG := inT3 (List.mem_of_getElem? (i := 155) rfl) rfl
theorem lk_X7_52 : Cond.methodLink RX7 52 yX7_read ∈ wsG := inT2 (List.mem_of_getElem? (i := 225) rfl) rfl
theorem lk_X7_55 : Cond.methodLink RX7 55 yX9_isStrange ∈ wsG := inT3 (List.mem_of_getElem? (i := 158) rfl) rfl
theorem lk_X7_59 : Cond.methodLink RX7 59 yX7_write ∈ wsG := inT3 (List.mem_of_getElem? (i := 159) rfl) rfl
theorem lk_X7_63 : Cond.methodLink RX7 63 yX9_isRow ∈ wsG := inT2 (List.mem_of_getElem? (i := 218) rfl) rfl
theorem lk_X7_67 : Cond.methodLink RX7 67 yX9_sort ∈ wsG := inT3 (List.mem_of_getElem? (i := 216) rfl) rfl
theorem lk_X7_70 : Cond.methodLink RX7 70 yX7_lengthOf ∈ wsG := inT3 (List.mem_of_getElem? (i := 217) rfl) rfl
theorem lk_X8_59 : Cond.methodLink RX8 59 yX1_goOn ∈ wsG := inT3 (List.mem_of_getElem? (i := 76) rfl) rfl
theorem lk_X9_9 : Cond.methodLink RX9 9 yX9_sort ∈ wsG := inT2 (List.mem_of_getElem? (i := 221) rfl) rfl
theorem lk_L_7 : Cond.methodLink RL 7 yX10_place ∈ wsG := inT4 (List.mem_of_getElem? (i := 84) rfl) rfl
theorem lk_L_15 : Cond.methodLink RL 15 yX10_init ∈ wsG := inT1 (List.mem_of_getElem? (i := 21) rfl) rfl
theorem lk_L_18 : Cond.methodLink RL 18 yX11_init ∈ wsG := inT4 (List.mem_of_getElem? (i := 97) rfl) rfl
theorem lk_L_19 : Cond.methodLink RL 19 yX10_act ∈ wsG := inT2 (List.mem_of_getElem? (i := 15) rfl) rfl
theorem lk_L_23 : Cond.methodLink RL 23 yX11_act ∈ wsG := inT5 (List.mem_of_getElem? (i := 30) rfl) rfl
theorem lk_L_24 : Cond.methodLink RL 24 yX10_told ∈ wsG := inT2 (List.mem_of_getElem? (i := 47) rfl) rfl
theorem lk_L_28 : Cond.methodLink RL 28 yX11_told ∈ wsG := inT5 (List.mem_of_getElem? (i := 44) rfl) rfl
theorem lk_L_29 : Cond.methodLink RL 29 yX10_run ∈ wsG := inT2 (List.mem_of_getElem? (i := 56) rfl) rfl
theorem lk_L_32 : Cond.methodLink RL 32 yX11_run ∈ wsG := inT5 (List.mem_of_getElem? (i := 48) rfl) rfl
theorem lk_L_33 : Cond.methodLink RL 33 yX10_ended ∈ wsG := inT3 (List.mem_of_getElem? (i := 204) rfl) rfl
theorem lk_L_36 : Cond.methodLink RL 36 yX11_ended ∈ wsG := inT5 (List.mem_of_getElem? (i := 167) rfl) rfl
theorem lk_L_37 : Cond.methodLink RL 37 yX10_gave ∈ wsG := inT3 (List.mem_of_getElem? (i := 208) rfl) rfl
theorem lk_L_41 : Cond.methodLink RL 41 yX11_gave ∈ wsG := inT5 (List.mem_of_getElem? (i := 171) rfl) rfl
theorem lk_L_42 : Cond.methodLink RL 42 yL_place ∈ wsG := inT4 (List.mem_of_getElem? (i := 7) rfl) rfl
theorem lk_L_47 : Cond.methodLink RL 47 yX11_place ∈ wsG := inT5 (List.mem_of_getElem? (i := 183) rfl) rfl
theorem lk_L_48 : Cond.methodLink RL 48 yX11_thrown ∈ wsG := inT5 (List.mem_of_getElem? (i := 179) rfl) rfl
theorem lk_L_51 : Cond.methodLink RL 51 yX10_box ∈ wsG := inT3 (List.mem_of_getElem? (i := 218) rfl) rfl
theorem lk_L_54 : Cond.methodLink RL 54 yX11_box ∈ wsG := inT5 (List.mem_of_getElem? (i := 187) rfl) rfl
theorem lk_L_55 : Cond.methodLink RL 55 yX10_boxed ∈ wsG := inT3 (List.mem_of_getElem? (i := 226) rfl) rfl
theorem lk_L_58 : Cond.methodLink RL 58 yX11_boxed ∈ wsG := inT5 (List.mem_of_getElem? (i := 191) rfl) rfl
theorem lk_L_59 : Cond.methodLink RL 59 yX10_same ∈ wsG := inT3 (List.mem_of_getElem? (i := 230) rfl) rfl
theorem lk_L_62 : Cond.methodLink RL 62 yX11_same ∈ wsG := inT5 (List.mem_of_getElem? (i := 195) rfl) rfl
theorem lk_L_63 : Cond.methodLink RL 63 yX10_out ∈ wsG := inT3 (List.mem_of_getElem? (i := 234) rfl) rfl
theorem lk_L_66 : Cond.methodLink RL 66 yX11_out ∈ wsG := inT5 (List.mem_of_getElem? (i := 199) rfl) rfl
theorem lk_L_67 : Cond.methodLink RL 67 yX10_count ∈ wsG := inT3 (List.mem_of_getElem? (i := 238) rfl) rfl
theorem lk_L_70 : Cond.methodLink RL 70 yX11_count ∈ wsG := inT5 (List.mem_of_getElem? (i := 203) rfl) rfl
theorem lk_L_71 : Cond.methodLink RL 71 yX10_clear ∈ wsG := inT4 (List.mem_of_getElem? (i := 2) rfl) rfl
theorem lk_L_74 : Cond.methodLink RL 74 yX11_clear ∈ wsG := inT5 (List.mem_of_getElem? (i := 207) rfl) rfl
