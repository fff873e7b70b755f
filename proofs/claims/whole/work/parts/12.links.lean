/-! ===== links by their numbers ===== -/
theorem mg0 {w : Cond} (h : w ∈ tables_1) (hg : goodWord w = true) : w ∈ lw_g := List.mem_filter.mpr ⟨List.mem_append_right _ h, hg⟩
theorem mg1 {w : Cond} {i : Nat} (h : tables_1_1[i]? = some w) (hg : goodWord w = true) : w ∈ lw_g := mg0 (List.mem_append_left _ (List.mem_of_getElem? h)) hg
theorem mg2 {w : Cond} {i : Nat} (h : tables_1_2[i]? = some w) (hg : goodWord w = true) : w ∈ lw_g := mg0 (List.mem_append_right _ (List.mem_append_left _ (List.mem_of_getElem? h))) hg
theorem mg3 {w : Cond} {i : Nat} (h : tables_1_3[i]? = some w) (hg : goodWord w = true) : w ∈ lw_g := mg0 (List.mem_append_right _ (List.mem_append_right _ (List.mem_append_left _ (List.mem_of_getElem? h)))) hg
theorem mg4 {w : Cond} {i : Nat} (h : tables_1_4[i]? = some w) (hg : goodWord w = true) : w ∈ lw_g := mg0 (List.mem_append_right _ (List.mem_append_right _ (List.mem_append_right _ (List.mem_of_getElem? h)))) hg
theorem mgs {q : MethodName × Nat} (h : q ∈ lw_privs) (hg : goodWord (Cond.selects q.1.cls q.1 q.1) = true) : Cond.selects q.1.cls q.1 q.1 ∈ lw_g := List.mem_filter.mpr ⟨List.mem_append_left _ (List.mem_map.mpr ⟨q, h, rfl⟩), hg⟩
set_option maxRecDepth 100000 in
theorem uwX0 : ∀ w ∈ u_ws RX0 TX0 5, w ∈ lw_g := List.forall_mem_cons.mpr ⟨mg1 (i := 40) (by decide +kernel) (by decide +kernel), List.forall_mem_cons.mpr ⟨mg1 (i := 42) (by decide +kernel) (by decide +kernel), List.forall_mem_cons.mpr ⟨mg1 (i := 44) (by decide +kernel) (by decide +kernel), List.forall_mem_cons.mpr ⟨mg1 (i := 46) (by decide +kernel) (by decide +kernel), List.forall_mem_cons.mpr ⟨mg1 (i := 48) (by decide +kernel) (by decide +kernel), fun _ h => absurd h List.not_mem_nil⟩⟩⟩⟩⟩
set_option maxRecDepth 100000 in
theorem uwX4 : ∀ w ∈ u_ws RX4 TX4 3, w ∈ lw_g := List.forall_mem_cons.mpr ⟨mg1 (i := 65) (by decide +kernel) (by decide +kernel), List.forall_mem_cons.mpr ⟨mg1 (i := 67) (by decide +kernel) (by decide +kernel), List.forall_mem_cons.mpr ⟨mg1 (i := 69) (by decide +kernel) (by decide +kernel), fun _ h => absurd h List.not_mem_nil⟩⟩⟩
set_option maxRecDepth 100000 in
theorem uwX5 : ∀ w ∈ u_ws RX5 TX5 3, w ∈ lw_g := List.forall_mem_cons.mpr ⟨mg1 (i := 83) (by decide +kernel) (by decide +kernel), List.forall_mem_cons.mpr ⟨mg1 (i := 85) (by decide +kernel) (by decide +kernel), List.forall_mem_cons.mpr ⟨mg1 (i := 87) (by decide +kernel) (by decide +kernel), fun _ h => absurd h List.not_mem_nil⟩⟩⟩
set_option maxRecDepth 100000 in
theorem uwX7 : ∀ w ∈ u_ws RX7 TX7 14, w ∈ lw_g := List.forall_mem_cons.mpr ⟨mg1 (i := 104) (by decide +kernel) (by decide +kernel), List.forall_mem_cons.mpr ⟨mg1 (i := 106) (by decide +kernel) (by decide +kernel), List.forall_mem_cons.mpr ⟨mg1 (i := 108) (by decide +kernel) (by decide +kernel), List.forall_mem_cons.mpr ⟨mg1 (i := 110) (by decide +kernel) (by decide +kernel), List.forall_mem_cons.mpr ⟨mg1 (i := 112) (by decide +kernel) (by decide +kernel), List.forall_mem_cons.mpr ⟨mg1 (i := 114) (by decide +kernel) (by decide +kernel), List.forall_mem_cons.mpr ⟨mg1 (i := 116) (by decide +kernel) (by decide +kernel), List.forall_mem_cons.mpr ⟨mg1 (i := 118) (by decide +kernel) (by decide +kernel), List.forall_mem_cons.mpr ⟨mg1 (i := 120) (by decide +kernel) (by decide +kernel), List.forall_mem_cons.mpr ⟨mg1 (i := 122) (by decide +kernel) (by decide +kernel), List.forall_mem_cons.mpr ⟨mg1 (i := 124) (by decide +kernel) (by decide +kernel), List.forall_mem_cons.mpr ⟨mg1 (i := 126) (by decide +kernel) (by decide +kernel), List.forall_mem_cons.mpr ⟨mg1 (i := 128) (by decide +kernel) (by decide +kernel), List.forall_mem_cons.mpr ⟨mg1 (i := 130) (by decide +kernel) (by decide +kernel), fun _ h => absurd h List.not_mem_nil⟩⟩⟩⟩⟩⟩⟩⟩⟩⟩⟩⟩⟩⟩
set_option maxRecDepth 100000 in
theorem uwX8 : ∀ w ∈ u_ws RX8 TX8 24, w ∈ lw_g := List.forall_mem_cons.mpr ⟨mg3 (i := 59) (by decide +kernel) (by decide +kernel), List.forall_mem_cons.mpr ⟨mg3 (i := 61) (by decide +kernel) (by decide +kernel), List.forall_mem_cons.mpr ⟨mg3 (i := 63) (by decide +kernel) (by decide +kernel), List.forall_mem_cons.mpr ⟨mg3 (i := 65) (by decide +kernel) (by decide +kernel), List.forall_mem_cons.mpr ⟨mg3 (i := 67) (by decide +kernel) (by decide +kernel), List.forall_mem_cons.mpr ⟨mg3 (i := 69) (by decide +kernel) (by decide +kernel), List.forall_mem_cons.mpr ⟨mg3 (i := 71) (by decide +kernel) (by decide +kernel), List.forall_mem_cons.mpr ⟨mg3 (i := 73) (by decide +kernel) (by decide +kernel), List.forall_mem_cons.mpr ⟨mg3 (i := 75) (by decide +kernel) (by decide +kernel), List.forall_mem_cons.mpr ⟨mg3 (i := 77) (by decide +kernel) (by decide +kernel), List.forall_mem_cons.mpr ⟨mg3 (i := 79) (by decide +kernel) (by decide +kernel), List.forall_mem_cons.mpr ⟨mg3 (i := 81) (by decide +kernel) (by decide +kernel), List.forall_mem_cons.mpr ⟨mg3 (i := 83) (by decide +kernel) (by decide +kernel), List.forall_mem_cons.mpr ⟨mg3 (i := 85) (by decide +kernel) (by decide +kernel), List.forall_mem_cons.mpr ⟨mg3 (i := 87) (by decide +kernel) (by decide +kernel), List.forall_mem_cons.mpr ⟨mg3 (i := 89) (by decide +kernel) (by decide +kernel), List.forall_mem_cons.mpr ⟨mg3 (i := 91) (by decide +kernel) (by decide +kernel), List.forall_mem_cons.mpr ⟨mg3 (i := 93) (by decide +kernel) (by decide +kernel), List.forall_mem_cons.mpr ⟨mg3 (i := 95) (by decide +kernel) (by decide +kernel), List.forall_mem_cons.mpr ⟨mg3 (i := 97) (by decide +kernel) (by decide +kernel), List.forall_mem_cons.mpr ⟨mg3 (i := 99) (by decide +kernel) (by decide +kernel), List.forall_mem_cons.mpr ⟨mg3 (i := 101) (by decide +kernel) (by decide +kernel), List.forall_mem_cons.mpr ⟨mg3 (i := 103) (by decide +kernel) (by decide +kernel), List.forall_mem_cons.mpr ⟨mg3 (i := 105) (by decide +kernel) (by decide +kernel), fun _ h => absurd h List.not_mem_nil⟩⟩⟩⟩⟩⟩⟩⟩⟩⟩⟩⟩⟩⟩⟩⟩⟩⟩⟩⟩⟩⟩⟩⟩
set_option maxRecDepth 100000 in
theorem kJ6_264 : Cond.constant RJ6 264 (65536) ∈ lw_g := mg2 (i := 202) (by decide +kernel) (by decide +kernel)
set_option maxRecDepth 100000 in
theorem mcX7_begin : Cond.code yX7_begin cX7_begin 2 (some .int) ∈ lw_g := mg1 (i := 136) (by decide +kernel) (by decide +kernel)
set_option maxRecDepth 100000 in
theorem miX7_begin : Cond.instanceMethod yX7_begin ∈ lw_g := mg1 (i := 134) (by decide +kernel) (by decide +kernel)
set_option maxRecDepth 100000 in
theorem meX7_begin : Cond.selects (yX7_begin).cls yX7_begin yX7_begin ∈ lw_g := mg1 (i := 135) (by decide +kernel) (by decide +kernel)
set_option maxRecDepth 100000 in
theorem mnX7 : Cond.initialized RX7 ∈ lw_g := mg1 (i := 1) (by decide +kernel) (by decide +kernel)
set_option maxRecDepth 100000 in
theorem qL_13 : PCV RL 13 yX7_begin cX7_begin 2 (some .int) 1 3 := ⟨⟨mcX7_begin, mg1 (i := 133) (by decide +kernel) (by decide +kernel), mnX7, by decide +kernel, by decide⟩, miX7_begin, meX7_begin, ⟨_, rfl, rfl⟩⟩
set_option maxRecDepth 100000 in
theorem mcX8_begin : Cond.code yX8_begin cX8_begin 2 (some .int) ∈ lw_g := mg3 (i := 111) (by decide +kernel) (by decide +kernel)
set_option maxRecDepth 100000 in
theorem miX8_begin : Cond.instanceMethod yX8_begin ∈ lw_g := mg3 (i := 109) (by decide +kernel) (by decide +kernel)
set_option maxRecDepth 100000 in
theorem meX8_begin : Cond.selects (yX8_begin).cls yX8_begin yX8_begin ∈ lw_g := mg3 (i := 110) (by decide +kernel) (by decide +kernel)
set_option maxRecDepth 100000 in
theorem mnX8 : Cond.initialized RX8 ∈ lw_g := mg1 (i := 5) (by decide +kernel) (by decide +kernel)
set_option maxRecDepth 100000 in
theorem qL_17 : PCV RL 17 yX8_begin cX8_begin 2 (some .int) 1 4 := ⟨⟨mcX8_begin, mg3 (i := 108) (by decide +kernel) (by decide +kernel), mnX8, by decide +kernel, by decide⟩, miX8_begin, meX8_begin, ⟨_, rfl, rfl⟩⟩
set_option maxRecDepth 100000 in
theorem mcX7_pack : Cond.code yX7_pack cX7_pack 1 (some .int) ∈ lw_g := mg1 (i := 140) (by decide +kernel) (by decide +kernel)
set_option maxRecDepth 100000 in
theorem miX7_pack : Cond.instanceMethod yX7_pack ∈ lw_g := mg1 (i := 138) (by decide +kernel) (by decide +kernel)
set_option maxRecDepth 100000 in
theorem meX7_pack : Cond.selects (yX7_pack).cls yX7_pack yX7_pack ∈ lw_g := mg1 (i := 139) (by decide +kernel) (by decide +kernel)
set_option maxRecDepth 100000 in
theorem qL_18 : PCV RL 18 yX7_pack cX7_pack 1 (some .int) 0 3 := ⟨⟨mcX7_pack, mg1 (i := 137) (by decide +kernel) (by decide +kernel), mnX7, by decide +kernel, by decide⟩, miX7_pack, meX7_pack, ⟨_, rfl, rfl⟩⟩
set_option maxRecDepth 100000 in
theorem mcX8_pack : Cond.code yX8_pack cX8_pack 2 (some .int) ∈ lw_g := mg3 (i := 115) (by decide +kernel) (by decide +kernel)
set_option maxRecDepth 100000 in
theorem miX8_pack : Cond.instanceMethod yX8_pack ∈ lw_g := mg3 (i := 113) (by decide +kernel) (by decide +kernel)
set_option maxRecDepth 100000 in
theorem meX8_pack : Cond.selects (yX8_pack).cls yX8_pack yX8_pack ∈ lw_g := mg3 (i := 114) (by decide +kernel) (by decide +kernel)
set_option maxRecDepth 100000 in
theorem qL_22 : PCV RL 22 yX8_pack cX8_pack 2 (some .int) 0 4 := ⟨⟨mcX8_pack, mg3 (i := 112) (by decide +kernel) (by decide +kernel), mnX8, by decide +kernel, by decide⟩, miX8_pack, meX8_pack, ⟨_, rfl, rfl⟩⟩
set_option maxRecDepth 100000 in
theorem mcX7_ranked : Cond.code yX7_ranked cX7_ranked 2 (some .int) ∈ lw_g := mg1 (i := 144) (by decide +kernel) (by decide +kernel)
set_option maxRecDepth 100000 in
theorem miX7_ranked : Cond.instanceMethod yX7_ranked ∈ lw_g := mg1 (i := 142) (by decide +kernel) (by decide +kernel)
set_option maxRecDepth 100000 in
theorem meX7_ranked : Cond.selects (yX7_ranked).cls yX7_ranked yX7_ranked ∈ lw_g := mg1 (i := 143) (by decide +kernel) (by decide +kernel)
set_option maxRecDepth 100000 in
theorem qL_23 : PCV RL 23 yX7_ranked cX7_ranked 2 (some .int) 1 3 := ⟨⟨mcX7_ranked, mg1 (i := 154) (by decide +kernel) (by decide +kernel), mnX7, by decide +kernel, by decide⟩, miX7_ranked, meX7_ranked, ⟨_, rfl, rfl⟩⟩
set_option maxRecDepth 100000 in
theorem mcX8_ranked : Cond.code yX8_ranked cX8_ranked 2 (some .int) ∈ lw_g := mg3 (i := 123) (by decide +kernel) (by decide +kernel)
set_option maxRecDepth 100000 in
theorem miX8_ranked : Cond.instanceMethod yX8_ranked ∈ lw_g := mg3 (i := 121) (by decide +kernel) (by decide +kernel)
set_option maxRecDepth 100000 in
theorem meX8_ranked : Cond.selects (yX8_ranked).cls yX8_ranked yX8_ranked ∈ lw_g := mg3 (i := 122) (by decide +kernel) (by decide +kernel)
set_option maxRecDepth 100000 in
theorem qL_26 : PCV RL 26 yX8_ranked cX8_ranked 2 (some .int) 1 4 := ⟨⟨mcX8_ranked, mg3 (i := 120) (by decide +kernel) (by decide +kernel), mnX8, by decide +kernel, by decide⟩, miX8_ranked, meX8_ranked, ⟨_, rfl, rfl⟩⟩
set_option maxRecDepth 100000 in
theorem mcX7_told : Cond.code yX7_told cX7_told 5 (some .int) ∈ lw_g := mg1 (i := 158) (by decide +kernel) (by decide +kernel)
set_option maxRecDepth 100000 in
theorem miX7_told : Cond.instanceMethod yX7_told ∈ lw_g := mg1 (i := 156) (by decide +kernel) (by decide +kernel)
set_option maxRecDepth 100000 in
theorem meX7_told : Cond.selects (yX7_told).cls yX7_told yX7_told ∈ lw_g := mg1 (i := 157) (by decide +kernel) (by decide +kernel)
set_option maxRecDepth 100000 in
theorem qL_27 : PCV RL 27 yX7_told cX7_told 5 (some .int) 3 3 := ⟨⟨mcX7_told, mg1 (i := 155) (by decide +kernel) (by decide +kernel), mnX7, by decide +kernel, by decide⟩, miX7_told, meX7_told, ⟨_, rfl, rfl⟩⟩
set_option maxRecDepth 100000 in
theorem mcX8_told : Cond.code yX8_told cX8_told 7 (some .int) ∈ lw_g := mg3 (i := 134) (by decide +kernel) (by decide +kernel)
set_option maxRecDepth 100000 in
theorem miX8_told : Cond.instanceMethod yX8_told ∈ lw_g := mg3 (i := 132) (by decide +kernel) (by decide +kernel)
set_option maxRecDepth 100000 in
theorem meX8_told : Cond.selects (yX8_told).cls yX8_told yX8_told ∈ lw_g := mg3 (i := 133) (by decide +kernel) (by decide +kernel)
set_option maxRecDepth 100000 in
theorem qL_31 : PCV RL 31 yX8_told cX8_told 7 (some .int) 3 4 := ⟨⟨mcX8_told, mg3 (i := 131) (by decide +kernel) (by decide +kernel), mnX8, by decide +kernel, by decide⟩, miX8_told, meX8_told, ⟨_, rfl, rfl⟩⟩
set_option maxRecDepth 100000 in
theorem mcX7_card : Cond.code yX7_card cX7_card 3 (some .int) ∈ lw_g := mg1 (i := 182) (by decide +kernel) (by decide +kernel)
set_option maxRecDepth 100000 in
theorem miX7_card : Cond.instanceMethod yX7_card ∈ lw_g := mg1 (i := 180) (by decide +kernel) (by decide +kernel)
set_option maxRecDepth 100000 in
theorem meX7_card : Cond.selects (yX7_card).cls yX7_card yX7_card ∈ lw_g := mg1 (i := 181) (by decide +kernel) (by decide +kernel)
set_option maxRecDepth 100000 in
theorem qL_32 : PCV RL 32 yX7_card cX7_card 3 (some .int) 2 3 := ⟨⟨mcX7_card, mg1 (i := 179) (by decide +kernel) (by decide +kernel), mnX7, by decide +kernel, by decide⟩, miX7_card, meX7_card, ⟨_, rfl, rfl⟩⟩
set_option maxRecDepth 100000 in
theorem mcX8_card : Cond.code yX8_card cX8_card 3 (some .int) ∈ lw_g := mg3 (i := 145) (by decide +kernel) (by decide +kernel)
set_option maxRecDepth 100000 in
theorem miX8_card : Cond.instanceMethod yX8_card ∈ lw_g := mg3 (i := 143) (by decide +kernel) (by decide +kernel)
set_option maxRecDepth 100000 in
theorem meX8_card : Cond.selects (yX8_card).cls yX8_card yX8_card ∈ lw_g := mg3 (i := 144) (by decide +kernel) (by decide +kernel)
set_option maxRecDepth 100000 in
theorem qL_36 : PCV RL 36 yX8_card cX8_card 3 (some .int) 2 4 := ⟨⟨mcX8_card, mg3 (i := 142) (by decide +kernel) (by decide +kernel), mnX8, by decide +kernel, by decide⟩, miX8_card, meX8_card, ⟨_, rfl, rfl⟩⟩
set_option maxRecDepth 100000 in
theorem mcX7_packTold : Cond.code yX7_packTold cX7_packTold 3 (some .int) ∈ lw_g := mg1 (i := 194) (by decide +kernel) (by decide +kernel)
set_option maxRecDepth 100000 in
theorem miX7_packTold : Cond.instanceMethod yX7_packTold ∈ lw_g := mg1 (i := 192) (by decide +kernel) (by decide +kernel)
set_option maxRecDepth 100000 in
theorem meX7_packTold : Cond.selects (yX7_packTold).cls yX7_packTold yX7_packTold ∈ lw_g := mg1 (i := 193) (by decide +kernel) (by decide +kernel)
set_option maxRecDepth 100000 in
theorem qL_37 : PCV RL 37 yX7_packTold cX7_packTold 3 (some .int) 2 3 := ⟨⟨mcX7_packTold, mg1 (i := 191) (by decide +kernel) (by decide +kernel), mnX7, by decide +kernel, by decide⟩, miX7_packTold, meX7_packTold, ⟨_, rfl, rfl⟩⟩
set_option maxRecDepth 100000 in
theorem mcX8_packTold : Cond.code yX8_packTold cX8_packTold 3 (some .int) ∈ lw_g := mg3 (i := 153) (by decide +kernel) (by decide +kernel)
set_option maxRecDepth 100000 in
theorem miX8_packTold : Cond.instanceMethod yX8_packTold ∈ lw_g := mg3 (i := 151) (by decide +kernel) (by decide +kernel)
set_option maxRecDepth 100000 in
theorem meX8_packTold : Cond.selects (yX8_packTold).cls yX8_packTold yX8_packTold ∈ lw_g := mg3 (i := 152) (by decide +kernel) (by decide +kernel)
set_option maxRecDepth 100000 in
theorem qL_40 : PCV RL 40 yX8_packTold cX8_packTold 3 (some .int) 2 4 := ⟨⟨mcX8_packTold, mg3 (i := 150) (by decide +kernel) (by decide +kernel), mnX8, by decide +kernel, by decide⟩, miX8_packTold, meX8_packTold, ⟨_, rfl, rfl⟩⟩
set_option maxRecDepth 100000 in
theorem mcX7_move : Cond.code yX7_move cX7_move 2 (some .int) ∈ lw_g := mg1 (i := 207) (by decide +kernel) (by decide +kernel)
set_option maxRecDepth 100000 in
theorem miX7_move : Cond.instanceMethod yX7_move ∈ lw_g := mg1 (i := 205) (by decide +kernel) (by decide +kernel)
set_option maxRecDepth 100000 in
theorem meX7_move : Cond.selects (yX7_move).cls yX7_move yX7_move ∈ lw_g := mg1 (i := 206) (by decide +kernel) (by decide +kernel)
set_option maxRecDepth 100000 in
theorem qL_41 : PCV RL 41 yX7_move cX7_move 2 (some .int) 1 3 := ⟨⟨mcX7_move, mg1 (i := 204) (by decide +kernel) (by decide +kernel), mnX7, by decide +kernel, by decide⟩, miX7_move, meX7_move, ⟨_, rfl, rfl⟩⟩
set_option maxRecDepth 100000 in
theorem mcX8_move : Cond.code yX8_move cX8_move 2 (some .int) ∈ lw_g := mg3 (i := 173) (by decide +kernel) (by decide +kernel)
set_option maxRecDepth 100000 in
theorem miX8_move : Cond.instanceMethod yX8_move ∈ lw_g := mg3 (i := 171) (by decide +kernel) (by decide +kernel)
set_option maxRecDepth 100000 in
theorem meX8_move : Cond.selects (yX8_move).cls yX8_move yX8_move ∈ lw_g := mg3 (i := 172) (by decide +kernel) (by decide +kernel)
set_option maxRecDepth 100000 in
theorem qL_44 : PCV RL 44 yX8_move cX8_move 2 (some .int) 1 4 := ⟨⟨mcX8_move, mg3 (i := 170) (by decide +kernel) (by decide +kernel), mnX8, by decide +kernel, by decide⟩, miX8_move, meX8_move, ⟨_, rfl, rfl⟩⟩
set_option maxRecDepth 100000 in
theorem mcX7_perfect : Cond.code yX7_perfect cX7_perfect 4 (some .int) ∈ lw_g := mg1 (i := 215) (by decide +kernel) (by decide +kernel)
set_option maxRecDepth 100000 in
theorem miX7_perfect : Cond.instanceMethod yX7_perfect ∈ lw_g := mg1 (i := 213) (by decide +kernel) (by decide +kernel)
set_option maxRecDepth 100000 in
theorem meX7_perfect : Cond.selects (yX7_perfect).cls yX7_perfect yX7_perfect ∈ lw_g := mg1 (i := 214) (by decide +kernel) (by decide +kernel)
set_option maxRecDepth 100000 in
theorem qL_45 : PCV RL 45 yX7_perfect cX7_perfect 4 (some .int) 1 3 := ⟨⟨mcX7_perfect, mg1 (i := 212) (by decide +kernel) (by decide +kernel), mnX7, by decide +kernel, by decide⟩, miX7_perfect, meX7_perfect, ⟨_, rfl, rfl⟩⟩
set_option maxRecDepth 100000 in
theorem mcX8_perfect : Cond.code yX8_perfect cX8_perfect 3 (some .int) ∈ lw_g := mg3 (i := 181) (by decide +kernel) (by decide +kernel)
set_option maxRecDepth 100000 in
theorem miX8_perfect : Cond.instanceMethod yX8_perfect ∈ lw_g := mg3 (i := 179) (by decide +kernel) (by decide +kernel)
set_option maxRecDepth 100000 in
theorem meX8_perfect : Cond.selects (yX8_perfect).cls yX8_perfect yX8_perfect ∈ lw_g := mg3 (i := 180) (by decide +kernel) (by decide +kernel)
set_option maxRecDepth 100000 in
theorem qL_48 : PCV RL 48 yX8_perfect cX8_perfect 3 (some .int) 1 4 := ⟨⟨mcX8_perfect, mg3 (i := 178) (by decide +kernel) (by decide +kernel), mnX8, by decide +kernel, by decide⟩, miX8_perfect, meX8_perfect, ⟨_, rfl, rfl⟩⟩
set_option maxRecDepth 100000 in
theorem mcX7_deal : Cond.code yX7_deal cX7_deal 2 (some .int) ∈ lw_g := mg1 (i := 226) (by decide +kernel) (by decide +kernel)
set_option maxRecDepth 100000 in
theorem miX7_deal : Cond.instanceMethod yX7_deal ∈ lw_g := mg1 (i := 224) (by decide +kernel) (by decide +kernel)
set_option maxRecDepth 100000 in
theorem meX7_deal : Cond.selects (yX7_deal).cls yX7_deal yX7_deal ∈ lw_g := mg1 (i := 225) (by decide +kernel) (by decide +kernel)
set_option maxRecDepth 100000 in
theorem qL_49 : PCV RL 49 yX7_deal cX7_deal 2 (some .int) 1 3 := ⟨⟨mcX7_deal, mg1 (i := 223) (by decide +kernel) (by decide +kernel), mnX7, by decide +kernel, by decide⟩, miX7_deal, meX7_deal, ⟨_, rfl, rfl⟩⟩
set_option maxRecDepth 100000 in
theorem mcX8_deal : Cond.code yX8_deal cX8_deal 5 (some .int) ∈ lw_g := mg3 (i := 189) (by decide +kernel) (by decide +kernel)
set_option maxRecDepth 100000 in
theorem miX8_deal : Cond.instanceMethod yX8_deal ∈ lw_g := mg3 (i := 187) (by decide +kernel) (by decide +kernel)
set_option maxRecDepth 100000 in
theorem meX8_deal : Cond.selects (yX8_deal).cls yX8_deal yX8_deal ∈ lw_g := mg3 (i := 188) (by decide +kernel) (by decide +kernel)
set_option maxRecDepth 100000 in
theorem qL_52 : PCV RL 52 yX8_deal cX8_deal 5 (some .int) 1 4 := ⟨⟨mcX8_deal, mg3 (i := 186) (by decide +kernel) (by decide +kernel), mnX8, by decide +kernel, by decide⟩, miX8_deal, meX8_deal, ⟨_, rfl, rfl⟩⟩
set_option maxRecDepth 100000 in
theorem mcX7_riffle : Cond.code yX7_riffle cX7_riffle 2 (some .int) ∈ lw_g := mg1 (i := 233) (by decide +kernel) (by decide +kernel)
set_option maxRecDepth 100000 in
theorem miX7_riffle : Cond.instanceMethod yX7_riffle ∈ lw_g := mg1 (i := 231) (by decide +kernel) (by decide +kernel)
set_option maxRecDepth 100000 in
theorem meX7_riffle : Cond.selects (yX7_riffle).cls yX7_riffle yX7_riffle ∈ lw_g := mg1 (i := 232) (by decide +kernel) (by decide +kernel)
set_option maxRecDepth 100000 in
theorem qL_53 : PCV RL 53 yX7_riffle cX7_riffle 2 (some .int) 1 3 := ⟨⟨mcX7_riffle, mg1 (i := 230) (by decide +kernel) (by decide +kernel), mnX7, by decide +kernel, by decide⟩, miX7_riffle, meX7_riffle, ⟨_, rfl, rfl⟩⟩
set_option maxRecDepth 100000 in
theorem mcX8_riffle : Cond.code yX8_riffle cX8_riffle 2 (some .int) ∈ lw_g := mg3 (i := 193) (by decide +kernel) (by decide +kernel)
set_option maxRecDepth 100000 in
theorem miX8_riffle : Cond.instanceMethod yX8_riffle ∈ lw_g := mg3 (i := 191) (by decide +kernel) (by decide +kernel)
set_option maxRecDepth 100000 in
theorem meX8_riffle : Cond.selects (yX8_riffle).cls yX8_riffle yX8_riffle ∈ lw_g := mg3 (i := 192) (by decide +kernel) (by decide +kernel)
set_option maxRecDepth 100000 in
theorem qL_56 : PCV RL 56 yX8_riffle cX8_riffle 2 (some .int) 1 4 := ⟨⟨mcX8_riffle, mg3 (i := 190) (by decide +kernel) (by decide +kernel), mnX8, by decide +kernel, by decide⟩, miX8_riffle, meX8_riffle, ⟨_, rfl, rfl⟩⟩
set_option maxRecDepth 100000 in
theorem mcX7_top : Cond.code yX7_top cX7_top 1 (some .int) ∈ lw_g := mg1 (i := 237) (by decide +kernel) (by decide +kernel)
set_option maxRecDepth 100000 in
theorem miX7_top : Cond.instanceMethod yX7_top ∈ lw_g := mg1 (i := 235) (by decide +kernel) (by decide +kernel)
set_option maxRecDepth 100000 in
theorem meX7_top : Cond.selects (yX7_top).cls yX7_top yX7_top ∈ lw_g := mg1 (i := 236) (by decide +kernel) (by decide +kernel)
set_option maxRecDepth 100000 in
theorem qL_57 : PCV RL 57 yX7_top cX7_top 1 (some .int) 0 3 := ⟨⟨mcX7_top, mg1 (i := 234) (by decide +kernel) (by decide +kernel), mnX7, by decide +kernel, by decide⟩, miX7_top, meX7_top, ⟨_, rfl, rfl⟩⟩
set_option maxRecDepth 100000 in
theorem mcX8_top : Cond.code yX8_top cX8_top 1 (some .int) ∈ lw_g := mg3 (i := 197) (by decide +kernel) (by decide +kernel)
set_option maxRecDepth 100000 in
theorem miX8_top : Cond.instanceMethod yX8_top ∈ lw_g := mg3 (i := 195) (by decide +kernel) (by decide +kernel)
set_option maxRecDepth 100000 in
theorem meX8_top : Cond.selects (yX8_top).cls yX8_top yX8_top ∈ lw_g := mg3 (i := 196) (by decide +kernel) (by decide +kernel)
set_option maxRecDepth 100000 in
theorem qL_60 : PCV RL 60 yX8_top cX8_top 1 (some .int) 0 4 := ⟨⟨mcX8_top, mg3 (i := 194) (by decide +kernel) (by decide +kernel), mnX8, by decide +kernel, by decide⟩, miX8_top, meX8_top, ⟨_, rfl, rfl⟩⟩
set_option maxRecDepth 100000 in
theorem mcX7_behind : Cond.code yX7_behind cX7_behind 3 (some .int) ∈ lw_g := mg2 (i := 1) (by decide +kernel) (by decide +kernel)
set_option maxRecDepth 100000 in
theorem miX7_behind : Cond.instanceMethod yX7_behind ∈ lw_g := mg1 (i := 239) (by decide +kernel) (by decide +kernel)
set_option maxRecDepth 100000 in
theorem meX7_behind : Cond.selects (yX7_behind).cls yX7_behind yX7_behind ∈ lw_g := mg2 (i := 0) (by decide +kernel) (by decide +kernel)
set_option maxRecDepth 100000 in
theorem qL_61 : PCV RL 61 yX7_behind cX7_behind 3 (some .int) 2 3 := ⟨⟨mcX7_behind, mg1 (i := 238) (by decide +kernel) (by decide +kernel), mnX7, by decide +kernel, by decide⟩, miX7_behind, meX7_behind, ⟨_, rfl, rfl⟩⟩
set_option maxRecDepth 100000 in
theorem mcX8_behind : Cond.code yX8_behind cX8_behind 4 (some .int) ∈ lw_g := mg3 (i := 201) (by decide +kernel) (by decide +kernel)
set_option maxRecDepth 100000 in
theorem miX8_behind : Cond.instanceMethod yX8_behind ∈ lw_g := mg3 (i := 199) (by decide +kernel) (by decide +kernel)
set_option maxRecDepth 100000 in
theorem meX8_behind : Cond.selects (yX8_behind).cls yX8_behind yX8_behind ∈ lw_g := mg3 (i := 200) (by decide +kernel) (by decide +kernel)
set_option maxRecDepth 100000 in
theorem qL_64 : PCV RL 64 yX8_behind cX8_behind 4 (some .int) 2 4 := ⟨⟨mcX8_behind, mg3 (i := 198) (by decide +kernel) (by decide +kernel), mnX8, by decide +kernel, by decide⟩, miX8_behind, meX8_behind, ⟨_, rfl, rfl⟩⟩
set_option maxRecDepth 100000 in
theorem mcX7_back : Cond.code yX7_back cX7_back 2 (some .int) ∈ lw_g := mg2 (i := 16) (by decide +kernel) (by decide +kernel)
set_option maxRecDepth 100000 in
theorem miX7_back : Cond.instanceMethod yX7_back ∈ lw_g := mg2 (i := 14) (by decide +kernel) (by decide +kernel)
set_option maxRecDepth 100000 in
theorem meX7_back : Cond.selects (yX7_back).cls yX7_back yX7_back ∈ lw_g := mg2 (i := 15) (by decide +kernel) (by decide +kernel)
set_option maxRecDepth 100000 in
theorem qL_65 : PCV RL 65 yX7_back cX7_back 2 (some .int) 1 3 := ⟨⟨mcX7_back, mg2 (i := 13) (by decide +kernel) (by decide +kernel), mnX7, by decide +kernel, by decide⟩, miX7_back, meX7_back, ⟨_, rfl, rfl⟩⟩
set_option maxRecDepth 100000 in
theorem mcX8_back : Cond.code yX8_back cX8_back 3 (some .int) ∈ lw_g := mg3 (i := 213) (by decide +kernel) (by decide +kernel)
set_option maxRecDepth 100000 in
theorem miX8_back : Cond.instanceMethod yX8_back ∈ lw_g := mg3 (i := 211) (by decide +kernel) (by decide +kernel)
set_option maxRecDepth 100000 in
theorem meX8_back : Cond.selects (yX8_back).cls yX8_back yX8_back ∈ lw_g := mg3 (i := 212) (by decide +kernel) (by decide +kernel)
set_option maxRecDepth 100000 in
theorem qL_68 : PCV RL 68 yX8_back cX8_back 3 (some .int) 1 4 := ⟨⟨mcX8_back, mg3 (i := 210) (by decide +kernel) (by decide +kernel), mnX8, by decide +kernel, by decide⟩, miX8_back, meX8_back, ⟨_, rfl, rfl⟩⟩
set_option maxRecDepth 100000 in
theorem mcX7_moves : Cond.code yX7_moves cX7_moves 3 (some .int) ∈ lw_g := mg2 (i := 20) (by decide +kernel) (by decide +kernel)
set_option maxRecDepth 100000 in
theorem miX7_moves : Cond.instanceMethod yX7_moves ∈ lw_g := mg2 (i := 18) (by decide +kernel) (by decide +kernel)
set_option maxRecDepth 100000 in
theorem meX7_moves : Cond.selects (yX7_moves).cls yX7_moves yX7_moves ∈ lw_g := mg2 (i := 19) (by decide +kernel) (by decide +kernel)
set_option maxRecDepth 100000 in
theorem qL_69 : PCV RL 69 yX7_moves cX7_moves 3 (some .int) 2 3 := ⟨⟨mcX7_moves, mg2 (i := 17) (by decide +kernel) (by decide +kernel), mnX7, by decide +kernel, by decide⟩, miX7_moves, meX7_moves, ⟨_, rfl, rfl⟩⟩
set_option maxRecDepth 100000 in
theorem mcX8_moves : Cond.code yX8_moves cX8_moves 3 (some .int) ∈ lw_g := mg3 (i := 217) (by decide +kernel) (by decide +kernel)
set_option maxRecDepth 100000 in
theorem miX8_moves : Cond.instanceMethod yX8_moves ∈ lw_g := mg3 (i := 215) (by decide +kernel) (by decide +kernel)
set_option maxRecDepth 100000 in
theorem meX8_moves : Cond.selects (yX8_moves).cls yX8_moves yX8_moves ∈ lw_g := mg3 (i := 216) (by decide +kernel) (by decide +kernel)
set_option maxRecDepth 100000 in
theorem qL_72 : PCV RL 72 yX8_moves cX8_moves 3 (some .int) 2 4 := ⟨⟨mcX8_moves, mg3 (i := 214) (by decide +kernel) (by decide +kernel), mnX8, by decide +kernel, by decide⟩, miX8_moves, meX8_moves, ⟨_, rfl, rfl⟩⟩
set_option maxRecDepth 100000 in
theorem mcX7_shuffleTold : Cond.code yX7_shuffleTold cX7_shuffleTold 4 (some .int) ∈ lw_g := mg2 (i := 24) (by decide +kernel) (by decide +kernel)
set_option maxRecDepth 100000 in
theorem miX7_shuffleTold : Cond.instanceMethod yX7_shuffleTold ∈ lw_g := mg2 (i := 22) (by decide +kernel) (by decide +kernel)
set_option maxRecDepth 100000 in
theorem meX7_shuffleTold : Cond.selects (yX7_shuffleTold).cls yX7_shuffleTold yX7_shuffleTold ∈ lw_g := mg2 (i := 23) (by decide +kernel) (by decide +kernel)
set_option maxRecDepth 100000 in
theorem qL_73 : PCV RL 73 yX7_shuffleTold cX7_shuffleTold 4 (some .int) 2 3 := ⟨⟨mcX7_shuffleTold, mg2 (i := 21) (by decide +kernel) (by decide +kernel), mnX7, by decide +kernel, by decide⟩, miX7_shuffleTold, meX7_shuffleTold, ⟨_, rfl, rfl⟩⟩
set_option maxRecDepth 100000 in
theorem mcX8_shuffleTold : Cond.code yX8_shuffleTold cX8_shuffleTold 3 (some .int) ∈ lw_g := mg3 (i := 221) (by decide +kernel) (by decide +kernel)
set_option maxRecDepth 100000 in
theorem miX8_shuffleTold : Cond.instanceMethod yX8_shuffleTold ∈ lw_g := mg3 (i := 219) (by decide +kernel) (by decide +kernel)
set_option maxRecDepth 100000 in
theorem meX8_shuffleTold : Cond.selects (yX8_shuffleTold).cls yX8_shuffleTold yX8_shuffleTold ∈ lw_g := mg3 (i := 220) (by decide +kernel) (by decide +kernel)
set_option maxRecDepth 100000 in
theorem qL_76 : PCV RL 76 yX8_shuffleTold cX8_shuffleTold 3 (some .int) 2 4 := ⟨⟨mcX8_shuffleTold, mg3 (i := 218) (by decide +kernel) (by decide +kernel), mnX8, by decide +kernel, by decide⟩, miX8_shuffleTold, meX8_shuffleTold, ⟨_, rfl, rfl⟩⟩
set_option maxRecDepth 100000 in
theorem mcX7_power : Cond.code yX7_power cX7_power 5 (some .int) ∈ lw_g := mg2 (i := 43) (by decide +kernel) (by decide +kernel)
set_option maxRecDepth 100000 in
theorem miX7_power : Cond.instanceMethod yX7_power ∈ lw_g := mg2 (i := 41) (by decide +kernel) (by decide +kernel)
set_option maxRecDepth 100000 in
theorem meX7_power : Cond.selects (yX7_power).cls yX7_power yX7_power ∈ lw_g := mg2 (i := 42) (by decide +kernel) (by decide +kernel)
set_option maxRecDepth 100000 in
theorem qL_79 : PCV RL 79 yX7_power cX7_power 5 (some .int) 3 3 := ⟨⟨mcX7_power, mg2 (i := 40) (by decide +kernel) (by decide +kernel), mnX7, by decide +kernel, by decide⟩, miX7_power, meX7_power, ⟨_, rfl, rfl⟩⟩
set_option maxRecDepth 100000 in
theorem mcX8_power_ : Cond.code yX8_power_ cX8_power_ 8 (some .int) ∈ lw_g := mg3 (i := 237) (by decide +kernel) (by decide +kernel)
set_option maxRecDepth 100000 in
theorem miX8_power_ : Cond.instanceMethod yX8_power_ ∈ lw_g := mg3 (i := 235) (by decide +kernel) (by decide +kernel)
set_option maxRecDepth 100000 in
theorem meX8_power_ : Cond.selects (yX8_power_).cls yX8_power_ yX8_power_ ∈ lw_g := mg3 (i := 236) (by decide +kernel) (by decide +kernel)
set_option maxRecDepth 100000 in
theorem qL_83 : PCV RL 83 yX8_power_ cX8_power_ 8 (some .int) 3 4 := ⟨⟨mcX8_power_, mg3 (i := 234) (by decide +kernel) (by decide +kernel), mnX8, by decide +kernel, by decide⟩, miX8_power_, meX8_power_, ⟨_, rfl, rfl⟩⟩
set_option maxRecDepth 100000 in
theorem mcX7_does : Cond.code yX7_does cX7_does 3 (some .int) ∈ lw_g := mg2 (i := 60) (by decide +kernel) (by decide +kernel)
set_option maxRecDepth 100000 in
theorem miX7_does : Cond.instanceMethod yX7_does ∈ lw_g := mg2 (i := 58) (by decide +kernel) (by decide +kernel)
set_option maxRecDepth 100000 in
theorem meX7_does : Cond.selects (yX7_does).cls yX7_does yX7_does ∈ lw_g := mg2 (i := 59) (by decide +kernel) (by decide +kernel)
set_option maxRecDepth 100000 in
theorem qL_84 : PCV RL 84 yX7_does cX7_does 3 (some .int) 2 3 := ⟨⟨mcX7_does, mg2 (i := 57) (by decide +kernel) (by decide +kernel), mnX7, by decide +kernel, by decide⟩, miX7_does, meX7_does, ⟨_, rfl, rfl⟩⟩
set_option maxRecDepth 100000 in
theorem mcX8_does : Cond.code yX8_does cX8_does 4 (some .int) ∈ lw_g := mg4 (i := 1) (by decide +kernel) (by decide +kernel)
set_option maxRecDepth 100000 in
theorem miX8_does : Cond.instanceMethod yX8_does ∈ lw_g := mg3 (i := 239) (by decide +kernel) (by decide +kernel)
set_option maxRecDepth 100000 in
theorem meX8_does : Cond.selects (yX8_does).cls yX8_does yX8_does ∈ lw_g := mg4 (i := 0) (by decide +kernel) (by decide +kernel)
set_option maxRecDepth 100000 in
theorem qL_87 : PCV RL 87 yX8_does cX8_does 4 (some .int) 2 4 := ⟨⟨mcX8_does, mg3 (i := 238) (by decide +kernel) (by decide +kernel), mnX8, by decide +kernel, by decide⟩, miX8_does, meX8_does, ⟨_, rfl, rfl⟩⟩
set_option maxRecDepth 100000 in
theorem mcX7_lots : Cond.code yX7_lots cX7_lots 9 (some .int) ∈ lw_g := mg2 (i := 64) (by decide +kernel) (by decide +kernel)
set_option maxRecDepth 100000 in
theorem miX7_lots : Cond.instanceMethod yX7_lots ∈ lw_g := mg2 (i := 62) (by decide +kernel) (by decide +kernel)
set_option maxRecDepth 100000 in
theorem meX7_lots : Cond.selects (yX7_lots).cls yX7_lots yX7_lots ∈ lw_g := mg2 (i := 63) (by decide +kernel) (by decide +kernel)
set_option maxRecDepth 100000 in
theorem qL_88 : PCV RL 88 yX7_lots cX7_lots 9 (some .int) 3 3 := ⟨⟨mcX7_lots, mg2 (i := 61) (by decide +kernel) (by decide +kernel), mnX7, by decide +kernel, by decide⟩, miX7_lots, meX7_lots, ⟨_, rfl, rfl⟩⟩
set_option maxRecDepth 100000 in
theorem mcX8_lots : Cond.code yX8_lots cX8_lots 5 (some .int) ∈ lw_g := mg4 (i := 9) (by decide +kernel) (by decide +kernel)
set_option maxRecDepth 100000 in
theorem miX8_lots : Cond.instanceMethod yX8_lots ∈ lw_g := mg4 (i := 7) (by decide +kernel) (by decide +kernel)
set_option maxRecDepth 100000 in
theorem meX8_lots : Cond.selects (yX8_lots).cls yX8_lots yX8_lots ∈ lw_g := mg4 (i := 8) (by decide +kernel) (by decide +kernel)
set_option maxRecDepth 100000 in
theorem qL_92 : PCV RL 92 yX8_lots cX8_lots 5 (some .int) 3 4 := ⟨⟨mcX8_lots, mg4 (i := 6) (by decide +kernel) (by decide +kernel), mnX8, by decide +kernel, by decide⟩, miX8_lots, meX8_lots, ⟨_, rfl, rfl⟩⟩
set_option maxRecDepth 100000 in
theorem mcX7_draw : Cond.code yX7_draw cX7_draw 9 (some .long) ∈ lw_g := mg2 (i := 86) (by decide +kernel) (by decide +kernel)
set_option maxRecDepth 100000 in
theorem miX7_draw : Cond.instanceMethod yX7_draw ∈ lw_g := mg2 (i := 84) (by decide +kernel) (by decide +kernel)
set_option maxRecDepth 100000 in
theorem meX7_draw : Cond.selects (yX7_draw).cls yX7_draw yX7_draw ∈ lw_g := mg2 (i := 85) (by decide +kernel) (by decide +kernel)
set_option maxRecDepth 100000 in
theorem qL_93 : PCV RL 93 yX7_draw cX7_draw 9 (some .long) 2 3 := ⟨⟨mcX7_draw, mg2 (i := 83) (by decide +kernel) (by decide +kernel), mnX7, by decide +kernel, by decide⟩, miX7_draw, meX7_draw, ⟨_, rfl, rfl⟩⟩
set_option maxRecDepth 100000 in
theorem mcX8_draw : Cond.code yX8_draw cX8_draw 8 (some .long) ∈ lw_g := mg4 (i := 23) (by decide +kernel) (by decide +kernel)
set_option maxRecDepth 100000 in
theorem miX8_draw : Cond.instanceMethod yX8_draw ∈ lw_g := mg4 (i := 21) (by decide +kernel) (by decide +kernel)
set_option maxRecDepth 100000 in
theorem meX8_draw : Cond.selects (yX8_draw).cls yX8_draw yX8_draw ∈ lw_g := mg4 (i := 22) (by decide +kernel) (by decide +kernel)
set_option maxRecDepth 100000 in
theorem qL_97 : PCV RL 97 yX8_draw cX8_draw 8 (some .long) 2 4 := ⟨⟨mcX8_draw, mg4 (i := 20) (by decide +kernel) (by decide +kernel), mnX8, by decide +kernel, by decide⟩, miX8_draw, meX8_draw, ⟨_, rfl, rfl⟩⟩
set_option maxRecDepth 100000 in
theorem mcX7_seed : Cond.code yX7_seed cX7_seed 3 (some .int) ∈ lw_g := mg2 (i := 97) (by decide +kernel) (by decide +kernel)
set_option maxRecDepth 100000 in
theorem miX7_seed : Cond.instanceMethod yX7_seed ∈ lw_g := mg2 (i := 95) (by decide +kernel) (by decide +kernel)
set_option maxRecDepth 100000 in
theorem meX7_seed : Cond.selects (yX7_seed).cls yX7_seed yX7_seed ∈ lw_g := mg2 (i := 96) (by decide +kernel) (by decide +kernel)
set_option maxRecDepth 100000 in
theorem qL_98 : PCV RL 98 yX7_seed cX7_seed 3 (some .int) 1 3 := ⟨⟨mcX7_seed, mg2 (i := 94) (by decide +kernel) (by decide +kernel), mnX7, by decide +kernel, by decide⟩, miX7_seed, meX7_seed, ⟨_, rfl, rfl⟩⟩
set_option maxRecDepth 100000 in
theorem mcX8_seed : Cond.code yX8_seed cX8_seed 3 (some .int) ∈ lw_g := mg4 (i := 33) (by decide +kernel) (by decide +kernel)
set_option maxRecDepth 100000 in
theorem miX8_seed : Cond.instanceMethod yX8_seed ∈ lw_g := mg4 (i := 31) (by decide +kernel) (by decide +kernel)
set_option maxRecDepth 100000 in
theorem meX8_seed : Cond.selects (yX8_seed).cls yX8_seed yX8_seed ∈ lw_g := mg4 (i := 32) (by decide +kernel) (by decide +kernel)
set_option maxRecDepth 100000 in
theorem qL_101 : PCV RL 101 yX8_seed cX8_seed 3 (some .int) 1 4 := ⟨⟨mcX8_seed, mg4 (i := 30) (by decide +kernel) (by decide +kernel), mnX8, by decide +kernel, by decide⟩, miX8_seed, meX8_seed, ⟨_, rfl, rfl⟩⟩
set_option maxRecDepth 100000 in
theorem mcX7_chance : Cond.code yX7_chance cX7_chance 6 (some .long) ∈ lw_g := mg2 (i := 101) (by decide +kernel) (by decide +kernel)
set_option maxRecDepth 100000 in
theorem miX7_chance : Cond.instanceMethod yX7_chance ∈ lw_g := mg2 (i := 99) (by decide +kernel) (by decide +kernel)
set_option maxRecDepth 100000 in
theorem meX7_chance : Cond.selects (yX7_chance).cls yX7_chance yX7_chance ∈ lw_g := mg2 (i := 100) (by decide +kernel) (by decide +kernel)
set_option maxRecDepth 100000 in
theorem qL_102 : PCV RL 102 yX7_chance cX7_chance 6 (some .long) 4 3 := ⟨⟨mcX7_chance, mg2 (i := 98) (by decide +kernel) (by decide +kernel), mnX7, by decide +kernel, by decide⟩, miX7_chance, meX7_chance, ⟨_, rfl, rfl⟩⟩
set_option maxRecDepth 100000 in
theorem mcX8_chance : Cond.code yX8_chance cX8_chance 6 (some .long) ∈ lw_g := mg4 (i := 37) (by decide +kernel) (by decide +kernel)
set_option maxRecDepth 100000 in
theorem miX8_chance : Cond.instanceMethod yX8_chance ∈ lw_g := mg4 (i := 35) (by decide +kernel) (by decide +kernel)
set_option maxRecDepth 100000 in
theorem meX8_chance : Cond.selects (yX8_chance).cls yX8_chance yX8_chance ∈ lw_g := mg4 (i := 36) (by decide +kernel) (by decide +kernel)
set_option maxRecDepth 100000 in
theorem qL_106 : PCV RL 106 yX8_chance cX8_chance 6 (some .long) 4 4 := ⟨⟨mcX8_chance, mg4 (i := 34) (by decide +kernel) (by decide +kernel), mnX8, by decide +kernel, by decide⟩, miX8_chance, meX8_chance, ⟨_, rfl, rfl⟩⟩
set_option maxRecDepth 100000 in
theorem mcX7_place : Cond.code yX7_place cX7_place 6 (some .long) ∈ lw_g := mg2 (i := 138) (by decide +kernel) (by decide +kernel)
set_option maxRecDepth 100000 in
theorem miX7_place : Cond.instanceMethod yX7_place ∈ lw_g := mg2 (i := 136) (by decide +kernel) (by decide +kernel)
set_option maxRecDepth 100000 in
theorem meX7_place : Cond.selects (yX7_place).cls yX7_place yX7_place ∈ lw_g := mg2 (i := 137) (by decide +kernel) (by decide +kernel)
set_option maxRecDepth 100000 in
theorem qL_107 : PCV RL 107 yX7_place cX7_place 6 (some .long) 4 3 := ⟨⟨mcX7_place, mg2 (i := 135) (by decide +kernel) (by decide +kernel), mnX7, by decide +kernel, by decide⟩, miX7_place, meX7_place, ⟨_, rfl, rfl⟩⟩
set_option maxRecDepth 100000 in
theorem mcX8_place : Cond.code yX8_place cX8_place 12 (some .long) ∈ lw_g := mg4 (i := 61) (by decide +kernel) (by decide +kernel)
set_option maxRecDepth 100000 in
theorem miX8_place : Cond.instanceMethod yX8_place ∈ lw_g := mg4 (i := 59) (by decide +kernel) (by decide +kernel)
set_option maxRecDepth 100000 in
theorem meX8_place : Cond.selects (yX8_place).cls yX8_place yX8_place ∈ lw_g := mg4 (i := 60) (by decide +kernel) (by decide +kernel)
set_option maxRecDepth 100000 in
theorem qL_110 : PCV RL 110 yX8_place cX8_place 12 (some .long) 4 4 := ⟨⟨mcX8_place, mg4 (i := 58) (by decide +kernel) (by decide +kernel), mnX8, by decide +kernel, by decide⟩, miX8_place, meX8_place, ⟨_, rfl, rfl⟩⟩
set_option maxRecDepth 100000 in
theorem mcX7_far : Cond.code yX7_far cX7_far 12 (some .long) ∈ lw_g := mg2 (i := 161) (by decide +kernel) (by decide +kernel)
set_option maxRecDepth 100000 in
theorem miX7_far : Cond.instanceMethod yX7_far ∈ lw_g := mg2 (i := 159) (by decide +kernel) (by decide +kernel)
set_option maxRecDepth 100000 in
theorem meX7_far : Cond.selects (yX7_far).cls yX7_far yX7_far ∈ lw_g := mg2 (i := 160) (by decide +kernel) (by decide +kernel)
set_option maxRecDepth 100000 in
theorem qL_111 : PCV RL 111 yX7_far cX7_far 12 (some .long) 3 3 := ⟨⟨mcX7_far, mg2 (i := 158) (by decide +kernel) (by decide +kernel), mnX7, by decide +kernel, by decide⟩, miX7_far, meX7_far, ⟨_, rfl, rfl⟩⟩
set_option maxRecDepth 100000 in
theorem mcX8_far : Cond.code yX8_far cX8_far 12 (some .long) ∈ lw_g := mg4 (i := 65) (by decide +kernel) (by decide +kernel)
set_option maxRecDepth 100000 in
theorem miX8_far : Cond.instanceMethod yX8_far ∈ lw_g := mg4 (i := 63) (by decide +kernel) (by decide +kernel)
set_option maxRecDepth 100000 in
theorem meX8_far : Cond.selects (yX8_far).cls yX8_far yX8_far ∈ lw_g := mg4 (i := 64) (by decide +kernel) (by decide +kernel)
set_option maxRecDepth 100000 in
theorem qL_115 : PCV RL 115 yX8_far cX8_far 12 (some .long) 3 4 := ⟨⟨mcX8_far, mg4 (i := 62) (by decide +kernel) (by decide +kernel), mnX8, by decide +kernel, by decide⟩, miX8_far, meX8_far, ⟨_, rfl, rfl⟩⟩
set_option maxRecDepth 100000 in
theorem mcX7_unlike : Cond.code yX7_unlike cX7_unlike 9 (some .long) ∈ lw_g := mg2 (i := 180) (by decide +kernel) (by decide +kernel)
set_option maxRecDepth 100000 in
theorem miX7_unlike : Cond.instanceMethod yX7_unlike ∈ lw_g := mg2 (i := 178) (by decide +kernel) (by decide +kernel)
set_option maxRecDepth 100000 in
theorem meX7_unlike : Cond.selects (yX7_unlike).cls yX7_unlike yX7_unlike ∈ lw_g := mg2 (i := 179) (by decide +kernel) (by decide +kernel)
set_option maxRecDepth 100000 in
theorem qL_116 : PCV RL 116 yX7_unlike cX7_unlike 9 (some .long) 3 3 := ⟨⟨mcX7_unlike, mg2 (i := 177) (by decide +kernel) (by decide +kernel), mnX7, by decide +kernel, by decide⟩, miX7_unlike, meX7_unlike, ⟨_, rfl, rfl⟩⟩
set_option maxRecDepth 100000 in
theorem mcX8_unlike : Cond.code yX8_unlike cX8_unlike 9 (some .long) ∈ lw_g := mg4 (i := 77) (by decide +kernel) (by decide +kernel)
set_option maxRecDepth 100000 in
theorem miX8_unlike : Cond.instanceMethod yX8_unlike ∈ lw_g := mg4 (i := 75) (by decide +kernel) (by decide +kernel)
set_option maxRecDepth 100000 in
theorem meX8_unlike : Cond.selects (yX8_unlike).cls yX8_unlike yX8_unlike ∈ lw_g := mg4 (i := 76) (by decide +kernel) (by decide +kernel)
set_option maxRecDepth 100000 in
theorem qL_119 : PCV RL 119 yX8_unlike cX8_unlike 9 (some .long) 3 4 := ⟨⟨mcX8_unlike, mg4 (i := 74) (by decide +kernel) (by decide +kernel), mnX8, by decide +kernel, by decide⟩, miX8_unlike, meX8_unlike, ⟨_, rfl, rfl⟩⟩
set_option maxRecDepth 100000 in
theorem mcX7_runs : Cond.code yX7_runs cX7_runs 2 (some .long) ∈ lw_g := mg2 (i := 185) (by decide +kernel) (by decide +kernel)
set_option maxRecDepth 100000 in
theorem miX7_runs : Cond.instanceMethod yX7_runs ∈ lw_g := mg2 (i := 183) (by decide +kernel) (by decide +kernel)
set_option maxRecDepth 100000 in
theorem meX7_runs : Cond.selects (yX7_runs).cls yX7_runs yX7_runs ∈ lw_g := mg2 (i := 184) (by decide +kernel) (by decide +kernel)
set_option maxRecDepth 100000 in
theorem qL_120 : PCV RL 120 yX7_runs cX7_runs 2 (some .long) 1 3 := ⟨⟨mcX7_runs, mg2 (i := 182) (by decide +kernel) (by decide +kernel), mnX7, by decide +kernel, by decide⟩, miX7_runs, meX7_runs, ⟨_, rfl, rfl⟩⟩
set_option maxRecDepth 100000 in
theorem mcX8_runs : Cond.code yX8_runs cX8_runs 6 (some .long) ∈ lw_g := mg4 (i := 73) (by decide +kernel) (by decide +kernel)
set_option maxRecDepth 100000 in
theorem miX8_runs : Cond.instanceMethod yX8_runs ∈ lw_g := mg4 (i := 71) (by decide +kernel) (by decide +kernel)
set_option maxRecDepth 100000 in
theorem meX8_runs : Cond.selects (yX8_runs).cls yX8_runs yX8_runs ∈ lw_g := mg4 (i := 72) (by decide +kernel) (by decide +kernel)
set_option maxRecDepth 100000 in
theorem qL_124 : PCV RL 124 yX8_runs cX8_runs 6 (some .long) 1 4 := ⟨⟨mcX8_runs, mg4 (i := 78) (by decide +kernel) (by decide +kernel), mnX8, by decide +kernel, by decide⟩, miX8_runs, meX8_runs, ⟨_, rfl, rfl⟩⟩
set_option maxRecDepth 100000 in
theorem mcX7_leads : Cond.code yX7_leads cX7_leads 3 (some .int) ∈ lw_g := mg2 (i := 189) (by decide +kernel) (by decide +kernel)
set_option maxRecDepth 100000 in
theorem miX7_leads : Cond.instanceMethod yX7_leads ∈ lw_g := mg2 (i := 187) (by decide +kernel) (by decide +kernel)
set_option maxRecDepth 100000 in
theorem meX7_leads : Cond.selects (yX7_leads).cls yX7_leads yX7_leads ∈ lw_g := mg2 (i := 188) (by decide +kernel) (by decide +kernel)
set_option maxRecDepth 100000 in
theorem qL_125 : PCV RL 125 yX7_leads cX7_leads 3 (some .int) 2 3 := ⟨⟨mcX7_leads, mg2 (i := 186) (by decide +kernel) (by decide +kernel), mnX7, by decide +kernel, by decide⟩, miX7_leads, meX7_leads, ⟨_, rfl, rfl⟩⟩
set_option maxRecDepth 100000 in
theorem mcX8_leads : Cond.code yX8_leads cX8_leads 3 (some .int) ∈ lw_g := mg4 (i := 82) (by decide +kernel) (by decide +kernel)
set_option maxRecDepth 100000 in
theorem miX8_leads : Cond.instanceMethod yX8_leads ∈ lw_g := mg4 (i := 80) (by decide +kernel) (by decide +kernel)
set_option maxRecDepth 100000 in
theorem meX8_leads : Cond.selects (yX8_leads).cls yX8_leads yX8_leads ∈ lw_g := mg4 (i := 81) (by decide +kernel) (by decide +kernel)
set_option maxRecDepth 100000 in
theorem qL_128 : PCV RL 128 yX8_leads cX8_leads 3 (some .int) 2 4 := ⟨⟨mcX8_leads, mg4 (i := 79) (by decide +kernel) (by decide +kernel), mnX8, by decide +kernel, by decide⟩, miX8_leads, meX8_leads, ⟨_, rfl, rfl⟩⟩
set_option maxRecDepth 100000 in
theorem mcX7_lead : Cond.code yX7_lead cX7_lead 6 (some .int) ∈ lw_g := mg2 (i := 208) (by decide +kernel) (by decide +kernel)
set_option maxRecDepth 100000 in
theorem miX7_lead : Cond.instanceMethod yX7_lead ∈ lw_g := mg2 (i := 206) (by decide +kernel) (by decide +kernel)
set_option maxRecDepth 100000 in
theorem meX7_lead : Cond.selects (yX7_lead).cls yX7_lead yX7_lead ∈ lw_g := mg2 (i := 207) (by decide +kernel) (by decide +kernel)
set_option maxRecDepth 100000 in
theorem qL_129 : PCV RL 129 yX7_lead cX7_lead 6 (some .int) 3 3 := ⟨⟨mcX7_lead, mg2 (i := 205) (by decide +kernel) (by decide +kernel), mnX7, by decide +kernel, by decide⟩, miX7_lead, meX7_lead, ⟨_, rfl, rfl⟩⟩
set_option maxRecDepth 100000 in
theorem mcX8_lead : Cond.code yX8_lead cX8_lead 7 (some .int) ∈ lw_g := mg4 (i := 90) (by decide +kernel) (by decide +kernel)
set_option maxRecDepth 100000 in
theorem miX8_lead : Cond.instanceMethod yX8_lead ∈ lw_g := mg4 (i := 88) (by decide +kernel) (by decide +kernel)
set_option maxRecDepth 100000 in
theorem meX8_lead : Cond.selects (yX8_lead).cls yX8_lead yX8_lead ∈ lw_g := mg4 (i := 89) (by decide +kernel) (by decide +kernel)
set_option maxRecDepth 100000 in
theorem qL_132 : PCV RL 132 yX8_lead cX8_lead 7 (some .int) 3 4 := ⟨⟨mcX8_lead, mg4 (i := 87) (by decide +kernel) (by decide +kernel), mnX8, by decide +kernel, by decide⟩, miX8_lead, meX8_lead, ⟨_, rfl, rfl⟩⟩
set_option maxRecDepth 100000 in
theorem mcX7_group : Cond.code yX7_group cX7_group 1 (some .int) ∈ lw_g := mg2 (i := 212) (by decide +kernel) (by decide +kernel)
set_option maxRecDepth 100000 in
theorem miX7_group : Cond.instanceMethod yX7_group ∈ lw_g := mg2 (i := 210) (by decide +kernel) (by decide +kernel)
set_option maxRecDepth 100000 in
theorem meX7_group : Cond.selects (yX7_group).cls yX7_group yX7_group ∈ lw_g := mg2 (i := 211) (by decide +kernel) (by decide +kernel)
set_option maxRecDepth 100000 in
theorem qL_133 : PCV RL 133 yX7_group cX7_group 1 (some .int) 0 3 := ⟨⟨mcX7_group, mg2 (i := 209) (by decide +kernel) (by decide +kernel), mnX7, by decide +kernel, by decide⟩, miX7_group, meX7_group, ⟨_, rfl, rfl⟩⟩
set_option maxRecDepth 100000 in
theorem mcX8_group : Cond.code yX8_group cX8_group 1 (some .int) ∈ lw_g := mg4 (i := 94) (by decide +kernel) (by decide +kernel)
set_option maxRecDepth 100000 in
theorem miX8_group : Cond.instanceMethod yX8_group ∈ lw_g := mg4 (i := 92) (by decide +kernel) (by decide +kernel)
set_option maxRecDepth 100000 in
theorem meX8_group : Cond.selects (yX8_group).cls yX8_group yX8_group ∈ lw_g := mg4 (i := 93) (by decide +kernel) (by decide +kernel)
set_option maxRecDepth 100000 in
theorem qL_136 : PCV RL 136 yX8_group cX8_group 1 (some .int) 0 4 := ⟨⟨mcX8_group, mg4 (i := 91) (by decide +kernel) (by decide +kernel), mnX8, by decide +kernel, by decide⟩, miX8_group, meX8_group, ⟨_, rfl, rfl⟩⟩
set_option maxRecDepth 100000 in
theorem mcX7_act : Cond.code yX7_act cX7_act 4 (some .int) ∈ lw_g := mg2 (i := 218) (by decide +kernel) (by decide +kernel)
set_option maxRecDepth 100000 in
theorem miX7_act : Cond.instanceMethod yX7_act ∈ lw_g := mg2 (i := 216) (by decide +kernel) (by decide +kernel)
set_option maxRecDepth 100000 in
theorem meX7_act : Cond.selects (yX7_act).cls yX7_act yX7_act ∈ lw_g := mg2 (i := 217) (by decide +kernel) (by decide +kernel)
set_option maxRecDepth 100000 in
theorem qL_137 : PCV RL 137 yX7_act cX7_act 4 (some .int) 3 3 := ⟨⟨mcX7_act, mg2 (i := 215) (by decide +kernel) (by decide +kernel), mnX7, by decide +kernel, by decide⟩, miX7_act, meX7_act, ⟨_, rfl, rfl⟩⟩
set_option maxRecDepth 100000 in
theorem mcX8_act : Cond.code yX8_act cX8_act 4 (some .int) ∈ lw_g := mg4 (i := 119) (by decide +kernel) (by decide +kernel)
set_option maxRecDepth 100000 in
theorem miX8_act : Cond.instanceMethod yX8_act ∈ lw_g := mg4 (i := 117) (by decide +kernel) (by decide +kernel)
set_option maxRecDepth 100000 in
theorem meX8_act : Cond.selects (yX8_act).cls yX8_act yX8_act ∈ lw_g := mg4 (i := 118) (by decide +kernel) (by decide +kernel)
set_option maxRecDepth 100000 in
theorem qL_140 : PCV RL 140 yX8_act cX8_act 4 (some .int) 3 4 := ⟨⟨mcX8_act, mg4 (i := 116) (by decide +kernel) (by decide +kernel), mnX8, by decide +kernel, by decide⟩, miX8_act, meX8_act, ⟨_, rfl, rfl⟩⟩
set_option maxRecDepth 100000 in
theorem mcX7_trace : Cond.code yX7_trace cX7_trace 2 (some .int) ∈ lw_g := mg3 (i := 4) (by decide +kernel) (by decide +kernel)
set_option maxRecDepth 100000 in
theorem miX7_trace : Cond.instanceMethod yX7_trace ∈ lw_g := mg3 (i := 2) (by decide +kernel) (by decide +kernel)
set_option maxRecDepth 100000 in
theorem meX7_trace : Cond.selects (yX7_trace).cls yX7_trace yX7_trace ∈ lw_g := mg3 (i := 3) (by decide +kernel) (by decide +kernel)
set_option maxRecDepth 100000 in
theorem qL_141 : PCV RL 141 yX7_trace cX7_trace 2 (some .int) 1 3 := ⟨⟨mcX7_trace, mg3 (i := 1) (by decide +kernel) (by decide +kernel), mnX7, by decide +kernel, by decide⟩, miX7_trace, meX7_trace, ⟨_, rfl, rfl⟩⟩
set_option maxRecDepth 100000 in
theorem mcX8_trace : Cond.code yX8_trace cX8_trace 2 (some .int) ∈ lw_g := mg4 (i := 159) (by decide +kernel) (by decide +kernel)
set_option maxRecDepth 100000 in
theorem miX8_trace : Cond.instanceMethod yX8_trace ∈ lw_g := mg4 (i := 157) (by decide +kernel) (by decide +kernel)
set_option maxRecDepth 100000 in
theorem meX8_trace : Cond.selects (yX8_trace).cls yX8_trace yX8_trace ∈ lw_g := mg4 (i := 158) (by decide +kernel) (by decide +kernel)
set_option maxRecDepth 100000 in
theorem qL_144 : PCV RL 144 yX8_trace cX8_trace 2 (some .int) 1 4 := ⟨⟨mcX8_trace, mg4 (i := 156) (by decide +kernel) (by decide +kernel), mnX8, by decide +kernel, by decide⟩, miX8_trace, meX8_trace, ⟨_, rfl, rfl⟩⟩
set_option maxRecDepth 100000 in
theorem mcX7_count : Cond.code yX7_count cX7_count 2 (some .int) ∈ lw_g := mg3 (i := 8) (by decide +kernel) (by decide +kernel)
set_option maxRecDepth 100000 in
theorem miX7_count : Cond.instanceMethod yX7_count ∈ lw_g := mg3 (i := 6) (by decide +kernel) (by decide +kernel)
set_option maxRecDepth 100000 in
theorem meX7_count : Cond.selects (yX7_count).cls yX7_count yX7_count ∈ lw_g := mg3 (i := 7) (by decide +kernel) (by decide +kernel)
set_option maxRecDepth 100000 in
theorem qL_145 : PCV RL 145 yX7_count cX7_count 2 (some .int) 1 3 := ⟨⟨mcX7_count, mg3 (i := 5) (by decide +kernel) (by decide +kernel), mnX7, by decide +kernel, by decide⟩, miX7_count, meX7_count, ⟨_, rfl, rfl⟩⟩
set_option maxRecDepth 100000 in
theorem mcX8_count : Cond.code yX8_count cX8_count 2 (some .int) ∈ lw_g := mg4 (i := 163) (by decide +kernel) (by decide +kernel)
set_option maxRecDepth 100000 in
theorem miX8_count : Cond.instanceMethod yX8_count ∈ lw_g := mg4 (i := 161) (by decide +kernel) (by decide +kernel)
set_option maxRecDepth 100000 in
theorem meX8_count : Cond.selects (yX8_count).cls yX8_count yX8_count ∈ lw_g := mg4 (i := 162) (by decide +kernel) (by decide +kernel)
set_option maxRecDepth 100000 in
theorem qL_148 : PCV RL 148 yX8_count cX8_count 2 (some .int) 1 4 := ⟨⟨mcX8_count, mg4 (i := 160) (by decide +kernel) (by decide +kernel), mnX8, by decide +kernel, by decide⟩, miX8_count, meX8_count, ⟨_, rfl, rfl⟩⟩
set_option maxRecDepth 100000 in
theorem mcX7_tray : Cond.code yX7_tray cX7_tray 4 (some .int) ∈ lw_g := mg3 (i := 12) (by decide +kernel) (by decide +kernel)
set_option maxRecDepth 100000 in
theorem miX7_tray : Cond.instanceMethod yX7_tray ∈ lw_g := mg3 (i := 10) (by decide +kernel) (by decide +kernel)
set_option maxRecDepth 100000 in
theorem meX7_tray : Cond.selects (yX7_tray).cls yX7_tray yX7_tray ∈ lw_g := mg3 (i := 11) (by decide +kernel) (by decide +kernel)
set_option maxRecDepth 100000 in
theorem qL_149 : PCV RL 149 yX7_tray cX7_tray 4 (some .int) 3 3 := ⟨⟨mcX7_tray, mg3 (i := 9) (by decide +kernel) (by decide +kernel), mnX7, by decide +kernel, by decide⟩, miX7_tray, meX7_tray, ⟨_, rfl, rfl⟩⟩
set_option maxRecDepth 100000 in
theorem mcX8_tray : Cond.code yX8_tray cX8_tray 5 (some .int) ∈ lw_g := mg4 (i := 167) (by decide +kernel) (by decide +kernel)
set_option maxRecDepth 100000 in
theorem miX8_tray : Cond.instanceMethod yX8_tray ∈ lw_g := mg4 (i := 165) (by decide +kernel) (by decide +kernel)
set_option maxRecDepth 100000 in
theorem meX8_tray : Cond.selects (yX8_tray).cls yX8_tray yX8_tray ∈ lw_g := mg4 (i := 166) (by decide +kernel) (by decide +kernel)
set_option maxRecDepth 100000 in
theorem qL_152 : PCV RL 152 yX8_tray cX8_tray 5 (some .int) 3 4 := ⟨⟨mcX8_tray, mg4 (i := 164) (by decide +kernel) (by decide +kernel), mnX8, by decide +kernel, by decide⟩, miX8_tray, meX8_tray, ⟨_, rfl, rfl⟩⟩
set_option maxRecDepth 100000 in
theorem mcX7_cell : Cond.code yX7_cell cX7_cell 4 (some .int) ∈ lw_g := mg3 (i := 20) (by decide +kernel) (by decide +kernel)
set_option maxRecDepth 100000 in
theorem miX7_cell : Cond.instanceMethod yX7_cell ∈ lw_g := mg3 (i := 18) (by decide +kernel) (by decide +kernel)
set_option maxRecDepth 100000 in
theorem meX7_cell : Cond.selects (yX7_cell).cls yX7_cell yX7_cell ∈ lw_g := mg3 (i := 19) (by decide +kernel) (by decide +kernel)
set_option maxRecDepth 100000 in
theorem qL_153 : PCV RL 153 yX7_cell cX7_cell 4 (some .int) 3 3 := ⟨⟨mcX7_cell, mg3 (i := 17) (by decide +kernel) (by decide +kernel), mnX7, by decide +kernel, by decide⟩, miX7_cell, meX7_cell, ⟨_, rfl, rfl⟩⟩
set_option maxRecDepth 100000 in
theorem mcX8_cell : Cond.code yX8_cell cX8_cell 4 (some .int) ∈ lw_g := mg4 (i := 171) (by decide +kernel) (by decide +kernel)
set_option maxRecDepth 100000 in
theorem miX8_cell : Cond.instanceMethod yX8_cell ∈ lw_g := mg4 (i := 169) (by decide +kernel) (by decide +kernel)
set_option maxRecDepth 100000 in
theorem meX8_cell : Cond.selects (yX8_cell).cls yX8_cell yX8_cell ∈ lw_g := mg4 (i := 170) (by decide +kernel) (by decide +kernel)
set_option maxRecDepth 100000 in
theorem qL_156 : PCV RL 156 yX8_cell cX8_cell 4 (some .int) 3 4 := ⟨⟨mcX8_cell, mg4 (i := 168) (by decide +kernel) (by decide +kernel), mnX8, by decide +kernel, by decide⟩, miX8_cell, meX8_cell, ⟨_, rfl, rfl⟩⟩
set_option maxRecDepth 100000 in
theorem mcX7_copy : Cond.code yX7_copy cX7_copy 8 (some .int) ∈ lw_g := mg3 (i := 28) (by decide +kernel) (by decide +kernel)
set_option maxRecDepth 100000 in
theorem miX7_copy : Cond.instanceMethod yX7_copy ∈ lw_g := mg3 (i := 26) (by decide +kernel) (by decide +kernel)
set_option maxRecDepth 100000 in
theorem meX7_copy : Cond.selects (yX7_copy).cls yX7_copy yX7_copy ∈ lw_g := mg3 (i := 27) (by decide +kernel) (by decide +kernel)
set_option maxRecDepth 100000 in
theorem qL_157 : PCV RL 157 yX7_copy cX7_copy 8 (some .int) 5 3 := ⟨⟨mcX7_copy, mg3 (i := 25) (by decide +kernel) (by decide +kernel), mnX7, by decide +kernel, by decide⟩, miX7_copy, meX7_copy, ⟨_, rfl, rfl⟩⟩
set_option maxRecDepth 100000 in
theorem mcX8_copy : Cond.code yX8_copy cX8_copy 7 (some .int) ∈ lw_g := mg4 (i := 175) (by decide +kernel) (by decide +kernel)
set_option maxRecDepth 100000 in
theorem miX8_copy : Cond.instanceMethod yX8_copy ∈ lw_g := mg4 (i := 173) (by decide +kernel) (by decide +kernel)
set_option maxRecDepth 100000 in
theorem meX8_copy : Cond.selects (yX8_copy).cls yX8_copy yX8_copy ∈ lw_g := mg4 (i := 174) (by decide +kernel) (by decide +kernel)
set_option maxRecDepth 100000 in
theorem qL_161 : PCV RL 161 yX8_copy cX8_copy 7 (some .int) 5 4 := ⟨⟨mcX8_copy, mg4 (i := 172) (by decide +kernel) (by decide +kernel), mnX8, by decide +kernel, by decide⟩, miX8_copy, meX8_copy, ⟨_, rfl, rfl⟩⟩
set_option maxRecDepth 100000 in
theorem mcX7_taken : Cond.code yX7_taken cX7_taken 3 (some .int) ∈ lw_g := mg2 (i := 50) (by decide +kernel) (by decide +kernel)
set_option maxRecDepth 100000 in
theorem miX7_taken : Cond.instanceMethod yX7_taken ∈ lw_g := mg2 (i := 48) (by decide +kernel) (by decide +kernel)
set_option maxRecDepth 100000 in
theorem meX7_taken : Cond.selects (yX7_taken).cls yX7_taken yX7_taken ∈ lw_g := mg2 (i := 49) (by decide +kernel) (by decide +kernel)
set_option maxRecDepth 100000 in
theorem qL_162 : PCV RL 162 yX7_taken cX7_taken 3 (some .int) 2 3 := ⟨⟨mcX7_taken, mg2 (i := 47) (by decide +kernel) (by decide +kernel), mnX7, by decide +kernel, by decide⟩, miX7_taken, meX7_taken, ⟨_, rfl, rfl⟩⟩
set_option maxRecDepth 100000 in
theorem mcX8_taken : Cond.code yX8_taken cX8_taken 4 (some .int) ∈ lw_g := mg4 (i := 179) (by decide +kernel) (by decide +kernel)
set_option maxRecDepth 100000 in
theorem miX8_taken : Cond.instanceMethod yX8_taken ∈ lw_g := mg4 (i := 177) (by decide +kernel) (by decide +kernel)
set_option maxRecDepth 100000 in
theorem meX8_taken : Cond.selects (yX8_taken).cls yX8_taken yX8_taken ∈ lw_g := mg4 (i := 178) (by decide +kernel) (by decide +kernel)
set_option maxRecDepth 100000 in
theorem qL_165 : PCV RL 165 yX8_taken cX8_taken 4 (some .int) 2 4 := ⟨⟨mcX8_taken, mg4 (i := 176) (by decide +kernel) (by decide +kernel), mnX8, by decide +kernel, by decide⟩, miX8_taken, meX8_taken, ⟨_, rfl, rfl⟩⟩
set_option maxRecDepth 100000 in
theorem kL_77 : Cond.constantLong RL 77 (4294967295) ∈ lw_g := mg4 (i := 180) (by decide +kernel) (by decide +kernel)
set_option maxRecDepth 100000 in
theorem fX0_9 : PFL RX0 9 0 0 := ⟨(RX0, TX0, 5), rfl, uwX0, by decide, mg1 (i := 33) (by decide +kernel) (by decide +kernel)⟩
set_option maxRecDepth 100000 in
theorem fX0_15 : PFL RX0 15 0 1 := ⟨(RX0, TX0, 5), rfl, uwX0, by decide, mg1 (i := 35) (by decide +kernel) (by decide +kernel)⟩
set_option maxRecDepth 100000 in
theorem fX0_19 : PFL RX0 19 0 2 := ⟨(RX0, TX0, 5), rfl, uwX0, by decide, mg1 (i := 37) (by decide +kernel) (by decide +kernel)⟩
set_option maxRecDepth 100000 in
theorem fX0_22 : PFL RX0 22 0 3 := ⟨(RX0, TX0, 5), rfl, uwX0, by decide, mg1 (i := 38) (by decide +kernel) (by decide +kernel)⟩
set_option maxRecDepth 100000 in
theorem fX0_25 : PFL RX0 25 0 4 := ⟨(RX0, TX0, 5), rfl, uwX0, by decide, mg1 (i := 39) (by decide +kernel) (by decide +kernel)⟩
set_option maxRecDepth 100000 in
theorem fX0_28 : PFL RX0 28 1 1 := ⟨(RX4, TX4, 3), rfl, uwX4, by decide, mg1 (i := 60) (by decide +kernel) (by decide +kernel)⟩
set_option maxRecDepth 100000 in
theorem fX0_31 : PFL RX0 31 1 2 := ⟨(RX4, TX4, 3), rfl, uwX4, by decide, mg1 (i := 63) (by decide +kernel) (by decide +kernel)⟩
set_option maxRecDepth 100000 in
theorem sX0_44 : PSL RX0 44 2 := ⟨by decide, Or.inr (by decide +kernel)⟩
set_option maxRecDepth 100000 in
theorem sX0_47 : PSL RX0 47 3 := ⟨by decide, Or.inr (by decide +kernel)⟩
set_option maxRecDepth 100000 in
theorem mcX0_bodyOf : Cond.code yX0_bodyOf cX0_bodyOf 5 (some .int) ∈ lw_g := mg2 (i := 233) (by decide +kernel) (by decide +kernel)
set_option maxRecDepth 100000 in
theorem msX0_bodyOf : Cond.static yX0_bodyOf ∈ lw_g := mg2 (i := 232) (by decide +kernel) (by decide +kernel)
set_option maxRecDepth 100000 in
theorem mnX0 : Cond.initialized RX0 ∈ lw_g := mg1 (i := 2) (by decide +kernel) (by decide +kernel)
set_option maxRecDepth 100000 in
theorem qX0_36 : PCS RX0 36 yX0_bodyOf cX0_bodyOf 5 (some .int) 2 := ⟨⟨mcX0_bodyOf, mg2 (i := 231) (by decide +kernel) (by decide +kernel), mnX0, by decide +kernel, by decide⟩, msX0_bodyOf⟩
set_option maxRecDepth 100000 in
theorem mcX0_run : Cond.code yX0_run cX0_run 7 (some .int) ∈ lw_g := mg2 (i := 230) (by decide +kernel) (by decide +kernel)
set_option maxRecDepth 100000 in
theorem miX0_run : Cond.instanceMethod yX0_run ∈ lw_g := mg2 (i := 229) (by decide +kernel) (by decide +kernel)
set_option maxRecDepth 100000 in
theorem meX0_run : Cond.selects (yX0_run).cls yX0_run yX0_run ∈ lw_g := mgs (q := (⟨"ShuffleDesk$Acts", "run", "(IIII)I"⟩, 5)) (List.mem_append_right _ (List.mem_append_left _ (List.mem_of_getElem? (i := 0) (by decide +kernel)))) (by decide +kernel)
set_option maxRecDepth 100000 in
theorem qX0_32 : PCV RX0 32 yX0_run cX0_run 7 (some .int) 4 0 := ⟨⟨mcX0_run, mg2 (i := 227) (by decide +kernel) (by decide +kernel), mnX0, by decide +kernel, by decide⟩, miX0_run, meX0_run, ⟨_, rfl, rfl⟩⟩
set_option maxRecDepth 100000 in
theorem mcX0_note : Cond.code yX0_note cX0_note 2 none ∈ lw_g := mg3 (i := 0) (by decide +kernel) (by decide +kernel)
set_option maxRecDepth 100000 in
theorem miX0_note : Cond.instanceMethod yX0_note ∈ lw_g := mg2 (i := 239) (by decide +kernel) (by decide +kernel)
set_option maxRecDepth 100000 in
theorem meX0_note : Cond.selects (yX0_note).cls yX0_note yX0_note ∈ lw_g := mgs (q := (⟨"ShuffleDesk$Acts", "note", "(I)V"⟩, 5)) (List.mem_append_right _ (List.mem_append_left _ (List.mem_of_getElem? (i := 1) (by decide +kernel)))) (by decide +kernel)
set_option maxRecDepth 100000 in
theorem qX0_40 : PCV RX0 40 yX0_note cX0_note 2 none 1 0 := ⟨⟨mcX0_note, mg2 (i := 237) (by decide +kernel) (by decide +kernel), mnX0, by decide +kernel, by decide⟩, miX0_note, meX0_note, ⟨_, rfl, rfl⟩⟩
set_option maxRecDepth 100000 in
theorem wX0_15 : PFW RX0 15 0 1 := ⟨(RX0, TX0, 5), rfl, uwX0, by decide, mg1 (i := 35) (by decide +kernel) (by decide +kernel), by decide +kernel, by decide +kernel, ⟨tyX0, tyX0_ok⟩, nmX0⟩
set_option maxRecDepth 100000 in
theorem wX0_19 : PFW RX0 19 0 2 := ⟨(RX0, TX0, 5), rfl, uwX0, by decide, mg1 (i := 37) (by decide +kernel) (by decide +kernel), by decide +kernel, by decide +kernel, ⟨tyX0, tyX0_ok⟩, nmX0⟩
set_option maxRecDepth 100000 in
theorem wX0_22 : PFW RX0 22 0 3 := ⟨(RX0, TX0, 5), rfl, uwX0, by decide, mg1 (i := 38) (by decide +kernel) (by decide +kernel), by decide +kernel, by decide +kernel, ⟨tyX0, tyX0_ok⟩, nmX0⟩
set_option maxRecDepth 100000 in
theorem wX0_25 : PFW RX0 25 0 4 := ⟨(RX0, TX0, 5), rfl, uwX0, by decide, mg1 (i := 39) (by decide +kernel) (by decide +kernel), by decide +kernel, by decide +kernel, ⟨tyX0, tyX0_ok⟩, nmX0⟩
set_option maxRecDepth 100000 in
theorem sX1_28 : PSL RX1 28 0 := ⟨by decide, Or.inr (by decide +kernel)⟩
set_option maxRecDepth 100000 in
theorem mcX1_choices : Cond.code yX1_choices cX1_choices 5 (some .long) ∈ lw_g := mg2 (i := 123) (by decide +kernel) (by decide +kernel)
set_option maxRecDepth 100000 in
theorem msX1_choices : Cond.static yX1_choices ∈ lw_g := mg2 (i := 122) (by decide +kernel) (by decide +kernel)
set_option maxRecDepth 100000 in
theorem mnX1 : Cond.initialized RX1 ∈ lw_g := mg1 (i := 10) (by decide +kernel) (by decide +kernel)
set_option maxRecDepth 100000 in
theorem qX1_9 : PCS RX1 9 yX1_choices cX1_choices 5 (some .long) 2 := ⟨⟨mcX1_choices, mg2 (i := 156) (by decide +kernel) (by decide +kernel), mnX1, by decide +kernel, by decide⟩, msX1_choices⟩
set_option maxRecDepth 100000 in
theorem mcX1_raised : Cond.code yX1_raised cX1_raised 6 (some .long) ∈ lw_g := mg2 (i := 71) (by decide +kernel) (by decide +kernel)
set_option maxRecDepth 100000 in
theorem msX1_raised : Cond.static yX1_raised ∈ lw_g := mg2 (i := 70) (by decide +kernel) (by decide +kernel)
set_option maxRecDepth 100000 in
theorem qX1_15 : PCS RX1 15 yX1_raised cX1_raised 6 (some .long) 2 := ⟨⟨mcX1_raised, mg2 (i := 157) (by decide +kernel) (by decide +kernel), mnX1, by decide +kernel, by decide⟩, msX1_raised⟩
set_option maxRecDepth 100000 in
theorem mcJ9_max_f86c9 : Cond.code yJ9_max_f86c9 cJ9_max_f86c9 4 (some .long) ∈ lw_g := mg2 (i := 39) (by decide +kernel) (by decide +kernel)
set_option maxRecDepth 100000 in
theorem msJ9_max_f86c9 : Cond.static yJ9_max_f86c9 ∈ lw_g := mg2 (i := 38) (by decide +kernel) (by decide +kernel)
set_option maxRecDepth 100000 in
theorem mnJ9 : Cond.initialized RJ9 ∈ lw_g := mg1 (i := 11) (by decide +kernel) (by decide +kernel)
set_option maxRecDepth 100000 in
theorem qX1_19 : PCS RX1 19 yJ9_max_f86c9 cJ9_max_f86c9 4 (some .long) 2 := ⟨⟨mcJ9_max_f86c9, mg2 (i := 37) (by decide +kernel) (by decide +kernel), mnJ9, by decide +kernel, by decide⟩, msJ9_max_f86c9⟩
set_option maxRecDepth 100000 in
theorem mcX1_divisor : Cond.code yX1_divisor cX1_divisor 11 (some .long) ∈ lw_g := mg2 (i := 36) (by decide +kernel) (by decide +kernel)
set_option maxRecDepth 100000 in
theorem msX1_divisor : Cond.static yX1_divisor ∈ lw_g := mg2 (i := 35) (by decide +kernel) (by decide +kernel)
set_option maxRecDepth 100000 in
theorem qX1_25 : PCS RX1 25 yX1_divisor cX1_divisor 11 (some .long) 2 := ⟨⟨mcX1_divisor, mg2 (i := 134) (by decide +kernel) (by decide +kernel), mnX1, by decide +kernel, by decide⟩, msX1_divisor⟩
set_option maxRecDepth 100000 in
theorem sX2_7 : PSL RX2 7 0 := ⟨by decide, Or.inr (by decide +kernel)⟩
set_option maxRecDepth 100000 in
theorem mcX2_unused : Cond.code yX2_unused cX2_unused 5 (some .int) ∈ lw_g := mg1 (i := 153) (by decide +kernel) (by decide +kernel)
set_option maxRecDepth 100000 in
theorem msX2_unused : Cond.static yX2_unused ∈ lw_g := mg1 (i := 152) (by decide +kernel) (by decide +kernel)
set_option maxRecDepth 100000 in
theorem mnX2 : Cond.initialized RX2 ∈ lw_g := mg1 (i := 6) (by decide +kernel) (by decide +kernel)
set_option maxRecDepth 100000 in
theorem qX2_13 : PCS RX2 13 yX2_unused cX2_unused 5 (some .int) 3 := ⟨⟨mcX2_unused, mg1 (i := 151) (by decide +kernel) (by decide +kernel), mnX2, by decide +kernel, by decide⟩, msX2_unused⟩
set_option maxRecDepth 100000 in
theorem mcX3_lengthFrom : Cond.code yX3_lengthFrom cX3_lengthFrom 5 (some .int) ∈ lw_g := mg2 (i := 33) (by decide +kernel) (by decide +kernel)
set_option maxRecDepth 100000 in
theorem msX3_lengthFrom : Cond.static yX3_lengthFrom ∈ lw_g := mg2 (i := 32) (by decide +kernel) (by decide +kernel)
set_option maxRecDepth 100000 in
theorem mnX3 : Cond.initialized RX3 ∈ lw_g := mg1 (i := 9) (by decide +kernel) (by decide +kernel)
set_option maxRecDepth 100000 in
theorem qX3_7 : PCS RX3 7 yX3_lengthFrom cX3_lengthFrom 5 (some .int) 3 := ⟨⟨mcX3_lengthFrom, mg2 (i := 31) (by decide +kernel) (by decide +kernel), mnX3, by decide +kernel, by decide⟩, msX3_lengthFrom⟩
set_option maxRecDepth 100000 in
theorem qX3_13 : PCS RX3 13 yX1_divisor cX1_divisor 11 (some .long) 2 := ⟨⟨mcX1_divisor, mg2 (i := 34) (by decide +kernel) (by decide +kernel), mnX1, by decide +kernel, by decide⟩, msX1_divisor⟩
set_option maxRecDepth 100000 in
theorem fX4_15 : PFL RX4 15 1 1 := ⟨(RX4, TX4, 3), rfl, uwX4, by decide, mg1 (i := 59) (by decide +kernel) (by decide +kernel)⟩
set_option maxRecDepth 100000 in
theorem sX4_22 : PSL RX4 22 2 := ⟨by decide, Or.inr (by decide +kernel)⟩
set_option maxRecDepth 100000 in
theorem fX4_9 : PFL RX4 9 1 0 := ⟨(RX4, TX4, 3), rfl, uwX4, by decide, mg1 (i := 57) (by decide +kernel) (by decide +kernel)⟩
set_option maxRecDepth 100000 in
theorem wX4_15 : PFW RX4 15 1 1 := ⟨(RX4, TX4, 3), rfl, uwX4, by decide, mg1 (i := 59) (by decide +kernel) (by decide +kernel), by decide +kernel, by decide +kernel, ⟨tyX4, tyX4_ok⟩, nmX4⟩
set_option maxRecDepth 100000 in
theorem fX4_19 : PFL RX4 19 1 2 := ⟨(RX4, TX4, 3), rfl, uwX4, by decide, mg1 (i := 62) (by decide +kernel) (by decide +kernel)⟩
set_option maxRecDepth 100000 in
theorem wX4_19 : PFW RX4 19 1 2 := ⟨(RX4, TX4, 3), rfl, uwX4, by decide, mg1 (i := 62) (by decide +kernel) (by decide +kernel), by decide +kernel, by decide +kernel, ⟨tyX4, tyX4_ok⟩, nmX4⟩
set_option maxRecDepth 100000 in
theorem fX5_9 : PFL RX5 9 2 0 := ⟨(RX5, TX5, 3), rfl, uwX5, by decide, mg1 (i := 78) (by decide +kernel) (by decide +kernel)⟩
set_option maxRecDepth 100000 in
theorem fX5_15 : PFL RX5 15 2 1 := ⟨(RX5, TX5, 3), rfl, uwX5, by decide, mg1 (i := 80) (by decide +kernel) (by decide +kernel)⟩
set_option maxRecDepth 100000 in
theorem fX5_19 : PFL RX5 19 2 2 := ⟨(RX5, TX5, 3), rfl, uwX5, by decide, mg1 (i := 82) (by decide +kernel) (by decide +kernel)⟩
set_option maxRecDepth 100000 in
theorem wX5_15 : PFW RX5 15 2 1 := ⟨(RX5, TX5, 3), rfl, uwX5, by decide, mg1 (i := 80) (by decide +kernel) (by decide +kernel), by decide +kernel, by decide +kernel, ⟨tyX5, tyX5_ok⟩, nmX5⟩
set_option maxRecDepth 100000 in
theorem wX5_19 : PFW RX5 19 2 2 := ⟨(RX5, TX5, 3), rfl, uwX5, by decide, mg1 (i := 82) (by decide +kernel) (by decide +kernel), by decide +kernel, by decide +kernel, ⟨tyX5, tyX5_ok⟩, nmX5⟩
set_option maxRecDepth 100000 in
theorem mcX6_end : Cond.code yX6_end cX6_end 5 (some .int) ∈ lw_g := mg2 (i := 195) (by decide +kernel) (by decide +kernel)
set_option maxRecDepth 100000 in
theorem msX6_end : Cond.static yX6_end ∈ lw_g := mg2 (i := 194) (by decide +kernel) (by decide +kernel)
set_option maxRecDepth 100000 in
theorem mnX6 : Cond.initialized RX6 ∈ lw_g := mg1 (i := 8) (by decide +kernel) (by decide +kernel)
set_option maxRecDepth 100000 in
theorem qX6_9 : PCS RX6 9 yX6_end cX6_end 5 (some .int) 3 := ⟨⟨mcX6_end, mg2 (i := 193) (by decide +kernel) (by decide +kernel), mnX6, by decide +kernel, by decide⟩, msX6_end⟩
set_option maxRecDepth 100000 in
theorem mcX6_lengthOf : Cond.code yX6_lengthOf cX6_lengthOf 1 (some .int) ∈ lw_g := mg2 (i := 198) (by decide +kernel) (by decide +kernel)
set_option maxRecDepth 100000 in
theorem msX6_lengthOf : Cond.static yX6_lengthOf ∈ lw_g := mg2 (i := 197) (by decide +kernel) (by decide +kernel)
set_option maxRecDepth 100000 in
theorem qX6_15 : PCS RX6 15 yX6_lengthOf cX6_lengthOf 1 (some .int) 1 := ⟨⟨mcX6_lengthOf, mg2 (i := 196) (by decide +kernel) (by decide +kernel), mnX6, by decide +kernel, by decide⟩, msX6_lengthOf⟩
set_option maxRecDepth 100000 in
theorem mcX6_carried : Cond.code yX6_carried cX6_carried 4 (some .int) ∈ lw_g := mg1 (i := 222) (by decide +kernel) (by decide +kernel)
set_option maxRecDepth 100000 in
theorem msX6_carried : Cond.static yX6_carried ∈ lw_g := mg1 (i := 221) (by decide +kernel) (by decide +kernel)
set_option maxRecDepth 100000 in
theorem qX6_19 : PCS RX6 19 yX6_carried cX6_carried 4 (some .int) 3 := ⟨⟨mcX6_carried, mg2 (i := 203) (by decide +kernel) (by decide +kernel), mnX6, by decide +kernel, by decide⟩, msX6_carried⟩
set_option maxRecDepth 100000 in
theorem mcJ6_numberOfLeadingZeros_0f7a4 : Cond.code yJ6_numberOfLeadingZeros_0f7a4 cJ6_numberOfLeadingZeros_0f7a4 2 (some .int) ∈ lw_g := mg2 (i := 201) (by decide +kernel) (by decide +kernel)
set_option maxRecDepth 100000 in
theorem msJ6_numberOfLeadingZeros_0f7a4 : Cond.static yJ6_numberOfLeadingZeros_0f7a4 ∈ lw_g := mg2 (i := 200) (by decide +kernel) (by decide +kernel)
set_option maxRecDepth 100000 in
theorem mnJ6 : Cond.initialized RJ6 ∈ lw_g := mg1 (i := 12) (by decide +kernel) (by decide +kernel)
set_option maxRecDepth 100000 in
theorem qX6_22 : PCS RX6 22 yJ6_numberOfLeadingZeros_0f7a4 cJ6_numberOfLeadingZeros_0f7a4 2 (some .int) 1 := ⟨⟨mcJ6_numberOfLeadingZeros_0f7a4, mg2 (i := 199) (by decide +kernel) (by decide +kernel), mnJ6, by decide +kernel, by decide⟩, msJ6_numberOfLeadingZeros_0f7a4⟩
set_option maxRecDepth 100000 in
theorem fX7_11 : PFL RX7 11 3 0 := ⟨(RX7, TX7, 14), rfl, uwX7, by decide, mg1 (i := 90) (by decide +kernel) (by decide +kernel)⟩
set_option maxRecDepth 100000 in
theorem fX7_16 : PFL RX7 16 3 1 := ⟨(RX7, TX7, 14), rfl, uwX7, by decide, mg1 (i := 91) (by decide +kernel) (by decide +kernel)⟩
set_option maxRecDepth 100000 in
theorem fX7_22 : PFL RX7 22 3 2 := ⟨(RX7, TX7, 14), rfl, uwX7, by decide, mg1 (i := 92) (by decide +kernel) (by decide +kernel)⟩
set_option maxRecDepth 100000 in
theorem fX7_29 : PFL RX7 29 3 3 := ⟨(RX7, TX7, 14), rfl, uwX7, by decide, mg1 (i := 93) (by decide +kernel) (by decide +kernel)⟩
set_option maxRecDepth 100000 in
theorem fX7_33 : PFL RX7 33 3 4 := ⟨(RX7, TX7, 14), rfl, uwX7, by decide, mg1 (i := 94) (by decide +kernel) (by decide +kernel)⟩
set_option maxRecDepth 100000 in
theorem fX7_37 : PFL RX7 37 3 5 := ⟨(RX7, TX7, 14), rfl, uwX7, by decide, mg1 (i := 95) (by decide +kernel) (by decide +kernel)⟩
set_option maxRecDepth 100000 in
theorem fX7_40 : PFL RX7 40 3 6 := ⟨(RX7, TX7, 14), rfl, uwX7, by decide, mg1 (i := 96) (by decide +kernel) (by decide +kernel)⟩
set_option maxRecDepth 100000 in
theorem fX7_43 : PFL RX7 43 3 7 := ⟨(RX7, TX7, 14), rfl, uwX7, by decide, mg1 (i := 97) (by decide +kernel) (by decide +kernel)⟩
set_option maxRecDepth 100000 in
theorem fX7_46 : PFL RX7 46 3 8 := ⟨(RX7, TX7, 14), rfl, uwX7, by decide, mg1 (i := 98) (by decide +kernel) (by decide +kernel)⟩
set_option maxRecDepth 100000 in
theorem fX7_50 : PFL RX7 50 3 9 := ⟨(RX7, TX7, 14), rfl, uwX7, by decide, mg1 (i := 99) (by decide +kernel) (by decide +kernel)⟩
set_option maxRecDepth 100000 in
theorem fX7_53 : PFL RX7 53 3 10 := ⟨(RX7, TX7, 14), rfl, uwX7, by decide, mg1 (i := 100) (by decide +kernel) (by decide +kernel)⟩
set_option maxRecDepth 100000 in
theorem fX7_56 : PFL RX7 56 3 11 := ⟨(RX7, TX7, 14), rfl, uwX7, by decide, mg1 (i := 101) (by decide +kernel) (by decide +kernel)⟩
set_option maxRecDepth 100000 in
theorem fX7_59 : PFL RX7 59 3 12 := ⟨(RX7, TX7, 14), rfl, uwX7, by decide, mg1 (i := 102) (by decide +kernel) (by decide +kernel)⟩
set_option maxRecDepth 100000 in
theorem fX7_63 : PFL RX7 63 3 13 := ⟨(RX7, TX7, 14), rfl, uwX7, by decide, mg1 (i := 103) (by decide +kernel) (by decide +kernel)⟩
set_option maxRecDepth 100000 in
theorem fX7_92 : PFL RX7 92 2 1 := ⟨(RX5, TX5, 3), rfl, uwX5, by decide, mg1 (i := 81) (by decide +kernel) (by decide +kernel)⟩
set_option maxRecDepth 100000 in
theorem fX7_99 : PFL RX7 99 2 0 := ⟨(RX5, TX5, 3), rfl, uwX5, by decide, mg1 (i := 79) (by decide +kernel) (by decide +kernel)⟩
set_option maxRecDepth 100000 in
theorem fX7_129 : PFL RX7 129 1 0 := ⟨(RX4, TX4, 3), rfl, uwX4, by decide, mg1 (i := 58) (by decide +kernel) (by decide +kernel)⟩
set_option maxRecDepth 100000 in
theorem fX7_158 : PFL RX7 158 1 1 := ⟨(RX4, TX4, 3), rfl, uwX4, by decide, mg1 (i := 61) (by decide +kernel) (by decide +kernel)⟩
set_option maxRecDepth 100000 in
theorem fX7_161 : PFL RX7 161 1 2 := ⟨(RX4, TX4, 3), rfl, uwX4, by decide, mg1 (i := 64) (by decide +kernel) (by decide +kernel)⟩
set_option maxRecDepth 100000 in
theorem fX7_264 : PFL RX7 264 0 1 := ⟨(RX0, TX0, 5), rfl, uwX0, by decide, mg1 (i := 36) (by decide +kernel) (by decide +kernel)⟩
set_option maxRecDepth 100000 in
theorem fX7_267 : PFL RX7 267 0 0 := ⟨(RX0, TX0, 5), rfl, uwX0, by decide, mg1 (i := 34) (by decide +kernel) (by decide +kernel)⟩
set_option maxRecDepth 100000 in
theorem sX7_72 : PSL RX7 72 0 := ⟨by decide, Or.inl (mg1 (i := 145) (by decide +kernel) (by decide +kernel))⟩
set_option maxRecDepth 100000 in
theorem sX7_254 : PSL RX7 254 1 := ⟨by decide, Or.inl (mg2 (i := 213) (by decide +kernel) (by decide +kernel))⟩
set_option maxRecDepth 100000 in
theorem mcX2_setByRank : Cond.code yX2_setByRank cX2_setByRank 8 none ∈ lw_g := mg1 (i := 149) (by decide +kernel) (by decide +kernel)
set_option maxRecDepth 100000 in
theorem msX2_setByRank : Cond.static yX2_setByRank ∈ lw_g := mg1 (i := 148) (by decide +kernel) (by decide +kernel)
set_option maxRecDepth 100000 in
theorem qX7_75 : PCS RX7 75 yX2_setByRank cX2_setByRank 8 none 3 := ⟨⟨mcX2_setByRank, mg1 (i := 147) (by decide +kernel) (by decide +kernel), mnX2, by decide +kernel, by decide⟩, msX2_setByRank⟩
set_option maxRecDepth 100000 in
theorem mcX7_isTray : Cond.code yX7_isTray cX7_isTray 1 (some .boolean) ∈ lw_g := mg1 (i := 161) (by decide +kernel) (by decide +kernel)
set_option maxRecDepth 100000 in
theorem msX7_isTray : Cond.static yX7_isTray ∈ lw_g := mg1 (i := 160) (by decide +kernel) (by decide +kernel)
set_option maxRecDepth 100000 in
theorem qX7_81 : PCS RX7 81 yX7_isTray cX7_isTray 1 (some .boolean) 1 := ⟨⟨mcX7_isTray, mg1 (i := 159) (by decide +kernel) (by decide +kernel), mnX7, by decide +kernel, by decide⟩, msX7_isTray⟩
set_option maxRecDepth 100000 in
theorem mcX7_isSort : Cond.code yX7_isSort cX7_isSort 1 (some .boolean) ∈ lw_g := mg1 (i := 164) (by decide +kernel) (by decide +kernel)
set_option maxRecDepth 100000 in
theorem msX7_isSort : Cond.static yX7_isSort ∈ lw_g := mg1 (i := 163) (by decide +kernel) (by decide +kernel)
set_option maxRecDepth 100000 in
theorem qX7_85 : PCS RX7 85 yX7_isSort cX7_isSort 1 (some .boolean) 1 := ⟨⟨mcX7_isSort, mg1 (i := 162) (by decide +kernel) (by decide +kernel), mnX7, by decide +kernel, by decide⟩, msX7_isSort⟩
set_option maxRecDepth 100000 in
theorem mcX2_isOrder : Cond.code yX2_isOrder cX2_isOrder 5 (some .boolean) ∈ lw_g := mg1 (i := 175) (by decide +kernel) (by decide +kernel)
set_option maxRecDepth 100000 in
theorem msX2_isOrder : Cond.static yX2_isOrder ∈ lw_g := mg1 (i := 174) (by decide +kernel) (by decide +kernel)
set_option maxRecDepth 100000 in
theorem qX7_102 : PCS RX7 102 yX2_isOrder cX2_isOrder 5 (some .boolean) 3 := ⟨⟨mcX2_isOrder, mg1 (i := 173) (by decide +kernel) (by decide +kernel), mnX2, by decide +kernel, by decide⟩, msX2_isOrder⟩
set_option maxRecDepth 100000 in
theorem aX7_106 : Cond.methodLink RX7 106 arraycopyName ∈ lw_g ∧ Cond.native arraycopyName ∈ lw_g ∧ Cond.static arraycopyName ∈ lw_g ∧ Cond.initialized "java/lang/System" ∈ lw_g := ⟨mg1 (i := 176) (by decide +kernel) (by decide +kernel), mg1 (i := 178) (by decide +kernel) (by decide +kernel), mg1 (i := 177) (by decide +kernel) (by decide +kernel), mg1 (i := 7) (by decide +kernel) (by decide +kernel)⟩
set_option maxRecDepth 100000 in
theorem mcX2_setBack : Cond.code yX2_setBack cX2_setBack 4 none ∈ lw_g := mg1 (i := 197) (by decide +kernel) (by decide +kernel)
set_option maxRecDepth 100000 in
theorem msX2_setBack : Cond.static yX2_setBack ∈ lw_g := mg1 (i := 196) (by decide +kernel) (by decide +kernel)
set_option maxRecDepth 100000 in
theorem qX7_118 : PCS RX7 118 yX2_setBack cX2_setBack 4 none 3 := ⟨⟨mcX2_setBack, mg1 (i := 195) (by decide +kernel) (by decide +kernel), mnX2, by decide +kernel, by decide⟩, msX2_setBack⟩
set_option maxRecDepth 100000 in
theorem mcX2_rankOf : Cond.code yX2_rankOf cX2_rankOf 6 (some .int) ∈ lw_g := mg1 (i := 200) (by decide +kernel) (by decide +kernel)
set_option maxRecDepth 100000 in
theorem msX2_rankOf : Cond.static yX2_rankOf ∈ lw_g := mg1 (i := 199) (by decide +kernel) (by decide +kernel)
set_option maxRecDepth 100000 in
theorem qX7_122 : PCS RX7 122 yX2_rankOf cX2_rankOf 6 (some .int) 2 := ⟨⟨mcX2_rankOf, mg1 (i := 198) (by decide +kernel) (by decide +kernel), mnX2, by decide +kernel, by decide⟩, msX2_rankOf⟩
set_option maxRecDepth 100000 in
theorem mcX2_runsOf : Cond.code yX2_runsOf cX2_runsOf 4 (some .int) ∈ lw_g := mg1 (i := 203) (by decide +kernel) (by decide +kernel)
set_option maxRecDepth 100000 in
theorem msX2_runsOf : Cond.static yX2_runsOf ∈ lw_g := mg1 (i := 202) (by decide +kernel) (by decide +kernel)
set_option maxRecDepth 100000 in
theorem qX7_126 : PCS RX7 126 yX2_runsOf cX2_runsOf 4 (some .int) 2 := ⟨⟨mcX2_runsOf, mg1 (i := 201) (by decide +kernel) (by decide +kernel), mnX2, by decide +kernel, by decide⟩, msX2_runsOf⟩
set_option maxRecDepth 100000 in
theorem qX7_139 : PCS RX7 139 yX6_carried cX6_carried 4 (some .int) 3 := ⟨⟨mcX6_carried, mg1 (i := 220) (by decide +kernel) (by decide +kernel), mnX6, by decide +kernel, by decide⟩, msX6_carried⟩
set_option maxRecDepth 100000 in
theorem mcX2_setDealt : Cond.code yX2_setDealt cX2_setDealt 7 none ∈ lw_g := mg1 (i := 229) (by decide +kernel) (by decide +kernel)
set_option maxRecDepth 100000 in
theorem msX2_setDealt : Cond.static yX2_setDealt ∈ lw_g := mg1 (i := 228) (by decide +kernel) (by decide +kernel)
set_option maxRecDepth 100000 in
theorem qX7_145 : PCS RX7 145 yX2_setDealt cX2_setDealt 7 none 3 := ⟨⟨mcX2_setDealt, mg1 (i := 227) (by decide +kernel) (by decide +kernel), mnX2, by decide +kernel, by decide⟩, msX2_setDealt⟩
set_option maxRecDepth 100000 in
theorem mcX2_setThrough : Cond.code yX2_setThrough cX2_setThrough 5 none ∈ lw_g := mg2 (i := 12) (by decide +kernel) (by decide +kernel)
set_option maxRecDepth 100000 in
theorem msX2_setThrough : Cond.static yX2_setThrough ∈ lw_g := mg2 (i := 11) (by decide +kernel) (by decide +kernel)
set_option maxRecDepth 100000 in
theorem qX7_154 : PCS RX7 154 yX2_setThrough cX2_setThrough 5 none 4 := ⟨⟨mcX2_setThrough, mg2 (i := 10) (by decide +kernel) (by decide +kernel), mnX2, by decide +kernel, by decide⟩, msX2_setThrough⟩
set_option maxRecDepth 100000 in
theorem mcX3_howMany : Cond.code yX3_howMany cX3_howMany 6 (some .int) ∈ lw_g := mg2 (i := 27) (by decide +kernel) (by decide +kernel)
set_option maxRecDepth 100000 in
theorem msX3_howMany : Cond.static yX3_howMany ∈ lw_g := mg2 (i := 26) (by decide +kernel) (by decide +kernel)
set_option maxRecDepth 100000 in
theorem qX7_164 : PCS RX7 164 yX3_howMany cX3_howMany 6 (some .int) 2 := ⟨⟨mcX3_howMany, mg2 (i := 25) (by decide +kernel) (by decide +kernel), mnX3, by decide +kernel, by decide⟩, msX3_howMany⟩
set_option maxRecDepth 100000 in
theorem mcX3_leastPower : Cond.code yX3_leastPower cX3_leastPower 5 (some .int) ∈ lw_g := mg2 (i := 30) (by decide +kernel) (by decide +kernel)
set_option maxRecDepth 100000 in
theorem msX3_leastPower : Cond.static yX3_leastPower ∈ lw_g := mg2 (i := 29) (by decide +kernel) (by decide +kernel)
set_option maxRecDepth 100000 in
theorem qX7_169 : PCS RX7 169 yX3_leastPower cX3_leastPower 5 (some .int) 2 := ⟨⟨mcX3_leastPower, mg2 (i := 28) (by decide +kernel) (by decide +kernel), mnX3, by decide +kernel, by decide⟩, msX3_leastPower⟩
set_option maxRecDepth 100000 in
theorem mcX3_along : Cond.code yX3_along cX3_along 8 (some .int) ∈ lw_g := mg2 (i := 46) (by decide +kernel) (by decide +kernel)
set_option maxRecDepth 100000 in
theorem msX3_along : Cond.static yX3_along ∈ lw_g := mg2 (i := 45) (by decide +kernel) (by decide +kernel)
set_option maxRecDepth 100000 in
theorem qX7_172 : PCS RX7 172 yX3_along cX3_along 8 (some .int) 4 := ⟨⟨mcX3_along, mg2 (i := 44) (by decide +kernel) (by decide +kernel), mnX3, by decide +kernel, by decide⟩, msX3_along⟩
set_option maxRecDepth 100000 in
theorem qX7_183 : PCS RX7 183 yX1_raised cX1_raised 6 (some .long) 2 := ⟨⟨mcX1_raised, mg2 (i := 69) (by decide +kernel) (by decide +kernel), mnX1, by decide +kernel, by decide⟩, msX1_raised⟩
set_option maxRecDepth 100000 in
theorem mcX7_isPart : Cond.code yX7_isPart cX7_isPart 1 (some .boolean) ∈ lw_g := mg2 (i := 104) (by decide +kernel) (by decide +kernel)
set_option maxRecDepth 100000 in
theorem msX7_isPart : Cond.static yX7_isPart ∈ lw_g := mg2 (i := 103) (by decide +kernel) (by decide +kernel)
set_option maxRecDepth 100000 in
theorem qX7_198 : PCS RX7 198 yX7_isPart cX7_isPart 1 (some .boolean) 1 := ⟨⟨mcX7_isPart, mg2 (i := 102) (by decide +kernel) (by decide +kernel), mnX7, by decide +kernel, by decide⟩, msX7_isPart⟩
set_option maxRecDepth 100000 in
theorem mcX1_part : Cond.code yX1_part cX1_part 7 (some .long) ∈ lw_g := mg2 (i := 133) (by decide +kernel) (by decide +kernel)
set_option maxRecDepth 100000 in
theorem msX1_part : Cond.static yX1_part ∈ lw_g := mg2 (i := 132) (by decide +kernel) (by decide +kernel)
set_option maxRecDepth 100000 in
theorem qX7_217 : PCS RX7 217 yX1_part cX1_part 7 (some .long) 3 := ⟨⟨mcX1_part, mg2 (i := 131) (by decide +kernel) (by decide +kernel), mnX1, by decide +kernel, by decide⟩, msX1_part⟩
set_option maxRecDepth 100000 in
theorem mcJ9_abs_067f4 : Cond.code yJ9_abs_067f4 cJ9_abs_067f4 2 (some .long) ∈ lw_g := mg2 (i := 175) (by decide +kernel) (by decide +kernel)
set_option maxRecDepth 100000 in
theorem msJ9_abs_067f4 : Cond.static yJ9_abs_067f4 ∈ lw_g := mg2 (i := 174) (by decide +kernel) (by decide +kernel)
set_option maxRecDepth 100000 in
theorem qX7_232 : PCS RX7 232 yJ9_abs_067f4 cJ9_abs_067f4 2 (some .long) 1 := ⟨⟨mcJ9_abs_067f4, mg2 (i := 173) (by decide +kernel) (by decide +kernel), mnJ9, by decide +kernel, by decide⟩, msJ9_abs_067f4⟩
set_option maxRecDepth 100000 in
theorem qX7_240 : PCS RX7 240 yJ9_max_f86c9 cJ9_max_f86c9 4 (some .long) 2 := ⟨⟨mcJ9_max_f86c9, mg2 (i := 181) (by decide +kernel) (by decide +kernel), mnJ9, by decide +kernel, by decide⟩, msJ9_max_f86c9⟩
set_option maxRecDepth 100000 in
theorem mcX1_setRunCounts : Cond.code yX1_setRunCounts cX1_setRunCounts 4 none ∈ lw_g := mg2 (i := 172) (by decide +kernel) (by decide +kernel)
set_option maxRecDepth 100000 in
theorem msX1_setRunCounts : Cond.static yX1_setRunCounts ∈ lw_g := mg2 (i := 171) (by decide +kernel) (by decide +kernel)
set_option maxRecDepth 100000 in
theorem qX7_244 : PCS RX7 244 yX1_setRunCounts cX1_setRunCounts 4 none 2 := ⟨⟨mcX1_setRunCounts, mg2 (i := 170) (by decide +kernel) (by decide +kernel), mnX1, by decide +kernel, by decide⟩, msX1_setRunCounts⟩
set_option maxRecDepth 100000 in
theorem mcX6_shortest : Cond.code yX6_shortest cX6_shortest 4 (some .int) ∈ lw_g := mg2 (i := 192) (by decide +kernel) (by decide +kernel)
set_option maxRecDepth 100000 in
theorem msX6_shortest : Cond.static yX6_shortest ∈ lw_g := mg2 (i := 191) (by decide +kernel) (by decide +kernel)
set_option maxRecDepth 100000 in
theorem qX7_248 : PCS RX7 248 yX6_shortest cX6_shortest 4 (some .int) 3 := ⟨⟨mcX6_shortest, mg2 (i := 190) (by decide +kernel) (by decide +kernel), mnX6, by decide +kernel, by decide⟩, msX6_shortest⟩
set_option maxRecDepth 100000 in
theorem qX7_251 : PCS RX7 251 yX6_lengthOf cX6_lengthOf 1 (some .int) 1 := ⟨⟨mcX6_lengthOf, mg2 (i := 204) (by decide +kernel) (by decide +kernel), mnX6, by decide +kernel, by decide⟩, msX6_lengthOf⟩
set_option maxRecDepth 100000 in
theorem mcX7_layTop : Cond.code yX7_layTop cX7_layTop 4 none ∈ lw_g := mg2 (i := 78) (by decide +kernel) (by decide +kernel)
set_option maxRecDepth 100000 in
theorem msX7_layTop : Cond.static yX7_layTop ∈ lw_g := mg2 (i := 77) (by decide +kernel) (by decide +kernel)
set_option maxRecDepth 100000 in
theorem qX7_279 : PCS RX7 279 yX7_layTop cX7_layTop 4 none 2 := ⟨⟨mcX7_layTop, mg2 (i := 76) (by decide +kernel) (by decide +kernel), mnX7, by decide +kernel, by decide⟩, msX7_layTop⟩
set_option maxRecDepth 100000 in
theorem mcX2_looseOf : Cond.code yX2_looseOf cX2_looseOf 3 (some .int) ∈ lw_g := mg2 (i := 116) (by decide +kernel) (by decide +kernel)
set_option maxRecDepth 100000 in
theorem msX2_looseOf : Cond.static yX2_looseOf ∈ lw_g := mg2 (i := 115) (by decide +kernel) (by decide +kernel)
set_option maxRecDepth 100000 in
theorem qX7_288 : PCS RX7 288 yX2_looseOf cX2_looseOf 3 (some .int) 2 := ⟨⟨mcX2_looseOf, mg2 (i := 114) (by decide +kernel) (by decide +kernel), mnX2, by decide +kernel, by decide⟩, msX2_looseOf⟩
set_option maxRecDepth 100000 in
theorem mcX1_setLooseCounts : Cond.code yX1_setLooseCounts cX1_setLooseCounts 7 none ∈ lw_g := mg2 (i := 168) (by decide +kernel) (by decide +kernel)
set_option maxRecDepth 100000 in
theorem msX1_setLooseCounts : Cond.static yX1_setLooseCounts ∈ lw_g := mg2 (i := 167) (by decide +kernel) (by decide +kernel)
set_option maxRecDepth 100000 in
theorem qX7_291 : PCS RX7 291 yX1_setLooseCounts cX1_setLooseCounts 7 none 2 := ⟨⟨mcX1_setLooseCounts, mg2 (i := 166) (by decide +kernel) (by decide +kernel), mnX1, by decide +kernel, by decide⟩, msX1_setLooseCounts⟩
set_option maxRecDepth 100000 in
theorem qX7_294 : PCS RX7 294 yX1_choices cX1_choices 5 (some .long) 2 := ⟨⟨mcX1_choices, mg2 (i := 121) (by decide +kernel) (by decide +kernel), mnX1, by decide +kernel, by decide⟩, msX1_choices⟩
set_option maxRecDepth 100000 in
theorem mcX1_setBlocks : Cond.code yX1_setBlocks cX1_setBlocks 5 none ∈ lw_g := mg2 (i := 126) (by decide +kernel) (by decide +kernel)
set_option maxRecDepth 100000 in
theorem msX1_setBlocks : Cond.static yX1_setBlocks ∈ lw_g := mg2 (i := 125) (by decide +kernel) (by decide +kernel)
set_option maxRecDepth 100000 in
theorem qX7_298 : PCS RX7 298 yX1_setBlocks cX1_setBlocks 5 none 3 := ⟨⟨mcX1_setBlocks, mg2 (i := 124) (by decide +kernel) (by decide +kernel), mnX1, by decide +kernel, by decide⟩, msX1_setBlocks⟩
set_option maxRecDepth 100000 in
theorem mcJ9_max_7cf53 : Cond.code yJ9_max_7cf53 cJ9_max_7cf53 2 (some .int) ∈ lw_g := mg2 (i := 149) (by decide +kernel) (by decide +kernel)
set_option maxRecDepth 100000 in
theorem msJ9_max_7cf53 : Cond.static yJ9_max_7cf53 ∈ lw_g := mg2 (i := 148) (by decide +kernel) (by decide +kernel)
set_option maxRecDepth 100000 in
theorem qX7_302 : PCS RX7 302 yJ9_max_7cf53 cJ9_max_7cf53 2 (some .int) 2 := ⟨⟨mcJ9_max_7cf53, mg2 (i := 147) (by decide +kernel) (by decide +kernel), mnJ9, by decide +kernel, by decide⟩, msJ9_max_7cf53⟩
set_option maxRecDepth 100000 in
theorem mcJ9_min_7cf53 : Cond.code yJ9_min_7cf53 cJ9_min_7cf53 2 (some .int) ∈ lw_g := mg2 (i := 152) (by decide +kernel) (by decide +kernel)
set_option maxRecDepth 100000 in
theorem msJ9_min_7cf53 : Cond.static yJ9_min_7cf53 ∈ lw_g := mg2 (i := 151) (by decide +kernel) (by decide +kernel)
set_option maxRecDepth 100000 in
theorem qX7_304 : PCS RX7 304 yJ9_min_7cf53 cJ9_min_7cf53 2 (some .int) 2 := ⟨⟨mcJ9_min_7cf53, mg2 (i := 150) (by decide +kernel) (by decide +kernel), mnJ9, by decide +kernel, by decide⟩, msJ9_min_7cf53⟩
set_option maxRecDepth 100000 in
theorem mcX1_splits : Cond.code yX1_splits cX1_splits 4 (some .long) ∈ lw_g := mg2 (i := 155) (by decide +kernel) (by decide +kernel)
set_option maxRecDepth 100000 in
theorem msX1_splits : Cond.static yX1_splits ∈ lw_g := mg2 (i := 154) (by decide +kernel) (by decide +kernel)
set_option maxRecDepth 100000 in
theorem qX7_307 : PCS RX7 307 yX1_splits cX1_splits 4 (some .long) 4 := ⟨⟨mcX1_splits, mg2 (i := 153) (by decide +kernel) (by decide +kernel), mnX1, by decide +kernel, by decide⟩, msX1_splits⟩
set_option maxRecDepth 100000 in
theorem qX7_68 : PCV RX7 68 yX7_ranked cX7_ranked 2 (some .int) 1 3 := ⟨⟨mcX7_ranked, mg1 (i := 141) (by decide +kernel) (by decide +kernel), mnX7, by decide +kernel, by decide⟩, miX7_ranked, meX7_ranked, ⟨_, rfl, rfl⟩⟩
set_option maxRecDepth 100000 in
theorem mcX5_isMissing : Cond.code yX5_isMissing cX5_isMissing 1 (some .boolean) ∈ lw_g := mg1 (i := 168) (by decide +kernel) (by decide +kernel)
set_option maxRecDepth 100000 in
theorem miX5_isMissing : Cond.instanceMethod yX5_isMissing ∈ lw_g := mg1 (i := 166) (by decide +kernel) (by decide +kernel)
set_option maxRecDepth 100000 in
theorem meX5_isMissing : Cond.selects (yX5_isMissing).cls yX5_isMissing yX5_isMissing ∈ lw_g := mg1 (i := 167) (by decide +kernel) (by decide +kernel)
set_option maxRecDepth 100000 in
theorem mnX5 : Cond.initialized RX5 ∈ lw_g := mg1 (i := 4) (by decide +kernel) (by decide +kernel)
set_option maxRecDepth 100000 in
theorem qX7_88 : PCV RX7 88 yX5_isMissing cX5_isMissing 1 (some .boolean) 0 2 := ⟨⟨mcX5_isMissing, mg1 (i := 165) (by decide +kernel) (by decide +kernel), mnX5, by decide +kernel, by decide⟩, miX5_isMissing, meX5_isMissing, ⟨_, rfl, rfl⟩⟩
set_option maxRecDepth 100000 in
theorem mcX5_holds : Cond.code yX5_holds cX5_holds 3 (some .boolean) ∈ lw_g := mg1 (i := 172) (by decide +kernel) (by decide +kernel)
set_option maxRecDepth 100000 in
theorem miX5_holds : Cond.instanceMethod yX5_holds ∈ lw_g := mg1 (i := 170) (by decide +kernel) (by decide +kernel)
set_option maxRecDepth 100000 in
theorem meX5_holds : Cond.selects (yX5_holds).cls yX5_holds yX5_holds ∈ lw_g := mg1 (i := 171) (by decide +kernel) (by decide +kernel)
set_option maxRecDepth 100000 in
theorem qX7_95 : PCV RX7 95 yX5_holds cX5_holds 3 (some .boolean) 2 2 := ⟨⟨mcX5_holds, mg1 (i := 169) (by decide +kernel) (by decide +kernel), mnX5, by decide +kernel, by decide⟩, miX5_holds, meX5_holds, ⟨_, rfl, rfl⟩⟩
set_option maxRecDepth 100000 in
theorem mcX7_isPack : Cond.code yX7_isPack cX7_isPack 2 (some .boolean) ∈ lw_g := mg1 (i := 186) (by decide +kernel) (by decide +kernel)
set_option maxRecDepth 100000 in
theorem miX7_isPack : Cond.instanceMethod yX7_isPack ∈ lw_g := mg1 (i := 185) (by decide +kernel) (by decide +kernel)
set_option maxRecDepth 100000 in
theorem meX7_isPack : Cond.selects (yX7_isPack).cls yX7_isPack yX7_isPack ∈ lw_g := mgs (q := (⟨"ShuffleDesk", "isPack", "(I)Z"⟩, 14)) (List.mem_append_left _ (List.mem_of_getElem? (i := 0) (by decide +kernel))) (by decide +kernel)
set_option maxRecDepth 100000 in
theorem qX7_112 : PCV RX7 112 yX7_isPack cX7_isPack 2 (some .boolean) 1 3 := ⟨⟨mcX7_isPack, mg1 (i := 183) (by decide +kernel) (by decide +kernel), mnX7, by decide +kernel, by decide⟩, miX7_isPack, meX7_isPack, ⟨_, rfl, rfl⟩⟩
set_option maxRecDepth 100000 in
theorem mcX7_isPlace : Cond.code yX7_isPlace cX7_isPlace 2 (some .boolean) ∈ lw_g := mg1 (i := 190) (by decide +kernel) (by decide +kernel)
set_option maxRecDepth 100000 in
theorem miX7_isPlace : Cond.instanceMethod yX7_isPlace ∈ lw_g := mg1 (i := 189) (by decide +kernel) (by decide +kernel)
set_option maxRecDepth 100000 in
theorem meX7_isPlace : Cond.selects (yX7_isPlace).cls yX7_isPlace yX7_isPlace ∈ lw_g := mgs (q := (⟨"ShuffleDesk", "isPlace", "(I)Z"⟩, 14)) (List.mem_append_left _ (List.mem_of_getElem? (i := 1) (by decide +kernel))) (by decide +kernel)
set_option maxRecDepth 100000 in
theorem qX7_115 : PCV RX7 115 yX7_isPlace cX7_isPlace 2 (some .boolean) 1 3 := ⟨⟨mcX7_isPlace, mg1 (i := 187) (by decide +kernel) (by decide +kernel), mnX7, by decide +kernel, by decide⟩, miX7_isPlace, meX7_isPlace, ⟨_, rfl, rfl⟩⟩
set_option maxRecDepth 100000 in
theorem mcX7_addShuffle : Cond.code yX7_addShuffle cX7_addShuffle 3 (some .int) ∈ lw_g := mg1 (i := 211) (by decide +kernel) (by decide +kernel)
set_option maxRecDepth 100000 in
theorem miX7_addShuffle : Cond.instanceMethod yX7_addShuffle ∈ lw_g := mg1 (i := 210) (by decide +kernel) (by decide +kernel)
set_option maxRecDepth 100000 in
theorem meX7_addShuffle : Cond.selects (yX7_addShuffle).cls yX7_addShuffle yX7_addShuffle ∈ lw_g := mgs (q := (⟨"ShuffleDesk", "addShuffle", "(II)I"⟩, 14)) (List.mem_append_left _ (List.mem_of_getElem? (i := 2) (by decide +kernel))) (by decide +kernel)
set_option maxRecDepth 100000 in
theorem qX7_132 : PCV RX7 132 yX7_addShuffle cX7_addShuffle 3 (some .int) 2 3 := ⟨⟨mcX7_addShuffle, mg1 (i := 208) (by decide +kernel) (by decide +kernel), mnX7, by decide +kernel, by decide⟩, miX7_addShuffle, meX7_addShuffle, ⟨_, rfl, rfl⟩⟩
set_option maxRecDepth 100000 in
theorem mcX7_isOdd : Cond.code yX7_isOdd cX7_isOdd 1 (some .boolean) ∈ lw_g := mg1 (i := 219) (by decide +kernel) (by decide +kernel)
set_option maxRecDepth 100000 in
theorem miX7_isOdd : Cond.instanceMethod yX7_isOdd ∈ lw_g := mg1 (i := 218) (by decide +kernel) (by decide +kernel)
set_option maxRecDepth 100000 in
theorem meX7_isOdd : Cond.selects (yX7_isOdd).cls yX7_isOdd yX7_isOdd ∈ lw_g := mgs (q := (⟨"ShuffleDesk", "isOdd", "()Z"⟩, 14)) (List.mem_append_left _ (List.mem_of_getElem? (i := 3) (by decide +kernel))) (by decide +kernel)
set_option maxRecDepth 100000 in
theorem qX7_136 : PCV RX7 136 yX7_isOdd cX7_isOdd 1 (some .boolean) 0 3 := ⟨⟨mcX7_isOdd, mg1 (i := 216) (by decide +kernel) (by decide +kernel), mnX7, by decide +kernel, by decide⟩, miX7_isOdd, meX7_isOdd, ⟨_, rfl, rfl⟩⟩
set_option maxRecDepth 100000 in
theorem mcX7_isShuffle : Cond.code yX7_isShuffle cX7_isShuffle 2 (some .boolean) ∈ lw_g := mg2 (i := 5) (by decide +kernel) (by decide +kernel)
set_option maxRecDepth 100000 in
theorem miX7_isShuffle : Cond.instanceMethod yX7_isShuffle ∈ lw_g := mg2 (i := 4) (by decide +kernel) (by decide +kernel)
set_option maxRecDepth 100000 in
theorem meX7_isShuffle : Cond.selects (yX7_isShuffle).cls yX7_isShuffle yX7_isShuffle ∈ lw_g := mgs (q := (⟨"ShuffleDesk", "isShuffle", "(I)Z"⟩, 14)) (List.mem_append_left _ (List.mem_of_getElem? (i := 4) (by decide +kernel))) (by decide +kernel)
set_option maxRecDepth 100000 in
theorem qX7_148 : PCV RX7 148 yX7_isShuffle cX7_isShuffle 2 (some .boolean) 1 3 := ⟨⟨mcX7_isShuffle, mg2 (i := 2) (by decide +kernel) (by decide +kernel), mnX7, by decide +kernel, by decide⟩, miX7_isShuffle, meX7_isShuffle, ⟨_, rfl, rfl⟩⟩
set_option maxRecDepth 100000 in
theorem mcX4_hasMove : Cond.code yX4_hasMove cX4_hasMove 1 (some .boolean) ∈ lw_g := mg2 (i := 9) (by decide +kernel) (by decide +kernel)
set_option maxRecDepth 100000 in
theorem miX4_hasMove : Cond.instanceMethod yX4_hasMove ∈ lw_g := mg2 (i := 7) (by decide +kernel) (by decide +kernel)
set_option maxRecDepth 100000 in
theorem meX4_hasMove : Cond.selects (yX4_hasMove).cls yX4_hasMove yX4_hasMove ∈ lw_g := mg2 (i := 8) (by decide +kernel) (by decide +kernel)
set_option maxRecDepth 100000 in
theorem mnX4 : Cond.initialized RX4 ∈ lw_g := mg1 (i := 3) (by decide +kernel) (by decide +kernel)
set_option maxRecDepth 100000 in
theorem qX7_151 : PCV RX7 151 yX4_hasMove cX4_hasMove 1 (some .boolean) 0 1 := ⟨⟨mcX4_hasMove, mg2 (i := 6) (by decide +kernel) (by decide +kernel), mnX4, by decide +kernel, by decide⟩, miX4_hasMove, meX4_hasMove, ⟨_, rfl, rfl⟩⟩
set_option maxRecDepth 100000 in
theorem mcX4_isUnder : Cond.code yX4_isUnder cX4_isUnder 4 (some .boolean) ∈ lw_g := mg2 (i := 54) (by decide +kernel) (by decide +kernel)
set_option maxRecDepth 100000 in
theorem miX4_isUnder : Cond.instanceMethod yX4_isUnder ∈ lw_g := mg2 (i := 52) (by decide +kernel) (by decide +kernel)
set_option maxRecDepth 100000 in
theorem meX4_isUnder : Cond.selects (yX4_isUnder).cls yX4_isUnder yX4_isUnder ∈ lw_g := mg2 (i := 53) (by decide +kernel) (by decide +kernel)
set_option maxRecDepth 100000 in
theorem qX7_176 : PCV RX7 176 yX4_isUnder cX4_isUnder 4 (some .boolean) 1 1 := ⟨⟨mcX4_isUnder, mg2 (i := 51) (by decide +kernel) (by decide +kernel), mnX4, by decide +kernel, by decide⟩, miX4_isUnder, meX4_isUnder, ⟨_, rfl, rfl⟩⟩
set_option maxRecDepth 100000 in
theorem mcX7_lotsOf : Cond.code yX7_lotsOf cX7_lotsOf 2 (some .int) ∈ lw_g := mg2 (i := 68) (by decide +kernel) (by decide +kernel)
set_option maxRecDepth 100000 in
theorem miX7_lotsOf : Cond.instanceMethod yX7_lotsOf ∈ lw_g := mg2 (i := 67) (by decide +kernel) (by decide +kernel)
set_option maxRecDepth 100000 in
theorem meX7_lotsOf : Cond.selects (yX7_lotsOf).cls yX7_lotsOf yX7_lotsOf ∈ lw_g := mgs (q := (⟨"ShuffleDesk", "lotsOf", "(LShuffleDesk$Shuffle;)I"⟩, 14)) (List.mem_append_left _ (List.mem_of_getElem? (i := 5) (by decide +kernel))) (by decide +kernel)
set_option maxRecDepth 100000 in
theorem qX7_179 : PCV RX7 179 yX7_lotsOf cX7_lotsOf 2 (some .int) 1 3 := ⟨⟨mcX7_lotsOf, mg2 (i := 65) (by decide +kernel) (by decide +kernel), mnX7, by decide +kernel, by decide⟩, miX7_lotsOf, meX7_lotsOf, ⟨_, rfl, rfl⟩⟩
set_option maxRecDepth 100000 in
theorem mcX7_layByLots : Cond.code yX7_layByLots cX7_layByLots 3 none ∈ lw_g := mg2 (i := 75) (by decide +kernel) (by decide +kernel)
set_option maxRecDepth 100000 in
theorem miX7_layByLots : Cond.instanceMethod yX7_layByLots ∈ lw_g := mg2 (i := 74) (by decide +kernel) (by decide +kernel)
set_option maxRecDepth 100000 in
theorem meX7_layByLots : Cond.selects (yX7_layByLots).cls yX7_layByLots yX7_layByLots ∈ lw_g := mgs (q := (⟨"ShuffleDesk", "layByLots", "(LShuffleDesk$Shuffle;[I)V"⟩, 14)) (List.mem_append_left _ (List.mem_of_getElem? (i := 6) (by decide +kernel))) (by decide +kernel)
set_option maxRecDepth 100000 in
theorem qX7_189 : PCV RX7 189 yX7_layByLots cX7_layByLots 3 none 2 3 := ⟨⟨mcX7_layByLots, mg2 (i := 72) (by decide +kernel) (by decide +kernel), mnX7, by decide +kernel, by decide⟩, miX7_layByLots, meX7_layByLots, ⟨_, rfl, rfl⟩⟩
set_option maxRecDepth 100000 in
theorem mcX7_drawnLot : Cond.code yX7_drawnLot cX7_drawnLot 4 (some .int) ∈ lw_g := mg2 (i := 91) (by decide +kernel) (by decide +kernel)
set_option maxRecDepth 100000 in
theorem miX7_drawnLot : Cond.instanceMethod yX7_drawnLot ∈ lw_g := mg2 (i := 90) (by decide +kernel) (by decide +kernel)
set_option maxRecDepth 100000 in
theorem meX7_drawnLot : Cond.selects (yX7_drawnLot).cls yX7_drawnLot yX7_drawnLot ∈ lw_g := mgs (q := (⟨"ShuffleDesk", "drawnLot", "(I)I"⟩, 14)) (List.mem_append_left _ (List.mem_of_getElem? (i := 8) (by decide +kernel))) (by decide +kernel)
set_option maxRecDepth 100000 in
theorem qX7_195 : PCV RX7 195 yX7_drawnLot cX7_drawnLot 4 (some .int) 1 3 := ⟨⟨mcX7_drawnLot, mg2 (i := 88) (by decide +kernel) (by decide +kernel), mnX7, by decide +kernel, by decide⟩, miX7_drawnLot, meX7_drawnLot, ⟨_, rfl, rfl⟩⟩
set_option maxRecDepth 100000 in
theorem mcX7_hasChances : Cond.code yX7_hasChances cX7_hasChances 3 (some .boolean) ∈ lw_g := mg2 (i := 108) (by decide +kernel) (by decide +kernel)
set_option maxRecDepth 100000 in
theorem miX7_hasChances : Cond.instanceMethod yX7_hasChances ∈ lw_g := mg2 (i := 107) (by decide +kernel) (by decide +kernel)
set_option maxRecDepth 100000 in
theorem meX7_hasChances : Cond.selects (yX7_hasChances).cls yX7_hasChances yX7_hasChances ∈ lw_g := mgs (q := (⟨"ShuffleDesk", "hasChances", "(LShuffleDesk$Shuffle;I)Z"⟩, 14)) (List.mem_append_left _ (List.mem_of_getElem? (i := 9) (by decide +kernel))) (by decide +kernel)
set_option maxRecDepth 100000 in
theorem qX7_201 : PCV RX7 201 yX7_hasChances cX7_hasChances 3 (some .boolean) 2 3 := ⟨⟨mcX7_hasChances, mg2 (i := 105) (by decide +kernel) (by decide +kernel), mnX7, by decide +kernel, by decide⟩, miX7_hasChances, meX7_hasChances, ⟨_, rfl, rfl⟩⟩
set_option maxRecDepth 100000 in
theorem mcX7_levelOf : Cond.code yX7_levelOf cX7_levelOf 3 (some .int) ∈ lw_g := mg2 (i := 113) (by decide +kernel) (by decide +kernel)
set_option maxRecDepth 100000 in
theorem miX7_levelOf : Cond.instanceMethod yX7_levelOf ∈ lw_g := mg2 (i := 112) (by decide +kernel) (by decide +kernel)
set_option maxRecDepth 100000 in
theorem meX7_levelOf : Cond.selects (yX7_levelOf).cls yX7_levelOf yX7_levelOf ∈ lw_g := mgs (q := (⟨"ShuffleDesk", "levelOf", "(LShuffleDesk$Shuffle;[I)I"⟩, 14)) (List.mem_append_left _ (List.mem_of_getElem? (i := 10) (by decide +kernel))) (by decide +kernel)
set_option maxRecDepth 100000 in
theorem qX7_205 : PCV RX7 205 yX7_levelOf cX7_levelOf 3 (some .int) 2 3 := ⟨⟨mcX7_levelOf, mg2 (i := 110) (by decide +kernel) (by decide +kernel), mnX7, by decide +kernel, by decide⟩, miX7_levelOf, meX7_levelOf, ⟨_, rfl, rfl⟩⟩
set_option maxRecDepth 100000 in
theorem mcX7_rowsToLevel : Cond.code yX7_rowsToLevel cX7_rowsToLevel 7 (some .long) ∈ lw_g := mg2 (i := 120) (by decide +kernel) (by decide +kernel)
set_option maxRecDepth 100000 in
theorem miX7_rowsToLevel : Cond.instanceMethod yX7_rowsToLevel ∈ lw_g := mg2 (i := 119) (by decide +kernel) (by decide +kernel)
set_option maxRecDepth 100000 in
theorem meX7_rowsToLevel : Cond.selects (yX7_rowsToLevel).cls yX7_rowsToLevel yX7_rowsToLevel ∈ lw_g := mgs (q := (⟨"ShuffleDesk", "rowsToLevel", "(LShuffleDesk$Shuffle;II)J"⟩, 14)) (List.mem_append_left _ (List.mem_of_getElem? (i := 11) (by decide +kernel))) (by decide +kernel)
set_option maxRecDepth 100000 in
theorem qX7_209 : PCV RX7 209 yX7_rowsToLevel cX7_rowsToLevel 7 (some .long) 3 3 := ⟨⟨mcX7_rowsToLevel, mg2 (i := 117) (by decide +kernel) (by decide +kernel), mnX7, by decide +kernel, by decide⟩, miX7_rowsToLevel, meX7_rowsToLevel, ⟨_, rfl, rfl⟩⟩
set_option maxRecDepth 100000 in
theorem mcX7_allRows : Cond.code yX7_allRows cX7_allRows 3 (some .long) ∈ lw_g := mg2 (i := 130) (by decide +kernel) (by decide +kernel)
set_option maxRecDepth 100000 in
theorem miX7_allRows : Cond.instanceMethod yX7_allRows ∈ lw_g := mg2 (i := 129) (by decide +kernel) (by decide +kernel)
set_option maxRecDepth 100000 in
theorem meX7_allRows : Cond.selects (yX7_allRows).cls yX7_allRows yX7_allRows ∈ lw_g := mgs (q := (⟨"ShuffleDesk", "allRows", "(LShuffleDesk$Shuffle;I)J"⟩, 14)) (List.mem_append_left _ (List.mem_of_getElem? (i := 12) (by decide +kernel))) (by decide +kernel)
set_option maxRecDepth 100000 in
theorem qX7_213 : PCV RX7 213 yX7_allRows cX7_allRows 3 (some .long) 2 3 := ⟨⟨mcX7_allRows, mg2 (i := 127) (by decide +kernel) (by decide +kernel), mnX7, by decide +kernel, by decide⟩, miX7_allRows, meX7_allRows, ⟨_, rfl, rfl⟩⟩
set_option maxRecDepth 100000 in
theorem mcX7_topLotsToPlace : Cond.code yX7_topLotsToPlace cX7_topLotsToPlace 3 (some .int) ∈ lw_g := mg2 (i := 142) (by decide +kernel) (by decide +kernel)
set_option maxRecDepth 100000 in
theorem miX7_topLotsToPlace : Cond.instanceMethod yX7_topLotsToPlace ∈ lw_g := mg2 (i := 141) (by decide +kernel) (by decide +kernel)
set_option maxRecDepth 100000 in
theorem meX7_topLotsToPlace : Cond.selects (yX7_topLotsToPlace).cls yX7_topLotsToPlace yX7_topLotsToPlace ∈ lw_g := mgs (q := (⟨"ShuffleDesk", "topLotsToPlace", "(II)I"⟩, 14)) (List.mem_append_left _ (List.mem_of_getElem? (i := 13) (by decide +kernel))) (by decide +kernel)
set_option maxRecDepth 100000 in
theorem qX7_221 : PCV RX7 221 yX7_topLotsToPlace cX7_topLotsToPlace 3 (some .int) 2 3 := ⟨⟨mcX7_topLotsToPlace, mg2 (i := 139) (by decide +kernel) (by decide +kernel), mnX7, by decide +kernel, by decide⟩, miX7_topLotsToPlace, meX7_topLotsToPlace, ⟨_, rfl, rfl⟩⟩
set_option maxRecDepth 100000 in
theorem mcX7_riffleRowsToPlace : Cond.code yX7_riffleRowsToPlace cX7_riffleRowsToPlace 9 (some .long) ∈ lw_g := mg2 (i := 146) (by decide +kernel) (by decide +kernel)
set_option maxRecDepth 100000 in
theorem miX7_riffleRowsToPlace : Cond.instanceMethod yX7_riffleRowsToPlace ∈ lw_g := mg2 (i := 145) (by decide +kernel) (by decide +kernel)
set_option maxRecDepth 100000 in
theorem meX7_riffleRowsToPlace : Cond.selects (yX7_riffleRowsToPlace).cls yX7_riffleRowsToPlace yX7_riffleRowsToPlace ∈ lw_g := mgs (q := (⟨"ShuffleDesk", "riffleRowsToPlace", "(III)J"⟩, 14)) (List.mem_append_left _ (List.mem_of_getElem? (i := 14) (by decide +kernel))) (by decide +kernel)
set_option maxRecDepth 100000 in
theorem qX7_224 : PCV RX7 224 yX7_riffleRowsToPlace cX7_riffleRowsToPlace 9 (some .long) 3 3 := ⟨⟨mcX7_riffleRowsToPlace, mg2 (i := 143) (by decide +kernel) (by decide +kernel), mnX7, by decide +kernel, by decide⟩, miX7_riffleRowsToPlace, meX7_riffleRowsToPlace, ⟨_, rfl, rfl⟩⟩
set_option maxRecDepth 100000 in
theorem mcX7_countLevels : Cond.code yX7_countLevels cX7_countLevels 2 none ∈ lw_g := mg2 (i := 165) (by decide +kernel) (by decide +kernel)
set_option maxRecDepth 100000 in
theorem miX7_countLevels : Cond.instanceMethod yX7_countLevels ∈ lw_g := mg2 (i := 164) (by decide +kernel) (by decide +kernel)
set_option maxRecDepth 100000 in
theorem meX7_countLevels : Cond.selects (yX7_countLevels).cls yX7_countLevels yX7_countLevels ∈ lw_g := mgs (q := (⟨"ShuffleDesk", "countLevels", "(LShuffleDesk$Shuffle;)V"⟩, 14)) (List.mem_append_left _ (List.mem_of_getElem? (i := 15) (by decide +kernel))) (by decide +kernel)
set_option maxRecDepth 100000 in
theorem qX7_228 : PCV RX7 228 yX7_countLevels cX7_countLevels 2 none 1 3 := ⟨⟨mcX7_countLevels, mg2 (i := 162) (by decide +kernel) (by decide +kernel), mnX7, by decide +kernel, by decide⟩, miX7_countLevels, meX7_countLevels, ⟨_, rfl, rfl⟩⟩
set_option maxRecDepth 100000 in
theorem mcX0_forget : Cond.code yX0_forget cX0_forget 1 none ∈ lw_g := mg2 (i := 222) (by decide +kernel) (by decide +kernel)
set_option maxRecDepth 100000 in
theorem miX0_forget : Cond.instanceMethod yX0_forget ∈ lw_g := mg2 (i := 220) (by decide +kernel) (by decide +kernel)
set_option maxRecDepth 100000 in
theorem meX0_forget : Cond.selects (yX0_forget).cls yX0_forget yX0_forget ∈ lw_g := mg2 (i := 221) (by decide +kernel) (by decide +kernel)
set_option maxRecDepth 100000 in
theorem qX7_257 : PCV RX7 257 yX0_forget cX0_forget 1 none 0 0 := ⟨⟨mcX0_forget, mg2 (i := 219) (by decide +kernel) (by decide +kernel), mnX0, by decide +kernel, by decide⟩, miX0_forget, meX0_forget, ⟨_, rfl, rfl⟩⟩
set_option maxRecDepth 100000 in
theorem mcX0_answer : Cond.code yX0_answer cX0_answer 5 (some .int) ∈ lw_g := mg2 (i := 226) (by decide +kernel) (by decide +kernel)
set_option maxRecDepth 100000 in
theorem miX0_answer : Cond.instanceMethod yX0_answer ∈ lw_g := mg2 (i := 224) (by decide +kernel) (by decide +kernel)
set_option maxRecDepth 100000 in
theorem meX0_answer : Cond.selects (yX0_answer).cls yX0_answer yX0_answer ∈ lw_g := mg2 (i := 225) (by decide +kernel) (by decide +kernel)
set_option maxRecDepth 100000 in
theorem qX7_260 : PCV RX7 260 yX0_answer cX0_answer 5 (some .int) 4 0 := ⟨⟨mcX0_answer, mg2 (i := 223) (by decide +kernel) (by decide +kernel), mnX0, by decide +kernel, by decide⟩, miX0_answer, meX0_answer, ⟨_, rfl, rfl⟩⟩
set_option maxRecDepth 100000 in
theorem mcX5_clear : Cond.code yX5_clear cX5_clear 4 none ∈ lw_g := mg3 (i := 16) (by decide +kernel) (by decide +kernel)
set_option maxRecDepth 100000 in
theorem miX5_clear : Cond.instanceMethod yX5_clear ∈ lw_g := mg3 (i := 14) (by decide +kernel) (by decide +kernel)
set_option maxRecDepth 100000 in
theorem meX5_clear : Cond.selects (yX5_clear).cls yX5_clear yX5_clear ∈ lw_g := mg3 (i := 15) (by decide +kernel) (by decide +kernel)
set_option maxRecDepth 100000 in
theorem qX7_270 : PCV RX7 270 yX5_clear cX5_clear 4 none 2 2 := ⟨⟨mcX5_clear, mg3 (i := 13) (by decide +kernel) (by decide +kernel), mnX5, by decide +kernel, by decide⟩, miX5_clear, meX5_clear, ⟨_, rfl, rfl⟩⟩
set_option maxRecDepth 100000 in
theorem mcX5_narrowed : Cond.code yX5_narrowed cX5_narrowed 2 (some .int) ∈ lw_g := mg3 (i := 24) (by decide +kernel) (by decide +kernel)
set_option maxRecDepth 100000 in
theorem miX5_narrowed : Cond.instanceMethod yX5_narrowed ∈ lw_g := mg3 (i := 22) (by decide +kernel) (by decide +kernel)
set_option maxRecDepth 100000 in
theorem meX5_narrowed : Cond.selects (yX5_narrowed).cls yX5_narrowed yX5_narrowed ∈ lw_g := mg3 (i := 23) (by decide +kernel) (by decide +kernel)
set_option maxRecDepth 100000 in
theorem qX7_274 : PCV RX7 274 yX5_narrowed cX5_narrowed 2 (some .int) 1 2 := ⟨⟨mcX5_narrowed, mg3 (i := 21) (by decide +kernel) (by decide +kernel), mnX5, by decide +kernel, by decide⟩, miX5_narrowed, meX5_narrowed, ⟨_, rfl, rfl⟩⟩
set_option maxRecDepth 100000 in
theorem mcX7_layRiffle : Cond.code yX7_layRiffle cX7_layRiffle 6 none ∈ lw_g := mg2 (i := 82) (by decide +kernel) (by decide +kernel)
set_option maxRecDepth 100000 in
theorem miX7_layRiffle : Cond.instanceMethod yX7_layRiffle ∈ lw_g := mg2 (i := 81) (by decide +kernel) (by decide +kernel)
set_option maxRecDepth 100000 in
theorem meX7_layRiffle : Cond.selects (yX7_layRiffle).cls yX7_layRiffle yX7_layRiffle ∈ lw_g := mgs (q := (⟨"ShuffleDesk", "layRiffle", "([II)V"⟩, 14)) (List.mem_append_left _ (List.mem_of_getElem? (i := 7) (by decide +kernel))) (by decide +kernel)
set_option maxRecDepth 100000 in
theorem qX7_283 : PCV RX7 283 yX7_layRiffle cX7_layRiffle 6 none 2 3 := ⟨⟨mcX7_layRiffle, mg2 (i := 79) (by decide +kernel) (by decide +kernel), mnX7, by decide +kernel, by decide⟩, miX7_layRiffle, meX7_layRiffle, ⟨_, rfl, rfl⟩⟩
set_option maxRecDepth 100000 in
theorem kX7_193 : Cond.constantLong RX7 193 (-4611686018427387904) ∈ lw_g := mg2 (i := 87) (by decide +kernel) (by decide +kernel)
set_option maxRecDepth 100000 in
theorem kX7_238 : Cond.constantLong RX7 238 (2) ∈ lw_g := mg2 (i := 176) (by decide +kernel) (by decide +kernel)
set_option maxRecDepth 100000 in
theorem kX7_286 : Cond.constantLong RX7 286 (10) ∈ lw_g := mg2 (i := 109) (by decide +kernel) (by decide +kernel)
set_option maxRecDepth 100000 in
theorem kX7_277 : Cond.constant RX7 277 (1048576) ∈ lw_g := mg2 (i := 92) (by decide +kernel) (by decide +kernel)
set_option maxRecDepth 100000 in
theorem kX7_278 : Cond.constant RX7 278 (1103515245) ∈ lw_g := mg2 (i := 93) (by decide +kernel) (by decide +kernel)
set_option maxRecDepth 100000 in
theorem wX7_33 : PFW RX7 33 3 4 := ⟨(RX7, TX7, 14), rfl, uwX7, by decide, mg1 (i := 94) (by decide +kernel) (by decide +kernel), by decide +kernel, by decide +kernel, ⟨tyX7, tyX7_ok⟩, nmX7⟩
set_option maxRecDepth 100000 in
theorem wX7_37 : PFW RX7 37 3 5 := ⟨(RX7, TX7, 14), rfl, uwX7, by decide, mg1 (i := 95) (by decide +kernel) (by decide +kernel), by decide +kernel, by decide +kernel, ⟨tyX7, tyX7_ok⟩, nmX7⟩
set_option maxRecDepth 100000 in
theorem wX7_40 : PFW RX7 40 3 6 := ⟨(RX7, TX7, 14), rfl, uwX7, by decide, mg1 (i := 96) (by decide +kernel) (by decide +kernel), by decide +kernel, by decide +kernel, ⟨tyX7, tyX7_ok⟩, nmX7⟩
set_option maxRecDepth 100000 in
theorem wX7_43 : PFW RX7 43 3 7 := ⟨(RX7, TX7, 14), rfl, uwX7, by decide, mg1 (i := 97) (by decide +kernel) (by decide +kernel), by decide +kernel, by decide +kernel, ⟨tyX7, tyX7_ok⟩, nmX7⟩
set_option maxRecDepth 100000 in
theorem wX7_158 : PFW RX7 158 1 1 := ⟨(RX4, TX4, 3), rfl, uwX4, by decide, mg1 (i := 61) (by decide +kernel) (by decide +kernel), by decide +kernel, by decide +kernel, ⟨tyX4, tyX4_ok⟩, nmX4⟩
set_option maxRecDepth 100000 in
theorem wX7_161 : PFW RX7 161 1 2 := ⟨(RX4, TX4, 3), rfl, uwX4, by decide, mg1 (i := 64) (by decide +kernel) (by decide +kernel), by decide +kernel, by decide +kernel, ⟨tyX4, tyX4_ok⟩, nmX4⟩
set_option maxRecDepth 100000 in
theorem fX8_7 : PFL RX8 7 4 0 := ⟨(RX8, TX8, 24), rfl, uwX8, by decide, mg3 (i := 35) (by decide +kernel) (by decide +kernel)⟩
set_option maxRecDepth 100000 in
theorem fX8_13 : PFL RX8 13 4 4 := ⟨(RX8, TX8, 24), rfl, uwX8, by decide, mg3 (i := 39) (by decide +kernel) (by decide +kernel)⟩
set_option maxRecDepth 100000 in
theorem fX8_17 : PFL RX8 17 4 5 := ⟨(RX8, TX8, 24), rfl, uwX8, by decide, mg3 (i := 40) (by decide +kernel) (by decide +kernel)⟩
set_option maxRecDepth 100000 in
theorem fX8_20 : PFL RX8 20 4 6 := ⟨(RX8, TX8, 24), rfl, uwX8, by decide, mg3 (i := 41) (by decide +kernel) (by decide +kernel)⟩
set_option maxRecDepth 100000 in
theorem fX8_23 : PFL RX8 23 4 7 := ⟨(RX8, TX8, 24), rfl, uwX8, by decide, mg3 (i := 42) (by decide +kernel) (by decide +kernel)⟩
set_option maxRecDepth 100000 in
theorem fX8_26 : PFL RX8 26 4 8 := ⟨(RX8, TX8, 24), rfl, uwX8, by decide, mg3 (i := 43) (by decide +kernel) (by decide +kernel)⟩
set_option maxRecDepth 100000 in
theorem fX8_32 : PFL RX8 32 4 10 := ⟨(RX8, TX8, 24), rfl, uwX8, by decide, mg3 (i := 45) (by decide +kernel) (by decide +kernel)⟩
set_option maxRecDepth 100000 in
theorem fX8_36 : PFL RX8 36 4 11 := ⟨(RX8, TX8, 24), rfl, uwX8, by decide, mg3 (i := 46) (by decide +kernel) (by decide +kernel)⟩
set_option maxRecDepth 100000 in
theorem fX8_39 : PFL RX8 39 4 12 := ⟨(RX8, TX8, 24), rfl, uwX8, by decide, mg3 (i := 47) (by decide +kernel) (by decide +kernel)⟩
set_option maxRecDepth 100000 in
theorem fX8_42 : PFL RX8 42 4 13 := ⟨(RX8, TX8, 24), rfl, uwX8, by decide, mg3 (i := 48) (by decide +kernel) (by decide +kernel)⟩
set_option maxRecDepth 100000 in
theorem fX8_45 : PFL RX8 45 4 14 := ⟨(RX8, TX8, 24), rfl, uwX8, by decide, mg3 (i := 49) (by decide +kernel) (by decide +kernel)⟩
set_option maxRecDepth 100000 in
theorem fX8_48 : PFL RX8 48 4 15 := ⟨(RX8, TX8, 24), rfl, uwX8, by decide, mg3 (i := 50) (by decide +kernel) (by decide +kernel)⟩
set_option maxRecDepth 100000 in
theorem fX8_51 : PFL RX8 51 4 16 := ⟨(RX8, TX8, 24), rfl, uwX8, by decide, mg3 (i := 51) (by decide +kernel) (by decide +kernel)⟩
set_option maxRecDepth 100000 in
theorem fX8_54 : PFL RX8 54 4 17 := ⟨(RX8, TX8, 24), rfl, uwX8, by decide, mg3 (i := 52) (by decide +kernel) (by decide +kernel)⟩
set_option maxRecDepth 100000 in
theorem fX8_57 : PFL RX8 57 4 18 := ⟨(RX8, TX8, 24), rfl, uwX8, by decide, mg3 (i := 53) (by decide +kernel) (by decide +kernel)⟩
set_option maxRecDepth 100000 in
theorem fX8_60 : PFL RX8 60 4 19 := ⟨(RX8, TX8, 24), rfl, uwX8, by decide, mg3 (i := 54) (by decide +kernel) (by decide +kernel)⟩
set_option maxRecDepth 100000 in
theorem fX8_63 : PFL RX8 63 4 20 := ⟨(RX8, TX8, 24), rfl, uwX8, by decide, mg3 (i := 55) (by decide +kernel) (by decide +kernel)⟩
set_option maxRecDepth 100000 in
theorem fX8_66 : PFL RX8 66 4 21 := ⟨(RX8, TX8, 24), rfl, uwX8, by decide, mg3 (i := 56) (by decide +kernel) (by decide +kernel)⟩
set_option maxRecDepth 100000 in
theorem fX8_69 : PFL RX8 69 4 22 := ⟨(RX8, TX8, 24), rfl, uwX8, by decide, mg3 (i := 57) (by decide +kernel) (by decide +kernel)⟩
set_option maxRecDepth 100000 in
theorem fX8_72 : PFL RX8 72 4 1 := ⟨(RX8, TX8, 24), rfl, uwX8, by decide, mg3 (i := 36) (by decide +kernel) (by decide +kernel)⟩
set_option maxRecDepth 100000 in
theorem fX8_75 : PFL RX8 75 4 2 := ⟨(RX8, TX8, 24), rfl, uwX8, by decide, mg3 (i := 37) (by decide +kernel) (by decide +kernel)⟩
set_option maxRecDepth 100000 in
theorem fX8_153 : PFL RX8 153 4 3 := ⟨(RX8, TX8, 24), rfl, uwX8, by decide, mg3 (i := 38) (by decide +kernel) (by decide +kernel)⟩
set_option maxRecDepth 100000 in
theorem fX8_212 : PFL RX8 212 4 23 := ⟨(RX8, TX8, 24), rfl, uwX8, by decide, mg3 (i := 58) (by decide +kernel) (by decide +kernel)⟩
set_option maxRecDepth 100000 in
theorem mcX8_common : Cond.code yX8_common cX8_common 10 (some .long) ∈ lw_g := mg4 (i := 53) (by decide +kernel) (by decide +kernel)
set_option maxRecDepth 100000 in
theorem msX8_common : Cond.static yX8_common ∈ lw_g := mg4 (i := 52) (by decide +kernel) (by decide +kernel)
set_option maxRecDepth 100000 in
theorem qX8_78 : PCS RX8 78 yX8_common cX8_common 10 (some .long) 2 := ⟨⟨mcX8_common, mg4 (i := 51) (by decide +kernel) (by decide +kernel), mnX8, by decide +kernel, by decide⟩, msX8_common⟩
set_option maxRecDepth 100000 in
theorem mcX8_orders : Cond.code yX8_orders cX8_orders 3 (some .int) ∈ lw_g := mg3 (i := 126) (by decide +kernel) (by decide +kernel)
set_option maxRecDepth 100000 in
theorem msX8_orders : Cond.static yX8_orders ∈ lw_g := mg3 (i := 125) (by decide +kernel) (by decide +kernel)
set_option maxRecDepth 100000 in
theorem qX8_82 : PCS RX8 82 yX8_orders cX8_orders 3 (some .int) 1 := ⟨⟨mcX8_orders, mg3 (i := 124) (by decide +kernel) (by decide +kernel), mnX8, by decide +kernel, by decide⟩, msX8_orders⟩
set_option maxRecDepth 100000 in
theorem mcX8_isTray : Cond.code yX8_isTray cX8_isTray 1 (some .boolean) ∈ lw_g := mg3 (i := 137) (by decide +kernel) (by decide +kernel)
set_option maxRecDepth 100000 in
theorem msX8_isTray : Cond.static yX8_isTray ∈ lw_g := mg3 (i := 136) (by decide +kernel) (by decide +kernel)
set_option maxRecDepth 100000 in
theorem qX8_94 : PCS RX8 94 yX8_isTray cX8_isTray 1 (some .boolean) 1 := ⟨⟨mcX8_isTray, mg3 (i := 135) (by decide +kernel) (by decide +kernel), mnX8, by decide +kernel, by decide⟩, msX8_isTray⟩
set_option maxRecDepth 100000 in
theorem mcX8_lot : Cond.code yX8_lot cX8_lot 7 (some .int) ∈ lw_g := mg4 (i := 19) (by decide +kernel) (by decide +kernel)
set_option maxRecDepth 100000 in
theorem msX8_lot : Cond.static yX8_lot ∈ lw_g := mg4 (i := 18) (by decide +kernel) (by decide +kernel)
set_option maxRecDepth 100000 in
theorem qX8_141 : PCS RX8 141 yX8_lot cX8_lot 7 (some .int) 3 := ⟨⟨mcX8_lot, mg4 (i := 17) (by decide +kernel) (by decide +kernel), mnX8, by decide +kernel, by decide⟩, msX8_lot⟩
set_option maxRecDepth 100000 in
theorem mcX8_power : Cond.code yX8_power cX8_power 6 (some .long) ∈ lw_g := mg4 (i := 12) (by decide +kernel) (by decide +kernel)
set_option maxRecDepth 100000 in
theorem msX8_power : Cond.static yX8_power ∈ lw_g := mg4 (i := 11) (by decide +kernel) (by decide +kernel)
set_option maxRecDepth 100000 in
theorem qX8_145 : PCS RX8 145 yX8_power cX8_power 6 (some .long) 2 := ⟨⟨mcX8_power, mg4 (i := 10) (by decide +kernel) (by decide +kernel), mnX8, by decide +kernel, by decide⟩, msX8_power⟩
set_option maxRecDepth 100000 in
theorem mcX8_size : Cond.code yX8_size cX8_size 2 (some .long) ∈ lw_g := mg4 (i := 68) (by decide +kernel) (by decide +kernel)
set_option maxRecDepth 100000 in
theorem msX8_size : Cond.static yX8_size ∈ lw_g := mg4 (i := 67) (by decide +kernel) (by decide +kernel)
set_option maxRecDepth 100000 in
theorem qX8_179 : PCS RX8 179 yX8_size cX8_size 2 (some .long) 1 := ⟨⟨mcX8_size, mg4 (i := 66) (by decide +kernel) (by decide +kernel), mnX8, by decide +kernel, by decide⟩, msX8_size⟩
set_option maxRecDepth 100000 in
theorem mcX8_comes : Cond.code yX8_comes cX8_comes 2 (some .int) ∈ lw_g := mg3 (i := 119) (by decide +kernel) (by decide +kernel)
set_option maxRecDepth 100000 in
theorem miX8_comes : Cond.instanceMethod yX8_comes ∈ lw_g := mg3 (i := 118) (by decide +kernel) (by decide +kernel)
set_option maxRecDepth 100000 in
theorem meX8_comes : Cond.selects (yX8_comes).cls yX8_comes yX8_comes ∈ lw_g := mgs (q := (⟨"ShuffleDeskModel", "comes", "()I"⟩, 24)) (List.mem_append_right _ (List.mem_append_left _ (List.mem_of_getElem? (i := 2) (by decide +kernel)))) (by decide +kernel)
set_option maxRecDepth 100000 in
theorem qX8_86 : PCV RX8 86 yX8_comes cX8_comes 2 (some .int) 0 4 := ⟨⟨mcX8_comes, mg3 (i := 116) (by decide +kernel) (by decide +kernel), mnX8, by decide +kernel, by decide⟩, miX8_comes, meX8_comes, ⟨_, rfl, rfl⟩⟩
set_option maxRecDepth 100000 in
theorem mcX8_ofRank : Cond.code yX8_ofRank cX8_ofRank 9 none ∈ lw_g := mg3 (i := 130) (by decide +kernel) (by decide +kernel)
set_option maxRecDepth 100000 in
theorem miX8_ofRank : Cond.instanceMethod yX8_ofRank ∈ lw_g := mg3 (i := 129) (by decide +kernel) (by decide +kernel)
set_option maxRecDepth 100000 in
theorem meX8_ofRank : Cond.selects (yX8_ofRank).cls yX8_ofRank yX8_ofRank ∈ lw_g := mgs (q := (⟨"ShuffleDeskModel", "ofRank", "(I)V"⟩, 24)) (List.mem_append_right _ (List.mem_append_left _ (List.mem_of_getElem? (i := 3) (by decide +kernel)))) (by decide +kernel)
set_option maxRecDepth 100000 in
theorem qX8_90 : PCV RX8 90 yX8_ofRank cX8_ofRank 9 none 1 4 := ⟨⟨mcX8_ofRank, mg3 (i := 127) (by decide +kernel) (by decide +kernel), mnX8, by decide +kernel, by decide⟩, miX8_ofRank, meX8_ofRank, ⟨_, rfl, rfl⟩⟩
set_option maxRecDepth 100000 in
theorem mcX8_isPlace : Cond.code yX8_isPlace cX8_isPlace 2 (some .boolean) ∈ lw_g := mg3 (i := 141) (by decide +kernel) (by decide +kernel)
set_option maxRecDepth 100000 in
theorem miX8_isPlace : Cond.instanceMethod yX8_isPlace ∈ lw_g := mg3 (i := 140) (by decide +kernel) (by decide +kernel)
set_option maxRecDepth 100000 in
theorem meX8_isPlace : Cond.selects (yX8_isPlace).cls yX8_isPlace yX8_isPlace ∈ lw_g := mgs (q := (⟨"ShuffleDeskModel", "isPlace", "(I)Z"⟩, 24)) (List.mem_append_right _ (List.mem_append_left _ (List.mem_of_getElem? (i := 4) (by decide +kernel)))) (by decide +kernel)
set_option maxRecDepth 100000 in
theorem qX8_98 : PCV RX8 98 yX8_isPlace cX8_isPlace 2 (some .boolean) 1 4 := ⟨⟨mcX8_isPlace, mg3 (i := 138) (by decide +kernel) (by decide +kernel), mnX8, by decide +kernel, by decide⟩, miX8_isPlace, meX8_isPlace, ⟨_, rfl, rfl⟩⟩
set_option maxRecDepth 100000 in
theorem mcX8_isPack : Cond.code yX8_isPack cX8_isPack 2 (some .boolean) ∈ lw_g := mg3 (i := 149) (by decide +kernel) (by decide +kernel)
set_option maxRecDepth 100000 in
theorem miX8_isPack : Cond.instanceMethod yX8_isPack ∈ lw_g := mg3 (i := 148) (by decide +kernel) (by decide +kernel)
set_option maxRecDepth 100000 in
theorem meX8_isPack : Cond.selects (yX8_isPack).cls yX8_isPack yX8_isPack ∈ lw_g := mgs (q := (⟨"ShuffleDeskModel", "isPack", "(I)Z"⟩, 24)) (List.mem_append_right _ (List.mem_append_left _ (List.mem_of_getElem? (i := 5) (by decide +kernel)))) (by decide +kernel)
set_option maxRecDepth 100000 in
theorem qX8_101 : PCV RX8 101 yX8_isPack cX8_isPack 2 (some .boolean) 1 4 := ⟨⟨mcX8_isPack, mg3 (i := 146) (by decide +kernel) (by decide +kernel), mnX8, by decide +kernel, by decide⟩, miX8_isPack, meX8_isPack, ⟨_, rfl, rfl⟩⟩
set_option maxRecDepth 100000 in
theorem mcX8_placeOf : Cond.code yX8_placeOf cX8_placeOf 3 (some .int) ∈ lw_g := mg3 (i := 169) (by decide +kernel) (by decide +kernel)
set_option maxRecDepth 100000 in
theorem miX8_placeOf : Cond.instanceMethod yX8_placeOf ∈ lw_g := mg3 (i := 168) (by decide +kernel) (by decide +kernel)
set_option maxRecDepth 100000 in
theorem meX8_placeOf : Cond.selects (yX8_placeOf).cls yX8_placeOf yX8_placeOf ∈ lw_g := mgs (q := (⟨"ShuffleDeskModel", "placeOf", "(I)I"⟩, 24)) (List.mem_append_right _ (List.mem_append_left _ (List.mem_of_getElem? (i := 9) (by decide +kernel)))) (by decide +kernel)
set_option maxRecDepth 100000 in
theorem qX8_104 : PCV RX8 104 yX8_placeOf cX8_placeOf 3 (some .int) 1 4 := ⟨⟨mcX8_placeOf, mg3 (i := 166) (by decide +kernel) (by decide +kernel), mnX8, by decide +kernel, by decide⟩, miX8_placeOf, meX8_placeOf, ⟨_, rfl, rfl⟩⟩
set_option maxRecDepth 100000 in
theorem mcX8_takes : Cond.code yX8_takes cX8_takes 3 none ∈ lw_g := mg3 (i := 157) (by decide +kernel) (by decide +kernel)
set_option maxRecDepth 100000 in
theorem miX8_takes : Cond.instanceMethod yX8_takes ∈ lw_g := mg3 (i := 156) (by decide +kernel) (by decide +kernel)
set_option maxRecDepth 100000 in
theorem meX8_takes : Cond.selects (yX8_takes).cls yX8_takes yX8_takes ∈ lw_g := mgs (q := (⟨"ShuffleDeskModel", "takes", "(I)V"⟩, 24)) (List.mem_append_right _ (List.mem_append_left _ (List.mem_of_getElem? (i := 6) (by decide +kernel)))) (by decide +kernel)
set_option maxRecDepth 100000 in
theorem qX8_107 : PCV RX8 107 yX8_takes cX8_takes 3 none 1 4 := ⟨⟨mcX8_takes, mg3 (i := 154) (by decide +kernel) (by decide +kernel), mnX8, by decide +kernel, by decide⟩, miX8_takes, meX8_takes, ⟨_, rfl, rfl⟩⟩
set_option maxRecDepth 100000 in
theorem mcX8_rank : Cond.code yX8_rank cX8_rank 5 (some .int) ∈ lw_g := mg3 (i := 161) (by decide +kernel) (by decide +kernel)
set_option maxRecDepth 100000 in
theorem miX8_rank : Cond.instanceMethod yX8_rank ∈ lw_g := mg3 (i := 160) (by decide +kernel) (by decide +kernel)
set_option maxRecDepth 100000 in
theorem meX8_rank : Cond.selects (yX8_rank).cls yX8_rank yX8_rank ∈ lw_g := mgs (q := (⟨"ShuffleDeskModel", "rank", "()I"⟩, 24)) (List.mem_append_right _ (List.mem_append_left _ (List.mem_of_getElem? (i := 7) (by decide +kernel)))) (by decide +kernel)
set_option maxRecDepth 100000 in
theorem qX8_110 : PCV RX8 110 yX8_rank cX8_rank 5 (some .int) 0 4 := ⟨⟨mcX8_rank, mg3 (i := 158) (by decide +kernel) (by decide +kernel), mnX8, by decide +kernel, by decide⟩, miX8_rank, meX8_rank, ⟨_, rfl, rfl⟩⟩
set_option maxRecDepth 100000 in
theorem mcX8_runsOf : Cond.code yX8_runsOf cX8_runsOf 3 (some .int) ∈ lw_g := mg3 (i := 165) (by decide +kernel) (by decide +kernel)
set_option maxRecDepth 100000 in
theorem miX8_runsOf : Cond.instanceMethod yX8_runsOf ∈ lw_g := mg3 (i := 164) (by decide +kernel) (by decide +kernel)
set_option maxRecDepth 100000 in
theorem meX8_runsOf : Cond.selects (yX8_runsOf).cls yX8_runsOf yX8_runsOf ∈ lw_g := mgs (q := (⟨"ShuffleDeskModel", "runsOf", "()I"⟩, 24)) (List.mem_append_right _ (List.mem_append_left _ (List.mem_of_getElem? (i := 8) (by decide +kernel)))) (by decide +kernel)
set_option maxRecDepth 100000 in
theorem qX8_113 : PCV RX8 113 yX8_runsOf cX8_runsOf 3 (some .int) 0 4 := ⟨⟨mcX8_runsOf, mg3 (i := 162) (by decide +kernel) (by decide +kernel), mnX8, by decide +kernel, by decide⟩, miX8_runsOf, meX8_runsOf, ⟨_, rfl, rfl⟩⟩
set_option maxRecDepth 100000 in
theorem mcX8_makes : Cond.code yX8_makes cX8_makes 4 (some .int) ∈ lw_g := mg3 (i := 177) (by decide +kernel) (by decide +kernel)
set_option maxRecDepth 100000 in
theorem miX8_makes : Cond.instanceMethod yX8_makes ∈ lw_g := mg3 (i := 176) (by decide +kernel) (by decide +kernel)
set_option maxRecDepth 100000 in
theorem meX8_makes : Cond.selects (yX8_makes).cls yX8_makes yX8_makes ∈ lw_g := mgs (q := (⟨"ShuffleDeskModel", "makes", "(II)I"⟩, 24)) (List.mem_append_right _ (List.mem_append_left _ (List.mem_of_getElem? (i := 10) (by decide +kernel)))) (by decide +kernel)
set_option maxRecDepth 100000 in
theorem qX8_116 : PCV RX8 116 yX8_makes cX8_makes 4 (some .int) 2 4 := ⟨⟨mcX8_makes, mg3 (i := 174) (by decide +kernel) (by decide +kernel), mnX8, by decide +kernel, by decide⟩, miX8_makes, meX8_makes, ⟨_, rfl, rfl⟩⟩
set_option maxRecDepth 100000 in
theorem mcX8_goes : Cond.code yX8_goes cX8_goes 3 (some .int) ∈ lw_g := mg3 (i := 185) (by decide +kernel) (by decide +kernel)
set_option maxRecDepth 100000 in
theorem miX8_goes : Cond.instanceMethod yX8_goes ∈ lw_g := mg3 (i := 184) (by decide +kernel) (by decide +kernel)
set_option maxRecDepth 100000 in
theorem meX8_goes : Cond.selects (yX8_goes).cls yX8_goes yX8_goes ∈ lw_g := mgs (q := (⟨"ShuffleDeskModel", "goes", "(II)I"⟩, 24)) (List.mem_append_right _ (List.mem_append_left _ (List.mem_of_getElem? (i := 11) (by decide +kernel)))) (by decide +kernel)
set_option maxRecDepth 100000 in
theorem qX8_120 : PCV RX8 120 yX8_goes cX8_goes 3 (some .int) 2 4 := ⟨⟨mcX8_goes, mg3 (i := 182) (by decide +kernel) (by decide +kernel), mnX8, by decide +kernel, by decide⟩, miX8_goes, meX8_goes, ⟨_, rfl, rfl⟩⟩
set_option maxRecDepth 100000 in
theorem mcX8_isShuffle : Cond.code yX8_isShuffle cX8_isShuffle 2 (some .boolean) ∈ lw_g := mg3 (i := 205) (by decide +kernel) (by decide +kernel)
set_option maxRecDepth 100000 in
theorem miX8_isShuffle : Cond.instanceMethod yX8_isShuffle ∈ lw_g := mg3 (i := 204) (by decide +kernel) (by decide +kernel)
set_option maxRecDepth 100000 in
theorem meX8_isShuffle : Cond.selects (yX8_isShuffle).cls yX8_isShuffle yX8_isShuffle ∈ lw_g := mgs (q := (⟨"ShuffleDeskModel", "isShuffle", "(I)Z"⟩, 24)) (List.mem_append_right _ (List.mem_append_left _ (List.mem_of_getElem? (i := 12) (by decide +kernel)))) (by decide +kernel)
set_option maxRecDepth 100000 in
theorem qX8_123 : PCV RX8 123 yX8_isShuffle cX8_isShuffle 2 (some .boolean) 1 4 := ⟨⟨mcX8_isShuffle, mg3 (i := 202) (by decide +kernel) (by decide +kernel), mnX8, by decide +kernel, by decide⟩, miX8_isShuffle, meX8_isShuffle, ⟨_, rfl, rfl⟩⟩
set_option maxRecDepth 100000 in
theorem mcX8_hasMove : Cond.code yX8_hasMove cX8_hasMove 2 (some .boolean) ∈ lw_g := mg3 (i := 209) (by decide +kernel) (by decide +kernel)
set_option maxRecDepth 100000 in
theorem miX8_hasMove : Cond.instanceMethod yX8_hasMove ∈ lw_g := mg3 (i := 208) (by decide +kernel) (by decide +kernel)
set_option maxRecDepth 100000 in
theorem meX8_hasMove : Cond.selects (yX8_hasMove).cls yX8_hasMove yX8_hasMove ∈ lw_g := mgs (q := (⟨"ShuffleDeskModel", "hasMove", "(I)Z"⟩, 24)) (List.mem_append_right _ (List.mem_append_left _ (List.mem_of_getElem? (i := 13) (by decide +kernel)))) (by decide +kernel)
set_option maxRecDepth 100000 in
theorem qX8_126 : PCV RX8 126 yX8_hasMove cX8_hasMove 2 (some .boolean) 1 4 := ⟨⟨mcX8_hasMove, mg3 (i := 206) (by decide +kernel) (by decide +kernel), mnX8, by decide +kernel, by decide⟩, miX8_hasMove, meX8_hasMove, ⟨_, rfl, rfl⟩⟩
set_option maxRecDepth 100000 in
theorem mcX8_roundOf : Cond.code yX8_roundOf cX8_roundOf 5 (some .int) ∈ lw_g := mg3 (i := 233) (by decide +kernel) (by decide +kernel)
set_option maxRecDepth 100000 in
theorem miX8_roundOf : Cond.instanceMethod yX8_roundOf ∈ lw_g := mg3 (i := 232) (by decide +kernel) (by decide +kernel)
set_option maxRecDepth 100000 in
theorem meX8_roundOf : Cond.selects (yX8_roundOf).cls yX8_roundOf yX8_roundOf ∈ lw_g := mgs (q := (⟨"ShuffleDeskModel", "roundOf", "(II)I"⟩, 24)) (List.mem_append_right _ (List.mem_append_right _ (List.mem_append_left _ (List.mem_of_getElem? (i := 0) (by decide +kernel))))) (by decide +kernel)
set_option maxRecDepth 100000 in
theorem qX8_129 : PCV RX8 129 yX8_roundOf cX8_roundOf 5 (some .int) 2 4 := ⟨⟨mcX8_roundOf, mg3 (i := 230) (by decide +kernel) (by decide +kernel), mnX8, by decide +kernel, by decide⟩, miX8_roundOf, meX8_roundOf, ⟨_, rfl, rfl⟩⟩
set_option maxRecDepth 100000 in
theorem mcX8_rounds : Cond.code yX8_rounds cX8_rounds 6 (some .int) ∈ lw_g := mg3 (i := 225) (by decide +kernel) (by decide +kernel)
set_option maxRecDepth 100000 in
theorem miX8_rounds : Cond.instanceMethod yX8_rounds ∈ lw_g := mg3 (i := 224) (by decide +kernel) (by decide +kernel)
set_option maxRecDepth 100000 in
theorem meX8_rounds : Cond.selects (yX8_rounds).cls yX8_rounds yX8_rounds ∈ lw_g := mgs (q := (⟨"ShuffleDeskModel", "rounds", "(I)I"⟩, 24)) (List.mem_append_right _ (List.mem_append_left _ (List.mem_of_getElem? (i := 14) (by decide +kernel)))) (by decide +kernel)
set_option maxRecDepth 100000 in
theorem qX8_132 : PCV RX8 132 yX8_rounds cX8_rounds 6 (some .int) 1 4 := ⟨⟨mcX8_rounds, mg3 (i := 222) (by decide +kernel) (by decide +kernel), mnX8, by decide +kernel, by decide⟩, miX8_rounds, meX8_rounds, ⟨_, rfl, rfl⟩⟩
set_option maxRecDepth 100000 in
theorem mcX8_whole : Cond.code yX8_whole cX8_whole 6 (some .int) ∈ lw_g := mg3 (i := 229) (by decide +kernel) (by decide +kernel)
set_option maxRecDepth 100000 in
theorem miX8_whole : Cond.instanceMethod yX8_whole ∈ lw_g := mg3 (i := 228) (by decide +kernel) (by decide +kernel)
set_option maxRecDepth 100000 in
theorem meX8_whole : Cond.selects (yX8_whole).cls yX8_whole yX8_whole ∈ lw_g := mgs (q := (⟨"ShuffleDeskModel", "whole", "(I)I"⟩, 24)) (List.mem_append_right _ (List.mem_append_left _ (List.mem_of_getElem? (i := 15) (by decide +kernel)))) (by decide +kernel)
set_option maxRecDepth 100000 in
theorem qX8_135 : PCV RX8 135 yX8_whole cX8_whole 6 (some .int) 1 4 := ⟨⟨mcX8_whole, mg3 (i := 226) (by decide +kernel) (by decide +kernel), mnX8, by decide +kernel, by decide⟩, miX8_whole, meX8_whole, ⟨_, rfl, rfl⟩⟩
set_option maxRecDepth 100000 in
theorem mcX8_puts : Cond.code yX8_puts cX8_puts 3 none ∈ lw_g := mg4 (i := 5) (by decide +kernel) (by decide +kernel)
set_option maxRecDepth 100000 in
theorem miX8_puts : Cond.instanceMethod yX8_puts ∈ lw_g := mg4 (i := 4) (by decide +kernel) (by decide +kernel)
set_option maxRecDepth 100000 in
theorem meX8_puts : Cond.selects (yX8_puts).cls yX8_puts yX8_puts ∈ lw_g := mgs (q := (⟨"ShuffleDeskModel", "puts", "(I)V"⟩, 24)) (List.mem_append_right _ (List.mem_append_right _ (List.mem_append_left _ (List.mem_of_getElem? (i := 1) (by decide +kernel))))) (by decide +kernel)
set_option maxRecDepth 100000 in
theorem qX8_138 : PCV RX8 138 yX8_puts cX8_puts 3 none 1 4 := ⟨⟨mcX8_puts, mg4 (i := 2) (by decide +kernel) (by decide +kernel), mnX8, by decide +kernel, by decide⟩, miX8_puts, meX8_puts, ⟨_, rfl, rfl⟩⟩
set_option maxRecDepth 100000 in
theorem mcX8_lays : Cond.code yX8_lays cX8_lays 11 none ∈ lw_g := mg4 (i := 16) (by decide +kernel) (by decide +kernel)
set_option maxRecDepth 100000 in
theorem miX8_lays : Cond.instanceMethod yX8_lays ∈ lw_g := mg4 (i := 15) (by decide +kernel) (by decide +kernel)
set_option maxRecDepth 100000 in
theorem meX8_lays : Cond.selects (yX8_lays).cls yX8_lays yX8_lays ∈ lw_g := mgs (q := (⟨"ShuffleDeskModel", "lays", "(IIJ)V"⟩, 24)) (List.mem_append_right _ (List.mem_append_right _ (List.mem_append_left _ (List.mem_of_getElem? (i := 2) (by decide +kernel))))) (by decide +kernel)
set_option maxRecDepth 100000 in
theorem qX8_149 : PCV RX8 149 yX8_lays cX8_lays 11 none 3 4 := ⟨⟨mcX8_lays, mg4 (i := 13) (by decide +kernel) (by decide +kernel), mnX8, by decide +kernel, by decide⟩, miX8_lays, meX8_lays, ⟨_, rfl, rfl⟩⟩
set_option maxRecDepth 100000 in
theorem mcX8_drawn : Cond.code yX8_drawn cX8_drawn 3 (some .int) ∈ lw_g := mg4 (i := 28) (by decide +kernel) (by decide +kernel)
set_option maxRecDepth 100000 in
theorem miX8_drawn : Cond.instanceMethod yX8_drawn ∈ lw_g := mg4 (i := 27) (by decide +kernel) (by decide +kernel)
set_option maxRecDepth 100000 in
theorem meX8_drawn : Cond.selects (yX8_drawn).cls yX8_drawn yX8_drawn ∈ lw_g := mgs (q := (⟨"ShuffleDeskModel", "drawn", "(I)I"⟩, 24)) (List.mem_append_right _ (List.mem_append_right _ (List.mem_append_left _ (List.mem_of_getElem? (i := 3) (by decide +kernel))))) (by decide +kernel)
set_option maxRecDepth 100000 in
theorem qX8_159 : PCV RX8 159 yX8_drawn cX8_drawn 3 (some .int) 1 4 := ⟨⟨mcX8_drawn, mg4 (i := 25) (by decide +kernel) (by decide +kernel), mnX8, by decide +kernel, by decide⟩, miX8_drawn, meX8_drawn, ⟨_, rfl, rfl⟩⟩
set_option maxRecDepth 100000 in
theorem mcX8_isChance : Cond.code yX8_isChance cX8_isChance 3 (some .boolean) ∈ lw_g := mg4 (i := 41) (by decide +kernel) (by decide +kernel)
set_option maxRecDepth 100000 in
theorem miX8_isChance : Cond.instanceMethod yX8_isChance ∈ lw_g := mg4 (i := 40) (by decide +kernel) (by decide +kernel)
set_option maxRecDepth 100000 in
theorem meX8_isChance : Cond.selects (yX8_isChance).cls yX8_isChance yX8_isChance ∈ lw_g := mgs (q := (⟨"ShuffleDeskModel", "isChance", "(II)Z"⟩, 24)) (List.mem_append_right _ (List.mem_append_right _ (List.mem_append_left _ (List.mem_of_getElem? (i := 4) (by decide +kernel))))) (by decide +kernel)
set_option maxRecDepth 100000 in
theorem qX8_164 : PCV RX8 164 yX8_isChance cX8_isChance 3 (some .boolean) 2 4 := ⟨⟨mcX8_isChance, mg4 (i := 38) (by decide +kernel) (by decide +kernel), mnX8, by decide +kernel, by decide⟩, miX8_isChance, meX8_isChance, ⟨_, rfl, rfl⟩⟩
set_option maxRecDepth 100000 in
theorem mcX8_tops : Cond.code yX8_tops cX8_tops 7 none ∈ lw_g := mg4 (i := 46) (by decide +kernel) (by decide +kernel)
set_option maxRecDepth 100000 in
theorem miX8_tops : Cond.instanceMethod yX8_tops ∈ lw_g := mg4 (i := 45) (by decide +kernel) (by decide +kernel)
set_option maxRecDepth 100000 in
theorem meX8_tops : Cond.selects (yX8_tops).cls yX8_tops yX8_tops ∈ lw_g := mgs (q := (⟨"ShuffleDeskModel", "tops", "(I)V"⟩, 24)) (List.mem_append_right _ (List.mem_append_right _ (List.mem_append_left _ (List.mem_of_getElem? (i := 5) (by decide +kernel))))) (by decide +kernel)
set_option maxRecDepth 100000 in
theorem qX8_168 : PCV RX8 168 yX8_tops cX8_tops 7 none 1 4 := ⟨⟨mcX8_tops, mg4 (i := 43) (by decide +kernel) (by decide +kernel), mnX8, by decide +kernel, by decide⟩, miX8_tops, meX8_tops, ⟨_, rfl, rfl⟩⟩
set_option maxRecDepth 100000 in
theorem mcX8_lowest : Cond.code yX8_lowest cX8_lowest 8 (some .long) ∈ lw_g := mg4 (i := 50) (by decide +kernel) (by decide +kernel)
set_option maxRecDepth 100000 in
theorem miX8_lowest : Cond.instanceMethod yX8_lowest ∈ lw_g := mg4 (i := 49) (by decide +kernel) (by decide +kernel)
set_option maxRecDepth 100000 in
theorem meX8_lowest : Cond.selects (yX8_lowest).cls yX8_lowest yX8_lowest ∈ lw_g := mgs (q := (⟨"ShuffleDeskModel", "lowest", "(JJI)J"⟩, 24)) (List.mem_append_right _ (List.mem_append_right _ (List.mem_append_left _ (List.mem_of_getElem? (i := 6) (by decide +kernel))))) (by decide +kernel)
set_option maxRecDepth 100000 in
theorem qX8_171 : PCV RX8 171 yX8_lowest cX8_lowest 8 (some .long) 3 4 := ⟨⟨mcX8_lowest, mg4 (i := 47) (by decide +kernel) (by decide +kernel), mnX8, by decide +kernel, by decide⟩, miX8_lowest, meX8_lowest, ⟨_, rfl, rfl⟩⟩
set_option maxRecDepth 100000 in
theorem mcX8_heapWays : Cond.code yX8_heapWays cX8_heapWays 7 (some .long) ∈ lw_g := mg4 (i := 57) (by decide +kernel) (by decide +kernel)
set_option maxRecDepth 100000 in
theorem miX8_heapWays : Cond.instanceMethod yX8_heapWays ∈ lw_g := mg4 (i := 56) (by decide +kernel) (by decide +kernel)
set_option maxRecDepth 100000 in
theorem meX8_heapWays : Cond.selects (yX8_heapWays).cls yX8_heapWays yX8_heapWays ∈ lw_g := mgs (q := (⟨"ShuffleDeskModel", "heapWays", "(II)J"⟩, 24)) (List.mem_append_right _ (List.mem_append_right _ (List.mem_append_left _ (List.mem_of_getElem? (i := 7) (by decide +kernel))))) (by decide +kernel)
set_option maxRecDepth 100000 in
theorem qX8_175 : PCV RX8 175 yX8_heapWays cX8_heapWays 7 (some .long) 2 4 := ⟨⟨mcX8_heapWays, mg4 (i := 54) (by decide +kernel) (by decide +kernel), mnX8, by decide +kernel, by decide⟩, miX8_heapWays, meX8_heapWays, ⟨_, rfl, rfl⟩⟩
set_option maxRecDepth 100000 in
theorem qX8_185 : PCV RX8 185 yX8_runs cX8_runs 6 (some .long) 1 4 := ⟨⟨mcX8_runs, mg4 (i := 70) (by decide +kernel) (by decide +kernel), mnX8, by decide +kernel, by decide⟩, miX8_runs, meX8_runs, ⟨_, rfl, rfl⟩⟩
set_option maxRecDepth 100000 in
theorem mcX8_fars : Cond.code yX8_fars cX8_fars 5 none ∈ lw_g := mg4 (i := 86) (by decide +kernel) (by decide +kernel)
set_option maxRecDepth 100000 in
theorem miX8_fars : Cond.instanceMethod yX8_fars ∈ lw_g := mg4 (i := 85) (by decide +kernel) (by decide +kernel)
set_option maxRecDepth 100000 in
theorem meX8_fars : Cond.selects (yX8_fars).cls yX8_fars yX8_fars ∈ lw_g := mgs (q := (⟨"ShuffleDeskModel", "fars", "(I)V"⟩, 24)) (List.mem_append_right _ (List.mem_append_right _ (List.mem_append_left _ (List.mem_of_getElem? (i := 8) (by decide +kernel))))) (by decide +kernel)
set_option maxRecDepth 100000 in
theorem qX8_189 : PCV RX8 189 yX8_fars cX8_fars 5 none 1 4 := ⟨⟨mcX8_fars, mg4 (i := 83) (by decide +kernel) (by decide +kernel), mnX8, by decide +kernel, by decide⟩, miX8_fars, meX8_fars, ⟨_, rfl, rfl⟩⟩
set_option maxRecDepth 100000 in
theorem mcX8_orbit : Cond.code yX8_orbit cX8_orbit 10 (some .int) ∈ lw_g := mg4 (i := 98) (by decide +kernel) (by decide +kernel)
set_option maxRecDepth 100000 in
theorem miX8_orbit : Cond.instanceMethod yX8_orbit ∈ lw_g := mg4 (i := 97) (by decide +kernel) (by decide +kernel)
set_option maxRecDepth 100000 in
theorem meX8_orbit : Cond.selects (yX8_orbit).cls yX8_orbit yX8_orbit ∈ lw_g := mgs (q := (⟨"ShuffleDeskModel", "orbit", "()I"⟩, 24)) (List.mem_append_right _ (List.mem_append_right _ (List.mem_append_left _ (List.mem_of_getElem? (i := 9) (by decide +kernel))))) (by decide +kernel)
set_option maxRecDepth 100000 in
theorem qX8_192 : PCV RX8 192 yX8_orbit cX8_orbit 10 (some .int) 0 4 := ⟨⟨mcX8_orbit, mg4 (i := 95) (by decide +kernel) (by decide +kernel), mnX8, by decide +kernel, by decide⟩, miX8_orbit, meX8_orbit, ⟨_, rfl, rfl⟩⟩
set_option maxRecDepth 100000 in
theorem mcX8_packed : Cond.code yX8_packed cX8_packed 4 (some .long) ∈ lw_g := mg4 (i := 102) (by decide +kernel) (by decide +kernel)
set_option maxRecDepth 100000 in
theorem miX8_packed : Cond.instanceMethod yX8_packed ∈ lw_g := mg4 (i := 101) (by decide +kernel) (by decide +kernel)
set_option maxRecDepth 100000 in
theorem meX8_packed : Cond.selects (yX8_packed).cls yX8_packed yX8_packed ∈ lw_g := mgs (q := (⟨"ShuffleDeskModel", "packed", "()J"⟩, 24)) (List.mem_append_right _ (List.mem_append_right _ (List.mem_append_left _ (List.mem_of_getElem? (i := 10) (by decide +kernel))))) (by decide +kernel)
set_option maxRecDepth 100000 in
theorem qX8_195 : PCV RX8 195 yX8_packed cX8_packed 4 (some .long) 0 4 := ⟨⟨mcX8_packed, mg4 (i := 99) (by decide +kernel) (by decide +kernel), mnX8, by decide +kernel, by decide⟩, miX8_packed, meX8_packed, ⟨_, rfl, rfl⟩⟩
set_option maxRecDepth 100000 in
theorem mcX8_isFound : Cond.code yX8_isFound cX8_isFound 7 (some .boolean) ∈ lw_g := mg4 (i := 107) (by decide +kernel) (by decide +kernel)
set_option maxRecDepth 100000 in
theorem miX8_isFound : Cond.instanceMethod yX8_isFound ∈ lw_g := mg4 (i := 106) (by decide +kernel) (by decide +kernel)
set_option maxRecDepth 100000 in
theorem meX8_isFound : Cond.selects (yX8_isFound).cls yX8_isFound yX8_isFound ∈ lw_g := mgs (q := (⟨"ShuffleDeskModel", "isFound", "(JI)Z"⟩, 24)) (List.mem_append_right _ (List.mem_append_right _ (List.mem_append_left _ (List.mem_of_getElem? (i := 11) (by decide +kernel))))) (by decide +kernel)
set_option maxRecDepth 100000 in
theorem qX8_201 : PCV RX8 201 yX8_isFound cX8_isFound 7 (some .boolean) 2 4 := ⟨⟨mcX8_isFound, mg4 (i := 104) (by decide +kernel) (by decide +kernel), mnX8, by decide +kernel, by decide⟩, miX8_isFound, meX8_isFound, ⟨_, rfl, rfl⟩⟩
set_option maxRecDepth 100000 in
theorem mcX8_isListed : Cond.code yX8_isListed cX8_isListed 6 (some .boolean) ∈ lw_g := mg4 (i := 111) (by decide +kernel) (by decide +kernel)
set_option maxRecDepth 100000 in
theorem miX8_isListed : Cond.instanceMethod yX8_isListed ∈ lw_g := mg4 (i := 110) (by decide +kernel) (by decide +kernel)
set_option maxRecDepth 100000 in
theorem meX8_isListed : Cond.selects (yX8_isListed).cls yX8_isListed yX8_isListed ∈ lw_g := mgs (q := (⟨"ShuffleDeskModel", "isListed", "(JII)Z"⟩, 24)) (List.mem_append_right _ (List.mem_append_right _ (List.mem_append_left _ (List.mem_of_getElem? (i := 12) (by decide +kernel))))) (by decide +kernel)
set_option maxRecDepth 100000 in
theorem qX8_205 : PCV RX8 205 yX8_isListed cX8_isListed 6 (some .boolean) 3 4 := ⟨⟨mcX8_isListed, mg4 (i := 108) (by decide +kernel) (by decide +kernel), mnX8, by decide +kernel, by decide⟩, miX8_isListed, meX8_isListed, ⟨_, rfl, rfl⟩⟩
set_option maxRecDepth 100000 in
theorem mcX8_sorts : Cond.code yX8_sorts cX8_sorts 6 none ∈ lw_g := mg4 (i := 115) (by decide +kernel) (by decide +kernel)
set_option maxRecDepth 100000 in
theorem miX8_sorts : Cond.instanceMethod yX8_sorts ∈ lw_g := mg4 (i := 114) (by decide +kernel) (by decide +kernel)
set_option maxRecDepth 100000 in
theorem meX8_sorts : Cond.selects (yX8_sorts).cls yX8_sorts yX8_sorts ∈ lw_g := mgs (q := (⟨"ShuffleDeskModel", "sorts", "(I)V"⟩, 24)) (List.mem_append_right _ (List.mem_append_right _ (List.mem_append_left _ (List.mem_of_getElem? (i := 13) (by decide +kernel))))) (by decide +kernel)
set_option maxRecDepth 100000 in
theorem qX8_209 : PCV RX8 209 yX8_sorts cX8_sorts 6 none 1 4 := ⟨⟨mcX8_sorts, mg4 (i := 112) (by decide +kernel) (by decide +kernel), mnX8, by decide +kernel, by decide⟩, miX8_sorts, meX8_sorts, ⟨_, rfl, rfl⟩⟩
set_option maxRecDepth 100000 in
theorem mcX8_ran : Cond.code yX8_ran cX8_ran 2 none ∈ lw_g := mg4 (i := 131) (by decide +kernel) (by decide +kernel)
set_option maxRecDepth 100000 in
theorem miX8_ran : Cond.instanceMethod yX8_ran ∈ lw_g := mg4 (i := 130) (by decide +kernel) (by decide +kernel)
set_option maxRecDepth 100000 in
theorem meX8_ran : Cond.selects (yX8_ran).cls yX8_ran yX8_ran ∈ lw_g := mgs (q := (⟨"ShuffleDeskModel", "ran", "(I)V"⟩, 24)) (List.mem_append_right _ (List.mem_append_right _ (List.mem_append_right _ (List.mem_of_getElem? (i := 0) (by decide +kernel))))) (by decide +kernel)
set_option maxRecDepth 100000 in
theorem qX8_215 : PCV RX8 215 yX8_ran cX8_ran 2 none 1 4 := ⟨⟨mcX8_ran, mg4 (i := 128) (by decide +kernel) (by decide +kernel), mnX8, by decide +kernel, by decide⟩, miX8_ran, meX8_ran, ⟨_, rfl, rfl⟩⟩
set_option maxRecDepth 100000 in
theorem mcX8_laysMove : Cond.code yX8_laysMove cX8_laysMove 3 (some .int) ∈ lw_g := mg4 (i := 127) (by decide +kernel) (by decide +kernel)
set_option maxRecDepth 100000 in
theorem miX8_laysMove : Cond.instanceMethod yX8_laysMove ∈ lw_g := mg4 (i := 126) (by decide +kernel) (by decide +kernel)
set_option maxRecDepth 100000 in
theorem meX8_laysMove : Cond.selects (yX8_laysMove).cls yX8_laysMove yX8_laysMove ∈ lw_g := mgs (q := (⟨"ShuffleDeskModel", "laysMove", "(II)I"⟩, 24)) (List.mem_append_right _ (List.mem_append_right _ (List.mem_append_left _ (List.mem_of_getElem? (i := 15) (by decide +kernel))))) (by decide +kernel)
set_option maxRecDepth 100000 in
theorem qX8_218 : PCV RX8 218 yX8_laysMove cX8_laysMove 3 (some .int) 2 4 := ⟨⟨mcX8_laysMove, mg4 (i := 124) (by decide +kernel) (by decide +kernel), mnX8, by decide +kernel, by decide⟩, miX8_laysMove, meX8_laysMove, ⟨_, rfl, rfl⟩⟩
set_option maxRecDepth 100000 in
theorem mcX8_laysDeal : Cond.code yX8_laysDeal cX8_laysDeal 3 (some .int) ∈ lw_g := mg4 (i := 135) (by decide +kernel) (by decide +kernel)
set_option maxRecDepth 100000 in
theorem miX8_laysDeal : Cond.instanceMethod yX8_laysDeal ∈ lw_g := mg4 (i := 134) (by decide +kernel) (by decide +kernel)
set_option maxRecDepth 100000 in
theorem meX8_laysDeal : Cond.selects (yX8_laysDeal).cls yX8_laysDeal yX8_laysDeal ∈ lw_g := mgs (q := (⟨"ShuffleDeskModel", "laysDeal", "(II)I"⟩, 24)) (List.mem_append_right _ (List.mem_append_right _ (List.mem_append_right _ (List.mem_of_getElem? (i := 1) (by decide +kernel))))) (by decide +kernel)
set_option maxRecDepth 100000 in
theorem qX8_221 : PCV RX8 221 yX8_laysDeal cX8_laysDeal 3 (some .int) 2 4 := ⟨⟨mcX8_laysDeal, mg4 (i := 132) (by decide +kernel) (by decide +kernel), mnX8, by decide +kernel, by decide⟩, miX8_laysDeal, meX8_laysDeal, ⟨_, rfl, rfl⟩⟩
set_option maxRecDepth 100000 in
theorem mcX8_laysNow : Cond.code yX8_laysNow cX8_laysNow 3 (some .int) ∈ lw_g := mg4 (i := 123) (by decide +kernel) (by decide +kernel)
set_option maxRecDepth 100000 in
theorem miX8_laysNow : Cond.instanceMethod yX8_laysNow ∈ lw_g := mg4 (i := 122) (by decide +kernel) (by decide +kernel)
set_option maxRecDepth 100000 in
theorem meX8_laysNow : Cond.selects (yX8_laysNow).cls yX8_laysNow yX8_laysNow ∈ lw_g := mgs (q := (⟨"ShuffleDeskModel", "laysNow", "(II)I"⟩, 24)) (List.mem_append_right _ (List.mem_append_right _ (List.mem_append_left _ (List.mem_of_getElem? (i := 14) (by decide +kernel))))) (by decide +kernel)
set_option maxRecDepth 100000 in
theorem qX8_224 : PCV RX8 224 yX8_laysNow cX8_laysNow 3 (some .int) 2 4 := ⟨⟨mcX8_laysNow, mg4 (i := 120) (by decide +kernel) (by decide +kernel), mnX8, by decide +kernel, by decide⟩, miX8_laysNow, meX8_laysNow, ⟨_, rfl, rfl⟩⟩
set_option maxRecDepth 100000 in
theorem mcX8_cutsMove : Cond.code yX8_cutsMove cX8_cutsMove 3 (some .int) ∈ lw_g := mg4 (i := 143) (by decide +kernel) (by decide +kernel)
set_option maxRecDepth 100000 in
theorem miX8_cutsMove : Cond.instanceMethod yX8_cutsMove ∈ lw_g := mg4 (i := 142) (by decide +kernel) (by decide +kernel)
set_option maxRecDepth 100000 in
theorem meX8_cutsMove : Cond.selects (yX8_cutsMove).cls yX8_cutsMove yX8_cutsMove ∈ lw_g := mgs (q := (⟨"ShuffleDeskModel", "cutsMove", "(II)I"⟩, 24)) (List.mem_append_right _ (List.mem_append_right _ (List.mem_append_right _ (List.mem_of_getElem? (i := 3) (by decide +kernel))))) (by decide +kernel)
set_option maxRecDepth 100000 in
theorem qX8_227 : PCV RX8 227 yX8_cutsMove cX8_cutsMove 3 (some .int) 2 4 := ⟨⟨mcX8_cutsMove, mg4 (i := 140) (by decide +kernel) (by decide +kernel), mnX8, by decide +kernel, by decide⟩, miX8_cutsMove, meX8_cutsMove, ⟨_, rfl, rfl⟩⟩
set_option maxRecDepth 100000 in
theorem mcX8_cutsNow : Cond.code yX8_cutsNow cX8_cutsNow 4 (some .int) ∈ lw_g := mg4 (i := 139) (by decide +kernel) (by decide +kernel)
set_option maxRecDepth 100000 in
theorem miX8_cutsNow : Cond.instanceMethod yX8_cutsNow ∈ lw_g := mg4 (i := 138) (by decide +kernel) (by decide +kernel)
set_option maxRecDepth 100000 in
theorem meX8_cutsNow : Cond.selects (yX8_cutsNow).cls yX8_cutsNow yX8_cutsNow ∈ lw_g := mgs (q := (⟨"ShuffleDeskModel", "cutsNow", "(II)I"⟩, 24)) (List.mem_append_right _ (List.mem_append_right _ (List.mem_append_right _ (List.mem_of_getElem? (i := 2) (by decide +kernel))))) (by decide +kernel)
set_option maxRecDepth 100000 in
theorem qX8_230 : PCV RX8 230 yX8_cutsNow cX8_cutsNow 4 (some .int) 2 4 := ⟨⟨mcX8_cutsNow, mg4 (i := 136) (by decide +kernel) (by decide +kernel), mnX8, by decide +kernel, by decide⟩, miX8_cutsNow, meX8_cutsNow, ⟨_, rfl, rfl⟩⟩
set_option maxRecDepth 100000 in
theorem mcX8_turnsMove : Cond.code yX8_turnsMove cX8_turnsMove 4 (some .int) ∈ lw_g := mg4 (i := 151) (by decide +kernel) (by decide +kernel)
set_option maxRecDepth 100000 in
theorem miX8_turnsMove : Cond.instanceMethod yX8_turnsMove ∈ lw_g := mg4 (i := 150) (by decide +kernel) (by decide +kernel)
set_option maxRecDepth 100000 in
theorem meX8_turnsMove : Cond.selects (yX8_turnsMove).cls yX8_turnsMove yX8_turnsMove ∈ lw_g := mgs (q := (⟨"ShuffleDeskModel", "turnsMove", "(II)I"⟩, 24)) (List.mem_append_right _ (List.mem_append_right _ (List.mem_append_right _ (List.mem_of_getElem? (i := 5) (by decide +kernel))))) (by decide +kernel)
set_option maxRecDepth 100000 in
theorem qX8_233 : PCV RX8 233 yX8_turnsMove cX8_turnsMove 4 (some .int) 2 4 := ⟨⟨mcX8_turnsMove, mg4 (i := 148) (by decide +kernel) (by decide +kernel), mnX8, by decide +kernel, by decide⟩, miX8_turnsMove, meX8_turnsMove, ⟨_, rfl, rfl⟩⟩
set_option maxRecDepth 100000 in
theorem mcX8_turnsDeal : Cond.code yX8_turnsDeal cX8_turnsDeal 3 (some .int) ∈ lw_g := mg4 (i := 155) (by decide +kernel) (by decide +kernel)
set_option maxRecDepth 100000 in
theorem miX8_turnsDeal : Cond.instanceMethod yX8_turnsDeal ∈ lw_g := mg4 (i := 154) (by decide +kernel) (by decide +kernel)
set_option maxRecDepth 100000 in
theorem meX8_turnsDeal : Cond.selects (yX8_turnsDeal).cls yX8_turnsDeal yX8_turnsDeal ∈ lw_g := mgs (q := (⟨"ShuffleDeskModel", "turnsDeal", "(II)I"⟩, 24)) (List.mem_append_right _ (List.mem_append_right _ (List.mem_append_right _ (List.mem_of_getElem? (i := 6) (by decide +kernel))))) (by decide +kernel)
set_option maxRecDepth 100000 in
theorem qX8_236 : PCV RX8 236 yX8_turnsDeal cX8_turnsDeal 3 (some .int) 2 4 := ⟨⟨mcX8_turnsDeal, mg4 (i := 152) (by decide +kernel) (by decide +kernel), mnX8, by decide +kernel, by decide⟩, miX8_turnsDeal, meX8_turnsDeal, ⟨_, rfl, rfl⟩⟩
set_option maxRecDepth 100000 in
theorem mcX8_turnsNow : Cond.code yX8_turnsNow cX8_turnsNow 4 (some .int) ∈ lw_g := mg4 (i := 147) (by decide +kernel) (by decide +kernel)
set_option maxRecDepth 100000 in
theorem miX8_turnsNow : Cond.instanceMethod yX8_turnsNow ∈ lw_g := mg4 (i := 146) (by decide +kernel) (by decide +kernel)
set_option maxRecDepth 100000 in
theorem meX8_turnsNow : Cond.selects (yX8_turnsNow).cls yX8_turnsNow yX8_turnsNow ∈ lw_g := mgs (q := (⟨"ShuffleDeskModel", "turnsNow", "(II)I"⟩, 24)) (List.mem_append_right _ (List.mem_append_right _ (List.mem_append_right _ (List.mem_of_getElem? (i := 4) (by decide +kernel))))) (by decide +kernel)
set_option maxRecDepth 100000 in
theorem qX8_239 : PCV RX8 239 yX8_turnsNow cX8_turnsNow 4 (some .int) 2 4 := ⟨⟨mcX8_turnsNow, mg4 (i := 144) (by decide +kernel) (by decide +kernel), mnX8, by decide +kernel, by decide⟩, miX8_turnsNow, meX8_turnsNow, ⟨_, rfl, rfl⟩⟩
set_option maxRecDepth 100000 in
theorem kX8_156 : Cond.constant RX8 156 (1103515245) ∈ lw_g := mg4 (i := 29) (by decide +kernel) (by decide +kernel)
set_option maxRecDepth 100000 in
theorem kX8_157 : Cond.constantLong RX8 157 (-4611686018427387904) ∈ lw_g := mg4 (i := 24) (by decide +kernel) (by decide +kernel)
set_option maxRecDepth 100000 in
theorem kX8_162 : Cond.constantLong RX8 162 (10) ∈ lw_g := mg4 (i := 42) (by decide +kernel) (by decide +kernel)
set_option maxRecDepth 100000 in
theorem kX8_183 : Cond.constantLong RX8 183 (2) ∈ lw_g := mg4 (i := 69) (by decide +kernel) (by decide +kernel)
set_option maxRecDepth 100000 in
theorem kX8_199 : Cond.constantLong RX8 199 (15) ∈ lw_g := mg4 (i := 103) (by decide +kernel) (by decide +kernel)
set_option maxRecDepth 100000 in
theorem wX8_7 : PFW RX8 7 4 0 := ⟨(RX8, TX8, 24), rfl, uwX8, by decide, mg3 (i := 35) (by decide +kernel) (by decide +kernel), by decide +kernel, by decide +kernel, ⟨tyX8, tyX8_ok⟩, nmX8⟩
set_option maxRecDepth 100000 in
theorem fX8_29 : PFL RX8 29 4 9 := ⟨(RX8, TX8, 24), rfl, uwX8, by decide, mg3 (i := 44) (by decide +kernel) (by decide +kernel)⟩
set_option maxRecDepth 100000 in
theorem wX8_72 : PFW RX8 72 4 1 := ⟨(RX8, TX8, 24), rfl, uwX8, by decide, mg3 (i := 36) (by decide +kernel) (by decide +kernel), by decide +kernel, by decide +kernel, ⟨tyX8, tyX8_ok⟩, nmX8⟩
set_option maxRecDepth 100000 in
theorem wX8_75 : PFW RX8 75 4 2 := ⟨(RX8, TX8, 24), rfl, uwX8, by decide, mg3 (i := 37) (by decide +kernel) (by decide +kernel), by decide +kernel, by decide +kernel, ⟨tyX8, tyX8_ok⟩, nmX8⟩
set_option maxRecDepth 100000 in
theorem wX8_153 : PFW RX8 153 4 3 := ⟨(RX8, TX8, 24), rfl, uwX8, by decide, mg3 (i := 38) (by decide +kernel) (by decide +kernel), by decide +kernel, by decide +kernel, ⟨tyX8, tyX8_ok⟩, nmX8⟩
set_option maxRecDepth 100000 in
theorem wX8_212 : PFW RX8 212 4 23 := ⟨(RX8, TX8, 24), rfl, uwX8, by decide, mg3 (i := 58) (by decide +kernel) (by decide +kernel), by decide +kernel, by decide +kernel, ⟨tyX8, tyX8_ok⟩, nmX8⟩
