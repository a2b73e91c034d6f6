/-! the words GW are among the tables words (2) -/
set_option maxRecDepth 100000 in
set_option maxHeartbeats 4000000 in
theorem tL28 : ∀ w ∈ gR28, w ∈ lw_tbl := List.forall_mem_cons.mpr ⟨(iT3 (List.mem_of_getElem? (i := 210) rfl)), List.forall_mem_cons.mpr ⟨(iT3 (List.mem_of_getElem? (i := 211) rfl)), List.forall_mem_cons.mpr ⟨(iT1 (List.mem_of_getElem? (i := 217) rfl)), List.forall_mem_cons.mpr ⟨(iT1 (List.mem_of_getElem? (i := 219) rfl)), List.forall_mem_cons.mpr ⟨(iT1 (List.mem_of_getElem? (i := 221) rfl)), List.forall_mem_cons.mpr ⟨(iT1 (List.mem_of_getElem? (i := 228) rfl)), List.forall_mem_cons.mpr ⟨(iT3 (List.mem_of_getElem? (i := 212) rfl)), List.forall_mem_cons.mpr ⟨(iT3 (List.mem_of_getElem? (i := 213) rfl)), List.forall_mem_cons.mpr ⟨(iT3 (List.mem_of_getElem? (i := 214) rfl)), List.forall_mem_cons.mpr ⟨(iT1 (List.mem_of_getElem? (i := 225) rfl)), List.forall_mem_cons.mpr ⟨(iT1 (List.mem_of_getElem? (i := 215) rfl)), List.forall_mem_cons.mpr ⟨(iT1 (List.mem_of_getElem? (i := 223) rfl)), List.forall_mem_cons.mpr ⟨(iT3 (List.mem_of_getElem? (i := 215) rfl)), List.forall_mem_cons.mpr ⟨(iT3 (List.mem_of_getElem? (i := 216) rfl)), List.forall_mem_cons.mpr ⟨(iT3 (List.mem_of_getElem? (i := 217) rfl)), List.forall_mem_cons.mpr ⟨(iT3 (List.mem_of_getElem? (i := 218) rfl)), List.forall_mem_cons.mpr ⟨(iT3 (List.mem_of_getElem? (i := 219) rfl)), List.forall_mem_cons.mpr ⟨(iT3 (List.mem_of_getElem? (i := 220) rfl)), List.forall_mem_cons.mpr ⟨(iT3 (List.mem_of_getElem? (i := 221) rfl)), List.forall_mem_cons.mpr ⟨(iT3 (List.mem_of_getElem? (i := 222) rfl)), List.forall_mem_cons.mpr ⟨(iT3 (List.mem_of_getElem? (i := 223) rfl)), List.forall_mem_cons.mpr ⟨(iT3 (List.mem_of_getElem? (i := 224) rfl)), List.forall_mem_cons.mpr ⟨(iT3 (List.mem_of_getElem? (i := 229) rfl)), List.forall_mem_cons.mpr ⟨(iT3 (List.mem_of_getElem? (i := 225) rfl)), fun _ h => absurd h List.not_mem_nil⟩⟩⟩⟩⟩⟩⟩⟩⟩⟩⟩⟩⟩⟩⟩⟩⟩⟩⟩⟩⟩⟩⟩⟩
set_option maxRecDepth 100000 in
set_option maxHeartbeats 4000000 in
theorem tL29 : ∀ w ∈ gR29, w ∈ lw_tbl := List.forall_mem_cons.mpr ⟨(iT3 (List.mem_of_getElem? (i := 227) rfl)), List.forall_mem_cons.mpr ⟨(iS (q := (yX0_expandKey, 5)) (iP1 (List.mem_of_getElem? (i := 11) rfl))), List.forall_mem_cons.mpr ⟨(iT3 (List.mem_of_getElem? (i := 228) rfl)), List.forall_mem_cons.mpr ⟨(iT3 (List.mem_of_getElem? (i := 230) rfl)), List.forall_mem_cons.mpr ⟨(iT3 (List.mem_of_getElem? (i := 232) rfl)), List.forall_mem_cons.mpr ⟨(iT3 (List.mem_of_getElem? (i := 234) rfl)), List.forall_mem_cons.mpr ⟨(iS (q := (yX0_addUp, 5)) (iP1 (List.mem_of_getElem? (i := 12) rfl))), List.forall_mem_cons.mpr ⟨(iT3 (List.mem_of_getElem? (i := 235) rfl)), List.forall_mem_cons.mpr ⟨(iT3 (List.mem_of_getElem? (i := 236) rfl)), List.forall_mem_cons.mpr ⟨(iT3 (List.mem_of_getElem? (i := 237) rfl)), List.forall_mem_cons.mpr ⟨(iT3 (List.mem_of_getElem? (i := 238) rfl)), List.forall_mem_cons.mpr ⟨(iT3 (List.mem_of_getElem? (i := 239) rfl)), List.forall_mem_cons.mpr ⟨(iT4 (List.mem_of_getElem? (i := 1) rfl)), List.forall_mem_cons.mpr ⟨(iS (q := (yX0_encrypt, 5)) (iP1 (List.mem_of_getElem? (i := 13) rfl))), List.forall_mem_cons.mpr ⟨(iT4 (List.mem_of_getElem? (i := 2) rfl)), List.forall_mem_cons.mpr ⟨(iT4 (List.mem_of_getElem? (i := 3) rfl)), List.forall_mem_cons.mpr ⟨(iT4 (List.mem_of_getElem? (i := 4) rfl)), List.forall_mem_cons.mpr ⟨(iT4 (List.mem_of_getElem? (i := 5) rfl)), List.forall_mem_cons.mpr ⟨(iT4 (List.mem_of_getElem? (i := 6) rfl)), List.forall_mem_cons.mpr ⟨(iT4 (List.mem_of_getElem? (i := 8) rfl)), List.forall_mem_cons.mpr ⟨(iS (q := (yX0_crypt, 5)) (iP1 (List.mem_of_getElem? (i := 14) rfl))), List.forall_mem_cons.mpr ⟨(iT4 (List.mem_of_getElem? (i := 9) rfl)), List.forall_mem_cons.mpr ⟨(iT4 (List.mem_of_getElem? (i := 10) rfl)), List.forall_mem_cons.mpr ⟨(iT4 (List.mem_of_getElem? (i := 11) rfl)), fun _ h => absurd h List.not_mem_nil⟩⟩⟩⟩⟩⟩⟩⟩⟩⟩⟩⟩⟩⟩⟩⟩⟩⟩⟩⟩⟩⟩⟩⟩
set_option maxRecDepth 100000 in
set_option maxHeartbeats 4000000 in
theorem tL30 : ∀ w ∈ gR30, w ∈ lw_tbl := List.forall_mem_cons.mpr ⟨(iT4 (List.mem_of_getElem? (i := 12) rfl)), List.forall_mem_cons.mpr ⟨(iT4 (List.mem_of_getElem? (i := 13) rfl)), List.forall_mem_cons.mpr ⟨(iT2 (List.mem_of_getElem? (i := 11) rfl)), List.forall_mem_cons.mpr ⟨(iT4 (List.mem_of_getElem? (i := 14) rfl)), List.forall_mem_cons.mpr ⟨(iT4 (List.mem_of_getElem? (i := 15) rfl)), List.forall_mem_cons.mpr ⟨(iT4 (List.mem_of_getElem? (i := 16) rfl)), List.forall_mem_cons.mpr ⟨(iT4 (List.mem_of_getElem? (i := 17) rfl)), List.forall_mem_cons.mpr ⟨(iT1 (List.mem_of_getElem? (i := 59) rfl)), List.forall_mem_cons.mpr ⟨(iT4 (List.mem_of_getElem? (i := 18) rfl)), List.forall_mem_cons.mpr ⟨(iT4 (List.mem_of_getElem? (i := 19) rfl)), List.forall_mem_cons.mpr ⟨(iT4 (List.mem_of_getElem? (i := 21) rfl)), List.forall_mem_cons.mpr ⟨(iS (q := (yX8_moveUp, 4)) (iP1 (List.mem_of_getElem? (i := 15) rfl))), List.forall_mem_cons.mpr ⟨(iT4 (List.mem_of_getElem? (i := 22) rfl)), List.forall_mem_cons.mpr ⟨(iT4 (List.mem_of_getElem? (i := 23) rfl)), List.forall_mem_cons.mpr ⟨(iT4 (List.mem_of_getElem? (i := 24) rfl)), List.forall_mem_cons.mpr ⟨(iT4 (List.mem_of_getElem? (i := 25) rfl)), List.forall_mem_cons.mpr ⟨(iT4 (List.mem_of_getElem? (i := 26) rfl)), List.forall_mem_cons.mpr ⟨(iT4 (List.mem_of_getElem? (i := 27) rfl)), List.forall_mem_cons.mpr ⟨(iT4 (List.mem_of_getElem? (i := 29) rfl)), List.forall_mem_cons.mpr ⟨(iS (q := (yX5_isNoisy, 18)) (iP2 (List.mem_of_getElem? (i := 0) rfl))), List.forall_mem_cons.mpr ⟨(iT4 (List.mem_of_getElem? (i := 30) rfl)), List.forall_mem_cons.mpr ⟨(iT4 (List.mem_of_getElem? (i := 31) rfl)), List.forall_mem_cons.mpr ⟨(iT4 (List.mem_of_getElem? (i := 33) rfl)), List.forall_mem_cons.mpr ⟨(iS (q := (yX5_spoilAll, 18)) (iP2 (List.mem_of_getElem? (i := 1) rfl))), fun _ h => absurd h List.not_mem_nil⟩⟩⟩⟩⟩⟩⟩⟩⟩⟩⟩⟩⟩⟩⟩⟩⟩⟩⟩⟩⟩⟩⟩⟩
set_option maxRecDepth 100000 in
set_option maxHeartbeats 4000000 in
theorem tL31 : ∀ w ∈ gR31, w ∈ lw_tbl := List.forall_mem_cons.mpr ⟨(iT4 (List.mem_of_getElem? (i := 34) rfl)), List.forall_mem_cons.mpr ⟨(iT4 (List.mem_of_getElem? (i := 35) rfl)), List.forall_mem_cons.mpr ⟨(iT4 (List.mem_of_getElem? (i := 37) rfl)), List.forall_mem_cons.mpr ⟨(iS (q := (yX11_endFrames, 17)) (iP2 (List.mem_of_getElem? (i := 2) rfl))), List.forall_mem_cons.mpr ⟨(iT4 (List.mem_of_getElem? (i := 38) rfl)), List.forall_mem_cons.mpr ⟨(iT2 (List.mem_of_getElem? (i := 74) rfl)), List.forall_mem_cons.mpr ⟨(iT4 (List.mem_of_getElem? (i := 39) rfl)), List.forall_mem_cons.mpr ⟨(iT4 (List.mem_of_getElem? (i := 40) rfl)), List.forall_mem_cons.mpr ⟨(iT4 (List.mem_of_getElem? (i := 41) rfl)), List.forall_mem_cons.mpr ⟨(iT4 (List.mem_of_getElem? (i := 42) rfl)), List.forall_mem_cons.mpr ⟨(iT1 (List.mem_of_getElem? (i := 56) rfl)), List.forall_mem_cons.mpr ⟨(iT4 (List.mem_of_getElem? (i := 43) rfl)), List.forall_mem_cons.mpr ⟨(iT4 (List.mem_of_getElem? (i := 45) rfl)), List.forall_mem_cons.mpr ⟨(iS (q := (yX11_takeFrame, 17)) (iP2 (List.mem_of_getElem? (i := 3) rfl))), List.forall_mem_cons.mpr ⟨(iT4 (List.mem_of_getElem? (i := 46) rfl)), List.forall_mem_cons.mpr ⟨(iT4 (List.mem_of_getElem? (i := 47) rfl)), List.forall_mem_cons.mpr ⟨(iT4 (List.mem_of_getElem? (i := 48) rfl)), List.forall_mem_cons.mpr ⟨(iT4 (List.mem_of_getElem? (i := 49) rfl)), List.forall_mem_cons.mpr ⟨(iT4 (List.mem_of_getElem? (i := 50) rfl)), List.forall_mem_cons.mpr ⟨(iT4 (List.mem_of_getElem? (i := 51) rfl)), List.forall_mem_cons.mpr ⟨(iT4 (List.mem_of_getElem? (i := 52) rfl)), List.forall_mem_cons.mpr ⟨(iT4 (List.mem_of_getElem? (i := 53) rfl)), List.forall_mem_cons.mpr ⟨(iT4 (List.mem_of_getElem? (i := 54) rfl)), List.forall_mem_cons.mpr ⟨(iT4 (List.mem_of_getElem? (i := 55) rfl)), fun _ h => absurd h List.not_mem_nil⟩⟩⟩⟩⟩⟩⟩⟩⟩⟩⟩⟩⟩⟩⟩⟩⟩⟩⟩⟩⟩⟩⟩⟩
set_option maxRecDepth 100000 in
set_option maxHeartbeats 4000000 in
theorem tL32 : ∀ w ∈ gR32, w ∈ lw_tbl := List.forall_mem_cons.mpr ⟨(iT4 (List.mem_of_getElem? (i := 56) rfl)), List.forall_mem_cons.mpr ⟨(iT4 (List.mem_of_getElem? (i := 57) rfl)), List.forall_mem_cons.mpr ⟨(iT4 (List.mem_of_getElem? (i := 58) rfl)), List.forall_mem_cons.mpr ⟨(iT4 (List.mem_of_getElem? (i := 59) rfl)), List.forall_mem_cons.mpr ⟨(iT4 (List.mem_of_getElem? (i := 60) rfl)), List.forall_mem_cons.mpr ⟨(iT4 (List.mem_of_getElem? (i := 61) rfl)), List.forall_mem_cons.mpr ⟨(iT4 (List.mem_of_getElem? (i := 62) rfl)), List.forall_mem_cons.mpr ⟨(iT4 (List.mem_of_getElem? (i := 63) rfl)), List.forall_mem_cons.mpr ⟨(iT4 (List.mem_of_getElem? (i := 64) rfl)), List.forall_mem_cons.mpr ⟨(iT4 (List.mem_of_getElem? (i := 65) rfl)), List.forall_mem_cons.mpr ⟨(iT4 (List.mem_of_getElem? (i := 66) rfl)), List.forall_mem_cons.mpr ⟨(iT4 (List.mem_of_getElem? (i := 68) rfl)), List.forall_mem_cons.mpr ⟨(iT4 (List.mem_of_getElem? (i := 69) rfl)), List.forall_mem_cons.mpr ⟨(iT4 (List.mem_of_getElem? (i := 70) rfl)), List.forall_mem_cons.mpr ⟨(iT4 (List.mem_of_getElem? (i := 71) rfl)), List.forall_mem_cons.mpr ⟨(iT4 (List.mem_of_getElem? (i := 72) rfl)), List.forall_mem_cons.mpr ⟨(iT4 (List.mem_of_getElem? (i := 74) rfl)), List.forall_mem_cons.mpr ⟨(iS (q := (yX11_takeAck, 17)) (iP2 (List.mem_of_getElem? (i := 4) rfl))), List.forall_mem_cons.mpr ⟨(iT4 (List.mem_of_getElem? (i := 75) rfl)), List.forall_mem_cons.mpr ⟨(iT4 (List.mem_of_getElem? (i := 76) rfl)), List.forall_mem_cons.mpr ⟨(iT4 (List.mem_of_getElem? (i := 77) rfl)), List.forall_mem_cons.mpr ⟨(iT4 (List.mem_of_getElem? (i := 78) rfl)), List.forall_mem_cons.mpr ⟨(iT4 (List.mem_of_getElem? (i := 79) rfl)), List.forall_mem_cons.mpr ⟨(iT2 (List.mem_of_getElem? (i := 58) rfl)), fun _ h => absurd h List.not_mem_nil⟩⟩⟩⟩⟩⟩⟩⟩⟩⟩⟩⟩⟩⟩⟩⟩⟩⟩⟩⟩⟩⟩⟩⟩
set_option maxRecDepth 100000 in
set_option maxHeartbeats 4000000 in
theorem tL33 : ∀ w ∈ gR33, w ∈ lw_tbl := List.forall_mem_cons.mpr ⟨(iT4 (List.mem_of_getElem? (i := 80) rfl)), List.forall_mem_cons.mpr ⟨(iT4 (List.mem_of_getElem? (i := 82) rfl)), List.forall_mem_cons.mpr ⟨(iS (q := (yX11_takeData, 17)) (iP2 (List.mem_of_getElem? (i := 5) rfl))), List.forall_mem_cons.mpr ⟨(iT4 (List.mem_of_getElem? (i := 83) rfl)), List.forall_mem_cons.mpr ⟨(iT4 (List.mem_of_getElem? (i := 84) rfl)), List.forall_mem_cons.mpr ⟨(iT4 (List.mem_of_getElem? (i := 86) rfl)), List.forall_mem_cons.mpr ⟨(iS (q := (yX11_takeSealed, 17)) (iP2 (List.mem_of_getElem? (i := 6) rfl))), List.forall_mem_cons.mpr ⟨(iT4 (List.mem_of_getElem? (i := 87) rfl)), List.forall_mem_cons.mpr ⟨(iT2 (List.mem_of_getElem? (i := 60) rfl)), List.forall_mem_cons.mpr ⟨(iT2 (List.mem_of_getElem? (i := 137) rfl)), List.forall_mem_cons.mpr ⟨(iT1 (List.mem_of_getElem? (i := 179) rfl)), List.forall_mem_cons.mpr ⟨(iT2 (List.mem_of_getElem? (i := 141) rfl)), List.forall_mem_cons.mpr ⟨(iT2 (List.mem_of_getElem? (i := 145) rfl)), List.forall_mem_cons.mpr ⟨(iT2 (List.mem_of_getElem? (i := 147) rfl)), List.forall_mem_cons.mpr ⟨(iT4 (List.mem_of_getElem? (i := 88) rfl)), List.forall_mem_cons.mpr ⟨(iT4 (List.mem_of_getElem? (i := 89) rfl)), List.forall_mem_cons.mpr ⟨(iT4 (List.mem_of_getElem? (i := 90) rfl)), List.forall_mem_cons.mpr ⟨(iT4 (List.mem_of_getElem? (i := 91) rfl)), List.forall_mem_cons.mpr ⟨(iT4 (List.mem_of_getElem? (i := 92) rfl)), List.forall_mem_cons.mpr ⟨(iT4 (List.mem_of_getElem? (i := 93) rfl)), List.forall_mem_cons.mpr ⟨(iT4 (List.mem_of_getElem? (i := 94) rfl)), List.forall_mem_cons.mpr ⟨(iT4 (List.mem_of_getElem? (i := 95) rfl)), List.forall_mem_cons.mpr ⟨(iT4 (List.mem_of_getElem? (i := 96) rfl)), List.forall_mem_cons.mpr ⟨(iT4 (List.mem_of_getElem? (i := 97) rfl)), fun _ h => absurd h List.not_mem_nil⟩⟩⟩⟩⟩⟩⟩⟩⟩⟩⟩⟩⟩⟩⟩⟩⟩⟩⟩⟩⟩⟩⟩⟩
set_option maxRecDepth 100000 in
set_option maxHeartbeats 4000000 in
theorem tL34 : ∀ w ∈ gR34, w ∈ lw_tbl := List.forall_mem_cons.mpr ⟨(iT4 (List.mem_of_getElem? (i := 98) rfl)), List.forall_mem_cons.mpr ⟨(iT4 (List.mem_of_getElem? (i := 99) rfl)), List.forall_mem_cons.mpr ⟨(iT4 (List.mem_of_getElem? (i := 100) rfl)), List.forall_mem_cons.mpr ⟨(iT2 (List.mem_of_getElem? (i := 142) rfl)), List.forall_mem_cons.mpr ⟨(iT2 (List.mem_of_getElem? (i := 143) rfl)), List.forall_mem_cons.mpr ⟨(iT2 (List.mem_of_getElem? (i := 144) rfl)), List.forall_mem_cons.mpr ⟨(iT4 (List.mem_of_getElem? (i := 101) rfl)), List.forall_mem_cons.mpr ⟨(iT4 (List.mem_of_getElem? (i := 102) rfl)), List.forall_mem_cons.mpr ⟨(iT4 (List.mem_of_getElem? (i := 103) rfl)), List.forall_mem_cons.mpr ⟨(iT4 (List.mem_of_getElem? (i := 104) rfl)), List.forall_mem_cons.mpr ⟨(iT4 (List.mem_of_getElem? (i := 105) rfl)), List.forall_mem_cons.mpr ⟨(iT4 (List.mem_of_getElem? (i := 106) rfl)), List.forall_mem_cons.mpr ⟨(iT4 (List.mem_of_getElem? (i := 107) rfl)), List.forall_mem_cons.mpr ⟨(iT4 (List.mem_of_getElem? (i := 108) rfl)), List.forall_mem_cons.mpr ⟨(iT4 (List.mem_of_getElem? (i := 110) rfl)), List.forall_mem_cons.mpr ⟨(iS (q := (yX11_passOn, 17)) (iP2 (List.mem_of_getElem? (i := 7) rfl))), List.forall_mem_cons.mpr ⟨(iT4 (List.mem_of_getElem? (i := 111) rfl)), List.forall_mem_cons.mpr ⟨(iT2 (List.mem_of_getElem? (i := 56) rfl)), List.forall_mem_cons.mpr ⟨(iT4 (List.mem_of_getElem? (i := 112) rfl)), List.forall_mem_cons.mpr ⟨(iT4 (List.mem_of_getElem? (i := 113) rfl)), List.forall_mem_cons.mpr ⟨(iT4 (List.mem_of_getElem? (i := 114) rfl)), List.forall_mem_cons.mpr ⟨(iT4 (List.mem_of_getElem? (i := 115) rfl)), List.forall_mem_cons.mpr ⟨(iT2 (List.mem_of_getElem? (i := 35) rfl)), List.forall_mem_cons.mpr ⟨(iT4 (List.mem_of_getElem? (i := 116) rfl)), fun _ h => absurd h List.not_mem_nil⟩⟩⟩⟩⟩⟩⟩⟩⟩⟩⟩⟩⟩⟩⟩⟩⟩⟩⟩⟩⟩⟩⟩⟩
set_option maxRecDepth 100000 in
set_option maxHeartbeats 4000000 in
theorem tL35 : ∀ w ∈ gR35, w ∈ lw_tbl := List.forall_mem_cons.mpr ⟨(iT4 (List.mem_of_getElem? (i := 117) rfl)), List.forall_mem_cons.mpr ⟨(iT4 (List.mem_of_getElem? (i := 119) rfl)), List.forall_mem_cons.mpr ⟨(iS (q := (yX11_queueForward, 17)) (iP2 (List.mem_of_getElem? (i := 8) rfl))), List.forall_mem_cons.mpr ⟨(iT4 (List.mem_of_getElem? (i := 120) rfl)), List.forall_mem_cons.mpr ⟨(iT4 (List.mem_of_getElem? (i := 121) rfl)), List.forall_mem_cons.mpr ⟨(iT4 (List.mem_of_getElem? (i := 123) rfl)), List.forall_mem_cons.mpr ⟨(iS (q := (yX11_takeHandAtAp, 17)) (iP2 (List.mem_of_getElem? (i := 9) rfl))), List.forall_mem_cons.mpr ⟨(iT4 (List.mem_of_getElem? (i := 124) rfl)), List.forall_mem_cons.mpr ⟨(iT1 (List.mem_of_getElem? (i := 154) rfl)), List.forall_mem_cons.mpr ⟨(iT2 (List.mem_of_getElem? (i := 131) rfl)), List.forall_mem_cons.mpr ⟨(iT2 (List.mem_of_getElem? (i := 129) rfl)), List.forall_mem_cons.mpr ⟨(iT4 (List.mem_of_getElem? (i := 125) rfl)), List.forall_mem_cons.mpr ⟨(iT4 (List.mem_of_getElem? (i := 126) rfl)), List.forall_mem_cons.mpr ⟨(iT4 (List.mem_of_getElem? (i := 127) rfl)), List.forall_mem_cons.mpr ⟨(iT4 (List.mem_of_getElem? (i := 128) rfl)), List.forall_mem_cons.mpr ⟨(iT4 (List.mem_of_getElem? (i := 130) rfl)), List.forall_mem_cons.mpr ⟨(iT4 (List.mem_of_getElem? (i := 131) rfl)), List.forall_mem_cons.mpr ⟨(iT4 (List.mem_of_getElem? (i := 132) rfl)), List.forall_mem_cons.mpr ⟨(iT4 (List.mem_of_getElem? (i := 133) rfl)), List.forall_mem_cons.mpr ⟨(iT4 (List.mem_of_getElem? (i := 134) rfl)), List.forall_mem_cons.mpr ⟨(iT4 (List.mem_of_getElem? (i := 185) rfl)), List.forall_mem_cons.mpr ⟨(iT4 (List.mem_of_getElem? (i := 136) rfl)), List.forall_mem_cons.mpr ⟨(iT4 (List.mem_of_getElem? (i := 137) rfl)), List.forall_mem_cons.mpr ⟨(iT4 (List.mem_of_getElem? (i := 138) rfl)), fun _ h => absurd h List.not_mem_nil⟩⟩⟩⟩⟩⟩⟩⟩⟩⟩⟩⟩⟩⟩⟩⟩⟩⟩⟩⟩⟩⟩⟩⟩
set_option maxRecDepth 100000 in
set_option maxHeartbeats 4000000 in
theorem tL36 : ∀ w ∈ gR36, w ∈ lw_tbl := List.forall_mem_cons.mpr ⟨(iT1 (List.mem_of_getElem? (i := 17) rfl)), List.forall_mem_cons.mpr ⟨(iT4 (List.mem_of_getElem? (i := 139) rfl)), List.forall_mem_cons.mpr ⟨(iT8 (List.mem_of_getElem? (i := 88) rfl)), List.forall_mem_cons.mpr ⟨(iT4 (List.mem_of_getElem? (i := 140) rfl)), List.forall_mem_cons.mpr ⟨(iT4 (List.mem_of_getElem? (i := 141) rfl)), List.forall_mem_cons.mpr ⟨(iT4 (List.mem_of_getElem? (i := 142) rfl)), List.forall_mem_cons.mpr ⟨(iT4 (List.mem_of_getElem? (i := 143) rfl)), List.forall_mem_cons.mpr ⟨(iT4 (List.mem_of_getElem? (i := 144) rfl)), List.forall_mem_cons.mpr ⟨(iT8 (List.mem_of_getElem? (i := 89) rfl)), List.forall_mem_cons.mpr ⟨(iT4 (List.mem_of_getElem? (i := 146) rfl)), List.forall_mem_cons.mpr ⟨(iT4 (List.mem_of_getElem? (i := 147) rfl)), List.forall_mem_cons.mpr ⟨(iT4 (List.mem_of_getElem? (i := 148) rfl)), List.forall_mem_cons.mpr ⟨(iT4 (List.mem_of_getElem? (i := 149) rfl)), List.forall_mem_cons.mpr ⟨(iT4 (List.mem_of_getElem? (i := 150) rfl)), List.forall_mem_cons.mpr ⟨(iT4 (List.mem_of_getElem? (i := 151) rfl)), List.forall_mem_cons.mpr ⟨(iT4 (List.mem_of_getElem? (i := 152) rfl)), List.forall_mem_cons.mpr ⟨(iT4 (List.mem_of_getElem? (i := 153) rfl)), List.forall_mem_cons.mpr ⟨(iT4 (List.mem_of_getElem? (i := 154) rfl)), List.forall_mem_cons.mpr ⟨(iT4 (List.mem_of_getElem? (i := 155) rfl)), List.forall_mem_cons.mpr ⟨(iT1 (List.mem_of_getElem? (i := 18) rfl)), List.forall_mem_cons.mpr ⟨(iT4 (List.mem_of_getElem? (i := 156) rfl)), List.forall_mem_cons.mpr ⟨(iT4 (List.mem_of_getElem? (i := 157) rfl)), List.forall_mem_cons.mpr ⟨(iT4 (List.mem_of_getElem? (i := 158) rfl)), List.forall_mem_cons.mpr ⟨(iT4 (List.mem_of_getElem? (i := 159) rfl)), fun _ h => absurd h List.not_mem_nil⟩⟩⟩⟩⟩⟩⟩⟩⟩⟩⟩⟩⟩⟩⟩⟩⟩⟩⟩⟩⟩⟩⟩⟩
set_option maxRecDepth 100000 in
set_option maxHeartbeats 4000000 in
theorem tL37 : ∀ w ∈ gR37, w ∈ lw_tbl := List.forall_mem_cons.mpr ⟨(iT4 (List.mem_of_getElem? (i := 160) rfl)), List.forall_mem_cons.mpr ⟨(iT4 (List.mem_of_getElem? (i := 162) rfl)), List.forall_mem_cons.mpr ⟨(iT4 (List.mem_of_getElem? (i := 163) rfl)), List.forall_mem_cons.mpr ⟨(iT1 (List.mem_of_getElem? (i := 19) rfl)), List.forall_mem_cons.mpr ⟨(iT4 (List.mem_of_getElem? (i := 164) rfl)), List.forall_mem_cons.mpr ⟨(iT4 (List.mem_of_getElem? (i := 165) rfl)), List.forall_mem_cons.mpr ⟨(iT4 (List.mem_of_getElem? (i := 166) rfl)), List.forall_mem_cons.mpr ⟨(iT1 (List.mem_of_getElem? (i := 20) rfl)), List.forall_mem_cons.mpr ⟨(iT4 (List.mem_of_getElem? (i := 167) rfl)), List.forall_mem_cons.mpr ⟨(iT4 (List.mem_of_getElem? (i := 168) rfl)), List.forall_mem_cons.mpr ⟨(iT4 (List.mem_of_getElem? (i := 169) rfl)), List.forall_mem_cons.mpr ⟨(iT4 (List.mem_of_getElem? (i := 170) rfl)), List.forall_mem_cons.mpr ⟨(iT4 (List.mem_of_getElem? (i := 171) rfl)), List.forall_mem_cons.mpr ⟨(iT4 (List.mem_of_getElem? (i := 172) rfl)), List.forall_mem_cons.mpr ⟨(iT4 (List.mem_of_getElem? (i := 173) rfl)), List.forall_mem_cons.mpr ⟨(iT4 (List.mem_of_getElem? (i := 174) rfl)), List.forall_mem_cons.mpr ⟨(iT4 (List.mem_of_getElem? (i := 175) rfl)), List.forall_mem_cons.mpr ⟨(iT4 (List.mem_of_getElem? (i := 176) rfl)), List.forall_mem_cons.mpr ⟨(iT4 (List.mem_of_getElem? (i := 177) rfl)), List.forall_mem_cons.mpr ⟨(iT4 (List.mem_of_getElem? (i := 178) rfl)), List.forall_mem_cons.mpr ⟨(iT4 (List.mem_of_getElem? (i := 180) rfl)), List.forall_mem_cons.mpr ⟨(iT4 (List.mem_of_getElem? (i := 182) rfl)), List.forall_mem_cons.mpr ⟨(iT4 (List.mem_of_getElem? (i := 186) rfl)), List.forall_mem_cons.mpr ⟨(iT4 (List.mem_of_getElem? (i := 187) rfl)), fun _ h => absurd h List.not_mem_nil⟩⟩⟩⟩⟩⟩⟩⟩⟩⟩⟩⟩⟩⟩⟩⟩⟩⟩⟩⟩⟩⟩⟩⟩
set_option maxRecDepth 100000 in
set_option maxHeartbeats 4000000 in
theorem tL38 : ∀ w ∈ gR38, w ∈ lw_tbl := List.forall_mem_cons.mpr ⟨(iT4 (List.mem_of_getElem? (i := 188) rfl)), List.forall_mem_cons.mpr ⟨(iT4 (List.mem_of_getElem? (i := 189) rfl)), List.forall_mem_cons.mpr ⟨(iT4 (List.mem_of_getElem? (i := 190) rfl)), List.forall_mem_cons.mpr ⟨(iT4 (List.mem_of_getElem? (i := 192) rfl)), List.forall_mem_cons.mpr ⟨(iS (q := (yX10_padKey, 6)) (iP2 (List.mem_of_getElem? (i := 10) rfl))), List.forall_mem_cons.mpr ⟨(iT4 (List.mem_of_getElem? (i := 193) rfl)), List.forall_mem_cons.mpr ⟨(iT4 (List.mem_of_getElem? (i := 194) rfl)), List.forall_mem_cons.mpr ⟨(iT4 (List.mem_of_getElem? (i := 196) rfl)), List.forall_mem_cons.mpr ⟨(iS (q := (yX10_hashText, 6)) (iP2 (List.mem_of_getElem? (i := 11) rfl))), List.forall_mem_cons.mpr ⟨(iT4 (List.mem_of_getElem? (i := 197) rfl)), List.forall_mem_cons.mpr ⟨(iT4 (List.mem_of_getElem? (i := 199) rfl)), List.forall_mem_cons.mpr ⟨(iT4 (List.mem_of_getElem? (i := 201) rfl)), List.forall_mem_cons.mpr ⟨(iT4 (List.mem_of_getElem? (i := 202) rfl)), List.forall_mem_cons.mpr ⟨(iT4 (List.mem_of_getElem? (i := 203) rfl)), List.forall_mem_cons.mpr ⟨(iT4 (List.mem_of_getElem? (i := 204) rfl)), List.forall_mem_cons.mpr ⟨(iT4 (List.mem_of_getElem? (i := 205) rfl)), List.forall_mem_cons.mpr ⟨(iT4 (List.mem_of_getElem? (i := 198) rfl)), List.forall_mem_cons.mpr ⟨(iT4 (List.mem_of_getElem? (i := 200) rfl)), List.forall_mem_cons.mpr ⟨(iT4 (List.mem_of_getElem? (i := 206) rfl)), List.forall_mem_cons.mpr ⟨(iT4 (List.mem_of_getElem? (i := 208) rfl)), List.forall_mem_cons.mpr ⟨(iS (q := (yX10_fillWords, 6)) (iP2 (List.mem_of_getElem? (i := 12) rfl))), List.forall_mem_cons.mpr ⟨(iT4 (List.mem_of_getElem? (i := 209) rfl)), List.forall_mem_cons.mpr ⟨(iT4 (List.mem_of_getElem? (i := 210) rfl)), List.forall_mem_cons.mpr ⟨(iT4 (List.mem_of_getElem? (i := 212) rfl)), fun _ h => absurd h List.not_mem_nil⟩⟩⟩⟩⟩⟩⟩⟩⟩⟩⟩⟩⟩⟩⟩⟩⟩⟩⟩⟩⟩⟩⟩⟩
set_option maxRecDepth 100000 in
set_option maxHeartbeats 4000000 in
theorem tL39 : ∀ w ∈ gR39, w ∈ lw_tbl := List.forall_mem_cons.mpr ⟨(iS (q := (yX10_addWords, 6)) (iP2 (List.mem_of_getElem? (i := 13) rfl))), List.forall_mem_cons.mpr ⟨(iT4 (List.mem_of_getElem? (i := 213) rfl)), List.forall_mem_cons.mpr ⟨(iT4 (List.mem_of_getElem? (i := 214) rfl)), List.forall_mem_cons.mpr ⟨(iT4 (List.mem_of_getElem? (i := 215) rfl)), List.forall_mem_cons.mpr ⟨(iT4 (List.mem_of_getElem? (i := 216) rfl)), List.forall_mem_cons.mpr ⟨(iT4 (List.mem_of_getElem? (i := 217) rfl)), List.forall_mem_cons.mpr ⟨(iT4 (List.mem_of_getElem? (i := 218) rfl)), List.forall_mem_cons.mpr ⟨(iT4 (List.mem_of_getElem? (i := 220) rfl)), List.forall_mem_cons.mpr ⟨(iS (q := (yX11_hasRightMic, 17)) (iP2 (List.mem_of_getElem? (i := 14) rfl))), List.forall_mem_cons.mpr ⟨(iT4 (List.mem_of_getElem? (i := 221) rfl)), List.forall_mem_cons.mpr ⟨(iT1 (List.mem_of_getElem? (i := 152) rfl)), List.forall_mem_cons.mpr ⟨(iT4 (List.mem_of_getElem? (i := 222) rfl)), List.forall_mem_cons.mpr ⟨(iT4 (List.mem_of_getElem? (i := 223) rfl)), List.forall_mem_cons.mpr ⟨(iT4 (List.mem_of_getElem? (i := 224) rfl)), List.forall_mem_cons.mpr ⟨(iT4 (List.mem_of_getElem? (i := 225) rfl)), List.forall_mem_cons.mpr ⟨(iT4 (List.mem_of_getElem? (i := 226) rfl)), List.forall_mem_cons.mpr ⟨(iT4 (List.mem_of_getElem? (i := 227) rfl)), List.forall_mem_cons.mpr ⟨(iT4 (List.mem_of_getElem? (i := 228) rfl)), List.forall_mem_cons.mpr ⟨(iT4 (List.mem_of_getElem? (i := 230) rfl)), List.forall_mem_cons.mpr ⟨(iS (q := (yX11_queueHand, 17)) (iP2 (List.mem_of_getElem? (i := 15) rfl))), List.forall_mem_cons.mpr ⟨(iT4 (List.mem_of_getElem? (i := 231) rfl)), List.forall_mem_cons.mpr ⟨(iT4 (List.mem_of_getElem? (i := 232) rfl)), List.forall_mem_cons.mpr ⟨(iT4 (List.mem_of_getElem? (i := 233) rfl)), List.forall_mem_cons.mpr ⟨(iT4 (List.mem_of_getElem? (i := 234) rfl)), fun _ h => absurd h List.not_mem_nil⟩⟩⟩⟩⟩⟩⟩⟩⟩⟩⟩⟩⟩⟩⟩⟩⟩⟩⟩⟩⟩⟩⟩⟩
set_option maxRecDepth 100000 in
set_option maxHeartbeats 4000000 in
theorem tL40 : ∀ w ∈ gR40, w ∈ lw_tbl := List.forall_mem_cons.mpr ⟨(iT4 (List.mem_of_getElem? (i := 235) rfl)), List.forall_mem_cons.mpr ⟨(iT2 (List.mem_of_getElem? (i := 136) rfl)), List.forall_mem_cons.mpr ⟨(iT4 (List.mem_of_getElem? (i := 236) rfl)), List.forall_mem_cons.mpr ⟨(iT4 (List.mem_of_getElem? (i := 238) rfl)), List.forall_mem_cons.mpr ⟨(iS (q := (yX11_takeHandAtStation, 17)) (iP3 (List.mem_of_getElem? (i := 0) rfl))), List.forall_mem_cons.mpr ⟨(iT4 (List.mem_of_getElem? (i := 239) rfl)), List.forall_mem_cons.mpr ⟨(iT2 (List.mem_of_getElem? (i := 133) rfl)), List.forall_mem_cons.mpr ⟨(iT5 (List.mem_of_getElem? (i := 0) rfl)), List.forall_mem_cons.mpr ⟨(iT5 (List.mem_of_getElem? (i := 2) rfl)), List.forall_mem_cons.mpr ⟨(iS (q := (yX11_takeManagement, 17)) (iP3 (List.mem_of_getElem? (i := 1) rfl))), List.forall_mem_cons.mpr ⟨(iT5 (List.mem_of_getElem? (i := 3) rfl)), List.forall_mem_cons.mpr ⟨(iT5 (List.mem_of_getElem? (i := 4) rfl)), List.forall_mem_cons.mpr ⟨(iT5 (List.mem_of_getElem? (i := 6) rfl)), List.forall_mem_cons.mpr ⟨(iS (q := (yX11_actAtAp, 17)) (iP3 (List.mem_of_getElem? (i := 2) rfl))), List.forall_mem_cons.mpr ⟨(iT5 (List.mem_of_getElem? (i := 7) rfl)), List.forall_mem_cons.mpr ⟨(iT5 (List.mem_of_getElem? (i := 8) rfl)), List.forall_mem_cons.mpr ⟨(iT5 (List.mem_of_getElem? (i := 10) rfl)), List.forall_mem_cons.mpr ⟨(iS (q := (yX11_hasBody, 17)) (iP3 (List.mem_of_getElem? (i := 3) rfl))), List.forall_mem_cons.mpr ⟨(iT5 (List.mem_of_getElem? (i := 11) rfl)), List.forall_mem_cons.mpr ⟨(iT5 (List.mem_of_getElem? (i := 12) rfl)), List.forall_mem_cons.mpr ⟨(iT5 (List.mem_of_getElem? (i := 14) rfl)), List.forall_mem_cons.mpr ⟨(iS (q := (yX11_actAtStation, 17)) (iP3 (List.mem_of_getElem? (i := 4) rfl))), List.forall_mem_cons.mpr ⟨(iT5 (List.mem_of_getElem? (i := 15) rfl)), List.forall_mem_cons.mpr ⟨(iT5 (List.mem_of_getElem? (i := 16) rfl)), fun _ h => absurd h List.not_mem_nil⟩⟩⟩⟩⟩⟩⟩⟩⟩⟩⟩⟩⟩⟩⟩⟩⟩⟩⟩⟩⟩⟩⟩⟩
set_option maxRecDepth 100000 in
set_option maxHeartbeats 4000000 in
theorem tL41 : ∀ w ∈ gR41, w ∈ lw_tbl := List.forall_mem_cons.mpr ⟨(iT5 (List.mem_of_getElem? (i := 18) rfl)), List.forall_mem_cons.mpr ⟨(iS (q := (yX11_failWaiters, 17)) (iP3 (List.mem_of_getElem? (i := 5) rfl))), List.forall_mem_cons.mpr ⟨(iT5 (List.mem_of_getElem? (i := 19) rfl)), List.forall_mem_cons.mpr ⟨(iT5 (List.mem_of_getElem? (i := 20) rfl)), List.forall_mem_cons.mpr ⟨(iT5 (List.mem_of_getElem? (i := 22) rfl)), List.forall_mem_cons.mpr ⟨(iS (q := (yX11_fail, 17)) (iP3 (List.mem_of_getElem? (i := 6) rfl))), List.forall_mem_cons.mpr ⟨(iT5 (List.mem_of_getElem? (i := 23) rfl)), List.forall_mem_cons.mpr ⟨(iT2 (List.mem_of_getElem? (i := 191) rfl)), List.forall_mem_cons.mpr ⟨(iT5 (List.mem_of_getElem? (i := 24) rfl)), List.forall_mem_cons.mpr ⟨(iT5 (List.mem_of_getElem? (i := 26) rfl)), List.forall_mem_cons.mpr ⟨(iS (q := (yX11_countDown, 17)) (iP3 (List.mem_of_getElem? (i := 7) rfl))), List.forall_mem_cons.mpr ⟨(iT5 (List.mem_of_getElem? (i := 27) rfl)), List.forall_mem_cons.mpr ⟨(iT7 (List.mem_of_getElem? (i := 58) rfl)), List.forall_mem_cons.mpr ⟨(iT7 (List.mem_of_getElem? (i := 59) rfl)), List.forall_mem_cons.mpr ⟨(iT7 (List.mem_of_getElem? (i := 60) rfl)), List.forall_mem_cons.mpr ⟨(iT7 (List.mem_of_getElem? (i := 61) rfl)), List.forall_mem_cons.mpr ⟨(iT7 (List.mem_of_getElem? (i := 62) rfl)), List.forall_mem_cons.mpr ⟨(iT7 (List.mem_of_getElem? (i := 63) rfl)), List.forall_mem_cons.mpr ⟨(iT7 (List.mem_of_getElem? (i := 65) rfl)), List.forall_mem_cons.mpr ⟨(iS (q := (yX12_goSlot, 107)) (iP4 (List.mem_of_getElem? (i := 4) rfl))), List.forall_mem_cons.mpr ⟨(iT7 (List.mem_of_getElem? (i := 66) rfl)), List.forall_mem_cons.mpr ⟨(iT5 (List.mem_of_getElem? (i := 160) rfl)), List.forall_mem_cons.mpr ⟨(iT5 (List.mem_of_getElem? (i := 150) rfl)), List.forall_mem_cons.mpr ⟨(iT7 (List.mem_of_getElem? (i := 67) rfl)), fun _ h => absurd h List.not_mem_nil⟩⟩⟩⟩⟩⟩⟩⟩⟩⟩⟩⟩⟩⟩⟩⟩⟩⟩⟩⟩⟩⟩⟩⟩
set_option maxRecDepth 100000 in
set_option maxHeartbeats 4000000 in
theorem tL42 : ∀ w ∈ gR42, w ∈ lw_tbl := List.forall_mem_cons.mpr ⟨(iT7 (List.mem_of_getElem? (i := 69) rfl)), List.forall_mem_cons.mpr ⟨(iS (q := (yX12_begin, 107)) (iP4 (List.mem_of_getElem? (i := 5) rfl))), List.forall_mem_cons.mpr ⟨(iT7 (List.mem_of_getElem? (i := 70) rfl)), List.forall_mem_cons.mpr ⟨(iT7 (List.mem_of_getElem? (i := 71) rfl)), List.forall_mem_cons.mpr ⟨(iT7 (List.mem_of_getElem? (i := 73) rfl)), List.forall_mem_cons.mpr ⟨(iS (q := (yX12_acknowledge, 107)) (iP4 (List.mem_of_getElem? (i := 6) rfl))), List.forall_mem_cons.mpr ⟨(iT7 (List.mem_of_getElem? (i := 74) rfl)), List.forall_mem_cons.mpr ⟨(iT7 (List.mem_of_getElem? (i := 75) rfl)), List.forall_mem_cons.mpr ⟨(iT7 (List.mem_of_getElem? (i := 77) rfl)), List.forall_mem_cons.mpr ⟨(iS (q := (yX12_putCheck, 107)) (iP4 (List.mem_of_getElem? (i := 7) rfl))), List.forall_mem_cons.mpr ⟨(iT7 (List.mem_of_getElem? (i := 78) rfl)), List.forall_mem_cons.mpr ⟨(iT7 (List.mem_of_getElem? (i := 79) rfl)), List.forall_mem_cons.mpr ⟨(iT7 (List.mem_of_getElem? (i := 81) rfl)), List.forall_mem_cons.mpr ⟨(iS (q := (yX12_goesOut, 107)) (iP4 (List.mem_of_getElem? (i := 8) rfl))), List.forall_mem_cons.mpr ⟨(iT7 (List.mem_of_getElem? (i := 82) rfl)), List.forall_mem_cons.mpr ⟨(iT7 (List.mem_of_getElem? (i := 83) rfl)), List.forall_mem_cons.mpr ⟨(iT7 (List.mem_of_getElem? (i := 85) rfl)), List.forall_mem_cons.mpr ⟨(iS (q := (yX12_sendsAtHand, 107)) (iP4 (List.mem_of_getElem? (i := 9) rfl))), List.forall_mem_cons.mpr ⟨(iT7 (List.mem_of_getElem? (i := 86) rfl)), List.forall_mem_cons.mpr ⟨(iT7 (List.mem_of_getElem? (i := 87) rfl)), List.forall_mem_cons.mpr ⟨(iT7 (List.mem_of_getElem? (i := 89) rfl)), List.forall_mem_cons.mpr ⟨(iS (q := (yX12_make, 107)) (iP4 (List.mem_of_getElem? (i := 10) rfl))), List.forall_mem_cons.mpr ⟨(iT7 (List.mem_of_getElem? (i := 90) rfl)), List.forall_mem_cons.mpr ⟨(iT7 (List.mem_of_getElem? (i := 91) rfl)), fun _ h => absurd h List.not_mem_nil⟩⟩⟩⟩⟩⟩⟩⟩⟩⟩⟩⟩⟩⟩⟩⟩⟩⟩⟩⟩⟩⟩⟩⟩
set_option maxRecDepth 100000 in
set_option maxHeartbeats 4000000 in
theorem tL43 : ∀ w ∈ gR43, w ∈ lw_tbl := List.forall_mem_cons.mpr ⟨(iT7 (List.mem_of_getElem? (i := 93) rfl)), List.forall_mem_cons.mpr ⟨(iS (q := (yX12_isSealed, 107)) (iP4 (List.mem_of_getElem? (i := 11) rfl))), List.forall_mem_cons.mpr ⟨(iT7 (List.mem_of_getElem? (i := 94) rfl)), List.forall_mem_cons.mpr ⟨(iT7 (List.mem_of_getElem? (i := 95) rfl)), List.forall_mem_cons.mpr ⟨(iT7 (List.mem_of_getElem? (i := 97) rfl)), List.forall_mem_cons.mpr ⟨(iS (q := (yX12_pairOf, 107)) (iP4 (List.mem_of_getElem? (i := 12) rfl))), List.forall_mem_cons.mpr ⟨(iT7 (List.mem_of_getElem? (i := 98) rfl)), List.forall_mem_cons.mpr ⟨(iT7 (List.mem_of_getElem? (i := 99) rfl)), List.forall_mem_cons.mpr ⟨(iT7 (List.mem_of_getElem? (i := 101) rfl)), List.forall_mem_cons.mpr ⟨(iS (q := (yX12_partsOf, 107)) (iP4 (List.mem_of_getElem? (i := 13) rfl))), List.forall_mem_cons.mpr ⟨(iT7 (List.mem_of_getElem? (i := 102) rfl)), List.forall_mem_cons.mpr ⟨(iT7 (List.mem_of_getElem? (i := 103) rfl)), List.forall_mem_cons.mpr ⟨(iT7 (List.mem_of_getElem? (i := 104) rfl)), List.forall_mem_cons.mpr ⟨(iT7 (List.mem_of_getElem? (i := 105) rfl)), List.forall_mem_cons.mpr ⟨(iT7 (List.mem_of_getElem? (i := 106) rfl)), List.forall_mem_cons.mpr ⟨(iT7 (List.mem_of_getElem? (i := 108) rfl)), List.forall_mem_cons.mpr ⟨(iS (q := (yX12_seal, 107)) (iP4 (List.mem_of_getElem? (i := 14) rfl))), List.forall_mem_cons.mpr ⟨(iT7 (List.mem_of_getElem? (i := 109) rfl)), List.forall_mem_cons.mpr ⟨(iT7 (List.mem_of_getElem? (i := 110) rfl)), List.forall_mem_cons.mpr ⟨(iT7 (List.mem_of_getElem? (i := 112) rfl)), List.forall_mem_cons.mpr ⟨(iS (q := (yX12_expand, 107)) (iP4 (List.mem_of_getElem? (i := 15) rfl))), List.forall_mem_cons.mpr ⟨(iT7 (List.mem_of_getElem? (i := 113) rfl)), List.forall_mem_cons.mpr ⟨(iT7 (List.mem_of_getElem? (i := 114) rfl)), List.forall_mem_cons.mpr ⟨(iT7 (List.mem_of_getElem? (i := 116) rfl)), fun _ h => absurd h List.not_mem_nil⟩⟩⟩⟩⟩⟩⟩⟩⟩⟩⟩⟩⟩⟩⟩⟩⟩⟩⟩⟩⟩⟩⟩⟩
set_option maxRecDepth 100000 in
set_option maxHeartbeats 4000000 in
theorem tL44 : ∀ w ∈ gR44, w ∈ lw_tbl := List.forall_mem_cons.mpr ⟨(iS (q := (yX12_nonceOf, 107)) (iP5 (List.mem_of_getElem? (i := 0) rfl))), List.forall_mem_cons.mpr ⟨(iT7 (List.mem_of_getElem? (i := 117) rfl)), List.forall_mem_cons.mpr ⟨(iT7 (List.mem_of_getElem? (i := 118) rfl)), List.forall_mem_cons.mpr ⟨(iT7 (List.mem_of_getElem? (i := 120) rfl)), List.forall_mem_cons.mpr ⟨(iS (q := (yX12_findTag, 107)) (iP5 (List.mem_of_getElem? (i := 1) rfl))), List.forall_mem_cons.mpr ⟨(iT7 (List.mem_of_getElem? (i := 121) rfl)), List.forall_mem_cons.mpr ⟨(iT7 (List.mem_of_getElem? (i := 122) rfl)), List.forall_mem_cons.mpr ⟨(iT7 (List.mem_of_getElem? (i := 124) rfl)), List.forall_mem_cons.mpr ⟨(iS (q := (yX12_chainStep, 107)) (iP5 (List.mem_of_getElem? (i := 2) rfl))), List.forall_mem_cons.mpr ⟨(iT7 (List.mem_of_getElem? (i := 125) rfl)), List.forall_mem_cons.mpr ⟨(iT7 (List.mem_of_getElem? (i := 126) rfl)), List.forall_mem_cons.mpr ⟨(iT7 (List.mem_of_getElem? (i := 128) rfl)), List.forall_mem_cons.mpr ⟨(iS (q := (yX12_encipher, 107)) (iP5 (List.mem_of_getElem? (i := 3) rfl))), List.forall_mem_cons.mpr ⟨(iT7 (List.mem_of_getElem? (i := 129) rfl)), List.forall_mem_cons.mpr ⟨(iT7 (List.mem_of_getElem? (i := 130) rfl)), List.forall_mem_cons.mpr ⟨(iT7 (List.mem_of_getElem? (i := 131) rfl)), List.forall_mem_cons.mpr ⟨(iT7 (List.mem_of_getElem? (i := 132) rfl)), List.forall_mem_cons.mpr ⟨(iT7 (List.mem_of_getElem? (i := 133) rfl)), List.forall_mem_cons.mpr ⟨(iT7 (List.mem_of_getElem? (i := 135) rfl)), List.forall_mem_cons.mpr ⟨(iS (q := (yX12_counter, 107)) (iP5 (List.mem_of_getElem? (i := 4) rfl))), List.forall_mem_cons.mpr ⟨(iT7 (List.mem_of_getElem? (i := 136) rfl)), List.forall_mem_cons.mpr ⟨(iT7 (List.mem_of_getElem? (i := 137) rfl)), List.forall_mem_cons.mpr ⟨(iT7 (List.mem_of_getElem? (i := 139) rfl)), List.forall_mem_cons.mpr ⟨(iS (q := (yX12_cover, 107)) (iP5 (List.mem_of_getElem? (i := 5) rfl))), fun _ h => absurd h List.not_mem_nil⟩⟩⟩⟩⟩⟩⟩⟩⟩⟩⟩⟩⟩⟩⟩⟩⟩⟩⟩⟩⟩⟩⟩⟩
set_option maxRecDepth 100000 in
set_option maxHeartbeats 4000000 in
theorem tL45 : ∀ w ∈ gR45, w ∈ lw_tbl := List.forall_mem_cons.mpr ⟨(iT7 (List.mem_of_getElem? (i := 140) rfl)), List.forall_mem_cons.mpr ⟨(iT7 (List.mem_of_getElem? (i := 141) rfl)), List.forall_mem_cons.mpr ⟨(iT7 (List.mem_of_getElem? (i := 143) rfl)), List.forall_mem_cons.mpr ⟨(iS (q := (yX12_leaves, 107)) (iP5 (List.mem_of_getElem? (i := 6) rfl))), List.forall_mem_cons.mpr ⟨(iT7 (List.mem_of_getElem? (i := 144) rfl)), List.forall_mem_cons.mpr ⟨(iT7 (List.mem_of_getElem? (i := 145) rfl)), List.forall_mem_cons.mpr ⟨(iT7 (List.mem_of_getElem? (i := 147) rfl)), List.forall_mem_cons.mpr ⟨(iS (q := (yX12_isNoisy, 107)) (iP5 (List.mem_of_getElem? (i := 7) rfl))), List.forall_mem_cons.mpr ⟨(iT7 (List.mem_of_getElem? (i := 148) rfl)), List.forall_mem_cons.mpr ⟨(iT7 (List.mem_of_getElem? (i := 149) rfl)), List.forall_mem_cons.mpr ⟨(iT7 (List.mem_of_getElem? (i := 151) rfl)), List.forall_mem_cons.mpr ⟨(iS (q := (yX12_endAll, 107)) (iP5 (List.mem_of_getElem? (i := 8) rfl))), List.forall_mem_cons.mpr ⟨(iT7 (List.mem_of_getElem? (i := 152) rfl)), List.forall_mem_cons.mpr ⟨(iT7 (List.mem_of_getElem? (i := 153) rfl)), List.forall_mem_cons.mpr ⟨(iT7 (List.mem_of_getElem? (i := 155) rfl)), List.forall_mem_cons.mpr ⟨(iS (q := (yX12_over, 107)) (iP5 (List.mem_of_getElem? (i := 9) rfl))), List.forall_mem_cons.mpr ⟨(iT7 (List.mem_of_getElem? (i := 156) rfl)), List.forall_mem_cons.mpr ⟨(iT5 (List.mem_of_getElem? (i := 182) rfl)), List.forall_mem_cons.mpr ⟨(iT5 (List.mem_of_getElem? (i := 152) rfl)), List.forall_mem_cons.mpr ⟨(iT7 (List.mem_of_getElem? (i := 157) rfl)), List.forall_mem_cons.mpr ⟨(iT7 (List.mem_of_getElem? (i := 159) rfl)), List.forall_mem_cons.mpr ⟨(iS (q := (yX12_look, 107)) (iP5 (List.mem_of_getElem? (i := 10) rfl))), List.forall_mem_cons.mpr ⟨(iT7 (List.mem_of_getElem? (i := 160) rfl)), List.forall_mem_cons.mpr ⟨(iT7 (List.mem_of_getElem? (i := 161) rfl)), fun _ h => absurd h List.not_mem_nil⟩⟩⟩⟩⟩⟩⟩⟩⟩⟩⟩⟩⟩⟩⟩⟩⟩⟩⟩⟩⟩⟩⟩⟩
set_option maxRecDepth 100000 in
set_option maxHeartbeats 4000000 in
theorem tL46 : ∀ w ∈ gR46, w ∈ lw_tbl := List.forall_mem_cons.mpr ⟨(iT7 (List.mem_of_getElem? (i := 163) rfl)), List.forall_mem_cons.mpr ⟨(iS (q := (yX12_isWhole, 107)) (iP5 (List.mem_of_getElem? (i := 11) rfl))), List.forall_mem_cons.mpr ⟨(iT7 (List.mem_of_getElem? (i := 164) rfl)), List.forall_mem_cons.mpr ⟨(iT7 (List.mem_of_getElem? (i := 165) rfl)), List.forall_mem_cons.mpr ⟨(iT7 (List.mem_of_getElem? (i := 167) rfl)), List.forall_mem_cons.mpr ⟨(iS (q := (yX12_isTold, 107)) (iP5 (List.mem_of_getElem? (i := 12) rfl))), List.forall_mem_cons.mpr ⟨(iT7 (List.mem_of_getElem? (i := 168) rfl)), List.forall_mem_cons.mpr ⟨(iT7 (List.mem_of_getElem? (i := 169) rfl)), List.forall_mem_cons.mpr ⟨(iT7 (List.mem_of_getElem? (i := 171) rfl)), List.forall_mem_cons.mpr ⟨(iS (q := (yX12_nodeAt, 107)) (iP5 (List.mem_of_getElem? (i := 13) rfl))), List.forall_mem_cons.mpr ⟨(iT7 (List.mem_of_getElem? (i := 172) rfl)), List.forall_mem_cons.mpr ⟨(iT7 (List.mem_of_getElem? (i := 173) rfl)), List.forall_mem_cons.mpr ⟨(iT7 (List.mem_of_getElem? (i := 175) rfl)), List.forall_mem_cons.mpr ⟨(iS (q := (yX12_acknowledged, 107)) (iP5 (List.mem_of_getElem? (i := 14) rfl))), List.forall_mem_cons.mpr ⟨(iT7 (List.mem_of_getElem? (i := 176) rfl)), List.forall_mem_cons.mpr ⟨(iT7 (List.mem_of_getElem? (i := 177) rfl)), List.forall_mem_cons.mpr ⟨(iT7 (List.mem_of_getElem? (i := 179) rfl)), List.forall_mem_cons.mpr ⟨(iS (q := (yX12_actsAp, 107)) (iP5 (List.mem_of_getElem? (i := 15) rfl))), List.forall_mem_cons.mpr ⟨(iT7 (List.mem_of_getElem? (i := 180) rfl)), List.forall_mem_cons.mpr ⟨(iT7 (List.mem_of_getElem? (i := 181) rfl)), List.forall_mem_cons.mpr ⟨(iT7 (List.mem_of_getElem? (i := 183) rfl)), List.forall_mem_cons.mpr ⟨(iS (q := (yX12_isBody, 107)) (iP6 (List.mem_of_getElem? (i := 0) rfl))), List.forall_mem_cons.mpr ⟨(iT7 (List.mem_of_getElem? (i := 184) rfl)), List.forall_mem_cons.mpr ⟨(iT7 (List.mem_of_getElem? (i := 185) rfl)), fun _ h => absurd h List.not_mem_nil⟩⟩⟩⟩⟩⟩⟩⟩⟩⟩⟩⟩⟩⟩⟩⟩⟩⟩⟩⟩⟩⟩⟩⟩
set_option maxRecDepth 100000 in
set_option maxHeartbeats 4000000 in
theorem tL47 : ∀ w ∈ gR47, w ∈ lw_tbl := List.forall_mem_cons.mpr ⟨(iT7 (List.mem_of_getElem? (i := 187) rfl)), List.forall_mem_cons.mpr ⟨(iS (q := (yX12_asks, 107)) (iP6 (List.mem_of_getElem? (i := 1) rfl))), List.forall_mem_cons.mpr ⟨(iT7 (List.mem_of_getElem? (i := 188) rfl)), List.forall_mem_cons.mpr ⟨(iT7 (List.mem_of_getElem? (i := 189) rfl)), List.forall_mem_cons.mpr ⟨(iT7 (List.mem_of_getElem? (i := 191) rfl)), List.forall_mem_cons.mpr ⟨(iS (q := (yX12_sendsHand, 107)) (iP6 (List.mem_of_getElem? (i := 2) rfl))), List.forall_mem_cons.mpr ⟨(iT7 (List.mem_of_getElem? (i := 192) rfl)), List.forall_mem_cons.mpr ⟨(iT7 (List.mem_of_getElem? (i := 193) rfl)), List.forall_mem_cons.mpr ⟨(iT7 (List.mem_of_getElem? (i := 195) rfl)), List.forall_mem_cons.mpr ⟨(iS (q := (yX12_macOf, 107)) (iP6 (List.mem_of_getElem? (i := 3) rfl))), List.forall_mem_cons.mpr ⟨(iT7 (List.mem_of_getElem? (i := 196) rfl)), List.forall_mem_cons.mpr ⟨(iT7 (List.mem_of_getElem? (i := 197) rfl)), List.forall_mem_cons.mpr ⟨(iT7 (List.mem_of_getElem? (i := 199) rfl)), List.forall_mem_cons.mpr ⟨(iS (q := (yX12_macBegin, 107)) (iP6 (List.mem_of_getElem? (i := 4) rfl))), List.forall_mem_cons.mpr ⟨(iT7 (List.mem_of_getElem? (i := 200) rfl)), List.forall_mem_cons.mpr ⟨(iT7 (List.mem_of_getElem? (i := 201) rfl)), List.forall_mem_cons.mpr ⟨(iT7 (List.mem_of_getElem? (i := 203) rfl)), List.forall_mem_cons.mpr ⟨(iS (q := (yX12_hashBegin, 107)) (iP6 (List.mem_of_getElem? (i := 5) rfl))), List.forall_mem_cons.mpr ⟨(iT7 (List.mem_of_getElem? (i := 204) rfl)), List.forall_mem_cons.mpr ⟨(iT7 (List.mem_of_getElem? (i := 205) rfl)), List.forall_mem_cons.mpr ⟨(iT7 (List.mem_of_getElem? (i := 206) rfl)), List.forall_mem_cons.mpr ⟨(iT7 (List.mem_of_getElem? (i := 207) rfl)), List.forall_mem_cons.mpr ⟨(iT7 (List.mem_of_getElem? (i := 208) rfl)), List.forall_mem_cons.mpr ⟨(iT7 (List.mem_of_getElem? (i := 209) rfl)), fun _ h => absurd h List.not_mem_nil⟩⟩⟩⟩⟩⟩⟩⟩⟩⟩⟩⟩⟩⟩⟩⟩⟩⟩⟩⟩⟩⟩⟩⟩
set_option maxRecDepth 100000 in
set_option maxHeartbeats 4000000 in
theorem tL48 : ∀ w ∈ gR48, w ∈ lw_tbl := List.forall_mem_cons.mpr ⟨(iT5 (List.mem_of_getElem? (i := 89) rfl)), List.forall_mem_cons.mpr ⟨(iT5 (List.mem_of_getElem? (i := 90) rfl)), List.forall_mem_cons.mpr ⟨(iT7 (List.mem_of_getElem? (i := 210) rfl)), List.forall_mem_cons.mpr ⟨(iT7 (List.mem_of_getElem? (i := 212) rfl)), List.forall_mem_cons.mpr ⟨(iS (q := (yX12_hash, 107)) (iP6 (List.mem_of_getElem? (i := 6) rfl))), List.forall_mem_cons.mpr ⟨(iT7 (List.mem_of_getElem? (i := 213) rfl)), List.forall_mem_cons.mpr ⟨(iT7 (List.mem_of_getElem? (i := 217) rfl)), List.forall_mem_cons.mpr ⟨(iT7 (List.mem_of_getElem? (i := 218) rfl)), List.forall_mem_cons.mpr ⟨(iT7 (List.mem_of_getElem? (i := 219) rfl)), List.forall_mem_cons.mpr ⟨(iT7 (List.mem_of_getElem? (i := 220) rfl)), List.forall_mem_cons.mpr ⟨(iT7 (List.mem_of_getElem? (i := 214) rfl)), List.forall_mem_cons.mpr ⟨(iT7 (List.mem_of_getElem? (i := 215) rfl)), List.forall_mem_cons.mpr ⟨(iT7 (List.mem_of_getElem? (i := 216) rfl)), List.forall_mem_cons.mpr ⟨(iT7 (List.mem_of_getElem? (i := 221) rfl)), List.forall_mem_cons.mpr ⟨(iT7 (List.mem_of_getElem? (i := 223) rfl)), List.forall_mem_cons.mpr ⟨(iS (q := (yX12_macEnd, 107)) (iP6 (List.mem_of_getElem? (i := 7) rfl))), List.forall_mem_cons.mpr ⟨(iT7 (List.mem_of_getElem? (i := 224) rfl)), List.forall_mem_cons.mpr ⟨(iT7 (List.mem_of_getElem? (i := 225) rfl)), List.forall_mem_cons.mpr ⟨(iT7 (List.mem_of_getElem? (i := 227) rfl)), List.forall_mem_cons.mpr ⟨(iS (q := (yX12_hashEnd, 107)) (iP6 (List.mem_of_getElem? (i := 8) rfl))), List.forall_mem_cons.mpr ⟨(iT7 (List.mem_of_getElem? (i := 228) rfl)), List.forall_mem_cons.mpr ⟨(iT7 (List.mem_of_getElem? (i := 229) rfl)), List.forall_mem_cons.mpr ⟨(iT7 (List.mem_of_getElem? (i := 231) rfl)), List.forall_mem_cons.mpr ⟨(iS (q := (yX12_opens, 107)) (iP6 (List.mem_of_getElem? (i := 9) rfl))), fun _ h => absurd h List.not_mem_nil⟩⟩⟩⟩⟩⟩⟩⟩⟩⟩⟩⟩⟩⟩⟩⟩⟩⟩⟩⟩⟩⟩⟩⟩
set_option maxRecDepth 100000 in
set_option maxHeartbeats 4000000 in
theorem tL49 : ∀ w ∈ gR49, w ∈ lw_tbl := List.forall_mem_cons.mpr ⟨(iT7 (List.mem_of_getElem? (i := 232) rfl)), List.forall_mem_cons.mpr ⟨(iT7 (List.mem_of_getElem? (i := 233) rfl)), List.forall_mem_cons.mpr ⟨(iT7 (List.mem_of_getElem? (i := 235) rfl)), List.forall_mem_cons.mpr ⟨(iS (q := (yX12_isRight, 107)) (iP6 (List.mem_of_getElem? (i := 10) rfl))), List.forall_mem_cons.mpr ⟨(iT7 (List.mem_of_getElem? (i := 236) rfl)), List.forall_mem_cons.mpr ⟨(iT7 (List.mem_of_getElem? (i := 237) rfl)), List.forall_mem_cons.mpr ⟨(iT7 (List.mem_of_getElem? (i := 239) rfl)), List.forall_mem_cons.mpr ⟨(iS (q := (yX12_whole, 107)) (iP6 (List.mem_of_getElem? (i := 11) rfl))), List.forall_mem_cons.mpr ⟨(iT8 (List.mem_of_getElem? (i := 0) rfl)), List.forall_mem_cons.mpr ⟨(iT8 (List.mem_of_getElem? (i := 1) rfl)), List.forall_mem_cons.mpr ⟨(iT8 (List.mem_of_getElem? (i := 3) rfl)), List.forall_mem_cons.mpr ⟨(iS (q := (yX12_deliver, 107)) (iP6 (List.mem_of_getElem? (i := 12) rfl))), List.forall_mem_cons.mpr ⟨(iT8 (List.mem_of_getElem? (i := 4) rfl)), List.forall_mem_cons.mpr ⟨(iT8 (List.mem_of_getElem? (i := 5) rfl)), List.forall_mem_cons.mpr ⟨(iT8 (List.mem_of_getElem? (i := 7) rfl)), List.forall_mem_cons.mpr ⟨(iS (q := (yX12_handAp, 107)) (iP6 (List.mem_of_getElem? (i := 13) rfl))), List.forall_mem_cons.mpr ⟨(iT8 (List.mem_of_getElem? (i := 8) rfl)), List.forall_mem_cons.mpr ⟨(iT8 (List.mem_of_getElem? (i := 9) rfl)), List.forall_mem_cons.mpr ⟨(iT8 (List.mem_of_getElem? (i := 11) rfl)), List.forall_mem_cons.mpr ⟨(iS (q := (yX12_handOf, 107)) (iP6 (List.mem_of_getElem? (i := 14) rfl))), List.forall_mem_cons.mpr ⟨(iT8 (List.mem_of_getElem? (i := 12) rfl)), List.forall_mem_cons.mpr ⟨(iT8 (List.mem_of_getElem? (i := 13) rfl)), List.forall_mem_cons.mpr ⟨(iT8 (List.mem_of_getElem? (i := 15) rfl)), List.forall_mem_cons.mpr ⟨(iS (q := (yX12_findTried, 107)) (iP6 (List.mem_of_getElem? (i := 15) rfl))), fun _ h => absurd h List.not_mem_nil⟩⟩⟩⟩⟩⟩⟩⟩⟩⟩⟩⟩⟩⟩⟩⟩⟩⟩⟩⟩⟩⟩⟩⟩
set_option maxRecDepth 100000 in
set_option maxHeartbeats 4000000 in
theorem tL50 : ∀ w ∈ gR50, w ∈ lw_tbl := List.forall_mem_cons.mpr ⟨(iT8 (List.mem_of_getElem? (i := 16) rfl)), List.forall_mem_cons.mpr ⟨(iT8 (List.mem_of_getElem? (i := 17) rfl)), List.forall_mem_cons.mpr ⟨(iT8 (List.mem_of_getElem? (i := 22) rfl)), List.forall_mem_cons.mpr ⟨(iT8 (List.mem_of_getElem? (i := 23) rfl)), List.forall_mem_cons.mpr ⟨(iT8 (List.mem_of_getElem? (i := 18) rfl)), List.forall_mem_cons.mpr ⟨(iT8 (List.mem_of_getElem? (i := 20) rfl)), List.forall_mem_cons.mpr ⟨(iS (q := (yX12_hashLetters, 107)) (iP7 (List.mem_of_getElem? (i := 0) rfl))), List.forall_mem_cons.mpr ⟨(iT8 (List.mem_of_getElem? (i := 21) rfl)), List.forall_mem_cons.mpr ⟨(iT8 (List.mem_of_getElem? (i := 24) rfl)), List.forall_mem_cons.mpr ⟨(iT8 (List.mem_of_getElem? (i := 26) rfl)), List.forall_mem_cons.mpr ⟨(iS (q := (yX12_hashAddress, 107)) (iP7 (List.mem_of_getElem? (i := 1) rfl))), List.forall_mem_cons.mpr ⟨(iT8 (List.mem_of_getElem? (i := 27) rfl)), List.forall_mem_cons.mpr ⟨(iT8 (List.mem_of_getElem? (i := 28) rfl)), List.forall_mem_cons.mpr ⟨(iT8 (List.mem_of_getElem? (i := 29) rfl)), List.forall_mem_cons.mpr ⟨(iT8 (List.mem_of_getElem? (i := 31) rfl)), List.forall_mem_cons.mpr ⟨(iS (q := (yX12_isMac, 107)) (iP7 (List.mem_of_getElem? (i := 2) rfl))), List.forall_mem_cons.mpr ⟨(iT8 (List.mem_of_getElem? (i := 32) rfl)), List.forall_mem_cons.mpr ⟨(iT8 (List.mem_of_getElem? (i := 33) rfl)), List.forall_mem_cons.mpr ⟨(iT8 (List.mem_of_getElem? (i := 35) rfl)), List.forall_mem_cons.mpr ⟨(iS (q := (yX12_keepTried, 107)) (iP7 (List.mem_of_getElem? (i := 3) rfl))), List.forall_mem_cons.mpr ⟨(iT8 (List.mem_of_getElem? (i := 36) rfl)), List.forall_mem_cons.mpr ⟨(iT8 (List.mem_of_getElem? (i := 37) rfl)), List.forall_mem_cons.mpr ⟨(iT8 (List.mem_of_getElem? (i := 39) rfl)), List.forall_mem_cons.mpr ⟨(iS (q := (yX12_keyBy, 107)) (iP7 (List.mem_of_getElem? (i := 4) rfl))), fun _ h => absurd h List.not_mem_nil⟩⟩⟩⟩⟩⟩⟩⟩⟩⟩⟩⟩⟩⟩⟩⟩⟩⟩⟩⟩⟩⟩⟩⟩
set_option maxRecDepth 100000 in
set_option maxHeartbeats 4000000 in
theorem tL51 : ∀ w ∈ gR51, w ∈ lw_tbl := List.forall_mem_cons.mpr ⟨(iT8 (List.mem_of_getElem? (i := 40) rfl)), List.forall_mem_cons.mpr ⟨(iT8 (List.mem_of_getElem? (i := 41) rfl)), List.forall_mem_cons.mpr ⟨(iT8 (List.mem_of_getElem? (i := 43) rfl)), List.forall_mem_cons.mpr ⟨(iS (q := (yX12_actsStation, 107)) (iP7 (List.mem_of_getElem? (i := 5) rfl))), List.forall_mem_cons.mpr ⟨(iT8 (List.mem_of_getElem? (i := 44) rfl)), List.forall_mem_cons.mpr ⟨(iT8 (List.mem_of_getElem? (i := 45) rfl)), List.forall_mem_cons.mpr ⟨(iT8 (List.mem_of_getElem? (i := 47) rfl)), List.forall_mem_cons.mpr ⟨(iS (q := (yX12_handStation, 107)) (iP7 (List.mem_of_getElem? (i := 6) rfl))), List.forall_mem_cons.mpr ⟨(iT8 (List.mem_of_getElem? (i := 48) rfl)), List.forall_mem_cons.mpr ⟨(iT8 (List.mem_of_getElem? (i := 49) rfl)), List.forall_mem_cons.mpr ⟨(iT8 (List.mem_of_getElem? (i := 51) rfl)), List.forall_mem_cons.mpr ⟨(iS (q := (yX12_moveLive, 107)) (iP7 (List.mem_of_getElem? (i := 7) rfl))), List.forall_mem_cons.mpr ⟨(iT8 (List.mem_of_getElem? (i := 52) rfl)), List.forall_mem_cons.mpr ⟨(iT8 (List.mem_of_getElem? (i := 53) rfl)), List.forall_mem_cons.mpr ⟨(iT8 (List.mem_of_getElem? (i := 55) rfl)), List.forall_mem_cons.mpr ⟨(iS (q := (yX12_fail, 107)) (iP7 (List.mem_of_getElem? (i := 8) rfl))), List.forall_mem_cons.mpr ⟨(iT8 (List.mem_of_getElem? (i := 56) rfl)), List.forall_mem_cons.mpr ⟨(iT5 (List.mem_of_getElem? (i := 153) rfl)), List.forall_mem_cons.mpr ⟨(iT5 (List.mem_of_getElem? (i := 29) rfl)), List.forall_mem_cons.mpr ⟨(iT5 (List.mem_of_getElem? (i := 30) rfl)), List.forall_mem_cons.mpr ⟨(iT5 (List.mem_of_getElem? (i := 31) rfl)), List.forall_mem_cons.mpr ⟨(iT5 (List.mem_of_getElem? (i := 32) rfl)), List.forall_mem_cons.mpr ⟨(iT8 (List.mem_of_getElem? (i := 57) rfl)), List.forall_mem_cons.mpr ⟨(iT8 (List.mem_of_getElem? (i := 58) rfl)), fun _ h => absurd h List.not_mem_nil⟩⟩⟩⟩⟩⟩⟩⟩⟩⟩⟩⟩⟩⟩⟩⟩⟩⟩⟩⟩⟩⟩⟩⟩
set_option maxRecDepth 100000 in
set_option maxHeartbeats 4000000 in
theorem tL52 : ∀ w ∈ gR52, w ∈ lw_tbl := List.forall_mem_cons.mpr ⟨(iT8 (List.mem_of_getElem? (i := 59) rfl)), List.forall_mem_cons.mpr ⟨(iT8 (List.mem_of_getElem? (i := 60) rfl)), List.forall_mem_cons.mpr ⟨(iT5 (List.mem_of_getElem? (i := 33) rfl)), List.forall_mem_cons.mpr ⟨(iT5 (List.mem_of_getElem? (i := 34) rfl)), List.forall_mem_cons.mpr ⟨(iT5 (List.mem_of_getElem? (i := 35) rfl)), List.forall_mem_cons.mpr ⟨(iT5 (List.mem_of_getElem? (i := 36) rfl)), List.forall_mem_cons.mpr ⟨(iT2 (List.mem_of_getElem? (i := 15) rfl)), List.forall_mem_cons.mpr ⟨(iT2 (List.mem_of_getElem? (i := 36) rfl)), List.forall_mem_cons.mpr ⟨(iT2 (List.mem_of_getElem? (i := 59) rfl)), List.forall_mem_cons.mpr ⟨(iT5 (List.mem_of_getElem? (i := 37) rfl)), List.forall_mem_cons.mpr ⟨(iT5 (List.mem_of_getElem? (i := 39) rfl)), List.forall_mem_cons.mpr ⟨(iS (q := (yX11_keyedAtAp, 17)) (iP3 (List.mem_of_getElem? (i := 8) rfl))), List.forall_mem_cons.mpr ⟨(iT5 (List.mem_of_getElem? (i := 40) rfl)), List.forall_mem_cons.mpr ⟨(iT8 (List.mem_of_getElem? (i := 61) rfl)), List.forall_mem_cons.mpr ⟨(iT8 (List.mem_of_getElem? (i := 62) rfl)), List.forall_mem_cons.mpr ⟨(iT8 (List.mem_of_getElem? (i := 63) rfl)), List.forall_mem_cons.mpr ⟨(iT8 (List.mem_of_getElem? (i := 64) rfl)), List.forall_mem_cons.mpr ⟨(iT8 (List.mem_of_getElem? (i := 65) rfl)), List.forall_mem_cons.mpr ⟨(iT8 (List.mem_of_getElem? (i := 67) rfl)), List.forall_mem_cons.mpr ⟨(iS (q := (yX12_keyedMany, 107)) (iP7 (List.mem_of_getElem? (i := 9) rfl))), List.forall_mem_cons.mpr ⟨(iT8 (List.mem_of_getElem? (i := 68) rfl)), List.forall_mem_cons.mpr ⟨(iT5 (List.mem_of_getElem? (i := 41) rfl)), List.forall_mem_cons.mpr ⟨(iT5 (List.mem_of_getElem? (i := 42) rfl)), List.forall_mem_cons.mpr ⟨(iT5 (List.mem_of_getElem? (i := 43) rfl)), fun _ h => absurd h List.not_mem_nil⟩⟩⟩⟩⟩⟩⟩⟩⟩⟩⟩⟩⟩⟩⟩⟩⟩⟩⟩⟩⟩⟩⟩⟩
set_option maxRecDepth 100000 in
set_option maxHeartbeats 4000000 in
theorem tL53 : ∀ w ∈ gR53, w ∈ lw_tbl := List.forall_mem_cons.mpr ⟨(iT5 (List.mem_of_getElem? (i := 44) rfl)), List.forall_mem_cons.mpr ⟨(iT8 (List.mem_of_getElem? (i := 69) rfl)), List.forall_mem_cons.mpr ⟨(iT8 (List.mem_of_getElem? (i := 70) rfl)), List.forall_mem_cons.mpr ⟨(iT8 (List.mem_of_getElem? (i := 71) rfl)), List.forall_mem_cons.mpr ⟨(iT8 (List.mem_of_getElem? (i := 72) rfl)), List.forall_mem_cons.mpr ⟨(iT5 (List.mem_of_getElem? (i := 45) rfl)), List.forall_mem_cons.mpr ⟨(iT5 (List.mem_of_getElem? (i := 46) rfl)), List.forall_mem_cons.mpr ⟨(iT5 (List.mem_of_getElem? (i := 47) rfl)), List.forall_mem_cons.mpr ⟨(iT5 (List.mem_of_getElem? (i := 48) rfl)), List.forall_mem_cons.mpr ⟨(iT5 (List.mem_of_getElem? (i := 49) rfl)), List.forall_mem_cons.mpr ⟨(iT5 (List.mem_of_getElem? (i := 50) rfl)), List.forall_mem_cons.mpr ⟨(iT5 (List.mem_of_getElem? (i := 51) rfl)), List.forall_mem_cons.mpr ⟨(iT5 (List.mem_of_getElem? (i := 52) rfl)), List.forall_mem_cons.mpr ⟨(iT8 (List.mem_of_getElem? (i := 73) rfl)), List.forall_mem_cons.mpr ⟨(iT8 (List.mem_of_getElem? (i := 74) rfl)), List.forall_mem_cons.mpr ⟨(iT8 (List.mem_of_getElem? (i := 75) rfl)), List.forall_mem_cons.mpr ⟨(iT8 (List.mem_of_getElem? (i := 76) rfl)), List.forall_mem_cons.mpr ⟨(iT8 (List.mem_of_getElem? (i := 77) rfl)), List.forall_mem_cons.mpr ⟨(iT8 (List.mem_of_getElem? (i := 78) rfl)), List.forall_mem_cons.mpr ⟨(iT5 (List.mem_of_getElem? (i := 53) rfl)), List.forall_mem_cons.mpr ⟨(iT5 (List.mem_of_getElem? (i := 54) rfl)), List.forall_mem_cons.mpr ⟨(iT5 (List.mem_of_getElem? (i := 55) rfl)), List.forall_mem_cons.mpr ⟨(iT5 (List.mem_of_getElem? (i := 56) rfl)), List.forall_mem_cons.mpr ⟨(iT5 (List.mem_of_getElem? (i := 57) rfl)), fun _ h => absurd h List.not_mem_nil⟩⟩⟩⟩⟩⟩⟩⟩⟩⟩⟩⟩⟩⟩⟩⟩⟩⟩⟩⟩⟩⟩⟩⟩
set_option maxRecDepth 100000 in
set_option maxHeartbeats 4000000 in
theorem tL54 : ∀ w ∈ gR54, w ∈ lw_tbl := List.forall_mem_cons.mpr ⟨(iT5 (List.mem_of_getElem? (i := 58) rfl)), List.forall_mem_cons.mpr ⟨(iT5 (List.mem_of_getElem? (i := 59) rfl)), List.forall_mem_cons.mpr ⟨(iT5 (List.mem_of_getElem? (i := 60) rfl)), List.forall_mem_cons.mpr ⟨(iT8 (List.mem_of_getElem? (i := 79) rfl)), List.forall_mem_cons.mpr ⟨(iT8 (List.mem_of_getElem? (i := 80) rfl)), List.forall_mem_cons.mpr ⟨(iT8 (List.mem_of_getElem? (i := 81) rfl)), List.forall_mem_cons.mpr ⟨(iT8 (List.mem_of_getElem? (i := 82) rfl)), List.forall_mem_cons.mpr ⟨(iT5 (List.mem_of_getElem? (i := 61) rfl)), List.forall_mem_cons.mpr ⟨(iT5 (List.mem_of_getElem? (i := 62) rfl)), List.forall_mem_cons.mpr ⟨(iT5 (List.mem_of_getElem? (i := 63) rfl)), List.forall_mem_cons.mpr ⟨(iT5 (List.mem_of_getElem? (i := 64) rfl)), List.forall_mem_cons.mpr ⟨(iT1 (List.mem_of_getElem? (i := 57) rfl)), List.forall_mem_cons.mpr ⟨(iT1 (List.mem_of_getElem? (i := 62) rfl)), List.forall_mem_cons.mpr ⟨(iT8 (List.mem_of_getElem? (i := 83) rfl)), List.forall_mem_cons.mpr ⟨(iT8 (List.mem_of_getElem? (i := 84) rfl)), List.forall_mem_cons.mpr ⟨(iT8 (List.mem_of_getElem? (i := 85) rfl)), List.forall_mem_cons.mpr ⟨(iT8 (List.mem_of_getElem? (i := 86) rfl)), fun _ h => absurd h List.not_mem_nil⟩⟩⟩⟩⟩⟩⟩⟩⟩⟩⟩⟩⟩⟩⟩⟩⟩
set_option maxRecDepth 100000 in
set_option maxHeartbeats 4000000 in
theorem tUX11 : ∀ k, k < 17 → u_lay RX11 TX11 k ∈ lw_tbl := by
  intro k hk
  match k, hk with
  | 0, _ => exact (iT2 (List.mem_of_getElem? (i := 194) rfl))
  | 1, _ => exact (iT2 (List.mem_of_getElem? (i := 196) rfl))
  | 2, _ => exact (iT2 (List.mem_of_getElem? (i := 198) rfl))
  | 3, _ => exact (iT2 (List.mem_of_getElem? (i := 200) rfl))
  | 4, _ => exact (iT2 (List.mem_of_getElem? (i := 202) rfl))
  | 5, _ => exact (iT2 (List.mem_of_getElem? (i := 204) rfl))
  | 6, _ => exact (iT2 (List.mem_of_getElem? (i := 206) rfl))
  | 7, _ => exact (iT2 (List.mem_of_getElem? (i := 208) rfl))
  | 8, _ => exact (iT2 (List.mem_of_getElem? (i := 210) rfl))
  | 9, _ => exact (iT2 (List.mem_of_getElem? (i := 212) rfl))
  | 10, _ => exact (iT2 (List.mem_of_getElem? (i := 214) rfl))
  | 11, _ => exact (iT2 (List.mem_of_getElem? (i := 216) rfl))
  | 12, _ => exact (iT2 (List.mem_of_getElem? (i := 218) rfl))
  | 13, _ => exact (iT2 (List.mem_of_getElem? (i := 220) rfl))
  | 14, _ => exact (iT2 (List.mem_of_getElem? (i := 222) rfl))
  | 15, _ => exact (iT2 (List.mem_of_getElem? (i := 224) rfl))
  | 16, _ => exact (iT2 (List.mem_of_getElem? (i := 226) rfl))
  | k + 17, hk => omega
theorem tYX11 : ∀ w ∈ wsX110, w ∈ lw_tbl := by
  intro w hw
  obtain ⟨k, hk, rfl⟩ := List.mem_map.mp hw
  exact tUX11 k (List.mem_range.mp hk)
set_option maxRecDepth 100000 in
set_option maxHeartbeats 4000000 in
theorem tUX12 : ∀ k, k < 107 → u_lay RX12 TX12 k ∈ lw_tbl := by
  intro k hk
  match k, hk with
  | 0, _ => exact (iT5 (List.mem_of_getElem? (i := 192) rfl))
  | 1, _ => exact (iT5 (List.mem_of_getElem? (i := 194) rfl))
  | 2, _ => exact (iT5 (List.mem_of_getElem? (i := 196) rfl))
  | 3, _ => exact (iT5 (List.mem_of_getElem? (i := 198) rfl))
  | 4, _ => exact (iT5 (List.mem_of_getElem? (i := 200) rfl))
  | 5, _ => exact (iT5 (List.mem_of_getElem? (i := 202) rfl))
  | 6, _ => exact (iT5 (List.mem_of_getElem? (i := 204) rfl))
  | 7, _ => exact (iT5 (List.mem_of_getElem? (i := 206) rfl))
  | 8, _ => exact (iT5 (List.mem_of_getElem? (i := 208) rfl))
  | 9, _ => exact (iT5 (List.mem_of_getElem? (i := 210) rfl))
  | 10, _ => exact (iT5 (List.mem_of_getElem? (i := 212) rfl))
  | 11, _ => exact (iT5 (List.mem_of_getElem? (i := 214) rfl))
  | 12, _ => exact (iT5 (List.mem_of_getElem? (i := 216) rfl))
  | 13, _ => exact (iT5 (List.mem_of_getElem? (i := 218) rfl))
  | 14, _ => exact (iT5 (List.mem_of_getElem? (i := 220) rfl))
  | 15, _ => exact (iT5 (List.mem_of_getElem? (i := 222) rfl))
  | 16, _ => exact (iT5 (List.mem_of_getElem? (i := 224) rfl))
  | 17, _ => exact (iT5 (List.mem_of_getElem? (i := 226) rfl))
  | 18, _ => exact (iT5 (List.mem_of_getElem? (i := 228) rfl))
  | 19, _ => exact (iT5 (List.mem_of_getElem? (i := 230) rfl))
  | 20, _ => exact (iT5 (List.mem_of_getElem? (i := 232) rfl))
  | 21, _ => exact (iT5 (List.mem_of_getElem? (i := 234) rfl))
  | 22, _ => exact (iT5 (List.mem_of_getElem? (i := 236) rfl))
  | 23, _ => exact (iT5 (List.mem_of_getElem? (i := 238) rfl))
  | 24, _ => exact (iT6 (List.mem_of_getElem? (i := 0) rfl))
  | 25, _ => exact (iT6 (List.mem_of_getElem? (i := 2) rfl))
  | 26, _ => exact (iT6 (List.mem_of_getElem? (i := 4) rfl))
  | 27, _ => exact (iT6 (List.mem_of_getElem? (i := 6) rfl))
  | 28, _ => exact (iT6 (List.mem_of_getElem? (i := 8) rfl))
  | 29, _ => exact (iT6 (List.mem_of_getElem? (i := 10) rfl))
  | 30, _ => exact (iT6 (List.mem_of_getElem? (i := 12) rfl))
  | 31, _ => exact (iT6 (List.mem_of_getElem? (i := 14) rfl))
  | 32, _ => exact (iT6 (List.mem_of_getElem? (i := 16) rfl))
  | 33, _ => exact (iT6 (List.mem_of_getElem? (i := 18) rfl))
  | 34, _ => exact (iT6 (List.mem_of_getElem? (i := 20) rfl))
  | 35, _ => exact (iT6 (List.mem_of_getElem? (i := 22) rfl))
  | 36, _ => exact (iT6 (List.mem_of_getElem? (i := 24) rfl))
  | 37, _ => exact (iT6 (List.mem_of_getElem? (i := 26) rfl))
  | 38, _ => exact (iT6 (List.mem_of_getElem? (i := 28) rfl))
  | 39, _ => exact (iT6 (List.mem_of_getElem? (i := 30) rfl))
  | 40, _ => exact (iT6 (List.mem_of_getElem? (i := 32) rfl))
  | 41, _ => exact (iT6 (List.mem_of_getElem? (i := 34) rfl))
  | 42, _ => exact (iT6 (List.mem_of_getElem? (i := 36) rfl))
  | 43, _ => exact (iT6 (List.mem_of_getElem? (i := 38) rfl))
  | 44, _ => exact (iT6 (List.mem_of_getElem? (i := 40) rfl))
  | 45, _ => exact (iT6 (List.mem_of_getElem? (i := 42) rfl))
  | 46, _ => exact (iT6 (List.mem_of_getElem? (i := 44) rfl))
  | 47, _ => exact (iT6 (List.mem_of_getElem? (i := 46) rfl))
  | 48, _ => exact (iT6 (List.mem_of_getElem? (i := 48) rfl))
  | 49, _ => exact (iT6 (List.mem_of_getElem? (i := 50) rfl))
  | 50, _ => exact (iT6 (List.mem_of_getElem? (i := 52) rfl))
  | 51, _ => exact (iT6 (List.mem_of_getElem? (i := 54) rfl))
  | 52, _ => exact (iT6 (List.mem_of_getElem? (i := 56) rfl))
  | 53, _ => exact (iT6 (List.mem_of_getElem? (i := 58) rfl))
  | 54, _ => exact (iT6 (List.mem_of_getElem? (i := 60) rfl))
  | 55, _ => exact (iT6 (List.mem_of_getElem? (i := 62) rfl))
  | 56, _ => exact (iT6 (List.mem_of_getElem? (i := 64) rfl))
  | 57, _ => exact (iT6 (List.mem_of_getElem? (i := 66) rfl))
  | 58, _ => exact (iT6 (List.mem_of_getElem? (i := 68) rfl))
  | 59, _ => exact (iT6 (List.mem_of_getElem? (i := 70) rfl))
  | 60, _ => exact (iT6 (List.mem_of_getElem? (i := 72) rfl))
  | 61, _ => exact (iT6 (List.mem_of_getElem? (i := 74) rfl))
  | 62, _ => exact (iT6 (List.mem_of_getElem? (i := 76) rfl))
  | 63, _ => exact (iT6 (List.mem_of_getElem? (i := 78) rfl))
  | 64, _ => exact (iT6 (List.mem_of_getElem? (i := 80) rfl))
  | 65, _ => exact (iT6 (List.mem_of_getElem? (i := 82) rfl))
  | 66, _ => exact (iT6 (List.mem_of_getElem? (i := 84) rfl))
  | 67, _ => exact (iT6 (List.mem_of_getElem? (i := 86) rfl))
  | 68, _ => exact (iT6 (List.mem_of_getElem? (i := 88) rfl))
  | 69, _ => exact (iT6 (List.mem_of_getElem? (i := 90) rfl))
  | 70, _ => exact (iT6 (List.mem_of_getElem? (i := 92) rfl))
  | 71, _ => exact (iT6 (List.mem_of_getElem? (i := 94) rfl))
  | 72, _ => exact (iT6 (List.mem_of_getElem? (i := 96) rfl))
  | 73, _ => exact (iT6 (List.mem_of_getElem? (i := 98) rfl))
  | 74, _ => exact (iT6 (List.mem_of_getElem? (i := 100) rfl))
  | 75, _ => exact (iT6 (List.mem_of_getElem? (i := 102) rfl))
  | 76, _ => exact (iT6 (List.mem_of_getElem? (i := 104) rfl))
  | 77, _ => exact (iT6 (List.mem_of_getElem? (i := 106) rfl))
  | 78, _ => exact (iT6 (List.mem_of_getElem? (i := 108) rfl))
  | 79, _ => exact (iT6 (List.mem_of_getElem? (i := 110) rfl))
  | 80, _ => exact (iT6 (List.mem_of_getElem? (i := 112) rfl))
  | 81, _ => exact (iT6 (List.mem_of_getElem? (i := 114) rfl))
  | 82, _ => exact (iT6 (List.mem_of_getElem? (i := 116) rfl))
  | 83, _ => exact (iT6 (List.mem_of_getElem? (i := 118) rfl))
  | 84, _ => exact (iT6 (List.mem_of_getElem? (i := 120) rfl))
  | 85, _ => exact (iT6 (List.mem_of_getElem? (i := 122) rfl))
  | 86, _ => exact (iT6 (List.mem_of_getElem? (i := 124) rfl))
  | 87, _ => exact (iT6 (List.mem_of_getElem? (i := 126) rfl))
  | 88, _ => exact (iT6 (List.mem_of_getElem? (i := 128) rfl))
  | 89, _ => exact (iT6 (List.mem_of_getElem? (i := 130) rfl))
  | 90, _ => exact (iT6 (List.mem_of_getElem? (i := 132) rfl))
  | 91, _ => exact (iT6 (List.mem_of_getElem? (i := 134) rfl))
  | 92, _ => exact (iT6 (List.mem_of_getElem? (i := 136) rfl))
  | 93, _ => exact (iT6 (List.mem_of_getElem? (i := 138) rfl))
  | 94, _ => exact (iT6 (List.mem_of_getElem? (i := 140) rfl))
  | 95, _ => exact (iT6 (List.mem_of_getElem? (i := 142) rfl))
  | 96, _ => exact (iT6 (List.mem_of_getElem? (i := 144) rfl))
  | 97, _ => exact (iT6 (List.mem_of_getElem? (i := 146) rfl))
  | 98, _ => exact (iT6 (List.mem_of_getElem? (i := 148) rfl))
  | 99, _ => exact (iT6 (List.mem_of_getElem? (i := 150) rfl))
  | 100, _ => exact (iT6 (List.mem_of_getElem? (i := 152) rfl))
  | 101, _ => exact (iT6 (List.mem_of_getElem? (i := 154) rfl))
  | 102, _ => exact (iT6 (List.mem_of_getElem? (i := 156) rfl))
  | 103, _ => exact (iT6 (List.mem_of_getElem? (i := 158) rfl))
  | 104, _ => exact (iT6 (List.mem_of_getElem? (i := 160) rfl))
  | 105, _ => exact (iT6 (List.mem_of_getElem? (i := 162) rfl))
  | 106, _ => exact (iT6 (List.mem_of_getElem? (i := 164) rfl))
  | k + 107, hk => omega
theorem tYX12 : ∀ w ∈ wsX120, w ∈ lw_tbl := by
  intro w hw
  obtain ⟨k, hk, rfl⟩ := List.mem_map.mp hw
  exact tUX12 k (List.mem_range.mp hk)
set_option maxRecDepth 100000 in
set_option maxHeartbeats 4000000 in
theorem tUX5 : ∀ k, k < 18 → u_lay RX5 TX5 k ∈ lw_tbl := by
  intro k hk
  match k, hk with
  | 0, _ => exact (iT1 (List.mem_of_getElem? (i := 68) rfl))
  | 1, _ => exact (iT1 (List.mem_of_getElem? (i := 70) rfl))
  | 2, _ => exact (iT1 (List.mem_of_getElem? (i := 72) rfl))
  | 3, _ => exact (iT1 (List.mem_of_getElem? (i := 74) rfl))
  | 4, _ => exact (iT1 (List.mem_of_getElem? (i := 76) rfl))
  | 5, _ => exact (iT1 (List.mem_of_getElem? (i := 78) rfl))
  | 6, _ => exact (iT1 (List.mem_of_getElem? (i := 80) rfl))
  | 7, _ => exact (iT1 (List.mem_of_getElem? (i := 82) rfl))
  | 8, _ => exact (iT1 (List.mem_of_getElem? (i := 84) rfl))
  | 9, _ => exact (iT1 (List.mem_of_getElem? (i := 86) rfl))
  | 10, _ => exact (iT1 (List.mem_of_getElem? (i := 88) rfl))
  | 11, _ => exact (iT1 (List.mem_of_getElem? (i := 90) rfl))
  | 12, _ => exact (iT1 (List.mem_of_getElem? (i := 92) rfl))
  | 13, _ => exact (iT1 (List.mem_of_getElem? (i := 94) rfl))
  | 14, _ => exact (iT1 (List.mem_of_getElem? (i := 96) rfl))
  | 15, _ => exact (iT1 (List.mem_of_getElem? (i := 98) rfl))
  | 16, _ => exact (iT1 (List.mem_of_getElem? (i := 100) rfl))
  | 17, _ => exact (iT1 (List.mem_of_getElem? (i := 102) rfl))
  | k + 18, hk => omega
theorem tYX5 : ∀ w ∈ wsX50, w ∈ lw_tbl := by
  intro w hw
  obtain ⟨k, hk, rfl⟩ := List.mem_map.mp hw
  exact tUX5 k (List.mem_range.mp hk)
set_option maxRecDepth 100000 in
set_option maxHeartbeats 4000000 in
theorem tUX8 : ∀ k, k < 4 → u_lay RX8 TX8 k ∈ lw_tbl := by
  intro k hk
  match k, hk with
  | 0, _ => exact (iT1 (List.mem_of_getElem? (i := 119) rfl))
  | 1, _ => exact (iT1 (List.mem_of_getElem? (i := 121) rfl))
  | 2, _ => exact (iT1 (List.mem_of_getElem? (i := 123) rfl))
  | 3, _ => exact (iT1 (List.mem_of_getElem? (i := 125) rfl))
  | k + 4, hk => omega
theorem tYX8 : ∀ w ∈ wsX80, w ∈ lw_tbl := by
  intro w hw
  obtain ⟨k, hk, rfl⟩ := List.mem_map.mp hw
  exact tUX8 k (List.mem_range.mp hk)
set_option maxRecDepth 100000 in
set_option maxHeartbeats 4000000 in
theorem tUX1 : ∀ k, k < 3 → u_lay RX1 TX1 k ∈ lw_tbl := by
  intro k hk
  match k, hk with
  | 0, _ => exact (iT1 (List.mem_of_getElem? (i := 138) rfl))
  | 1, _ => exact (iT1 (List.mem_of_getElem? (i := 140) rfl))
  | 2, _ => exact (iT1 (List.mem_of_getElem? (i := 142) rfl))
  | k + 3, hk => omega
theorem tYX1 : ∀ w ∈ wsX10, w ∈ lw_tbl := by
  intro w hw
  obtain ⟨k, hk, rfl⟩ := List.mem_map.mp hw
  exact tUX1 k (List.mem_range.mp hk)
set_option maxRecDepth 100000 in
set_option maxHeartbeats 4000000 in
theorem tUX10 : ∀ k, k < 6 → u_lay RX10 TX10 k ∈ lw_tbl := by
  intro k hk
  match k, hk with
  | 0, _ => exact (iT1 (List.mem_of_getElem? (i := 159) rfl))
  | 1, _ => exact (iT1 (List.mem_of_getElem? (i := 161) rfl))
  | 2, _ => exact (iT1 (List.mem_of_getElem? (i := 163) rfl))
  | 3, _ => exact (iT1 (List.mem_of_getElem? (i := 165) rfl))
  | 4, _ => exact (iT1 (List.mem_of_getElem? (i := 167) rfl))
  | 5, _ => exact (iT1 (List.mem_of_getElem? (i := 169) rfl))
  | k + 6, hk => omega
theorem tYX10 : ∀ w ∈ wsX100, w ∈ lw_tbl := by
  intro w hw
  obtain ⟨k, hk, rfl⟩ := List.mem_map.mp hw
  exact tUX10 k (List.mem_range.mp hk)
set_option maxRecDepth 100000 in
set_option maxHeartbeats 4000000 in
theorem tUX0 : ∀ k, k < 5 → u_lay RX0 TX0 k ∈ lw_tbl := by
  intro k hk
  match k, hk with
  | 0, _ => exact (iT1 (List.mem_of_getElem? (i := 184) rfl))
  | 1, _ => exact (iT1 (List.mem_of_getElem? (i := 186) rfl))
  | 2, _ => exact (iT1 (List.mem_of_getElem? (i := 188) rfl))
  | 3, _ => exact (iT1 (List.mem_of_getElem? (i := 190) rfl))
  | 4, _ => exact (iT1 (List.mem_of_getElem? (i := 192) rfl))
  | k + 5, hk => omega
theorem tYX0 : ∀ w ∈ wsX00, w ∈ lw_tbl := by
  intro w hw
  obtain ⟨k, hk, rfl⟩ := List.mem_map.mp hw
  exact tUX0 k (List.mem_range.mp hk)
set_option maxRecDepth 100000 in
set_option maxHeartbeats 4000000 in
theorem tUX7 : ∀ k, k < 19 → u_lay RX7 TX7 k ∈ lw_tbl := by
  intro k hk
  match k, hk with
  | 0, _ => exact (iT2 (List.mem_of_getElem? (i := 79) rfl))
  | 1, _ => exact (iT2 (List.mem_of_getElem? (i := 81) rfl))
  | 2, _ => exact (iT2 (List.mem_of_getElem? (i := 83) rfl))
  | 3, _ => exact (iT2 (List.mem_of_getElem? (i := 85) rfl))
  | 4, _ => exact (iT2 (List.mem_of_getElem? (i := 87) rfl))
  | 5, _ => exact (iT2 (List.mem_of_getElem? (i := 89) rfl))
  | 6, _ => exact (iT2 (List.mem_of_getElem? (i := 91) rfl))
  | 7, _ => exact (iT2 (List.mem_of_getElem? (i := 93) rfl))
  | 8, _ => exact (iT2 (List.mem_of_getElem? (i := 95) rfl))
  | 9, _ => exact (iT2 (List.mem_of_getElem? (i := 97) rfl))
  | 10, _ => exact (iT2 (List.mem_of_getElem? (i := 99) rfl))
  | 11, _ => exact (iT2 (List.mem_of_getElem? (i := 101) rfl))
  | 12, _ => exact (iT2 (List.mem_of_getElem? (i := 103) rfl))
  | 13, _ => exact (iT2 (List.mem_of_getElem? (i := 105) rfl))
  | 14, _ => exact (iT2 (List.mem_of_getElem? (i := 107) rfl))
  | 15, _ => exact (iT2 (List.mem_of_getElem? (i := 109) rfl))
  | 16, _ => exact (iT2 (List.mem_of_getElem? (i := 111) rfl))
  | 17, _ => exact (iT2 (List.mem_of_getElem? (i := 113) rfl))
  | 18, _ => exact (iT2 (List.mem_of_getElem? (i := 115) rfl))
  | k + 19, hk => omega
theorem tYX7 : ∀ w ∈ wsX70, w ∈ lw_tbl := by
  intro w hw
  obtain ⟨k, hk, rfl⟩ := List.mem_map.mp hw
  exact tUX7 k (List.mem_range.mp hk)
set_option maxRecDepth 100000 in
set_option maxHeartbeats 4000000 in
theorem tUX4 : ∀ k, k < 14 → u_lay RX4 TX4 k ∈ lw_tbl := by
  intro k hk
  match k, hk with
  | 0, _ => exact (iT2 (List.mem_of_getElem? (i := 148) rfl))
  | 1, _ => exact (iT2 (List.mem_of_getElem? (i := 150) rfl))
  | 2, _ => exact (iT2 (List.mem_of_getElem? (i := 152) rfl))
  | 3, _ => exact (iT2 (List.mem_of_getElem? (i := 154) rfl))
  | 4, _ => exact (iT2 (List.mem_of_getElem? (i := 156) rfl))
  | 5, _ => exact (iT2 (List.mem_of_getElem? (i := 158) rfl))
  | 6, _ => exact (iT2 (List.mem_of_getElem? (i := 160) rfl))
  | 7, _ => exact (iT2 (List.mem_of_getElem? (i := 162) rfl))
  | 8, _ => exact (iT2 (List.mem_of_getElem? (i := 164) rfl))
  | 9, _ => exact (iT2 (List.mem_of_getElem? (i := 166) rfl))
  | 10, _ => exact (iT2 (List.mem_of_getElem? (i := 168) rfl))
  | 11, _ => exact (iT2 (List.mem_of_getElem? (i := 170) rfl))
  | 12, _ => exact (iT2 (List.mem_of_getElem? (i := 172) rfl))
  | 13, _ => exact (iT2 (List.mem_of_getElem? (i := 174) rfl))
  | k + 14, hk => omega
theorem tYX4 : ∀ w ∈ wsX40, w ∈ lw_tbl := by
  intro w hw
  obtain ⟨k, hk, rfl⟩ := List.mem_map.mp hw
  exact tUX4 k (List.mem_range.mp hk)
set_option maxRecDepth 100000 in
set_option maxHeartbeats 4000000 in
theorem tUX9 : ∀ k, k < 4 → u_lay RX9 TX9 k ∈ lw_tbl := by
  intro k hk
  match k, hk with
  | 0, _ => exact (iT2 (List.mem_of_getElem? (i := 16) rfl))
  | 1, _ => exact (iT2 (List.mem_of_getElem? (i := 18) rfl))
  | 2, _ => exact (iT2 (List.mem_of_getElem? (i := 20) rfl))
  | 3, _ => exact (iT2 (List.mem_of_getElem? (i := 22) rfl))
  | k + 4, hk => omega
theorem tYX9 : ∀ w ∈ wsX90, w ∈ lw_tbl := by
  intro w hw
  obtain ⟨k, hk, rfl⟩ := List.mem_map.mp hw
  exact tUX9 k (List.mem_range.mp hk)
set_option maxRecDepth 100000 in
set_option maxHeartbeats 4000000 in
theorem tUX3 : ∀ k, k < 4 → u_lay RX3 TX3 k ∈ lw_tbl := by
  intro k hk
  match k, hk with
  | 0, _ => exact (iT2 (List.mem_of_getElem? (i := 37) rfl))
  | 1, _ => exact (iT2 (List.mem_of_getElem? (i := 39) rfl))
  | 2, _ => exact (iT2 (List.mem_of_getElem? (i := 41) rfl))
  | 3, _ => exact (iT2 (List.mem_of_getElem? (i := 43) rfl))
  | k + 4, hk => omega
theorem tYX3 : ∀ w ∈ wsX30, w ∈ lw_tbl := by
  intro w hw
  obtain ⟨k, hk, rfl⟩ := List.mem_map.mp hw
  exact tUX3 k (List.mem_range.mp hk)
set_option maxRecDepth 100000 in
set_option maxHeartbeats 4000000 in
theorem tUX6 : ∀ k, k < 9 → u_lay RX6 TX6 k ∈ lw_tbl := by
  intro k hk
  match k, hk with
  | 0, _ => exact (iT1 (List.mem_of_getElem? (i := 230) rfl))
  | 1, _ => exact (iT1 (List.mem_of_getElem? (i := 232) rfl))
  | 2, _ => exact (iT1 (List.mem_of_getElem? (i := 234) rfl))
  | 3, _ => exact (iT1 (List.mem_of_getElem? (i := 236) rfl))
  | 4, _ => exact (iT1 (List.mem_of_getElem? (i := 238) rfl))
  | 5, _ => exact (iT2 (List.mem_of_getElem? (i := 0) rfl))
  | 6, _ => exact (iT2 (List.mem_of_getElem? (i := 2) rfl))
  | 7, _ => exact (iT2 (List.mem_of_getElem? (i := 4) rfl))
  | 8, _ => exact (iT2 (List.mem_of_getElem? (i := 6) rfl))
  | k + 9, hk => omega
theorem tYX6 : ∀ w ∈ wsX60, w ∈ lw_tbl := by
  intro w hw
  obtain ⟨k, hk, rfl⟩ := List.mem_map.mp hw
  exact tUX6 k (List.mem_range.mp hk)
theorem tY : ∀ w ∈ gY, w ∈ lw_tbl := List.forall_mem_append.mpr ⟨tYX11, List.forall_mem_append.mpr ⟨tYX12, List.forall_mem_append.mpr ⟨tYX5, List.forall_mem_append.mpr ⟨tYX8, List.forall_mem_append.mpr ⟨tYX1, List.forall_mem_append.mpr ⟨tYX10, List.forall_mem_append.mpr ⟨tYX0, List.forall_mem_append.mpr ⟨tYX7, List.forall_mem_append.mpr ⟨tYX4, List.forall_mem_append.mpr ⟨tYX9, List.forall_mem_append.mpr ⟨tYX3, tYX6⟩⟩⟩⟩⟩⟩⟩⟩⟩⟩⟩
theorem tG54 : ∀ w ∈ gG54, w ∈ lw_tbl := List.forall_mem_append.mpr ⟨tL54, tY⟩
theorem tG53 : ∀ w ∈ gG53, w ∈ lw_tbl := List.forall_mem_append.mpr ⟨tL53, tG54⟩
theorem tG52 : ∀ w ∈ gG52, w ∈ lw_tbl := List.forall_mem_append.mpr ⟨tL52, tG53⟩
theorem tG51 : ∀ w ∈ gG51, w ∈ lw_tbl := List.forall_mem_append.mpr ⟨tL51, tG52⟩
theorem tG50 : ∀ w ∈ gG50, w ∈ lw_tbl := List.forall_mem_append.mpr ⟨tL50, tG51⟩
theorem tG49 : ∀ w ∈ gG49, w ∈ lw_tbl := List.forall_mem_append.mpr ⟨tL49, tG50⟩
theorem tG48 : ∀ w ∈ gG48, w ∈ lw_tbl := List.forall_mem_append.mpr ⟨tL48, tG49⟩
theorem tG47 : ∀ w ∈ gG47, w ∈ lw_tbl := List.forall_mem_append.mpr ⟨tL47, tG48⟩
theorem tG46 : ∀ w ∈ gG46, w ∈ lw_tbl := List.forall_mem_append.mpr ⟨tL46, tG47⟩
theorem tG45 : ∀ w ∈ gG45, w ∈ lw_tbl := List.forall_mem_append.mpr ⟨tL45, tG46⟩
theorem tG44 : ∀ w ∈ gG44, w ∈ lw_tbl := List.forall_mem_append.mpr ⟨tL44, tG45⟩
theorem tG43 : ∀ w ∈ gG43, w ∈ lw_tbl := List.forall_mem_append.mpr ⟨tL43, tG44⟩
theorem tG42 : ∀ w ∈ gG42, w ∈ lw_tbl := List.forall_mem_append.mpr ⟨tL42, tG43⟩
theorem tG41 : ∀ w ∈ gG41, w ∈ lw_tbl := List.forall_mem_append.mpr ⟨tL41, tG42⟩
theorem tG40 : ∀ w ∈ gG40, w ∈ lw_tbl := List.forall_mem_append.mpr ⟨tL40, tG41⟩
theorem tG39 : ∀ w ∈ gG39, w ∈ lw_tbl := List.forall_mem_append.mpr ⟨tL39, tG40⟩
theorem tG38 : ∀ w ∈ gG38, w ∈ lw_tbl := List.forall_mem_append.mpr ⟨tL38, tG39⟩
theorem tG37 : ∀ w ∈ gG37, w ∈ lw_tbl := List.forall_mem_append.mpr ⟨tL37, tG38⟩
theorem tG36 : ∀ w ∈ gG36, w ∈ lw_tbl := List.forall_mem_append.mpr ⟨tL36, tG37⟩
theorem tG35 : ∀ w ∈ gG35, w ∈ lw_tbl := List.forall_mem_append.mpr ⟨tL35, tG36⟩
theorem tG34 : ∀ w ∈ gG34, w ∈ lw_tbl := List.forall_mem_append.mpr ⟨tL34, tG35⟩
theorem tG33 : ∀ w ∈ gG33, w ∈ lw_tbl := List.forall_mem_append.mpr ⟨tL33, tG34⟩
theorem tG32 : ∀ w ∈ gG32, w ∈ lw_tbl := List.forall_mem_append.mpr ⟨tL32, tG33⟩
theorem tG31 : ∀ w ∈ gG31, w ∈ lw_tbl := List.forall_mem_append.mpr ⟨tL31, tG32⟩
theorem tG30 : ∀ w ∈ gG30, w ∈ lw_tbl := List.forall_mem_append.mpr ⟨tL30, tG31⟩
theorem tG29 : ∀ w ∈ gG29, w ∈ lw_tbl := List.forall_mem_append.mpr ⟨tL29, tG30⟩
theorem tG28 : ∀ w ∈ gG28, w ∈ lw_tbl := List.forall_mem_append.mpr ⟨tL28, tG29⟩
theorem tG27 : ∀ w ∈ gG27, w ∈ lw_tbl := List.forall_mem_append.mpr ⟨tL27, tG28⟩
theorem tG26 : ∀ w ∈ gG26, w ∈ lw_tbl := List.forall_mem_append.mpr ⟨tL26, tG27⟩
theorem tG25 : ∀ w ∈ gG25, w ∈ lw_tbl := List.forall_mem_append.mpr ⟨tL25, tG26⟩
theorem tG24 : ∀ w ∈ gG24, w ∈ lw_tbl := List.forall_mem_append.mpr ⟨tL24, tG25⟩
theorem tG23 : ∀ w ∈ gG23, w ∈ lw_tbl := List.forall_mem_append.mpr ⟨tL23, tG24⟩
theorem tG22 : ∀ w ∈ gG22, w ∈ lw_tbl := List.forall_mem_append.mpr ⟨tL22, tG23⟩
theorem tG21 : ∀ w ∈ gG21, w ∈ lw_tbl := List.forall_mem_append.mpr ⟨tL21, tG22⟩
theorem tG20 : ∀ w ∈ gG20, w ∈ lw_tbl := List.forall_mem_append.mpr ⟨tL20, tG21⟩
theorem tG19 : ∀ w ∈ gG19, w ∈ lw_tbl := List.forall_mem_append.mpr ⟨tL19, tG20⟩
theorem tG18 : ∀ w ∈ gG18, w ∈ lw_tbl := List.forall_mem_append.mpr ⟨tL18, tG19⟩
theorem tG17 : ∀ w ∈ gG17, w ∈ lw_tbl := List.forall_mem_append.mpr ⟨tL17, tG18⟩
theorem tG16 : ∀ w ∈ gG16, w ∈ lw_tbl := List.forall_mem_append.mpr ⟨tL16, tG17⟩
theorem tG15 : ∀ w ∈ gG15, w ∈ lw_tbl := List.forall_mem_append.mpr ⟨tL15, tG16⟩
theorem tG14 : ∀ w ∈ gG14, w ∈ lw_tbl := List.forall_mem_append.mpr ⟨tL14, tG15⟩
theorem tG13 : ∀ w ∈ gG13, w ∈ lw_tbl := List.forall_mem_append.mpr ⟨tL13, tG14⟩
theorem tG12 : ∀ w ∈ gG12, w ∈ lw_tbl := List.forall_mem_append.mpr ⟨tL12, tG13⟩
theorem tG11 : ∀ w ∈ gG11, w ∈ lw_tbl := List.forall_mem_append.mpr ⟨tL11, tG12⟩
theorem tG10 : ∀ w ∈ gG10, w ∈ lw_tbl := List.forall_mem_append.mpr ⟨tL10, tG11⟩
theorem tG9 : ∀ w ∈ gG9, w ∈ lw_tbl := List.forall_mem_append.mpr ⟨tL9, tG10⟩
theorem tG8 : ∀ w ∈ gG8, w ∈ lw_tbl := List.forall_mem_append.mpr ⟨tL8, tG9⟩
theorem tG7 : ∀ w ∈ gG7, w ∈ lw_tbl := List.forall_mem_append.mpr ⟨tL7, tG8⟩
theorem tG6 : ∀ w ∈ gG6, w ∈ lw_tbl := List.forall_mem_append.mpr ⟨tL6, tG7⟩
theorem tG5 : ∀ w ∈ gG5, w ∈ lw_tbl := List.forall_mem_append.mpr ⟨tL5, tG6⟩
theorem tG4 : ∀ w ∈ gG4, w ∈ lw_tbl := List.forall_mem_append.mpr ⟨tL4, tG5⟩
theorem tG3 : ∀ w ∈ gG3, w ∈ lw_tbl := List.forall_mem_append.mpr ⟨tL3, tG4⟩
theorem tG2 : ∀ w ∈ gG2, w ∈ lw_tbl := List.forall_mem_append.mpr ⟨tL2, tG3⟩
theorem tG1 : ∀ w ∈ gG1, w ∈ lw_tbl := List.forall_mem_append.mpr ⟨tL1, tG2⟩
theorem tG0 : ∀ w ∈ gG0, w ∈ lw_tbl := List.forall_mem_append.mpr ⟨tL0, tG1⟩
theorem gwL : ∀ w ∈ GW, w ∈ lw_tbl := tG0
theorem tx_nest26 : (Cond.methodLinkNest RX11 26 yX5_init RX11) ∈ lw_tbl := (iT1 (List.mem_of_getElem? (i := 35) rfl))
theorem tx_nest33 : (Cond.methodLinkNest RX11 33 yX8_init RX11) ∈ lw_tbl := (iT1 (List.mem_of_getElem? (i := 109) rfl))
theorem tx_nest40 : (Cond.methodLinkNest RX11 40 yX1_init RX11) ∈ lw_tbl := (iT1 (List.mem_of_getElem? (i := 130) rfl))
theorem tx_nest47 : (Cond.methodLinkNest RX11 47 yX10_init RX11) ∈ lw_tbl := (iT1 (List.mem_of_getElem? (i := 147) rfl))
theorem tx_nest54 : (Cond.methodLinkNest RX11 54 yX0_init RX11) ∈ lw_tbl := (iT1 (List.mem_of_getElem? (i := 174) rfl))
theorem tx_nest82 : (Cond.methodLinkNest RX11 82 yX4_init RX11) ∈ lw_tbl := (iT2 (List.mem_of_getElem? (i := 119) rfl))
theorem tx_nest24 : (Cond.methodLinkNest RX7 24 yX3_init RX11) ∈ lw_tbl := (iT2 (List.mem_of_getElem? (i := 27) rfl))
theorem tx_nest15 : (Cond.methodLinkNest RX9 15 yX6_init RX11) ∈ lw_tbl := (iT1 (List.mem_of_getElem? (i := 209) rfl))
theorem tx_nest32 : (Cond.methodLinkNest RX2 32 yX11_isNode RX11) ∈ lw_tbl := (iT4 (List.mem_of_getElem? (i := 67) rfl))
theorem tx_nest42 : (Cond.methodLinkNest RX10 42 yX2_writeAddress RX11) ∈ lw_tbl := (iT4 (List.mem_of_getElem? (i := 184) rfl))
theorem tx_ov7 : (Cond.arrayOver (.object RX7)) ∈ lw_tbl := (iT1 (List.mem_of_getElem? (i := 30) rfl))
theorem tx_ov4 : (Cond.arrayOver (.object RX4)) ∈ lw_tbl := (iT1 (List.mem_of_getElem? (i := 32) rfl))
theorem tx_ov6 : (Cond.arrayOver (.object RX6)) ∈ lw_tbl := (iT1 (List.mem_of_getElem? (i := 207) rfl))
theorem tx_ovA : (Cond.arrayOver (.array .int)) ∈ lw_tbl := (iT1 (List.mem_of_getElem? (i := 40) rfl))
theorem tx_acB : (Cond.arrayClass .byte) ∈ lw_tbl := (iT5 (List.mem_of_getElem? (i := 28) rfl))
theorem tx_acI : (Cond.arrayClass .int) ∈ lw_tbl := (iT1 (List.mem_of_getElem? (i := 105) rfl))
theorem tx_acZ : (Cond.arrayClass .boolean) ∈ lw_tbl := (iT1 (List.mem_of_getElem? (i := 106) rfl))
theorem tx_acJ : (Cond.arrayClass .long) ∈ lw_tbl := (iT6 (List.mem_of_getElem? (i := 167) rfl))
theorem tx_lsC : (Cond.laysStatic RX2 "CRC" "[I") ∈ lw_tbl := (iT3 (List.mem_of_getElem? (i := 19) rfl))
theorem tx_lsH : (Cond.laysStatic RX2 "HEAD" "[I") ∈ lw_tbl := (iT3 (List.mem_of_getElem? (i := 145) rfl))
theorem tx_lsB : (Cond.laysStatic RX2 "HAND_BYTES" "[I") ∈ lw_tbl := (iT4 (List.mem_of_getElem? (i := 129) rfl))
theorem tx_lsS : (Cond.laysStatic RX0 "SBOX" "[I") ∈ lw_tbl := (iT3 (List.mem_of_getElem? (i := 231) rfl))
theorem tx_lsT : (Cond.laysStatic "java/lang/String" "COMPACT_STRINGS" "Z") ∈ lw_tbl := (iT4 (List.mem_of_getElem? (i := 145) rfl))
theorem tx_lsF : (Cond.laysStatic "jdk/internal/util/Preconditions" "SIOOBE_FORMATTER" "Ljava/util/function/BiFunction;") ∈ lw_tbl := (iT4 (List.mem_of_getElem? (i := 161) rfl))
theorem tx_in2 : (Cond.initialized RX2) ∈ lw_tbl := (iT1 (List.mem_of_getElem? (i := 14) rfl))
theorem tx_in0 : (Cond.initialized RX0) ∈ lw_tbl := (iT1 (List.mem_of_getElem? (i := 6) rfl))
theorem tx_inT : (Cond.initialized "java/lang/String") ∈ lw_tbl := (iT1 (List.mem_of_getElem? (i := 17) rfl))
theorem tx_inF : (Cond.initialized "jdk/internal/util/Preconditions") ∈ lw_tbl := (iT1 (List.mem_of_getElem? (i := 19) rfl))
theorem tx_sr : (Cond.stringRef RX10 30 "Pairwise key expansion") ∈ lw_tbl := (iT4 (List.mem_of_getElem? (i := 135) rfl))
