set_option maxRecDepth 100000 in
set_option maxHeartbeats 40000000 in
theorem zq_t6 : ((Cond.instanceMethod yX11_least) ∈ lw_tbl ∧ (Cond.code yX11_least cX11_least 5 (some .int)) ∈ lw_tbl ∧ (Cond.methodLink RL 144 yX11_image) ∈ lw_tbl ∧ (Cond.instanceMethod yX11_image) ∈ lw_tbl ∧ (Cond.selects RX11 yX11_image yX11_image) ∈ lw_tbl ∧ (Cond.code yX11_image cX11_image 2 (some .int)) ∈ lw_tbl ∧ (Cond.methodLink RX11 354 yX9_addByte) ∈ lw_tbl ∧ (Cond.methodLink RX11 357 yX9_checkOf) ∈ lw_tbl ∧ (Cond.instanceMethod yX9_checkOf) ∈ lw_tbl ∧ (Cond.selects RX9 yX9_checkOf yX9_checkOf) ∈ lw_tbl ∧ (Cond.code yX9_checkOf cX9_checkOf 4 (some .int)) ∈ lw_tbl ∧ (Cond.methodLink RL 148 yX11_octet) ∈ lw_tbl ∧ (Cond.instanceMethod yX11_octet) ∈ lw_tbl ∧ (Cond.selects RX11 yX11_octet yX11_octet) ∈ lw_tbl ∧ (Cond.code yX11_octet cX11_octet 2 (some .int)) ∈ lw_tbl ∧ (Cond.methodLink RX11 360 yX9_byteAt) ∈ lw_tbl) ∧ ((Cond.methodLink RL 152 yX11_on) ∈ lw_tbl ∧ (Cond.instanceMethod yX11_on) ∈ lw_tbl ∧ (Cond.selects RX11 yX11_on yX11_on) ∈ lw_tbl ∧ (Cond.code yX11_on cX11_on 2 (some .boolean)) ∈ lw_tbl ∧ (Cond.methodLink RX11 363 yX10_readImage) ∈ lw_tbl ∧ (Cond.instanceMethod yX10_readImage) ∈ lw_tbl ∧ (Cond.selects RX10 yX10_readImage yX10_readImage) ∈ lw_tbl ∧ (Cond.code yX10_readImage cX10_readImage 8 (some .boolean)) ∈ lw_tbl ∧ (Cond.methodLink RX10 79 yX3_cells) ∈ lw_tbl ∧ (Cond.methodLink RX10 88 yX9_byteAt) ∈ lw_tbl ∧ (Cond.methodLink RX10 91 yX9_checkOf) ∈ lw_tbl ∧ (Cond.methodLink RX10 94 yX9_pairAt) ∈ lw_tbl ∧ (Cond.methodLink RX10 97 yX10_readPerson) ∈ lw_tbl ∧ (Cond.instanceMethod yX10_readPerson) ∈ lw_tbl ∧ (Cond.code yX10_readPerson cX10_readPerson 7 (some .boolean)) ∈ lw_tbl ∧ (Cond.methodLink RX10 101 yX10_between) ∈ lw_tbl) ∧ ((Cond.methodLink RX10 105 yX3_hasCell) ∈ lw_tbl ∧ (Cond.methodLink RL 156 yX11_status) ∈ lw_tbl ∧ (Cond.instanceMethod yX11_status) ∈ lw_tbl ∧ (Cond.selects RX11 yX11_status yX11_status) ∈ lw_tbl ∧ (Cond.code yX11_status cX11_status 2 (some .int)) ∈ lw_tbl ∧ (Cond.classLink RL 10 RX12) ∈ lw_tbl ∧ (Cond.instantiable RX12 108) ∈ lw_tbl ∧ (Cond.methodLink RL 12 yX12_init) ∈ lw_tbl ∧ (Cond.instanceMethod yX12_init) ∈ lw_tbl ∧ (Cond.code yX12_init cX12_init 1 none) ∈ lw_tbl ∧ (Cond.methodLink RX12 1 objectInit) ∈ lw_tbl ∧ (Cond.fieldLink RX12 7 "OnePaneModel" "tape" "[I") ∈ lw_tbl ∧ (Cond.fieldLink RX12 243 "OnePaneModel" "taped" "I") ∈ lw_tbl ∧ (Cond.fieldLink RX12 252 "OnePaneModel" "at" "I") ∈ lw_tbl ∧ (Cond.fieldLink RX12 255 "OnePaneModel" "end" "I") ∈ lw_tbl ∧ (Cond.fieldLink RX12 266 "OnePaneModel" "ended" "I") ∈ lw_tbl) ∧ ((Cond.fieldLink RX12 246 "OnePaneModel" "bad" "I") ∈ lw_tbl ∧ (Cond.fieldLink RX12 249 "OnePaneModel" "badPlace" "I") ∈ lw_tbl ∧ (Cond.fieldLink RX12 369 "OnePaneModel" "fault" "I") ∈ lw_tbl ∧ (Cond.fieldLink RX12 13 "OnePaneModel" "faultPlace" "I") ∈ lw_tbl ∧ (Cond.fieldLink RX12 17 "OnePaneModel" "refused" "[I") ∈ lw_tbl ∧ (Cond.fieldLink RX12 286 "OnePaneModel" "numberPlace" "I") ∈ lw_tbl ∧ (Cond.fieldLink RX12 20 "OnePaneModel" "paneWord" "[C") ∈ lw_tbl ∧ (Cond.fieldLink RX12 24 "OnePaneModel" "byWord" "[C") ∈ lw_tbl ∧ (Cond.fieldLink RX12 27 "OnePaneModel" "toughWord" "[C") ∈ lw_tbl ∧ (Cond.fieldLink RX12 30 "OnePaneModel" "heavyWord" "[C") ∈ lw_tbl ∧ (Cond.fieldLink RX12 33 "OnePaneModel" "poleWord" "[C") ∈ lw_tbl ∧ (Cond.fieldLink RX12 36 "OnePaneModel" "atWord" "[C") ∈ lw_tbl ∧ (Cond.fieldLink RX12 39 "OnePaneModel" "liftsWord" "[C") ∈ lw_tbl ∧ (Cond.fieldLink RX12 42 "OnePaneModel" "addsWord" "[C") ∈ lw_tbl ∧ (Cond.fieldLink RX12 45 "OnePaneModel" "holdsWord" "[C") ∈ lw_tbl ∧ (Cond.fieldLink RX12 48 "OnePaneModel" "fadesWord" "[C") ∈ lw_tbl) ∧ ((Cond.fieldLink RX12 51 "OnePaneModel" "stoneWord" "[C") ∈ lw_tbl ∧ (Cond.fieldLink RX12 54 "OnePaneModel" "hailWord" "[C") ∈ lw_tbl ∧ (Cond.fieldLink RX12 57 "OnePaneModel" "hourWord" "[C") ∈ lw_tbl ∧ (Cond.fieldLink RX12 60 "OnePaneModel" "cracksWord" "[C") ∈ lw_tbl ∧ (Cond.fieldLink RX12 63 "OnePaneModel" "weightWord" "[C") ∈ lw_tbl ∧ (Cond.fieldLink RX12 66 "OnePaneModel" "tiredWord" "[C") ∈ lw_tbl ∧ (Cond.fieldLink RX12 69 "OnePaneModel" "nearWord" "[C") ∈ lw_tbl ∧ (Cond.fieldLink RX12 72 "OnePaneModel" "numberWord" "[C") ∈ lw_tbl ∧ (Cond.fieldLink RX12 75 "OnePaneModel" "columnWord" "[C") ∈ lw_tbl ∧ (Cond.fieldLink RX12 78 "OnePaneModel" "rowWord" "[C") ∈ lw_tbl ∧ (Cond.fieldLink RX12 81 "OnePaneModel" "farWord" "[C") ∈ lw_tbl ∧ (Cond.fieldLink RX12 84 "OnePaneModel" "orWord" "[C") ∈ lw_tbl ∧ (Cond.fieldLink RX12 87 "OnePaneModel" "andWord" "[C") ∈ lw_tbl ∧ (Cond.fieldLink RX12 90 "OnePaneModel" "notWord" "[C") ∈ lw_tbl ∧ (Cond.fieldLink RX12 93 "OnePaneModel" "allWord" "[C") ∈ lw_tbl ∧ (Cond.fieldLink RX12 96 "OnePaneModel" "minWord" "[C") ∈ lw_tbl) ∧ ((Cond.fieldLink RX12 99 "OnePaneModel" "maxWord" "[C") ∈ lw_tbl ∧ (Cond.fieldLink RX12 297 "OnePaneModel" "namePlace" "I") ∈ lw_tbl ∧ (Cond.fieldLink RX12 102 "OnePaneModel" "side" "[I") ∈ lw_tbl ∧ (Cond.fieldLink RX12 105 "OnePaneModel" "many" "[I") ∈ lw_tbl ∧ (Cond.fieldLink RX12 108 "OnePaneModel" "names" "[J") ∈ lw_tbl ∧ (Cond.fieldLink RX12 112 "OnePaneModel" "weights" "[I") ∈ lw_tbl ∧ (Cond.fieldLink RX12 115 "OnePaneModel" "people" "[I") ∈ lw_tbl ∧ (Cond.fieldLink RX12 118 "OnePaneModel" "settings" "[I") ∈ lw_tbl ∧ (Cond.fieldLink RX12 121 "OnePaneModel" "codeFrom" "[I") ∈ lw_tbl ∧ (Cond.fieldLink RX12 124 "OnePaneModel" "codeEnd" "[I") ∈ lw_tbl ∧ (Cond.fieldLink RX12 127 "OnePaneModel" "codes" "[I") ∈ lw_tbl ∧ (Cond.fieldLink RX12 348 "OnePaneModel" "coded" "I") ∈ lw_tbl ∧ (Cond.fieldLink RX12 351 "OnePaneModel" "statements" "I") ∈ lw_tbl ∧ (Cond.fieldLink RX12 375 "OnePaneModel" "isPane" "Z") ∈ lw_tbl ∧ (Cond.fieldLink RX12 304 "OnePaneModel" "textKind" "I") ∈ lw_tbl ∧ (Cond.fieldLink RX12 130 "OnePaneModel" "now" "[I") ∈ lw_tbl) ∧ ((Cond.fieldLink RX12 133 "OnePaneModel" "aside" "[I") ∈ lw_tbl ∧ (Cond.fieldLink RX12 388 "OnePaneModel" "stronger" "I") ∈ lw_tbl ∧ (Cond.fieldLink RX12 425 "OnePaneModel" "askWeight" "I") ∈ lw_tbl ∧ (Cond.fieldLink RX12 627 "OnePaneModel" "askHolds" "I") ∈ lw_tbl ∧ (Cond.fieldLink RX12 136 "OnePaneModel" "loads" "[I") ∈ lw_tbl ∧ (Cond.fieldLink RX12 139 "OnePaneModel" "hailed" "I") ∈ lw_tbl ∧ (Cond.fieldLink RX12 448 "OnePaneModel" "isThought" "Z") ∈ lw_tbl ∧ (Cond.fieldLink RX12 457 "OnePaneModel" "crackMany" "I") ∈ lw_tbl ∧ (Cond.fieldLink RX12 142 "OnePaneModel" "isCracking" "[Z") ∈ lw_tbl ∧ (Cond.fieldLink RX12 513 "OnePaneModel" "standCracks" "I") ∈ lw_tbl ∧ (Cond.fieldLink RX12 516 "OnePaneModel" "standSlack" "I") ∈ lw_tbl ∧ (Cond.fieldLink RX12 382 "OnePaneModel" "rowMany" "I") ∈ lw_tbl ∧ (Cond.fieldLink RX12 146 "OnePaneModel" "rows" "[I") ∈ lw_tbl ∧ (Cond.fieldLink RX12 149 "OnePaneModel" "sets" "[I") ∈ lw_tbl ∧ (Cond.fieldLink RX12 526 "OnePaneModel" "setMany" "I") ∈ lw_tbl ∧ (Cond.fieldLink RX12 152 "OnePaneModel" "counts" "[I") ∈ lw_tbl) ∧ ((Cond.fieldLink RX12 155 "OnePaneModel" "kept0" "[I") ∈ lw_tbl ∧ (Cond.fieldLink RX12 379 "OnePaneModel" "undoable" "I") ∈ lw_tbl ∧ (Cond.fieldLink RX12 538 "OnePaneModel" "newest" "I") ∈ lw_tbl ∧ (Cond.fieldLink RX12 158 "OnePaneModel" "seeded" "J") ∈ lw_tbl ∧ (Cond.fieldLink RX12 162 "OnePaneModel" "firstAsked" "[C") ∈ lw_tbl ∧ (Cond.fieldLink RX12 165 "OnePaneModel" "lastAsked" "[C") ∈ lw_tbl ∧ (Cond.fieldLink RX12 168 "OnePaneModel" "oftenAsked" "[C") ∈ lw_tbl ∧ (Cond.fieldLink RX12 171 "OnePaneModel" "totalAsked" "[C") ∈ lw_tbl ∧ (Cond.fieldLink RX12 174 "OnePaneModel" "mostAsked" "[C") ∈ lw_tbl ∧ (Cond.fieldLink RX12 177 "OnePaneModel" "leastAsked" "[C") ∈ lw_tbl ∧ (Cond.fieldLink RX12 180 "OnePaneModel" "notAsked" "[C") ∈ lw_tbl ∧ (Cond.fieldLink RX12 183 "OnePaneModel" "andAsked" "[C") ∈ lw_tbl ∧ (Cond.fieldLink RX12 186 "OnePaneModel" "orAsked" "[C") ∈ lw_tbl ∧ (Cond.fieldLink RX12 189 "OnePaneModel" "allAsked" "[C") ∈ lw_tbl ∧ (Cond.fieldLink RX12 192 "OnePaneModel" "minAsked" "[C") ∈ lw_tbl ∧ (Cond.fieldLink RX12 195 "OnePaneModel" "maxAsked" "[C") ∈ lw_tbl) ∧ ((Cond.fieldLink RX12 198 "OnePaneModel" "hourAsked" "[C") ∈ lw_tbl ∧ (Cond.fieldLink RX12 201 "OnePaneModel" "cracksAsked" "[C") ∈ lw_tbl ∧ (Cond.fieldLink RX12 204 "OnePaneModel" "weightAsked" "[C") ∈ lw_tbl ∧ (Cond.fieldLink RX12 207 "OnePaneModel" "liftsAsked" "[C") ∈ lw_tbl ∧ (Cond.fieldLink RX12 210 "OnePaneModel" "tiredAsked" "[C") ∈ lw_tbl ∧ (Cond.fieldLink RX12 213 "OnePaneModel" "nearAsked" "[C") ∈ lw_tbl ∧ (Cond.fieldLink RX12 216 "OnePaneModel" "numberAsked" "[C") ∈ lw_tbl ∧ (Cond.fieldLink RX12 219 "OnePaneModel" "columnAsked" "[C") ∈ lw_tbl ∧ (Cond.fieldLink RX12 222 "OnePaneModel" "rowAsked" "[C") ∈ lw_tbl ∧ (Cond.fieldLink RX12 225 "OnePaneModel" "holdsAsked" "[C") ∈ lw_tbl ∧ (Cond.fieldLink RX12 228 "OnePaneModel" "farAsked" "[C") ∈ lw_tbl ∧ (Cond.fieldLink RX12 231 "OnePaneModel" "qCodes" "[I") ∈ lw_tbl ∧ (Cond.fieldLink RX12 330 "OnePaneModel" "qCoded" "I") ∈ lw_tbl ∧ (Cond.fieldLink RX12 234 "OnePaneModel" "qWait" "[I") ∈ lw_tbl ∧ (Cond.fieldLink RX12 333 "OnePaneModel" "qWaits" "I") ∈ lw_tbl ∧ (Cond.fieldLink RX12 336 "OnePaneModel" "qOpened" "I") ∈ lw_tbl) ∧ ((Cond.fieldLink RX12 339 "OnePaneModel" "qBase" "I") ∈ lw_tbl ∧ (Cond.fieldLink RX12 237 "OnePaneModel" "qPile" "[J") ∈ lw_tbl ∧ (Cond.fieldLink RX12 398 "OnePaneModel" "qPiled" "I") ∈ lw_tbl ∧ (Cond.fieldLink RX12 634 "OnePaneModel" "qAnswer" "J") ∈ lw_tbl ∧ (Cond.fieldLink RX12 639 "OnePaneModel" "qIsNew" "Z") ∈ lw_tbl ∧ (Cond.fieldLink RX12 240 "OnePaneModel" "octet" "[I") ∈ lw_tbl ∧ (Cond.fieldLink RX12 653 "OnePaneModel" "octets" "I") ∈ lw_tbl ∧ (u_lay RX12 TX12 0) ∈ lw_tbl ∧ (u_lay RX12 TX12 1) ∈ lw_tbl ∧ (u_lay RX12 TX12 2) ∈ lw_tbl ∧ (u_lay RX12 TX12 3) ∈ lw_tbl ∧ (u_lay RX12 TX12 4) ∈ lw_tbl ∧ (u_lay RX12 TX12 5) ∈ lw_tbl ∧ (u_lay RX12 TX12 6) ∈ lw_tbl ∧ (u_lay RX12 TX12 7) ∈ lw_tbl ∧ (u_lay RX12 TX12 8) ∈ lw_tbl) ∧ ((u_lay RX12 TX12 9) ∈ lw_tbl ∧ (u_lay RX12 TX12 10) ∈ lw_tbl ∧ (u_lay RX12 TX12 11) ∈ lw_tbl ∧ (u_lay RX12 TX12 12) ∈ lw_tbl ∧ (u_lay RX12 TX12 13) ∈ lw_tbl ∧ (u_lay RX12 TX12 14) ∈ lw_tbl ∧ (u_lay RX12 TX12 15) ∈ lw_tbl ∧ (u_lay RX12 TX12 16) ∈ lw_tbl ∧ (u_lay RX12 TX12 17) ∈ lw_tbl ∧ (u_lay RX12 TX12 18) ∈ lw_tbl ∧ (u_lay RX12 TX12 19) ∈ lw_tbl ∧ (u_lay RX12 TX12 20) ∈ lw_tbl ∧ (u_lay RX12 TX12 21) ∈ lw_tbl ∧ (u_lay RX12 TX12 22) ∈ lw_tbl ∧ (u_lay RX12 TX12 23) ∈ lw_tbl ∧ (u_lay RX12 TX12 24) ∈ lw_tbl) ∧ ((u_lay RX12 TX12 25) ∈ lw_tbl ∧ (u_lay RX12 TX12 26) ∈ lw_tbl ∧ (u_lay RX12 TX12 27) ∈ lw_tbl ∧ (u_lay RX12 TX12 28) ∈ lw_tbl ∧ (u_lay RX12 TX12 29) ∈ lw_tbl ∧ (u_lay RX12 TX12 30) ∈ lw_tbl ∧ (u_lay RX12 TX12 31) ∈ lw_tbl ∧ (u_lay RX12 TX12 32) ∈ lw_tbl ∧ (u_lay RX12 TX12 33) ∈ lw_tbl ∧ (u_lay RX12 TX12 34) ∈ lw_tbl ∧ (u_lay RX12 TX12 35) ∈ lw_tbl ∧ (u_lay RX12 TX12 36) ∈ lw_tbl ∧ (u_lay RX12 TX12 37) ∈ lw_tbl ∧ (u_lay RX12 TX12 38) ∈ lw_tbl ∧ (u_lay RX12 TX12 39) ∈ lw_tbl ∧ (u_lay RX12 TX12 40) ∈ lw_tbl) ∧ ((u_lay RX12 TX12 41) ∈ lw_tbl ∧ (u_lay RX12 TX12 42) ∈ lw_tbl ∧ (u_lay RX12 TX12 43) ∈ lw_tbl) := by
  have h : ∀ w ∈ tables_1_6, w ∈ lw_tbl := fun w hm => List.mem_append_right _ (List.mem_append_right _ (List.mem_append_right _ (List.mem_append_right _ (List.mem_append_right _ (List.mem_append_right _ (List.mem_append_left _ hm))))))
  unfold tables_1_6 at h
  have e := List.forall_mem_cons.mp h
  replace h := e.2
  clear e
  have e := List.forall_mem_cons.mp h
  have h1 := e.1
  replace h := e.2
  clear e
  have e := List.forall_mem_cons.mp h
  have h2 := e.1
  replace h := e.2
  clear e
  have e := List.forall_mem_cons.mp h
  have h3 := e.1
  replace h := e.2
  clear e
  have e := List.forall_mem_cons.mp h
  have h4 := e.1
  replace h := e.2
  clear e
  have e := List.forall_mem_cons.mp h
  have h5 := e.1
  replace h := e.2
  clear e
  have e := List.forall_mem_cons.mp h
  have h6 := e.1
  replace h := e.2
  clear e
  have e := List.forall_mem_cons.mp h
  have h7 := e.1
  replace h := e.2
  clear e
  have e := List.forall_mem_cons.mp h
  have h8 := e.1
  replace h := e.2
  clear e
  have e := List.forall_mem_cons.mp h
  have h9 := e.1
  replace h := e.2
  clear e
  have e := List.forall_mem_cons.mp h
  have h10 := e.1
  replace h := e.2
  clear e
  have e := List.forall_mem_cons.mp h
  have h11 := e.1
  replace h := e.2
  clear e
  have e := List.forall_mem_cons.mp h
  have h12 := e.1
  replace h := e.2
  clear e
  have e := List.forall_mem_cons.mp h
  have h13 := e.1
  replace h := e.2
  clear e
  have e := List.forall_mem_cons.mp h
  have h14 := e.1
  replace h := e.2
  clear e
  have e := List.forall_mem_cons.mp h
  have h15 := e.1
  replace h := e.2
  clear e
  have e := List.forall_mem_cons.mp h
  have h16 := e.1
  replace h := e.2
  clear e
  have e := List.forall_mem_cons.mp h
  have h17 := e.1
  replace h := e.2
  clear e
  have e := List.forall_mem_cons.mp h
  have h18 := e.1
  replace h := e.2
  clear e
  have e := List.forall_mem_cons.mp h
  have h19 := e.1
  replace h := e.2
  clear e
  have e := List.forall_mem_cons.mp h
  have h20 := e.1
  replace h := e.2
  clear e
  have e := List.forall_mem_cons.mp h
  have h21 := e.1
  replace h := e.2
  clear e
  have e := List.forall_mem_cons.mp h
  have h22 := e.1
  replace h := e.2
  clear e
  have e := List.forall_mem_cons.mp h
  have h23 := e.1
  replace h := e.2
  clear e
  have e := List.forall_mem_cons.mp h
  have h24 := e.1
  replace h := e.2
  clear e
  have e := List.forall_mem_cons.mp h
  have h25 := e.1
  replace h := e.2
  clear e
  have e := List.forall_mem_cons.mp h
  have h26 := e.1
  replace h := e.2
  clear e
  have e := List.forall_mem_cons.mp h
  have h27 := e.1
  replace h := e.2
  clear e
  have e := List.forall_mem_cons.mp h
  have h28 := e.1
  replace h := e.2
  clear e
  have e := List.forall_mem_cons.mp h
  have h29 := e.1
  replace h := e.2
  clear e
  have e := List.forall_mem_cons.mp h
  replace h := e.2
  clear e
  have e := List.forall_mem_cons.mp h
  have h31 := e.1
  replace h := e.2
  clear e
  have e := List.forall_mem_cons.mp h
  have h32 := e.1
  replace h := e.2
  clear e
  have e := List.forall_mem_cons.mp h
  have h33 := e.1
  replace h := e.2
  clear e
  have e := List.forall_mem_cons.mp h
  have h34 := e.1
  replace h := e.2
  clear e
  have e := List.forall_mem_cons.mp h
  have h35 := e.1
  replace h := e.2
  clear e
  have e := List.forall_mem_cons.mp h
  have h36 := e.1
  replace h := e.2
  clear e
  have e := List.forall_mem_cons.mp h
  have h37 := e.1
  replace h := e.2
  clear e
  have e := List.forall_mem_cons.mp h
  have h38 := e.1
  replace h := e.2
  clear e
  have e := List.forall_mem_cons.mp h
  have h39 := e.1
  replace h := e.2
  clear e
  have e := List.forall_mem_cons.mp h
  have h40 := e.1
  replace h := e.2
  clear e
  have e := List.forall_mem_cons.mp h
  have h41 := e.1
  replace h := e.2
  clear e
  have e := List.forall_mem_cons.mp h
  have h42 := e.1
  replace h := e.2
  clear e
  have e := List.forall_mem_cons.mp h
  have h43 := e.1
  replace h := e.2
  clear e
  have e := List.forall_mem_cons.mp h
  have h44 := e.1
  replace h := e.2
  clear e
  have e := List.forall_mem_cons.mp h
  have h45 := e.1
  replace h := e.2
  clear e
  have e := List.forall_mem_cons.mp h
  have h46 := e.1
  replace h := e.2
  clear e
  have e := List.forall_mem_cons.mp h
  have h47 := e.1
  replace h := e.2
  clear e
  have e := List.forall_mem_cons.mp h
  have h48 := e.1
  replace h := e.2
  clear e
  have e := List.forall_mem_cons.mp h
  have h49 := e.1
  replace h := e.2
  clear e
  have e := List.forall_mem_cons.mp h
  have h50 := e.1
  replace h := e.2
  clear e
  have e := List.forall_mem_cons.mp h
  have h51 := e.1
  replace h := e.2
  clear e
  have e := List.forall_mem_cons.mp h
  have h52 := e.1
  replace h := e.2
  clear e
  have e := List.forall_mem_cons.mp h
  have h53 := e.1
  replace h := e.2
  clear e
  have e := List.forall_mem_cons.mp h
  have h54 := e.1
  replace h := e.2
  clear e
  have e := List.forall_mem_cons.mp h
  have h55 := e.1
  replace h := e.2
  clear e
  have e := List.forall_mem_cons.mp h
  have h56 := e.1
  replace h := e.2
  clear e
  have e := List.forall_mem_cons.mp h
  have h57 := e.1
  replace h := e.2
  clear e
  have e := List.forall_mem_cons.mp h
  have h58 := e.1
  replace h := e.2
  clear e
  have e := List.forall_mem_cons.mp h
  have h59 := e.1
  replace h := e.2
  clear e
  have e := List.forall_mem_cons.mp h
  have h60 := e.1
  replace h := e.2
  clear e
  have e := List.forall_mem_cons.mp h
  have h61 := e.1
  replace h := e.2
  clear e
  have e := List.forall_mem_cons.mp h
  have h62 := e.1
  replace h := e.2
  clear e
  have e := List.forall_mem_cons.mp h
  have h63 := e.1
  replace h := e.2
  clear e
  have e := List.forall_mem_cons.mp h
  have h64 := e.1
  replace h := e.2
  clear e
  have e := List.forall_mem_cons.mp h
  have h65 := e.1
  replace h := e.2
  clear e
  have e := List.forall_mem_cons.mp h
  have h66 := e.1
  replace h := e.2
  clear e
  have e := List.forall_mem_cons.mp h
  have h67 := e.1
  replace h := e.2
  clear e
  have e := List.forall_mem_cons.mp h
  have h68 := e.1
  replace h := e.2
  clear e
  have e := List.forall_mem_cons.mp h
  have h69 := e.1
  replace h := e.2
  clear e
  have e := List.forall_mem_cons.mp h
  have h70 := e.1
  replace h := e.2
  clear e
  have e := List.forall_mem_cons.mp h
  have h71 := e.1
  replace h := e.2
  clear e
  have e := List.forall_mem_cons.mp h
  have h72 := e.1
  replace h := e.2
  clear e
  have e := List.forall_mem_cons.mp h
  have h73 := e.1
  replace h := e.2
  clear e
  have e := List.forall_mem_cons.mp h
  have h74 := e.1
  replace h := e.2
  clear e
  have e := List.forall_mem_cons.mp h
  have h75 := e.1
  replace h := e.2
  clear e
  have e := List.forall_mem_cons.mp h
  have h76 := e.1
  replace h := e.2
  clear e
  have e := List.forall_mem_cons.mp h
  have h77 := e.1
  replace h := e.2
  clear e
  have e := List.forall_mem_cons.mp h
  have h78 := e.1
  replace h := e.2
  clear e
  have e := List.forall_mem_cons.mp h
  have h79 := e.1
  replace h := e.2
  clear e
  have e := List.forall_mem_cons.mp h
  have h80 := e.1
  replace h := e.2
  clear e
  have e := List.forall_mem_cons.mp h
  have h81 := e.1
  replace h := e.2
  clear e
  have e := List.forall_mem_cons.mp h
  have h82 := e.1
  replace h := e.2
  clear e
  have e := List.forall_mem_cons.mp h
  have h83 := e.1
  replace h := e.2
  clear e
  have e := List.forall_mem_cons.mp h
  have h84 := e.1
  replace h := e.2
  clear e
  have e := List.forall_mem_cons.mp h
  have h85 := e.1
  replace h := e.2
  clear e
  have e := List.forall_mem_cons.mp h
  have h86 := e.1
  replace h := e.2
  clear e
  have e := List.forall_mem_cons.mp h
  have h87 := e.1
  replace h := e.2
  clear e
  have e := List.forall_mem_cons.mp h
  have h88 := e.1
  replace h := e.2
  clear e
  have e := List.forall_mem_cons.mp h
  have h89 := e.1
  replace h := e.2
  clear e
  have e := List.forall_mem_cons.mp h
  have h90 := e.1
  replace h := e.2
  clear e
  have e := List.forall_mem_cons.mp h
  have h91 := e.1
  replace h := e.2
  clear e
  have e := List.forall_mem_cons.mp h
  have h92 := e.1
  replace h := e.2
  clear e
  have e := List.forall_mem_cons.mp h
  have h93 := e.1
  replace h := e.2
  clear e
  have e := List.forall_mem_cons.mp h
  have h94 := e.1
  replace h := e.2
  clear e
  have e := List.forall_mem_cons.mp h
  have h95 := e.1
  replace h := e.2
  clear e
  have e := List.forall_mem_cons.mp h
  have h96 := e.1
  replace h := e.2
  clear e
  have e := List.forall_mem_cons.mp h
  have h97 := e.1
  replace h := e.2
  clear e
  have e := List.forall_mem_cons.mp h
  have h98 := e.1
  replace h := e.2
  clear e
  have e := List.forall_mem_cons.mp h
  have h99 := e.1
  replace h := e.2
  clear e
  have e := List.forall_mem_cons.mp h
  have h100 := e.1
  replace h := e.2
  clear e
  have e := List.forall_mem_cons.mp h
  have h101 := e.1
  replace h := e.2
  clear e
  have e := List.forall_mem_cons.mp h
  have h102 := e.1
  replace h := e.2
  clear e
  have e := List.forall_mem_cons.mp h
  have h103 := e.1
  replace h := e.2
  clear e
  have e := List.forall_mem_cons.mp h
  have h104 := e.1
  replace h := e.2
  clear e
  have e := List.forall_mem_cons.mp h
  have h105 := e.1
  replace h := e.2
  clear e
  have e := List.forall_mem_cons.mp h
  have h106 := e.1
  replace h := e.2
  clear e
  have e := List.forall_mem_cons.mp h
  have h107 := e.1
  replace h := e.2
  clear e
  have e := List.forall_mem_cons.mp h
  have h108 := e.1
  replace h := e.2
  clear e
  have e := List.forall_mem_cons.mp h
  have h109 := e.1
  replace h := e.2
  clear e
  have e := List.forall_mem_cons.mp h
  have h110 := e.1
  replace h := e.2
  clear e
  have e := List.forall_mem_cons.mp h
  have h111 := e.1
  replace h := e.2
  clear e
  have e := List.forall_mem_cons.mp h
  have h112 := e.1
  replace h := e.2
  clear e
  have e := List.forall_mem_cons.mp h
  have h113 := e.1
  replace h := e.2
  clear e
  have e := List.forall_mem_cons.mp h
  have h114 := e.1
  replace h := e.2
  clear e
  have e := List.forall_mem_cons.mp h
  have h115 := e.1
  replace h := e.2
  clear e
  have e := List.forall_mem_cons.mp h
  have h116 := e.1
  replace h := e.2
  clear e
  have e := List.forall_mem_cons.mp h
  have h117 := e.1
  replace h := e.2
  clear e
  have e := List.forall_mem_cons.mp h
  have h118 := e.1
  replace h := e.2
  clear e
  have e := List.forall_mem_cons.mp h
  have h119 := e.1
  replace h := e.2
  clear e
  have e := List.forall_mem_cons.mp h
  have h120 := e.1
  replace h := e.2
  clear e
  have e := List.forall_mem_cons.mp h
  have h121 := e.1
  replace h := e.2
  clear e
  have e := List.forall_mem_cons.mp h
  have h122 := e.1
  replace h := e.2
  clear e
  have e := List.forall_mem_cons.mp h
  have h123 := e.1
  replace h := e.2
  clear e
  have e := List.forall_mem_cons.mp h
  have h124 := e.1
  replace h := e.2
  clear e
  have e := List.forall_mem_cons.mp h
  have h125 := e.1
  replace h := e.2
  clear e
  have e := List.forall_mem_cons.mp h
  have h126 := e.1
  replace h := e.2
  clear e
  have e := List.forall_mem_cons.mp h
  have h127 := e.1
  replace h := e.2
  clear e
  have e := List.forall_mem_cons.mp h
  have h128 := e.1
  replace h := e.2
  clear e
  have e := List.forall_mem_cons.mp h
  have h129 := e.1
  replace h := e.2
  clear e
  have e := List.forall_mem_cons.mp h
  have h130 := e.1
  replace h := e.2
  clear e
  have e := List.forall_mem_cons.mp h
  have h131 := e.1
  replace h := e.2
  clear e
  have e := List.forall_mem_cons.mp h
  have h132 := e.1
  replace h := e.2
  clear e
  have e := List.forall_mem_cons.mp h
  have h133 := e.1
  replace h := e.2
  clear e
  have e := List.forall_mem_cons.mp h
  have h134 := e.1
  replace h := e.2
  clear e
  have e := List.forall_mem_cons.mp h
  have h135 := e.1
  replace h := e.2
  clear e
  have e := List.forall_mem_cons.mp h
  have h136 := e.1
  replace h := e.2
  clear e
  have e := List.forall_mem_cons.mp h
  have h137 := e.1
  replace h := e.2
  clear e
  have e := List.forall_mem_cons.mp h
  have h138 := e.1
  replace h := e.2
  clear e
  have e := List.forall_mem_cons.mp h
  have h139 := e.1
  replace h := e.2
  clear e
  have e := List.forall_mem_cons.mp h
  have h140 := e.1
  replace h := e.2
  clear e
  have e := List.forall_mem_cons.mp h
  have h141 := e.1
  replace h := e.2
  clear e
  have e := List.forall_mem_cons.mp h
  have h142 := e.1
  replace h := e.2
  clear e
  have e := List.forall_mem_cons.mp h
  have h143 := e.1
  replace h := e.2
  clear e
  have e := List.forall_mem_cons.mp h
  have h144 := e.1
  replace h := e.2
  clear e
  have e := List.forall_mem_cons.mp h
  have h145 := e.1
  replace h := e.2
  clear e
  have e := List.forall_mem_cons.mp h
  have h146 := e.1
  replace h := e.2
  clear e
  have e := List.forall_mem_cons.mp h
  have h147 := e.1
  replace h := e.2
  clear e
  have e := List.forall_mem_cons.mp h
  have h148 := e.1
  replace h := e.2
  clear e
  have e := List.forall_mem_cons.mp h
  have h149 := e.1
  replace h := e.2
  clear e
  have e := List.forall_mem_cons.mp h
  have h150 := e.1
  replace h := e.2
  clear e
  have e := List.forall_mem_cons.mp h
  have h151 := e.1
  replace h := e.2
  clear e
  have e := List.forall_mem_cons.mp h
  have h152 := e.1
  replace h := e.2
  clear e
  have e := List.forall_mem_cons.mp h
  have h153 := e.1
  replace h := e.2
  clear e
  have e := List.forall_mem_cons.mp h
  replace h := e.2
  clear e
  have e := List.forall_mem_cons.mp h
  have h155 := e.1
  replace h := e.2
  clear e
  have e := List.forall_mem_cons.mp h
  replace h := e.2
  clear e
  have e := List.forall_mem_cons.mp h
  have h157 := e.1
  replace h := e.2
  clear e
  have e := List.forall_mem_cons.mp h
  replace h := e.2
  clear e
  have e := List.forall_mem_cons.mp h
  have h159 := e.1
  replace h := e.2
  clear e
  have e := List.forall_mem_cons.mp h
  replace h := e.2
  clear e
  have e := List.forall_mem_cons.mp h
  have h161 := e.1
  replace h := e.2
  clear e
  have e := List.forall_mem_cons.mp h
  replace h := e.2
  clear e
  have e := List.forall_mem_cons.mp h
  have h163 := e.1
  replace h := e.2
  clear e
  have e := List.forall_mem_cons.mp h
  replace h := e.2
  clear e
  have e := List.forall_mem_cons.mp h
  have h165 := e.1
  replace h := e.2
  clear e
  have e := List.forall_mem_cons.mp h
  replace h := e.2
  clear e
  have e := List.forall_mem_cons.mp h
  have h167 := e.1
  replace h := e.2
  clear e
  have e := List.forall_mem_cons.mp h
  replace h := e.2
  clear e
  have e := List.forall_mem_cons.mp h
  have h169 := e.1
  replace h := e.2
  clear e
  have e := List.forall_mem_cons.mp h
  replace h := e.2
  clear e
  have e := List.forall_mem_cons.mp h
  have h171 := e.1
  replace h := e.2
  clear e
  have e := List.forall_mem_cons.mp h
  replace h := e.2
  clear e
  have e := List.forall_mem_cons.mp h
  have h173 := e.1
  replace h := e.2
  clear e
  have e := List.forall_mem_cons.mp h
  replace h := e.2
  clear e
  have e := List.forall_mem_cons.mp h
  have h175 := e.1
  replace h := e.2
  clear e
  have e := List.forall_mem_cons.mp h
  replace h := e.2
  clear e
  have e := List.forall_mem_cons.mp h
  have h177 := e.1
  replace h := e.2
  clear e
  have e := List.forall_mem_cons.mp h
  replace h := e.2
  clear e
  have e := List.forall_mem_cons.mp h
  have h179 := e.1
  replace h := e.2
  clear e
  have e := List.forall_mem_cons.mp h
  replace h := e.2
  clear e
  have e := List.forall_mem_cons.mp h
  have h181 := e.1
  replace h := e.2
  clear e
  have e := List.forall_mem_cons.mp h
  replace h := e.2
  clear e
  have e := List.forall_mem_cons.mp h
  have h183 := e.1
  replace h := e.2
  clear e
  have e := List.forall_mem_cons.mp h
  replace h := e.2
  clear e
  have e := List.forall_mem_cons.mp h
  have h185 := e.1
  replace h := e.2
  clear e
  have e := List.forall_mem_cons.mp h
  replace h := e.2
  clear e
  have e := List.forall_mem_cons.mp h
  have h187 := e.1
  replace h := e.2
  clear e
  have e := List.forall_mem_cons.mp h
  replace h := e.2
  clear e
  have e := List.forall_mem_cons.mp h
  have h189 := e.1
  replace h := e.2
  clear e
  have e := List.forall_mem_cons.mp h
  replace h := e.2
  clear e
  have e := List.forall_mem_cons.mp h
  have h191 := e.1
  replace h := e.2
  clear e
  have e := List.forall_mem_cons.mp h
  replace h := e.2
  clear e
  have e := List.forall_mem_cons.mp h
  have h193 := e.1
  replace h := e.2
  clear e
  have e := List.forall_mem_cons.mp h
  replace h := e.2
  clear e
  have e := List.forall_mem_cons.mp h
  have h195 := e.1
  replace h := e.2
  clear e
  have e := List.forall_mem_cons.mp h
  replace h := e.2
  clear e
  have e := List.forall_mem_cons.mp h
  have h197 := e.1
  replace h := e.2
  clear e
  have e := List.forall_mem_cons.mp h
  replace h := e.2
  clear e
  have e := List.forall_mem_cons.mp h
  have h199 := e.1
  replace h := e.2
  clear e
  have e := List.forall_mem_cons.mp h
  replace h := e.2
  clear e
  have e := List.forall_mem_cons.mp h
  have h201 := e.1
  replace h := e.2
  clear e
  have e := List.forall_mem_cons.mp h
  replace h := e.2
  clear e
  have e := List.forall_mem_cons.mp h
  have h203 := e.1
  replace h := e.2
  clear e
  have e := List.forall_mem_cons.mp h
  replace h := e.2
  clear e
  have e := List.forall_mem_cons.mp h
  have h205 := e.1
  replace h := e.2
  clear e
  have e := List.forall_mem_cons.mp h
  replace h := e.2
  clear e
  have e := List.forall_mem_cons.mp h
  have h207 := e.1
  replace h := e.2
  clear e
  have e := List.forall_mem_cons.mp h
  replace h := e.2
  clear e
  have e := List.forall_mem_cons.mp h
  have h209 := e.1
  replace h := e.2
  clear e
  have e := List.forall_mem_cons.mp h
  replace h := e.2
  clear e
  have e := List.forall_mem_cons.mp h
  have h211 := e.1
  replace h := e.2
  clear e
  have e := List.forall_mem_cons.mp h
  replace h := e.2
  clear e
  have e := List.forall_mem_cons.mp h
  have h213 := e.1
  replace h := e.2
  clear e
  have e := List.forall_mem_cons.mp h
  replace h := e.2
  clear e
  have e := List.forall_mem_cons.mp h
  have h215 := e.1
  replace h := e.2
  clear e
  have e := List.forall_mem_cons.mp h
  replace h := e.2
  clear e
  have e := List.forall_mem_cons.mp h
  have h217 := e.1
  replace h := e.2
  clear e
  have e := List.forall_mem_cons.mp h
  replace h := e.2
  clear e
  have e := List.forall_mem_cons.mp h
  have h219 := e.1
  replace h := e.2
  clear e
  have e := List.forall_mem_cons.mp h
  replace h := e.2
  clear e
  have e := List.forall_mem_cons.mp h
  have h221 := e.1
  replace h := e.2
  clear e
  have e := List.forall_mem_cons.mp h
  replace h := e.2
  clear e
  have e := List.forall_mem_cons.mp h
  have h223 := e.1
  replace h := e.2
  clear e
  have e := List.forall_mem_cons.mp h
  replace h := e.2
  clear e
  have e := List.forall_mem_cons.mp h
  have h225 := e.1
  replace h := e.2
  clear e
  have e := List.forall_mem_cons.mp h
  replace h := e.2
  clear e
  have e := List.forall_mem_cons.mp h
  have h227 := e.1
  replace h := e.2
  clear e
  have e := List.forall_mem_cons.mp h
  replace h := e.2
  clear e
  have e := List.forall_mem_cons.mp h
  have h229 := e.1
  replace h := e.2
  clear e
  have e := List.forall_mem_cons.mp h
  replace h := e.2
  clear e
  have e := List.forall_mem_cons.mp h
  have h231 := e.1
  replace h := e.2
  clear e
  have e := List.forall_mem_cons.mp h
  replace h := e.2
  clear e
  have e := List.forall_mem_cons.mp h
  have h233 := e.1
  replace h := e.2
  clear e
  have e := List.forall_mem_cons.mp h
  replace h := e.2
  clear e
  have e := List.forall_mem_cons.mp h
  have h235 := e.1
  replace h := e.2
  clear e
  have e := List.forall_mem_cons.mp h
  replace h := e.2
  clear e
  have e := List.forall_mem_cons.mp h
  have h237 := e.1
  replace h := e.2
  clear e
  have e := List.forall_mem_cons.mp h
  replace h := e.2
  clear e
  have e := List.forall_mem_cons.mp h
  have h239 := e.1
  replace h := e.2
  clear e
  exact ⟨⟨h1, h2, h3, h4, h5, h6, h7, h8, h9, h10, h11, h12, h13, h14, h15, h16⟩, ⟨h17, h18, h19, h20, h21, h22, h23, h24, h25, h26, h27, h28, h29, h31, h32, h33⟩, ⟨h34, h35, h36, h37, h38, h39, h40, h41, h42, h43, h44, h45, h46, h47, h48, h49⟩, ⟨h50, h51, h52, h53, h54, h55, h56, h57, h58, h59, h60, h61, h62, h63, h64, h65⟩, ⟨h66, h67, h68, h69, h70, h71, h72, h73, h74, h75, h76, h77, h78, h79, h80, h81⟩, ⟨h82, h83, h84, h85, h86, h87, h88, h89, h90, h91, h92, h93, h94, h95, h96, h97⟩, ⟨h98, h99, h100, h101, h102, h103, h104, h105, h106, h107, h108, h109, h110, h111, h112, h113⟩, ⟨h114, h115, h116, h117, h118, h119, h120, h121, h122, h123, h124, h125, h126, h127, h128, h129⟩, ⟨h130, h131, h132, h133, h134, h135, h136, h137, h138, h139, h140, h141, h142, h143, h144, h145⟩, ⟨h146, h147, h148, h149, h150, h151, h152, h153, h155, h157, h159, h161, h163, h165, h167, h169⟩, ⟨h171, h173, h175, h177, h179, h181, h183, h185, h187, h189, h191, h193, h195, h197, h199, h201⟩, ⟨h203, h205, h207, h209, h211, h213, h215, h217, h219, h221, h223, h225, h227, h229, h231, h233⟩, ⟨h235, h237, h239⟩⟩

set_option maxRecDepth 100000 in
set_option maxHeartbeats 40000000 in
theorem zq_t7 : ((u_lay RX12 TX12 44) ∈ lw_tbl ∧ (u_lay RX12 TX12 45) ∈ lw_tbl ∧ (u_lay RX12 TX12 46) ∈ lw_tbl ∧ (u_lay RX12 TX12 47) ∈ lw_tbl ∧ (u_lay RX12 TX12 48) ∈ lw_tbl ∧ (u_lay RX12 TX12 49) ∈ lw_tbl ∧ (u_lay RX12 TX12 50) ∈ lw_tbl ∧ (u_lay RX12 TX12 51) ∈ lw_tbl ∧ (u_lay RX12 TX12 52) ∈ lw_tbl ∧ (u_lay RX12 TX12 53) ∈ lw_tbl ∧ (u_lay RX12 TX12 54) ∈ lw_tbl ∧ (u_lay RX12 TX12 55) ∈ lw_tbl ∧ (u_lay RX12 TX12 56) ∈ lw_tbl ∧ (u_lay RX12 TX12 57) ∈ lw_tbl ∧ (u_lay RX12 TX12 58) ∈ lw_tbl ∧ (u_lay RX12 TX12 59) ∈ lw_tbl) ∧ ((u_lay RX12 TX12 60) ∈ lw_tbl ∧ (u_lay RX12 TX12 61) ∈ lw_tbl ∧ (u_lay RX12 TX12 62) ∈ lw_tbl ∧ (u_lay RX12 TX12 63) ∈ lw_tbl ∧ (u_lay RX12 TX12 64) ∈ lw_tbl ∧ (u_lay RX12 TX12 65) ∈ lw_tbl ∧ (u_lay RX12 TX12 66) ∈ lw_tbl ∧ (u_lay RX12 TX12 67) ∈ lw_tbl ∧ (u_lay RX12 TX12 68) ∈ lw_tbl ∧ (u_lay RX12 TX12 69) ∈ lw_tbl ∧ (u_lay RX12 TX12 70) ∈ lw_tbl ∧ (u_lay RX12 TX12 71) ∈ lw_tbl ∧ (u_lay RX12 TX12 72) ∈ lw_tbl ∧ (u_lay RX12 TX12 73) ∈ lw_tbl ∧ (u_lay RX12 TX12 74) ∈ lw_tbl ∧ (u_lay RX12 TX12 75) ∈ lw_tbl) ∧ ((u_lay RX12 TX12 76) ∈ lw_tbl ∧ (u_lay RX12 TX12 77) ∈ lw_tbl ∧ (u_lay RX12 TX12 78) ∈ lw_tbl ∧ (u_lay RX12 TX12 79) ∈ lw_tbl ∧ (u_lay RX12 TX12 80) ∈ lw_tbl ∧ (u_lay RX12 TX12 81) ∈ lw_tbl ∧ (u_lay RX12 TX12 82) ∈ lw_tbl ∧ (u_lay RX12 TX12 83) ∈ lw_tbl ∧ (u_lay RX12 TX12 84) ∈ lw_tbl ∧ (u_lay RX12 TX12 85) ∈ lw_tbl ∧ (u_lay RX12 TX12 86) ∈ lw_tbl ∧ (u_lay RX12 TX12 87) ∈ lw_tbl ∧ (u_lay RX12 TX12 88) ∈ lw_tbl ∧ (u_lay RX12 TX12 89) ∈ lw_tbl ∧ (u_lay RX12 TX12 90) ∈ lw_tbl ∧ (u_lay RX12 TX12 91) ∈ lw_tbl) ∧ ((u_lay RX12 TX12 92) ∈ lw_tbl ∧ (u_lay RX12 TX12 93) ∈ lw_tbl ∧ (u_lay RX12 TX12 94) ∈ lw_tbl ∧ (u_lay RX12 TX12 95) ∈ lw_tbl ∧ (u_lay RX12 TX12 96) ∈ lw_tbl ∧ (u_lay RX12 TX12 97) ∈ lw_tbl ∧ (u_lay RX12 TX12 98) ∈ lw_tbl ∧ (u_lay RX12 TX12 99) ∈ lw_tbl ∧ (u_lay RX12 TX12 100) ∈ lw_tbl ∧ (u_lay RX12 TX12 101) ∈ lw_tbl ∧ (u_lay RX12 TX12 102) ∈ lw_tbl ∧ (u_lay RX12 TX12 103) ∈ lw_tbl ∧ (u_lay RX12 TX12 104) ∈ lw_tbl ∧ (u_lay RX12 TX12 105) ∈ lw_tbl ∧ (u_lay RX12 TX12 106) ∈ lw_tbl ∧ (u_lay RX12 TX12 107) ∈ lw_tbl) ∧ ((Cond.arrayClass .char) ∈ lw_tbl ∧ (Cond.arrayClass .long) ∈ lw_tbl ∧ (Cond.methodLink RL 17 yX12_feed) ∈ lw_tbl ∧ (Cond.instanceMethod yX12_feed) ∈ lw_tbl ∧ (Cond.selects RX12 yX12_feed yX12_feed) ∈ lw_tbl ∧ (Cond.code yX12_feed cX12_feed 8 (some .int)) ∈ lw_tbl ∧ (Cond.methodLink RL 22 yX12_end) ∈ lw_tbl ∧ (Cond.instanceMethod yX12_end) ∈ lw_tbl ∧ (Cond.selects RX12 yX12_end yX12_end) ∈ lw_tbl ∧ (Cond.code yX12_end cX12_end 2 (some .boolean)) ∈ lw_tbl ∧ (Cond.methodLink RL 27 yX12_pane) ∈ lw_tbl ∧ (Cond.instanceMethod yX12_pane) ∈ lw_tbl ∧ (Cond.selects RX12 yX12_pane yX12_pane) ∈ lw_tbl ∧ (Cond.code yX12_pane cX12_pane 2 (some .int)) ∈ lw_tbl ∧ (Cond.methodLink RX12 363 yX12_paneTold) ∈ lw_tbl ∧ (Cond.instanceMethod yX12_paneTold) ∈ lw_tbl) ∧ ((Cond.code yX12_paneTold cX12_paneTold 1 none) ∈ lw_tbl ∧ (Cond.methodLink RX12 311 yX12_asks) ∈ lw_tbl ∧ (Cond.instanceMethod yX12_asks) ∈ lw_tbl ∧ (Cond.code yX12_asks cX12_asks 2 none) ∈ lw_tbl ∧ (Cond.methodLink RX12 273 yX12_takes) ∈ lw_tbl ∧ (Cond.instanceMethod yX12_takes) ∈ lw_tbl ∧ (Cond.code yX12_takes cX12_takes 2 (some .boolean)) ∈ lw_tbl ∧ (Cond.methodLink RX12 269 yX12_isHere) ∈ lw_tbl ∧ (Cond.instanceMethod yX12_isHere) ∈ lw_tbl ∧ (Cond.code yX12_isHere cX12_isHere 4 (some .boolean)) ∈ lw_tbl ∧ (Cond.methodLink RX12 258 yX12_look) ∈ lw_tbl ∧ (Cond.instanceMethod yX12_look) ∈ lw_tbl ∧ (Cond.code yX12_look cX12_look 1 (some .int)) ∈ lw_tbl ∧ (Cond.methodLink RX12 262 yX12_isLetter) ∈ lw_tbl ∧ (Cond.static yX12_isLetter) ∈ lw_tbl ∧ (Cond.code yX12_isLetter cX12_isLetter 1 (some .boolean)) ∈ lw_tbl) ∧ ((Cond.methodLink RX12 276 yX12_fail) ∈ lw_tbl ∧ (Cond.instanceMethod yX12_fail) ∈ lw_tbl ∧ (Cond.code yX12_fail cX12_fail 3 none) ∈ lw_tbl ∧ (Cond.methodLink RX12 315 yX12_number) ∈ lw_tbl ∧ (Cond.instanceMethod yX12_number) ∈ lw_tbl ∧ (Cond.code yX12_number cX12_number 5 (some .int)) ∈ lw_tbl ∧ (Cond.methodLink RX12 283 yX12_isDigit) ∈ lw_tbl ∧ (Cond.static yX12_isDigit) ∈ lw_tbl ∧ (Cond.code yX12_isDigit cX12_isDigit 1 (some .boolean)) ∈ lw_tbl ∧ (Cond.methodLink RX12 289 yX12_isIn) ∈ lw_tbl ∧ (Cond.static yX12_isIn) ∈ lw_tbl ∧ (Cond.code yX12_isIn cX12_isIn 6 (some .boolean)) ∈ lw_tbl ∧ (Cond.methodLink RX12 319 yX12_asksSign) ∈ lw_tbl ∧ (Cond.instanceMethod yX12_asksSign) ∈ lw_tbl ∧ (Cond.code yX12_asksSign cX12_asksSign 2 none) ∈ lw_tbl ∧ (Cond.methodLink RX12 280 yX12_takesSign) ∈ lw_tbl) ∧ ((Cond.instanceMethod yX12_takesSign) ∈ lw_tbl ∧ (Cond.code yX12_takesSign cX12_takesSign 2 (some .boolean)) ∈ lw_tbl ∧ (Cond.methodLink RX12 366 yX12_statementTold) ∈ lw_tbl ∧ (Cond.instanceMethod yX12_statementTold) ∈ lw_tbl ∧ (Cond.code yX12_statementTold cX12_statementTold 2 none) ∈ lw_tbl ∧ (Cond.methodLink RX12 354 yX12_heavyTold) ∈ lw_tbl ∧ (Cond.instanceMethod yX12_heavyTold) ∈ lw_tbl ∧ (Cond.code yX12_heavyTold cX12_heavyTold 3 none) ∈ lw_tbl ∧ (Cond.methodLink RX12 323 yX12_cellTold) ∈ lw_tbl ∧ (Cond.instanceMethod yX12_cellTold) ∈ lw_tbl ∧ (Cond.code yX12_cellTold cX12_cellTold 3 (some .int)) ∈ lw_tbl ∧ (Cond.methodLink RX12 357 yX12_poleTold) ∈ lw_tbl ∧ (Cond.instanceMethod yX12_poleTold) ∈ lw_tbl ∧ (Cond.code yX12_poleTold cX12_poleTold 6 none) ∈ lw_tbl ∧ (Cond.methodLink RX12 326 yX12_name) ∈ lw_tbl ∧ (Cond.instanceMethod yX12_name) ∈ lw_tbl) ∧ ((Cond.code yX12_name cX12_name 3 (some .long)) ∈ lw_tbl ∧ (Cond.methodLink RX12 293 yX12_isOwnHere) ∈ lw_tbl ∧ (Cond.instanceMethod yX12_isOwnHere) ∈ lw_tbl ∧ (Cond.code yX12_isOwnHere cX12_isOwnHere 2 (some .boolean)) ∈ lw_tbl ∧ (Cond.constantLong RX12 300 (27)) ∈ lw_tbl ∧ (Cond.constantLong RX12 302 (97)) ∈ lw_tbl ∧ (Cond.methodLink RX12 360 yX12_codesTold) ∈ lw_tbl ∧ (Cond.instanceMethod yX12_codesTold) ∈ lw_tbl ∧ (Cond.code yX12_codesTold cX12_codesTold 4 none) ∈ lw_tbl ∧ (Cond.methodLink RX12 342 yX12_qTest) ∈ lw_tbl ∧ (Cond.instanceMethod yX12_qTest) ∈ lw_tbl ∧ (Cond.code yX12_qTest cX12_qTest 3 none) ∈ lw_tbl ∧ (Cond.methodLink RX12 576 yX12_qOpens) ∈ lw_tbl ∧ (Cond.instanceMethod yX12_qOpens) ∈ lw_tbl ∧ (Cond.code yX12_qOpens cX12_qOpens 3 none) ∈ lw_tbl ∧ (Cond.methodLink RX12 600 yX12_qFact) ∈ lw_tbl) ∧ ((Cond.instanceMethod yX12_qFact) ∈ lw_tbl ∧ (Cond.code yX12_qFact cX12_qFact 2 none) ∈ lw_tbl ∧ (Cond.methodLink RX12 558 yX12_qCode) ∈ lw_tbl ∧ (Cond.instanceMethod yX12_qCode) ∈ lw_tbl ∧ (Cond.code yX12_qCode cX12_qCode 2 none) ∈ lw_tbl ∧ (Cond.methodLink RX12 345 yX12_qSums) ∈ lw_tbl ∧ (Cond.instanceMethod yX12_qSums) ∈ lw_tbl ∧ (Cond.code yX12_qSums cX12_qSums 3 none) ∈ lw_tbl ∧ (Cond.methodLink RX12 594 yX12_qPartTold) ∈ lw_tbl) := by
  have h : ∀ w ∈ tables_1_7, w ∈ lw_tbl := fun w hm => List.mem_append_right _ (List.mem_append_right _ (List.mem_append_right _ (List.mem_append_right _ (List.mem_append_right _ (List.mem_append_right _ (List.mem_append_right _ (List.mem_append_left _ hm)))))))
  unfold tables_1_7 at h
  have e := List.forall_mem_cons.mp h
  replace h := e.2
  clear e
  have e := List.forall_mem_cons.mp h
  have h1 := e.1
  replace h := e.2
  clear e
  have e := List.forall_mem_cons.mp h
  replace h := e.2
  clear e
  have e := List.forall_mem_cons.mp h
  have h3 := e.1
  replace h := e.2
  clear e
  have e := List.forall_mem_cons.mp h
  replace h := e.2
  clear e
  have e := List.forall_mem_cons.mp h
  have h5 := e.1
  replace h := e.2
  clear e
  have e := List.forall_mem_cons.mp h
  replace h := e.2
  clear e
  have e := List.forall_mem_cons.mp h
  have h7 := e.1
  replace h := e.2
  clear e
  have e := List.forall_mem_cons.mp h
  replace h := e.2
  clear e
  have e := List.forall_mem_cons.mp h
  have h9 := e.1
  replace h := e.2
  clear e
  have e := List.forall_mem_cons.mp h
  replace h := e.2
  clear e
  have e := List.forall_mem_cons.mp h
  have h11 := e.1
  replace h := e.2
  clear e
  have e := List.forall_mem_cons.mp h
  replace h := e.2
  clear e
  have e := List.forall_mem_cons.mp h
  have h13 := e.1
  replace h := e.2
  clear e
  have e := List.forall_mem_cons.mp h
  replace h := e.2
  clear e
  have e := List.forall_mem_cons.mp h
  have h15 := e.1
  replace h := e.2
  clear e
  have e := List.forall_mem_cons.mp h
  replace h := e.2
  clear e
  have e := List.forall_mem_cons.mp h
  have h17 := e.1
  replace h := e.2
  clear e
  have e := List.forall_mem_cons.mp h
  replace h := e.2
  clear e
  have e := List.forall_mem_cons.mp h
  have h19 := e.1
  replace h := e.2
  clear e
  have e := List.forall_mem_cons.mp h
  replace h := e.2
  clear e
  have e := List.forall_mem_cons.mp h
  have h21 := e.1
  replace h := e.2
  clear e
  have e := List.forall_mem_cons.mp h
  replace h := e.2
  clear e
  have e := List.forall_mem_cons.mp h
  have h23 := e.1
  replace h := e.2
  clear e
  have e := List.forall_mem_cons.mp h
  replace h := e.2
  clear e
  have e := List.forall_mem_cons.mp h
  have h25 := e.1
  replace h := e.2
  clear e
  have e := List.forall_mem_cons.mp h
  replace h := e.2
  clear e
  have e := List.forall_mem_cons.mp h
  have h27 := e.1
  replace h := e.2
  clear e
  have e := List.forall_mem_cons.mp h
  replace h := e.2
  clear e
  have e := List.forall_mem_cons.mp h
  have h29 := e.1
  replace h := e.2
  clear e
  have e := List.forall_mem_cons.mp h
  replace h := e.2
  clear e
  have e := List.forall_mem_cons.mp h
  have h31 := e.1
  replace h := e.2
  clear e
  have e := List.forall_mem_cons.mp h
  replace h := e.2
  clear e
  have e := List.forall_mem_cons.mp h
  have h33 := e.1
  replace h := e.2
  clear e
  have e := List.forall_mem_cons.mp h
  replace h := e.2
  clear e
  have e := List.forall_mem_cons.mp h
  have h35 := e.1
  replace h := e.2
  clear e
  have e := List.forall_mem_cons.mp h
  replace h := e.2
  clear e
  have e := List.forall_mem_cons.mp h
  have h37 := e.1
  replace h := e.2
  clear e
  have e := List.forall_mem_cons.mp h
  replace h := e.2
  clear e
  have e := List.forall_mem_cons.mp h
  have h39 := e.1
  replace h := e.2
  clear e
  have e := List.forall_mem_cons.mp h
  replace h := e.2
  clear e
  have e := List.forall_mem_cons.mp h
  have h41 := e.1
  replace h := e.2
  clear e
  have e := List.forall_mem_cons.mp h
  replace h := e.2
  clear e
  have e := List.forall_mem_cons.mp h
  have h43 := e.1
  replace h := e.2
  clear e
  have e := List.forall_mem_cons.mp h
  replace h := e.2
  clear e
  have e := List.forall_mem_cons.mp h
  have h45 := e.1
  replace h := e.2
  clear e
  have e := List.forall_mem_cons.mp h
  replace h := e.2
  clear e
  have e := List.forall_mem_cons.mp h
  have h47 := e.1
  replace h := e.2
  clear e
  have e := List.forall_mem_cons.mp h
  replace h := e.2
  clear e
  have e := List.forall_mem_cons.mp h
  have h49 := e.1
  replace h := e.2
  clear e
  have e := List.forall_mem_cons.mp h
  replace h := e.2
  clear e
  have e := List.forall_mem_cons.mp h
  have h51 := e.1
  replace h := e.2
  clear e
  have e := List.forall_mem_cons.mp h
  replace h := e.2
  clear e
  have e := List.forall_mem_cons.mp h
  have h53 := e.1
  replace h := e.2
  clear e
  have e := List.forall_mem_cons.mp h
  replace h := e.2
  clear e
  have e := List.forall_mem_cons.mp h
  have h55 := e.1
  replace h := e.2
  clear e
  have e := List.forall_mem_cons.mp h
  replace h := e.2
  clear e
  have e := List.forall_mem_cons.mp h
  have h57 := e.1
  replace h := e.2
  clear e
  have e := List.forall_mem_cons.mp h
  replace h := e.2
  clear e
  have e := List.forall_mem_cons.mp h
  have h59 := e.1
  replace h := e.2
  clear e
  have e := List.forall_mem_cons.mp h
  replace h := e.2
  clear e
  have e := List.forall_mem_cons.mp h
  have h61 := e.1
  replace h := e.2
  clear e
  have e := List.forall_mem_cons.mp h
  replace h := e.2
  clear e
  have e := List.forall_mem_cons.mp h
  have h63 := e.1
  replace h := e.2
  clear e
  have e := List.forall_mem_cons.mp h
  replace h := e.2
  clear e
  have e := List.forall_mem_cons.mp h
  have h65 := e.1
  replace h := e.2
  clear e
  have e := List.forall_mem_cons.mp h
  replace h := e.2
  clear e
  have e := List.forall_mem_cons.mp h
  have h67 := e.1
  replace h := e.2
  clear e
  have e := List.forall_mem_cons.mp h
  replace h := e.2
  clear e
  have e := List.forall_mem_cons.mp h
  have h69 := e.1
  replace h := e.2
  clear e
  have e := List.forall_mem_cons.mp h
  replace h := e.2
  clear e
  have e := List.forall_mem_cons.mp h
  have h71 := e.1
  replace h := e.2
  clear e
  have e := List.forall_mem_cons.mp h
  replace h := e.2
  clear e
  have e := List.forall_mem_cons.mp h
  have h73 := e.1
  replace h := e.2
  clear e
  have e := List.forall_mem_cons.mp h
  replace h := e.2
  clear e
  have e := List.forall_mem_cons.mp h
  have h75 := e.1
  replace h := e.2
  clear e
  have e := List.forall_mem_cons.mp h
  replace h := e.2
  clear e
  have e := List.forall_mem_cons.mp h
  have h77 := e.1
  replace h := e.2
  clear e
  have e := List.forall_mem_cons.mp h
  replace h := e.2
  clear e
  have e := List.forall_mem_cons.mp h
  have h79 := e.1
  replace h := e.2
  clear e
  have e := List.forall_mem_cons.mp h
  replace h := e.2
  clear e
  have e := List.forall_mem_cons.mp h
  have h81 := e.1
  replace h := e.2
  clear e
  have e := List.forall_mem_cons.mp h
  replace h := e.2
  clear e
  have e := List.forall_mem_cons.mp h
  have h83 := e.1
  replace h := e.2
  clear e
  have e := List.forall_mem_cons.mp h
  replace h := e.2
  clear e
  have e := List.forall_mem_cons.mp h
  have h85 := e.1
  replace h := e.2
  clear e
  have e := List.forall_mem_cons.mp h
  replace h := e.2
  clear e
  have e := List.forall_mem_cons.mp h
  have h87 := e.1
  replace h := e.2
  clear e
  have e := List.forall_mem_cons.mp h
  replace h := e.2
  clear e
  have e := List.forall_mem_cons.mp h
  have h89 := e.1
  replace h := e.2
  clear e
  have e := List.forall_mem_cons.mp h
  replace h := e.2
  clear e
  have e := List.forall_mem_cons.mp h
  have h91 := e.1
  replace h := e.2
  clear e
  have e := List.forall_mem_cons.mp h
  replace h := e.2
  clear e
  have e := List.forall_mem_cons.mp h
  have h93 := e.1
  replace h := e.2
  clear e
  have e := List.forall_mem_cons.mp h
  replace h := e.2
  clear e
  have e := List.forall_mem_cons.mp h
  have h95 := e.1
  replace h := e.2
  clear e
  have e := List.forall_mem_cons.mp h
  replace h := e.2
  clear e
  have e := List.forall_mem_cons.mp h
  have h97 := e.1
  replace h := e.2
  clear e
  have e := List.forall_mem_cons.mp h
  replace h := e.2
  clear e
  have e := List.forall_mem_cons.mp h
  have h99 := e.1
  replace h := e.2
  clear e
  have e := List.forall_mem_cons.mp h
  replace h := e.2
  clear e
  have e := List.forall_mem_cons.mp h
  have h101 := e.1
  replace h := e.2
  clear e
  have e := List.forall_mem_cons.mp h
  replace h := e.2
  clear e
  have e := List.forall_mem_cons.mp h
  have h103 := e.1
  replace h := e.2
  clear e
  have e := List.forall_mem_cons.mp h
  replace h := e.2
  clear e
  have e := List.forall_mem_cons.mp h
  have h105 := e.1
  replace h := e.2
  clear e
  have e := List.forall_mem_cons.mp h
  replace h := e.2
  clear e
  have e := List.forall_mem_cons.mp h
  have h107 := e.1
  replace h := e.2
  clear e
  have e := List.forall_mem_cons.mp h
  replace h := e.2
  clear e
  have e := List.forall_mem_cons.mp h
  have h109 := e.1
  replace h := e.2
  clear e
  have e := List.forall_mem_cons.mp h
  replace h := e.2
  clear e
  have e := List.forall_mem_cons.mp h
  have h111 := e.1
  replace h := e.2
  clear e
  have e := List.forall_mem_cons.mp h
  replace h := e.2
  clear e
  have e := List.forall_mem_cons.mp h
  have h113 := e.1
  replace h := e.2
  clear e
  have e := List.forall_mem_cons.mp h
  replace h := e.2
  clear e
  have e := List.forall_mem_cons.mp h
  have h115 := e.1
  replace h := e.2
  clear e
  have e := List.forall_mem_cons.mp h
  replace h := e.2
  clear e
  have e := List.forall_mem_cons.mp h
  have h117 := e.1
  replace h := e.2
  clear e
  have e := List.forall_mem_cons.mp h
  replace h := e.2
  clear e
  have e := List.forall_mem_cons.mp h
  have h119 := e.1
  replace h := e.2
  clear e
  have e := List.forall_mem_cons.mp h
  replace h := e.2
  clear e
  have e := List.forall_mem_cons.mp h
  have h121 := e.1
  replace h := e.2
  clear e
  have e := List.forall_mem_cons.mp h
  replace h := e.2
  clear e
  have e := List.forall_mem_cons.mp h
  have h123 := e.1
  replace h := e.2
  clear e
  have e := List.forall_mem_cons.mp h
  replace h := e.2
  clear e
  have e := List.forall_mem_cons.mp h
  have h125 := e.1
  replace h := e.2
  clear e
  have e := List.forall_mem_cons.mp h
  replace h := e.2
  clear e
  have e := List.forall_mem_cons.mp h
  have h127 := e.1
  replace h := e.2
  clear e
  have e := List.forall_mem_cons.mp h
  replace h := e.2
  clear e
  have e := List.forall_mem_cons.mp h
  replace h := e.2
  clear e
  have e := List.forall_mem_cons.mp h
  have h130 := e.1
  replace h := e.2
  clear e
  have e := List.forall_mem_cons.mp h
  have h131 := e.1
  replace h := e.2
  clear e
  have e := List.forall_mem_cons.mp h
  have h132 := e.1
  replace h := e.2
  clear e
  have e := List.forall_mem_cons.mp h
  have h133 := e.1
  replace h := e.2
  clear e
  have e := List.forall_mem_cons.mp h
  have h134 := e.1
  replace h := e.2
  clear e
  have e := List.forall_mem_cons.mp h
  have h135 := e.1
  replace h := e.2
  clear e
  have e := List.forall_mem_cons.mp h
  have h136 := e.1
  replace h := e.2
  clear e
  have e := List.forall_mem_cons.mp h
  have h137 := e.1
  replace h := e.2
  clear e
  have e := List.forall_mem_cons.mp h
  have h138 := e.1
  replace h := e.2
  clear e
  have e := List.forall_mem_cons.mp h
  have h139 := e.1
  replace h := e.2
  clear e
  have e := List.forall_mem_cons.mp h
  have h140 := e.1
  replace h := e.2
  clear e
  have e := List.forall_mem_cons.mp h
  have h141 := e.1
  replace h := e.2
  clear e
  have e := List.forall_mem_cons.mp h
  have h142 := e.1
  replace h := e.2
  clear e
  have e := List.forall_mem_cons.mp h
  have h143 := e.1
  replace h := e.2
  clear e
  have e := List.forall_mem_cons.mp h
  have h144 := e.1
  replace h := e.2
  clear e
  have e := List.forall_mem_cons.mp h
  replace h := e.2
  clear e
  have e := List.forall_mem_cons.mp h
  have h146 := e.1
  replace h := e.2
  clear e
  have e := List.forall_mem_cons.mp h
  have h147 := e.1
  replace h := e.2
  clear e
  have e := List.forall_mem_cons.mp h
  have h148 := e.1
  replace h := e.2
  clear e
  have e := List.forall_mem_cons.mp h
  replace h := e.2
  clear e
  have e := List.forall_mem_cons.mp h
  have h150 := e.1
  replace h := e.2
  clear e
  have e := List.forall_mem_cons.mp h
  have h151 := e.1
  replace h := e.2
  clear e
  have e := List.forall_mem_cons.mp h
  have h152 := e.1
  replace h := e.2
  clear e
  have e := List.forall_mem_cons.mp h
  replace h := e.2
  clear e
  have e := List.forall_mem_cons.mp h
  have h154 := e.1
  replace h := e.2
  clear e
  have e := List.forall_mem_cons.mp h
  have h155 := e.1
  replace h := e.2
  clear e
  have e := List.forall_mem_cons.mp h
  have h156 := e.1
  replace h := e.2
  clear e
  have e := List.forall_mem_cons.mp h
  replace h := e.2
  clear e
  have e := List.forall_mem_cons.mp h
  have h158 := e.1
  replace h := e.2
  clear e
  have e := List.forall_mem_cons.mp h
  have h159 := e.1
  replace h := e.2
  clear e
  have e := List.forall_mem_cons.mp h
  have h160 := e.1
  replace h := e.2
  clear e
  have e := List.forall_mem_cons.mp h
  replace h := e.2
  clear e
  have e := List.forall_mem_cons.mp h
  have h162 := e.1
  replace h := e.2
  clear e
  have e := List.forall_mem_cons.mp h
  have h163 := e.1
  replace h := e.2
  clear e
  have e := List.forall_mem_cons.mp h
  have h164 := e.1
  replace h := e.2
  clear e
  have e := List.forall_mem_cons.mp h
  have h165 := e.1
  replace h := e.2
  clear e
  have e := List.forall_mem_cons.mp h
  have h166 := e.1
  replace h := e.2
  clear e
  have e := List.forall_mem_cons.mp h
  have h167 := e.1
  replace h := e.2
  clear e
  have e := List.forall_mem_cons.mp h
  replace h := e.2
  clear e
  have e := List.forall_mem_cons.mp h
  have h169 := e.1
  replace h := e.2
  clear e
  have e := List.forall_mem_cons.mp h
  have h170 := e.1
  replace h := e.2
  clear e
  have e := List.forall_mem_cons.mp h
  have h171 := e.1
  replace h := e.2
  clear e
  have e := List.forall_mem_cons.mp h
  replace h := e.2
  clear e
  have e := List.forall_mem_cons.mp h
  have h173 := e.1
  replace h := e.2
  clear e
  have e := List.forall_mem_cons.mp h
  have h174 := e.1
  replace h := e.2
  clear e
  have e := List.forall_mem_cons.mp h
  have h175 := e.1
  replace h := e.2
  clear e
  have e := List.forall_mem_cons.mp h
  have h176 := e.1
  replace h := e.2
  clear e
  have e := List.forall_mem_cons.mp h
  have h177 := e.1
  replace h := e.2
  clear e
  have e := List.forall_mem_cons.mp h
  have h178 := e.1
  replace h := e.2
  clear e
  have e := List.forall_mem_cons.mp h
  have h179 := e.1
  replace h := e.2
  clear e
  have e := List.forall_mem_cons.mp h
  have h180 := e.1
  replace h := e.2
  clear e
  have e := List.forall_mem_cons.mp h
  have h181 := e.1
  replace h := e.2
  clear e
  have e := List.forall_mem_cons.mp h
  replace h := e.2
  clear e
  have e := List.forall_mem_cons.mp h
  have h183 := e.1
  replace h := e.2
  clear e
  have e := List.forall_mem_cons.mp h
  have h184 := e.1
  replace h := e.2
  clear e
  have e := List.forall_mem_cons.mp h
  have h185 := e.1
  replace h := e.2
  clear e
  have e := List.forall_mem_cons.mp h
  replace h := e.2
  clear e
  have e := List.forall_mem_cons.mp h
  have h187 := e.1
  replace h := e.2
  clear e
  have e := List.forall_mem_cons.mp h
  have h188 := e.1
  replace h := e.2
  clear e
  have e := List.forall_mem_cons.mp h
  have h189 := e.1
  replace h := e.2
  clear e
  have e := List.forall_mem_cons.mp h
  replace h := e.2
  clear e
  have e := List.forall_mem_cons.mp h
  have h191 := e.1
  replace h := e.2
  clear e
  have e := List.forall_mem_cons.mp h
  have h192 := e.1
  replace h := e.2
  clear e
  have e := List.forall_mem_cons.mp h
  have h193 := e.1
  replace h := e.2
  clear e
  have e := List.forall_mem_cons.mp h
  replace h := e.2
  clear e
  have e := List.forall_mem_cons.mp h
  have h195 := e.1
  replace h := e.2
  clear e
  have e := List.forall_mem_cons.mp h
  have h196 := e.1
  replace h := e.2
  clear e
  have e := List.forall_mem_cons.mp h
  have h197 := e.1
  replace h := e.2
  clear e
  have e := List.forall_mem_cons.mp h
  replace h := e.2
  clear e
  have e := List.forall_mem_cons.mp h
  have h199 := e.1
  replace h := e.2
  clear e
  have e := List.forall_mem_cons.mp h
  have h200 := e.1
  replace h := e.2
  clear e
  have e := List.forall_mem_cons.mp h
  have h201 := e.1
  replace h := e.2
  clear e
  have e := List.forall_mem_cons.mp h
  replace h := e.2
  clear e
  have e := List.forall_mem_cons.mp h
  have h203 := e.1
  replace h := e.2
  clear e
  have e := List.forall_mem_cons.mp h
  have h204 := e.1
  replace h := e.2
  clear e
  have e := List.forall_mem_cons.mp h
  have h205 := e.1
  replace h := e.2
  clear e
  have e := List.forall_mem_cons.mp h
  replace h := e.2
  clear e
  have e := List.forall_mem_cons.mp h
  have h207 := e.1
  replace h := e.2
  clear e
  have e := List.forall_mem_cons.mp h
  have h208 := e.1
  replace h := e.2
  clear e
  have e := List.forall_mem_cons.mp h
  have h209 := e.1
  replace h := e.2
  clear e
  have e := List.forall_mem_cons.mp h
  replace h := e.2
  clear e
  have e := List.forall_mem_cons.mp h
  have h211 := e.1
  replace h := e.2
  clear e
  have e := List.forall_mem_cons.mp h
  have h212 := e.1
  replace h := e.2
  clear e
  have e := List.forall_mem_cons.mp h
  have h213 := e.1
  replace h := e.2
  clear e
  have e := List.forall_mem_cons.mp h
  have h214 := e.1
  replace h := e.2
  clear e
  have e := List.forall_mem_cons.mp h
  have h215 := e.1
  replace h := e.2
  clear e
  have e := List.forall_mem_cons.mp h
  replace h := e.2
  clear e
  have e := List.forall_mem_cons.mp h
  have h217 := e.1
  replace h := e.2
  clear e
  have e := List.forall_mem_cons.mp h
  have h218 := e.1
  replace h := e.2
  clear e
  have e := List.forall_mem_cons.mp h
  have h219 := e.1
  replace h := e.2
  clear e
  have e := List.forall_mem_cons.mp h
  replace h := e.2
  clear e
  have e := List.forall_mem_cons.mp h
  have h221 := e.1
  replace h := e.2
  clear e
  have e := List.forall_mem_cons.mp h
  have h222 := e.1
  replace h := e.2
  clear e
  have e := List.forall_mem_cons.mp h
  have h223 := e.1
  replace h := e.2
  clear e
  have e := List.forall_mem_cons.mp h
  replace h := e.2
  clear e
  have e := List.forall_mem_cons.mp h
  have h225 := e.1
  replace h := e.2
  clear e
  have e := List.forall_mem_cons.mp h
  have h226 := e.1
  replace h := e.2
  clear e
  have e := List.forall_mem_cons.mp h
  have h227 := e.1
  replace h := e.2
  clear e
  have e := List.forall_mem_cons.mp h
  replace h := e.2
  clear e
  have e := List.forall_mem_cons.mp h
  have h229 := e.1
  replace h := e.2
  clear e
  have e := List.forall_mem_cons.mp h
  have h230 := e.1
  replace h := e.2
  clear e
  have e := List.forall_mem_cons.mp h
  have h231 := e.1
  replace h := e.2
  clear e
  have e := List.forall_mem_cons.mp h
  replace h := e.2
  clear e
  have e := List.forall_mem_cons.mp h
  have h233 := e.1
  replace h := e.2
  clear e
  have e := List.forall_mem_cons.mp h
  have h234 := e.1
  replace h := e.2
  clear e
  have e := List.forall_mem_cons.mp h
  have h235 := e.1
  replace h := e.2
  clear e
  have e := List.forall_mem_cons.mp h
  replace h := e.2
  clear e
  have e := List.forall_mem_cons.mp h
  have h237 := e.1
  replace h := e.2
  clear e
  have e := List.forall_mem_cons.mp h
  have h238 := e.1
  replace h := e.2
  clear e
  have e := List.forall_mem_cons.mp h
  have h239 := e.1
  replace h := e.2
  clear e
  exact ⟨⟨h1, h3, h5, h7, h9, h11, h13, h15, h17, h19, h21, h23, h25, h27, h29, h31⟩, ⟨h33, h35, h37, h39, h41, h43, h45, h47, h49, h51, h53, h55, h57, h59, h61, h63⟩, ⟨h65, h67, h69, h71, h73, h75, h77, h79, h81, h83, h85, h87, h89, h91, h93, h95⟩, ⟨h97, h99, h101, h103, h105, h107, h109, h111, h113, h115, h117, h119, h121, h123, h125, h127⟩, ⟨h130, h131, h132, h133, h134, h135, h136, h137, h138, h139, h140, h141, h142, h143, h144, h146⟩, ⟨h147, h148, h150, h151, h152, h154, h155, h156, h158, h159, h160, h162, h163, h164, h165, h166⟩, ⟨h167, h169, h170, h171, h173, h174, h175, h176, h177, h178, h179, h180, h181, h183, h184, h185⟩, ⟨h187, h188, h189, h191, h192, h193, h195, h196, h197, h199, h200, h201, h203, h204, h205, h207⟩, ⟨h208, h209, h211, h212, h213, h214, h215, h217, h218, h219, h221, h222, h223, h225, h226, h227⟩, ⟨h229, h230, h231, h233, h234, h235, h237, h238, h239⟩⟩

set_option maxRecDepth 100000 in
set_option maxHeartbeats 40000000 in
theorem zq_t8 : ((Cond.instanceMethod yX12_qPartTold) ∈ lw_tbl ∧ (Cond.code yX12_qPartTold cX12_qPartTold 6 none) ∈ lw_tbl ∧ (Cond.methodLink RX12 573 yX12_qWordOf) ∈ lw_tbl ∧ (Cond.instanceMethod yX12_qWordOf) ∈ lw_tbl ∧ (Cond.code yX12_qWordOf cX12_qWordOf 4 (some .int)) ∈ lw_tbl ∧ (Cond.methodLink RX12 567 yX12_qWordHere) ∈ lw_tbl ∧ (Cond.instanceMethod yX12_qWordHere) ∈ lw_tbl ∧ (Cond.code yX12_qWordHere cX12_qWordHere 1 (some .int)) ∈ lw_tbl ∧ (Cond.methodLink RX12 570 yX12_isAllowed) ∈ lw_tbl ∧ (Cond.instanceMethod yX12_isAllowed) ∈ lw_tbl ∧ (Cond.code yX12_isAllowed cX12_isAllowed 2 (some .boolean)) ∈ lw_tbl ∧ (Cond.constantLong RX12 307 (3)) ∈ lw_tbl ∧ (Cond.constantLong RX12 309 (5)) ∈ lw_tbl ∧ (Cond.methodLink RX12 579 yX12_qAsksWord) ∈ lw_tbl ∧ (Cond.instanceMethod yX12_qAsksWord) ∈ lw_tbl ∧ (Cond.code yX12_qAsksWord cX12_qAsksWord 2 none) ∈ lw_tbl) ∧ ((Cond.methodLink RX12 582 yX12_qEndsPart) ∈ lw_tbl ∧ (Cond.instanceMethod yX12_qEndsPart) ∈ lw_tbl ∧ (Cond.code yX12_qEndsPart cX12_qEndsPart 1 none) ∈ lw_tbl ∧ (Cond.methodLink RX12 564 yX12_qDrops) ∈ lw_tbl ∧ (Cond.instanceMethod yX12_qDrops) ∈ lw_tbl ∧ (Cond.code yX12_qDrops cX12_qDrops 1 none) ∈ lw_tbl ∧ (Cond.methodLink RX12 597 yX12_qGoesOn) ∈ lw_tbl ∧ (Cond.instanceMethod yX12_qGoesOn) ∈ lw_tbl ∧ (Cond.code yX12_qGoesOn cX12_qGoesOn 2 (some .boolean)) ∈ lw_tbl ∧ (Cond.methodLink RX12 585 yX12_qBracket) ∈ lw_tbl ∧ (Cond.instanceMethod yX12_qBracket) ∈ lw_tbl ∧ (Cond.code yX12_qBracket cX12_qBracket 2 (some .int)) ∈ lw_tbl ∧ (Cond.methodLink RX12 561 yX12_qIsBracket) ∈ lw_tbl ∧ (Cond.static yX12_qIsBracket) ∈ lw_tbl ∧ (Cond.code yX12_qIsBracket cX12_qIsBracket 1 (some .boolean)) ∈ lw_tbl ∧ (Cond.methodLink RX12 588 yX12_qDropsToBracket) ∈ lw_tbl) ∧ ((Cond.instanceMethod yX12_qDropsToBracket) ∈ lw_tbl ∧ (Cond.code yX12_qDropsToBracket cX12_qDropsToBracket 1 none) ∈ lw_tbl ∧ (Cond.methodLink RX12 591 yX12_qIsOn) ∈ lw_tbl ∧ (Cond.instanceMethod yX12_qIsOn) ∈ lw_tbl ∧ (Cond.code yX12_qIsOn cX12_qIsOn 2 (some .boolean)) ∈ lw_tbl ∧ (Cond.methodLink RX12 603 yX12_qDropsNots) ∈ lw_tbl ∧ (Cond.instanceMethod yX12_qDropsNots) ∈ lw_tbl ∧ (Cond.code yX12_qDropsNots cX12_qDropsNots 1 none) ∈ lw_tbl ∧ (Cond.methodLink RX12 606 yX12_qGoesOnTest) ∈ lw_tbl ∧ (Cond.instanceMethod yX12_qGoesOnTest) ∈ lw_tbl ∧ (Cond.code yX12_qGoesOnTest cX12_qGoesOnTest 1 (some .boolean)) ∈ lw_tbl ∧ (Cond.methodLink RX12 609 yX12_qHasSquare) ∈ lw_tbl ∧ (Cond.instanceMethod yX12_qHasSquare) ∈ lw_tbl ∧ (Cond.code yX12_qHasSquare cX12_qHasSquare 2 (some .boolean)) ∈ lw_tbl ∧ (Cond.methodLink RX12 372 yX12_stands) ∈ lw_tbl ∧ (Cond.instanceMethod yX12_stands) ∈ lw_tbl) ∧ ((Cond.code yX12_stands cX12_stands 2 none) ∈ lw_tbl ∧ (Cond.methodLink RL 32 yX12_fault) ∈ lw_tbl ∧ (Cond.instanceMethod yX12_fault) ∈ lw_tbl ∧ (Cond.selects RX12 yX12_fault yX12_fault) ∈ lw_tbl ∧ (Cond.code yX12_fault cX12_fault 2 (some .int)) ∈ lw_tbl ∧ (Cond.methodLink RL 36 yX12_has) ∈ lw_tbl ∧ (Cond.instanceMethod yX12_has) ∈ lw_tbl ∧ (Cond.selects RX12 yX12_has yX12_has) ∈ lw_tbl ∧ (Cond.code yX12_has cX12_has 2 (some .int)) ∈ lw_tbl ∧ (Cond.methodLink RX12 385 yX12_peopleMany) ∈ lw_tbl ∧ (Cond.instanceMethod yX12_peopleMany) ∈ lw_tbl ∧ (Cond.code yX12_peopleMany cX12_peopleMany 1 (some .int)) ∈ lw_tbl ∧ (Cond.methodLink RX12 466 yX12_crackedMany) ∈ lw_tbl ∧ (Cond.instanceMethod yX12_crackedMany) ∈ lw_tbl ∧ (Cond.code yX12_crackedMany cX12_crackedMany 3 (some .int)) ∈ lw_tbl ∧ (Cond.methodLink RX12 451 yX12_holders) ∈ lw_tbl) ∧ ((Cond.instanceMethod yX12_holders) ∈ lw_tbl ∧ (Cond.code yX12_holders cX12_holders 3 (some .int)) ∈ lw_tbl ∧ (Cond.methodLink RX12 412 yX12_isAtRest) ∈ lw_tbl ∧ (Cond.instanceMethod yX12_isAtRest) ∈ lw_tbl ∧ (Cond.code yX12_isAtRest cX12_isAtRest 2 (some .boolean)) ∈ lw_tbl ∧ (Cond.methodLink RX12 415 yX12_codesTell) ∈ lw_tbl ∧ (Cond.instanceMethod yX12_codesTell) ∈ lw_tbl ∧ (Cond.code yX12_codesTell cX12_codesTell 5 (some .long)) ∈ lw_tbl ∧ (Cond.methodLink RX12 401 yX12_qPuts) ∈ lw_tbl ∧ (Cond.instanceMethod yX12_qPuts) ∈ lw_tbl ∧ (Cond.code yX12_qPuts cX12_qPuts 3 none) ∈ lw_tbl ∧ (Cond.methodLink RX12 405 yX12_qPartOf) ∈ lw_tbl ∧ (Cond.instanceMethod yX12_qPartOf) ∈ lw_tbl ∧ (Cond.code yX12_qPartOf cX12_qPartOf 3 (some .long)) ∈ lw_tbl ∧ (Cond.methodLink RX12 418 yX12_strengthOf) ∈ lw_tbl ∧ (Cond.instanceMethod yX12_strengthOf) ∈ lw_tbl) ∧ ((Cond.code yX12_strengthOf cX12_strengthOf 2 (some .int)) ∈ lw_tbl ∧ (Cond.methodLink RX12 486 yX12_tiredOf) ∈ lw_tbl ∧ (Cond.instanceMethod yX12_tiredOf) ∈ lw_tbl ∧ (Cond.code yX12_tiredOf cX12_tiredOf 2 (some .int)) ∈ lw_tbl ∧ (Cond.methodLink RX12 624 yX12_nearOf) ∈ lw_tbl ∧ (Cond.instanceMethod yX12_nearOf) ∈ lw_tbl ∧ (Cond.code yX12_nearOf cX12_nearOf 4 (some .int)) ∈ lw_tbl ∧ (Cond.methodLink RX12 391 yX12_placeOf) ∈ lw_tbl ∧ (Cond.instanceMethod yX12_placeOf) ∈ lw_tbl ∧ (Cond.code yX12_placeOf cX12_placeOf 2 (some .int)) ∈ lw_tbl ∧ (Cond.methodLink RX12 395 yX12_apart) ∈ lw_tbl ∧ (Cond.static yX12_apart) ∈ lw_tbl ∧ (Cond.code yX12_apart cX12_apart 4 (some .int)) ∈ lw_tbl ∧ (Cond.methodLink RX12 409 yX12_qJoins) ∈ lw_tbl ∧ (Cond.instanceMethod yX12_qJoins) ∈ lw_tbl ∧ (Cond.code yX12_qJoins cX12_qJoins 6 none) ∈ lw_tbl) ∧ ((Cond.methodLink RX12 616 yX12_qClip) ∈ lw_tbl ∧ (Cond.static yX12_qClip) ∈ lw_tbl ∧ (Cond.code yX12_qClip cX12_qClip 2 (some .long)) ∈ lw_tbl ∧ (Cond.constantLong RX12 612 (1000000)) ∈ lw_tbl ∧ (Cond.constantLong RX12 614 (-1000000)) ∈ lw_tbl ∧ (Cond.methodLink RX12 620 yX12_qFloor) ∈ lw_tbl ∧ (Cond.static yX12_qFloor) ∈ lw_tbl ∧ (Cond.code yX12_qFloor cX12_qFloor 6 (some .long)) ∈ lw_tbl ∧ (Cond.methodLink RX12 469 yX12_bits) ∈ lw_tbl ∧ (Cond.static yX12_bits) ∈ lw_tbl ∧ (Cond.code yX12_bits cX12_bits 3 (some .int)) ∈ lw_tbl ∧ (Cond.methodLink RX12 472 yX12_awake) ∈ lw_tbl ∧ (Cond.instanceMethod yX12_awake) ∈ lw_tbl ∧ (Cond.code yX12_awake cX12_awake 3 (some .int)) ∈ lw_tbl ∧ (Cond.methodLink RL 41 yX12_letter) ∈ lw_tbl ∧ (Cond.instanceMethod yX12_letter) ∈ lw_tbl) ∧ ((Cond.selects RX12 yX12_letter yX12_letter) ∈ lw_tbl ∧ (Cond.code yX12_letter cX12_letter 8 (some .int)) ∈ lw_tbl ∧ (Cond.methodLink RX12 475 yX12_isPerson) ∈ lw_tbl ∧ (Cond.instanceMethod yX12_isPerson) ∈ lw_tbl ∧ (Cond.code yX12_isPerson cX12_isPerson 2 (some .boolean)) ∈ lw_tbl ∧ (Cond.methodLink RL 46 yX12_cell) ∈ lw_tbl ∧ (Cond.instanceMethod yX12_cell) ∈ lw_tbl ∧ (Cond.selects RX12 yX12_cell yX12_cell) ∈ lw_tbl ∧ (Cond.code yX12_cell cX12_cell 5 (some .int)) ∈ lw_tbl ∧ (Cond.methodLink RX12 478 yX12_cellAt) ∈ lw_tbl ∧ (Cond.instanceMethod yX12_cellAt) ∈ lw_tbl ∧ (Cond.code yX12_cellAt cX12_cellAt 3 (some .int)) ∈ lw_tbl ∧ (Cond.methodLink RX12 454 yX12_laysLoads) ∈ lw_tbl ∧ (Cond.instanceMethod yX12_laysLoads) ∈ lw_tbl ∧ (Cond.code yX12_laysLoads cX12_laysLoads 6 none) ∈ lw_tbl ∧ (Cond.methodLink RX12 430 yX12_cellMany) ∈ lw_tbl) ∧ ((Cond.instanceMethod yX12_cellMany) ∈ lw_tbl ∧ (Cond.code yX12_cellMany cX12_cellMany 1 (some .int)) ∈ lw_tbl ∧ (Cond.methodLink RX12 433 yX12_cellOf) ∈ lw_tbl ∧ (Cond.instanceMethod yX12_cellOf) ∈ lw_tbl ∧ (Cond.code yX12_cellOf cX12_cellOf 2 (some .int)) ∈ lw_tbl ∧ (Cond.methodLink RX12 436 yX12_isCracked) ∈ lw_tbl ∧ (Cond.instanceMethod yX12_isCracked) ∈ lw_tbl ∧ (Cond.code yX12_isCracked cX12_isCracked 2 (some .boolean)) ∈ lw_tbl ∧ (Cond.methodLink RX12 439 yX12_addsOf) ∈ lw_tbl ∧ (Cond.instanceMethod yX12_addsOf) ∈ lw_tbl ∧ (Cond.code yX12_addsOf cX12_addsOf 4 (some .int)) ∈ lw_tbl ∧ (Cond.constantLong RX12 428 (999)) ∈ lw_tbl ∧ (Cond.methodLink RX12 481 yX12_standsAt) ∈ lw_tbl ∧ (Cond.instanceMethod yX12_standsAt) ∈ lw_tbl ∧ (Cond.code yX12_standsAt cX12_standsAt 3 (some .int)) ∈ lw_tbl ∧ (Cond.methodLink RL 51 yX12_slack) ∈ lw_tbl) ∧ ((Cond.instanceMethod yX12_slack) ∈ lw_tbl ∧ (Cond.selects RX12 yX12_slack yX12_slack) ∈ lw_tbl ∧ (Cond.code yX12_slack cX12_slack 4 (some .long)) ∈ lw_tbl ∧ (Cond.constantLong RX12 484 (-1000000000000000)) ∈ lw_tbl ∧ (Cond.methodLink RX12 445 yX12_slackBy) ∈ lw_tbl ∧ (Cond.instanceMethod yX12_slackBy) ∈ lw_tbl ∧ (Cond.code yX12_slackBy cX12_slackBy 3 (some .int)) ∈ lw_tbl ∧ (Cond.methodLink RX12 442 yX12_liftBy) ∈ lw_tbl ∧ (Cond.instanceMethod yX12_liftBy) ∈ lw_tbl ∧ (Cond.code yX12_liftBy cX12_liftBy 5 (some .int)) ∈ lw_tbl ∧ (Cond.methodLink RX12 421 yX12_liftOf) ∈ lw_tbl ∧ (Cond.instanceMethod yX12_liftOf) ∈ lw_tbl ∧ (Cond.code yX12_liftOf cX12_liftOf 5 (some .int)) ∈ lw_tbl ∧ (Cond.methodLink RL 55 yX12_person) ∈ lw_tbl ∧ (Cond.instanceMethod yX12_person) ∈ lw_tbl ∧ (Cond.selects RX12 yX12_person yX12_person) ∈ lw_tbl) ∧ ((Cond.code yX12_person cX12_person 3 (some .int)) ∈ lw_tbl ∧ (Cond.methodLink RL 59 yX12_lifts) ∈ lw_tbl ∧ (Cond.instanceMethod yX12_lifts) ∈ lw_tbl ∧ (Cond.selects RX12 yX12_lifts yX12_lifts) ∈ lw_tbl ∧ (Cond.code yX12_lifts cX12_lifts 5 (some .int)) ∈ lw_tbl ∧ (Cond.methodLink RL 63 yX12_kept) ∈ lw_tbl ∧ (Cond.instanceMethod yX12_kept) ∈ lw_tbl ∧ (Cond.selects RX12 yX12_kept yX12_kept) ∈ lw_tbl ∧ (Cond.code yX12_kept cX12_kept 3 (some .int)) ∈ lw_tbl ∧ (Cond.constantLong RX12 489 (2)) ∈ lw_tbl ∧ (Cond.methodLink RL 67 yX12_later) ∈ lw_tbl ∧ (Cond.instanceMethod yX12_later) ∈ lw_tbl ∧ (Cond.selects RX12 yX12_later yX12_later) ∈ lw_tbl ∧ (Cond.code yX12_later cX12_later 4 (some .int)) ∈ lw_tbl ∧ (Cond.methodLink RX12 491 yX12_isAhead) ∈ lw_tbl ∧ (Cond.instanceMethod yX12_isAhead) ∈ lw_tbl) ∧ ((Cond.code yX12_isAhead cX12_isAhead 4 (some .boolean)) ∈ lw_tbl ∧ (Cond.methodLink RX12 495 yX12_putsAside) ∈ lw_tbl ∧ (Cond.instanceMethod yX12_putsAside) ∈ lw_tbl ∧ (Cond.code yX12_putsAside cX12_putsAside 2 none) ∈ lw_tbl ∧ (Cond.methodLink RX12 498 yX12_hoursGo) ∈ lw_tbl ∧ (Cond.instanceMethod yX12_hoursGo) ∈ lw_tbl ∧ (Cond.code yX12_hoursGo cX12_hoursGo 3 none) ∈ lw_tbl ∧ (Cond.methodLink RX12 463 yX12_hourGoes) ∈ lw_tbl ∧ (Cond.instanceMethod yX12_hourGoes) ∈ lw_tbl ∧ (Cond.code yX12_hourGoes cX12_hourGoes 4 none) ∈ lw_tbl ∧ (Cond.methodLink RX12 460 yX12_isKept) ∈ lw_tbl ∧ (Cond.instanceMethod yX12_isKept) ∈ lw_tbl ∧ (Cond.code yX12_isKept cX12_isKept 3 none) ∈ lw_tbl ∧ (Cond.methodLink RX12 501 yX12_tiredAll) ∈ lw_tbl ∧ (Cond.instanceMethod yX12_tiredAll) ∈ lw_tbl ∧ (Cond.code yX12_tiredAll cX12_tiredAll 3 (some .int)) ∈ lw_tbl) ∧ ((Cond.methodLink RX12 504 yX12_takesBack) ∈ lw_tbl ∧ (Cond.instanceMethod yX12_takesBack) ∈ lw_tbl) := by
  have h : ∀ w ∈ tables_1_8, w ∈ lw_tbl := fun w hm => List.mem_append_right _ (List.mem_append_right _ (List.mem_append_right _ (List.mem_append_right _ (List.mem_append_right _ (List.mem_append_right _ (List.mem_append_right _ (List.mem_append_right _ (List.mem_append_left _ hm))))))))
  unfold tables_1_8 at h
  have e := List.forall_mem_cons.mp h
  replace h := e.2
  clear e
  have e := List.forall_mem_cons.mp h
  have h1 := e.1
  replace h := e.2
  clear e
  have e := List.forall_mem_cons.mp h
  have h2 := e.1
  replace h := e.2
  clear e
  have e := List.forall_mem_cons.mp h
  have h3 := e.1
  replace h := e.2
  clear e
  have e := List.forall_mem_cons.mp h
  replace h := e.2
  clear e
  have e := List.forall_mem_cons.mp h
  have h5 := e.1
  replace h := e.2
  clear e
  have e := List.forall_mem_cons.mp h
  have h6 := e.1
  replace h := e.2
  clear e
  have e := List.forall_mem_cons.mp h
  have h7 := e.1
  replace h := e.2
  clear e
  have e := List.forall_mem_cons.mp h
  replace h := e.2
  clear e
  have e := List.forall_mem_cons.mp h
  have h9 := e.1
  replace h := e.2
  clear e
  have e := List.forall_mem_cons.mp h
  have h10 := e.1
  replace h := e.2
  clear e
  have e := List.forall_mem_cons.mp h
  have h11 := e.1
  replace h := e.2
  clear e
  have e := List.forall_mem_cons.mp h
  replace h := e.2
  clear e
  have e := List.forall_mem_cons.mp h
  have h13 := e.1
  replace h := e.2
  clear e
  have e := List.forall_mem_cons.mp h
  have h14 := e.1
  replace h := e.2
  clear e
  have e := List.forall_mem_cons.mp h
  have h15 := e.1
  replace h := e.2
  clear e
  have e := List.forall_mem_cons.mp h
  have h16 := e.1
  replace h := e.2
  clear e
  have e := List.forall_mem_cons.mp h
  have h17 := e.1
  replace h := e.2
  clear e
  have e := List.forall_mem_cons.mp h
  replace h := e.2
  clear e
  have e := List.forall_mem_cons.mp h
  have h19 := e.1
  replace h := e.2
  clear e
  have e := List.forall_mem_cons.mp h
  have h20 := e.1
  replace h := e.2
  clear e
  have e := List.forall_mem_cons.mp h
  have h21 := e.1
  replace h := e.2
  clear e
  have e := List.forall_mem_cons.mp h
  replace h := e.2
  clear e
  have e := List.forall_mem_cons.mp h
  have h23 := e.1
  replace h := e.2
  clear e
  have e := List.forall_mem_cons.mp h
  have h24 := e.1
  replace h := e.2
  clear e
  have e := List.forall_mem_cons.mp h
  have h25 := e.1
  replace h := e.2
  clear e
  have e := List.forall_mem_cons.mp h
  replace h := e.2
  clear e
  have e := List.forall_mem_cons.mp h
  have h27 := e.1
  replace h := e.2
  clear e
  have e := List.forall_mem_cons.mp h
  have h28 := e.1
  replace h := e.2
  clear e
  have e := List.forall_mem_cons.mp h
  have h29 := e.1
  replace h := e.2
  clear e
  have e := List.forall_mem_cons.mp h
  replace h := e.2
  clear e
  have e := List.forall_mem_cons.mp h
  have h31 := e.1
  replace h := e.2
  clear e
  have e := List.forall_mem_cons.mp h
  have h32 := e.1
  replace h := e.2
  clear e
  have e := List.forall_mem_cons.mp h
  have h33 := e.1
  replace h := e.2
  clear e
  have e := List.forall_mem_cons.mp h
  replace h := e.2
  clear e
  have e := List.forall_mem_cons.mp h
  have h35 := e.1
  replace h := e.2
  clear e
  have e := List.forall_mem_cons.mp h
  have h36 := e.1
  replace h := e.2
  clear e
  have e := List.forall_mem_cons.mp h
  have h37 := e.1
  replace h := e.2
  clear e
  have e := List.forall_mem_cons.mp h
  have h38 := e.1
  replace h := e.2
  clear e
  have e := List.forall_mem_cons.mp h
  have h39 := e.1
  replace h := e.2
  clear e
  have e := List.forall_mem_cons.mp h
  have h40 := e.1
  replace h := e.2
  clear e
  have e := List.forall_mem_cons.mp h
  replace h := e.2
  clear e
  have e := List.forall_mem_cons.mp h
  have h42 := e.1
  replace h := e.2
  clear e
  have e := List.forall_mem_cons.mp h
  have h43 := e.1
  replace h := e.2
  clear e
  have e := List.forall_mem_cons.mp h
  have h44 := e.1
  replace h := e.2
  clear e
  have e := List.forall_mem_cons.mp h
  replace h := e.2
  clear e
  have e := List.forall_mem_cons.mp h
  have h46 := e.1
  replace h := e.2
  clear e
  have e := List.forall_mem_cons.mp h
  have h47 := e.1
  replace h := e.2
  clear e
  have e := List.forall_mem_cons.mp h
  have h48 := e.1
  replace h := e.2
  clear e
  have e := List.forall_mem_cons.mp h
  replace h := e.2
  clear e
  have e := List.forall_mem_cons.mp h
  have h50 := e.1
  replace h := e.2
  clear e
  have e := List.forall_mem_cons.mp h
  have h51 := e.1
  replace h := e.2
  clear e
  have e := List.forall_mem_cons.mp h
  have h52 := e.1
  replace h := e.2
  clear e
  have e := List.forall_mem_cons.mp h
  replace h := e.2
  clear e
  have e := List.forall_mem_cons.mp h
  have h54 := e.1
  replace h := e.2
  clear e
  have e := List.forall_mem_cons.mp h
  have h55 := e.1
  replace h := e.2
  clear e
  have e := List.forall_mem_cons.mp h
  have h56 := e.1
  replace h := e.2
  clear e
  have e := List.forall_mem_cons.mp h
  replace h := e.2
  clear e
  have e := List.forall_mem_cons.mp h
  have h58 := e.1
  replace h := e.2
  clear e
  have e := List.forall_mem_cons.mp h
  have h59 := e.1
  replace h := e.2
  clear e
  have e := List.forall_mem_cons.mp h
  have h60 := e.1
  replace h := e.2
  clear e
  have e := List.forall_mem_cons.mp h
  replace h := e.2
  clear e
  have e := List.forall_mem_cons.mp h
  have h62 := e.1
  replace h := e.2
  clear e
  have e := List.forall_mem_cons.mp h
  have h63 := e.1
  replace h := e.2
  clear e
  have e := List.forall_mem_cons.mp h
  have h64 := e.1
  replace h := e.2
  clear e
  have e := List.forall_mem_cons.mp h
  have h65 := e.1
  replace h := e.2
  clear e
  have e := List.forall_mem_cons.mp h
  have h66 := e.1
  replace h := e.2
  clear e
  have e := List.forall_mem_cons.mp h
  have h67 := e.1
  replace h := e.2
  clear e
  have e := List.forall_mem_cons.mp h
  have h68 := e.1
  replace h := e.2
  clear e
  have e := List.forall_mem_cons.mp h
  have h69 := e.1
  replace h := e.2
  clear e
  have e := List.forall_mem_cons.mp h
  have h70 := e.1
  replace h := e.2
  clear e
  have e := List.forall_mem_cons.mp h
  have h71 := e.1
  replace h := e.2
  clear e
  have e := List.forall_mem_cons.mp h
  have h72 := e.1
  replace h := e.2
  clear e
  have e := List.forall_mem_cons.mp h
  replace h := e.2
  clear e
  have e := List.forall_mem_cons.mp h
  have h74 := e.1
  replace h := e.2
  clear e
  have e := List.forall_mem_cons.mp h
  have h75 := e.1
  replace h := e.2
  clear e
  have e := List.forall_mem_cons.mp h
  have h76 := e.1
  replace h := e.2
  clear e
  have e := List.forall_mem_cons.mp h
  replace h := e.2
  clear e
  have e := List.forall_mem_cons.mp h
  have h78 := e.1
  replace h := e.2
  clear e
  have e := List.forall_mem_cons.mp h
  have h79 := e.1
  replace h := e.2
  clear e
  have e := List.forall_mem_cons.mp h
  have h80 := e.1
  replace h := e.2
  clear e
  have e := List.forall_mem_cons.mp h
  replace h := e.2
  clear e
  have e := List.forall_mem_cons.mp h
  have h82 := e.1
  replace h := e.2
  clear e
  have e := List.forall_mem_cons.mp h
  have h83 := e.1
  replace h := e.2
  clear e
  have e := List.forall_mem_cons.mp h
  have h84 := e.1
  replace h := e.2
  clear e
  have e := List.forall_mem_cons.mp h
  replace h := e.2
  clear e
  have e := List.forall_mem_cons.mp h
  have h86 := e.1
  replace h := e.2
  clear e
  have e := List.forall_mem_cons.mp h
  have h87 := e.1
  replace h := e.2
  clear e
  have e := List.forall_mem_cons.mp h
  have h88 := e.1
  replace h := e.2
  clear e
  have e := List.forall_mem_cons.mp h
  replace h := e.2
  clear e
  have e := List.forall_mem_cons.mp h
  have h90 := e.1
  replace h := e.2
  clear e
  have e := List.forall_mem_cons.mp h
  have h91 := e.1
  replace h := e.2
  clear e
  have e := List.forall_mem_cons.mp h
  have h92 := e.1
  replace h := e.2
  clear e
  have e := List.forall_mem_cons.mp h
  replace h := e.2
  clear e
  have e := List.forall_mem_cons.mp h
  have h94 := e.1
  replace h := e.2
  clear e
  have e := List.forall_mem_cons.mp h
  have h95 := e.1
  replace h := e.2
  clear e
  have e := List.forall_mem_cons.mp h
  have h96 := e.1
  replace h := e.2
  clear e
  have e := List.forall_mem_cons.mp h
  replace h := e.2
  clear e
  have e := List.forall_mem_cons.mp h
  have h98 := e.1
  replace h := e.2
  clear e
  have e := List.forall_mem_cons.mp h
  have h99 := e.1
  replace h := e.2
  clear e
  have e := List.forall_mem_cons.mp h
  have h100 := e.1
  replace h := e.2
  clear e
  have e := List.forall_mem_cons.mp h
  replace h := e.2
  clear e
  have e := List.forall_mem_cons.mp h
  have h102 := e.1
  replace h := e.2
  clear e
  have e := List.forall_mem_cons.mp h
  have h103 := e.1
  replace h := e.2
  clear e
  have e := List.forall_mem_cons.mp h
  have h104 := e.1
  replace h := e.2
  clear e
  have e := List.forall_mem_cons.mp h
  replace h := e.2
  clear e
  have e := List.forall_mem_cons.mp h
  have h106 := e.1
  replace h := e.2
  clear e
  have e := List.forall_mem_cons.mp h
  have h107 := e.1
  replace h := e.2
  clear e
  have e := List.forall_mem_cons.mp h
  have h108 := e.1
  replace h := e.2
  clear e
  have e := List.forall_mem_cons.mp h
  replace h := e.2
  clear e
  have e := List.forall_mem_cons.mp h
  have h110 := e.1
  replace h := e.2
  clear e
  have e := List.forall_mem_cons.mp h
  have h111 := e.1
  replace h := e.2
  clear e
  have e := List.forall_mem_cons.mp h
  have h112 := e.1
  replace h := e.2
  clear e
  have e := List.forall_mem_cons.mp h
  replace h := e.2
  clear e
  have e := List.forall_mem_cons.mp h
  have h114 := e.1
  replace h := e.2
  clear e
  have e := List.forall_mem_cons.mp h
  have h115 := e.1
  replace h := e.2
  clear e
  have e := List.forall_mem_cons.mp h
  have h116 := e.1
  replace h := e.2
  clear e
  have e := List.forall_mem_cons.mp h
  have h117 := e.1
  replace h := e.2
  clear e
  have e := List.forall_mem_cons.mp h
  have h118 := e.1
  replace h := e.2
  clear e
  have e := List.forall_mem_cons.mp h
  have h119 := e.1
  replace h := e.2
  clear e
  have e := List.forall_mem_cons.mp h
  replace h := e.2
  clear e
  have e := List.forall_mem_cons.mp h
  have h121 := e.1
  replace h := e.2
  clear e
  have e := List.forall_mem_cons.mp h
  have h122 := e.1
  replace h := e.2
  clear e
  have e := List.forall_mem_cons.mp h
  have h123 := e.1
  replace h := e.2
  clear e
  have e := List.forall_mem_cons.mp h
  have h124 := e.1
  replace h := e.2
  clear e
  have e := List.forall_mem_cons.mp h
  have h125 := e.1
  replace h := e.2
  clear e
  have e := List.forall_mem_cons.mp h
  have h126 := e.1
  replace h := e.2
  clear e
  have e := List.forall_mem_cons.mp h
  have h127 := e.1
  replace h := e.2
  clear e
  have e := List.forall_mem_cons.mp h
  have h128 := e.1
  replace h := e.2
  clear e
  have e := List.forall_mem_cons.mp h
  have h129 := e.1
  replace h := e.2
  clear e
  have e := List.forall_mem_cons.mp h
  have h130 := e.1
  replace h := e.2
  clear e
  have e := List.forall_mem_cons.mp h
  have h131 := e.1
  replace h := e.2
  clear e
  have e := List.forall_mem_cons.mp h
  have h132 := e.1
  replace h := e.2
  clear e
  have e := List.forall_mem_cons.mp h
  have h133 := e.1
  replace h := e.2
  clear e
  have e := List.forall_mem_cons.mp h
  have h134 := e.1
  replace h := e.2
  clear e
  have e := List.forall_mem_cons.mp h
  replace h := e.2
  clear e
  have e := List.forall_mem_cons.mp h
  have h136 := e.1
  replace h := e.2
  clear e
  have e := List.forall_mem_cons.mp h
  have h137 := e.1
  replace h := e.2
  clear e
  have e := List.forall_mem_cons.mp h
  have h138 := e.1
  replace h := e.2
  clear e
  have e := List.forall_mem_cons.mp h
  have h139 := e.1
  replace h := e.2
  clear e
  have e := List.forall_mem_cons.mp h
  have h140 := e.1
  replace h := e.2
  clear e
  have e := List.forall_mem_cons.mp h
  have h141 := e.1
  replace h := e.2
  clear e
  have e := List.forall_mem_cons.mp h
  have h142 := e.1
  replace h := e.2
  clear e
  have e := List.forall_mem_cons.mp h
  replace h := e.2
  clear e
  have e := List.forall_mem_cons.mp h
  have h144 := e.1
  replace h := e.2
  clear e
  have e := List.forall_mem_cons.mp h
  have h145 := e.1
  replace h := e.2
  clear e
  have e := List.forall_mem_cons.mp h
  have h146 := e.1
  replace h := e.2
  clear e
  have e := List.forall_mem_cons.mp h
  have h147 := e.1
  replace h := e.2
  clear e
  have e := List.forall_mem_cons.mp h
  have h148 := e.1
  replace h := e.2
  clear e
  have e := List.forall_mem_cons.mp h
  have h149 := e.1
  replace h := e.2
  clear e
  have e := List.forall_mem_cons.mp h
  have h150 := e.1
  replace h := e.2
  clear e
  have e := List.forall_mem_cons.mp h
  replace h := e.2
  clear e
  have e := List.forall_mem_cons.mp h
  have h152 := e.1
  replace h := e.2
  clear e
  have e := List.forall_mem_cons.mp h
  have h153 := e.1
  replace h := e.2
  clear e
  have e := List.forall_mem_cons.mp h
  have h154 := e.1
  replace h := e.2
  clear e
  have e := List.forall_mem_cons.mp h
  replace h := e.2
  clear e
  have e := List.forall_mem_cons.mp h
  have h156 := e.1
  replace h := e.2
  clear e
  have e := List.forall_mem_cons.mp h
  have h157 := e.1
  replace h := e.2
  clear e
  have e := List.forall_mem_cons.mp h
  have h158 := e.1
  replace h := e.2
  clear e
  have e := List.forall_mem_cons.mp h
  replace h := e.2
  clear e
  have e := List.forall_mem_cons.mp h
  have h160 := e.1
  replace h := e.2
  clear e
  have e := List.forall_mem_cons.mp h
  have h161 := e.1
  replace h := e.2
  clear e
  have e := List.forall_mem_cons.mp h
  have h162 := e.1
  replace h := e.2
  clear e
  have e := List.forall_mem_cons.mp h
  replace h := e.2
  clear e
  have e := List.forall_mem_cons.mp h
  have h164 := e.1
  replace h := e.2
  clear e
  have e := List.forall_mem_cons.mp h
  have h165 := e.1
  replace h := e.2
  clear e
  have e := List.forall_mem_cons.mp h
  have h166 := e.1
  replace h := e.2
  clear e
  have e := List.forall_mem_cons.mp h
  replace h := e.2
  clear e
  have e := List.forall_mem_cons.mp h
  have h168 := e.1
  replace h := e.2
  clear e
  have e := List.forall_mem_cons.mp h
  have h169 := e.1
  replace h := e.2
  clear e
  have e := List.forall_mem_cons.mp h
  have h170 := e.1
  replace h := e.2
  clear e
  have e := List.forall_mem_cons.mp h
  replace h := e.2
  clear e
  have e := List.forall_mem_cons.mp h
  have h172 := e.1
  replace h := e.2
  clear e
  have e := List.forall_mem_cons.mp h
  have h173 := e.1
  replace h := e.2
  clear e
  have e := List.forall_mem_cons.mp h
  have h174 := e.1
  replace h := e.2
  clear e
  have e := List.forall_mem_cons.mp h
  have h175 := e.1
  replace h := e.2
  clear e
  have e := List.forall_mem_cons.mp h
  replace h := e.2
  clear e
  have e := List.forall_mem_cons.mp h
  have h177 := e.1
  replace h := e.2
  clear e
  have e := List.forall_mem_cons.mp h
  have h178 := e.1
  replace h := e.2
  clear e
  have e := List.forall_mem_cons.mp h
  have h179 := e.1
  replace h := e.2
  clear e
  have e := List.forall_mem_cons.mp h
  have h180 := e.1
  replace h := e.2
  clear e
  have e := List.forall_mem_cons.mp h
  have h181 := e.1
  replace h := e.2
  clear e
  have e := List.forall_mem_cons.mp h
  have h182 := e.1
  replace h := e.2
  clear e
  have e := List.forall_mem_cons.mp h
  have h183 := e.1
  replace h := e.2
  clear e
  have e := List.forall_mem_cons.mp h
  have h184 := e.1
  replace h := e.2
  clear e
  have e := List.forall_mem_cons.mp h
  replace h := e.2
  clear e
  have e := List.forall_mem_cons.mp h
  have h186 := e.1
  replace h := e.2
  clear e
  have e := List.forall_mem_cons.mp h
  have h187 := e.1
  replace h := e.2
  clear e
  have e := List.forall_mem_cons.mp h
  have h188 := e.1
  replace h := e.2
  clear e
  have e := List.forall_mem_cons.mp h
  replace h := e.2
  clear e
  have e := List.forall_mem_cons.mp h
  have h190 := e.1
  replace h := e.2
  clear e
  have e := List.forall_mem_cons.mp h
  have h191 := e.1
  replace h := e.2
  clear e
  have e := List.forall_mem_cons.mp h
  have h192 := e.1
  replace h := e.2
  clear e
  have e := List.forall_mem_cons.mp h
  replace h := e.2
  clear e
  have e := List.forall_mem_cons.mp h
  have h194 := e.1
  replace h := e.2
  clear e
  have e := List.forall_mem_cons.mp h
  have h195 := e.1
  replace h := e.2
  clear e
  have e := List.forall_mem_cons.mp h
  have h196 := e.1
  replace h := e.2
  clear e
  have e := List.forall_mem_cons.mp h
  have h197 := e.1
  replace h := e.2
  clear e
  have e := List.forall_mem_cons.mp h
  have h198 := e.1
  replace h := e.2
  clear e
  have e := List.forall_mem_cons.mp h
  have h199 := e.1
  replace h := e.2
  clear e
  have e := List.forall_mem_cons.mp h
  have h200 := e.1
  replace h := e.2
  clear e
  have e := List.forall_mem_cons.mp h
  have h201 := e.1
  replace h := e.2
  clear e
  have e := List.forall_mem_cons.mp h
  have h202 := e.1
  replace h := e.2
  clear e
  have e := List.forall_mem_cons.mp h
  have h203 := e.1
  replace h := e.2
  clear e
  have e := List.forall_mem_cons.mp h
  have h204 := e.1
  replace h := e.2
  clear e
  have e := List.forall_mem_cons.mp h
  have h205 := e.1
  replace h := e.2
  clear e
  have e := List.forall_mem_cons.mp h
  have h206 := e.1
  replace h := e.2
  clear e
  have e := List.forall_mem_cons.mp h
  have h207 := e.1
  replace h := e.2
  clear e
  have e := List.forall_mem_cons.mp h
  have h208 := e.1
  replace h := e.2
  clear e
  have e := List.forall_mem_cons.mp h
  have h209 := e.1
  replace h := e.2
  clear e
  have e := List.forall_mem_cons.mp h
  have h210 := e.1
  replace h := e.2
  clear e
  have e := List.forall_mem_cons.mp h
  have h211 := e.1
  replace h := e.2
  clear e
  have e := List.forall_mem_cons.mp h
  have h212 := e.1
  replace h := e.2
  clear e
  have e := List.forall_mem_cons.mp h
  have h213 := e.1
  replace h := e.2
  clear e
  have e := List.forall_mem_cons.mp h
  replace h := e.2
  clear e
  have e := List.forall_mem_cons.mp h
  have h215 := e.1
  replace h := e.2
  clear e
  have e := List.forall_mem_cons.mp h
  have h216 := e.1
  replace h := e.2
  clear e
  have e := List.forall_mem_cons.mp h
  have h217 := e.1
  replace h := e.2
  clear e
  have e := List.forall_mem_cons.mp h
  replace h := e.2
  clear e
  have e := List.forall_mem_cons.mp h
  have h219 := e.1
  replace h := e.2
  clear e
  have e := List.forall_mem_cons.mp h
  have h220 := e.1
  replace h := e.2
  clear e
  have e := List.forall_mem_cons.mp h
  have h221 := e.1
  replace h := e.2
  clear e
  have e := List.forall_mem_cons.mp h
  replace h := e.2
  clear e
  have e := List.forall_mem_cons.mp h
  have h223 := e.1
  replace h := e.2
  clear e
  have e := List.forall_mem_cons.mp h
  have h224 := e.1
  replace h := e.2
  clear e
  have e := List.forall_mem_cons.mp h
  have h225 := e.1
  replace h := e.2
  clear e
  have e := List.forall_mem_cons.mp h
  replace h := e.2
  clear e
  have e := List.forall_mem_cons.mp h
  have h227 := e.1
  replace h := e.2
  clear e
  have e := List.forall_mem_cons.mp h
  have h228 := e.1
  replace h := e.2
  clear e
  have e := List.forall_mem_cons.mp h
  have h229 := e.1
  replace h := e.2
  clear e
  have e := List.forall_mem_cons.mp h
  replace h := e.2
  clear e
  have e := List.forall_mem_cons.mp h
  have h231 := e.1
  replace h := e.2
  clear e
  have e := List.forall_mem_cons.mp h
  have h232 := e.1
  replace h := e.2
  clear e
  have e := List.forall_mem_cons.mp h
  have h233 := e.1
  replace h := e.2
  clear e
  have e := List.forall_mem_cons.mp h
  replace h := e.2
  clear e
  have e := List.forall_mem_cons.mp h
  have h235 := e.1
  replace h := e.2
  clear e
  have e := List.forall_mem_cons.mp h
  have h236 := e.1
  replace h := e.2
  clear e
  have e := List.forall_mem_cons.mp h
  have h237 := e.1
  replace h := e.2
  clear e
  have e := List.forall_mem_cons.mp h
  replace h := e.2
  clear e
  have e := List.forall_mem_cons.mp h
  have h239 := e.1
  replace h := e.2
  clear e
  exact ⟨⟨h1, h2, h3, h5, h6, h7, h9, h10, h11, h13, h14, h15, h16, h17, h19, h20⟩, ⟨h21, h23, h24, h25, h27, h28, h29, h31, h32, h33, h35, h36, h37, h38, h39, h40⟩, ⟨h42, h43, h44, h46, h47, h48, h50, h51, h52, h54, h55, h56, h58, h59, h60, h62⟩, ⟨h63, h64, h65, h66, h67, h68, h69, h70, h71, h72, h74, h75, h76, h78, h79, h80⟩, ⟨h82, h83, h84, h86, h87, h88, h90, h91, h92, h94, h95, h96, h98, h99, h100, h102⟩, ⟨h103, h104, h106, h107, h108, h110, h111, h112, h114, h115, h116, h117, h118, h119, h121, h122⟩, ⟨h123, h124, h125, h126, h127, h128, h129, h130, h131, h132, h133, h134, h136, h137, h138, h139⟩, ⟨h140, h141, h142, h144, h145, h146, h147, h148, h149, h150, h152, h153, h154, h156, h157, h158⟩, ⟨h160, h161, h162, h164, h165, h166, h168, h169, h170, h172, h173, h174, h175, h177, h178, h179⟩, ⟨h180, h181, h182, h183, h184, h186, h187, h188, h190, h191, h192, h194, h195, h196, h197, h198⟩, ⟨h199, h200, h201, h202, h203, h204, h205, h206, h207, h208, h209, h210, h211, h212, h213, h215⟩, ⟨h216, h217, h219, h220, h221, h223, h224, h225, h227, h228, h229, h231, h232, h233, h235, h236⟩, ⟨h237, h239⟩⟩

set_option maxRecDepth 100000 in
set_option maxHeartbeats 40000000 in
theorem zq_t9 : ((Cond.code yX12_takesBack cX12_takesBack 2 none) ∈ lw_tbl ∧ (Cond.methodLink RL 71 yX12_next) ∈ lw_tbl ∧ (Cond.instanceMethod yX12_next) ∈ lw_tbl ∧ (Cond.selects RX12 yX12_next yX12_next) ∈ lw_tbl ∧ (Cond.code yX12_next cX12_next 3 (some .int)) ∈ lw_tbl ∧ (Cond.methodLink RL 75 yX12_lasts) ∈ lw_tbl ∧ (Cond.instanceMethod yX12_lasts) ∈ lw_tbl ∧ (Cond.selects RX12 yX12_lasts yX12_lasts) ∈ lw_tbl ∧ (Cond.code yX12_lasts cX12_lasts 5 (some .int)) ∈ lw_tbl ∧ (Cond.methodLink RX12 507 yX12_triesAnew) ∈ lw_tbl ∧ (Cond.instanceMethod yX12_triesAnew) ∈ lw_tbl ∧ (Cond.code yX12_triesAnew cX12_triesAnew 2 none) ∈ lw_tbl ∧ (Cond.methodLink RL 79 yX12_free) ∈ lw_tbl ∧ (Cond.instanceMethod yX12_free) ∈ lw_tbl ∧ (Cond.selects RX12 yX12_free yX12_free) ∈ lw_tbl ∧ (Cond.code yX12_free cX12_free 5 (some .int)) ∈ lw_tbl) ∧ ((Cond.methodLink RX12 510 yX12_cracksBy) ∈ lw_tbl ∧ (Cond.instanceMethod yX12_cracksBy) ∈ lw_tbl ∧ (Cond.code yX12_cracksBy cX12_cracksBy 4 (some .int)) ∈ lw_tbl ∧ (Cond.methodLink RL 83 yX12_needed) ∈ lw_tbl ∧ (Cond.instanceMethod yX12_needed) ∈ lw_tbl ∧ (Cond.selects RX12 yX12_needed yX12_needed) ∈ lw_tbl ∧ (Cond.code yX12_needed cX12_needed 4 (some .int)) ∈ lw_tbl ∧ (Cond.methodLink RL 87 yX12_stand) ∈ lw_tbl ∧ (Cond.instanceMethod yX12_stand) ∈ lw_tbl ∧ (Cond.selects RX12 yX12_stand yX12_stand) ∈ lw_tbl ∧ (Cond.code yX12_stand cX12_stand 10 (some .int)) ∈ lw_tbl ∧ (Cond.methodLink RX12 519 yX12_standsTry) ∈ lw_tbl ∧ (Cond.instanceMethod yX12_standsTry) ∈ lw_tbl ∧ (Cond.code yX12_standsTry cX12_standsTry 8 none) ∈ lw_tbl ∧ (Cond.methodLink RL 91 yX12_weak) ∈ lw_tbl ∧ (Cond.instanceMethod yX12_weak) ∈ lw_tbl) ∧ ((Cond.selects RX12 yX12_weak yX12_weak) ∈ lw_tbl ∧ (Cond.code yX12_weak cX12_weak 6 (some .int)) ∈ lw_tbl ∧ (Cond.methodLink RL 95 yX12_mends) ∈ lw_tbl ∧ (Cond.instanceMethod yX12_mends) ∈ lw_tbl ∧ (Cond.selects RX12 yX12_mends yX12_mends) ∈ lw_tbl ∧ (Cond.code yX12_mends cX12_mends 8 (some .int)) ∈ lw_tbl ∧ (Cond.methodLink RL 99 yX12_sound) ∈ lw_tbl ∧ (Cond.instanceMethod yX12_sound) ∈ lw_tbl ∧ (Cond.selects RX12 yX12_sound yX12_sound) ∈ lw_tbl ∧ (Cond.code yX12_sound cX12_sound 4 (some .int)) ∈ lw_tbl ∧ (Cond.methodLink RX12 523 yX12_refuses) ∈ lw_tbl ∧ (Cond.instanceMethod yX12_refuses) ∈ lw_tbl ∧ (Cond.code yX12_refuses cX12_refuses 2 (some .int)) ∈ lw_tbl ∧ (Cond.methodLink RL 103 yX12_who) ∈ lw_tbl ∧ (Cond.instanceMethod yX12_who) ∈ lw_tbl ∧ (Cond.selects RX12 yX12_who yX12_who) ∈ lw_tbl) ∧ ((Cond.code yX12_who cX12_who 5 (some .int)) ∈ lw_tbl ∧ (Cond.methodLink RX12 532 yX12_laysSets) ∈ lw_tbl ∧ (Cond.instanceMethod yX12_laysSets) ∈ lw_tbl ∧ (Cond.code yX12_laysSets cX12_laysSets 3 none) ∈ lw_tbl ∧ (Cond.methodLink RX12 529 yX12_isAsHeard) ∈ lw_tbl ∧ (Cond.instanceMethod yX12_isAsHeard) ∈ lw_tbl ∧ (Cond.code yX12_isAsHeard cX12_isAsHeard 3 (some .boolean)) ∈ lw_tbl ∧ (Cond.methodLink RL 107 yX12_knock) ∈ lw_tbl ∧ (Cond.instanceMethod yX12_knock) ∈ lw_tbl ∧ (Cond.selects RX12 yX12_knock yX12_knock) ∈ lw_tbl ∧ (Cond.code yX12_knock cX12_knock 7 (some .int)) ∈ lw_tbl ∧ (Cond.methodLink RX12 535 yX12_mostAlike) ∈ lw_tbl ∧ (Cond.instanceMethod yX12_mostAlike) ∈ lw_tbl ∧ (Cond.code yX12_mostAlike cX12_mostAlike 5 (some .int)) ∈ lw_tbl ∧ (Cond.methodLink RL 134 yX12_undo) ∈ lw_tbl ∧ (Cond.instanceMethod yX12_undo) ∈ lw_tbl) ∧ ((Cond.selects RX12 yX12_undo yX12_undo) ∈ lw_tbl ∧ (Cond.code yX12_undo cX12_undo 2 (some .boolean)) ∈ lw_tbl ∧ (Cond.methodLink RL 112 yX12_rest) ∈ lw_tbl ∧ (Cond.instanceMethod yX12_rest) ∈ lw_tbl ∧ (Cond.selects RX12 yX12_rest yX12_rest) ∈ lw_tbl ∧ (Cond.code yX12_rest cX12_rest 3 (some .boolean)) ∈ lw_tbl ∧ (Cond.methodLink RX12 541 yX12_isRefused) ∈ lw_tbl ∧ (Cond.instanceMethod yX12_isRefused) ∈ lw_tbl ∧ (Cond.code yX12_isRefused cX12_isRefused 1 (some .boolean)) ∈ lw_tbl ∧ (Cond.methodLink RX12 544 yX12_keeps) ∈ lw_tbl ∧ (Cond.instanceMethod yX12_keeps) ∈ lw_tbl ∧ (Cond.code yX12_keeps cX12_keeps 2 none) ∈ lw_tbl ∧ (Cond.methodLink RL 117 yX12_go) ∈ lw_tbl ∧ (Cond.instanceMethod yX12_go) ∈ lw_tbl ∧ (Cond.selects RX12 yX12_go yX12_go) ∈ lw_tbl ∧ (Cond.code yX12_go cX12_go 5 (some .boolean)) ∈ lw_tbl) ∧ ((Cond.methodLink RL 121 yX12_mend) ∈ lw_tbl ∧ (Cond.instanceMethod yX12_mend) ∈ lw_tbl ∧ (Cond.selects RX12 yX12_mend yX12_mend) ∈ lw_tbl ∧ (Cond.code yX12_mend cX12_mend 4 (some .boolean)) ∈ lw_tbl ∧ (Cond.methodLink RL 125 yX12_hours) ∈ lw_tbl ∧ (Cond.instanceMethod yX12_hours) ∈ lw_tbl ∧ (Cond.selects RX12 yX12_hours yX12_hours) ∈ lw_tbl ∧ (Cond.code yX12_hours cX12_hours 2 (some .int)) ∈ lw_tbl ∧ (Cond.methodLink RL 138 yX12_seed) ∈ lw_tbl ∧ (Cond.instanceMethod yX12_seed) ∈ lw_tbl ∧ (Cond.selects RX12 yX12_seed yX12_seed) ∈ lw_tbl ∧ (Cond.code yX12_seed cX12_seed 2 (some .boolean)) ∈ lw_tbl ∧ (Cond.methodLink RL 129 yX12_chance) ∈ lw_tbl ∧ (Cond.instanceMethod yX12_chance) ∈ lw_tbl ∧ (Cond.selects RX12 yX12_chance yX12_chance) ∈ lw_tbl ∧ (Cond.code yX12_chance cX12_chance 4 (some .int)) ∈ lw_tbl) ∧ ((Cond.methodLink RX12 555 yX12_drawOf) ∈ lw_tbl ∧ (Cond.instanceMethod yX12_drawOf) ∈ lw_tbl ∧ (Cond.code yX12_drawOf cX12_drawOf 2 (some .int)) ∈ lw_tbl ∧ (Cond.constantLong RX12 547 (1103515245)) ∈ lw_tbl ∧ (Cond.constantLong RX12 549 (12345)) ∈ lw_tbl ∧ (Cond.constantLong RX12 551 (2147483648)) ∈ lw_tbl ∧ (Cond.constantLong RX12 553 (64)) ∈ lw_tbl ∧ (Cond.methodLink RL 143 yX12_ask) ∈ lw_tbl ∧ (Cond.instanceMethod yX12_ask) ∈ lw_tbl ∧ (Cond.selects RX12 yX12_ask yX12_ask) ∈ lw_tbl ∧ (Cond.code yX12_ask cX12_ask 3 (some .long)) ∈ lw_tbl ∧ (Cond.methodLink RX12 642 yX12_qKind) ∈ lw_tbl ∧ (Cond.instanceMethod yX12_qKind) ∈ lw_tbl ∧ (Cond.code yX12_qKind cX12_qKind 2 (some .int)) ∈ lw_tbl ∧ (Cond.constantLong RX12 637 (-1)) ∈ lw_tbl ∧ (Cond.methodLink RX12 645 yX12_qTold) ∈ lw_tbl) ∧ ((Cond.instanceMethod yX12_qTold) ∈ lw_tbl ∧ (Cond.code yX12_qTold cX12_qTold 4 (some .long)) ∈ lw_tbl ∧ (Cond.methodLink RX12 630 yX12_qOf) ∈ lw_tbl ∧ (Cond.instanceMethod yX12_qOf) ∈ lw_tbl ∧ (Cond.code yX12_qOf cX12_qOf 5 (some .long)) ∈ lw_tbl ∧ (Cond.methodLink RX12 649 yX12_qTakes) ∈ lw_tbl ∧ (Cond.instanceMethod yX12_qTakes) ∈ lw_tbl ∧ (Cond.code yX12_qTakes cX12_qTakes 6 none) ∈ lw_tbl ∧ (Cond.methodLink RL 147 yX12_image) ∈ lw_tbl ∧ (Cond.instanceMethod yX12_image) ∈ lw_tbl ∧ (Cond.selects RX12 yX12_image yX12_image) ∈ lw_tbl ∧ (Cond.code yX12_image cX12_image 2 (some .int)) ∈ lw_tbl ∧ (Cond.methodLink RX12 656 yX12_writes) ∈ lw_tbl ∧ (Cond.instanceMethod yX12_writes) ∈ lw_tbl ∧ (Cond.code yX12_writes cX12_writes 2 none) ∈ lw_tbl ∧ (Cond.methodLink RX12 659 yX12_checked) ∈ lw_tbl) ∧ ((Cond.static yX12_checked) ∈ lw_tbl ∧ (Cond.code yX12_checked cX12_checked 4 (some .int)) ∈ lw_tbl ∧ (Cond.methodLink RL 151 yX12_octet) ∈ lw_tbl ∧ (Cond.instanceMethod yX12_octet) ∈ lw_tbl ∧ (Cond.selects RX12 yX12_octet yX12_octet) ∈ lw_tbl ∧ (Cond.code yX12_octet cX12_octet 2 (some .int)) ∈ lw_tbl ∧ (Cond.methodLink RL 155 yX12_on) ∈ lw_tbl ∧ (Cond.instanceMethod yX12_on) ∈ lw_tbl ∧ (Cond.selects RX12 yX12_on yX12_on) ∈ lw_tbl ∧ (Cond.code yX12_on cX12_on 5 (some .boolean)) ∈ lw_tbl ∧ (Cond.methodLink RX12 667 yX12_isImage) ∈ lw_tbl ∧ (Cond.instanceMethod yX12_isImage) ∈ lw_tbl ∧ (Cond.code yX12_isImage cX12_isImage 4 (some .boolean)) ∈ lw_tbl ∧ (Cond.methodLink RX12 663 yX12_isPersonTold) ∈ lw_tbl ∧ (Cond.instanceMethod yX12_isPersonTold) ∈ lw_tbl ∧ (Cond.code yX12_isPersonTold cX12_isPersonTold 5 (some .boolean)) ∈ lw_tbl) ∧ ((Cond.methodLink RL 159 yX12_status) ∈ lw_tbl ∧ (Cond.instanceMethod yX12_status) ∈ lw_tbl ∧ (Cond.selects RX12 yX12_status yX12_status) ∈ lw_tbl ∧ (Cond.code yX12_status cX12_status 2 (some .int)) ∈ lw_tbl ∧ (Cond.fieldLink RJ0 9 "java/lang/String" "value" "[B") ∈ lw_tbl ∧ (Cond.fieldLink RJ0 15 "java/lang/String" "coder" "B") ∈ lw_tbl) := by
  have h : ∀ w ∈ tables_1_9, w ∈ lw_tbl := fun w hm => List.mem_append_right _ (List.mem_append_right _ (List.mem_append_right _ (List.mem_append_right _ (List.mem_append_right _ (List.mem_append_right _ (List.mem_append_right _ (List.mem_append_right _ (List.mem_append_right _ (hm)))))))))
  unfold tables_1_9 at h
  have e := List.forall_mem_cons.mp h
  have h0 := e.1
  replace h := e.2
  clear e
  have e := List.forall_mem_cons.mp h
  have h1 := e.1
  replace h := e.2
  clear e
  have e := List.forall_mem_cons.mp h
  have h2 := e.1
  replace h := e.2
  clear e
  have e := List.forall_mem_cons.mp h
  have h3 := e.1
  replace h := e.2
  clear e
  have e := List.forall_mem_cons.mp h
  have h4 := e.1
  replace h := e.2
  clear e
  have e := List.forall_mem_cons.mp h
  have h5 := e.1
  replace h := e.2
  clear e
  have e := List.forall_mem_cons.mp h
  have h6 := e.1
  replace h := e.2
  clear e
  have e := List.forall_mem_cons.mp h
  have h7 := e.1
  replace h := e.2
  clear e
  have e := List.forall_mem_cons.mp h
  have h8 := e.1
  replace h := e.2
  clear e
  have e := List.forall_mem_cons.mp h
  have h9 := e.1
  replace h := e.2
  clear e
  have e := List.forall_mem_cons.mp h
  replace h := e.2
  clear e
  have e := List.forall_mem_cons.mp h
  have h11 := e.1
  replace h := e.2
  clear e
  have e := List.forall_mem_cons.mp h
  have h12 := e.1
  replace h := e.2
  clear e
  have e := List.forall_mem_cons.mp h
  have h13 := e.1
  replace h := e.2
  clear e
  have e := List.forall_mem_cons.mp h
  have h14 := e.1
  replace h := e.2
  clear e
  have e := List.forall_mem_cons.mp h
  have h15 := e.1
  replace h := e.2
  clear e
  have e := List.forall_mem_cons.mp h
  have h16 := e.1
  replace h := e.2
  clear e
  have e := List.forall_mem_cons.mp h
  have h17 := e.1
  replace h := e.2
  clear e
  have e := List.forall_mem_cons.mp h
  replace h := e.2
  clear e
  have e := List.forall_mem_cons.mp h
  have h19 := e.1
  replace h := e.2
  clear e
  have e := List.forall_mem_cons.mp h
  have h20 := e.1
  replace h := e.2
  clear e
  have e := List.forall_mem_cons.mp h
  have h21 := e.1
  replace h := e.2
  clear e
  have e := List.forall_mem_cons.mp h
  have h22 := e.1
  replace h := e.2
  clear e
  have e := List.forall_mem_cons.mp h
  have h23 := e.1
  replace h := e.2
  clear e
  have e := List.forall_mem_cons.mp h
  have h24 := e.1
  replace h := e.2
  clear e
  have e := List.forall_mem_cons.mp h
  have h25 := e.1
  replace h := e.2
  clear e
  have e := List.forall_mem_cons.mp h
  have h26 := e.1
  replace h := e.2
  clear e
  have e := List.forall_mem_cons.mp h
  have h27 := e.1
  replace h := e.2
  clear e
  have e := List.forall_mem_cons.mp h
  have h28 := e.1
  replace h := e.2
  clear e
  have e := List.forall_mem_cons.mp h
  have h29 := e.1
  replace h := e.2
  clear e
  have e := List.forall_mem_cons.mp h
  replace h := e.2
  clear e
  have e := List.forall_mem_cons.mp h
  have h31 := e.1
  replace h := e.2
  clear e
  have e := List.forall_mem_cons.mp h
  have h32 := e.1
  replace h := e.2
  clear e
  have e := List.forall_mem_cons.mp h
  have h33 := e.1
  replace h := e.2
  clear e
  have e := List.forall_mem_cons.mp h
  have h34 := e.1
  replace h := e.2
  clear e
  have e := List.forall_mem_cons.mp h
  have h35 := e.1
  replace h := e.2
  clear e
  have e := List.forall_mem_cons.mp h
  have h36 := e.1
  replace h := e.2
  clear e
  have e := List.forall_mem_cons.mp h
  have h37 := e.1
  replace h := e.2
  clear e
  have e := List.forall_mem_cons.mp h
  have h38 := e.1
  replace h := e.2
  clear e
  have e := List.forall_mem_cons.mp h
  have h39 := e.1
  replace h := e.2
  clear e
  have e := List.forall_mem_cons.mp h
  have h40 := e.1
  replace h := e.2
  clear e
  have e := List.forall_mem_cons.mp h
  have h41 := e.1
  replace h := e.2
  clear e
  have e := List.forall_mem_cons.mp h
  have h42 := e.1
  replace h := e.2
  clear e
  have e := List.forall_mem_cons.mp h
  have h43 := e.1
  replace h := e.2
  clear e
  have e := List.forall_mem_cons.mp h
  have h44 := e.1
  replace h := e.2
  clear e
  have e := List.forall_mem_cons.mp h
  have h45 := e.1
  replace h := e.2
  clear e
  have e := List.forall_mem_cons.mp h
  replace h := e.2
  clear e
  have e := List.forall_mem_cons.mp h
  have h47 := e.1
  replace h := e.2
  clear e
  have e := List.forall_mem_cons.mp h
  have h48 := e.1
  replace h := e.2
  clear e
  have e := List.forall_mem_cons.mp h
  have h49 := e.1
  replace h := e.2
  clear e
  have e := List.forall_mem_cons.mp h
  have h50 := e.1
  replace h := e.2
  clear e
  have e := List.forall_mem_cons.mp h
  have h51 := e.1
  replace h := e.2
  clear e
  have e := List.forall_mem_cons.mp h
  have h52 := e.1
  replace h := e.2
  clear e
  have e := List.forall_mem_cons.mp h
  have h53 := e.1
  replace h := e.2
  clear e
  have e := List.forall_mem_cons.mp h
  replace h := e.2
  clear e
  have e := List.forall_mem_cons.mp h
  have h55 := e.1
  replace h := e.2
  clear e
  have e := List.forall_mem_cons.mp h
  have h56 := e.1
  replace h := e.2
  clear e
  have e := List.forall_mem_cons.mp h
  have h57 := e.1
  replace h := e.2
  clear e
  have e := List.forall_mem_cons.mp h
  replace h := e.2
  clear e
  have e := List.forall_mem_cons.mp h
  have h59 := e.1
  replace h := e.2
  clear e
  have e := List.forall_mem_cons.mp h
  have h60 := e.1
  replace h := e.2
  clear e
  have e := List.forall_mem_cons.mp h
  have h61 := e.1
  replace h := e.2
  clear e
  have e := List.forall_mem_cons.mp h
  have h62 := e.1
  replace h := e.2
  clear e
  have e := List.forall_mem_cons.mp h
  have h63 := e.1
  replace h := e.2
  clear e
  have e := List.forall_mem_cons.mp h
  have h64 := e.1
  replace h := e.2
  clear e
  have e := List.forall_mem_cons.mp h
  have h65 := e.1
  replace h := e.2
  clear e
  have e := List.forall_mem_cons.mp h
  replace h := e.2
  clear e
  have e := List.forall_mem_cons.mp h
  have h67 := e.1
  replace h := e.2
  clear e
  have e := List.forall_mem_cons.mp h
  have h68 := e.1
  replace h := e.2
  clear e
  have e := List.forall_mem_cons.mp h
  have h69 := e.1
  replace h := e.2
  clear e
  have e := List.forall_mem_cons.mp h
  have h70 := e.1
  replace h := e.2
  clear e
  have e := List.forall_mem_cons.mp h
  have h71 := e.1
  replace h := e.2
  clear e
  have e := List.forall_mem_cons.mp h
  have h72 := e.1
  replace h := e.2
  clear e
  have e := List.forall_mem_cons.mp h
  have h73 := e.1
  replace h := e.2
  clear e
  have e := List.forall_mem_cons.mp h
  have h74 := e.1
  replace h := e.2
  clear e
  have e := List.forall_mem_cons.mp h
  have h75 := e.1
  replace h := e.2
  clear e
  have e := List.forall_mem_cons.mp h
  have h76 := e.1
  replace h := e.2
  clear e
  have e := List.forall_mem_cons.mp h
  have h77 := e.1
  replace h := e.2
  clear e
  have e := List.forall_mem_cons.mp h
  replace h := e.2
  clear e
  have e := List.forall_mem_cons.mp h
  have h79 := e.1
  replace h := e.2
  clear e
  have e := List.forall_mem_cons.mp h
  have h80 := e.1
  replace h := e.2
  clear e
  have e := List.forall_mem_cons.mp h
  have h81 := e.1
  replace h := e.2
  clear e
  have e := List.forall_mem_cons.mp h
  replace h := e.2
  clear e
  have e := List.forall_mem_cons.mp h
  have h83 := e.1
  replace h := e.2
  clear e
  have e := List.forall_mem_cons.mp h
  have h84 := e.1
  replace h := e.2
  clear e
  have e := List.forall_mem_cons.mp h
  have h85 := e.1
  replace h := e.2
  clear e
  have e := List.forall_mem_cons.mp h
  have h86 := e.1
  replace h := e.2
  clear e
  have e := List.forall_mem_cons.mp h
  have h87 := e.1
  replace h := e.2
  clear e
  have e := List.forall_mem_cons.mp h
  have h88 := e.1
  replace h := e.2
  clear e
  have e := List.forall_mem_cons.mp h
  have h89 := e.1
  replace h := e.2
  clear e
  have e := List.forall_mem_cons.mp h
  have h90 := e.1
  replace h := e.2
  clear e
  have e := List.forall_mem_cons.mp h
  have h91 := e.1
  replace h := e.2
  clear e
  have e := List.forall_mem_cons.mp h
  have h92 := e.1
  replace h := e.2
  clear e
  have e := List.forall_mem_cons.mp h
  have h93 := e.1
  replace h := e.2
  clear e
  have e := List.forall_mem_cons.mp h
  have h94 := e.1
  replace h := e.2
  clear e
  have e := List.forall_mem_cons.mp h
  have h95 := e.1
  replace h := e.2
  clear e
  have e := List.forall_mem_cons.mp h
  have h96 := e.1
  replace h := e.2
  clear e
  have e := List.forall_mem_cons.mp h
  have h97 := e.1
  replace h := e.2
  clear e
  have e := List.forall_mem_cons.mp h
  have h98 := e.1
  replace h := e.2
  clear e
  have e := List.forall_mem_cons.mp h
  have h99 := e.1
  replace h := e.2
  clear e
  have e := List.forall_mem_cons.mp h
  have h100 := e.1
  replace h := e.2
  clear e
  have e := List.forall_mem_cons.mp h
  have h101 := e.1
  replace h := e.2
  clear e
  have e := List.forall_mem_cons.mp h
  have h102 := e.1
  replace h := e.2
  clear e
  have e := List.forall_mem_cons.mp h
  have h103 := e.1
  replace h := e.2
  clear e
  have e := List.forall_mem_cons.mp h
  have h104 := e.1
  replace h := e.2
  clear e
  have e := List.forall_mem_cons.mp h
  have h105 := e.1
  replace h := e.2
  clear e
  have e := List.forall_mem_cons.mp h
  replace h := e.2
  clear e
  have e := List.forall_mem_cons.mp h
  have h107 := e.1
  replace h := e.2
  clear e
  have e := List.forall_mem_cons.mp h
  have h108 := e.1
  replace h := e.2
  clear e
  have e := List.forall_mem_cons.mp h
  have h109 := e.1
  replace h := e.2
  clear e
  have e := List.forall_mem_cons.mp h
  have h110 := e.1
  replace h := e.2
  clear e
  have e := List.forall_mem_cons.mp h
  have h111 := e.1
  replace h := e.2
  clear e
  have e := List.forall_mem_cons.mp h
  have h112 := e.1
  replace h := e.2
  clear e
  have e := List.forall_mem_cons.mp h
  have h113 := e.1
  replace h := e.2
  clear e
  have e := List.forall_mem_cons.mp h
  have h114 := e.1
  replace h := e.2
  clear e
  have e := List.forall_mem_cons.mp h
  have h115 := e.1
  replace h := e.2
  clear e
  have e := List.forall_mem_cons.mp h
  have h116 := e.1
  replace h := e.2
  clear e
  have e := List.forall_mem_cons.mp h
  have h117 := e.1
  replace h := e.2
  clear e
  have e := List.forall_mem_cons.mp h
  replace h := e.2
  clear e
  have e := List.forall_mem_cons.mp h
  have h119 := e.1
  replace h := e.2
  clear e
  have e := List.forall_mem_cons.mp h
  have h120 := e.1
  replace h := e.2
  clear e
  have e := List.forall_mem_cons.mp h
  have h121 := e.1
  replace h := e.2
  clear e
  have e := List.forall_mem_cons.mp h
  have h122 := e.1
  replace h := e.2
  clear e
  have e := List.forall_mem_cons.mp h
  replace h := e.2
  clear e
  have e := List.forall_mem_cons.mp h
  have h124 := e.1
  replace h := e.2
  clear e
  have e := List.forall_mem_cons.mp h
  have h125 := e.1
  replace h := e.2
  clear e
  have e := List.forall_mem_cons.mp h
  have h126 := e.1
  replace h := e.2
  clear e
  have e := List.forall_mem_cons.mp h
  replace h := e.2
  clear e
  have e := List.forall_mem_cons.mp h
  have h128 := e.1
  replace h := e.2
  clear e
  have e := List.forall_mem_cons.mp h
  have h129 := e.1
  replace h := e.2
  clear e
  have e := List.forall_mem_cons.mp h
  have h130 := e.1
  replace h := e.2
  clear e
  have e := List.forall_mem_cons.mp h
  replace h := e.2
  clear e
  have e := List.forall_mem_cons.mp h
  have h132 := e.1
  replace h := e.2
  clear e
  have e := List.forall_mem_cons.mp h
  have h133 := e.1
  replace h := e.2
  clear e
  have e := List.forall_mem_cons.mp h
  have h134 := e.1
  replace h := e.2
  clear e
  have e := List.forall_mem_cons.mp h
  have h135 := e.1
  replace h := e.2
  clear e
  have e := List.forall_mem_cons.mp h
  have h136 := e.1
  replace h := e.2
  clear e
  have e := List.forall_mem_cons.mp h
  have h137 := e.1
  replace h := e.2
  clear e
  have e := List.forall_mem_cons.mp h
  have h138 := e.1
  replace h := e.2
  clear e
  have e := List.forall_mem_cons.mp h
  replace h := e.2
  clear e
  have e := List.forall_mem_cons.mp h
  have h140 := e.1
  replace h := e.2
  clear e
  have e := List.forall_mem_cons.mp h
  have h141 := e.1
  replace h := e.2
  clear e
  have e := List.forall_mem_cons.mp h
  have h142 := e.1
  replace h := e.2
  clear e
  have e := List.forall_mem_cons.mp h
  have h143 := e.1
  replace h := e.2
  clear e
  have e := List.forall_mem_cons.mp h
  have h144 := e.1
  replace h := e.2
  clear e
  have e := List.forall_mem_cons.mp h
  have h145 := e.1
  replace h := e.2
  clear e
  have e := List.forall_mem_cons.mp h
  have h146 := e.1
  replace h := e.2
  clear e
  have e := List.forall_mem_cons.mp h
  have h147 := e.1
  replace h := e.2
  clear e
  have e := List.forall_mem_cons.mp h
  have h148 := e.1
  replace h := e.2
  clear e
  have e := List.forall_mem_cons.mp h
  have h149 := e.1
  replace h := e.2
  clear e
  have e := List.forall_mem_cons.mp h
  have h150 := e.1
  replace h := e.2
  clear e
  have e := List.forall_mem_cons.mp h
  have h151 := e.1
  replace h := e.2
  clear e
  have e := List.forall_mem_cons.mp h
  have h152 := e.1
  replace h := e.2
  clear e
  have e := List.forall_mem_cons.mp h
  have h153 := e.1
  replace h := e.2
  clear e
  have e := List.forall_mem_cons.mp h
  replace h := e.2
  clear e
  have e := List.forall_mem_cons.mp h
  have h155 := e.1
  replace h := e.2
  clear e
  have e := List.forall_mem_cons.mp h
  have h156 := e.1
  replace h := e.2
  clear e
  have e := List.forall_mem_cons.mp h
  have h157 := e.1
  replace h := e.2
  clear e
  have e := List.forall_mem_cons.mp h
  replace h := e.2
  clear e
  have e := List.forall_mem_cons.mp h
  have h159 := e.1
  replace h := e.2
  clear e
  have e := List.forall_mem_cons.mp h
  have h160 := e.1
  replace h := e.2
  clear e
  have e := List.forall_mem_cons.mp h
  have h161 := e.1
  replace h := e.2
  clear e
  have e := List.forall_mem_cons.mp h
  have h162 := e.1
  replace h := e.2
  clear e
  have e := List.forall_mem_cons.mp h
  have h163 := e.1
  replace h := e.2
  clear e
  have e := List.forall_mem_cons.mp h
  have h164 := e.1
  replace h := e.2
  clear e
  have e := List.forall_mem_cons.mp h
  have h165 := e.1
  replace h := e.2
  clear e
  have e := List.forall_mem_cons.mp h
  have h166 := e.1
  replace h := e.2
  clear e
  exact ⟨⟨h0, h1, h2, h3, h4, h5, h6, h7, h8, h9, h11, h12, h13, h14, h15, h16⟩, ⟨h17, h19, h20, h21, h22, h23, h24, h25, h26, h27, h28, h29, h31, h32, h33, h34⟩, ⟨h35, h36, h37, h38, h39, h40, h41, h42, h43, h44, h45, h47, h48, h49, h50, h51⟩, ⟨h52, h53, h55, h56, h57, h59, h60, h61, h62, h63, h64, h65, h67, h68, h69, h70⟩, ⟨h71, h72, h73, h74, h75, h76, h77, h79, h80, h81, h83, h84, h85, h86, h87, h88⟩, ⟨h89, h90, h91, h92, h93, h94, h95, h96, h97, h98, h99, h100, h101, h102, h103, h104⟩, ⟨h105, h107, h108, h109, h110, h111, h112, h113, h114, h115, h116, h117, h119, h120, h121, h122⟩, ⟨h124, h125, h126, h128, h129, h130, h132, h133, h134, h135, h136, h137, h138, h140, h141, h142⟩, ⟨h143, h144, h145, h146, h147, h148, h149, h150, h151, h152, h153, h155, h156, h157, h159, h160⟩, ⟨h161, h162, h163, h164, h165, h166⟩⟩

set_option maxRecDepth 100000 in
set_option maxHeartbeats 40000000 in
theorem zq_p1 : ((Cond.selects RX11 yX11_refusal yX11_refusal) ∈ lw_tbl ∧ (Cond.selects RX11 yX11_denial yX11_denial) ∈ lw_tbl ∧ (Cond.selects RX5 yX5_cutWord yX5_cutWord) ∈ lw_tbl ∧ (Cond.selects RX5 yX5_addToken yX5_addToken) ∈ lw_tbl ∧ (Cond.selects RX5 yX5_knownWord yX5_knownWord) ∈ lw_tbl ∧ (Cond.selects RX5 yX5_cutNumber yX5_cutNumber) ∈ lw_tbl ∧ (Cond.selects RX8 yX8_readPane yX8_readPane) ∈ lw_tbl ∧ (Cond.selects RX8 yX8_readStatement yX8_readStatement) ∈ lw_tbl ∧ (Cond.selects RX8 yX8_readHeavy yX8_readHeavy) ∈ lw_tbl ∧ (Cond.selects RX8 yX8_readPole yX8_readPole) ∈ lw_tbl ∧ (Cond.selects RX8 yX8_takeName yX8_takeName) ∈ lw_tbl ∧ (Cond.selects RX8 yX8_readAdds yX8_readAdds) ∈ lw_tbl ∧ (Cond.selects RX1 yX1_sum yX1_sum) ∈ lw_tbl ∧ (Cond.selects RX1 yX1_product yX1_product) ∈ lw_tbl ∧ (Cond.selects RX1 yX1_part yX1_part) ∈ lw_tbl ∧ (Cond.selects RX1 yX1_opens yX1_opens) ∈ lw_tbl) := by
  have h : ∀ q ∈ lw_privs_1, Cond.selects q.1.cls q.1 q.1 ∈ lw_tbl := fun q hm => List.mem_append_left _ (List.mem_map.mpr ⟨q, List.mem_append_left _ hm, rfl⟩)
  unfold lw_privs_1 at h
  have e := List.forall_mem_cons.mp h
  have h0 := e.1
  replace h := e.2
  clear e
  have e := List.forall_mem_cons.mp h
  have h1 := e.1
  replace h := e.2
  clear e
  have e := List.forall_mem_cons.mp h
  have h2 := e.1
  replace h := e.2
  clear e
  have e := List.forall_mem_cons.mp h
  have h3 := e.1
  replace h := e.2
  clear e
  have e := List.forall_mem_cons.mp h
  have h4 := e.1
  replace h := e.2
  clear e
  have e := List.forall_mem_cons.mp h
  have h5 := e.1
  replace h := e.2
  clear e
  have e := List.forall_mem_cons.mp h
  have h6 := e.1
  replace h := e.2
  clear e
  have e := List.forall_mem_cons.mp h
  have h7 := e.1
  replace h := e.2
  clear e
  have e := List.forall_mem_cons.mp h
  have h8 := e.1
  replace h := e.2
  clear e
  have e := List.forall_mem_cons.mp h
  have h9 := e.1
  replace h := e.2
  clear e
  have e := List.forall_mem_cons.mp h
  have h10 := e.1
  replace h := e.2
  clear e
  have e := List.forall_mem_cons.mp h
  have h11 := e.1
  replace h := e.2
  clear e
  have e := List.forall_mem_cons.mp h
  have h12 := e.1
  replace h := e.2
  clear e
  have e := List.forall_mem_cons.mp h
  have h13 := e.1
  replace h := e.2
  clear e
  have e := List.forall_mem_cons.mp h
  have h14 := e.1
  replace h := e.2
  clear e
  have e := List.forall_mem_cons.mp h
  have h15 := e.1
  replace h := e.2
  clear e
  exact ⟨h0, h1, h2, h3, h4, h5, h6, h7, h8, h9, h10, h11, h12, h13, h14, h15⟩

set_option maxRecDepth 100000 in
set_option maxHeartbeats 40000000 in
theorem zq_p2 : ((Cond.selects RX1 yX1_pair yX1_pair) ∈ lw_tbl ∧ (Cond.selects RX1 yX1_isValue yX1_isValue) ∈ lw_tbl ∧ (Cond.selects RX8 yX8_readHolds yX8_readHolds) ∈ lw_tbl ∧ (Cond.selects RX1 yX1_test yX1_test) ∈ lw_tbl ∧ (Cond.selects RX1 yX1_both yX1_both) ∈ lw_tbl ∧ (Cond.selects RX1 yX1_fact yX1_fact) ∈ lw_tbl ∧ (Cond.selects RX1 yX1_comparison yX1_comparison) ∈ lw_tbl ∧ (Cond.selects RX11 yX11_rememberFault yX11_rememberFault) ∈ lw_tbl ∧ (Cond.selects RX11 yX11_holdersNow yX11_holdersNow) ∈ lw_tbl ∧ (Cond.selects RX6 yX6_countNear yX6_countNear) ∈ lw_tbl ∧ (Cond.selects RX6 yX6_measureLift yX6_measureLift) ∈ lw_tbl ∧ (Cond.selects RX6 yX6_liftOver yX6_liftOver) ∈ lw_tbl ∧ (Cond.selects RX6 yX6_showTime yX6_showTime) ∈ lw_tbl ∧ (Cond.selects RX6 yX6_showPerson yX6_showPerson) ∈ lw_tbl ∧ (Cond.selects RX0 yX0_farTo yX0_farTo) ∈ lw_tbl ∧ (Cond.selects RX11 yX11_balanceNow yX11_balanceNow) ∈ lw_tbl) := by
  have h : ∀ q ∈ lw_privs_2, Cond.selects q.1.cls q.1 q.1 ∈ lw_tbl := fun q hm => List.mem_append_left _ (List.mem_map.mpr ⟨q, List.mem_append_right _ (List.mem_append_left _ hm), rfl⟩)
  unfold lw_privs_2 at h
  have e := List.forall_mem_cons.mp h
  have h0 := e.1
  replace h := e.2
  clear e
  have e := List.forall_mem_cons.mp h
  have h1 := e.1
  replace h := e.2
  clear e
  have e := List.forall_mem_cons.mp h
  have h2 := e.1
  replace h := e.2
  clear e
  have e := List.forall_mem_cons.mp h
  have h3 := e.1
  replace h := e.2
  clear e
  have e := List.forall_mem_cons.mp h
  have h4 := e.1
  replace h := e.2
  clear e
  have e := List.forall_mem_cons.mp h
  have h5 := e.1
  replace h := e.2
  clear e
  have e := List.forall_mem_cons.mp h
  have h6 := e.1
  replace h := e.2
  clear e
  have e := List.forall_mem_cons.mp h
  have h7 := e.1
  replace h := e.2
  clear e
  have e := List.forall_mem_cons.mp h
  have h8 := e.1
  replace h := e.2
  clear e
  have e := List.forall_mem_cons.mp h
  have h9 := e.1
  replace h := e.2
  clear e
  have e := List.forall_mem_cons.mp h
  have h10 := e.1
  replace h := e.2
  clear e
  have e := List.forall_mem_cons.mp h
  have h11 := e.1
  replace h := e.2
  clear e
  have e := List.forall_mem_cons.mp h
  have h12 := e.1
  replace h := e.2
  clear e
  have e := List.forall_mem_cons.mp h
  have h13 := e.1
  replace h := e.2
  clear e
  have e := List.forall_mem_cons.mp h
  have h14 := e.1
  replace h := e.2
  clear e
  have e := List.forall_mem_cons.mp h
  have h15 := e.1
  replace h := e.2
  clear e
  exact ⟨h0, h1, h2, h3, h4, h5, h6, h7, h8, h9, h10, h11, h12, h13, h14, h15⟩

set_option maxRecDepth 100000 in
set_option maxHeartbeats 40000000 in
theorem zq_p3 : ((Cond.selects RX6 yX6_hasLoads yX6_hasLoads) ∈ lw_tbl ∧ (Cond.selects RX6 yX6_measureLoads yX6_measureLoads) ∈ lw_tbl ∧ (Cond.selects RX6 yX6_loadNeighbours yX6_loadNeighbours) ∈ lw_tbl ∧ (Cond.selects RX6 yX6_addLoad yX6_addLoad) ∈ lw_tbl ∧ (Cond.selects RX6 yX6_measureLifted yX6_measureLifted) ∈ lw_tbl ∧ (Cond.selects RX11 yX11_isAhead yX11_isAhead) ∈ lw_tbl ∧ (Cond.selects RX11 yX11_lookAhead yX11_lookAhead) ∈ lw_tbl ∧ (Cond.selects RX6 yX6_cracking yX6_cracking) ∈ lw_tbl ∧ (Cond.selects RX6 yX6_tire yX6_tire) ∈ lw_tbl ∧ (Cond.selects RX11 yX11_staysWhole yX11_staysWhole) ∈ lw_tbl ∧ (Cond.selects RX6 yX6_isMissed yX6_isMissed) ∈ lw_tbl ∧ (Cond.selects RX7 yX7_keepAwake yX7_keepAwake) ∈ lw_tbl ∧ (Cond.selects RX7 yX7_measureLifted yX7_measureLifted) ∈ lw_tbl ∧ (Cond.selects RX6 yX6_tryPlace yX6_tryPlace) ∈ lw_tbl ∧ (Cond.selects RX11 yX11_tellFound yX11_tellFound) ∈ lw_tbl ∧ (Cond.selects RX11 yX11_crackedWithMended yX11_crackedWithMended) ∈ lw_tbl) := by
  have h : ∀ q ∈ lw_privs_3, Cond.selects q.1.cls q.1 q.1 ∈ lw_tbl := fun q hm => List.mem_append_left _ (List.mem_map.mpr ⟨q, List.mem_append_right _ (List.mem_append_right _ (List.mem_append_left _ hm)), rfl⟩)
  unfold lw_privs_3 at h
  have e := List.forall_mem_cons.mp h
  have h0 := e.1
  replace h := e.2
  clear e
  have e := List.forall_mem_cons.mp h
  have h1 := e.1
  replace h := e.2
  clear e
  have e := List.forall_mem_cons.mp h
  have h2 := e.1
  replace h := e.2
  clear e
  have e := List.forall_mem_cons.mp h
  have h3 := e.1
  replace h := e.2
  clear e
  have e := List.forall_mem_cons.mp h
  have h4 := e.1
  replace h := e.2
  clear e
  have e := List.forall_mem_cons.mp h
  have h5 := e.1
  replace h := e.2
  clear e
  have e := List.forall_mem_cons.mp h
  have h6 := e.1
  replace h := e.2
  clear e
  have e := List.forall_mem_cons.mp h
  have h7 := e.1
  replace h := e.2
  clear e
  have e := List.forall_mem_cons.mp h
  have h8 := e.1
  replace h := e.2
  clear e
  have e := List.forall_mem_cons.mp h
  have h9 := e.1
  replace h := e.2
  clear e
  have e := List.forall_mem_cons.mp h
  have h10 := e.1
  replace h := e.2
  clear e
  have e := List.forall_mem_cons.mp h
  have h11 := e.1
  replace h := e.2
  clear e
  have e := List.forall_mem_cons.mp h
  have h12 := e.1
  replace h := e.2
  clear e
  have e := List.forall_mem_cons.mp h
  have h13 := e.1
  replace h := e.2
  clear e
  have e := List.forall_mem_cons.mp h
  have h14 := e.1
  replace h := e.2
  clear e
  have e := List.forall_mem_cons.mp h
  have h15 := e.1
  replace h := e.2
  clear e
  exact ⟨h0, h1, h2, h3, h4, h5, h6, h7, h8, h9, h10, h11, h12, h13, h14, h15⟩

set_option maxRecDepth 100000 in
set_option maxHeartbeats 40000000 in
theorem zq_p4 : ((Cond.selects RX7 yX7_mostAlike yX7_mostAlike) ∈ lw_tbl ∧ (Cond.selects RX10 yX10_keepOne yX10_keepOne) ∈ lw_tbl ∧ (Cond.selects RX11 yX11_draw yX11_draw) ∈ lw_tbl ∧ (Cond.selects RX11 yX11_firstFor yX11_firstFor) ∈ lw_tbl ∧ (Cond.selects RX11 yX11_answerOf yX11_answerOf) ∈ lw_tbl ∧ (Cond.selects RX11 yX11_lastFor yX11_lastFor) ∈ lw_tbl ∧ (Cond.selects RX11 yX11_howOften yX11_howOften) ∈ lw_tbl ∧ (Cond.selects RX11 yX11_total yX11_total) ∈ lw_tbl ∧ (Cond.selects RX11 yX11_most yX11_most) ∈ lw_tbl ∧ (Cond.selects RX11 yX11_least yX11_least) ∈ lw_tbl ∧ (Cond.selects RX10 yX10_readPerson yX10_readPerson) ∈ lw_tbl ∧ (Cond.selects RX12 yX12_paneTold yX12_paneTold) ∈ lw_tbl ∧ (Cond.selects RX12 yX12_asks yX12_asks) ∈ lw_tbl ∧ (Cond.selects RX12 yX12_takes yX12_takes) ∈ lw_tbl ∧ (Cond.selects RX12 yX12_isHere yX12_isHere) ∈ lw_tbl ∧ (Cond.selects RX12 yX12_look yX12_look) ∈ lw_tbl) := by
  have h : ∀ q ∈ lw_privs_4, Cond.selects q.1.cls q.1 q.1 ∈ lw_tbl := fun q hm => List.mem_append_left _ (List.mem_map.mpr ⟨q, List.mem_append_right _ (List.mem_append_right _ (List.mem_append_right _ (List.mem_append_left _ hm))), rfl⟩)
  unfold lw_privs_4 at h
  have e := List.forall_mem_cons.mp h
  have h0 := e.1
  replace h := e.2
  clear e
  have e := List.forall_mem_cons.mp h
  have h1 := e.1
  replace h := e.2
  clear e
  have e := List.forall_mem_cons.mp h
  have h2 := e.1
  replace h := e.2
  clear e
  have e := List.forall_mem_cons.mp h
  have h3 := e.1
  replace h := e.2
  clear e
  have e := List.forall_mem_cons.mp h
  have h4 := e.1
  replace h := e.2
  clear e
  have e := List.forall_mem_cons.mp h
  have h5 := e.1
  replace h := e.2
  clear e
  have e := List.forall_mem_cons.mp h
  have h6 := e.1
  replace h := e.2
  clear e
  have e := List.forall_mem_cons.mp h
  have h7 := e.1
  replace h := e.2
  clear e
  have e := List.forall_mem_cons.mp h
  have h8 := e.1
  replace h := e.2
  clear e
  have e := List.forall_mem_cons.mp h
  have h9 := e.1
  replace h := e.2
  clear e
  have e := List.forall_mem_cons.mp h
  have h10 := e.1
  replace h := e.2
  clear e
  have e := List.forall_mem_cons.mp h
  have h11 := e.1
  replace h := e.2
  clear e
  have e := List.forall_mem_cons.mp h
  have h12 := e.1
  replace h := e.2
  clear e
  have e := List.forall_mem_cons.mp h
  have h13 := e.1
  replace h := e.2
  clear e
  have e := List.forall_mem_cons.mp h
  have h14 := e.1
  replace h := e.2
  clear e
  have e := List.forall_mem_cons.mp h
  have h15 := e.1
  replace h := e.2
  clear e
  exact ⟨h0, h1, h2, h3, h4, h5, h6, h7, h8, h9, h10, h11, h12, h13, h14, h15⟩

set_option maxRecDepth 100000 in
set_option maxHeartbeats 40000000 in
theorem zq_p5 : ((Cond.selects RX12 yX12_fail yX12_fail) ∈ lw_tbl ∧ (Cond.selects RX12 yX12_number yX12_number) ∈ lw_tbl ∧ (Cond.selects RX12 yX12_asksSign yX12_asksSign) ∈ lw_tbl ∧ (Cond.selects RX12 yX12_takesSign yX12_takesSign) ∈ lw_tbl ∧ (Cond.selects RX12 yX12_statementTold yX12_statementTold) ∈ lw_tbl ∧ (Cond.selects RX12 yX12_heavyTold yX12_heavyTold) ∈ lw_tbl ∧ (Cond.selects RX12 yX12_cellTold yX12_cellTold) ∈ lw_tbl ∧ (Cond.selects RX12 yX12_poleTold yX12_poleTold) ∈ lw_tbl ∧ (Cond.selects RX12 yX12_name yX12_name) ∈ lw_tbl ∧ (Cond.selects RX12 yX12_isOwnHere yX12_isOwnHere) ∈ lw_tbl ∧ (Cond.selects RX12 yX12_codesTold yX12_codesTold) ∈ lw_tbl ∧ (Cond.selects RX12 yX12_qTest yX12_qTest) ∈ lw_tbl ∧ (Cond.selects RX12 yX12_qOpens yX12_qOpens) ∈ lw_tbl ∧ (Cond.selects RX12 yX12_qFact yX12_qFact) ∈ lw_tbl ∧ (Cond.selects RX12 yX12_qCode yX12_qCode) ∈ lw_tbl ∧ (Cond.selects RX12 yX12_qSums yX12_qSums) ∈ lw_tbl) := by
  have h : ∀ q ∈ lw_privs_5, Cond.selects q.1.cls q.1 q.1 ∈ lw_tbl := fun q hm => List.mem_append_left _ (List.mem_map.mpr ⟨q, List.mem_append_right _ (List.mem_append_right _ (List.mem_append_right _ (List.mem_append_right _ (List.mem_append_left _ hm)))), rfl⟩)
  unfold lw_privs_5 at h
  have e := List.forall_mem_cons.mp h
  have h0 := e.1
  replace h := e.2
  clear e
  have e := List.forall_mem_cons.mp h
  have h1 := e.1
  replace h := e.2
  clear e
  have e := List.forall_mem_cons.mp h
  have h2 := e.1
  replace h := e.2
  clear e
  have e := List.forall_mem_cons.mp h
  have h3 := e.1
  replace h := e.2
  clear e
  have e := List.forall_mem_cons.mp h
  have h4 := e.1
  replace h := e.2
  clear e
  have e := List.forall_mem_cons.mp h
  have h5 := e.1
  replace h := e.2
  clear e
  have e := List.forall_mem_cons.mp h
  have h6 := e.1
  replace h := e.2
  clear e
  have e := List.forall_mem_cons.mp h
  have h7 := e.1
  replace h := e.2
  clear e
  have e := List.forall_mem_cons.mp h
  have h8 := e.1
  replace h := e.2
  clear e
  have e := List.forall_mem_cons.mp h
  have h9 := e.1
  replace h := e.2
  clear e
  have e := List.forall_mem_cons.mp h
  have h10 := e.1
  replace h := e.2
  clear e
  have e := List.forall_mem_cons.mp h
  have h11 := e.1
  replace h := e.2
  clear e
  have e := List.forall_mem_cons.mp h
  have h12 := e.1
  replace h := e.2
  clear e
  have e := List.forall_mem_cons.mp h
  have h13 := e.1
  replace h := e.2
  clear e
  have e := List.forall_mem_cons.mp h
  have h14 := e.1
  replace h := e.2
  clear e
  have e := List.forall_mem_cons.mp h
  have h15 := e.1
  replace h := e.2
  clear e
  exact ⟨h0, h1, h2, h3, h4, h5, h6, h7, h8, h9, h10, h11, h12, h13, h14, h15⟩

set_option maxRecDepth 100000 in
set_option maxHeartbeats 40000000 in
theorem zq_p6 : ((Cond.selects RX12 yX12_qPartTold yX12_qPartTold) ∈ lw_tbl ∧ (Cond.selects RX12 yX12_qWordOf yX12_qWordOf) ∈ lw_tbl ∧ (Cond.selects RX12 yX12_qWordHere yX12_qWordHere) ∈ lw_tbl ∧ (Cond.selects RX12 yX12_isAllowed yX12_isAllowed) ∈ lw_tbl ∧ (Cond.selects RX12 yX12_qAsksWord yX12_qAsksWord) ∈ lw_tbl ∧ (Cond.selects RX12 yX12_qEndsPart yX12_qEndsPart) ∈ lw_tbl ∧ (Cond.selects RX12 yX12_qDrops yX12_qDrops) ∈ lw_tbl ∧ (Cond.selects RX12 yX12_qGoesOn yX12_qGoesOn) ∈ lw_tbl ∧ (Cond.selects RX12 yX12_qBracket yX12_qBracket) ∈ lw_tbl ∧ (Cond.selects RX12 yX12_qDropsToBracket yX12_qDropsToBracket) ∈ lw_tbl ∧ (Cond.selects RX12 yX12_qIsOn yX12_qIsOn) ∈ lw_tbl ∧ (Cond.selects RX12 yX12_qDropsNots yX12_qDropsNots) ∈ lw_tbl ∧ (Cond.selects RX12 yX12_qGoesOnTest yX12_qGoesOnTest) ∈ lw_tbl ∧ (Cond.selects RX12 yX12_qHasSquare yX12_qHasSquare) ∈ lw_tbl ∧ (Cond.selects RX12 yX12_stands yX12_stands) ∈ lw_tbl ∧ (Cond.selects RX12 yX12_peopleMany yX12_peopleMany) ∈ lw_tbl) := by
  have h : ∀ q ∈ lw_privs_6, Cond.selects q.1.cls q.1 q.1 ∈ lw_tbl := fun q hm => List.mem_append_left _ (List.mem_map.mpr ⟨q, List.mem_append_right _ (List.mem_append_right _ (List.mem_append_right _ (List.mem_append_right _ (List.mem_append_right _ (List.mem_append_left _ hm))))), rfl⟩)
  unfold lw_privs_6 at h
  have e := List.forall_mem_cons.mp h
  have h0 := e.1
  replace h := e.2
  clear e
  have e := List.forall_mem_cons.mp h
  have h1 := e.1
  replace h := e.2
  clear e
  have e := List.forall_mem_cons.mp h
  have h2 := e.1
  replace h := e.2
  clear e
  have e := List.forall_mem_cons.mp h
  have h3 := e.1
  replace h := e.2
  clear e
  have e := List.forall_mem_cons.mp h
  have h4 := e.1
  replace h := e.2
  clear e
  have e := List.forall_mem_cons.mp h
  have h5 := e.1
  replace h := e.2
  clear e
  have e := List.forall_mem_cons.mp h
  have h6 := e.1
  replace h := e.2
  clear e
  have e := List.forall_mem_cons.mp h
  have h7 := e.1
  replace h := e.2
  clear e
  have e := List.forall_mem_cons.mp h
  have h8 := e.1
  replace h := e.2
  clear e
  have e := List.forall_mem_cons.mp h
  have h9 := e.1
  replace h := e.2
  clear e
  have e := List.forall_mem_cons.mp h
  have h10 := e.1
  replace h := e.2
  clear e
  have e := List.forall_mem_cons.mp h
  have h11 := e.1
  replace h := e.2
  clear e
  have e := List.forall_mem_cons.mp h
  have h12 := e.1
  replace h := e.2
  clear e
  have e := List.forall_mem_cons.mp h
  have h13 := e.1
  replace h := e.2
  clear e
  have e := List.forall_mem_cons.mp h
  have h14 := e.1
  replace h := e.2
  clear e
  have e := List.forall_mem_cons.mp h
  have h15 := e.1
  replace h := e.2
  clear e
  exact ⟨h0, h1, h2, h3, h4, h5, h6, h7, h8, h9, h10, h11, h12, h13, h14, h15⟩

set_option maxRecDepth 100000 in
set_option maxHeartbeats 40000000 in
theorem zq_p7 : ((Cond.selects RX12 yX12_crackedMany yX12_crackedMany) ∈ lw_tbl ∧ (Cond.selects RX12 yX12_holders yX12_holders) ∈ lw_tbl ∧ (Cond.selects RX12 yX12_isAtRest yX12_isAtRest) ∈ lw_tbl ∧ (Cond.selects RX12 yX12_codesTell yX12_codesTell) ∈ lw_tbl ∧ (Cond.selects RX12 yX12_qPuts yX12_qPuts) ∈ lw_tbl ∧ (Cond.selects RX12 yX12_qPartOf yX12_qPartOf) ∈ lw_tbl ∧ (Cond.selects RX12 yX12_strengthOf yX12_strengthOf) ∈ lw_tbl ∧ (Cond.selects RX12 yX12_tiredOf yX12_tiredOf) ∈ lw_tbl ∧ (Cond.selects RX12 yX12_nearOf yX12_nearOf) ∈ lw_tbl ∧ (Cond.selects RX12 yX12_placeOf yX12_placeOf) ∈ lw_tbl ∧ (Cond.selects RX12 yX12_qJoins yX12_qJoins) ∈ lw_tbl ∧ (Cond.selects RX12 yX12_awake yX12_awake) ∈ lw_tbl ∧ (Cond.selects RX12 yX12_isPerson yX12_isPerson) ∈ lw_tbl ∧ (Cond.selects RX12 yX12_cellAt yX12_cellAt) ∈ lw_tbl ∧ (Cond.selects RX12 yX12_laysLoads yX12_laysLoads) ∈ lw_tbl ∧ (Cond.selects RX12 yX12_cellMany yX12_cellMany) ∈ lw_tbl) := by
  have h : ∀ q ∈ lw_privs_7, Cond.selects q.1.cls q.1 q.1 ∈ lw_tbl := fun q hm => List.mem_append_left _ (List.mem_map.mpr ⟨q, List.mem_append_right _ (List.mem_append_right _ (List.mem_append_right _ (List.mem_append_right _ (List.mem_append_right _ (List.mem_append_right _ (List.mem_append_left _ hm)))))), rfl⟩)
  unfold lw_privs_7 at h
  have e := List.forall_mem_cons.mp h
  have h0 := e.1
  replace h := e.2
  clear e
  have e := List.forall_mem_cons.mp h
  have h1 := e.1
  replace h := e.2
  clear e
  have e := List.forall_mem_cons.mp h
  have h2 := e.1
  replace h := e.2
  clear e
  have e := List.forall_mem_cons.mp h
  have h3 := e.1
  replace h := e.2
  clear e
  have e := List.forall_mem_cons.mp h
  have h4 := e.1
  replace h := e.2
  clear e
  have e := List.forall_mem_cons.mp h
  have h5 := e.1
  replace h := e.2
  clear e
  have e := List.forall_mem_cons.mp h
  have h6 := e.1
  replace h := e.2
  clear e
  have e := List.forall_mem_cons.mp h
  have h7 := e.1
  replace h := e.2
  clear e
  have e := List.forall_mem_cons.mp h
  have h8 := e.1
  replace h := e.2
  clear e
  have e := List.forall_mem_cons.mp h
  have h9 := e.1
  replace h := e.2
  clear e
  have e := List.forall_mem_cons.mp h
  have h10 := e.1
  replace h := e.2
  clear e
  have e := List.forall_mem_cons.mp h
  have h11 := e.1
  replace h := e.2
  clear e
  have e := List.forall_mem_cons.mp h
  have h12 := e.1
  replace h := e.2
  clear e
  have e := List.forall_mem_cons.mp h
  have h13 := e.1
  replace h := e.2
  clear e
  have e := List.forall_mem_cons.mp h
  have h14 := e.1
  replace h := e.2
  clear e
  have e := List.forall_mem_cons.mp h
  have h15 := e.1
  replace h := e.2
  clear e
  exact ⟨h0, h1, h2, h3, h4, h5, h6, h7, h8, h9, h10, h11, h12, h13, h14, h15⟩

set_option maxRecDepth 100000 in
set_option maxHeartbeats 40000000 in
theorem zq_p8 : ((Cond.selects RX12 yX12_cellOf yX12_cellOf) ∈ lw_tbl ∧ (Cond.selects RX12 yX12_isCracked yX12_isCracked) ∈ lw_tbl ∧ (Cond.selects RX12 yX12_addsOf yX12_addsOf) ∈ lw_tbl ∧ (Cond.selects RX12 yX12_standsAt yX12_standsAt) ∈ lw_tbl ∧ (Cond.selects RX12 yX12_slackBy yX12_slackBy) ∈ lw_tbl ∧ (Cond.selects RX12 yX12_liftBy yX12_liftBy) ∈ lw_tbl ∧ (Cond.selects RX12 yX12_liftOf yX12_liftOf) ∈ lw_tbl ∧ (Cond.selects RX12 yX12_isAhead yX12_isAhead) ∈ lw_tbl ∧ (Cond.selects RX12 yX12_putsAside yX12_putsAside) ∈ lw_tbl ∧ (Cond.selects RX12 yX12_hoursGo yX12_hoursGo) ∈ lw_tbl ∧ (Cond.selects RX12 yX12_hourGoes yX12_hourGoes) ∈ lw_tbl ∧ (Cond.selects RX12 yX12_isKept yX12_isKept) ∈ lw_tbl ∧ (Cond.selects RX12 yX12_tiredAll yX12_tiredAll) ∈ lw_tbl ∧ (Cond.selects RX12 yX12_takesBack yX12_takesBack) ∈ lw_tbl ∧ (Cond.selects RX12 yX12_triesAnew yX12_triesAnew) ∈ lw_tbl ∧ (Cond.selects RX12 yX12_cracksBy yX12_cracksBy) ∈ lw_tbl) := by
  have h : ∀ q ∈ lw_privs_8, Cond.selects q.1.cls q.1 q.1 ∈ lw_tbl := fun q hm => List.mem_append_left _ (List.mem_map.mpr ⟨q, List.mem_append_right _ (List.mem_append_right _ (List.mem_append_right _ (List.mem_append_right _ (List.mem_append_right _ (List.mem_append_right _ (List.mem_append_right _ (List.mem_append_left _ hm))))))), rfl⟩)
  unfold lw_privs_8 at h
  have e := List.forall_mem_cons.mp h
  have h0 := e.1
  replace h := e.2
  clear e
  have e := List.forall_mem_cons.mp h
  have h1 := e.1
  replace h := e.2
  clear e
  have e := List.forall_mem_cons.mp h
  have h2 := e.1
  replace h := e.2
  clear e
  have e := List.forall_mem_cons.mp h
  have h3 := e.1
  replace h := e.2
  clear e
  have e := List.forall_mem_cons.mp h
  have h4 := e.1
  replace h := e.2
  clear e
  have e := List.forall_mem_cons.mp h
  have h5 := e.1
  replace h := e.2
  clear e
  have e := List.forall_mem_cons.mp h
  have h6 := e.1
  replace h := e.2
  clear e
  have e := List.forall_mem_cons.mp h
  have h7 := e.1
  replace h := e.2
  clear e
  have e := List.forall_mem_cons.mp h
  have h8 := e.1
  replace h := e.2
  clear e
  have e := List.forall_mem_cons.mp h
  have h9 := e.1
  replace h := e.2
  clear e
  have e := List.forall_mem_cons.mp h
  have h10 := e.1
  replace h := e.2
  clear e
  have e := List.forall_mem_cons.mp h
  have h11 := e.1
  replace h := e.2
  clear e
  have e := List.forall_mem_cons.mp h
  have h12 := e.1
  replace h := e.2
  clear e
  have e := List.forall_mem_cons.mp h
  have h13 := e.1
  replace h := e.2
  clear e
  have e := List.forall_mem_cons.mp h
  have h14 := e.1
  replace h := e.2
  clear e
  have e := List.forall_mem_cons.mp h
  have h15 := e.1
  replace h := e.2
  clear e
  exact ⟨h0, h1, h2, h3, h4, h5, h6, h7, h8, h9, h10, h11, h12, h13, h14, h15⟩

set_option maxRecDepth 100000 in
set_option maxHeartbeats 40000000 in
theorem zq_p9 : ((Cond.selects RX12 yX12_standsTry yX12_standsTry) ∈ lw_tbl ∧ (Cond.selects RX12 yX12_refuses yX12_refuses) ∈ lw_tbl ∧ (Cond.selects RX12 yX12_laysSets yX12_laysSets) ∈ lw_tbl ∧ (Cond.selects RX12 yX12_isAsHeard yX12_isAsHeard) ∈ lw_tbl ∧ (Cond.selects RX12 yX12_mostAlike yX12_mostAlike) ∈ lw_tbl ∧ (Cond.selects RX12 yX12_isRefused yX12_isRefused) ∈ lw_tbl ∧ (Cond.selects RX12 yX12_keeps yX12_keeps) ∈ lw_tbl ∧ (Cond.selects RX12 yX12_drawOf yX12_drawOf) ∈ lw_tbl ∧ (Cond.selects RX12 yX12_qKind yX12_qKind) ∈ lw_tbl ∧ (Cond.selects RX12 yX12_qTold yX12_qTold) ∈ lw_tbl ∧ (Cond.selects RX12 yX12_qOf yX12_qOf) ∈ lw_tbl ∧ (Cond.selects RX12 yX12_qTakes yX12_qTakes) ∈ lw_tbl ∧ (Cond.selects RX12 yX12_writes yX12_writes) ∈ lw_tbl ∧ (Cond.selects RX12 yX12_isImage yX12_isImage) ∈ lw_tbl ∧ (Cond.selects RX12 yX12_isPersonTold yX12_isPersonTold) ∈ lw_tbl) := by
  have h : ∀ q ∈ lw_privs_9, Cond.selects q.1.cls q.1 q.1 ∈ lw_tbl := fun q hm => List.mem_append_left _ (List.mem_map.mpr ⟨q, List.mem_append_right _ (List.mem_append_right _ (List.mem_append_right _ (List.mem_append_right _ (List.mem_append_right _ (List.mem_append_right _ (List.mem_append_right _ (List.mem_append_right _ (hm)))))))), rfl⟩)
  unfold lw_privs_9 at h
  have e := List.forall_mem_cons.mp h
  have h0 := e.1
  replace h := e.2
  clear e
  have e := List.forall_mem_cons.mp h
  have h1 := e.1
  replace h := e.2
  clear e
  have e := List.forall_mem_cons.mp h
  have h2 := e.1
  replace h := e.2
  clear e
  have e := List.forall_mem_cons.mp h
  have h3 := e.1
  replace h := e.2
  clear e
  have e := List.forall_mem_cons.mp h
  have h4 := e.1
  replace h := e.2
  clear e
  have e := List.forall_mem_cons.mp h
  have h5 := e.1
  replace h := e.2
  clear e
  have e := List.forall_mem_cons.mp h
  have h6 := e.1
  replace h := e.2
  clear e
  have e := List.forall_mem_cons.mp h
  have h7 := e.1
  replace h := e.2
  clear e
  have e := List.forall_mem_cons.mp h
  have h8 := e.1
  replace h := e.2
  clear e
  have e := List.forall_mem_cons.mp h
  have h9 := e.1
  replace h := e.2
  clear e
  have e := List.forall_mem_cons.mp h
  have h10 := e.1
  replace h := e.2
  clear e
  have e := List.forall_mem_cons.mp h
  have h11 := e.1
  replace h := e.2
  clear e
  have e := List.forall_mem_cons.mp h
  have h12 := e.1
  replace h := e.2
  clear e
  have e := List.forall_mem_cons.mp h
  have h13 := e.1
  replace h := e.2
  clear e
  have e := List.forall_mem_cons.mp h
  have h14 := e.1
  replace h := e.2
  clear e
  exact ⟨h0, h1, h2, h3, h4, h5, h6, h7, h8, h9, h10, h11, h12, h13, h14⟩
