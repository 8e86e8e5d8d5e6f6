theorem ck_X9_end : am_okc 9 cX9_end k_X9_end = true := by decide +kernel
theorem ck_X9_here : am_okc 9 cX9_here k_X9_here = true := by decide +kernel
theorem ck_X9_isLetter : am_okc 9 cX9_isLetter k_X9_isLetter = true := by decide +kernel
theorem ck_X9_isDigit : am_okc 9 cX9_isDigit k_X9_isDigit = true := by decide +kernel
theorem ck_X9_isSign : am_okc 9 cX9_isSign k_X9_isSign = true := by decide +kernel
theorem ck_X9_token : am_okc 9 cX9_token k_X9_token = true := by decide +kernel
theorem ck_X9_wrong : am_okc 9 cX9_wrong k_X9_wrong = true := by decide +kernel
theorem ck_X9_isWord : am_okc 9 cX9_isWord k_X9_isWord = true := by decide +kernel
theorem ck_X9_isOwn : am_okc 9 cX9_isOwn k_X9_isOwn = true := by decide +kernel
theorem ck_X9_isName : am_okc 9 cX9_isName k_X9_isName = true := by decide +kernel
theorem ck_X9_want : am_okc 9 cX9_want k_X9_want = true := by decide +kernel
theorem ck_X9_toldNumber : am_okc 9 cX9_toldNumber k_X9_toldNumber = true := by decide +kernel
theorem ck_X9_told : am_okc 9 cX9_told k_X9_told = true := by decide +kernel
theorem ck_X9_option : am_okc 9 cX9_option k_X9_option = true := by decide +kernel
theorem ck_X9_find : am_okc 9 cX9_find k_X9_find = true := by decide +kernel
theorem ck_X9_newName : am_okc 9 cX9_newName k_X9_newName = true := by decide +kernel
theorem ck_X9_oldName : am_okc 9 cX9_oldName k_X9_oldName = true := by decide +kernel
theorem ck_X9_add : am_okc 9 cX9_add k_X9_add = true := by decide +kernel
theorem ck_X9_tight : am_okc 9 cX9_tight k_X9_tight = true := by decide +kernel
theorem ck_X9_close : am_okc 9 cX9_close k_X9_close = true := by decide +kernel
theorem ck_X9_hasRelation : am_okc 9 cX9_hasRelation k_X9_hasRelation = true := by decide +kernel
theorem ck_X9_mayNot : am_okc 9 cX9_mayNot k_X9_mayNot = true := by decide +kernel
theorem ck_X9_asked : am_okc 9 cX9_asked k_X9_asked = true := by decide +kernel
theorem ck_X9_isFull : am_okc 9 cX9_isFull k_X9_isFull = true := by decide +kernel
theorem ck_X9_countUnit : am_okc 9 cX9_countUnit k_X9_countUnit = true := by decide +kernel
theorem ck_X9_openUp : am_okc 9 cX9_openUp k_X9_openUp = true := by decide +kernel
theorem ck_X9_unit : am_okc 9 cX9_unit k_X9_unit = true := by decide +kernel
theorem ck_X9_signHere : am_okc 9 cX9_signHere k_X9_signHere = true := by decide +kernel
theorem ck_X9_hasBracket : am_okc 9 cX9_hasBracket k_X9_hasBracket = true := by decide +kernel
theorem ck_X9_readTeach : am_okc 9 cX9_readTeach k_X9_readTeach = true := by decide +kernel
theorem ck_X9_truth : am_okc 9 cX9_truth k_X9_truth = true := by decide +kernel
theorem ck_X9_worked : am_okc 9 cX9_worked k_X9_worked = true := by decide +kernel
theorem ck_X9_taught : am_okc 9 cX9_taught k_X9_taught = true := by decide +kernel
theorem ck_X9_readSkill : am_okc 9 cX9_readSkill k_X9_readSkill = true := by decide +kernel
theorem ck_X9_readOrder : am_okc 9 cX9_readOrder k_X9_readOrder = true := by decide +kernel
theorem ck_X9_readParish : am_okc 9 cX9_readParish k_X9_readParish = true := by decide +kernel
theorem ck_X9_readOdds : am_okc 9 cX9_readOdds k_X9_readOdds = true := by decide +kernel
theorem ck_X9_readPerson : am_okc 9 cX9_readPerson k_X9_readPerson = true := by decide +kernel
theorem ck_X9_readUndoes : am_okc 9 cX9_readUndoes k_X9_readUndoes = true := by decide +kernel
theorem ck_X9_readLine : am_okc 9 cX9_readLine k_X9_readLine = true := by decide +kernel
theorem ck_X9_readAll : am_okc 9 cX9_readAll k_X9_readAll = true := by decide +kernel
theorem ck_X9_town : am_okc 9 cX9_town k_X9_town = true := by decide +kernel
theorem ck_X9_layTown : am_okc 9 cX9_layTown k_X9_layTown = true := by decide +kernel
theorem ck_X9_allOdds : am_okc 9 cX9_allOdds k_X9_allOdds = true := by decide +kernel
theorem ck_X9_drawOf : am_okc 9 cX9_drawOf k_X9_drawOf = true := by decide +kernel
theorem ck_X9_fault : am_okc 9 cX9_fault k_X9_fault = true := by decide +kernel
theorem ck_X9_isIn : am_okc 9 cX9_isIn k_X9_isIn = true := by decide +kernel
theorem ck_X9_isPerson : am_okc 9 cX9_isPerson k_X9_isPerson = true := by decide +kernel
theorem ck_X9_isSkill : am_okc 9 cX9_isSkill k_X9_isSkill = true := by decide +kernel
theorem ck_X9_isOrder : am_okc 9 cX9_isOrder k_X9_isOrder = true := by decide +kernel
theorem ck_X9_load : am_okc 9 cX9_load k_X9_load = true := by decide +kernel
theorem ck_X9_isShut : am_okc 9 cX9_isShut k_X9_isShut = true := by decide +kernel
theorem ck_X9_levelOf : am_okc 9 cX9_levelOf k_X9_levelOf = true := by decide +kernel
theorem ck_X9_can : am_okc 9 cX9_can k_X9_can = true := by decide +kernel
theorem ck_X9_isUndone : am_okc 9 cX9_isUndone k_X9_isUndone = true := by decide +kernel
theorem ck_X9_openOf : am_okc 9 cX9_openOf k_X9_openOf = true := by decide +kernel
theorem ck_X9_learn : am_okc 9 cX9_learn k_X9_learn = true := by decide +kernel
theorem ck_X9_goYear : am_okc 9 cX9_goYear k_X9_goYear = true := by decide +kernel
theorem ck_X9_canSet : am_okc 9 cX9_canSet k_X9_canSet = true := by decide +kernel
theorem ck_X9_person : am_okc 9 cX9_person k_X9_person = true := by decide +kernel
theorem ck_X9_level : am_okc 9 cX9_level k_X9_level = true := by decide +kernel
theorem ck_X9_order : am_okc 9 cX9_order k_X9_order = true := by decide +kernel
theorem ck_X9_share : am_okc 9 cX9_share k_X9_share = true := by decide +kernel
theorem ck_X9_manyOf : am_okc 9 cX9_manyOf k_X9_manyOf = true := by decide +kernel
theorem ck_X9_many : am_okc 9 cX9_many k_X9_many = true := by decide +kernel
theorem ck_X9_done : am_okc 9 cX9_done k_X9_done = true := by decide +kernel
theorem ck_X9_act : am_okc 9 cX9_act k_X9_act = true := by decide +kernel
theorem ck_X9_exchange : am_okc 9 cX9_exchange k_X9_exchange = true := by decide +kernel
theorem ck_X9_keep : am_okc 9 cX9_keep k_X9_keep = true := by decide +kernel
theorem ck_X9_isShutNow : am_okc 9 cX9_isShutNow k_X9_isShutNow = true := by decide +kernel
theorem ck_X9_prepare : am_okc 9 cX9_prepare k_X9_prepare = true := by decide +kernel
theorem ck_X9_steam : am_okc 9 cX9_steam k_X9_steam = true := by decide +kernel
theorem ck_X9_swap : am_okc 9 cX9_swap k_X9_swap = true := by decide +kernel
theorem ck_X9_forge : am_okc 9 cX9_forge k_X9_forge = true := by decide +kernel
theorem ck_X9_opens : am_okc 9 cX9_opens k_X9_opens = true := by decide +kernel
theorem ck_X9_year : am_okc 9 cX9_year k_X9_year = true := by decide +kernel
theorem ck_X9_undo : am_okc 9 cX9_undo k_X9_undo = true := by decide +kernel
theorem ck_X9_redo : am_okc 9 cX9_redo k_X9_redo = true := by decide +kernel
theorem ck_X9_yearsLeft : am_okc 9 cX9_yearsLeft k_X9_yearsLeft = true := by decide +kernel
theorem ck_X9_goAlone : am_okc 9 cX9_goAlone k_X9_goAlone = true := by decide +kernel
theorem ck_X9_isBlank : am_okc 9 cX9_isBlank k_X9_isBlank = true := by decide +kernel
theorem ck_X9_partsAll : am_okc 9 cX9_partsAll k_X9_partsAll = true := by decide +kernel
theorem ck_X9_partsOf : am_okc 9 cX9_partsOf k_X9_partsOf = true := by decide +kernel
theorem ck_X9_common : am_okc 9 cX9_common k_X9_common = true := by decide +kernel
theorem ck_X9_odds : am_okc 9 cX9_odds k_X9_odds = true := by decide +kernel
theorem ck_X9_worthsOf : am_okc 9 cX9_worthsOf k_X9_worthsOf = true := by decide +kernel
theorem ck_X9_hope : am_okc 9 cX9_hope k_X9_hope = true := by decide +kernel
theorem ck_X9_able : am_okc 9 cX9_able k_X9_able = true := by decide +kernel
theorem ck_X9_ready : am_okc 9 cX9_ready k_X9_ready = true := by decide +kernel
theorem ck_X9_lost : am_okc 9 cX9_lost k_X9_lost = true := by decide +kernel
theorem ck_X9_partsByShares : am_okc 9 cX9_partsByShares k_X9_partsByShares = true := by decide +kernel
theorem ck_X9_nextShare : am_okc 9 cX9_nextShare k_X9_nextShare = true := by decide +kernel
theorem ck_X9_life : am_okc 9 cX9_life k_X9_life = true := by decide +kernel
theorem ck_X9_will : am_okc 9 cX9_will k_X9_will = true := by decide +kernel
theorem ck_X9_failedFirst : am_okc 9 cX9_failedFirst k_X9_failedFirst = true := by decide +kernel
theorem ck_X9_first : am_okc 9 cX9_first k_X9_first = true := by decide +kernel
theorem ck_X9_hasOf : am_okc 9 cX9_hasOf k_X9_hasOf = true := by decide +kernel
theorem ck_X9_layFirst : am_okc 9 cX9_layFirst k_X9_layFirst = true := by decide +kernel
theorem ck_X9_nextRow : am_okc 9 cX9_nextRow k_X9_nextRow = true := by decide +kernel
theorem ck_X9_exchangeRow : am_okc 9 cX9_exchangeRow k_X9_exchangeRow = true := by decide +kernel
theorem ck_X9_shutSet : am_okc 9 cX9_shutSet k_X9_shutSet = true := by decide +kernel
theorem ck_X9_ringWorth : am_okc 9 cX9_ringWorth k_X9_ringWorth = true := by decide +kernel
theorem ck_X9_rings : am_okc 9 cX9_rings k_X9_rings = true := by decide +kernel
theorem ck_X9_doneBy : am_okc 9 cX9_doneBy k_X9_doneBy = true := by decide +kernel
theorem ck_X9_opening : am_okc 9 cX9_opening k_X9_opening = true := by decide +kernel
theorem ck_X9_doneIf : am_okc 9 cX9_doneIf k_X9_doneIf = true := by decide +kernel
theorem ck_X9_law : am_okc 9 cX9_law k_X9_law = true := by decide +kernel
theorem ck_X9_lies : am_okc 9 cX9_lies k_X9_lies = true := by decide +kernel
theorem ck_X9_sign : am_okc 9 cX9_sign k_X9_sign = true := by decide +kernel
theorem ck_X9_untell : am_okc 9 cX9_untell k_X9_untell = true := by decide +kernel
theorem ck_X9_later : am_okc 9 cX9_later k_X9_later = true := by decide +kernel
theorem ck_X9_markOf : am_okc 9 cX9_markOf k_X9_markOf = true := by decide +kernel
theorem ck_X9_isMeant : am_okc 9 cX9_isMeant k_X9_isMeant = true := by decide +kernel
theorem ck_X9_meant : am_okc 9 cX9_meant k_X9_meant = true := by decide +kernel
theorem ck_X9_likely : am_okc 9 cX9_likely k_X9_likely = true := by decide +kernel
theorem ck_X9_mostLeft : am_okc 9 cX9_mostLeft k_X9_mostLeft = true := by decide +kernel
theorem ck_X9_ask : am_okc 9 cX9_ask k_X9_ask = true := by decide +kernel
theorem ck_X9_isBox : am_okc 9 cX9_isBox k_X9_isBox = true := by decide +kernel
theorem ck_X9_image : am_okc 9 cX9_image k_X9_image = true := by decide +kernel
theorem ck_X9_back : am_okc 9 cX9_back k_X9_back = true := by decide +kernel
theorem ck_X9_about : am_okc 9 cX9_about k_X9_about = true := by decide +kernel
theorem ck_J6_bitCount_0f7a4 : am_okc 10 cJ6_bitCount_0f7a4 k_J6_bitCount_0f7a4 = true := by decide +kernel
theorem ck_all {m : Nat} (h : m < 263) : am_okc (am_ow m) (am_b m) (am_cd m) = true := by
  by_cases h131 : m < 131
  · by_cases h65 : m < 65
    · by_cases h32 : m < 32
      · by_cases h16 : m < 16
        · by_cases h8 : m < 8
          · by_cases h4 : m < 4
            · by_cases h2 : m < 2
              · by_cases h1 : m < 1
                · obtain rfl : m = 0 := by omega
                  exact ck_X0_clear
                · obtain rfl : m = 1 := by omega
                  exact ck_X0_add
              · by_cases h3 : m < 3
                · obtain rfl : m = 2 := by omega
                  exact ck_X0_gain
                · obtain rfl : m = 3 := by omega
                  exact ck_X0_isUnit
            · by_cases h6 : m < 6
              · by_cases h5 : m < 5
                · obtain rfl : m = 4 := by omega
                  exact ck_X0_valueOf
                · obtain rfl : m = 5 := by omega
                  exact ck_X0_joined
              · by_cases h7 : m < 7
                · obtain rfl : m = 6 := by omega
                  exact ck_X1_rowNow
                · obtain rfl : m = 7 := by omega
                  exact ck_X1_clear
          · by_cases h12 : m < 12
            · by_cases h10 : m < 10
              · by_cases h9 : m < 9
                · obtain rfl : m = 8 := by omega
                  exact ck_X1_keep
                · obtain rfl : m = 9 := by omega
                  exact ck_X1_stepsBack
              · by_cases h11 : m < 11
                · obtain rfl : m = 10 := by omega
                  exact ck_X1_stepsOn
                · obtain rfl : m = 11 := by omega
                  exact ck_X2_begin
            · by_cases h14 : m < 14
              · by_cases h13 : m < 13
                · obtain rfl : m = 12 := by omega
                  exact ck_X2_drawnOrder
                · obtain rfl : m = 13 := by omega
                  exact ck_X2_copy
              · by_cases h15 : m < 15
                · obtain rfl : m = 14 := by omega
                  exact ck_X2_levelOf
                · obtain rfl : m = 15 := by omega
                  exact ck_X2_isOpened
        · by_cases h24 : m < 24
          · by_cases h20 : m < 20
            · by_cases h18 : m < 18
              · by_cases h17 : m < 17
                · obtain rfl : m = 16 := by omega
                  exact ck_X2_unopened
                · obtain rfl : m = 17 := by omega
                  exact ck_X2_canDo
              · by_cases h19 : m < 19
                · obtain rfl : m = 18 := by omega
                  exact ck_X2_ordersFor
                · obtain rfl : m = 19 := by omega
                  exact ck_X2_countOf
            · by_cases h22 : m < 22
              · by_cases h21 : m < 21
                · obtain rfl : m = 20 := by omega
                  exact ck_X2_doneOrders
                · obtain rfl : m = 21 := by omega
                  exact ck_X2_wouldDo
              · by_cases h23 : m < 23
                · obtain rfl : m = 22 := by omega
                  exact ck_X2_openLetter
                · obtain rfl : m = 23 := by omega
                  exact ck_X2_passYear
          · by_cases h28 : m < 28
            · by_cases h26 : m < 26
              · by_cases h25 : m < 25
                · obtain rfl : m = 24 := by omega
                  exact ck_X2_learn
                · obtain rfl : m = 25 := by omega
                  exact ck_X2_levelNext
              · by_cases h27 : m < 27
                · obtain rfl : m = 26 := by omega
                  exact ck_X2_levelBehind
                · obtain rfl : m = 27 := by omega
                  exact ck_X2_yearsTillOpened
            · by_cases h30 : m < 30
              · by_cases h29 : m < 29
                · obtain rfl : m = 28 := by omega
                  exact ck_X2_yearsTillReady
                · obtain rfl : m = 29 := by omega
                  exact ck_X2_worthOf
              · by_cases h31 : m < 31
                · obtain rfl : m = 30 := by omega
                  exact ck_X3_look
                · obtain rfl : m = 31 := by omega
                  exact ck_X3_knowsIt
      · by_cases h48 : m < 48
        · by_cases h40 : m < 40
          · by_cases h36 : m < 36
            · by_cases h34 : m < 34
              · by_cases h33 : m < 33
                · obtain rfl : m = 32 := by omega
                  exact ck_X3_knownOrder
                · obtain rfl : m = 33 := by omega
                  exact ck_X3_canThen
              · by_cases h35 : m < 35
                · obtain rfl : m = 34 := by omega
                  exact ck_X3_wholes
                · obtain rfl : m = 35 := by omega
                  exact ck_X3_parts
            · by_cases h38 : m < 38
              · by_cases h37 : m < 37
                · obtain rfl : m = 36 := by omega
                  exact ck_X3_worths
                · obtain rfl : m = 37 := by omega
                  exact ck_X3_spreadsBest
              · by_cases h39 : m < 39
                · obtain rfl : m = 38 := by omega
                  exact ck_X3_fillsYears
                · obtain rfl : m = 39 := by omega
                  exact ck_X3_liveSpread
          · by_cases h44 : m < 44
            · by_cases h42 : m < 42
              · by_cases h41 : m < 41
                · obtain rfl : m = 40 := by omega
                  exact ck_X4_readsTown
                · obtain rfl : m = 41 := by omega
                  exact ck_X4_readsLine
              · by_cases h43 : m < 43
                · obtain rfl : m = 42 := by omega
                  exact ck_X4_readsNamed
                · obtain rfl : m = 43 := by omega
                  exact ck_X4_readsOrder
            · by_cases h46 : m < 46
              · by_cases h45 : m < 45
                · obtain rfl : m = 44 := by omega
                  exact ck_X4_readsTrait
                · obtain rfl : m = 45 := by omega
                  exact ck_X4_readsOdds
              · by_cases h47 : m < 47
                · obtain rfl : m = 46 := by omega
                  exact ck_X4_readsPerson
                · obtain rfl : m = 47 := by omega
                  exact ck_X4_readsLevels
        · by_cases h56 : m < 56
          · by_cases h52 : m < 52
            · by_cases h50 : m < 50
              · by_cases h49 : m < 49
                · obtain rfl : m = 48 := by omega
                  exact ck_X4_readsUndoes
                · obtain rfl : m = 49 := by omega
                  exact ck_X4_readsOpen
              · by_cases h51 : m < 51
                · obtain rfl : m = 50 := by omega
                  exact ck_X4_readsDraw
                · obtain rfl : m = 51 := by omega
                  exact ck_X4_takesOnce
            · by_cases h54 : m < 54
              · by_cases h53 : m < 53
                · obtain rfl : m = 52 := by omega
                  exact ck_X4_either
                · obtain rfl : m = 53 := by omega
                  exact ck_X4_both
              · by_cases h55 : m < 55
                · obtain rfl : m = 54 := by omega
                  exact ck_X4_one
                · obtain rfl : m = 55 := by omega
                  exact ck_X4_related
          · by_cases h60 : m < 60
            · by_cases h58 : m < 58
              · by_cases h57 : m < 57
                · obtain rfl : m = 56 := by omega
                  exact ck_X4_sum
                · obtain rfl : m = 57 := by omega
                  exact ck_X4_term
              · by_cases h59 : m < 59
                · obtain rfl : m = 58 := by omega
                  exact ck_X4_unit
                · obtain rfl : m = 59 := by omega
                  exact ck_X4_take
            · by_cases h62 : m < 62
              · by_cases h61 : m < 61
                · obtain rfl : m = 60 := by omega
                  exact ck_X4_known
                · obtain rfl : m = 61 := by omega
                  exact ck_X4_find
              · by_cases h63 : m < 63
                · obtain rfl : m = 62 := by omega
                  exact ck_X4_numberWithin
                · by_cases h64 : m < 64
                  · obtain rfl : m = 63 := by omega
                    exact ck_X4_misplaced
                  · obtain rfl : m = 64 := by omega
                    exact ck_X4_refuse
    · by_cases h98 : m < 98
      · by_cases h81 : m < 81
        · by_cases h73 : m < 73
          · by_cases h69 : m < 69
            · by_cases h67 : m < 67
              · by_cases h66 : m < 66
                · obtain rfl : m = 65 := by omega
                  exact ck_X4_next
                · obtain rfl : m = 66 := by omega
                  exact ck_X4_scanWord
              · by_cases h68 : m < 68
                · obtain rfl : m = 67 := by omega
                  exact ck_X4_scanNumber
                · obtain rfl : m = 68 := by omega
                  exact ck_X4_behind
            · by_cases h71 : m < 71
              · by_cases h70 : m < 70
                · obtain rfl : m = 69 := by omega
                  exact ck_X4_isLetter
                · obtain rfl : m = 70 := by omega
                  exact ck_X4_isDigit
              · by_cases h72 : m < 72
                · obtain rfl : m = 71 := by omega
                  exact ck_X5_begin
                · obtain rfl : m = 72 := by omega
                  exact ck_X5_count
          · by_cases h77 : m < 77
            · by_cases h75 : m < 75
              · by_cases h74 : m < 74
                · obtain rfl : m = 73 := by omega
                  exact ck_X5_turnTo
                · obtain rfl : m = 74 := by omega
                  exact ck_X5_memberLeft
              · by_cases h76 : m < 76
                · obtain rfl : m = 75 := by omega
                  exact ck_X5_bestRings
                · obtain rfl : m = 76 := by omega
                  exact ck_X5_worthTogether
            · by_cases h79 : m < 79
              · by_cases h78 : m < 78
                · obtain rfl : m = 77 := by omega
                  exact ck_X5_keepRings
                · obtain rfl : m = 78 := by omega
                  exact ck_X5_bestOpening
              · by_cases h80 : m < 80
                · obtain rfl : m = 79 := by omega
                  exact ck_X5_doneInTurn
                · obtain rfl : m = 80 := by omega
                  exact ck_X6_tell
        · by_cases h89 : m < 89
          · by_cases h85 : m < 85
            · by_cases h83 : m < 83
              · by_cases h82 : m < 82
                · obtain rfl : m = 81 := by omega
                  exact ck_X6_takesBack
                · obtain rfl : m = 82 := by omega
                  exact ck_X6_counts
              · by_cases h84 : m < 84
                · obtain rfl : m = 83 := by omega
                  exact ck_X6_fitting
                · obtain rfl : m = 84 := by omega
                  exact ck_X6_fits
            · by_cases h87 : m < 87
              · by_cases h86 : m < 86
                · obtain rfl : m = 85 := by omega
                  exact ck_X6_seen
                · obtain rfl : m = 86 := by omega
                  exact ck_X6_mostLeft
              · by_cases h88 : m < 88
                · obtain rfl : m = 87 := by omega
                  exact ck_X7_clear
                · obtain rfl : m = 88 := by omega
                  exact ck_X7_has
          · by_cases h93 : m < 93
            · by_cases h91 : m < 91
              · by_cases h90 : m < 90
                · obtain rfl : m = 89 := by omega
                  exact ck_X7_sharesOf
                · obtain rfl : m = 90 := by omega
                  exact ck_X7_allShares
              · by_cases h92 : m < 92
                · obtain rfl : m = 91 := by omega
                  exact ck_X8_feed
                · obtain rfl : m = 92 := by omega
                  exact ck_X8_putBytes
            · by_cases h95 : m < 95
              · by_cases h94 : m < 94
                · obtain rfl : m = 93 := by omega
                  exact ck_X8_end
                · obtain rfl : m = 94 := by omega
                  exact ck_X8_town
              · by_cases h96 : m < 96
                · obtain rfl : m = 95 := by omega
                  exact ck_X8_fault
                · by_cases h97 : m < 97
                  · obtain rfl : m = 96 := by omega
                    exact ck_X8_chosen
                  · obtain rfl : m = 97 := by omega
                    exact ck_X8_person
      · by_cases h114 : m < 114
        · by_cases h106 : m < 106
          · by_cases h102 : m < 102
            · by_cases h100 : m < 100
              · by_cases h99 : m < 99
                · obtain rfl : m = 98 := by omega
                  exact ck_X8_level
                · obtain rfl : m = 99 := by omega
                  exact ck_X8_order
              · by_cases h101 : m < 101
                · obtain rfl : m = 100 := by omega
                  exact ck_X8_share
                · obtain rfl : m = 101 := by omega
                  exact ck_X8_many
            · by_cases h104 : m < 104
              · by_cases h103 : m < 103
                · obtain rfl : m = 102 := by omega
                  exact ck_X8_done
                · obtain rfl : m = 103 := by omega
                  exact ck_X8_isUnopened
              · by_cases h105 : m < 105
                · obtain rfl : m = 104 := by omega
                  exact ck_X8_keepAct
                · obtain rfl : m = 105 := by omega
                  exact ck_X8_prepare
          · by_cases h110 : m < 110
            · by_cases h108 : m < 108
              · by_cases h107 : m < 107
                · obtain rfl : m = 106 := by omega
                  exact ck_X8_steam
                · obtain rfl : m = 107 := by omega
                  exact ck_X8_swap
              · by_cases h109 : m < 109
                · obtain rfl : m = 108 := by omega
                  exact ck_X8_forge
                · obtain rfl : m = 109 := by omega
                  exact ck_X8_opens
            · by_cases h112 : m < 112
              · by_cases h111 : m < 111
                · obtain rfl : m = 110 := by omega
                  exact ck_X8_year
                · obtain rfl : m = 111 := by omega
                  exact ck_X8_undo
              · by_cases h113 : m < 113
                · obtain rfl : m = 112 := by omega
                  exact ck_X8_redo
                · obtain rfl : m = 113 := by omega
                  exact ck_X8_odds
        · by_cases h122 : m < 122
          · by_cases h118 : m < 118
            · by_cases h116 : m < 116
              · by_cases h115 : m < 115
                · obtain rfl : m = 114 := by omega
                  exact ck_X8_hope
                · obtain rfl : m = 115 := by omega
                  exact ck_X8_partOfLowestTerms
              · by_cases h117 : m < 117
                · obtain rfl : m = 116 := by omega
                  exact ck_X8_greatestDivisor
                · obtain rfl : m = 117 := by omega
                  exact ck_X8_life
            · by_cases h120 : m < 120
              · by_cases h119 : m < 119
                · obtain rfl : m = 118 := by omega
                  exact ck_X8_lay
                · obtain rfl : m = 119 := by omega
                  exact ck_X8_able
              · by_cases h121 : m < 121
                · obtain rfl : m = 120 := by omega
                  exact ck_X8_ready
                · obtain rfl : m = 121 := by omega
                  exact ck_X8_lost
          · by_cases h126 : m < 126
            · by_cases h124 : m < 124
              · by_cases h123 : m < 123
                · obtain rfl : m = 122 := by omega
                  exact ck_X8_will
                · obtain rfl : m = 123 := by omega
                  exact ck_X8_first
              · by_cases h125 : m < 125
                · obtain rfl : m = 124 := by omega
                  exact ck_X8_firstNewFailure
                · obtain rfl : m = 125 := by omega
                  exact ck_X8_rings
            · by_cases h128 : m < 128
              · by_cases h127 : m < 127
                · obtain rfl : m = 126 := by omega
                  exact ck_X8_opening
                · obtain rfl : m = 127 := by omega
                  exact ck_X8_law
              · by_cases h129 : m < 129
                · obtain rfl : m = 128 := by omega
                  exact ck_X8_doneAtLast
                · by_cases h130 : m < 130
                  · obtain rfl : m = 129 := by omega
                    exact ck_X8_lies
                  · obtain rfl : m = 130 := by omega
                    exact ck_X8_sign
  · by_cases h197 : m < 197
    · by_cases h164 : m < 164
      · by_cases h147 : m < 147
        · by_cases h139 : m < 139
          · by_cases h135 : m < 135
            · by_cases h133 : m < 133
              · by_cases h132 : m < 132
                · obtain rfl : m = 131 := by omega
                  exact ck_X8_untell
                · obtain rfl : m = 132 := by omega
                  exact ck_X8_later
              · by_cases h134 : m < 134
                · obtain rfl : m = 133 := by omega
                  exact ck_X8_meant
                · obtain rfl : m = 134 := by omega
                  exact ck_X8_likely
            · by_cases h137 : m < 137
              · by_cases h136 : m < 136
                · obtain rfl : m = 135 := by omega
                  exact ck_X8_ask
                · obtain rfl : m = 136 := by omega
                  exact ck_X8_image
              · by_cases h138 : m < 138
                · obtain rfl : m = 137 := by omega
                  exact ck_X8_back
                · obtain rfl : m = 138 := by omega
                  exact ck_X8_about
          · by_cases h143 : m < 143
            · by_cases h141 : m < 141
              · by_cases h140 : m < 140
                · obtain rfl : m = 139 := by omega
                  exact ck_X9_feed
                · obtain rfl : m = 140 := by omega
                  exact ck_X9_four
              · by_cases h142 : m < 142
                · obtain rfl : m = 141 := by omega
                  exact ck_X9_end
                · obtain rfl : m = 142 := by omega
                  exact ck_X9_here
            · by_cases h145 : m < 145
              · by_cases h144 : m < 144
                · obtain rfl : m = 143 := by omega
                  exact ck_X9_isLetter
                · obtain rfl : m = 144 := by omega
                  exact ck_X9_isDigit
              · by_cases h146 : m < 146
                · obtain rfl : m = 145 := by omega
                  exact ck_X9_isSign
                · obtain rfl : m = 146 := by omega
                  exact ck_X9_token
        · by_cases h155 : m < 155
          · by_cases h151 : m < 151
            · by_cases h149 : m < 149
              · by_cases h148 : m < 148
                · obtain rfl : m = 147 := by omega
                  exact ck_X9_wrong
                · obtain rfl : m = 148 := by omega
                  exact ck_X9_isWord
              · by_cases h150 : m < 150
                · obtain rfl : m = 149 := by omega
                  exact ck_X9_isOwn
                · obtain rfl : m = 150 := by omega
                  exact ck_X9_isName
            · by_cases h153 : m < 153
              · by_cases h152 : m < 152
                · obtain rfl : m = 151 := by omega
                  exact ck_X9_want
                · obtain rfl : m = 152 := by omega
                  exact ck_X9_toldNumber
              · by_cases h154 : m < 154
                · obtain rfl : m = 153 := by omega
                  exact ck_X9_told
                · obtain rfl : m = 154 := by omega
                  exact ck_X9_option
          · by_cases h159 : m < 159
            · by_cases h157 : m < 157
              · by_cases h156 : m < 156
                · obtain rfl : m = 155 := by omega
                  exact ck_X9_find
                · obtain rfl : m = 156 := by omega
                  exact ck_X9_newName
              · by_cases h158 : m < 158
                · obtain rfl : m = 157 := by omega
                  exact ck_X9_oldName
                · obtain rfl : m = 158 := by omega
                  exact ck_X9_add
            · by_cases h161 : m < 161
              · by_cases h160 : m < 160
                · obtain rfl : m = 159 := by omega
                  exact ck_X9_tight
                · obtain rfl : m = 160 := by omega
                  exact ck_X9_close
              · by_cases h162 : m < 162
                · obtain rfl : m = 161 := by omega
                  exact ck_X9_hasRelation
                · by_cases h163 : m < 163
                  · obtain rfl : m = 162 := by omega
                    exact ck_X9_mayNot
                  · obtain rfl : m = 163 := by omega
                    exact ck_X9_asked
      · by_cases h180 : m < 180
        · by_cases h172 : m < 172
          · by_cases h168 : m < 168
            · by_cases h166 : m < 166
              · by_cases h165 : m < 165
                · obtain rfl : m = 164 := by omega
                  exact ck_X9_isFull
                · obtain rfl : m = 165 := by omega
                  exact ck_X9_countUnit
              · by_cases h167 : m < 167
                · obtain rfl : m = 166 := by omega
                  exact ck_X9_openUp
                · obtain rfl : m = 167 := by omega
                  exact ck_X9_unit
            · by_cases h170 : m < 170
              · by_cases h169 : m < 169
                · obtain rfl : m = 168 := by omega
                  exact ck_X9_signHere
                · obtain rfl : m = 169 := by omega
                  exact ck_X9_hasBracket
              · by_cases h171 : m < 171
                · obtain rfl : m = 170 := by omega
                  exact ck_X9_readTeach
                · obtain rfl : m = 171 := by omega
                  exact ck_X9_truth
          · by_cases h176 : m < 176
            · by_cases h174 : m < 174
              · by_cases h173 : m < 173
                · obtain rfl : m = 172 := by omega
                  exact ck_X9_worked
                · obtain rfl : m = 173 := by omega
                  exact ck_X9_taught
              · by_cases h175 : m < 175
                · obtain rfl : m = 174 := by omega
                  exact ck_X9_readSkill
                · obtain rfl : m = 175 := by omega
                  exact ck_X9_readOrder
            · by_cases h178 : m < 178
              · by_cases h177 : m < 177
                · obtain rfl : m = 176 := by omega
                  exact ck_X9_readParish
                · obtain rfl : m = 177 := by omega
                  exact ck_X9_readOdds
              · by_cases h179 : m < 179
                · obtain rfl : m = 178 := by omega
                  exact ck_X9_readPerson
                · obtain rfl : m = 179 := by omega
                  exact ck_X9_readUndoes
        · by_cases h188 : m < 188
          · by_cases h184 : m < 184
            · by_cases h182 : m < 182
              · by_cases h181 : m < 181
                · obtain rfl : m = 180 := by omega
                  exact ck_X9_readLine
                · obtain rfl : m = 181 := by omega
                  exact ck_X9_readAll
              · by_cases h183 : m < 183
                · obtain rfl : m = 182 := by omega
                  exact ck_X9_town
                · obtain rfl : m = 183 := by omega
                  exact ck_X9_layTown
            · by_cases h186 : m < 186
              · by_cases h185 : m < 185
                · obtain rfl : m = 184 := by omega
                  exact ck_X9_allOdds
                · obtain rfl : m = 185 := by omega
                  exact ck_X9_drawOf
              · by_cases h187 : m < 187
                · obtain rfl : m = 186 := by omega
                  exact ck_X9_fault
                · obtain rfl : m = 187 := by omega
                  exact ck_X9_isIn
          · by_cases h192 : m < 192
            · by_cases h190 : m < 190
              · by_cases h189 : m < 189
                · obtain rfl : m = 188 := by omega
                  exact ck_X9_isPerson
                · obtain rfl : m = 189 := by omega
                  exact ck_X9_isSkill
              · by_cases h191 : m < 191
                · obtain rfl : m = 190 := by omega
                  exact ck_X9_isOrder
                · obtain rfl : m = 191 := by omega
                  exact ck_X9_load
            · by_cases h194 : m < 194
              · by_cases h193 : m < 193
                · obtain rfl : m = 192 := by omega
                  exact ck_X9_isShut
                · obtain rfl : m = 193 := by omega
                  exact ck_X9_levelOf
              · by_cases h195 : m < 195
                · obtain rfl : m = 194 := by omega
                  exact ck_X9_can
                · by_cases h196 : m < 196
                  · obtain rfl : m = 195 := by omega
                    exact ck_X9_isUndone
                  · obtain rfl : m = 196 := by omega
                    exact ck_X9_openOf
    · by_cases h230 : m < 230
      · by_cases h213 : m < 213
        · by_cases h205 : m < 205
          · by_cases h201 : m < 201
            · by_cases h199 : m < 199
              · by_cases h198 : m < 198
                · obtain rfl : m = 197 := by omega
                  exact ck_X9_learn
                · obtain rfl : m = 198 := by omega
                  exact ck_X9_goYear
              · by_cases h200 : m < 200
                · obtain rfl : m = 199 := by omega
                  exact ck_X9_canSet
                · obtain rfl : m = 200 := by omega
                  exact ck_X9_person
            · by_cases h203 : m < 203
              · by_cases h202 : m < 202
                · obtain rfl : m = 201 := by omega
                  exact ck_X9_level
                · obtain rfl : m = 202 := by omega
                  exact ck_X9_order
              · by_cases h204 : m < 204
                · obtain rfl : m = 203 := by omega
                  exact ck_X9_share
                · obtain rfl : m = 204 := by omega
                  exact ck_X9_manyOf
          · by_cases h209 : m < 209
            · by_cases h207 : m < 207
              · by_cases h206 : m < 206
                · obtain rfl : m = 205 := by omega
                  exact ck_X9_many
                · obtain rfl : m = 206 := by omega
                  exact ck_X9_done
              · by_cases h208 : m < 208
                · obtain rfl : m = 207 := by omega
                  exact ck_X9_act
                · obtain rfl : m = 208 := by omega
                  exact ck_X9_exchange
            · by_cases h211 : m < 211
              · by_cases h210 : m < 210
                · obtain rfl : m = 209 := by omega
                  exact ck_X9_keep
                · obtain rfl : m = 210 := by omega
                  exact ck_X9_isShutNow
              · by_cases h212 : m < 212
                · obtain rfl : m = 211 := by omega
                  exact ck_X9_prepare
                · obtain rfl : m = 212 := by omega
                  exact ck_X9_steam
        · by_cases h221 : m < 221
          · by_cases h217 : m < 217
            · by_cases h215 : m < 215
              · by_cases h214 : m < 214
                · obtain rfl : m = 213 := by omega
                  exact ck_X9_swap
                · obtain rfl : m = 214 := by omega
                  exact ck_X9_forge
              · by_cases h216 : m < 216
                · obtain rfl : m = 215 := by omega
                  exact ck_X9_opens
                · obtain rfl : m = 216 := by omega
                  exact ck_X9_year
            · by_cases h219 : m < 219
              · by_cases h218 : m < 218
                · obtain rfl : m = 217 := by omega
                  exact ck_X9_undo
                · obtain rfl : m = 218 := by omega
                  exact ck_X9_redo
              · by_cases h220 : m < 220
                · obtain rfl : m = 219 := by omega
                  exact ck_X9_yearsLeft
                · obtain rfl : m = 220 := by omega
                  exact ck_X9_goAlone
          · by_cases h225 : m < 225
            · by_cases h223 : m < 223
              · by_cases h222 : m < 222
                · obtain rfl : m = 221 := by omega
                  exact ck_X9_isBlank
                · obtain rfl : m = 222 := by omega
                  exact ck_X9_partsAll
              · by_cases h224 : m < 224
                · obtain rfl : m = 223 := by omega
                  exact ck_X9_partsOf
                · obtain rfl : m = 224 := by omega
                  exact ck_X9_common
            · by_cases h227 : m < 227
              · by_cases h226 : m < 226
                · obtain rfl : m = 225 := by omega
                  exact ck_X9_odds
                · obtain rfl : m = 226 := by omega
                  exact ck_X9_worthsOf
              · by_cases h228 : m < 228
                · obtain rfl : m = 227 := by omega
                  exact ck_X9_hope
                · by_cases h229 : m < 229
                  · obtain rfl : m = 228 := by omega
                    exact ck_X9_able
                  · obtain rfl : m = 229 := by omega
                    exact ck_X9_ready
      · by_cases h246 : m < 246
        · by_cases h238 : m < 238
          · by_cases h234 : m < 234
            · by_cases h232 : m < 232
              · by_cases h231 : m < 231
                · obtain rfl : m = 230 := by omega
                  exact ck_X9_lost
                · obtain rfl : m = 231 := by omega
                  exact ck_X9_partsByShares
              · by_cases h233 : m < 233
                · obtain rfl : m = 232 := by omega
                  exact ck_X9_nextShare
                · obtain rfl : m = 233 := by omega
                  exact ck_X9_life
            · by_cases h236 : m < 236
              · by_cases h235 : m < 235
                · obtain rfl : m = 234 := by omega
                  exact ck_X9_will
                · obtain rfl : m = 235 := by omega
                  exact ck_X9_failedFirst
              · by_cases h237 : m < 237
                · obtain rfl : m = 236 := by omega
                  exact ck_X9_first
                · obtain rfl : m = 237 := by omega
                  exact ck_X9_hasOf
          · by_cases h242 : m < 242
            · by_cases h240 : m < 240
              · by_cases h239 : m < 239
                · obtain rfl : m = 238 := by omega
                  exact ck_X9_layFirst
                · obtain rfl : m = 239 := by omega
                  exact ck_X9_nextRow
              · by_cases h241 : m < 241
                · obtain rfl : m = 240 := by omega
                  exact ck_X9_exchangeRow
                · obtain rfl : m = 241 := by omega
                  exact ck_X9_shutSet
            · by_cases h244 : m < 244
              · by_cases h243 : m < 243
                · obtain rfl : m = 242 := by omega
                  exact ck_X9_ringWorth
                · obtain rfl : m = 243 := by omega
                  exact ck_X9_rings
              · by_cases h245 : m < 245
                · obtain rfl : m = 244 := by omega
                  exact ck_X9_doneBy
                · obtain rfl : m = 245 := by omega
                  exact ck_X9_opening
        · by_cases h254 : m < 254
          · by_cases h250 : m < 250
            · by_cases h248 : m < 248
              · by_cases h247 : m < 247
                · obtain rfl : m = 246 := by omega
                  exact ck_X9_doneIf
                · obtain rfl : m = 247 := by omega
                  exact ck_X9_law
              · by_cases h249 : m < 249
                · obtain rfl : m = 248 := by omega
                  exact ck_X9_lies
                · obtain rfl : m = 249 := by omega
                  exact ck_X9_sign
            · by_cases h252 : m < 252
              · by_cases h251 : m < 251
                · obtain rfl : m = 250 := by omega
                  exact ck_X9_untell
                · obtain rfl : m = 251 := by omega
                  exact ck_X9_later
              · by_cases h253 : m < 253
                · obtain rfl : m = 252 := by omega
                  exact ck_X9_markOf
                · obtain rfl : m = 253 := by omega
                  exact ck_X9_isMeant
          · by_cases h258 : m < 258
            · by_cases h256 : m < 256
              · by_cases h255 : m < 255
                · obtain rfl : m = 254 := by omega
                  exact ck_X9_meant
                · obtain rfl : m = 255 := by omega
                  exact ck_X9_likely
              · by_cases h257 : m < 257
                · obtain rfl : m = 256 := by omega
                  exact ck_X9_mostLeft
                · obtain rfl : m = 257 := by omega
                  exact ck_X9_ask
            · by_cases h260 : m < 260
              · by_cases h259 : m < 259
                · obtain rfl : m = 258 := by omega
                  exact ck_X9_isBox
                · obtain rfl : m = 259 := by omega
                  exact ck_X9_image
              · by_cases h261 : m < 261
                · obtain rfl : m = 260 := by omega
                  exact ck_X9_back
                · by_cases h262 : m < 262
                  · obtain rfl : m = 261 := by omega
                    exact ck_X9_about
                  · obtain rfl : m = 262 := by omega
                    exact ck_J6_bitCount_0f7a4
