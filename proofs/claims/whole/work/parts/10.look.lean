theorem mc0 : mcode 0 = cL_law := rfl
theorem ml0 : mcl 0 = 14 := rfl
theorem t0 : mrt 0 = 2 := rfl
theorem mc1 : mcode 1 = cL_value := rfl
theorem ml1 : mcl 1 = 14 := rfl
theorem t1 : mrt 1 = 1 := rfl
theorem mc2 : mcode 2 = cL_row := rfl
theorem ml2 : mcl 2 = 14 := rfl
theorem t2 : mrt 2 = 1 := rfl
theorem mc3 : mcode 3 = cL_of := rfl
theorem ml3 : mcl 3 = 14 := rfl
theorem t3 : mrt 3 = 1 := rfl
theorem mc4 : mcode 4 = cX0_init := rfl
theorem ml4 : mcl 4 = 1 := rfl
theorem t4 : mrt 4 = 0 := rfl
theorem mc5 : mcode 5 = cX1_init := rfl
theorem ml5 : mcl 5 = 2 := rfl
theorem t5 : mrt 5 = 0 := rfl
theorem mc6 : mcode 6 = cX2_init := rfl
theorem ml6 : mcl 6 = 3 := rfl
theorem t6 : mrt 6 = 0 := rfl
theorem mc7 : mcode 7 = cX2_hasRoomFor := rfl
theorem ml7 : mcl 7 = 3 := rfl
theorem t7 : mrt 7 = 2 := rfl
theorem mc8 : mcode 8 = cX2_bidOf := rfl
theorem ml8 : mcl 8 = 3 := rfl
theorem t8 : mrt 8 = 1 := rfl
theorem mc9 : mcode 9 = cX2_setBid := rfl
theorem ml9 : mcl 9 = 3 := rfl
theorem t9 : mrt 9 = 0 := rfl
theorem mc10 : mcode 10 = cX3_init := rfl
theorem ml10 : mcl 10 = 4 := rfl
theorem t10 : mrt 10 = 0 := rfl
theorem mc11 : mcode 11 = cX3_take := rfl
theorem ml11 : mcl 11 = 4 := rfl
theorem t11 : mrt 11 = 0 := rfl
theorem mc12 : mcode 12 = cX3_numberOfName := rfl
theorem ml12 : mcl 12 = 4 := rfl
theorem t12 : mrt 12 = 1 := rfl
theorem mc13 : mcode 13 = cX3_hasName := rfl
theorem ml13 : mcl 13 = 4 := rfl
theorem t13 : mrt 13 = 2 := rfl
theorem mc14 : mcode 14 = cX3_setWords := rfl
theorem ml14 : mcl 14 = 4 := rfl
theorem t14 : mrt 14 = 0 := rfl
theorem mc15 : mcode 15 = cX3_setRowWords := rfl
theorem ml15 : mcl 15 = 4 := rfl
theorem t15 : mrt 15 = 0 := rfl
theorem mc16 : mcode 16 = cX3_find := rfl
theorem ml16 : mcl 16 = 4 := rfl
theorem t16 : mrt 16 = 1 := rfl
theorem mc17 : mcode 17 = cX3_findAlone := rfl
theorem ml17 : mcl 17 = 4 := rfl
theorem t17 : mrt 17 = 1 := rfl
theorem mc18 : mcode 18 = cX3_forget := rfl
theorem ml18 : mcl 18 = 4 := rfl
theorem t18 : mrt 18 = 0 := rfl
theorem mc19 : mcode 19 = cX3_findIn := rfl
theorem ml19 : mcl 19 = 4 := rfl
theorem t19 : mrt 19 = 0 := rfl
theorem mc20 : mcode 20 = cX3_foundPlace := rfl
theorem ml20 : mcl 20 = 4 := rfl
theorem t20 : mrt 20 = 1 := rfl
theorem mc21 : mcode 21 = cX3_countQuarrels := rfl
theorem ml21 : mcl 21 = 4 := rfl
theorem t21 : mrt 21 = 1 := rfl
theorem mc22 : mcode 22 = cX3_countOthers := rfl
theorem ml22 : mcl 22 = 4 := rfl
theorem t22 : mrt 22 = 1 := rfl
theorem mc23 : mcode 23 = cX3_bounded := rfl
theorem ml23 : mcl 23 = 4 := rfl
theorem t23 : mrt 23 = 1 := rfl
theorem mc24 : mcode 24 = cX3_result := rfl
theorem ml24 : mcl 24 = 4 := rfl
theorem t24 : mrt 24 = 3 := rfl
theorem mc25 : mcode 25 = cX3_joined := rfl
theorem ml25 : mcl 25 = 4 := rfl
theorem t25 : mrt 25 = 3 := rfl
theorem mc26 : mcode 26 = cX4_init := rfl
theorem ml26 : mcl 26 = 5 := rfl
theorem t26 : mrt 26 = 0 := rfl
theorem mc27 : mcode 27 = cX4_hasPost := rfl
theorem ml27 : mcl 27 = 5 := rfl
theorem t27 : mrt 27 = 2 := rfl
theorem mc28 : mcode 28 = cX4_paysRent := rfl
theorem ml28 : mcl 28 = 5 := rfl
theorem t28 : mrt 28 = 2 := rfl
theorem mc29 : mcode 29 = cX4_takePost := rfl
theorem ml29 : mcl 29 = 5 := rfl
theorem t29 : mrt 29 = 0 := rfl
theorem mc30 : mcode 30 = cX4_losePost := rfl
theorem ml30 : mcl 30 = 5 := rfl
theorem t30 : mrt 30 = 0 := rfl
theorem mc31 : mcode 31 = cX4_moveInto := rfl
theorem ml31 : mcl 31 = 5 := rfl
theorem t31 : mrt 31 = 0 := rfl
theorem mc32 : mcode 32 = cX4_moveOut := rfl
theorem ml32 : mcl 32 = 5 := rfl
theorem t32 : mrt 32 = 0 := rfl
theorem mc33 : mcode 33 = cX5_init := rfl
theorem ml33 : mcl 33 = 6 := rfl
theorem t33 : mrt 33 = 0 := rfl
theorem mc34 : mcode 34 = cX6_init := rfl
theorem ml34 : mcl 34 = 7 := rfl
theorem t34 : mrt 34 = 0 := rfl
theorem mc35 : mcode 35 = cX7_init := rfl
theorem ml35 : mcl 35 = 8 := rfl
theorem t35 : mrt 35 = 0 := rfl
theorem mc36 : mcode 36 = cX8_init := rfl
theorem ml36 : mcl 36 = 9 := rfl
theorem t36 : mrt 36 = 0 := rfl
theorem mc37 : mcode 37 = cX8_isInForce := rfl
theorem ml37 : mcl 37 = 9 := rfl
theorem t37 : mrt 37 = 2 := rfl
theorem mc38 : mcode 38 = cX8_strike := rfl
theorem ml38 : mcl 38 = 9 := rfl
theorem t38 : mrt 38 = 0 := rfl
theorem mc39 : mcode 39 = cX8_strikes := rfl
theorem ml39 : mcl 39 = 9 := rfl
theorem t39 : mrt 39 = 2 := rfl
theorem mc40 : mcode 40 = cX9_init := rfl
theorem ml40 : mcl 40 = 10 := rfl
theorem t40 : mrt 40 = 0 := rfl
theorem mc41 : mcode 41 = cX9_hasSpaceFor := rfl
theorem ml41 : mcl 41 = 10 := rfl
theorem t41 : mrt 41 = 2 := rfl
theorem mc42 : mcode 42 = cX9_append := rfl
theorem ml42 : mcl 42 = 10 := rfl
theorem t42 : mrt 42 = 0 := rfl
theorem mc43 : mcode 43 = cX9_fill := rfl
theorem ml43 : mcl 43 = 10 := rfl
theorem t43 : mrt 43 = 2 := rfl
theorem mc44 : mcode 44 = cX9_splitTokens := rfl
theorem ml44 : mcl 44 = 10 := rfl
theorem t44 : mrt 44 = 0 := rfl
theorem mc45 : mcode 45 = cX9_sortOf := rfl
theorem ml45 : mcl 45 = 10 := rfl
theorem t45 : mrt 45 = 1 := rfl
theorem mc46 : mcode 46 = cX9_addToken := rfl
theorem ml46 : mcl 46 = 10 := rfl
theorem t46 : mrt 46 = 0 := rfl
theorem mc47 : mcode 47 = cX9_knownAs := rfl
theorem ml47 : mcl 47 = 10 := rfl
theorem t47 : mrt 47 = 1 := rfl
theorem mc48 : mcode 48 = cX9_isSpelled := rfl
theorem ml48 : mcl 48 = 10 := rfl
theorem t48 : mrt 48 = 2 := rfl
theorem mc49 : mcode 49 = cX9_wordOf := rfl
theorem ml49 : mcl 49 = 10 := rfl
theorem t49 : mrt 49 = 4 := rfl
theorem mc50 : mcode 50 = cX9_next := rfl
theorem ml50 : mcl 50 = 10 := rfl
theorem t50 : mrt 50 = 0 := rfl
theorem mc51 : mcode 51 = cX9_isKnown := rfl
theorem ml51 : mcl 51 = 10 := rfl
theorem t51 : mrt 51 = 2 := rfl
theorem mc52 : mcode 52 = cX9_fail := rfl
theorem ml52 : mcl 52 = 10 := rfl
theorem t52 : mrt 52 = 2 := rfl
theorem mc53 : mcode 53 = cX9_skip := rfl
theorem ml53 : mcl 53 = 10 := rfl
theorem t53 : mrt 53 = 2 := rfl
theorem mc54 : mcode 54 = cX9_emit := rfl
theorem ml54 : mcl 54 = 10 := rfl
theorem t54 : mrt 54 = 0 := rfl
theorem mc55 : mcode 55 = cX9_readStatement := rfl
theorem ml55 : mcl 55 = 10 := rfl
theorem t55 : mrt 55 = 2 := rfl
theorem mc56 : mcode 56 = cX9_readName := rfl
theorem ml56 : mcl 56 = 10 := rfl
theorem t56 : mrt 56 = 3 := rfl
theorem mc57 : mcode 57 = cX9_readStruck := rfl
theorem ml57 : mcl 57 = 10 := rfl
theorem t57 : mrt 57 = 2 := rfl
theorem mc58 : mcode 58 = cX9_readValue := rfl
theorem ml58 : mcl 58 = 10 := rfl
theorem t58 : mrt 58 = 2 := rfl
theorem mc59 : mcode 59 = cX9_readNumber := rfl
theorem ml59 : mcl 59 = 10 := rfl
theorem t59 : mrt 59 = 2 := rfl
theorem mc60 : mcode 60 = cX9_readCond := rfl
theorem ml60 : mcl 60 = 10 := rfl
theorem t60 : mrt 60 = 2 := rfl
theorem mc61 : mcode 61 = cX9_readBoth := rfl
theorem ml61 : mcl 61 = 10 := rfl
theorem t61 : mrt 61 = 2 := rfl
theorem mc62 : mcode 62 = cX9_readPart := rfl
theorem ml62 : mcl 62 = 10 := rfl
theorem t62 : mrt 62 = 2 := rfl
theorem mc63 : mcode 63 = cX9_readBrackets := rfl
theorem ml63 : mcl 63 = 10 := rfl
theorem t63 : mrt 63 = 2 := rfl
theorem mc64 : mcode 64 = cX9_readComparison := rfl
theorem ml64 : mcl 64 = 10 := rfl
theorem t64 : mrt 64 = 2 := rfl
theorem mc65 : mcode 65 = cX9_readSum := rfl
theorem ml65 : mcl 65 = 10 := rfl
theorem t65 : mrt 65 = 2 := rfl
theorem mc66 : mcode 66 = cX9_readProduct := rfl
theorem ml66 : mcl 66 = 10 := rfl
theorem t66 : mrt 66 = 2 := rfl
theorem mc67 : mcode 67 = cX9_readFactor := rfl
theorem ml67 : mcl 67 = 10 := rfl
theorem t67 : mrt 67 = 2 := rfl
theorem mc68 : mcode 68 = cX10_init := rfl
theorem ml68 : mcl 68 = 11 := rfl
theorem t68 : mrt 68 = 0 := rfl
theorem mc69 : mcode 69 = cX10_put := rfl
theorem ml69 : mcl 69 = 11 := rfl
theorem t69 : mrt 69 = 0 := rfl
theorem mc70 : mcode 70 = cX10_cell := rfl
theorem ml70 : mcl 70 = 11 := rfl
theorem t70 : mrt 70 = 1 := rfl
theorem mc71 : mcode 71 = cX11_init := rfl
theorem ml71 : mcl 71 = 12 := rfl
theorem t71 : mrt 71 = 0 := rfl
theorem mc72 : mcode 72 = cX11_person := rfl
theorem ml72 : mcl 72 = 12 := rfl
theorem t72 : mrt 72 = 1 := rfl
theorem mc73 : mcode 73 = cX11_house := rfl
theorem ml73 : mcl 73 = 12 := rfl
theorem t73 : mrt 73 = 1 := rfl
theorem mc74 : mcode 74 = cX11_post := rfl
theorem ml74 : mcl 74 = 12 := rfl
theorem t74 : mrt 74 = 2 := rfl
theorem mc75 : mcode 75 = cX11_club := rfl
theorem ml75 : mcl 75 = 12 := rfl
theorem t75 : mrt 75 = 2 := rfl
theorem mc76 : mcode 76 = cX11_holds := rfl
theorem ml76 : mcl 76 = 12 := rfl
theorem t76 : mrt 76 = 2 := rfl
theorem mc77 : mcode 77 = cX11_feed := rfl
theorem ml77 : mcl 77 = 12 := rfl
theorem t77 : mrt 77 = 1 := rfl
theorem mc78 : mcode 78 = cX11_end := rfl
theorem ml78 : mcl 78 = 12 := rfl
theorem t78 : mrt 78 = 1 := rfl
theorem mc79 : mcode 79 = cX11_text := rfl
theorem ml79 : mcl 79 = 12 := rfl
theorem t79 : mrt 79 = 1 := rfl
theorem mc80 : mcode 80 = cX11_place := rfl
theorem ml80 : mcl 80 = 12 := rfl
theorem t80 : mrt 80 = 1 := rfl
theorem mc81 : mcode 81 = cX11_value := rfl
theorem ml81 : mcl 81 = 12 := rfl
theorem t81 : mrt 81 = 1 := rfl
theorem mc82 : mcode 82 = cX11_why := rfl
theorem ml82 : mcl 82 = 12 := rfl
theorem t82 : mrt 82 = 1 := rfl
theorem mc83 : mcode 83 = cX11_quarrel := rfl
theorem ml83 : mcl 83 = 12 := rfl
theorem t83 : mrt 83 = 1 := rfl
theorem mc84 : mcode 84 = cX11_fineOf := rfl
theorem ml84 : mcl 84 = 12 := rfl
theorem t84 : mrt 84 = 1 := rfl
theorem mc85 : mcode 85 = cX11_isAskable := rfl
theorem ml85 : mcl 85 = 12 := rfl
theorem t85 : mrt 85 = 2 := rfl
theorem mc86 : mcode 86 = cX11_ruleToday := rfl
theorem ml86 : mcl 86 = 12 := rfl
theorem t86 : mrt 86 = 1 := rfl
theorem mc87 : mcode 87 = cX11_hours := rfl
theorem ml87 : mcl 87 = 12 := rfl
theorem t87 : mrt 87 = 2 := rfl
theorem mc88 : mcode 88 = cX11_days := rfl
theorem ml88 : mcl 88 = 12 := rfl
theorem t88 : mrt 88 = 1 := rfl
theorem mc89 : mcode 89 = cX11_leaveHouses := rfl
theorem ml89 : mcl 89 = 12 := rfl
theorem t89 : mrt 89 = 0 := rfl
theorem mc90 : mcode 90 = cX11_closeWeek := rfl
theorem ml90 : mcl 90 = 12 := rfl
theorem t90 : mrt 90 = 0 := rfl
theorem mc91 : mcode 91 = cX11_gatherHours := rfl
theorem ml91 : mcl 91 = 12 := rfl
theorem t91 : mrt 91 = 0 := rfl
theorem mc92 : mcode 92 = cX11_settle := rfl
theorem ml92 : mcl 92 = 12 := rfl
theorem t92 : mrt 92 = 0 := rfl
theorem mc93 : mcode 93 = cX11_stopFrom := rfl
theorem ml93 : mcl 93 = 12 := rfl
theorem t93 : mrt 93 = 1 := rfl
theorem mc94 : mcode 94 = cX11_row := rfl
theorem ml94 : mcl 94 = 12 := rfl
theorem t94 : mrt 94 = 1 := rfl
theorem mc95 : mcode 95 = cX11_good := rfl
theorem ml95 : mcl 95 = 12 := rfl
theorem t95 : mrt 95 = 2 := rfl
theorem mc96 : mcode 96 = cX11_buys := rfl
theorem ml96 : mcl 96 = 12 := rfl
theorem t96 : mrt 96 = 1 := rfl
theorem mc97 : mcode 97 = cX11_draws := rfl
theorem ml97 : mcl 97 = 12 := rfl
theorem t97 : mrt 97 = 1 := rfl
theorem mc98 : mcode 98 = cX11_run := rfl
theorem ml98 : mcl 98 = 12 := rfl
theorem t98 : mrt 98 = 1 := rfl
theorem mc99 : mcode 99 = cX11_ends := rfl
theorem ml99 : mcl 99 = 12 := rfl
theorem t99 : mrt 99 = 1 := rfl
theorem mc100 : mcode 100 = cX11_undone := rfl
theorem ml100 : mcl 100 = 12 := rfl
theorem t100 : mrt 100 = 1 := rfl
theorem mc101 : mcode 101 = cX11_asks := rfl
theorem ml101 : mcl 101 = 12 := rfl
theorem t101 : mrt 101 = 1 := rfl
theorem mc102 : mcode 102 = cX11_give := rfl
theorem ml102 : mcl 102 = 12 := rfl
theorem t102 : mrt 102 = 1 := rfl
theorem mc103 : mcode 103 = cX11_placeOfFirst := rfl
theorem ml103 : mcl 103 = 12 := rfl
theorem t103 : mrt 103 = 1 := rfl
theorem mc104 : mcode 104 = cX11_notePassed := rfl
theorem ml104 : mcl 104 = 12 := rfl
theorem t104 : mrt 104 = 0 := rfl
theorem mc105 : mcode 105 = cX11_placeInQueue := rfl
theorem ml105 : mcl 105 = 12 := rfl
theorem t105 : mrt 105 = 1 := rfl
theorem mc106 : mcode 106 = cX11_passed := rfl
theorem ml106 : mcl 106 = 12 := rfl
theorem t106 : mrt 106 = 1 := rfl
theorem mc107 : mcode 107 = cX11_seen := rfl
theorem ml107 : mcl 107 = 12 := rfl
theorem t107 : mrt 107 = 1 := rfl
theorem mc108 : mcode 108 = cX11_fines := rfl
theorem ml108 : mcl 108 = 12 := rfl
theorem t108 : mrt 108 = 1 := rfl
theorem mc109 : mcode 109 = cX11_unlike := rfl
theorem ml109 : mcl 109 = 12 := rfl
theorem t109 : mrt 109 = 1 := rfl
theorem mc110 : mcode 110 = cX11_flaw := rfl
theorem ml110 : mcl 110 = 12 := rfl
theorem t110 : mrt 110 = 1 := rfl
theorem mc111 : mcode 111 = cX11_mends := rfl
theorem ml111 : mcl 111 = 12 := rfl
theorem t111 : mrt 111 = 1 := rfl
theorem mc112 : mcode 112 = cX11_waits := rfl
theorem ml112 : mcl 112 = 12 := rfl
theorem t112 : mrt 112 = 1 := rfl
theorem mc113 : mcode 113 = cX11_waitOf := rfl
theorem ml113 : mcl 113 = 12 := rfl
theorem t113 : mrt 113 = 1 := rfl
theorem mc114 : mcode 114 = cX11_waitsMost := rfl
theorem ml114 : mcl 114 = 12 := rfl
theorem t114 : mrt 114 = 1 := rfl
theorem mc115 : mcode 115 = cX11_lasts := rfl
theorem ml115 : mcl 115 = 12 := rfl
theorem t115 : mrt 115 = 1 := rfl
theorem mc116 : mcode 116 = cX11_lasting := rfl
theorem ml116 : mcl 116 = 12 := rfl
theorem t116 : mrt 116 = 1 := rfl
theorem mc117 : mcode 117 = cX11_headsWithPosts := rfl
theorem ml117 : mcl 117 = 12 := rfl
theorem t117 : mrt 117 = 1 := rfl
theorem mc118 : mcode 118 = cX11_weeksOf := rfl
theorem ml118 : mcl 118 = 12 := rfl
theorem t118 : mrt 118 = 1 := rfl
theorem mc119 : mcode 119 = cX11_other := rfl
theorem ml119 : mcl 119 = 12 := rfl
theorem t119 : mrt 119 = 3 := rfl
theorem mc120 : mcode 120 = cX11_leftBy := rfl
theorem ml120 : mcl 120 = 12 := rfl
theorem t120 : mrt 120 = 1 := rfl
theorem mc121 : mcode 121 = cX11_bid := rfl
theorem ml121 : mcl 121 = 12 := rfl
theorem t121 : mrt 121 = 2 := rfl
theorem mc122 : mcode 122 = cX11_sells := rfl
theorem ml122 : mcl 122 = 12 := rfl
theorem t122 : mrt 122 = 1 := rfl
theorem mc123 : mcode 123 = cX11_buyer := rfl
theorem ml123 : mcl 123 = 12 := rfl
theorem t123 : mrt 123 = 1 := rfl
theorem mc124 : mcode 124 = cX11_offer := rfl
theorem ml124 : mcl 124 = 12 := rfl
theorem t124 : mrt 124 = 2 := rfl
theorem mc125 : mcode 125 = cX11_bestSale := rfl
theorem ml125 : mcl 125 = 12 := rfl
theorem t125 : mrt 125 = 3 := rfl
theorem mc126 : mcode 126 = cX11_bidsForOffered := rfl
theorem ml126 : mcl 126 = 12 := rfl
theorem t126 : mrt 126 = 2 := rfl
theorem mc127 : mcode 127 = cX11_bestWith := rfl
theorem ml127 : mcl 127 = 12 := rfl
theorem t127 : mrt 127 = 3 := rfl
theorem mc128 : mcode 128 = cX11_placeShift := rfl
theorem ml128 : mcl 128 = 12 := rfl
theorem t128 : mrt 128 = 1 := rfl
theorem mc129 : mcode 129 = cX11_sold := rfl
theorem ml129 : mcl 129 = 12 := rfl
theorem t129 : mrt 129 = 2 := rfl
theorem mc130 : mcode 130 = cX11_of := rfl
theorem ml130 : mcl 130 = 12 := rfl
theorem t130 : mrt 130 = 1 := rfl
theorem mc131 : mcode 131 = cX11_houseOf := rfl
theorem ml131 : mcl 131 = 12 := rfl
theorem t131 : mrt 131 = 1 := rfl
theorem mc132 : mcode 132 = cX11_count := rfl
theorem ml132 : mcl 132 = 12 := rfl
theorem t132 : mrt 132 = 1 := rfl
theorem mc133 : mcode 133 = cX11_personAt := rfl
theorem ml133 : mcl 133 = 12 := rfl
theorem t133 : mrt 133 = 4 := rfl
theorem mc134 : mcode 134 = cX11_houseAt := rfl
theorem ml134 : mcl 134 = 12 := rfl
theorem t134 : mrt 134 = 4 := rfl
theorem mc135 : mcode 135 = cX11_isDay := rfl
theorem ml135 : mcl 135 = 12 := rfl
theorem t135 : mrt 135 = 2 := rfl
theorem mc136 : mcode 136 = cX11_within := rfl
theorem ml136 : mcl 136 = 12 := rfl
theorem t136 : mrt 136 = 2 := rfl
theorem mc137 : mcode 137 = cX12_init := rfl
theorem ml137 : mcl 137 = 13 := rfl
theorem t137 : mrt 137 = 0 := rfl
theorem mc138 : mcode 138 = cX12_thrown := rfl
theorem ml138 : mcl 138 = 13 := rfl
theorem t138 : mrt 138 = 1 := rfl
theorem mc139 : mcode 139 = cX12_fails := rfl
theorem ml139 : mcl 139 = 13 := rfl
theorem t139 : mrt 139 = 1 := rfl
theorem mc140 : mcode 140 = cX12_within := rfl
theorem ml140 : mcl 140 = 13 := rfl
theorem t140 : mrt 140 = 2 := rfl
theorem mc141 : mcode 141 = cX12_isDay := rfl
theorem ml141 : mcl 141 = 13 := rfl
theorem t141 : mrt 141 = 2 := rfl
theorem mc142 : mcode 142 = cX12_isPerson := rfl
theorem ml142 : mcl 142 = 13 := rfl
theorem t142 : mrt 142 = 2 := rfl
theorem mc143 : mcode 143 = cX12_isHouse := rfl
theorem ml143 : mcl 143 = 13 := rfl
theorem t143 : mrt 143 = 2 := rfl
theorem mc144 : mcode 144 = cX12_person := rfl
theorem ml144 : mcl 144 = 13 := rfl
theorem t144 : mrt 144 = 1 := rfl
theorem mc145 : mcode 145 = cX12_house := rfl
theorem ml145 : mcl 145 = 13 := rfl
theorem t145 : mrt 145 = 1 := rfl
theorem mc146 : mcode 146 = cX12_post := rfl
theorem ml146 : mcl 146 = 13 := rfl
theorem t146 : mrt 146 = 2 := rfl
theorem mc147 : mcode 147 = cX12_club := rfl
theorem ml147 : mcl 147 = 13 := rfl
theorem t147 : mrt 147 = 2 := rfl
theorem mc148 : mcode 148 = cX12_holds := rfl
theorem ml148 : mcl 148 = 13 := rfl
theorem t148 : mrt 148 = 2 := rfl
theorem mc149 : mcode 149 = cX12_feed := rfl
theorem ml149 : mcl 149 = 13 := rfl
theorem t149 : mrt 149 = 1 := rfl
theorem mc150 : mcode 150 = cX12_end := rfl
theorem ml150 : mcl 150 = 13 := rfl
theorem t150 : mrt 150 = 1 := rfl
theorem mc151 : mcode 151 = cX12_byteAt := rfl
theorem ml151 : mcl 151 = 13 := rfl
theorem t151 : mrt 151 = 1 := rfl
theorem mc152 : mcode 152 = cX12_next := rfl
theorem ml152 : mcl 152 = 13 := rfl
theorem t152 : mrt 152 = 0 := rfl
theorem mc153 : mcode 153 = cX12_isWord := rfl
theorem ml153 : mcl 153 = 13 := rfl
theorem t153 : mrt 153 = 2 := rfl
theorem mc154 : mcode 154 = cX12_isSign := rfl
theorem ml154 : mcl 154 = 13 := rfl
theorem t154 : mrt 154 = 2 := rfl
theorem mc155 : mcode 155 = cX12_wrong := rfl
theorem ml155 : mcl 155 = 13 := rfl
theorem t155 : mrt 155 = 2 := rfl
theorem mc156 : mcode 156 = cX12_takesWord := rfl
theorem ml156 : mcl 156 = 13 := rfl
theorem t156 : mrt 156 = 2 := rfl
theorem mc157 : mcode 157 = cX12_takesSign := rfl
theorem ml157 : mcl 157 = 13 := rfl
theorem t157 : mrt 157 = 2 := rfl
theorem mc158 : mcode 158 = cX12_number := rfl
theorem ml158 : mcl 158 = 13 := rfl
theorem t158 : mrt 158 = 2 := rfl
theorem mc159 : mcode 159 = cX12_kindWord := rfl
theorem ml159 : mcl 159 = 13 := rfl
theorem t159 : mrt 159 = 4 := rfl
theorem mc160 : mcode 160 = cX12_factWord := rfl
theorem ml160 : mcl 160 = 13 := rfl
theorem t160 : mrt 160 = 4 := rfl
theorem mc161 : mcode 161 = cX12_kindHere := rfl
theorem ml161 : mcl 161 = 13 := rfl
theorem t161 : mrt 161 = 1 := rfl
theorem mc162 : mcode 162 = cX12_factHere := rfl
theorem ml162 : mcl 162 = 13 := rfl
theorem t162 : mrt 162 = 1 := rfl
theorem mc163 : mcode 163 = cX12_emit := rfl
theorem ml163 : mcl 163 = 13 := rfl
theorem t163 : mrt 163 = 0 := rfl
theorem mc164 : mcode 164 = cX12_opens := rfl
theorem ml164 : mcl 164 = 13 := rfl
theorem t164 : mrt 164 = 2 := rfl
theorem mc165 : mcode 165 = cX12_closes := rfl
theorem ml165 : mcl 165 = 13 := rfl
theorem t165 : mrt 165 = 2 := rfl
theorem mc166 : mcode 166 = cX12_factor := rfl
theorem ml166 : mcl 166 = 13 := rfl
theorem t166 : mrt 166 = 2 := rfl
theorem mc167 : mcode 167 = cX12_product := rfl
theorem ml167 : mcl 167 = 13 := rfl
theorem t167 : mrt 167 = 2 := rfl
theorem mc168 : mcode 168 = cX12_sum := rfl
theorem ml168 : mcl 168 = 13 := rfl
theorem t168 : mrt 168 = 2 := rfl
theorem mc169 : mcode 169 = cX12_part := rfl
theorem ml169 : mcl 169 = 13 := rfl
theorem t169 : mrt 169 = 2 := rfl
theorem mc170 : mcode 170 = cX12_both := rfl
theorem ml170 : mcl 170 = 13 := rfl
theorem t170 : mrt 170 = 2 := rfl
theorem mc171 : mcode 171 = cX12_cond := rfl
theorem ml171 : mcl 171 = 13 := rfl
theorem t171 : mrt 171 = 2 := rfl
theorem mc172 : mcode 172 = cX12_statement := rfl
theorem ml172 : mcl 172 = 13 := rfl
theorem t172 : mrt 172 = 2 := rfl
theorem mc173 : mcode 173 = cX12_body := rfl
theorem ml173 : mcl 173 = 13 := rfl
theorem t173 : mrt 173 = 2 := rfl
theorem mc174 : mcode 174 = cX12_text := rfl
theorem ml174 : mcl 174 = 13 := rfl
theorem t174 : mrt 174 = 1 := rfl
theorem mc175 : mcode 175 = cX12_numbered := rfl
theorem ml175 : mcl 175 = 13 := rfl
theorem t175 : mrt 175 = 1 := rfl
theorem mc176 : mcode 176 = cX12_place := rfl
theorem ml176 : mcl 176 = 13 := rfl
theorem t176 : mrt 176 = 1 := rfl
theorem mc177 : mcode 177 = cX12_held := rfl
theorem ml177 : mcl 177 = 13 := rfl
theorem t177 : mrt 177 = 3 := rfl
theorem mc178 : mcode 178 = cX12_worked := rfl
theorem ml178 : mcl 178 = 13 := rfl
theorem t178 : mrt 178 = 3 := rfl
theorem mc179 : mcode 179 = cX12_asked := rfl
theorem ml179 : mcl 179 = 13 := rfl
theorem t179 : mrt 179 = 2 := rfl
theorem mc180 : mcode 180 = cX12_asksOf := rfl
theorem ml180 : mcl 180 = 13 := rfl
theorem t180 : mrt 180 = 0 := rfl
theorem mc181 : mcode 181 = cX12_holds0 := rfl
theorem ml181 : mcl 181 = 13 := rfl
theorem t181 : mrt 181 = 2 := rfl
theorem mc182 : mcode 182 = cX12_valueOf := rfl
theorem ml182 : mcl 182 = 13 := rfl
theorem t182 : mrt 182 = 1 := rfl
theorem mc183 : mcode 183 = cX12_orders := rfl
theorem ml183 : mcl 183 = 13 := rfl
theorem t183 : mrt 183 = 0 := rfl
theorem mc184 : mcode 184 = cX12_firstLeft := rfl
theorem ml184 : mcl 184 = 13 := rfl
theorem t184 : mrt 184 = 1 := rfl
theorem mc185 : mcode 185 = cX12_ruleOf := rfl
theorem ml185 : mcl 185 = 13 := rfl
theorem t185 : mrt 185 = 1 := rfl
theorem mc186 : mcode 186 = cX12_without := rfl
theorem ml186 : mcl 186 = 13 := rfl
theorem t186 : mrt 186 = 1 := rfl
theorem mc187 : mcode 187 = cX12_valueFor := rfl
theorem ml187 : mcl 187 = 13 := rfl
theorem t187 : mrt 187 = 1 := rfl
theorem mc188 : mcode 188 = cX12_now := rfl
theorem ml188 : mcl 188 = 13 := rfl
theorem t188 : mrt 188 = 1 := rfl
theorem mc189 : mcode 189 = cX12_isAsked := rfl
theorem ml189 : mcl 189 = 13 := rfl
theorem t189 : mrt 189 = 2 := rfl
theorem mc190 : mcode 190 = cX12_value := rfl
theorem ml190 : mcl 190 = 13 := rfl
theorem t190 : mrt 190 = 1 := rfl
theorem mc191 : mcode 191 = cX12_why := rfl
theorem ml191 : mcl 191 = 13 := rfl
theorem t191 : mrt 191 = 1 := rfl
theorem mc192 : mcode 192 = cX12_quarrel := rfl
theorem ml192 : mcl 192 = 13 := rfl
theorem t192 : mrt 192 = 1 := rfl
theorem mc193 : mcode 193 = cX12_fineOf := rfl
theorem ml193 : mcl 193 = 13 := rfl
theorem t193 : mrt 193 = 1 := rfl
theorem mc194 : mcode 194 = cX12_hours := rfl
theorem ml194 : mcl 194 = 13 := rfl
theorem t194 : mrt 194 = 2 := rfl
theorem mc195 : mcode 195 = cX12_hoursOf := rfl
theorem ml195 : mcl 195 = 13 := rfl
theorem t195 : mrt 195 = 1 := rfl
theorem mc196 : mcode 196 = cX12_stops := rfl
theorem ml196 : mcl 196 = 13 := rfl
theorem t196 : mrt 196 = 1 := rfl
theorem mc197 : mcode 197 = cX12_closes_ := rfl
theorem ml197 : mcl 197 = 13 := rfl
theorem t197 : mrt 197 = 0 := rfl
theorem mc198 : mcode 198 = cX12_leaves := rfl
theorem ml198 : mcl 198 = 13 := rfl
theorem t198 : mrt 198 = 0 := rfl
theorem mc199 : mcode 199 = cX12_days := rfl
theorem ml199 : mcl 199 = 13 := rfl
theorem t199 : mrt 199 = 1 := rfl
theorem mc200 : mcode 200 = cX12_row := rfl
theorem ml200 : mcl 200 = 13 := rfl
theorem t200 : mrt 200 = 1 := rfl
theorem mc201 : mcode 201 = cX12_good := rfl
theorem ml201 : mcl 201 = 13 := rfl
theorem t201 : mrt 201 = 2 := rfl
theorem mc202 : mcode 202 = cX12_buys := rfl
theorem ml202 : mcl 202 = 13 := rfl
theorem t202 : mrt 202 = 1 := rfl
theorem mc203 : mcode 203 = cX12_draws := rfl
theorem ml203 : mcl 203 = 13 := rfl
theorem t203 : mrt 203 = 1 := rfl
theorem mc204 : mcode 204 = cX12_run := rfl
theorem ml204 : mcl 204 = 13 := rfl
theorem t204 : mrt 204 = 1 := rfl
theorem mc205 : mcode 205 = cX12_placeIn := rfl
theorem ml205 : mcl 205 = 13 := rfl
theorem t205 : mrt 205 = 1 := rfl
theorem mc206 : mcode 206 = cX12_goesOut := rfl
theorem ml206 : mcl 206 = 13 := rfl
theorem t206 : mrt 206 = 0 := rfl
theorem mc207 : mcode 207 = cX12_ends := rfl
theorem ml207 : mcl 207 = 13 := rfl
theorem t207 : mrt 207 = 1 := rfl
theorem mc208 : mcode 208 = cX12_undone := rfl
theorem ml208 : mcl 208 = 13 := rfl
theorem t208 : mrt 208 = 1 := rfl
theorem mc209 : mcode 209 = cX12_lets := rfl
theorem ml209 : mcl 209 = 13 := rfl
theorem t209 : mrt 209 = 0 := rfl
theorem mc210 : mcode 210 = cX12_asks := rfl
theorem ml210 : mcl 210 = 13 := rfl
theorem t210 : mrt 210 = 1 := rfl
theorem mc211 : mcode 211 = cX12_give := rfl
theorem ml211 : mcl 211 = 13 := rfl
theorem t211 : mrt 211 = 1 := rfl
theorem mc212 : mcode 212 = cX12_passed := rfl
theorem ml212 : mcl 212 = 13 := rfl
theorem t212 : mrt 212 = 1 := rfl
theorem mc213 : mcode 213 = cX12_seen := rfl
theorem ml213 : mcl 213 = 13 := rfl
theorem t213 : mrt 213 = 1 := rfl
theorem mc214 : mcode 214 = cX12_fines := rfl
theorem ml214 : mcl 214 = 13 := rfl
theorem t214 : mrt 214 = 1 := rfl
theorem mc215 : mcode 215 = cX12_unlike := rfl
theorem ml215 : mcl 215 = 13 := rfl
theorem t215 : mrt 215 = 1 := rfl
theorem mc216 : mcode 216 = cX12_flaw := rfl
theorem ml216 : mcl 216 = 13 := rfl
theorem t216 : mrt 216 = 1 := rfl
theorem mc217 : mcode 217 = cX12_mends := rfl
theorem ml217 : mcl 217 = 13 := rfl
theorem t217 : mrt 217 = 1 := rfl
theorem mc218 : mcode 218 = cX12_waitsOf := rfl
theorem ml218 : mcl 218 = 13 := rfl
theorem t218 : mrt 218 = 1 := rfl
theorem mc219 : mcode 219 = cX12_waits := rfl
theorem ml219 : mcl 219 = 13 := rfl
theorem t219 : mrt 219 = 1 := rfl
theorem mc220 : mcode 220 = cX12_lastsOf := rfl
theorem ml220 : mcl 220 = 13 := rfl
theorem t220 : mrt 220 = 1 := rfl
theorem mc221 : mcode 221 = cX12_lasts := rfl
theorem ml221 : mcl 221 = 13 := rfl
theorem t221 : mrt 221 = 1 := rfl
theorem mc222 : mcode 222 = cX12_lasting := rfl
theorem ml222 : mcl 222 = 13 := rfl
theorem t222 : mrt 222 = 1 := rfl
theorem mc223 : mcode 223 = cX12_otherValue := rfl
theorem ml223 : mcl 223 = 13 := rfl
theorem t223 : mrt 223 = 1 := rfl
theorem mc224 : mcode 224 = cX12_other := rfl
theorem ml224 : mcl 224 = 13 := rfl
theorem t224 : mrt 224 = 3 := rfl
theorem mc225 : mcode 225 = cX12_bid := rfl
theorem ml225 : mcl 225 = 13 := rfl
theorem t225 : mrt 225 = 2 := rfl
theorem mc226 : mcode 226 = cX12_areHouses := rfl
theorem ml226 : mcl 226 = 13 := rfl
theorem t226 : mrt 226 = 2 := rfl
theorem mc227 : mcode 227 = cX12_bestOf := rfl
theorem ml227 : mcl 227 = 13 := rfl
theorem t227 : mrt 227 = 1 := rfl
theorem mc228 : mcode 228 = cX12_sums := rfl
theorem ml228 : mcl 228 = 13 := rfl
theorem t228 : mrt 228 = 1 := rfl
theorem mc229 : mcode 229 = cX12_sells := rfl
theorem ml229 : mcl 229 = 13 := rfl
theorem t229 : mrt 229 = 1 := rfl
theorem mc230 : mcode 230 = cX12_buyer := rfl
theorem ml230 : mcl 230 = 13 := rfl
theorem t230 : mrt 230 = 1 := rfl
theorem mc231 : mcode 231 = cX12_sold := rfl
theorem ml231 : mcl 231 = 13 := rfl
theorem t231 : mrt 231 = 2 := rfl
theorem mc232 : mcode 232 = cX12_of := rfl
theorem ml232 : mcl 232 = 13 := rfl
theorem t232 : mrt 232 = 1 := rfl
theorem mc233 : mcode 233 = cX12_houseOf := rfl
theorem ml233 : mcl 233 = 13 := rfl
theorem t233 : mrt 233 = 1 := rfl
theorem mc234 : mcode 234 = cX12_count := rfl
theorem ml234 : mcl 234 = 13 := rfl
theorem t234 : mrt 234 = 1 := rfl
theorem x0 : mml 0 = 7 := rfl
theorem r0 : mar 0 = 1 := rfl
theorem x1 : mml 1 = 7 := rfl
theorem r1 : mar 1 = 6 := rfl
theorem x2 : mml 2 = 6 := rfl
theorem r2 : mar 2 = 5 := rfl
theorem x3 : mml 3 = 5 := rfl
theorem r3 : mar 3 = 4 := rfl
theorem x4 : mml 4 = 4 := rfl
theorem r4 : mar 4 = 3 := rfl
theorem x5 : mml 5 = 1 := rfl
theorem r5 : mar 5 = 0 := rfl
theorem x6 : mml 6 = 4 := rfl
theorem r6 : mar 6 = 3 := rfl
theorem x7 : mml 7 = 2 := rfl
theorem r7 : mar 7 = 1 := rfl
theorem x8 : mml 8 = 2 := rfl
theorem r8 : mar 8 = 1 := rfl
theorem x9 : mml 9 = 3 := rfl
theorem r9 : mar 9 = 2 := rfl
theorem x10 : mml 10 = 1 := rfl
theorem r10 : mar 10 = 0 := rfl
theorem x11 : mml 11 = 4 := rfl
theorem r11 : mar 11 = 1 := rfl
theorem x12 : mml 12 = 4 := rfl
theorem r12 : mar 12 = 1 := rfl
theorem x13 : mml 13 = 2 := rfl
theorem r13 : mar 13 = 1 := rfl
theorem x14 : mml 14 = 4 := rfl
theorem r14 : mar 14 = 2 := rfl
theorem x15 : mml 15 = 5 := rfl
theorem r15 : mar 15 = 4 := rfl
theorem x16 : mml 16 = 7 := rfl
theorem r16 : mar 16 = 4 := rfl
theorem x17 : mml 17 = 3 := rfl
theorem r17 : mar 17 = 2 := rfl
theorem x18 : mml 18 = 2 := rfl
theorem r18 : mar 18 = 1 := rfl
theorem x19 : mml 19 = 6 := rfl
theorem r19 : mar 19 = 3 := rfl
theorem x20 : mml 20 = 1 := rfl
theorem r20 : mar 20 = 0 := rfl
theorem x21 : mml 21 = 8 := rfl
theorem r21 : mar 21 = 3 := rfl
theorem x22 : mml 22 = 7 := rfl
theorem r22 : mar 22 = 3 := rfl
theorem x23 : mml 23 = 3 := rfl
theorem r23 : mar 23 = 2 := rfl
theorem x24 : mml 24 = 8 := rfl
theorem r24 : mar 24 = 3 := rfl
theorem x25 : mml 25 = 7 := rfl
theorem r25 : mar 25 = 3 := rfl
theorem x26 : mml 26 = 4 := rfl
theorem r26 : mar 26 = 3 := rfl
theorem x27 : mml 27 = 1 := rfl
theorem r27 : mar 27 = 0 := rfl
theorem x28 : mml 28 = 1 := rfl
theorem r28 : mar 28 = 0 := rfl
theorem x29 : mml 29 = 3 := rfl
theorem r29 : mar 29 = 2 := rfl
theorem x30 : mml 30 = 3 := rfl
theorem r30 : mar 30 = 2 := rfl
theorem x31 : mml 31 = 2 := rfl
theorem r31 : mar 31 = 1 := rfl
theorem x32 : mml 32 = 1 := rfl
theorem r32 : mar 32 = 0 := rfl
theorem x33 : mml 33 = 4 := rfl
theorem r33 : mar 33 = 3 := rfl
theorem x34 : mml 34 = 5 := rfl
theorem r34 : mar 34 = 3 := rfl
theorem x35 : mml 35 = 4 := rfl
theorem r35 : mar 35 = 3 := rfl
theorem x36 : mml 36 = 4 := rfl
theorem r36 : mar 36 = 3 := rfl
theorem x37 : mml 37 = 3 := rfl
theorem r37 : mar 37 = 2 := rfl
theorem x38 : mml 38 = 2 := rfl
theorem r38 : mar 38 = 1 := rfl
theorem x39 : mml 39 = 2 := rfl
theorem r39 : mar 39 = 1 := rfl
theorem x40 : mml 40 = 1 := rfl
theorem r40 : mar 40 = 0 := rfl
theorem x41 : mml 41 = 2 := rfl
theorem r41 : mar 41 = 1 := rfl
theorem x42 : mml 42 = 3 := rfl
theorem r42 : mar 42 = 1 := rfl
theorem x43 : mml 43 = 3 := rfl
theorem r43 : mar 43 = 1 := rfl
theorem x44 : mml 44 = 5 := rfl
theorem r44 : mar 44 = 0 := rfl
theorem x45 : mml 45 = 1 := rfl
theorem r45 : mar 45 = 1 := rfl
theorem x46 : mml 46 = 4 := rfl
theorem r46 : mar 46 = 3 := rfl
theorem x47 : mml 47 = 4 := rfl
theorem r47 : mar 47 = 2 := rfl
theorem x48 : mml 48 = 5 := rfl
theorem r48 : mar 48 = 3 := rfl
theorem x49 : mml 49 = 1 := rfl
theorem r49 : mar 49 = 1 := rfl
theorem x50 : mml 50 = 2 := rfl
theorem r50 : mar 50 = 0 := rfl
theorem x51 : mml 51 = 2 := rfl
theorem r51 : mar 51 = 1 := rfl
theorem x52 : mml 52 = 2 := rfl
theorem r52 : mar 52 = 1 := rfl
theorem x53 : mml 53 = 2 := rfl
theorem r53 : mar 53 = 1 := rfl
theorem x54 : mml 54 = 2 := rfl
theorem r54 : mar 54 = 1 := rfl
theorem x55 : mml 55 = 6 := rfl
theorem r55 : mar 55 = 2 := rfl
theorem x56 : mml 56 = 4 := rfl
theorem r56 : mar 56 = 0 := rfl
theorem x57 : mml 57 = 3 := rfl
theorem r57 : mar 57 = 1 := rfl
theorem x58 : mml 58 = 3 := rfl
theorem r58 : mar 58 = 1 := rfl
theorem x59 : mml 59 = 5 := rfl
theorem r59 : mar 59 = 2 := rfl
theorem x60 : mml 60 = 4 := rfl
theorem r60 : mar 60 = 1 := rfl
theorem x61 : mml 61 = 4 := rfl
theorem r61 : mar 61 = 1 := rfl
theorem x62 : mml 62 = 4 := rfl
theorem r62 : mar 62 = 1 := rfl
theorem x63 : mml 63 = 2 := rfl
theorem r63 : mar 63 = 1 := rfl
theorem x64 : mml 64 = 4 := rfl
theorem r64 : mar 64 = 1 := rfl
theorem x65 : mml 65 = 5 := rfl
theorem r65 : mar 65 = 1 := rfl
theorem x66 : mml 66 = 4 := rfl
theorem r66 : mar 66 = 1 := rfl
theorem x67 : mml 67 = 3 := rfl
theorem r67 : mar 67 = 1 := rfl
theorem x68 : mml 68 = 2 := rfl
theorem r68 : mar 68 = 1 := rfl
theorem x69 : mml 69 = 5 := rfl
theorem r69 : mar 69 = 3 := rfl
theorem x70 : mml 70 = 4 := rfl
theorem r70 : mar 70 = 2 := rfl
theorem x71 : mml 71 = 2 := rfl
theorem r71 : mar 71 = 0 := rfl
theorem x72 : mml 72 = 4 := rfl
theorem r72 : mar 72 = 2 := rfl
theorem x73 : mml 73 = 4 := rfl
theorem r73 : mar 73 = 2 := rfl
theorem x74 : mml 74 = 4 := rfl
theorem r74 : mar 74 = 2 := rfl
theorem x75 : mml 75 = 4 := rfl
theorem r75 : mar 75 = 2 := rfl
theorem x76 : mml 76 = 2 := rfl
theorem r76 : mar 76 = 1 := rfl
theorem x77 : mml 77 = 6 := rfl
theorem r77 : mar 77 = 5 := rfl
theorem x78 : mml 78 = 2 := rfl
theorem r78 : mar 78 = 1 := rfl
theorem x79 : mml 79 = 3 := rfl
theorem r79 : mar 79 = 1 := rfl
theorem x80 : mml 80 = 1 := rfl
theorem r80 : mar 80 = 0 := rfl
theorem x81 : mml 81 = 6 := rfl
theorem r81 : mar 81 = 4 := rfl
theorem x82 : mml 82 = 6 := rfl
theorem r82 : mar 82 = 4 := rfl
theorem x83 : mml 83 = 6 := rfl
theorem r83 : mar 83 = 4 := rfl
theorem x84 : mml 84 = 6 := rfl
theorem r84 : mar 84 = 4 := rfl
theorem x85 : mml 85 = 4 := rfl
theorem r85 : mar 85 = 3 := rfl
theorem x86 : mml 86 = 3 := rfl
theorem r86 : mar 86 = 2 := rfl
theorem x87 : mml 87 = 6 := rfl
theorem r87 : mar 87 = 3 := rfl
theorem x88 : mml 88 = 3 := rfl
theorem r88 : mar 88 = 1 := rfl
theorem x89 : mml 89 = 3 := rfl
theorem r89 : mar 89 = 0 := rfl
theorem x90 : mml 90 = 3 := rfl
theorem r90 : mar 90 = 0 := rfl
theorem x91 : mml 91 = 4 := rfl
theorem r91 : mar 91 = 1 := rfl
theorem x92 : mml 92 = 9 := rfl
theorem r92 : mar 92 = 2 := rfl
theorem x93 : mml 93 = 5 := rfl
theorem r93 : mar 93 = 2 := rfl
theorem x94 : mml 94 = 5 := rfl
theorem r94 : mar 94 = 3 := rfl
theorem x95 : mml 95 = 6 := rfl
theorem r95 : mar 95 = 4 := rfl
theorem x96 : mml 96 = 7 := rfl
theorem r96 : mar 96 = 3 := rfl
theorem x97 : mml 97 = 4 := rfl
theorem r97 : mar 97 = 1 := rfl
theorem x98 : mml 98 = 8 := rfl
theorem r98 : mar 98 = 1 := rfl
theorem x99 : mml 99 = 5 := rfl
theorem r99 : mar 99 = 1 := rfl
theorem x100 : mml 100 = 4 := rfl
theorem r100 : mar 100 = 1 := rfl
theorem x101 : mml 101 = 3 := rfl
theorem r101 : mar 101 = 1 := rfl
theorem x102 : mml 102 = 5 := rfl
theorem r102 : mar 102 = 1 := rfl
theorem x103 : mml 103 = 7 := rfl
theorem r103 : mar 103 = 1 := rfl
theorem x104 : mml 104 = 5 := rfl
theorem r104 : mar 104 = 2 := rfl
theorem x105 : mml 105 = 3 := rfl
theorem r105 : mar 105 = 1 := rfl
theorem x106 : mml 106 = 3 := rfl
theorem r106 : mar 106 = 1 := rfl
theorem x107 : mml 107 = 4 := rfl
theorem r107 : mar 107 = 2 := rfl
theorem x108 : mml 108 = 4 := rfl
theorem r108 : mar 108 = 1 := rfl
theorem x109 : mml 109 = 6 := rfl
theorem r109 : mar 109 = 1 := rfl
theorem x110 : mml 110 = 4 := rfl
theorem r110 : mar 110 = 2 := rfl
theorem x111 : mml 111 = 3 := rfl
theorem r111 : mar 111 = 1 := rfl
theorem x112 : mml 112 = 4 := rfl
theorem r112 : mar 112 = 2 := rfl
theorem x113 : mml 113 = 5 := rfl
theorem r113 : mar 113 = 1 := rfl
theorem x114 : mml 114 = 5 := rfl
theorem r114 : mar 114 = 0 := rfl
theorem x115 : mml 115 = 4 := rfl
theorem r115 : mar 115 = 2 := rfl
theorem x116 : mml 116 = 7 := rfl
theorem r116 : mar 116 = 2 := rfl
theorem x117 : mml 117 = 3 := rfl
theorem r117 : mar 117 = 0 := rfl
theorem x118 : mml 118 = 6 := rfl
theorem r118 : mar 118 = 3 := rfl
theorem x119 : mml 119 = 8 := rfl
theorem r119 : mar 119 = 2 := rfl
theorem x120 : mml 120 = 10 := rfl
theorem r120 : mar 120 = 3 := rfl
theorem x121 : mml 121 = 6 := rfl
theorem r121 : mar 121 = 3 := rfl
theorem x122 : mml 122 = 2 := rfl
theorem r122 : mar 122 = 1 := rfl
theorem x123 : mml 123 = 5 := rfl
theorem r123 : mar 123 = 2 := rfl
theorem x124 : mml 124 = 4 := rfl
theorem r124 : mar 124 = 1 := rfl
theorem x125 : mml 125 = 4 := rfl
theorem r125 : mar 125 = 0 := rfl
theorem x126 : mml 126 = 3 := rfl
theorem r126 : mar 126 = 1 := rfl
theorem x127 : mml 127 = 11 := rfl
theorem r127 : mar 127 = 2 := rfl
theorem x128 : mml 128 = 1 := rfl
theorem r128 : mar 128 = 1 := rfl
theorem x129 : mml 129 = 6 := rfl
theorem r129 : mar 129 = 2 := rfl
theorem x130 : mml 130 = 4 := rfl
theorem r130 : mar 130 = 2 := rfl
theorem x131 : mml 131 = 4 := rfl
theorem r131 : mar 131 = 2 := rfl
theorem x132 : mml 132 = 2 := rfl
theorem r132 : mar 132 = 1 := rfl
theorem x133 : mml 133 = 2 := rfl
theorem r133 : mar 133 = 1 := rfl
theorem x134 : mml 134 = 2 := rfl
theorem r134 : mar 134 = 1 := rfl
theorem x135 : mml 135 = 1 := rfl
theorem r135 : mar 135 = 1 := rfl
theorem x136 : mml 136 = 3 := rfl
theorem r136 : mar 136 = 3 := rfl
theorem x137 : mml 137 = 2 := rfl
theorem r137 : mar 137 = 0 := rfl
theorem x138 : mml 138 = 1 := rfl
theorem r138 : mar 138 = 0 := rfl
theorem x139 : mml 139 = 1 := rfl
theorem r139 : mar 139 = 0 := rfl
theorem x140 : mml 140 = 3 := rfl
theorem r140 : mar 140 = 3 := rfl
theorem x141 : mml 141 = 1 := rfl
theorem r141 : mar 141 = 1 := rfl
theorem x142 : mml 142 = 2 := rfl
theorem r142 : mar 142 = 1 := rfl
theorem x143 : mml 143 = 2 := rfl
theorem r143 : mar 143 = 1 := rfl
theorem x144 : mml 144 = 3 := rfl
theorem r144 : mar 144 = 2 := rfl
theorem x145 : mml 145 = 3 := rfl
theorem r145 : mar 145 = 2 := rfl
theorem x146 : mml 146 = 3 := rfl
theorem r146 : mar 146 = 2 := rfl
theorem x147 : mml 147 = 3 := rfl
theorem r147 : mar 147 = 2 := rfl
theorem x148 : mml 148 = 2 := rfl
theorem r148 : mar 148 = 1 := rfl
theorem x149 : mml 149 = 8 := rfl
theorem r149 : mar 149 = 5 := rfl
theorem x150 : mml 150 = 2 := rfl
theorem r150 : mar 150 = 1 := rfl
theorem x151 : mml 151 = 2 := rfl
theorem r151 : mar 151 = 1 := rfl
theorem x152 : mml 152 = 2 := rfl
theorem r152 : mar 152 = 0 := rfl
theorem x153 : mml 153 = 4 := rfl
theorem r153 : mar 153 = 1 := rfl
theorem x154 : mml 154 = 2 := rfl
theorem r154 : mar 154 = 1 := rfl
theorem x155 : mml 155 = 2 := rfl
theorem r155 : mar 155 = 1 := rfl
theorem x156 : mml 156 = 3 := rfl
theorem r156 : mar 156 = 1 := rfl
theorem x157 : mml 157 = 2 := rfl
theorem r157 : mar 157 = 1 := rfl
theorem x158 : mml 158 = 3 := rfl
theorem r158 : mar 158 = 2 := rfl
theorem x159 : mml 159 = 1 := rfl
theorem r159 : mar 159 = 1 := rfl
theorem x160 : mml 160 = 1 := rfl
theorem r160 : mar 160 = 1 := rfl
theorem x161 : mml 161 = 3 := rfl
theorem r161 : mar 161 = 1 := rfl
theorem x162 : mml 162 = 2 := rfl
theorem r162 : mar 162 = 0 := rfl
theorem x163 : mml 163 = 3 := rfl
theorem r163 : mar 163 = 2 := rfl
theorem x164 : mml 164 = 1 := rfl
theorem r164 : mar 164 = 0 := rfl
theorem x165 : mml 165 = 2 := rfl
theorem r165 : mar 165 = 1 := rfl
theorem x166 : mml 166 = 1 := rfl
theorem r166 : mar 166 = 0 := rfl
theorem x167 : mml 167 = 1 := rfl
theorem r167 : mar 167 = 0 := rfl
theorem x168 : mml 168 = 2 := rfl
theorem r168 : mar 168 = 0 := rfl
theorem x169 : mml 169 = 3 := rfl
theorem r169 : mar 169 = 0 := rfl
theorem x170 : mml 170 = 1 := rfl
theorem r170 : mar 170 = 0 := rfl
theorem x171 : mml 171 = 1 := rfl
theorem r171 : mar 171 = 0 := rfl
theorem x172 : mml 172 = 3 := rfl
theorem r172 : mar 172 = 0 := rfl
theorem x173 : mml 173 = 4 := rfl
theorem r173 : mar 173 = 2 := rfl
theorem x174 : mml 174 = 4 := rfl
theorem r174 : mar 174 = 1 := rfl
theorem x175 : mml 175 = 4 := rfl
theorem r175 : mar 175 = 1 := rfl
theorem x176 : mml 176 = 1 := rfl
theorem r176 : mar 176 = 0 := rfl
theorem x177 : mml 177 = 2 := rfl
theorem r177 : mar 177 = 1 := rfl
theorem x178 : mml 178 = 10 := rfl
theorem r178 : mar 178 = 2 := rfl
theorem x179 : mml 179 = 5 := rfl
theorem r179 : mar 179 = 3 := rfl
theorem x180 : mml 180 = 4 := rfl
theorem r180 : mar 180 = 2 := rfl
theorem x181 : mml 181 = 2 := rfl
theorem r181 : mar 181 = 1 := rfl
theorem x182 : mml 182 = 3 := rfl
theorem r182 : mar 182 = 1 := rfl
theorem x183 : mml 183 = 5 := rfl
theorem r183 : mar 183 = 2 := rfl
theorem x184 : mml 184 = 6 := rfl
theorem r184 : mar 184 = 1 := rfl
theorem x185 : mml 185 = 9 := rfl
theorem r185 : mar 185 = 5 := rfl
theorem x186 : mml 186 = 1 := rfl
theorem r186 : mar 186 = 1 := rfl
theorem x187 : mml 187 = 7 := rfl
theorem r187 : mar 187 = 5 := rfl
theorem x188 : mml 188 = 3 := rfl
theorem r188 : mar 188 = 2 := rfl
theorem x189 : mml 189 = 5 := rfl
theorem r189 : mar 189 = 4 := rfl
theorem x190 : mml 190 = 5 := rfl
theorem r190 : mar 190 = 4 := rfl
theorem x191 : mml 191 = 6 := rfl
theorem r191 : mar 191 = 4 := rfl
theorem x192 : mml 192 = 10 := rfl
theorem r192 : mar 192 = 4 := rfl
theorem x193 : mml 193 = 5 := rfl
theorem r193 : mar 193 = 4 := rfl
theorem x194 : mml 194 = 4 := rfl
theorem r194 : mar 194 = 3 := rfl
theorem x195 : mml 195 = 4 := rfl
theorem r195 : mar 195 = 2 := rfl
theorem x196 : mml 196 = 3 := rfl
theorem r196 : mar 196 = 1 := rfl
theorem x197 : mml 197 = 11 := rfl
theorem r197 : mar 197 = 2 := rfl
theorem x198 : mml 198 = 2 := rfl
theorem r198 : mar 198 = 1 := rfl
theorem x199 : mml 199 = 4 := rfl
theorem r199 : mar 199 = 1 := rfl
theorem x200 : mml 200 = 4 := rfl
theorem r200 : mar 200 = 3 := rfl
theorem x201 : mml 201 = 5 := rfl
theorem r201 : mar 201 = 4 := rfl
theorem x202 : mml 202 = 6 := rfl
theorem r202 : mar 202 = 3 := rfl
theorem x203 : mml 203 = 3 := rfl
theorem r203 : mar 203 = 1 := rfl
theorem x204 : mml 204 = 7 := rfl
theorem r204 : mar 204 = 1 := rfl
theorem x205 : mml 205 = 3 := rfl
theorem r205 : mar 205 = 1 := rfl
theorem x206 : mml 206 = 4 := rfl
theorem r206 : mar 206 = 1 := rfl
theorem x207 : mml 207 = 5 := rfl
theorem r207 : mar 207 = 1 := rfl
theorem x208 : mml 208 = 3 := rfl
theorem r208 : mar 208 = 1 := rfl
theorem x209 : mml 209 = 3 := rfl
theorem r209 : mar 209 = 2 := rfl
theorem x210 : mml 210 = 2 := rfl
theorem r210 : mar 210 = 1 := rfl
theorem x211 : mml 211 = 7 := rfl
theorem r211 : mar 211 = 1 := rfl
theorem x212 : mml 212 = 2 := rfl
theorem r212 : mar 212 = 1 := rfl
theorem x213 : mml 213 = 3 := rfl
theorem r213 : mar 213 = 2 := rfl
theorem x214 : mml 214 = 3 := rfl
theorem r214 : mar 214 = 1 := rfl
theorem x215 : mml 215 = 4 := rfl
theorem r215 : mar 215 = 1 := rfl
theorem x216 : mml 216 = 3 := rfl
theorem r216 : mar 216 = 2 := rfl
theorem x217 : mml 217 = 2 := rfl
theorem r217 : mar 217 = 1 := rfl
theorem x218 : mml 218 = 4 := rfl
theorem r218 : mar 218 = 1 := rfl
theorem x219 : mml 219 = 5 := rfl
theorem r219 : mar 219 = 2 := rfl
theorem x220 : mml 220 = 10 := rfl
theorem r220 : mar 220 = 2 := rfl
theorem x221 : mml 221 = 3 := rfl
theorem r221 : mar 221 = 2 := rfl
theorem x222 : mml 222 = 5 := rfl
theorem r222 : mar 222 = 2 := rfl
theorem x223 : mml 223 = 4 := rfl
theorem r223 : mar 223 = 2 := rfl
theorem x224 : mml 224 = 10 := rfl
theorem r224 : mar 224 = 2 := rfl
theorem x225 : mml 225 = 4 := rfl
theorem r225 : mar 225 = 3 := rfl
theorem x226 : mml 226 = 3 := rfl
theorem r226 : mar 226 = 1 := rfl
theorem x227 : mml 227 = 10 := rfl
theorem r227 : mar 227 = 2 := rfl
theorem x228 : mml 228 = 9 := rfl
theorem r228 : mar 228 = 1 := rfl
theorem x229 : mml 229 = 2 := rfl
theorem r229 : mar 229 = 1 := rfl
theorem x230 : mml 230 = 4 := rfl
theorem r230 : mar 230 = 2 := rfl
theorem x231 : mml 231 = 4 := rfl
theorem r231 : mar 231 = 2 := rfl
theorem x232 : mml 232 = 3 := rfl
theorem r232 : mar 232 = 2 := rfl
theorem x233 : mml 233 = 3 := rfl
theorem r233 : mar 233 = 2 := rfl
theorem x234 : mml 234 = 2 := rfl
theorem r234 : mar 234 = 1 := rfl
theorem f1_7 : fld 1 7 = some (1, 3, 3) := by decide +kernel
theorem f1_13 : fld 1 13 = some (1, 0, 0) := by decide +kernel
theorem f1_17 : fld 1 17 = some (1, 1, 0) := by decide +kernel
theorem f1_20 : fld 1 20 = some (1, 2, 0) := by decide +kernel
theorem f2_7 : fld 2 7 = some (2, 0, 0) := by decide +kernel
theorem f2_13 : fld 2 13 = some (2, 1, 0) := by decide +kernel
theorem f2_16 : fld 2 16 = some (2, 2, 0) := by decide +kernel
theorem f3_9 : fld 3 9 = some (3, 3, 0) := by decide +kernel
theorem f3_15 : fld 3 15 = some (3, 4, 2) := by decide +kernel
theorem f3_19 : fld 3 19 = some (3, 5, 2) := by decide +kernel
theorem f3_23 : fld 3 23 = some (3, 0, 0) := by decide +kernel
theorem f3_26 : fld 3 26 = some (3, 1, 0) := by decide +kernel
theorem f3_29 : fld 3 29 = some (3, 2, 0) := by decide +kernel
theorem f3_32 : fld 3 32 = some (5, 1, 0) := by decide +kernel
theorem f4_12 : fld 4 12 = some (4, 0, 2) := by decide +kernel
theorem f4_18 : fld 4 18 = some (4, 1, 2) := by decide +kernel
theorem f4_21 : fld 4 21 = some (4, 2, 2) := by decide +kernel
theorem f4_25 : fld 4 25 = some (4, 3, 0) := by decide +kernel
theorem f4_31 : fld 4 31 = some (4, 4, 2) := by decide +kernel
theorem f4_34 : fld 4 34 = some (4, 5, 2) := by decide +kernel
theorem f4_37 : fld 4 37 = some (4, 6, 2) := by decide +kernel
theorem f4_41 : fld 4 41 = some (4, 7, 2) := by decide +kernel
theorem f4_45 : fld 4 45 = some (4, 8, 0) := by decide +kernel
theorem f4_48 : fld 4 48 = some (9, 3, 2) := by decide +kernel
theorem f4_61 : fld 4 61 = some (7, 1, 0) := by decide +kernel
theorem f4_64 : fld 4 64 = some (7, 2, 1) := by decide +kernel
theorem f4_72 : fld 4 72 = some (7, 3, 0) := by decide +kernel
theorem f4_75 : fld 4 75 = some (9, 1, 0) := by decide +kernel
theorem f4_89 : fld 4 89 = some (5, 12, 2) := by decide +kernel
theorem f4_95 : fld 4 95 = some (5, 10, 0) := by decide +kernel
theorem f4_102 : fld 4 102 = some (5, 11, 0) := by decide +kernel
theorem f4_105 : fld 4 105 = some (5, 4, 0) := by decide +kernel
theorem f4_108 : fld 4 108 = some (5, 5, 0) := by decide +kernel
theorem f4_111 : fld 4 111 = some (5, 7, 0) := by decide +kernel
theorem f4_120 : fld 4 120 = some (3, 1, 0) := by decide +kernel
theorem f4_125 : fld 4 125 = some (3, 2, 0) := by decide +kernel
theorem f4_128 : fld 4 128 = some (5, 1, 0) := by decide +kernel
theorem f4_131 : fld 4 131 = some (5, 2, 0) := by decide +kernel
theorem f4_150 : fld 4 150 = some (7, 5, 0) := by decide +kernel
theorem f4_153 : fld 4 153 = some (7, 6, 0) := by decide +kernel
theorem f4_160 : fld 4 160 = some (7, 4, 0) := by decide +kernel
theorem f4_167 : fld 4 167 = some (9, 0, 0) := by decide +kernel
theorem f4_170 : fld 4 170 = some (7, 0, 0) := by decide +kernel
theorem f4_182 : fld 4 182 = some (9, 4, 2) := by decide +kernel
theorem f5_9 : fld 5 9 = some (5, 3, 0) := by decide +kernel
theorem f5_15 : fld 5 15 = some (5, 4, 0) := by decide +kernel
theorem f5_18 : fld 5 18 = some (5, 5, 0) := by decide +kernel
theorem f5_21 : fld 5 21 = some (5, 6, 0) := by decide +kernel
theorem f5_24 : fld 5 24 = some (5, 7, 0) := by decide +kernel
theorem f5_27 : fld 5 27 = some (5, 8, 0) := by decide +kernel
theorem f5_30 : fld 5 30 = some (5, 9, 0) := by decide +kernel
theorem f5_33 : fld 5 33 = some (5, 10, 0) := by decide +kernel
theorem f5_36 : fld 5 36 = some (5, 11, 0) := by decide +kernel
theorem f5_39 : fld 5 39 = some (5, 12, 2) := by decide +kernel
theorem f5_43 : fld 5 43 = some (5, 13, 0) := by decide +kernel
theorem f5_46 : fld 5 46 = some (5, 14, 0) := by decide +kernel
theorem f5_49 : fld 5 49 = some (5, 15, 0) := by decide +kernel
theorem f5_52 : fld 5 52 = some (5, 16, 0) := by decide +kernel
theorem f5_55 : fld 5 55 = some (5, 17, 2) := by decide +kernel
theorem f5_58 : fld 5 58 = some (5, 18, 0) := by decide +kernel
theorem f5_61 : fld 5 61 = some (5, 19, 0) := by decide +kernel
theorem f5_64 : fld 5 64 = some (5, 0, 0) := by decide +kernel
theorem f5_67 : fld 5 67 = some (5, 1, 0) := by decide +kernel
theorem f5_70 : fld 5 70 = some (5, 2, 0) := by decide +kernel
theorem f5_73 : fld 5 73 = some (3, 3, 0) := by decide +kernel
theorem f5_78 : fld 5 78 = some (3, 4, 2) := by decide +kernel
theorem f6_7 : fld 6 7 = some (6, 3, 3) := by decide +kernel
theorem f6_13 : fld 6 13 = some (6, 0, 2) := by decide +kernel
theorem f6_17 : fld 6 17 = some (6, 1, 0) := by decide +kernel
theorem f6_21 : fld 6 21 = some (6, 2, 0) := by decide +kernel
theorem f7_9 : fld 7 9 = some (7, 3, 0) := by decide +kernel
theorem f7_15 : fld 7 15 = some (7, 4, 0) := by decide +kernel
theorem f7_18 : fld 7 18 = some (7, 5, 0) := by decide +kernel
theorem f7_21 : fld 7 21 = some (7, 6, 0) := by decide +kernel
theorem f7_24 : fld 7 24 = some (7, 0, 0) := by decide +kernel
theorem f7_27 : fld 7 27 = some (7, 1, 0) := by decide +kernel
theorem f7_30 : fld 7 30 = some (7, 2, 1) := by decide +kernel
theorem f8_7 : fld 8 7 = some (8, 0, 2) := by decide +kernel
theorem f8_13 : fld 8 13 = some (8, 1, 0) := by decide +kernel
theorem f8_17 : fld 8 17 = some (8, 2, 0) := by decide +kernel
theorem f9_10 : fld 9 10 = some (9, 3, 2) := by decide +kernel
theorem f9_16 : fld 9 16 = some (9, 4, 2) := by decide +kernel
theorem f9_20 : fld 9 20 = some (9, 5, 0) := by decide +kernel
theorem f9_24 : fld 9 24 = some (9, 0, 0) := by decide +kernel
theorem f9_27 : fld 9 27 = some (9, 1, 0) := by decide +kernel
theorem f9_30 : fld 9 30 = some (9, 2, 0) := by decide +kernel
theorem f10_9 : fld 10 9 = some (10, 0, 2) := by decide +kernel
theorem f10_15 : fld 10 15 = some (10, 1, 0) := by decide +kernel
theorem f10_19 : fld 10 19 = some (10, 2, 0) := by decide +kernel
theorem f10_22 : fld 10 22 = some (10, 3, 0) := by decide +kernel
theorem f10_25 : fld 10 25 = some (10, 4, 2) := by decide +kernel
theorem f10_28 : fld 10 28 = some (10, 5, 0) := by decide +kernel
theorem f10_31 : fld 10 31 = some (10, 6, 2) := by decide +kernel
theorem f10_34 : fld 10 34 = some (10, 7, 2) := by decide +kernel
theorem f10_37 : fld 10 37 = some (10, 8, 2) := by decide +kernel
theorem f10_40 : fld 10 40 = some (10, 9, 0) := by decide +kernel
theorem f10_43 : fld 10 43 = some (10, 10, 0) := by decide +kernel
theorem f10_46 : fld 10 46 = some (10, 11, 0) := by decide +kernel
theorem f10_49 : fld 10 49 = some (10, 12, 0) := by decide +kernel
theorem f10_52 : fld 10 52 = some (10, 13, 0) := by decide +kernel
theorem f10_75 : fld 10 75 = some (9, 4, 2) := by decide +kernel
theorem f10_164 : fld 10 164 = some (9, 3, 2) := by decide +kernel
theorem f10_191 : fld 10 191 = some (7, 6, 0) := by decide +kernel
theorem f10_197 : fld 10 197 = some (7, 4, 0) := by decide +kernel
theorem f10_200 : fld 10 200 = some (7, 1, 0) := by decide +kernel
theorem f10_210 : fld 10 210 = some (7, 5, 0) := by decide +kernel
theorem f11_9 : fld 11 9 = some (11, 0, 0) := by decide +kernel
theorem f11_15 : fld 11 15 = some (11, 1, 2) := by decide +kernel
theorem f12_12 : fld 12 12 = some (12, 0, 2) := by decide +kernel
theorem f12_16 : fld 12 16 = some (12, 1, 2) := by decide +kernel
theorem f12_19 : fld 12 19 = some (12, 2, 2) := by decide +kernel
theorem f12_22 : fld 12 22 = some (12, 3, 2) := by decide +kernel
theorem f12_25 : fld 12 25 = some (12, 4, 2) := by decide +kernel
theorem f12_28 : fld 12 28 = some (12, 5, 2) := by decide +kernel
theorem f12_31 : fld 12 31 = some (12, 6, 2) := by decide +kernel
theorem f12_34 : fld 12 34 = some (12, 7, 2) := by decide +kernel
theorem f12_40 : fld 12 40 = some (12, 8, 2) := by decide +kernel
theorem f12_47 : fld 12 47 = some (12, 9, 2) := by decide +kernel
theorem f12_51 : fld 12 51 = some (12, 10, 2) := by decide +kernel
theorem f12_54 : fld 12 54 = some (12, 11, 2) := by decide +kernel
theorem f12_58 : fld 12 58 = some (12, 12, 0) := by decide +kernel
theorem f12_62 : fld 12 62 = some (12, 13, 0) := by decide +kernel
theorem f12_65 : fld 12 65 = some (12, 14, 0) := by decide +kernel
theorem f12_88 : fld 12 88 = some (5, 0, 0) := by decide +kernel
theorem f12_94 : fld 12 94 = some (3, 0, 0) := by decide +kernel
theorem f12_107 : fld 12 107 = some (5, 8, 0) := by decide +kernel
theorem f12_118 : fld 12 118 = some (10, 1, 0) := by decide +kernel
theorem f12_124 : fld 12 124 = some (4, 0, 2) := by decide +kernel
theorem f12_134 : fld 12 134 = some (10, 2, 0) := by decide +kernel
theorem f12_141 : fld 12 141 = some (9, 0, 0) := by decide +kernel
theorem f12_142 : fld 12 142 = some (10, 3, 0) := by decide +kernel
theorem f12_184 : fld 12 184 = some (5, 13, 0) := by decide +kernel
theorem f12_201 : fld 12 201 = some (5, 18, 0) := by decide +kernel
theorem f12_204 : fld 12 204 = some (8, 1, 0) := by decide +kernel
theorem f12_207 : fld 12 207 = some (8, 0, 2) := by decide +kernel
theorem f12_211 : fld 12 211 = some (8, 2, 0) := by decide +kernel
theorem f12_217 : fld 12 217 = some (5, 7, 0) := by decide +kernel
theorem f12_220 : fld 12 220 = some (5, 10, 0) := by decide +kernel
theorem f12_227 : fld 12 227 = some (5, 3, 0) := by decide +kernel
theorem f12_230 : fld 12 230 = some (5, 1, 0) := by decide +kernel
theorem f12_242 : fld 12 242 = some (5, 12, 2) := by decide +kernel
theorem f12_246 : fld 12 246 = some (5, 6, 0) := by decide +kernel
theorem f12_249 : fld 12 249 = some (5, 5, 0) := by decide +kernel
theorem f12_252 : fld 12 252 = some (5, 4, 0) := by decide +kernel
theorem f12_255 : fld 12 255 = some (11, 0, 0) := by decide +kernel
theorem f12_260 : fld 12 260 = some (2, 0, 0) := by decide +kernel
theorem f12_263 : fld 12 263 = some (2, 1, 0) := by decide +kernel
theorem f12_266 : fld 12 266 = some (2, 2, 0) := by decide +kernel
theorem f12_273 : fld 12 273 = some (5, 9, 0) := by decide +kernel
theorem f12_286 : fld 12 286 = some (5, 16, 0) := by decide +kernel
theorem f12_289 : fld 12 289 = some (5, 14, 0) := by decide +kernel
theorem f12_292 : fld 12 292 = some (5, 15, 0) := by decide +kernel
theorem f12_295 : fld 12 295 = some (5, 17, 2) := by decide +kernel
theorem f12_298 : fld 12 298 = some (3, 3, 0) := by decide +kernel
theorem f12_321 : fld 12 321 = some (5, 19, 0) := by decide +kernel
theorem f12_327 : fld 12 327 = some (6, 3, 3) := by decide +kernel
theorem f12_331 : fld 12 331 = some (6, 0, 2) := by decide +kernel
theorem f12_332 : fld 12 332 = some (6, 2, 0) := by decide +kernel
theorem f12_335 : fld 12 335 = some (6, 1, 0) := by decide +kernel
theorem f12_341 : fld 12 341 = some (1, 3, 3) := by decide +kernel
theorem f12_344 : fld 12 344 = some (1, 2, 0) := by decide +kernel
theorem f12_352 : fld 12 352 = some (1, 0, 0) := by decide +kernel
theorem f12_354 : fld 12 354 = some (1, 1, 0) := by decide +kernel
theorem f12_418 : fld 12 418 = some (3, 4, 2) := by decide +kernel
theorem f12_421 : fld 12 421 = some (5, 2, 0) := by decide +kernel
theorem f12_424 : fld 12 424 = some (5, 11, 0) := by decide +kernel
theorem f12_427 : fld 12 427 = some (3, 1, 0) := by decide +kernel
theorem f12_430 : fld 12 430 = some (3, 2, 0) := by decide +kernel
theorem f12_433 : fld 12 433 = some (4, 3, 0) := by decide +kernel
theorem f13_7 : fld 13 7 = some (13, 3, 2) := by decide +kernel
theorem f13_13 : fld 13 13 = some (13, 4, 2) := by decide +kernel
theorem f13_16 : fld 13 16 = some (13, 5, 2) := by decide +kernel
theorem f13_19 : fld 13 19 = some (13, 6, 2) := by decide +kernel
theorem f13_22 : fld 13 22 = some (13, 7, 2) := by decide +kernel
theorem f13_25 : fld 13 25 = some (13, 8, 2) := by decide +kernel
theorem f13_28 : fld 13 28 = some (13, 9, 2) := by decide +kernel
theorem f13_31 : fld 13 31 = some (13, 10, 2) := by decide +kernel
theorem f13_34 : fld 13 34 = some (13, 11, 2) := by decide +kernel
theorem f13_37 : fld 13 37 = some (13, 12, 2) := by decide +kernel
theorem f13_40 : fld 13 40 = some (13, 13, 2) := by decide +kernel
theorem f13_43 : fld 13 43 = some (13, 14, 2) := by decide +kernel
theorem f13_46 : fld 13 46 = some (13, 15, 2) := by decide +kernel
theorem f13_49 : fld 13 49 = some (13, 16, 2) := by decide +kernel
theorem f13_52 : fld 13 52 = some (13, 17, 2) := by decide +kernel
theorem f13_55 : fld 13 55 = some (13, 18, 2) := by decide +kernel
theorem f13_58 : fld 13 58 = some (13, 19, 2) := by decide +kernel
theorem f13_61 : fld 13 61 = some (13, 21, 2) := by decide +kernel
theorem f13_64 : fld 13 64 = some (13, 22, 2) := by decide +kernel
theorem f13_67 : fld 13 67 = some (13, 23, 2) := by decide +kernel
theorem f13_70 : fld 13 70 = some (13, 24, 2) := by decide +kernel
theorem f13_73 : fld 13 73 = some (13, 25, 0) := by decide +kernel
theorem f13_77 : fld 13 77 = some (13, 28, 2) := by decide +kernel
theorem f13_80 : fld 13 80 = some (13, 29, 2) := by decide +kernel
theorem f13_83 : fld 13 83 = some (13, 30, 2) := by decide +kernel
theorem f13_86 : fld 13 86 = some (13, 31, 2) := by decide +kernel
theorem f13_89 : fld 13 89 = some (13, 32, 2) := by decide +kernel
theorem f13_92 : fld 13 92 = some (13, 33, 2) := by decide +kernel
theorem f13_95 : fld 13 95 = some (13, 34, 2) := by decide +kernel
theorem f13_99 : fld 13 99 = some (13, 35, 2) := by decide +kernel
theorem f13_102 : fld 13 102 = some (13, 36, 2) := by decide +kernel
theorem f13_105 : fld 13 105 = some (13, 37, 2) := by decide +kernel
theorem f13_108 : fld 13 108 = some (13, 38, 2) := by decide +kernel
theorem f13_111 : fld 13 111 = some (13, 39, 2) := by decide +kernel
theorem f13_114 : fld 13 114 = some (13, 40, 2) := by decide +kernel
theorem f13_117 : fld 13 117 = some (13, 43, 2) := by decide +kernel
theorem f13_120 : fld 13 120 = some (13, 44, 2) := by decide +kernel
theorem f13_124 : fld 13 124 = some (13, 46, 0) := by decide +kernel
theorem f13_127 : fld 13 127 = some (13, 54, 2) := by decide +kernel
theorem f13_130 : fld 13 130 = some (13, 55, 2) := by decide +kernel
theorem f13_133 : fld 13 133 = some (13, 56, 2) := by decide +kernel
theorem f13_136 : fld 13 136 = some (13, 59, 2) := by decide +kernel
theorem f13_139 : fld 13 139 = some (13, 60, 2) := by decide +kernel
theorem f13_142 : fld 13 142 = some (13, 61, 2) := by decide +kernel
theorem f13_146 : fld 13 146 = some (13, 62, 2) := by decide +kernel
theorem f13_149 : fld 13 149 = some (13, 65, 2) := by decide +kernel
theorem f13_152 : fld 13 152 = some (13, 66, 2) := by decide +kernel
theorem f13_155 : fld 13 155 = some (13, 67, 2) := by decide +kernel
theorem f13_158 : fld 13 158 = some (13, 69, 2) := by decide +kernel
theorem f13_161 : fld 13 161 = some (13, 70, 2) := by decide +kernel
theorem f13_164 : fld 13 164 = some (13, 72, 2) := by decide +kernel
theorem f13_167 : fld 13 167 = some (13, 73, 2) := by decide +kernel
theorem f13_170 : fld 13 170 = some (13, 74, 2) := by decide +kernel
theorem f13_173 : fld 13 173 = some (13, 75, 2) := by decide +kernel
theorem f13_177 : fld 13 177 = some (13, 77, 2) := by decide +kernel
theorem f13_180 : fld 13 180 = some (13, 78, 2) := by decide +kernel
theorem f13_183 : fld 13 183 = some (13, 79, 2) := by decide +kernel
theorem f13_186 : fld 13 186 = some (13, 80, 2) := by decide +kernel
theorem f13_189 : fld 13 189 = some (13, 81, 2) := by decide +kernel
theorem f13_192 : fld 13 192 = some (13, 82, 2) := by decide +kernel
theorem f13_195 : fld 13 195 = some (13, 83, 2) := by decide +kernel
theorem f13_198 : fld 13 198 = some (13, 84, 2) := by decide +kernel
theorem f13_201 : fld 13 201 = some (13, 0, 0) := by decide +kernel
theorem f13_208 : fld 13 208 = some (13, 2, 0) := by decide +kernel
theorem f13_211 : fld 13 211 = some (13, 20, 0) := by decide +kernel
theorem f13_218 : fld 13 218 = some (13, 1, 0) := by decide +kernel
theorem f13_221 : fld 13 221 = some (13, 45, 0) := by decide +kernel
theorem f13_224 : fld 13 224 = some (13, 49, 0) := by decide +kernel
theorem f13_227 : fld 13 227 = some (13, 48, 0) := by decide +kernel
theorem f13_234 : fld 13 234 = some (13, 50, 0) := by decide +kernel
theorem f13_237 : fld 13 237 = some (13, 51, 1) := by decide +kernel
theorem f13_241 : fld 13 241 = some (13, 53, 0) := by decide +kernel
theorem f13_254 : fld 13 254 = some (13, 47, 0) := by decide +kernel
theorem f13_305 : fld 13 305 = some (13, 27, 0) := by decide +kernel
theorem f13_308 : fld 13 308 = some (13, 41, 0) := by decide +kernel
theorem f13_311 : fld 13 311 = some (13, 52, 0) := by decide +kernel
theorem f13_380 : fld 13 380 = some (13, 42, 0) := by decide +kernel
theorem f13_400 : fld 13 400 = some (13, 57, 0) := by decide +kernel
theorem f13_435 : fld 13 435 = some (13, 58, 0) := by decide +kernel
theorem f13_438 : fld 13 438 = some (13, 64, 0) := by decide +kernel
theorem f13_441 : fld 13 441 = some (13, 63, 0) := by decide +kernel
theorem f13_454 : fld 13 454 = some (13, 26, 0) := by decide +kernel
theorem f13_463 : fld 13 463 = some (13, 68, 0) := by decide +kernel
theorem f13_478 : fld 13 478 = some (13, 71, 0) := by decide +kernel
theorem f13_481 : fld 13 481 = some (13, 76, 0) := by decide +kernel
theorem f13_503 : fld 13 503 = some (13, 85, 0) := by decide +kernel
theorem q1_1 : cal 1 1 = some (40, 0) := by decide +kernel
theorem q2_1 : cal 2 1 = some (40, 0) := by decide +kernel
theorem q3_3 : cal 3 3 = some (40, 0) := by decide +kernel
theorem q3_37 : cal 3 37 = some (2, 136) := by decide +kernel
theorem q4_3 : cal 4 3 = some (40, 0) := by decide +kernel
theorem q4_11 : cal 4 11 = some (10, 0) := by decide +kernel
theorem q4_51 : cal 4 51 = some (15, 0) := by decide +kernel
theorem q4_55 : cal 4 55 = some (13, 0) := by decide +kernel
theorem q4_68 : cal 4 68 = some (0, 12) := by decide +kernel
theorem q4_78 : cal 4 78 = some (12, 0) := by decide +kernel
theorem q4_82 : cal 4 82 = some (11, 0) := by decide +kernel
theorem q4_85 : cal 4 85 = some (2, 136) := by decide +kernel
theorem q4_98 : cal 4 98 = some (0, 15) := by decide +kernel
theorem q4_114 : cal 4 114 = some (32, 0) := by decide +kernel
theorem q4_134 : cal 4 134 = some (0, 18) := by decide +kernel
theorem q4_138 : cal 4 138 = some (0, 37) := by decide +kernel
theorem q4_142 : cal 4 142 = some (0, 19) := by decide +kernel
theorem q4_146 : cal 4 146 = some (0, 39) := by decide +kernel
theorem q4_156 : cal 4 156 = some (0, 24) := by decide +kernel
theorem q4_163 : cal 4 163 = some (1, 23) := by decide +kernel
theorem q4_171 : cal 4 171 = some (0, 16) := by decide +kernel
theorem q4_175 : cal 4 175 = some (0, 22) := by decide +kernel
theorem q4_186 : cal 4 186 = some (1, 25) := by decide +kernel
theorem q5_3 : cal 5 3 = some (40, 0) := by decide +kernel
theorem q6_1 : cal 6 1 = some (40, 0) := by decide +kernel
theorem q7_3 : cal 7 3 = some (40, 0) := by decide +kernel
theorem q8_1 : cal 8 1 = some (40, 0) := by decide +kernel
theorem q9_1 : cal 9 1 = some (40, 0) := by decide +kernel
theorem q9_9 : cal 9 9 = some (10, 0) := by decide +kernel
theorem q10_3 : cal 10 3 = some (40, 0) := by decide +kernel
theorem q10_55 : cal 10 55 = some (2, 136) := by decide +kernel
theorem q10_59 : cal 10 59 = some (0, 44) := by decide +kernel
theorem q10_62 : cal 10 62 = some (0, 50) := by decide +kernel
theorem q10_65 : cal 10 65 = some (0, 55) := by decide +kernel
theorem q10_69 : cal 10 69 = some (31, 0) := by decide +kernel
theorem q10_78 : cal 10 78 = some (1, 45) := by decide +kernel
theorem q10_82 : cal 10 82 = some (0, 46) := by decide +kernel
theorem q10_86 : cal 10 86 = some (0, 47) := by decide +kernel
theorem q10_90 : cal 10 90 = some (1, 49) := by decide +kernel
theorem q10_94 : cal 10 94 = some (0, 48) := by decide +kernel
theorem q10_98 : cal 10 98 = some (21, 0) := by decide +kernel
theorem q10_103 : cal 10 103 = some (22, 0) := by decide +kernel
theorem q10_151 : cal 10 151 = some (0, 52) := by decide +kernel
theorem q10_157 : cal 10 157 = some (0, 56) := by decide +kernel
theorem q10_161 : cal 10 161 = some (3, 34) := by decide +kernel
theorem q10_168 : cal 10 168 = some (11, 0) := by decide +kernel
theorem q10_174 : cal 10 174 = some (0, 57) := by decide +kernel
theorem q10_178 : cal 10 178 = some (0, 53) := by decide +kernel
theorem q10_181 : cal 10 181 = some (0, 58) := by decide +kernel
theorem q10_185 : cal 10 185 = some (0, 51) := by decide +kernel
theorem q10_188 : cal 10 188 = some (0, 60) := by decide +kernel
theorem q10_194 : cal 10 194 = some (0, 38) := by decide +kernel
theorem q10_203 : cal 10 203 = some (0, 59) := by decide +kernel
theorem q10_207 : cal 10 207 = some (0, 65) := by decide +kernel
theorem q10_213 : cal 10 213 = some (0, 54) := by decide +kernel
theorem q10_216 : cal 10 216 = some (0, 61) := by decide +kernel
theorem q10_219 : cal 10 219 = some (0, 62) := by decide +kernel
theorem q10_222 : cal 10 222 = some (0, 63) := by decide +kernel
theorem q10_225 : cal 10 225 = some (0, 64) := by decide +kernel
theorem q10_228 : cal 10 228 = some (0, 66) := by decide +kernel
theorem q10_231 : cal 10 231 = some (0, 67) := by decide +kernel
theorem q11_3 : cal 11 3 = some (40, 0) := by decide +kernel
theorem q11_19 : cal 11 19 = some (2, 136) := by decide +kernel
theorem q12_3 : cal 12 3 = some (40, 0) := by decide +kernel
theorem q12_11 : cal 12 11 = some (10, 0) := by decide +kernel
theorem q12_39 : cal 12 39 = some (4, 40) := by decide +kernel
theorem q12_46 : cal 12 46 = some (4, 10) := by decide +kernel
theorem q12_70 : cal 12 70 = some (4, 5) := by decide +kernel
theorem q12_71 : cal 12 71 = some (11, 0) := by decide +kernel
theorem q12_75 : cal 12 75 = some (1, 136) := by decide +kernel
theorem q12_79 : cal 12 79 = some (15, 0) := by decide +kernel
theorem q12_85 : cal 12 85 = some (3, 26) := by decide +kernel
theorem q12_93 : cal 12 93 = some (3, 6) := by decide +kernel
theorem q12_95 : cal 12 95 = some (0, 133) := by decide +kernel
theorem q12_99 : cal 12 99 = some (0, 27) := by decide +kernel
theorem q12_103 : cal 12 103 = some (0, 29) := by decide +kernel
theorem q12_110 : cal 12 110 = some (0, 41) := by decide +kernel
theorem q12_114 : cal 12 114 = some (0, 42) := by decide +kernel
theorem q12_121 : cal 12 121 = some (1, 135) := by decide +kernel
theorem q12_129 : cal 12 129 = some (3, 36) := by decide +kernel
theorem q12_130 : cal 12 130 = some (0, 43) := by decide +kernel
theorem q12_137 : cal 12 137 = some (0, 11) := by decide +kernel
theorem q12_145 : cal 12 145 = some (0, 85) := by decide +kernel
theorem q12_150 : cal 12 150 = some (41, 0) := by decide +kernel
theorem q12_151 : cal 12 151 = some (0, 14) := by decide +kernel
theorem q12_155 : cal 12 155 = some (0, 16) := by decide +kernel
theorem q12_159 : cal 12 159 = some (0, 20) := by decide +kernel
theorem q12_162 : cal 12 162 = some (0, 21) := by decide +kernel
theorem q12_166 : cal 12 166 = some (0, 13) := by decide +kernel
theorem q12_171 : cal 12 171 = some (3, 35) := by decide +kernel
theorem q12_174 : cal 12 174 = some (0, 89) := by decide +kernel
theorem q12_177 : cal 12 177 = some (0, 90) := by decide +kernel
theorem q12_180 : cal 12 180 = some (13, 0) := by decide +kernel
theorem q12_187 : cal 12 187 = some (0, 32) := by decide +kernel
theorem q12_190 : cal 12 190 = some (0, 91) := by decide +kernel
theorem q12_195 : cal 12 195 = some (3, 68) := by decide +kernel
theorem q12_197 : cal 12 197 = some (0, 92) := by decide +kernel
theorem q12_214 : cal 12 214 = some (0, 28) := by decide +kernel
theorem q12_223 : cal 12 223 = some (0, 93) := by decide +kernel
theorem q12_233 : cal 12 233 = some (33, 0) := by decide +kernel
theorem q12_239 : cal 12 239 = some (0, 69) := by decide +kernel
theorem q12_257 : cal 12 257 = some (0, 70) := by decide +kernel
theorem q12_269 : cal 12 269 = some (0, 86) := by decide +kernel
theorem q12_276 : cal 12 276 = some (0, 30) := by decide +kernel
theorem q12_279 : cal 12 279 = some (0, 105) := by decide +kernel
theorem q12_283 : cal 12 283 = some (14, 0) := by decide +kernel
theorem q12_301 : cal 12 301 = some (0, 31) := by decide +kernel
theorem q12_305 : cal 12 305 = some (0, 134) := by decide +kernel
theorem q12_309 : cal 12 309 = some (0, 103) := by decide +kernel
theorem q12_313 : cal 12 313 = some (0, 104) := by decide +kernel
theorem q12_317 : cal 12 317 = some (0, 7) := by decide +kernel
theorem q12_326 : cal 12 326 = some (3, 33) := by decide +kernel
theorem q12_340 : cal 12 340 = some (3, 4) := by decide +kernel
theorem q12_345 : cal 12 345 = some (0, 114) := by decide +kernel
theorem q12_348 : cal 12 348 = some (0, 113) := by decide +kernel
theorem q12_358 : cal 12 358 = some (0, 117) := by decide +kernel
theorem q12_361 : cal 12 361 = some (0, 118) := by decide +kernel
theorem q12_367 : cal 12 367 = some (0, 120) := by decide +kernel
theorem q12_371 : cal 12 371 = some (0, 15) := by decide +kernel
theorem q12_375 : cal 12 375 = some (0, 17) := by decide +kernel
theorem q12_380 : cal 12 380 = some (0, 9) := by decide +kernel
theorem q12_383 : cal 12 383 = some (0, 124) := by decide +kernel
theorem q12_386 : cal 12 386 = some (0, 125) := by decide +kernel
theorem q12_390 : cal 12 390 = some (1, 128) := by decide +kernel
theorem q12_393 : cal 12 393 = some (16, 0) := by decide +kernel
theorem q12_396 : cal 12 396 = some (17, 0) := by decide +kernel
theorem q12_399 : cal 12 399 = some (32, 0) := by decide +kernel
theorem q12_404 : cal 12 404 = some (0, 126) := by decide +kernel
theorem q12_407 : cal 12 407 = some (0, 127) := by decide +kernel
theorem q12_411 : cal 12 411 = some (0, 8) := by decide +kernel
theorem q12_414 : cal 12 414 = some (34, 0) := by decide +kernel
theorem q13_1 : cal 13 1 = some (40, 0) := by decide +kernel
theorem q13_204 : cal 13 204 = some (1, 140) := by decide +kernel
theorem q13_214 : cal 13 214 = some (0, 142) := by decide +kernel
theorem q13_230 : cal 13 230 = some (0, 151) := by decide +kernel
theorem q13_244 : cal 13 244 = some (21, 0) := by decide +kernel
theorem q13_250 : cal 13 250 = some (22, 0) := by decide +kernel
theorem q13_257 : cal 13 257 = some (0, 153) := by decide +kernel
theorem q13_261 : cal 13 261 = some (0, 152) := by decide +kernel
theorem q13_264 : cal 13 264 = some (0, 154) := by decide +kernel
theorem q13_267 : cal 13 267 = some (0, 155) := by decide +kernel
theorem q13_298 : cal 13 298 = some (1, 159) := by decide +kernel
theorem q13_302 : cal 13 302 = some (1, 160) := by decide +kernel
theorem q13_314 : cal 13 314 = some (0, 157) := by decide +kernel
theorem q13_317 : cal 13 317 = some (0, 163) := by decide +kernel
theorem q13_321 : cal 13 321 = some (0, 162) := by decide +kernel
theorem q13_324 : cal 13 324 = some (0, 164) := by decide +kernel
theorem q13_328 : cal 13 328 = some (0, 168) := by decide +kernel
theorem q13_331 : cal 13 331 = some (0, 165) := by decide +kernel
theorem q13_334 : cal 13 334 = some (0, 166) := by decide +kernel
theorem q13_337 : cal 13 337 = some (0, 167) := by decide +kernel
theorem q13_342 : cal 13 342 = some (0, 156) := by decide +kernel
theorem q13_345 : cal 13 345 = some (0, 171) := by decide +kernel
theorem q13_348 : cal 13 348 = some (0, 169) := by decide +kernel
theorem q13_353 : cal 13 353 = some (0, 170) := by decide +kernel
theorem q13_358 : cal 13 358 = some (0, 161) := by decide +kernel
theorem q13_361 : cal 13 361 = some (0, 173) := by decide +kernel
theorem q13_367 : cal 13 367 = some (0, 158) := by decide +kernel
theorem q13_370 : cal 13 370 = some (1, 141) := by decide +kernel
theorem q13_373 : cal 13 373 = some (0, 172) := by decide +kernel
theorem q13_376 : cal 13 376 = some (0, 175) := by decide +kernel
theorem q13_387 : cal 13 387 = some (1, 177) := by decide +kernel
theorem q13_391 : cal 13 391 = some (1, 179) := by decide +kernel
theorem q13_395 : cal 13 395 = some (0, 178) := by decide +kernel
theorem q13_403 : cal 13 403 = some (0, 183) := by decide +kernel
theorem q13_406 : cal 13 406 = some (0, 180) := by decide +kernel
theorem q13_409 : cal 13 409 = some (0, 184) := by decide +kernel
theorem q13_412 : cal 13 412 = some (0, 181) := by decide +kernel
theorem q13_415 : cal 13 415 = some (0, 185) := by decide +kernel
theorem q13_419 : cal 13 419 = some (1, 186) := by decide +kernel
theorem q13_422 : cal 13 422 = some (0, 182) := by decide +kernel
theorem q13_425 : cal 13 425 = some (0, 187) := by decide +kernel
theorem q13_428 : cal 13 428 = some (0, 189) := by decide +kernel
theorem q13_432 : cal 13 432 = some (0, 139) := by decide +kernel
theorem q13_444 : cal 13 444 = some (0, 188) := by decide +kernel
theorem q13_448 : cal 13 448 = some (0, 195) := by decide +kernel
theorem q13_451 : cal 13 451 = some (0, 196) := by decide +kernel
theorem q13_457 : cal 13 457 = some (0, 198) := by decide +kernel
theorem q13_461 : cal 13 461 = some (0, 197) := by decide +kernel
theorem q13_466 : cal 13 466 = some (0, 205) := by decide +kernel
theorem q13_469 : cal 13 469 = some (0, 206) := by decide +kernel
theorem q13_472 : cal 13 472 = some (0, 209) := by decide +kernel
theorem q13_475 : cal 13 475 = some (0, 143) := by decide +kernel
theorem q13_484 : cal 13 484 = some (0, 218) := by decide +kernel
theorem q13_489 : cal 13 489 = some (0, 220) := by decide +kernel
theorem q13_494 : cal 13 494 = some (0, 223) := by decide +kernel
theorem q13_498 : cal 13 498 = some (35, 0) := by decide +kernel
theorem q13_506 : cal 13 506 = some (0, 227) := by decide +kernel
theorem q13_510 : cal 13 510 = some (0, 226) := by decide +kernel
theorem q13_513 : cal 13 513 = some (0, 228) := by decide +kernel
theorem q14_7 : cal 14 7 = some (0, 81) := by decide +kernel
theorem q14_15 : cal 14 15 = some (0, 94) := by decide +kernel
theorem q14_19 : cal 14 19 = some (0, 130) := by decide +kernel
theorem q14_23 : cal 14 23 = some (3, 71) := by decide +kernel
theorem q14_26 : cal 14 26 = some (3, 137) := by decide +kernel
theorem q14_27 : cal 14 27 = some (0, 72) := by decide +kernel
theorem q14_30 : cal 14 30 = some (0, 144) := by decide +kernel
theorem q14_31 : cal 14 31 = some (0, 73) := by decide +kernel
theorem q14_34 : cal 14 34 = some (0, 145) := by decide +kernel
theorem q14_35 : cal 14 35 = some (0, 74) := by decide +kernel
theorem q14_39 : cal 14 39 = some (0, 146) := by decide +kernel
theorem q14_40 : cal 14 40 = some (0, 75) := by decide +kernel
theorem q14_43 : cal 14 43 = some (0, 147) := by decide +kernel
theorem q14_44 : cal 14 44 = some (0, 76) := by decide +kernel
theorem q14_48 : cal 14 48 = some (0, 148) := by decide +kernel
theorem q14_49 : cal 14 49 = some (0, 77) := by decide +kernel
theorem q14_53 : cal 14 53 = some (0, 149) := by decide +kernel
theorem q14_54 : cal 14 54 = some (0, 78) := by decide +kernel
theorem q14_58 : cal 14 58 = some (0, 150) := by decide +kernel
theorem q14_59 : cal 14 59 = some (0, 79) := by decide +kernel
theorem q14_62 : cal 14 62 = some (0, 174) := by decide +kernel
theorem q14_63 : cal 14 63 = some (0, 80) := by decide +kernel
theorem q14_67 : cal 14 67 = some (0, 176) := by decide +kernel
theorem q14_68 : cal 14 68 = some (1, 1) := by decide +kernel
theorem q14_73 : cal 14 73 = some (0, 190) := by decide +kernel
theorem q14_74 : cal 14 74 = some (0, 138) := by decide +kernel
theorem q14_77 : cal 14 77 = some (0, 82) := by decide +kernel
theorem q14_80 : cal 14 80 = some (0, 191) := by decide +kernel
theorem q14_81 : cal 14 81 = some (0, 83) := by decide +kernel
theorem q14_84 : cal 14 84 = some (0, 192) := by decide +kernel
theorem q14_85 : cal 14 85 = some (0, 84) := by decide +kernel
theorem q14_88 : cal 14 88 = some (0, 193) := by decide +kernel
theorem q14_89 : cal 14 89 = some (0, 87) := by decide +kernel
theorem q14_93 : cal 14 93 = some (0, 194) := by decide +kernel
theorem q14_94 : cal 14 94 = some (0, 88) := by decide +kernel
theorem q14_97 : cal 14 97 = some (0, 199) := by decide +kernel
theorem q14_98 : cal 14 98 = some (1, 2) := by decide +kernel
theorem q14_101 : cal 14 101 = some (0, 200) := by decide +kernel
theorem q14_102 : cal 14 102 = some (0, 95) := by decide +kernel
theorem q14_106 : cal 14 106 = some (0, 201) := by decide +kernel
theorem q14_107 : cal 14 107 = some (0, 96) := by decide +kernel
theorem q14_110 : cal 14 110 = some (0, 202) := by decide +kernel
theorem q14_111 : cal 14 111 = some (0, 97) := by decide +kernel
theorem q14_114 : cal 14 114 = some (0, 203) := by decide +kernel
theorem q14_115 : cal 14 115 = some (0, 98) := by decide +kernel
theorem q14_118 : cal 14 118 = some (0, 204) := by decide +kernel
theorem q14_119 : cal 14 119 = some (0, 99) := by decide +kernel
theorem q14_122 : cal 14 122 = some (0, 207) := by decide +kernel
theorem q14_123 : cal 14 123 = some (0, 100) := by decide +kernel
theorem q14_126 : cal 14 126 = some (0, 208) := by decide +kernel
theorem q14_127 : cal 14 127 = some (0, 101) := by decide +kernel
theorem q14_130 : cal 14 130 = some (0, 210) := by decide +kernel
theorem q14_131 : cal 14 131 = some (0, 102) := by decide +kernel
theorem q14_134 : cal 14 134 = some (0, 211) := by decide +kernel
theorem q14_135 : cal 14 135 = some (0, 106) := by decide +kernel
theorem q14_138 : cal 14 138 = some (0, 212) := by decide +kernel
theorem q14_139 : cal 14 139 = some (0, 107) := by decide +kernel
theorem q14_142 : cal 14 142 = some (0, 213) := by decide +kernel
theorem q14_143 : cal 14 143 = some (0, 108) := by decide +kernel
theorem q14_146 : cal 14 146 = some (0, 214) := by decide +kernel
theorem q14_147 : cal 14 147 = some (0, 109) := by decide +kernel
theorem q14_150 : cal 14 150 = some (0, 215) := by decide +kernel
theorem q14_151 : cal 14 151 = some (0, 110) := by decide +kernel
theorem q14_154 : cal 14 154 = some (0, 216) := by decide +kernel
theorem q14_155 : cal 14 155 = some (0, 111) := by decide +kernel
theorem q14_158 : cal 14 158 = some (0, 217) := by decide +kernel
theorem q14_159 : cal 14 159 = some (0, 112) := by decide +kernel
theorem q14_162 : cal 14 162 = some (0, 219) := by decide +kernel
theorem q14_163 : cal 14 163 = some (0, 115) := by decide +kernel
theorem q14_166 : cal 14 166 = some (0, 221) := by decide +kernel
theorem q14_167 : cal 14 167 = some (0, 116) := by decide +kernel
theorem q14_170 : cal 14 170 = some (0, 222) := by decide +kernel
theorem q14_171 : cal 14 171 = some (0, 119) := by decide +kernel
theorem q14_175 : cal 14 175 = some (0, 224) := by decide +kernel
theorem q14_176 : cal 14 176 = some (0, 121) := by decide +kernel
theorem q14_179 : cal 14 179 = some (0, 225) := by decide +kernel
theorem q14_180 : cal 14 180 = some (0, 122) := by decide +kernel
theorem q14_183 : cal 14 183 = some (0, 229) := by decide +kernel
theorem q14_184 : cal 14 184 = some (0, 123) := by decide +kernel
theorem q14_187 : cal 14 187 = some (0, 230) := by decide +kernel
theorem q14_188 : cal 14 188 = some (0, 129) := by decide +kernel
theorem q14_191 : cal 14 191 = some (0, 231) := by decide +kernel
theorem q14_192 : cal 14 192 = some (1, 3) := by decide +kernel
theorem q14_195 : cal 14 195 = some (0, 232) := by decide +kernel
theorem q14_196 : cal 14 196 = some (0, 131) := by decide +kernel
theorem q14_199 : cal 14 199 = some (0, 233) := by decide +kernel
theorem q14_200 : cal 14 200 = some (0, 132) := by decide +kernel
theorem q14_203 : cal 14 203 = some (0, 234) := by decide +kernel
theorem c4_9 : clsP 4 9 = some 0 := by decide +kernel
theorem c4_29 : clsP 4 29 = some 9 := by decide +kernel
theorem c4_59 : clsP 4 59 = some 7 := by decide +kernel
theorem c9_7 : clsP 9 7 = some 0 := by decide +kernel
theorem c10_155 : clsP 10 155 = some 7 := by decide +kernel
theorem c12_9 : clsP 12 9 = some 0 := by decide +kernel
theorem c12_37 : clsP 12 37 = some 10 := by decide +kernel
theorem c12_44 : clsP 12 44 = some 4 := by decide +kernel
theorem c12_68 : clsP 12 68 = some 2 := by decide +kernel
theorem c12_83 : clsP 12 83 = some 5 := by decide +kernel
theorem c12_91 : clsP 12 91 = some 3 := by decide +kernel
theorem c12_127 : clsP 12 127 = some 9 := by decide +kernel
theorem c12_148 : clsP 12 148 = some 98 := by decide +kernel
theorem c12_169 : clsP 12 169 = some 8 := by decide +kernel
theorem c12_193 : clsP 12 193 = some 11 := by decide +kernel
theorem c12_324 : clsP 12 324 = some 6 := by decide +kernel
theorem c12_338 : clsP 12 338 = some 1 := by decide +kernel
theorem c14_8 : clsP 14 8 = some 12 := by decide +kernel
theorem c14_24 : clsP 14 24 = some 13 := by decide +kernel
theorem i4_181 : cInt 4 181 = some 1000000 := by decide +kernel
theorem i12_357 : cInt 12 357 = some 1000000 := by decide +kernel
theorem i12_379 : cInt 12 379 = some 100000 := by decide +kernel
theorem i13_145 : cInt 13 145 = some 685920 := by decide +kernel
theorem i13_399 : cInt 13 399 = some 1000000 := by decide +kernel
theorem i13_497 : cInt 13 497 = some 100000 := by decide +kernel
theorem l4_179 : cLong 4 179 = some 1000000 := by decide +kernel
theorem l4_190 : cLong 4 190 = some 1000000000 := by decide +kernel
theorem l4_192 : cLong 4 192 = some (-1000000000) := by decide +kernel
theorem l12_365 : cLong 12 365 = some (-1) := by decide +kernel
theorem l13_383 : cLong 13 383 = some 1000000000 := by decide +kernel
theorem l13_385 : cLong 13 385 = some (-1000000000) := by decide +kernel
theorem l13_487 : cLong 13 487 = some 52 := by decide +kernel
theorem l13_492 : cLong 13 492 = some (-1) := by decide +kernel
theorem n10_107 : cInt 10 107 = none := by decide +kernel
theorem s10_107 : cStr 10 107 = some 0 := by decide +kernel
theorem n10_109 : cInt 10 109 = none := by decide +kernel
theorem s10_109 : cStr 10 109 = some 1 := by decide +kernel
theorem n10_111 : cInt 10 111 = none := by decide +kernel
theorem s10_111 : cStr 10 111 = some 2 := by decide +kernel
theorem n10_113 : cInt 10 113 = none := by decide +kernel
theorem s10_113 : cStr 10 113 = some 3 := by decide +kernel
theorem n10_115 : cInt 10 115 = none := by decide +kernel
theorem s10_115 : cStr 10 115 = some 4 := by decide +kernel
theorem n10_117 : cInt 10 117 = none := by decide +kernel
theorem s10_117 : cStr 10 117 = some 5 := by decide +kernel
theorem n10_119 : cInt 10 119 = none := by decide +kernel
theorem s10_119 : cStr 10 119 = some 6 := by decide +kernel
theorem n10_121 : cInt 10 121 = none := by decide +kernel
theorem s10_121 : cStr 10 121 = some 7 := by decide +kernel
theorem n10_123 : cInt 10 123 = none := by decide +kernel
theorem s10_123 : cStr 10 123 = some 8 := by decide +kernel
theorem n10_125 : cInt 10 125 = none := by decide +kernel
theorem s10_125 : cStr 10 125 = some 9 := by decide +kernel
theorem n10_127 : cInt 10 127 = none := by decide +kernel
theorem s10_127 : cStr 10 127 = some 10 := by decide +kernel
theorem n10_129 : cInt 10 129 = none := by decide +kernel
theorem s10_129 : cStr 10 129 = some 11 := by decide +kernel
theorem n10_131 : cInt 10 131 = none := by decide +kernel
theorem s10_131 : cStr 10 131 = some 12 := by decide +kernel
theorem n10_133 : cInt 10 133 = none := by decide +kernel
theorem s10_133 : cStr 10 133 = some 13 := by decide +kernel
theorem n10_135 : cInt 10 135 = none := by decide +kernel
theorem s10_135 : cStr 10 135 = some 14 := by decide +kernel
theorem n10_137 : cInt 10 137 = none := by decide +kernel
theorem s10_137 : cStr 10 137 = some 15 := by decide +kernel
theorem n10_139 : cInt 10 139 = none := by decide +kernel
theorem s10_139 : cStr 10 139 = some 16 := by decide +kernel
theorem n10_141 : cInt 10 141 = none := by decide +kernel
theorem s10_141 : cStr 10 141 = some 17 := by decide +kernel
theorem n10_143 : cInt 10 143 = none := by decide +kernel
theorem s10_143 : cStr 10 143 = some 18 := by decide +kernel
theorem n10_145 : cInt 10 145 = none := by decide +kernel
theorem s10_145 : cStr 10 145 = some 19 := by decide +kernel
theorem n10_147 : cInt 10 147 = none := by decide +kernel
theorem s10_147 : cStr 10 147 = some 20 := by decide +kernel
theorem n10_149 : cInt 10 149 = none := by decide +kernel
theorem s10_149 : cStr 10 149 = some 21 := by decide +kernel
theorem n13_270 : cInt 13 270 = none := by decide +kernel
theorem s13_270 : cStr 13 270 = some 0 := by decide +kernel
theorem n13_272 : cInt 13 272 = none := by decide +kernel
theorem s13_272 : cStr 13 272 = some 1 := by decide +kernel
theorem n13_274 : cInt 13 274 = none := by decide +kernel
theorem s13_274 : cStr 13 274 = some 2 := by decide +kernel
theorem n13_276 : cInt 13 276 = none := by decide +kernel
theorem s13_276 : cStr 13 276 = some 3 := by decide +kernel
theorem n13_278 : cInt 13 278 = none := by decide +kernel
theorem s13_278 : cStr 13 278 = some 4 := by decide +kernel
theorem n13_279 : cInt 13 279 = none := by decide +kernel
theorem s13_279 : cStr 13 279 = some 5 := by decide +kernel
theorem n13_281 : cInt 13 281 = none := by decide +kernel
theorem s13_281 : cStr 13 281 = some 6 := by decide +kernel
theorem n13_283 : cInt 13 283 = none := by decide +kernel
theorem s13_283 : cStr 13 283 = some 7 := by decide +kernel
theorem n13_285 : cInt 13 285 = none := by decide +kernel
theorem s13_285 : cStr 13 285 = some 12 := by decide +kernel
theorem n13_286 : cInt 13 286 = none := by decide +kernel
theorem s13_286 : cStr 13 286 = some 13 := by decide +kernel
theorem n13_288 : cInt 13 288 = none := by decide +kernel
theorem s13_288 : cStr 13 288 = some 14 := by decide +kernel
theorem n13_289 : cInt 13 289 = none := by decide +kernel
theorem s13_289 : cStr 13 289 = some 15 := by decide +kernel
theorem n13_290 : cInt 13 290 = none := by decide +kernel
theorem s13_290 : cStr 13 290 = some 16 := by decide +kernel
theorem n13_291 : cInt 13 291 = none := by decide +kernel
theorem s13_291 : cStr 13 291 = some 17 := by decide +kernel
theorem n13_293 : cInt 13 293 = none := by decide +kernel
theorem s13_293 : cStr 13 293 = some 18 := by decide +kernel
theorem n13_295 : cInt 13 295 = none := by decide +kernel
theorem s13_295 : cStr 13 295 = some 19 := by decide +kernel
theorem n13_296 : cInt 13 296 = none := by decide +kernel
theorem s13_296 : cStr 13 296 = some 20 := by decide +kernel
theorem n13_297 : cInt 13 297 = none := by decide +kernel
theorem s13_297 : cStr 13 297 = some 21 := by decide +kernel
theorem n13_340 : cInt 13 340 = none := by decide +kernel
theorem s13_340 : cStr 13 340 = some 11 := by decide +kernel
theorem n13_351 : cInt 13 351 = none := by decide +kernel
theorem s13_351 : cStr 13 351 = some 9 := by decide +kernel
theorem n13_356 : cInt 13 356 = none := by decide +kernel
theorem s13_356 : cStr 13 356 = some 10 := by decide +kernel
theorem n13_365 : cInt 13 365 = none := by decide +kernel
theorem s13_365 : cStr 13 365 = some 8 := by decide +kernel
theorem k0 : kT 0 = (7, 0) := rfl
theorem k1 : kT 1 = (6, 0) := rfl
theorem k2 : kT 2 = (8, 0) := rfl
theorem k3 : kT 3 = (0, 12) := rfl
theorem k4 : kT 4 = (0, 13) := rfl
theorem k5 : kT 5 = (2, 0) := rfl
theorem k6 : kT 6 = (1, 0) := rfl
theorem k7 : kT 7 = (5, 0) := rfl
theorem k8 : kT 8 = (5, 0) := rfl
theorem k9 : kT 9 = (2, 0) := rfl
theorem k10 : kT 10 = (2, 0) := rfl
theorem k11 : kT 11 = (2, 0) := rfl
theorem k12 : kT 12 = (5, 0) := rfl
theorem k13 : kT 13 = (1, 0) := rfl
theorem k14 : kT 14 = (1, 0) := rfl
theorem k15 : kT 15 = (1, 0) := rfl
theorem k16 : kT 16 = (1, 0) := rfl
theorem k17 : kT 17 = (1, 0) := rfl
theorem k18 : kT 18 = (1, 0) := rfl
theorem k19 : kT 19 = (0, 7) := rfl
theorem k20 : kT 20 = (1, 0) := rfl
theorem k21 : kT 21 = (5, 0) := rfl
theorem k22 : kT 22 = (5, 0) := rfl
theorem k23 : kT 23 = (5, 0) := rfl
theorem k24 : kT 24 = (5, 0) := rfl
theorem k25 : kT 25 = (5, 0) := rfl
theorem k26 : kT 26 = (5, 0) := rfl
theorem k27 : kT 27 = (5, 0) := rfl
theorem k28 : kT 28 = (5, 0) := rfl
theorem k29 : kT 29 = (0, 10) := rfl
theorem k30 : kT 30 = (0, 4) := rfl
theorem k31 : kT 31 = (5, 0) := rfl
theorem k32 : kT 32 = (2, 0) := rfl
theorem k33 : kT 33 = (0, 2) := rfl
theorem k34 : kT 34 = (0, 5) := rfl
theorem k35 : kT 35 = (0, 3) := rfl
theorem k36 : kT 36 = (0, 9) := rfl
theorem k37 : kT 37 = (0, 8) := rfl
theorem k38 : kT 38 = (0, 11) := rfl
theorem k39 : kT 39 = (0, 6) := rfl
theorem k40 : kT 40 = (0, 1) := rfl
theorem k41 : kT 41 = (1, 0) := rfl
theorem k42 : kT 42 = (1, 0) := rfl
theorem k43 : kT 43 = (1, 0) := rfl
theorem k44 : kT 44 = (1, 0) := rfl
theorem k45 : kT 45 = (1, 0) := rfl
theorem k46 : kT 46 = (1, 0) := rfl
theorem k47 : kT 47 = (1, 0) := rfl
theorem k48 : kT 48 = (1, 0) := rfl
theorem k49 : kT 49 = (1, 0) := rfl
theorem k50 : kT 50 = (1, 0) := rfl
theorem k51 : kT 51 = (1, 0) := rfl
theorem k52 : kT 52 = (1, 0) := rfl
theorem k53 : kT 53 = (1, 0) := rfl
theorem k54 : kT 54 = (1, 0) := rfl
theorem k55 : kT 55 = (1, 0) := rfl
theorem k56 : kT 56 = (1, 0) := rfl
theorem k57 : kT 57 = (1, 0) := rfl
theorem k58 : kT 58 = (1, 0) := rfl
theorem k59 : kT 59 = (1, 0) := rfl
theorem k60 : kT 60 = (1, 0) := rfl
theorem k61 : kT 61 = (1, 0) := rfl
theorem k62 : kT 62 = (1, 0) := rfl
theorem k63 : kT 63 = (1, 0) := rfl
theorem k64 : kT 64 = (1, 0) := rfl
theorem k65 : kT 65 = (1, 0) := rfl
theorem k66 : kT 66 = (1, 0) := rfl
theorem k67 : kT 67 = (1, 0) := rfl
theorem k68 : kT 68 = (2, 0) := rfl
theorem k69 : kT 69 = (1, 0) := rfl
theorem k70 : kT 70 = (1, 0) := rfl
theorem k71 : kT 71 = (1, 0) := rfl
theorem k72 : kT 72 = (1, 0) := rfl
theorem k73 : kT 73 = (1, 0) := rfl
theorem k74 : kT 74 = (1, 0) := rfl
theorem k75 : kT 75 = (2, 0) := rfl
theorem k76 : kT 76 = (3, 0) := rfl
theorem k77 : kT 77 = (2, 0) := rfl
theorem k78 : kT 78 = (2, 0) := rfl
theorem k79 : kT 79 = (1, 0) := rfl
theorem k80 : kT 80 = (1, 0) := rfl
theorem k81 : kT 81 = (1, 0) := rfl
theorem k82 : kT 82 = (1, 0) := rfl
theorem k83 : kT 83 = (1, 0) := rfl
theorem k84 : kT 84 = (1, 0) := rfl
theorem k85 : kT 85 = (1, 0) := rfl
theorem k86 : kT 86 = (1, 0) := rfl
theorem k87 : kT 87 = (1, 0) := rfl
theorem k88 : kT 88 = (1, 0) := rfl
theorem k89 : kT 89 = (1, 0) := rfl
theorem k90 : kT 90 = (1, 0) := rfl
theorem k91 : kT 91 = (1, 0) := rfl
theorem k92 : kT 92 = (4, 0) := rfl
theorem k93 : kT 93 = (1, 0) := rfl
theorem k94 : kT 94 = (1, 0) := rfl
theorem k95 : kT 95 = (1, 0) := rfl
theorem k96 : kT 96 = (4, 0) := rfl
theorem k97 : kT 97 = (1, 0) := rfl
theorem k98 : kT 98 = (1, 0) := rfl
theorem k99 : kT 99 = (1, 0) := rfl
theorem k100 : kT 100 = (1, 0) := rfl
theorem z0_0 : kS 0 0 = some 3 := by decide +kernel
theorem z0_8 : kS 0 8 = some 4 := by decide +kernel
theorem z0_17 : kS 0 17 = some 5 := by decide +kernel
theorem z6_17 : kS 6 17 = some 6 := by decide +kernel
theorem z10_5 : kS 10 5 = some 7 := by decide +kernel
theorem z10_16 : kS 10 16 = some 8 := by decide +kernel
theorem z10_29 : kS 10 29 = some 9 := by decide +kernel
theorem z10_42 : kS 10 42 = some 10 := by decide +kernel
theorem z10_50 : kS 10 50 = some 11 := by decide +kernel
theorem z36_5 : kS 36 5 = some 12 := by decide +kernel
theorem z40_8 : kS 40 8 = some 13 := by decide +kernel
theorem z40_32 : kS 40 32 = some 14 := by decide +kernel
theorem z40_46 : kS 40 46 = some 15 := by decide +kernel
theorem z40_55 : kS 40 55 = some 16 := by decide +kernel
theorem z40_64 : kS 40 64 = some 17 := by decide +kernel
theorem z43_103 : kS 43 103 = some 18 := by decide +kernel
theorem z55_77 : kS 55 77 = some 19 := by decide +kernel
theorem z68_22 : kS 68 22 = some 20 := by decide +kernel
theorem z71_5 : kS 71 5 = some 21 := by decide +kernel
theorem z71_16 : kS 71 16 = some 22 := by decide +kernel
theorem z71_27 : kS 71 27 = some 23 := by decide +kernel
theorem z71_38 : kS 71 38 = some 24 := by decide +kernel
theorem z71_49 : kS 71 49 = some 25 := by decide +kernel
theorem z71_60 : kS 71 60 = some 26 := by decide +kernel
theorem z71_71 : kS 71 71 = some 27 := by decide +kernel
theorem z71_82 : kS 71 82 = some 28 := by decide +kernel
theorem z71_93 : kS 71 93 = some 29 := by decide +kernel
theorem z71_104 : kS 71 104 = some 30 := by decide +kernel
theorem z71_115 : kS 71 115 = some 31 := by decide +kernel
theorem z71_129 : kS 71 129 = some 32 := by decide +kernel
theorem z71_162 : kS 71 162 = some 33 := by decide +kernel
theorem z72_35 : kS 72 35 = some 34 := by decide +kernel
theorem z73_33 : kS 73 33 = some 35 := by decide +kernel
theorem z79_24 : kS 79 24 = some 36 := by decide +kernel
theorem z87_62 : kS 87 62 = some 37 := by decide +kernel
theorem z90_11 : kS 90 11 = some 38 := by decide +kernel
theorem z107_39 : kS 107 39 = some 39 := by decide +kernel
theorem z110_38 : kS 110 38 = some 40 := by decide +kernel
theorem z137_7 : kS 137 7 = some 41 := by decide +kernel
theorem z137_15 : kS 137 15 = some 42 := by decide +kernel
theorem z137_23 : kS 137 23 = some 43 := by decide +kernel
theorem z137_31 : kS 137 31 = some 44 := by decide +kernel
theorem z137_39 : kS 137 39 = some 45 := by decide +kernel
theorem z137_47 : kS 137 47 = some 46 := by decide +kernel
theorem z137_55 : kS 137 55 = some 47 := by decide +kernel
theorem z137_63 : kS 137 63 = some 48 := by decide +kernel
theorem z137_71 : kS 137 71 = some 49 := by decide +kernel
theorem z137_79 : kS 137 79 = some 50 := by decide +kernel
theorem z137_87 : kS 137 87 = some 51 := by decide +kernel
theorem z137_95 : kS 137 95 = some 52 := by decide +kernel
theorem z137_103 : kS 137 103 = some 53 := by decide +kernel
theorem z137_111 : kS 137 111 = some 54 := by decide +kernel
theorem z137_119 : kS 137 119 = some 55 := by decide +kernel
theorem z137_127 : kS 137 127 = some 56 := by decide +kernel
theorem z137_135 : kS 137 135 = some 57 := by decide +kernel
theorem z137_143 : kS 137 143 = some 58 := by decide +kernel
theorem z137_151 : kS 137 151 = some 59 := by decide +kernel
theorem z137_159 : kS 137 159 = some 60 := by decide +kernel
theorem z137_167 : kS 137 167 = some 61 := by decide +kernel
theorem z137_181 : kS 137 181 = some 62 := by decide +kernel
theorem z137_189 : kS 137 189 = some 63 := by decide +kernel
theorem z137_197 : kS 137 197 = some 64 := by decide +kernel
theorem z137_205 : kS 137 205 = some 65 := by decide +kernel
theorem z137_213 : kS 137 213 = some 66 := by decide +kernel
theorem z137_221 : kS 137 221 = some 67 := by decide +kernel
theorem z137_229 : kS 137 229 = some 68 := by decide +kernel
theorem z137_237 : kS 137 237 = some 69 := by decide +kernel
theorem z137_245 : kS 137 245 = some 70 := by decide +kernel
theorem z137_253 : kS 137 253 = some 71 := by decide +kernel
theorem z137_261 : kS 137 261 = some 72 := by decide +kernel
theorem z137_270 : kS 137 270 = some 73 := by decide +kernel
theorem z137_279 : kS 137 279 = some 74 := by decide +kernel
theorem z137_287 : kS 137 287 = some 75 := by decide +kernel
theorem z137_296 : kS 137 296 = some 76 := by decide +kernel
theorem z137_309 : kS 137 309 = some 77 := by decide +kernel
theorem z137_318 : kS 137 318 = some 78 := by decide +kernel
theorem z137_326 : kS 137 326 = some 79 := by decide +kernel
theorem z137_335 : kS 137 335 = some 80 := by decide +kernel
theorem z137_344 : kS 137 344 = some 81 := by decide +kernel
theorem z137_353 : kS 137 353 = some 82 := by decide +kernel
theorem z137_361 : kS 137 361 = some 83 := by decide +kernel
theorem z137_369 : kS 137 369 = some 84 := by decide +kernel
theorem z137_377 : kS 137 377 = some 85 := by decide +kernel
theorem z137_385 : kS 137 385 = some 86 := by decide +kernel
theorem z137_393 : kS 137 393 = some 87 := by decide +kernel
theorem z137_401 : kS 137 401 = some 88 := by decide +kernel
theorem z137_409 : kS 137 409 = some 89 := by decide +kernel
theorem z137_417 : kS 137 417 = some 90 := by decide +kernel
theorem z137_425 : kS 137 425 = some 91 := by decide +kernel
theorem z137_433 : kS 137 433 = some 92 := by decide +kernel
theorem z137_441 : kS 137 441 = some 93 := by decide +kernel
theorem z137_449 : kS 137 449 = some 94 := by decide +kernel
theorem z137_457 : kS 137 457 = some 95 := by decide +kernel
theorem z137_465 : kS 137 465 = some 96 := by decide +kernel
theorem z137_474 : kS 137 474 = some 97 := by decide +kernel
theorem z137_482 : kS 137 482 = some 98 := by decide +kernel
theorem z137_490 : kS 137 490 = some 99 := by decide +kernel
theorem z137_499 : kS 137 499 = some 100 := by decide +kernel
