/-! the code words, by their places (printed by gen2.py) -/
set_option maxRecDepth 20000 in
theorem m_cw0 : lw_tbl[264]? = some (.code yX0_init cX0_init 1 (none)) := rfl
set_option maxRecDepth 20000 in
theorem m_cw1 : lw_tbl[682]? = some (.code yX0_at cX0_at 2 (some .int)) := rfl
set_option maxRecDepth 20000 in
theorem m_cw2 : lw_tbl[293]? = some (.code yX0_measure cX0_measure 2 (none)) := rfl
set_option maxRecDepth 20000 in
theorem m_cw3 : lw_tbl[675]? = some (.code yX0_know cX0_know 3 (none)) := rfl
set_option maxRecDepth 20000 in
theorem m_cw4 : lw_tbl[679]? = some (.code yX0_workOut cX0_workOut 6 (none)) := rfl
set_option maxRecDepth 20000 in
theorem m_cw5 : lw_tbl[692]? = some (.code yX0_tryCut cX0_tryCut 8 (none)) := rfl
set_option maxRecDepth 20000 in
theorem m_cw6 : lw_tbl[686]? = some (.code yX0_pieceLike cX0_pieceLike 6 (some .int)) := rfl
set_option maxRecDepth 20000 in
theorem m_cw7 : lw_tbl[229]? = some (.code yX1_init cX1_init 1 (none)) := rfl
set_option maxRecDepth 20000 in
theorem m_cw8 : lw_tbl[608]? = some (.code yX1_find cX1_find 7 (some .int)) := rfl
set_option maxRecDepth 20000 in
theorem m_cw9 : lw_tbl[624]? = some (.code yX1_giveFrom cX1_giveFrom 5 (none)) := rfl
set_option maxRecDepth 20000 in
theorem m_cw10 : lw_tbl[636]? = some (.code yX1_tryBlock cX1_tryBlock 6 (none)) := rfl
set_option maxRecDepth 20000 in
theorem m_cw11 : lw_tbl[616]? = some (.code yX1_roomInAll cX1_roomInAll 6 (some .int)) := rfl
set_option maxRecDepth 20000 in
theorem m_cw12 : lw_tbl[629]? = some (.code yX1_meetingEarlier cX1_meetingEarlier 6 (some .int)) := rfl
set_option maxRecDepth 20000 in
theorem m_cw13 : lw_tbl[192]? = some (.code yX2_init cX2_init 1 (none)) := rfl
set_option maxRecDepth 20000 in
theorem m_cw14 : lw_tbl[428]? = some (.code yX2_begin cX2_begin 2 (none)) := rfl
set_option maxRecDepth 20000 in
theorem m_cw15 : lw_tbl[505]? = some (.code yX2_become cX2_become 2 (none)) := rfl
set_option maxRecDepth 20000 in
theorem m_cw16 : lw_tbl[197]? = some (.code yX2_openAll cX2_openAll 1 (none)) := rfl
set_option maxRecDepth 20000 in
theorem m_cw17 : lw_tbl[474]? = some (.code yX2_isOpen cX2_isOpen 2 (some .boolean)) := rfl
set_option maxRecDepth 20000 in
theorem m_cw18 : lw_tbl[447]? = some (.code yX2_leftOf cX2_leftOf 4 (some .int)) := rfl
set_option maxRecDepth 20000 in
theorem m_cw19 : lw_tbl[497]? = some (.code yX2_squaresOfHue cX2_squaresOfHue 6 (some .int)) := rfl
set_option maxRecDepth 20000 in
theorem m_cw20 : lw_tbl[85]? = some (.code yX3_init cX3_init 1 (none)) := rfl
set_option maxRecDepth 20000 in
theorem m_cw21 : lw_tbl[358]? = some (.code yX3_readInto cX3_readInto 6 (some .int)) := rfl
set_option maxRecDepth 20000 in
theorem m_cw22 : lw_tbl[362]? = some (.code yX3_startAnew cX3_startAnew 2 (none)) := rfl
set_option maxRecDepth 20000 in
theorem m_cw23 : lw_tbl[384]? = some (.code yX3_readItem cX3_readItem 7 (some .boolean)) := rfl
set_option maxRecDepth 20000 in
theorem m_cw24 : lw_tbl[388]? = some (.code yX3_mayStart cX3_mayStart 4 (some .boolean)) := rfl
set_option maxRecDepth 20000 in
theorem m_cw25 : lw_tbl[391]? = some (.code yX3_numbersOf cX3_numbersOf 1 (some .int)) := rfl
set_option maxRecDepth 20000 in
theorem m_cw26 : lw_tbl[396]? = some (.code yX3_lowestOf cX3_lowestOf 1 (some .int)) := rfl
set_option maxRecDepth 20000 in
theorem m_cw27 : lw_tbl[399]? = some (.code yX3_highestOf cX3_highestOf 2 (some .int)) := rfl
set_option maxRecDepth 20000 in
theorem m_cw28 : lw_tbl[403]? = some (.code yX3_put cX3_put 5 (none)) := rfl
set_option maxRecDepth 20000 in
theorem m_cw29 : lw_tbl[407]? = some (.code yX3_putKind cX3_putKind 4 (none)) := rfl
set_option maxRecDepth 20000 in
theorem m_cw30 : lw_tbl[370]? = some (.code yX3_readToken cX3_readToken 4 (none)) := rfl
set_option maxRecDepth 20000 in
theorem m_cw31 : lw_tbl[377]? = some (.code yX3_readNumber cX3_readNumber 4 (none)) := rfl
set_option maxRecDepth 20000 in
theorem m_cw32 : lw_tbl[373]? = some (.code yX3_isFigure cX3_isFigure 1 (some .boolean)) := rfl
set_option maxRecDepth 20000 in
theorem m_cw33 : lw_tbl[380]? = some (.code yX3_isSign cX3_isSign 1 (some .boolean)) := rfl
set_option maxRecDepth 20000 in
theorem m_cw34 : lw_tbl[117]? = some (.code yX4_init cX4_init 1 (none)) := rfl
set_option maxRecDepth 20000 in
theorem m_cw35 : lw_tbl[122]? = some (.code yX4_startAnew cX4_startAnew 1 (none)) := rfl
set_option maxRecDepth 20000 in
theorem m_cw36 : lw_tbl[469]? = some (.code yX4_squares cX4_squares 1 (some .int)) := rfl
set_option maxRecDepth 20000 in
theorem m_cw37 : lw_tbl[424]? = some (.code yX4_edgeOf cX4_edgeOf 4 (some .int)) := rfl
set_option maxRecDepth 20000 in
theorem m_cw38 : lw_tbl[416]? = some (.code yX4_isPlain cX4_isPlain 3 (some .boolean)) := rfl
set_option maxRecDepth 20000 in
theorem m_cw39 : lw_tbl[420]? = some (.code yX4_looksLike cX4_looksLike 4 (some .boolean)) := rfl
set_option maxRecDepth 20000 in
theorem m_cw40 : lw_tbl[411]? = some (.code yX4_settleBlocks cX4_settleBlocks 3 (none)) := rfl
set_option maxRecDepth 20000 in
theorem m_cw41 : lw_tbl[557]? = some (.code yX4_plainWith cX4_plainWith 3 (some .int)) := rfl
set_option maxRecDepth 20000 in
theorem m_cw42 : lw_tbl[486]? = some (.code yX4_beside cX4_beside 5 (some .int)) := rfl
set_option maxRecDepth 20000 in
theorem m_cw43 : lw_tbl[592]? = some (.code yX4_isFirstOfHue cX4_isFirstOfHue 3 (some .boolean)) := rfl
set_option maxRecDepth 20000 in
theorem m_cw44 : lw_tbl[720]? = some (.code yX4_hueCount cX4_hueCount 3 (some .int)) := rfl
set_option maxRecDepth 20000 in
theorem m_cw45 : lw_tbl[588]? = some (.code yX4_hueAt cX4_hueAt 4 (some .int)) := rfl
set_option maxRecDepth 20000 in
theorem m_cw46 : lw_tbl[596]? = some (.code yX4_kindsOfHue cX4_kindsOfHue 4 (some .int)) := rfl
set_option maxRecDepth 20000 in
theorem m_cw47 : lw_tbl[217]? = some (.code yX5_init cX5_init 1 (none)) := rfl
set_option maxRecDepth 20000 in
theorem m_cw48 : lw_tbl[543]? = some (.code yX5_begin cX5_begin 6 (none)) := rfl
set_option maxRecDepth 20000 in
theorem m_cw49 : lw_tbl[564]? = some (.code yX5_settle cX5_settle 7 (none)) := rfl
set_option maxRecDepth 20000 in
theorem m_cw50 : lw_tbl[546]? = some (.code yX5_blocksToHave cX5_blocksToHave 4 (some .int)) := rfl
set_option maxRecDepth 20000 in
theorem m_cw51 : lw_tbl[553]? = some (.code yX5_meetingAround cX5_meetingAround 6 (some .int)) := rfl
set_option maxRecDepth 20000 in
theorem m_cw52 : lw_tbl[568]? = some (.code yX5_supported cX5_supported 7 (some .int)) := rfl
set_option maxRecDepth 20000 in
theorem m_cw53 : lw_tbl[571]? = some (.code yX5_meetingOneOf cX5_meetingOneOf 5 (some .int)) := rfl
set_option maxRecDepth 20000 in
theorem m_cw54 : lw_tbl[77]? = some (.code yX6_init cX6_init 2 (none)) := rfl
set_option maxRecDepth 20000 in
theorem m_cw55 : lw_tbl[346]? = some (.code yX6_type cX6_type 2 (some .int)) := rfl
set_option maxRecDepth 20000 in
theorem m_cw56 : lw_tbl[350]? = some (.code yX6_clear cX6_clear 2 (some .int)) := rfl
set_option maxRecDepth 20000 in
theorem m_cw57 : lw_tbl[354]? = some (.code yX6_tells cX6_tells 3 (some .int)) := rfl
set_option maxRecDepth 20000 in
theorem m_cw58 : lw_tbl[439]? = some (.code yX6_kind cX6_kind 3 (some .int)) := rfl
set_option maxRecDepth 20000 in
theorem m_cw59 : lw_tbl[452]? = some (.code yX6_block cX6_block 3 (some .int)) := rfl
set_option maxRecDepth 20000 in
theorem m_cw60 : lw_tbl[461]? = some (.code yX6_lays cX6_lays 4 (some .int)) := rfl
set_option maxRecDepth 20000 in
theorem m_cw61 : lw_tbl[514]? = some (.code yX6_takes cX6_takes 3 (some .int)) := rfl
set_option maxRecDepth 20000 in
theorem m_cw62 : lw_tbl[518]? = some (.code yX6_buys cX6_buys 4 (some .int)) := rfl
set_option maxRecDepth 20000 in
theorem m_cw63 : lw_tbl[522]? = some (.code yX6_clears cX6_clears 2 (some .int)) := rfl
set_option maxRecDepth 20000 in
theorem m_cw64 : lw_tbl[527]? = some (.code yX6_undo cX6_undo 1 (some .int)) := rfl
set_option maxRecDepth 20000 in
theorem m_cw65 : lw_tbl[531]? = some (.code yX6_square cX6_square 2 (some .int)) := rfl
set_option maxRecDepth 20000 in
theorem m_cw66 : lw_tbl[535]? = some (.code yX6_fits cX6_fits 3 (some .int)) := rfl
set_option maxRecDepth 20000 in
theorem m_cw67 : lw_tbl[539]? = some (.code yX6_left cX6_left 4 (some .int)) := rfl
set_option maxRecDepth 20000 in
theorem m_cw68 : lw_tbl[584]? = some (.code yX6_hue cX6_hue 4 (some .int)) := rfl
set_option maxRecDepth 20000 in
theorem m_cw69 : lw_tbl[600]? = some (.code yX6_many cX6_many 2 (some .int)) := rfl
set_option maxRecDepth 20000 in
theorem m_cw70 : lw_tbl[640]? = some (.code yX6_quilt cX6_quilt 3 (some .int)) := rfl
set_option maxRecDepth 20000 in
theorem m_cw71 : lw_tbl[644]? = some (.code yX6_sure cX6_sure 3 (some .int)) := rfl
set_option maxRecDepth 20000 in
theorem m_cw72 : lw_tbl[653]? = some (.code yX6_next cX6_next 5 (some .int)) := rfl
set_option maxRecDepth 20000 in
theorem m_cw73 : lw_tbl[657]? = some (.code yX6_wanting cX6_wanting 3 (some .int)) := rfl
set_option maxRecDepth 20000 in
theorem m_cw74 : lw_tbl[661]? = some (.code yX6_piece cX6_piece 3 (some .int)) := rfl
set_option maxRecDepth 20000 in
theorem m_cw75 : lw_tbl[668]? = some (.code yX6_good cX6_good 3 (some .int)) := rfl
set_option maxRecDepth 20000 in
theorem m_cw76 : lw_tbl[697]? = some (.code yX6_cut cX6_cut 3 (some .int)) := rfl
set_option maxRecDepth 20000 in
theorem m_cw77 : lw_tbl[701]? = some (.code yX6_made cX6_made 4 (some .int)) := rfl
set_option maxRecDepth 20000 in
theorem m_cw78 : lw_tbl[705]? = some (.code yX6_keep cX6_keep 2 (some .int)) := rfl
set_option maxRecDepth 20000 in
theorem m_cw79 : lw_tbl[712]? = some (.code yX6_back cX6_back 2 (some .int)) := rfl
set_option maxRecDepth 20000 in
theorem m_cw80 : lw_tbl[716]? = some (.code yX6_count cX6_count 2 (some .int)) := rfl
set_option maxRecDepth 20000 in
theorem m_cw81 : lw_tbl[443]? = some (.code yX6_isKind cX6_isKind 2 (some .boolean)) := rfl
set_option maxRecDepth 20000 in
theorem m_cw82 : lw_tbl[456]? = some (.code yX6_isBlock cX6_isBlock 2 (some .boolean)) := rfl
set_option maxRecDepth 20000 in
theorem m_cw83 : lw_tbl[465]? = some (.code yX6_isSquare cX6_isSquare 2 (some .boolean)) := rfl
set_option maxRecDepth 20000 in
theorem m_cw84 : lw_tbl[664]? = some (.code yX6_isPiece cX6_isPiece 1 (some .boolean)) := rfl
set_option maxRecDepth 20000 in
theorem m_cw85 : lw_tbl[671]? = some (.code yX6_isRectangle cX6_isRectangle 2 (some .boolean)) := rfl
set_option maxRecDepth 20000 in
theorem m_cw86 : lw_tbl[708]? = some (.code yX6_isImage cX6_isImage 1 (some .boolean)) := rfl
set_option maxRecDepth 20000 in
theorem m_cw87 : lw_tbl[510]? = some (.code yX6_openSquares cX6_openSquares 3 (some .int)) := rfl
set_option maxRecDepth 20000 in
theorem m_cw88 : lw_tbl[435]? = some (.code yX6_forgetImages cX6_forgetImages 2 (none)) := rfl
set_option maxRecDepth 20000 in
theorem m_cw89 : lw_tbl[501]? = some (.code yX6_remember cX6_remember 1 (none)) := rfl
set_option maxRecDepth 20000 in
theorem m_cw90 : lw_tbl[478]? = some (.code yX6_whyNot cX6_whyNot 4 (some .int)) := rfl
set_option maxRecDepth 20000 in
theorem m_cw91 : lw_tbl[482]? = some (.code yX6_meetsNeighbours cX6_meetsNeighbours 5 (some .boolean)) := rfl
set_option maxRecDepth 20000 in
theorem m_cw92 : lw_tbl[493]? = some (.code yX6_keepsRim cX6_keepsRim 4 (some .boolean)) := rfl
set_option maxRecDepth 20000 in
theorem m_cw93 : lw_tbl[604]? = some (.code yX6_quiltsOf cX6_quiltsOf 3 (some .int)) := rfl
set_option maxRecDepth 20000 in
theorem m_cw94 : lw_tbl[649]? = some (.code yX6_sameWithAnotherAt cX6_sameWithAnotherAt 5 (some .int)) := rfl
set_option maxRecDepth 20000 in
theorem m_cw95 : lw_tbl[580]? = some (.code yX6_bitAt cX6_bitAt 4 (some .int)) := rfl
set_option maxRecDepth 20000 in
theorem m_cw96 : lw_tbl[489]? = some (.code yX6_opposite cX6_opposite 1 (some .int)) := rfl
set_option maxRecDepth 20000 in
theorem m_cw97 : lw_tbl[832]? = some (.code yX7_in cX7_in 3 (some .boolean)) := rfl
set_option maxRecDepth 20000 in
theorem m_cw98 : lw_tbl[725]? = some (.code yX7_init cX7_init 1 (none)) := rfl
set_option maxRecDepth 20000 in
theorem m_cw99 : lw_tbl[730]? = some (.code yX7_begins cX7_begins 1 (none)) := rfl
set_option maxRecDepth 20000 in
theorem m_cw100 : lw_tbl[734]? = some (.code yX7_becomes cX7_becomes 2 (none)) := rfl
set_option maxRecDepth 20000 in
theorem m_cw101 : lw_tbl[829]? = some (.code yX7_type cX7_type 2 (some .int)) := rfl
set_option maxRecDepth 20000 in
theorem m_cw102 : lw_tbl[836]? = some (.code yX7_clear cX7_clear 2 (some .int)) := rfl
set_option maxRecDepth 20000 in
theorem m_cw103 : lw_tbl[844]? = some (.code yX7_here cX7_here 1 (some .int)) := rfl
set_option maxRecDepth 20000 in
theorem m_cw104 : lw_tbl[856]? = some (.code yX7_reads cX7_reads 7 (some .boolean)) := rfl
set_option maxRecDepth 20000 in
theorem m_cw105 : lw_tbl[852]? = some (.code yX7_readsKind cX7_readsKind 2 (some .boolean)) := rfl
set_option maxRecDepth 20000 in
theorem m_cw106 : lw_tbl[860]? = some (.code yX7_readsOnce cX7_readsOnce 7 (some .boolean)) := rfl
set_option maxRecDepth 20000 in
theorem m_cw107 : lw_tbl[848]? = some (.code yX7_item cX7_item 1 (some .boolean)) := rfl
set_option maxRecDepth 20000 in
theorem m_cw108 : lw_tbl[840]? = some (.code yX7_tells cX7_tells 2 (some .int)) := rfl
set_option maxRecDepth 20000 in
theorem m_cw109 : lw_tbl[868]? = some (.code yX7_isKind cX7_isKind 2 (some .boolean)) := rfl
set_option maxRecDepth 20000 in
theorem m_cw110 : lw_tbl[884]? = some (.code yX7_isBlock cX7_isBlock 2 (some .boolean)) := rfl
set_option maxRecDepth 20000 in
theorem m_cw111 : lw_tbl[904]? = some (.code yX7_squares cX7_squares 1 (some .int)) := rfl
set_option maxRecDepth 20000 in
theorem m_cw112 : lw_tbl[900]? = some (.code yX7_isSquare cX7_isSquare 2 (some .boolean)) := rfl
set_option maxRecDepth 20000 in
theorem m_cw113 : lw_tbl[888]? = some (.code yX7_edge cX7_edge 3 (some .int)) := rfl
set_option maxRecDepth 20000 in
theorem m_cw114 : lw_tbl[892]? = some (.code yX7_isPlain cX7_isPlain 5 (some .boolean)) := rfl
set_option maxRecDepth 20000 in
theorem m_cw115 : lw_tbl[916]? = some (.code yX7_hueOf cX7_hueOf 2 (some .int)) := rfl
set_option maxRecDepth 20000 in
theorem m_cw116 : lw_tbl[872]? = some (.code yX7_tries cX7_tries 2 (none)) := rfl
set_option maxRecDepth 20000 in
theorem m_cw117 : lw_tbl[876]? = some (.code yX7_leftOf cX7_leftOf 4 (some .int)) := rfl
set_option maxRecDepth 20000 in
theorem m_cw118 : lw_tbl[920]? = some (.code yX7_ofHue cX7_ofHue 4 (some .int)) := rfl
set_option maxRecDepth 20000 in
theorem m_cw119 : lw_tbl[912]? = some (.code yX7_beside cX7_beside 5 (some .int)) := rfl
set_option maxRecDepth 20000 in
theorem m_cw120 : lw_tbl[908]? = some (.code yX7_whyNot cX7_whyNot 6 (some .int)) := rfl
set_option maxRecDepth 20000 in
theorem m_cw121 : lw_tbl[864]? = some (.code yX7_kind cX7_kind 3 (some .int)) := rfl
set_option maxRecDepth 20000 in
theorem m_cw122 : lw_tbl[880]? = some (.code yX7_block cX7_block 3 (some .int)) := rfl
set_option maxRecDepth 20000 in
theorem m_cw123 : lw_tbl[928]? = some (.code yX7_open cX7_open 3 (some .int)) := rfl
set_option maxRecDepth 20000 in
theorem m_cw124 : lw_tbl[924]? = some (.code yX7_notes cX7_notes 2 (none)) := rfl
set_option maxRecDepth 20000 in
theorem m_cw125 : lw_tbl[896]? = some (.code yX7_lays cX7_lays 4 (some .int)) := rfl
set_option maxRecDepth 20000 in
theorem m_cw126 : lw_tbl[932]? = some (.code yX7_takes cX7_takes 3 (some .int)) := rfl
set_option maxRecDepth 20000 in
theorem m_cw127 : lw_tbl[936]? = some (.code yX7_buys cX7_buys 4 (some .int)) := rfl
set_option maxRecDepth 20000 in
theorem m_cw128 : lw_tbl[940]? = some (.code yX7_clears cX7_clears 3 (some .int)) := rfl
set_option maxRecDepth 20000 in
theorem m_cw129 : lw_tbl[944]? = some (.code yX7_undo cX7_undo 2 (some .int)) := rfl
set_option maxRecDepth 20000 in
theorem m_cw130 : lw_tbl[948]? = some (.code yX7_square cX7_square 2 (some .int)) := rfl
set_option maxRecDepth 20000 in
theorem m_cw131 : lw_tbl[952]? = some (.code yX7_fits cX7_fits 3 (some .int)) := rfl
set_option maxRecDepth 20000 in
theorem m_cw132 : lw_tbl[968]? = some (.code yX7_has cX7_has 6 (some .boolean)) := rfl
set_option maxRecDepth 20000 in
theorem m_cw133 : lw_tbl[964]? = some (.code yX7_stays cX7_stays 6 (some .boolean)) := rfl
set_option maxRecDepth 20000 in
theorem m_cw134 : lw_tbl[960]? = some (.code yX7_winnows cX7_winnows 4 (none)) := rfl
set_option maxRecDepth 20000 in
theorem m_cw135 : lw_tbl[971]? = some (.code yX7_ones cX7_ones 3 (some .int)) := rfl
set_option maxRecDepth 20000 in
theorem m_cw136 : lw_tbl[956]? = some (.code yX7_left cX7_left 5 (some .int)) := rfl
set_option maxRecDepth 20000 in
theorem m_cw137 : lw_tbl[979]? = some (.code yX7_hueAt cX7_hueAt 6 (some .int)) := rfl
set_option maxRecDepth 20000 in
theorem m_cw138 : lw_tbl[975]? = some (.code yX7_hue cX7_hue 6 (some .int)) := rfl
set_option maxRecDepth 20000 in
theorem m_cw139 : lw_tbl[987]? = some (.code yX7_startsQuilts cX7_startsQuilts 2 (none)) := rfl
set_option maxRecDepth 20000 in
theorem m_cw140 : lw_tbl[995]? = some (.code yX7_canBe cX7_canBe 3 (some .boolean)) := rfl
set_option maxRecDepth 20000 in
theorem m_cw141 : lw_tbl[991]? = some (.code yX7_nextQuilt cX7_nextQuilt 3 (some .boolean)) := rfl
set_option maxRecDepth 20000 in
theorem m_cw142 : lw_tbl[983]? = some (.code yX7_many cX7_many 3 (some .int)) := rfl
set_option maxRecDepth 20000 in
theorem m_cw143 : lw_tbl[999]? = some (.code yX7_quilt cX7_quilt 4 (some .int)) := rfl
set_option maxRecDepth 20000 in
theorem m_cw144 : lw_tbl[1003]? = some (.code yX7_sure cX7_sure 3 (some .int)) := rfl
set_option maxRecDepth 20000 in
theorem m_cw145 : lw_tbl[1007]? = some (.code yX7_next cX7_next 3 (some .int)) := rfl
set_option maxRecDepth 20000 in
theorem m_cw146 : lw_tbl[1011]? = some (.code yX7_wanting cX7_wanting 3 (some .int)) := rfl
set_option maxRecDepth 20000 in
theorem m_cw147 : lw_tbl[1019]? = some (.code yX7_side cX7_side 6 (some .int)) := rfl
set_option maxRecDepth 20000 in
theorem m_cw148 : lw_tbl[1038]? = some (.code yX7_pieceOf cX7_pieceOf 6 (some .int)) := rfl
set_option maxRecDepth 20000 in
theorem m_cw149 : lw_tbl[1042]? = some (.code yX7_laysCut cX7_laysCut 7 (none)) := rfl
set_option maxRecDepth 20000 in
theorem m_cw150 : lw_tbl[1034]? = some (.code yX7_laysRectangle cX7_laysRectangle 6 (none)) := rfl
set_option maxRecDepth 20000 in
theorem m_cw151 : lw_tbl[1030]? = some (.code yX7_laysCloth cX7_laysCloth 3 (none)) := rfl
set_option maxRecDepth 20000 in
theorem m_cw152 : lw_tbl[1026]? = some (.code yX7_isCloth cX7_isCloth 2 (some .boolean)) := rfl
set_option maxRecDepth 20000 in
theorem m_cw153 : lw_tbl[1015]? = some (.code yX7_piece cX7_piece 3 (some .int)) := rfl
set_option maxRecDepth 20000 in
theorem m_cw154 : lw_tbl[1023]? = some (.code yX7_good cX7_good 3 (some .int)) := rfl
set_option maxRecDepth 20000 in
theorem m_cw155 : lw_tbl[1046]? = some (.code yX7_cut cX7_cut 3 (some .int)) := rfl
set_option maxRecDepth 20000 in
theorem m_cw156 : lw_tbl[1050]? = some (.code yX7_made cX7_made 4 (some .int)) := rfl
set_option maxRecDepth 20000 in
theorem m_cw157 : lw_tbl[1054]? = some (.code yX7_keep cX7_keep 3 (some .int)) := rfl
set_option maxRecDepth 20000 in
theorem m_cw158 : lw_tbl[1058]? = some (.code yX7_back cX7_back 3 (some .int)) := rfl
set_option maxRecDepth 20000 in
theorem m_cw159 : lw_tbl[1066]? = some (.code yX7_hues cX7_hues 2 (some .int)) := rfl
set_option maxRecDepth 20000 in
theorem m_cw160 : lw_tbl[1062]? = some (.code yX7_count cX7_count 2 (some .int)) := rfl
set_option maxRecDepth 20000 in
theorem m_cw161 : lw_tbl[200]? = some (.code yJ7_fill_53178 cJ7_fill_53178 4 (none)) := rfl
set_option maxRecDepth 20000 in
theorem m_cw162 : lw_tbl[574]? = some (.code yJ6_bitCount_0f7a4 cJ6_bitCount_0f7a4 1 (some .int)) := rfl
theorem m_cws (y : Nat) (h : y < 163) : lw_tbl[(m_md y).2.2.2.2.2.2]? = some (.code (m_nm y) (m_by y) (m_mx y) (m_rt y)) := match y, h with
  | 0, _ => m_cw0
  | 1, _ => m_cw1
  | 2, _ => m_cw2
  | 3, _ => m_cw3
  | 4, _ => m_cw4
  | 5, _ => m_cw5
  | 6, _ => m_cw6
  | 7, _ => m_cw7
  | 8, _ => m_cw8
  | 9, _ => m_cw9
  | 10, _ => m_cw10
  | 11, _ => m_cw11
  | 12, _ => m_cw12
  | 13, _ => m_cw13
  | 14, _ => m_cw14
  | 15, _ => m_cw15
  | 16, _ => m_cw16
  | 17, _ => m_cw17
  | 18, _ => m_cw18
  | 19, _ => m_cw19
  | 20, _ => m_cw20
  | 21, _ => m_cw21
  | 22, _ => m_cw22
  | 23, _ => m_cw23
  | 24, _ => m_cw24
  | 25, _ => m_cw25
  | 26, _ => m_cw26
  | 27, _ => m_cw27
  | 28, _ => m_cw28
  | 29, _ => m_cw29
  | 30, _ => m_cw30
  | 31, _ => m_cw31
  | 32, _ => m_cw32
  | 33, _ => m_cw33
  | 34, _ => m_cw34
  | 35, _ => m_cw35
  | 36, _ => m_cw36
  | 37, _ => m_cw37
  | 38, _ => m_cw38
  | 39, _ => m_cw39
  | 40, _ => m_cw40
  | 41, _ => m_cw41
  | 42, _ => m_cw42
  | 43, _ => m_cw43
  | 44, _ => m_cw44
  | 45, _ => m_cw45
  | 46, _ => m_cw46
  | 47, _ => m_cw47
  | 48, _ => m_cw48
  | 49, _ => m_cw49
  | 50, _ => m_cw50
  | 51, _ => m_cw51
  | 52, _ => m_cw52
  | 53, _ => m_cw53
  | 54, _ => m_cw54
  | 55, _ => m_cw55
  | 56, _ => m_cw56
  | 57, _ => m_cw57
  | 58, _ => m_cw58
  | 59, _ => m_cw59
  | 60, _ => m_cw60
  | 61, _ => m_cw61
  | 62, _ => m_cw62
  | 63, _ => m_cw63
  | 64, _ => m_cw64
  | 65, _ => m_cw65
  | 66, _ => m_cw66
  | 67, _ => m_cw67
  | 68, _ => m_cw68
  | 69, _ => m_cw69
  | 70, _ => m_cw70
  | 71, _ => m_cw71
  | 72, _ => m_cw72
  | 73, _ => m_cw73
  | 74, _ => m_cw74
  | 75, _ => m_cw75
  | 76, _ => m_cw76
  | 77, _ => m_cw77
  | 78, _ => m_cw78
  | 79, _ => m_cw79
  | 80, _ => m_cw80
  | 81, _ => m_cw81
  | 82, _ => m_cw82
  | 83, _ => m_cw83
  | 84, _ => m_cw84
  | 85, _ => m_cw85
  | 86, _ => m_cw86
  | 87, _ => m_cw87
  | 88, _ => m_cw88
  | 89, _ => m_cw89
  | 90, _ => m_cw90
  | 91, _ => m_cw91
  | 92, _ => m_cw92
  | 93, _ => m_cw93
  | 94, _ => m_cw94
  | 95, _ => m_cw95
  | 96, _ => m_cw96
  | 97, _ => m_cw97
  | 98, _ => m_cw98
  | 99, _ => m_cw99
  | 100, _ => m_cw100
  | 101, _ => m_cw101
  | 102, _ => m_cw102
  | 103, _ => m_cw103
  | 104, _ => m_cw104
  | 105, _ => m_cw105
  | 106, _ => m_cw106
  | 107, _ => m_cw107
  | 108, _ => m_cw108
  | 109, _ => m_cw109
  | 110, _ => m_cw110
  | 111, _ => m_cw111
  | 112, _ => m_cw112
  | 113, _ => m_cw113
  | 114, _ => m_cw114
  | 115, _ => m_cw115
  | 116, _ => m_cw116
  | 117, _ => m_cw117
  | 118, _ => m_cw118
  | 119, _ => m_cw119
  | 120, _ => m_cw120
  | 121, _ => m_cw121
  | 122, _ => m_cw122
  | 123, _ => m_cw123
  | 124, _ => m_cw124
  | 125, _ => m_cw125
  | 126, _ => m_cw126
  | 127, _ => m_cw127
  | 128, _ => m_cw128
  | 129, _ => m_cw129
  | 130, _ => m_cw130
  | 131, _ => m_cw131
  | 132, _ => m_cw132
  | 133, _ => m_cw133
  | 134, _ => m_cw134
  | 135, _ => m_cw135
  | 136, _ => m_cw136
  | 137, _ => m_cw137
  | 138, _ => m_cw138
  | 139, _ => m_cw139
  | 140, _ => m_cw140
  | 141, _ => m_cw141
  | 142, _ => m_cw142
  | 143, _ => m_cw143
  | 144, _ => m_cw144
  | 145, _ => m_cw145
  | 146, _ => m_cw146
  | 147, _ => m_cw147
  | 148, _ => m_cw148
  | 149, _ => m_cw149
  | 150, _ => m_cw150
  | 151, _ => m_cw151
  | 152, _ => m_cw152
  | 153, _ => m_cw153
  | 154, _ => m_cw154
  | 155, _ => m_cw155
  | 156, _ => m_cw156
  | 157, _ => m_cw157
  | 158, _ => m_cw158
  | 159, _ => m_cw159
  | 160, _ => m_cw160
  | 161, _ => m_cw161
  | 162, _ => m_cw162
  | n + 163, h => absurd h (by omega)
