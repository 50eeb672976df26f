/-! the tables are right: decoded bytes, words (printed by gen2.py) -/
set_option maxRecDepth 100000 in
theorem m_dc0 : m_c0.all (fun q => decide (decode cX0_init q.1 = .ok q.2)) = true := by decide +kernel
set_option maxRecDepth 100000 in
theorem m_dc1 : m_c1.all (fun q => decide (decode cX0_at q.1 = .ok q.2)) = true := by decide +kernel
set_option maxRecDepth 100000 in
theorem m_dc2 : m_c2.all (fun q => decide (decode cX0_measure q.1 = .ok q.2)) = true := by decide +kernel
set_option maxRecDepth 100000 in
theorem m_dc3 : m_c3.all (fun q => decide (decode cX0_know q.1 = .ok q.2)) = true := by decide +kernel
set_option maxRecDepth 100000 in
theorem m_dc4 : m_c4.all (fun q => decide (decode cX0_workOut q.1 = .ok q.2)) = true := by decide +kernel
set_option maxRecDepth 100000 in
theorem m_dc5 : m_c5.all (fun q => decide (decode cX0_tryCut q.1 = .ok q.2)) = true := by decide +kernel
set_option maxRecDepth 100000 in
theorem m_dc6 : m_c6.all (fun q => decide (decode cX0_pieceLike q.1 = .ok q.2)) = true := by decide +kernel
set_option maxRecDepth 100000 in
theorem m_dc7 : m_c7.all (fun q => decide (decode cX1_init q.1 = .ok q.2)) = true := by decide +kernel
set_option maxRecDepth 100000 in
theorem m_dc8 : m_c8.all (fun q => decide (decode cX1_find q.1 = .ok q.2)) = true := by decide +kernel
set_option maxRecDepth 100000 in
theorem m_dc9 : m_c9.all (fun q => decide (decode cX1_giveFrom q.1 = .ok q.2)) = true := by decide +kernel
set_option maxRecDepth 100000 in
theorem m_dc10 : m_c10.all (fun q => decide (decode cX1_tryBlock q.1 = .ok q.2)) = true := by decide +kernel
set_option maxRecDepth 100000 in
theorem m_dc11 : m_c11.all (fun q => decide (decode cX1_roomInAll q.1 = .ok q.2)) = true := by decide +kernel
set_option maxRecDepth 100000 in
theorem m_dc12 : m_c12.all (fun q => decide (decode cX1_meetingEarlier q.1 = .ok q.2)) = true := by decide +kernel
set_option maxRecDepth 100000 in
theorem m_dc13 : m_c13.all (fun q => decide (decode cX2_init q.1 = .ok q.2)) = true := by decide +kernel
set_option maxRecDepth 100000 in
theorem m_dc14 : m_c14.all (fun q => decide (decode cX2_begin q.1 = .ok q.2)) = true := by decide +kernel
set_option maxRecDepth 100000 in
theorem m_dc15 : m_c15.all (fun q => decide (decode cX2_become q.1 = .ok q.2)) = true := by decide +kernel
set_option maxRecDepth 100000 in
theorem m_dc16 : m_c16.all (fun q => decide (decode cX2_openAll q.1 = .ok q.2)) = true := by decide +kernel
set_option maxRecDepth 100000 in
theorem m_dc17 : m_c17.all (fun q => decide (decode cX2_isOpen q.1 = .ok q.2)) = true := by decide +kernel
set_option maxRecDepth 100000 in
theorem m_dc18 : m_c18.all (fun q => decide (decode cX2_leftOf q.1 = .ok q.2)) = true := by decide +kernel
set_option maxRecDepth 100000 in
theorem m_dc19 : m_c19.all (fun q => decide (decode cX2_squaresOfHue q.1 = .ok q.2)) = true := by decide +kernel
set_option maxRecDepth 100000 in
theorem m_dc20 : m_c20.all (fun q => decide (decode cX3_init q.1 = .ok q.2)) = true := by decide +kernel
set_option maxRecDepth 100000 in
theorem m_dc21 : m_c21.all (fun q => decide (decode cX3_readInto q.1 = .ok q.2)) = true := by decide +kernel
set_option maxRecDepth 100000 in
theorem m_dc22 : m_c22.all (fun q => decide (decode cX3_startAnew q.1 = .ok q.2)) = true := by decide +kernel
set_option maxRecDepth 100000 in
theorem m_dc23 : m_c23.all (fun q => decide (decode cX3_readItem q.1 = .ok q.2)) = true := by decide +kernel
set_option maxRecDepth 100000 in
theorem m_dc24 : m_c24.all (fun q => decide (decode cX3_mayStart q.1 = .ok q.2)) = true := by decide +kernel
set_option maxRecDepth 100000 in
theorem m_dc25 : m_c25.all (fun q => decide (decode cX3_numbersOf q.1 = .ok q.2)) = true := by decide +kernel
set_option maxRecDepth 100000 in
theorem m_dc26 : m_c26.all (fun q => decide (decode cX3_lowestOf q.1 = .ok q.2)) = true := by decide +kernel
set_option maxRecDepth 100000 in
theorem m_dc27 : m_c27.all (fun q => decide (decode cX3_highestOf q.1 = .ok q.2)) = true := by decide +kernel
set_option maxRecDepth 100000 in
theorem m_dc28 : m_c28.all (fun q => decide (decode cX3_put q.1 = .ok q.2)) = true := by decide +kernel
set_option maxRecDepth 100000 in
theorem m_dc29 : m_c29.all (fun q => decide (decode cX3_putKind q.1 = .ok q.2)) = true := by decide +kernel
set_option maxRecDepth 100000 in
theorem m_dc30 : m_c30.all (fun q => decide (decode cX3_readToken q.1 = .ok q.2)) = true := by decide +kernel
set_option maxRecDepth 100000 in
theorem m_dc31 : m_c31.all (fun q => decide (decode cX3_readNumber q.1 = .ok q.2)) = true := by decide +kernel
set_option maxRecDepth 100000 in
theorem m_dc32 : m_c32.all (fun q => decide (decode cX3_isFigure q.1 = .ok q.2)) = true := by decide +kernel
set_option maxRecDepth 100000 in
theorem m_dc33 : m_c33.all (fun q => decide (decode cX3_isSign q.1 = .ok q.2)) = true := by decide +kernel
set_option maxRecDepth 100000 in
theorem m_dc34 : m_c34.all (fun q => decide (decode cX4_init q.1 = .ok q.2)) = true := by decide +kernel
set_option maxRecDepth 100000 in
theorem m_dc35 : m_c35.all (fun q => decide (decode cX4_startAnew q.1 = .ok q.2)) = true := by decide +kernel
set_option maxRecDepth 100000 in
theorem m_dc36 : m_c36.all (fun q => decide (decode cX4_squares q.1 = .ok q.2)) = true := by decide +kernel
set_option maxRecDepth 100000 in
theorem m_dc37 : m_c37.all (fun q => decide (decode cX4_edgeOf q.1 = .ok q.2)) = true := by decide +kernel
set_option maxRecDepth 100000 in
theorem m_dc38 : m_c38.all (fun q => decide (decode cX4_isPlain q.1 = .ok q.2)) = true := by decide +kernel
set_option maxRecDepth 100000 in
theorem m_dc39 : m_c39.all (fun q => decide (decode cX4_looksLike q.1 = .ok q.2)) = true := by decide +kernel
set_option maxRecDepth 100000 in
theorem m_dc40 : m_c40.all (fun q => decide (decode cX4_settleBlocks q.1 = .ok q.2)) = true := by decide +kernel
set_option maxRecDepth 100000 in
theorem m_dc41 : m_c41.all (fun q => decide (decode cX4_plainWith q.1 = .ok q.2)) = true := by decide +kernel
set_option maxRecDepth 100000 in
theorem m_dc42 : m_c42.all (fun q => decide (decode cX4_beside q.1 = .ok q.2)) = true := by decide +kernel
set_option maxRecDepth 100000 in
theorem m_dc43 : m_c43.all (fun q => decide (decode cX4_isFirstOfHue q.1 = .ok q.2)) = true := by decide +kernel
set_option maxRecDepth 100000 in
theorem m_dc44 : m_c44.all (fun q => decide (decode cX4_hueCount q.1 = .ok q.2)) = true := by decide +kernel
set_option maxRecDepth 100000 in
theorem m_dc45 : m_c45.all (fun q => decide (decode cX4_hueAt q.1 = .ok q.2)) = true := by decide +kernel
set_option maxRecDepth 100000 in
theorem m_dc46 : m_c46.all (fun q => decide (decode cX4_kindsOfHue q.1 = .ok q.2)) = true := by decide +kernel
set_option maxRecDepth 100000 in
theorem m_dc47 : m_c47.all (fun q => decide (decode cX5_init q.1 = .ok q.2)) = true := by decide +kernel
set_option maxRecDepth 100000 in
theorem m_dc48 : m_c48.all (fun q => decide (decode cX5_begin q.1 = .ok q.2)) = true := by decide +kernel
set_option maxRecDepth 100000 in
theorem m_dc49 : m_c49.all (fun q => decide (decode cX5_settle q.1 = .ok q.2)) = true := by decide +kernel
set_option maxRecDepth 100000 in
theorem m_dc50 : m_c50.all (fun q => decide (decode cX5_blocksToHave q.1 = .ok q.2)) = true := by decide +kernel
set_option maxRecDepth 100000 in
theorem m_dc51 : m_c51.all (fun q => decide (decode cX5_meetingAround q.1 = .ok q.2)) = true := by decide +kernel
set_option maxRecDepth 100000 in
theorem m_dc52 : m_c52.all (fun q => decide (decode cX5_supported q.1 = .ok q.2)) = true := by decide +kernel
set_option maxRecDepth 100000 in
theorem m_dc53 : m_c53.all (fun q => decide (decode cX5_meetingOneOf q.1 = .ok q.2)) = true := by decide +kernel
set_option maxRecDepth 100000 in
theorem m_dc54 : m_c54.all (fun q => decide (decode cX6_init q.1 = .ok q.2)) = true := by decide +kernel
set_option maxRecDepth 100000 in
theorem m_dc55 : m_c55.all (fun q => decide (decode cX6_type q.1 = .ok q.2)) = true := by decide +kernel
set_option maxRecDepth 100000 in
theorem m_dc56 : m_c56.all (fun q => decide (decode cX6_clear q.1 = .ok q.2)) = true := by decide +kernel
set_option maxRecDepth 100000 in
theorem m_dc57 : m_c57.all (fun q => decide (decode cX6_tells q.1 = .ok q.2)) = true := by decide +kernel
set_option maxRecDepth 100000 in
theorem m_dc58 : m_c58.all (fun q => decide (decode cX6_kind q.1 = .ok q.2)) = true := by decide +kernel
set_option maxRecDepth 100000 in
theorem m_dc59 : m_c59.all (fun q => decide (decode cX6_block q.1 = .ok q.2)) = true := by decide +kernel
set_option maxRecDepth 100000 in
theorem m_dc60 : m_c60.all (fun q => decide (decode cX6_lays q.1 = .ok q.2)) = true := by decide +kernel
set_option maxRecDepth 100000 in
theorem m_dc61 : m_c61.all (fun q => decide (decode cX6_takes q.1 = .ok q.2)) = true := by decide +kernel
set_option maxRecDepth 100000 in
theorem m_dc62 : m_c62.all (fun q => decide (decode cX6_buys q.1 = .ok q.2)) = true := by decide +kernel
set_option maxRecDepth 100000 in
theorem m_dc63 : m_c63.all (fun q => decide (decode cX6_clears q.1 = .ok q.2)) = true := by decide +kernel
set_option maxRecDepth 100000 in
theorem m_dc64 : m_c64.all (fun q => decide (decode cX6_undo q.1 = .ok q.2)) = true := by decide +kernel
set_option maxRecDepth 100000 in
theorem m_dc65 : m_c65.all (fun q => decide (decode cX6_square q.1 = .ok q.2)) = true := by decide +kernel
set_option maxRecDepth 100000 in
theorem m_dc66 : m_c66.all (fun q => decide (decode cX6_fits q.1 = .ok q.2)) = true := by decide +kernel
set_option maxRecDepth 100000 in
theorem m_dc67 : m_c67.all (fun q => decide (decode cX6_left q.1 = .ok q.2)) = true := by decide +kernel
set_option maxRecDepth 100000 in
theorem m_dc68 : m_c68.all (fun q => decide (decode cX6_hue q.1 = .ok q.2)) = true := by decide +kernel
set_option maxRecDepth 100000 in
theorem m_dc69 : m_c69.all (fun q => decide (decode cX6_many q.1 = .ok q.2)) = true := by decide +kernel
set_option maxRecDepth 100000 in
theorem m_dc70 : m_c70.all (fun q => decide (decode cX6_quilt q.1 = .ok q.2)) = true := by decide +kernel
set_option maxRecDepth 100000 in
theorem m_dc71 : m_c71.all (fun q => decide (decode cX6_sure q.1 = .ok q.2)) = true := by decide +kernel
set_option maxRecDepth 100000 in
theorem m_dc72 : m_c72.all (fun q => decide (decode cX6_next q.1 = .ok q.2)) = true := by decide +kernel
set_option maxRecDepth 100000 in
theorem m_dc73 : m_c73.all (fun q => decide (decode cX6_wanting q.1 = .ok q.2)) = true := by decide +kernel
set_option maxRecDepth 100000 in
theorem m_dc74 : m_c74.all (fun q => decide (decode cX6_piece q.1 = .ok q.2)) = true := by decide +kernel
set_option maxRecDepth 100000 in
theorem m_dc75 : m_c75.all (fun q => decide (decode cX6_good q.1 = .ok q.2)) = true := by decide +kernel
set_option maxRecDepth 100000 in
theorem m_dc76 : m_c76.all (fun q => decide (decode cX6_cut q.1 = .ok q.2)) = true := by decide +kernel
set_option maxRecDepth 100000 in
theorem m_dc77 : m_c77.all (fun q => decide (decode cX6_made q.1 = .ok q.2)) = true := by decide +kernel
set_option maxRecDepth 100000 in
theorem m_dc78 : m_c78.all (fun q => decide (decode cX6_keep q.1 = .ok q.2)) = true := by decide +kernel
set_option maxRecDepth 100000 in
theorem m_dc79 : m_c79.all (fun q => decide (decode cX6_back q.1 = .ok q.2)) = true := by decide +kernel
set_option maxRecDepth 100000 in
theorem m_dc80 : m_c80.all (fun q => decide (decode cX6_count q.1 = .ok q.2)) = true := by decide +kernel
set_option maxRecDepth 100000 in
theorem m_dc81 : m_c81.all (fun q => decide (decode cX6_isKind q.1 = .ok q.2)) = true := by decide +kernel
set_option maxRecDepth 100000 in
theorem m_dc82 : m_c82.all (fun q => decide (decode cX6_isBlock q.1 = .ok q.2)) = true := by decide +kernel
set_option maxRecDepth 100000 in
theorem m_dc83 : m_c83.all (fun q => decide (decode cX6_isSquare q.1 = .ok q.2)) = true := by decide +kernel
set_option maxRecDepth 100000 in
theorem m_dc84 : m_c84.all (fun q => decide (decode cX6_isPiece q.1 = .ok q.2)) = true := by decide +kernel
set_option maxRecDepth 100000 in
theorem m_dc85 : m_c85.all (fun q => decide (decode cX6_isRectangle q.1 = .ok q.2)) = true := by decide +kernel
set_option maxRecDepth 100000 in
theorem m_dc86 : m_c86.all (fun q => decide (decode cX6_isImage q.1 = .ok q.2)) = true := by decide +kernel
set_option maxRecDepth 100000 in
theorem m_dc87 : m_c87.all (fun q => decide (decode cX6_openSquares q.1 = .ok q.2)) = true := by decide +kernel
set_option maxRecDepth 100000 in
theorem m_dc88 : m_c88.all (fun q => decide (decode cX6_forgetImages q.1 = .ok q.2)) = true := by decide +kernel
set_option maxRecDepth 100000 in
theorem m_dc89 : m_c89.all (fun q => decide (decode cX6_remember q.1 = .ok q.2)) = true := by decide +kernel
set_option maxRecDepth 100000 in
theorem m_dc90 : m_c90.all (fun q => decide (decode cX6_whyNot q.1 = .ok q.2)) = true := by decide +kernel
set_option maxRecDepth 100000 in
theorem m_dc91 : m_c91.all (fun q => decide (decode cX6_meetsNeighbours q.1 = .ok q.2)) = true := by decide +kernel
set_option maxRecDepth 100000 in
theorem m_dc92 : m_c92.all (fun q => decide (decode cX6_keepsRim q.1 = .ok q.2)) = true := by decide +kernel
set_option maxRecDepth 100000 in
theorem m_dc93 : m_c93.all (fun q => decide (decode cX6_quiltsOf q.1 = .ok q.2)) = true := by decide +kernel
set_option maxRecDepth 100000 in
theorem m_dc94 : m_c94.all (fun q => decide (decode cX6_sameWithAnotherAt q.1 = .ok q.2)) = true := by decide +kernel
set_option maxRecDepth 100000 in
theorem m_dc95 : m_c95.all (fun q => decide (decode cX6_bitAt q.1 = .ok q.2)) = true := by decide +kernel
set_option maxRecDepth 100000 in
theorem m_dc96 : m_c96.all (fun q => decide (decode cX6_opposite q.1 = .ok q.2)) = true := by decide +kernel
set_option maxRecDepth 100000 in
theorem m_dc97 : m_c97.all (fun q => decide (decode cX7_in q.1 = .ok q.2)) = true := by decide +kernel
set_option maxRecDepth 100000 in
theorem m_dc98 : m_c98.all (fun q => decide (decode cX7_init q.1 = .ok q.2)) = true := by decide +kernel
set_option maxRecDepth 100000 in
theorem m_dc99 : m_c99.all (fun q => decide (decode cX7_begins q.1 = .ok q.2)) = true := by decide +kernel
set_option maxRecDepth 100000 in
theorem m_dc100 : m_c100.all (fun q => decide (decode cX7_becomes q.1 = .ok q.2)) = true := by decide +kernel
set_option maxRecDepth 100000 in
theorem m_dc101 : m_c101.all (fun q => decide (decode cX7_type q.1 = .ok q.2)) = true := by decide +kernel
set_option maxRecDepth 100000 in
theorem m_dc102 : m_c102.all (fun q => decide (decode cX7_clear q.1 = .ok q.2)) = true := by decide +kernel
set_option maxRecDepth 100000 in
theorem m_dc103 : m_c103.all (fun q => decide (decode cX7_here q.1 = .ok q.2)) = true := by decide +kernel
set_option maxRecDepth 100000 in
theorem m_dc104 : m_c104.all (fun q => decide (decode cX7_reads q.1 = .ok q.2)) = true := by decide +kernel
set_option maxRecDepth 100000 in
theorem m_dc105 : m_c105.all (fun q => decide (decode cX7_readsKind q.1 = .ok q.2)) = true := by decide +kernel
set_option maxRecDepth 100000 in
theorem m_dc106 : m_c106.all (fun q => decide (decode cX7_readsOnce q.1 = .ok q.2)) = true := by decide +kernel
set_option maxRecDepth 100000 in
theorem m_dc107 : m_c107.all (fun q => decide (decode cX7_item q.1 = .ok q.2)) = true := by decide +kernel
set_option maxRecDepth 100000 in
theorem m_dc108 : m_c108.all (fun q => decide (decode cX7_tells q.1 = .ok q.2)) = true := by decide +kernel
set_option maxRecDepth 100000 in
theorem m_dc109 : m_c109.all (fun q => decide (decode cX7_isKind q.1 = .ok q.2)) = true := by decide +kernel
set_option maxRecDepth 100000 in
theorem m_dc110 : m_c110.all (fun q => decide (decode cX7_isBlock q.1 = .ok q.2)) = true := by decide +kernel
set_option maxRecDepth 100000 in
theorem m_dc111 : m_c111.all (fun q => decide (decode cX7_squares q.1 = .ok q.2)) = true := by decide +kernel
set_option maxRecDepth 100000 in
theorem m_dc112 : m_c112.all (fun q => decide (decode cX7_isSquare q.1 = .ok q.2)) = true := by decide +kernel
set_option maxRecDepth 100000 in
theorem m_dc113 : m_c113.all (fun q => decide (decode cX7_edge q.1 = .ok q.2)) = true := by decide +kernel
set_option maxRecDepth 100000 in
theorem m_dc114 : m_c114.all (fun q => decide (decode cX7_isPlain q.1 = .ok q.2)) = true := by decide +kernel
set_option maxRecDepth 100000 in
theorem m_dc115 : m_c115.all (fun q => decide (decode cX7_hueOf q.1 = .ok q.2)) = true := by decide +kernel
set_option maxRecDepth 100000 in
theorem m_dc116 : m_c116.all (fun q => decide (decode cX7_tries q.1 = .ok q.2)) = true := by decide +kernel
set_option maxRecDepth 100000 in
theorem m_dc117 : m_c117.all (fun q => decide (decode cX7_leftOf q.1 = .ok q.2)) = true := by decide +kernel
set_option maxRecDepth 100000 in
theorem m_dc118 : m_c118.all (fun q => decide (decode cX7_ofHue q.1 = .ok q.2)) = true := by decide +kernel
set_option maxRecDepth 100000 in
theorem m_dc119 : m_c119.all (fun q => decide (decode cX7_beside q.1 = .ok q.2)) = true := by decide +kernel
set_option maxRecDepth 100000 in
theorem m_dc120 : m_c120.all (fun q => decide (decode cX7_whyNot q.1 = .ok q.2)) = true := by decide +kernel
set_option maxRecDepth 100000 in
theorem m_dc121 : m_c121.all (fun q => decide (decode cX7_kind q.1 = .ok q.2)) = true := by decide +kernel
set_option maxRecDepth 100000 in
theorem m_dc122 : m_c122.all (fun q => decide (decode cX7_block q.1 = .ok q.2)) = true := by decide +kernel
set_option maxRecDepth 100000 in
theorem m_dc123 : m_c123.all (fun q => decide (decode cX7_open q.1 = .ok q.2)) = true := by decide +kernel
set_option maxRecDepth 100000 in
theorem m_dc124 : m_c124.all (fun q => decide (decode cX7_notes q.1 = .ok q.2)) = true := by decide +kernel
set_option maxRecDepth 100000 in
theorem m_dc125 : m_c125.all (fun q => decide (decode cX7_lays q.1 = .ok q.2)) = true := by decide +kernel
set_option maxRecDepth 100000 in
theorem m_dc126 : m_c126.all (fun q => decide (decode cX7_takes q.1 = .ok q.2)) = true := by decide +kernel
set_option maxRecDepth 100000 in
theorem m_dc127 : m_c127.all (fun q => decide (decode cX7_buys q.1 = .ok q.2)) = true := by decide +kernel
set_option maxRecDepth 100000 in
theorem m_dc128 : m_c128.all (fun q => decide (decode cX7_clears q.1 = .ok q.2)) = true := by decide +kernel
set_option maxRecDepth 100000 in
theorem m_dc129 : m_c129.all (fun q => decide (decode cX7_undo q.1 = .ok q.2)) = true := by decide +kernel
set_option maxRecDepth 100000 in
theorem m_dc130 : m_c130.all (fun q => decide (decode cX7_square q.1 = .ok q.2)) = true := by decide +kernel
set_option maxRecDepth 100000 in
theorem m_dc131 : m_c131.all (fun q => decide (decode cX7_fits q.1 = .ok q.2)) = true := by decide +kernel
set_option maxRecDepth 100000 in
theorem m_dc132 : m_c132.all (fun q => decide (decode cX7_has q.1 = .ok q.2)) = true := by decide +kernel
set_option maxRecDepth 100000 in
theorem m_dc133 : m_c133.all (fun q => decide (decode cX7_stays q.1 = .ok q.2)) = true := by decide +kernel
set_option maxRecDepth 100000 in
theorem m_dc134 : m_c134.all (fun q => decide (decode cX7_winnows q.1 = .ok q.2)) = true := by decide +kernel
set_option maxRecDepth 100000 in
theorem m_dc135 : m_c135.all (fun q => decide (decode cX7_ones q.1 = .ok q.2)) = true := by decide +kernel
set_option maxRecDepth 100000 in
theorem m_dc136 : m_c136.all (fun q => decide (decode cX7_left q.1 = .ok q.2)) = true := by decide +kernel
set_option maxRecDepth 100000 in
theorem m_dc137 : m_c137.all (fun q => decide (decode cX7_hueAt q.1 = .ok q.2)) = true := by decide +kernel
set_option maxRecDepth 100000 in
theorem m_dc138 : m_c138.all (fun q => decide (decode cX7_hue q.1 = .ok q.2)) = true := by decide +kernel
set_option maxRecDepth 100000 in
theorem m_dc139 : m_c139.all (fun q => decide (decode cX7_startsQuilts q.1 = .ok q.2)) = true := by decide +kernel
set_option maxRecDepth 100000 in
theorem m_dc140 : m_c140.all (fun q => decide (decode cX7_canBe q.1 = .ok q.2)) = true := by decide +kernel
set_option maxRecDepth 100000 in
theorem m_dc141 : m_c141.all (fun q => decide (decode cX7_nextQuilt q.1 = .ok q.2)) = true := by decide +kernel
set_option maxRecDepth 100000 in
theorem m_dc142 : m_c142.all (fun q => decide (decode cX7_many q.1 = .ok q.2)) = true := by decide +kernel
set_option maxRecDepth 100000 in
theorem m_dc143 : m_c143.all (fun q => decide (decode cX7_quilt q.1 = .ok q.2)) = true := by decide +kernel
set_option maxRecDepth 100000 in
theorem m_dc144 : m_c144.all (fun q => decide (decode cX7_sure q.1 = .ok q.2)) = true := by decide +kernel
set_option maxRecDepth 100000 in
theorem m_dc145 : m_c145.all (fun q => decide (decode cX7_next q.1 = .ok q.2)) = true := by decide +kernel
set_option maxRecDepth 100000 in
theorem m_dc146 : m_c146.all (fun q => decide (decode cX7_wanting q.1 = .ok q.2)) = true := by decide +kernel
set_option maxRecDepth 100000 in
theorem m_dc147 : m_c147.all (fun q => decide (decode cX7_side q.1 = .ok q.2)) = true := by decide +kernel
set_option maxRecDepth 100000 in
theorem m_dc148 : m_c148.all (fun q => decide (decode cX7_pieceOf q.1 = .ok q.2)) = true := by decide +kernel
set_option maxRecDepth 100000 in
theorem m_dc149 : m_c149.all (fun q => decide (decode cX7_laysCut q.1 = .ok q.2)) = true := by decide +kernel
set_option maxRecDepth 100000 in
theorem m_dc150 : m_c150.all (fun q => decide (decode cX7_laysRectangle q.1 = .ok q.2)) = true := by decide +kernel
set_option maxRecDepth 100000 in
theorem m_dc151 : m_c151.all (fun q => decide (decode cX7_laysCloth q.1 = .ok q.2)) = true := by decide +kernel
set_option maxRecDepth 100000 in
theorem m_dc152 : m_c152.all (fun q => decide (decode cX7_isCloth q.1 = .ok q.2)) = true := by decide +kernel
set_option maxRecDepth 100000 in
theorem m_dc153 : m_c153.all (fun q => decide (decode cX7_piece q.1 = .ok q.2)) = true := by decide +kernel
set_option maxRecDepth 100000 in
theorem m_dc154 : m_c154.all (fun q => decide (decode cX7_good q.1 = .ok q.2)) = true := by decide +kernel
set_option maxRecDepth 100000 in
theorem m_dc155 : m_c155.all (fun q => decide (decode cX7_cut q.1 = .ok q.2)) = true := by decide +kernel
set_option maxRecDepth 100000 in
theorem m_dc156 : m_c156.all (fun q => decide (decode cX7_made q.1 = .ok q.2)) = true := by decide +kernel
set_option maxRecDepth 100000 in
theorem m_dc157 : m_c157.all (fun q => decide (decode cX7_keep q.1 = .ok q.2)) = true := by decide +kernel
set_option maxRecDepth 100000 in
theorem m_dc158 : m_c158.all (fun q => decide (decode cX7_back q.1 = .ok q.2)) = true := by decide +kernel
set_option maxRecDepth 100000 in
theorem m_dc159 : m_c159.all (fun q => decide (decode cX7_hues q.1 = .ok q.2)) = true := by decide +kernel
set_option maxRecDepth 100000 in
theorem m_dc160 : m_c160.all (fun q => decide (decode cX7_count q.1 = .ok q.2)) = true := by decide +kernel
set_option maxRecDepth 100000 in
theorem m_dc161 : m_c161.all (fun q => decide (decode cJ7_fill_53178 q.1 = .ok q.2)) = true := by decide +kernel
set_option maxRecDepth 100000 in
theorem m_dc162 : m_c162.all (fun q => decide (decode cJ6_bitCount_0f7a4 q.1 = .ok q.2)) = true := by decide +kernel
theorem m_dcs (y : Nat) : (m_cs.getD y []).all (fun q => decide (decode (m_by y) q.1 = .ok q.2)) = true := match y with
  | 0 => m_dc0
  | 1 => m_dc1
  | 2 => m_dc2
  | 3 => m_dc3
  | 4 => m_dc4
  | 5 => m_dc5
  | 6 => m_dc6
  | 7 => m_dc7
  | 8 => m_dc8
  | 9 => m_dc9
  | 10 => m_dc10
  | 11 => m_dc11
  | 12 => m_dc12
  | 13 => m_dc13
  | 14 => m_dc14
  | 15 => m_dc15
  | 16 => m_dc16
  | 17 => m_dc17
  | 18 => m_dc18
  | 19 => m_dc19
  | 20 => m_dc20
  | 21 => m_dc21
  | 22 => m_dc22
  | 23 => m_dc23
  | 24 => m_dc24
  | 25 => m_dc25
  | 26 => m_dc26
  | 27 => m_dc27
  | 28 => m_dc28
  | 29 => m_dc29
  | 30 => m_dc30
  | 31 => m_dc31
  | 32 => m_dc32
  | 33 => m_dc33
  | 34 => m_dc34
  | 35 => m_dc35
  | 36 => m_dc36
  | 37 => m_dc37
  | 38 => m_dc38
  | 39 => m_dc39
  | 40 => m_dc40
  | 41 => m_dc41
  | 42 => m_dc42
  | 43 => m_dc43
  | 44 => m_dc44
  | 45 => m_dc45
  | 46 => m_dc46
  | 47 => m_dc47
  | 48 => m_dc48
  | 49 => m_dc49
  | 50 => m_dc50
  | 51 => m_dc51
  | 52 => m_dc52
  | 53 => m_dc53
  | 54 => m_dc54
  | 55 => m_dc55
  | 56 => m_dc56
  | 57 => m_dc57
  | 58 => m_dc58
  | 59 => m_dc59
  | 60 => m_dc60
  | 61 => m_dc61
  | 62 => m_dc62
  | 63 => m_dc63
  | 64 => m_dc64
  | 65 => m_dc65
  | 66 => m_dc66
  | 67 => m_dc67
  | 68 => m_dc68
  | 69 => m_dc69
  | 70 => m_dc70
  | 71 => m_dc71
  | 72 => m_dc72
  | 73 => m_dc73
  | 74 => m_dc74
  | 75 => m_dc75
  | 76 => m_dc76
  | 77 => m_dc77
  | 78 => m_dc78
  | 79 => m_dc79
  | 80 => m_dc80
  | 81 => m_dc81
  | 82 => m_dc82
  | 83 => m_dc83
  | 84 => m_dc84
  | 85 => m_dc85
  | 86 => m_dc86
  | 87 => m_dc87
  | 88 => m_dc88
  | 89 => m_dc89
  | 90 => m_dc90
  | 91 => m_dc91
  | 92 => m_dc92
  | 93 => m_dc93
  | 94 => m_dc94
  | 95 => m_dc95
  | 96 => m_dc96
  | 97 => m_dc97
  | 98 => m_dc98
  | 99 => m_dc99
  | 100 => m_dc100
  | 101 => m_dc101
  | 102 => m_dc102
  | 103 => m_dc103
  | 104 => m_dc104
  | 105 => m_dc105
  | 106 => m_dc106
  | 107 => m_dc107
  | 108 => m_dc108
  | 109 => m_dc109
  | 110 => m_dc110
  | 111 => m_dc111
  | 112 => m_dc112
  | 113 => m_dc113
  | 114 => m_dc114
  | 115 => m_dc115
  | 116 => m_dc116
  | 117 => m_dc117
  | 118 => m_dc118
  | 119 => m_dc119
  | 120 => m_dc120
  | 121 => m_dc121
  | 122 => m_dc122
  | 123 => m_dc123
  | 124 => m_dc124
  | 125 => m_dc125
  | 126 => m_dc126
  | 127 => m_dc127
  | 128 => m_dc128
  | 129 => m_dc129
  | 130 => m_dc130
  | 131 => m_dc131
  | 132 => m_dc132
  | 133 => m_dc133
  | 134 => m_dc134
  | 135 => m_dc135
  | 136 => m_dc136
  | 137 => m_dc137
  | 138 => m_dc138
  | 139 => m_dc139
  | 140 => m_dc140
  | 141 => m_dc141
  | 142 => m_dc142
  | 143 => m_dc143
  | 144 => m_dc144
  | 145 => m_dc145
  | 146 => m_dc146
  | 147 => m_dc147
  | 148 => m_dc148
  | 149 => m_dc149
  | 150 => m_dc150
  | 151 => m_dc151
  | 152 => m_dc152
  | 153 => m_dc153
  | 154 => m_dc154
  | 155 => m_dc155
  | 156 => m_dc156
  | 157 => m_dc157
  | 158 => m_dc158
  | 159 => m_dc159
  | 160 => m_dc160
  | 161 => m_dc161
  | 162 => m_dc162
  | _ + 163 => rfl
theorem m_dec {y pc : Nat} {i : Instr} {len : Nat} (h : m_get y pc = some (i, len)) : decode (m_by y) pc = .ok (i, len) := by
  unfold m_get at h
  cases hf : (m_cs.getD y []).find? (fun q => q.1 == pc) with
  | none => rw [hf] at h; cases h
  | some q =>
    rw [hf] at h
    have h1 := List.all_eq_true.mp (m_dcs y) q (List.mem_of_find?_eq_some hf)
    have h2 : (q.1 == pc) = true := by simpa using List.find?_some hf
    have h3 : q.1 = pc := by simpa using h2
    have h4 : q.2 = (i, len) := Option.some.inj h
    have h5 : decode (m_by y) q.1 = .ok q.2 := of_decide_eq_true h1
    rw [h3, h4] at h5
    exact h5
