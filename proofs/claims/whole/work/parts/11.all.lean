/-! every method -/
set_option maxRecDepth 100000 in
set_option maxHeartbeats 4000000 in
theorem zML_ok : ∀ me ∈ zML, zmok zML me := by
  intro me h
  unfold zML at h
  rcases List.mem_cons.mp h with rfl | h
  · exact kX8_init
  rcases List.mem_cons.mp h with rfl | h
  · exact kX1_init
  rcases List.mem_cons.mp h with rfl | h
  · exact kX0_init
  rcases List.mem_cons.mp h with rfl | h
  · exact kX2_init
  rcases List.mem_cons.mp h with rfl | h
  · exact kX3_init
  rcases List.mem_cons.mp h with rfl | h
  · exact kX6_init
  rcases List.mem_cons.mp h with rfl | h
  · exact kX4_init
  rcases List.mem_cons.mp h with rfl | h
  · exact kX10_init
  rcases List.mem_cons.mp h with rfl | h
  · exact kX5_init
  rcases List.mem_cons.mp h with rfl | h
  · exact kX7_init
  rcases List.mem_cons.mp h with rfl | h
  · exact kX11_init
  rcases List.mem_cons.mp h with rfl | h
  · exact kX12_init
  rcases List.mem_cons.mp h with rfl | h
  · exact kX11_within
  rcases List.mem_cons.mp h with rfl | h
  · exact kX6_addModel
  rcases List.mem_cons.mp h with rfl | h
  · exact kX11_model
  rcases List.mem_cons.mp h with rfl | h
  · exact kX12_isIn
  rcases List.mem_cons.mp h with rfl | h
  · exact kX12_modelAt
  rcases List.mem_cons.mp h with rfl | h
  · exact kX12_model
  rcases List.mem_cons.mp h with rfl | h
  · exact kX11_isModel
  rcases List.mem_cons.mp h with rfl | h
  · exact kJ9_max_7cf53
  rcases List.mem_cons.mp h with rfl | h
  · exact kX2_askedOn
  rcases List.mem_cons.mp h with rfl | h
  · exact kX11_asked
  rcases List.mem_cons.mp h with rfl | h
  · exact kX12_isModel
  rcases List.mem_cons.mp h with rfl | h
  · exact kX12_askedFor
  rcases List.mem_cons.mp h with rfl | h
  · exact kX12_asked
  rcases List.mem_cons.mp h with rfl | h
  · exact kX11_common
  rcases List.mem_cons.mp h with rfl | h
  · exact kX12_becomes
  rcases List.mem_cons.mp h with rfl | h
  · exact kX12_common
  rcases List.mem_cons.mp h with rfl | h
  · exact kX11_isSort
  rcases List.mem_cons.mp h with rfl | h
  · exact kX8_cell
  rcases List.mem_cons.mp h with rfl | h
  · exact kX8_setTo
  rcases List.mem_cons.mp h with rfl | h
  · exact kX11_stock
  rcases List.mem_cons.mp h with rfl | h
  · exact kX12_isStock
  rcases List.mem_cons.mp h with rfl | h
  · exact kX12_stockAt
  rcases List.mem_cons.mp h with rfl | h
  · exact kX12_stock
  rcases List.mem_cons.mp h with rfl | h
  · exact kX8_of
  rcases List.mem_cons.mp h with rfl | h
  · exact kX11_has
  rcases List.mem_cons.mp h with rfl | h
  · exact kX12_has
  rcases List.mem_cons.mp h with rfl | h
  · exact kX11_isKind
  rcases List.mem_cons.mp h with rfl | h
  · exact kX3_comeIn
  rcases List.mem_cons.mp h with rfl | h
  · exact kX6_addPhone
  rcases List.mem_cons.mp h with rfl | h
  · exact kX11_phone
  rcases List.mem_cons.mp h with rfl | h
  · exact kX12_phoneAt
  rcases List.mem_cons.mp h with rfl | h
  · exact kX12_phone
  rcases List.mem_cons.mp h with rfl | h
  · exact kX11_isPhone
  rcases List.mem_cons.mp h with rfl | h
  · exact kX3_lacks
  rcases List.mem_cons.mp h with rfl | h
  · exact kJ6_bitCount_0f7a4
  rcases List.mem_cons.mp h with rfl | h
  · exact kX3_droppedHarm
  rcases List.mem_cons.mp h with rfl | h
  · exact kX3_harm
  rcases List.mem_cons.mp h with rfl | h
  · exact kX3_span
  rcases List.mem_cons.mp h with rfl | h
  · exact kX3_fresh
  rcases List.mem_cons.mp h with rfl | h
  · exact kX6_worthWith
  rcases List.mem_cons.mp h with rfl | h
  · exact kX6_worth
  rcases List.mem_cons.mp h with rfl | h
  · exact kX10_tightness
  rcases List.mem_cons.mp h with rfl | h
  · exact kX1_isBinary
  rcases List.mem_cons.mp h with rfl | h
  · exact kX1_join
  rcases List.mem_cons.mp h with rfl | h
  · exact kX1_named
  rcases List.mem_cons.mp h with rfl | h
  · exact kX1_worksOut
  rcases List.mem_cons.mp h with rfl | h
  · exact kX1_gives
  rcases List.mem_cons.mp h with rfl | h
  · exact kX6_isForeseen
  rcases List.mem_cons.mp h with rfl | h
  · exact kX3_fact
  rcases List.mem_cons.mp h with rfl | h
  · exact kX11_told
  rcases List.mem_cons.mp h with rfl | h
  · exact kX12_isPhone
  rcases List.mem_cons.mp h with rfl | h
  · exact kX12_ones
  rcases List.mem_cons.mp h with rfl | h
  · exact kX12_harmOf
  rcases List.mem_cons.mp h with rfl | h
  · exact kX12_harm
  rcases List.mem_cons.mp h with rfl | h
  · exact kX12_span
  rcases List.mem_cons.mp h with rfl | h
  · exact kX12_freshOf
  rcases List.mem_cons.mp h with rfl | h
  · exact kX12_worthWith
  rcases List.mem_cons.mp h with rfl | h
  · exact kX12_worth
  rcases List.mem_cons.mp h with rfl | h
  · exact kX12_orNone
  rcases List.mem_cons.mp h with rfl | h
  · exact kX12_textAt
  rcases List.mem_cons.mp h with rfl | h
  · exact kX12_counts
  rcases List.mem_cons.mp h with rfl | h
  · exact kX12_joined
  rcases List.mem_cons.mp h with rfl | h
  · exact kX12_worked
  rcases List.mem_cons.mp h with rfl | h
  · exact kX12_isForeseen
  rcases List.mem_cons.mp h with rfl | h
  · exact kX12_told
  rcases List.mem_cons.mp h with rfl | h
  · exact kX3_isOf
  rcases List.mem_cons.mp h with rfl | h
  · exact kX11_as
  rcases List.mem_cons.mp h with rfl | h
  · exact kX12_isOf
  rcases List.mem_cons.mp h with rfl | h
  · exact kX12_as
  rcases List.mem_cons.mp h with rfl | h
  · exact kX11_turns
  rcases List.mem_cons.mp h with rfl | h
  · exact kX12_turns
  rcases List.mem_cons.mp h with rfl | h
  · exact kX11_flag
  rcases List.mem_cons.mp h with rfl | h
  · exact kX12_flag
  rcases List.mem_cons.mp h with rfl | h
  · exact kX11_promise
  rcases List.mem_cons.mp h with rfl | h
  · exact kX12_promise
  rcases List.mem_cons.mp h with rfl | h
  · exact kX8_takeEach
  rcases List.mem_cons.mp h with rfl | h
  · exact kX6_mendAt
  rcases List.mem_cons.mp h with rfl | h
  · exact kX11_mend
  rcases List.mem_cons.mp h with rfl | h
  · exact kX12_takesShelf
  rcases List.mem_cons.mp h with rfl | h
  · exact kX12_isAt
  rcases List.mem_cons.mp h with rfl | h
  · exact kX12_takesParts
  rcases List.mem_cons.mp h with rfl | h
  · exact kX12_mend
  rcases List.mem_cons.mp h with rfl | h
  · exact kJ9_min_7cf53
  rcases List.mem_cons.mp h with rfl | h
  · exact kX6_scrapOf
  rcases List.mem_cons.mp h with rfl | h
  · exact kX8_addUpTo
  rcases List.mem_cons.mp h with rfl | h
  · exact kX8_addEach
  rcases List.mem_cons.mp h with rfl | h
  · exact kX6_stripDown
  rcases List.mem_cons.mp h with rfl | h
  · exact kX11_strip
  rcases List.mem_cons.mp h with rfl | h
  · exact kX12_comesTo
  rcases List.mem_cons.mp h with rfl | h
  · exact kX12_givesParts
  rcases List.mem_cons.mp h with rfl | h
  · exact kX12_scrap
  rcases List.mem_cons.mp h with rfl | h
  · exact kX12_strip
  rcases List.mem_cons.mp h with rfl | h
  · exact kX6_sellToday
  rcases List.mem_cons.mp h with rfl | h
  · exact kX11_sell
  rcases List.mem_cons.mp h with rfl | h
  · exact kX12_maySell
  rcases List.mem_cons.mp h with rfl | h
  · exact kX12_sell
  rcases List.mem_cons.mp h with rfl | h
  · exact kX3_isInOrMended
  rcases List.mem_cons.mp h with rfl | h
  · exact kX11_hold
  rcases List.mem_cons.mp h with rfl | h
  · exact kX12_hold
  rcases List.mem_cons.mp h with rfl | h
  · exact kX6_isChosen
  rcases List.mem_cons.mp h with rfl | h
  · exact kX11_choose
  rcases List.mem_cons.mp h with rfl | h
  · exact kX12_choose
  rcases List.mem_cons.mp h with rfl | h
  · exact kX11_clear
  rcases List.mem_cons.mp h with rfl | h
  · exact kX12_clear
  rcases List.mem_cons.mp h with rfl | h
  · exact kX4_spellOut
  rcases List.mem_cons.mp h with rfl | h
  · exact kX4_gainOf
  rcases List.mem_cons.mp h with rfl | h
  · exact kX4_isFit
  rcases List.mem_cons.mp h with rfl | h
  · exact kX8_become
  rcases List.mem_cons.mp h with rfl | h
  · exact kX4_hasParts
  rcases List.mem_cons.mp h with rfl | h
  · exact kX4_findPlan
  rcases List.mem_cons.mp h with rfl | h
  · exact kX11_plan
  rcases List.mem_cons.mp h with rfl | h
  · exact kX12_goesBy
  rcases List.mem_cons.mp h with rfl | h
  · exact kX12_findPlan
  rcases List.mem_cons.mp h with rfl | h
  · exact kX12_plan
  rcases List.mem_cons.mp h with rfl | h
  · exact kX4_latenessOf
  rcases List.mem_cons.mp h with rfl | h
  · exact kX4_swap
  rcases List.mem_cons.mp h with rfl | h
  · exact kX4_nextOrder
  rcases List.mem_cons.mp h with rfl | h
  · exact kX4_findOrder
  rcases List.mem_cons.mp h with rfl | h
  · exact kX11_noon
  rcases List.mem_cons.mp h with rfl | h
  · exact kX12_orders
  rcases List.mem_cons.mp h with rfl | h
  · exact kX12_noon
  rcases List.mem_cons.mp h with rfl | h
  · exact kX10_takeBytes
  rcases List.mem_cons.mp h with rfl | h
  · exact kX11_feed
  rcases List.mem_cons.mp h with rfl | h
  · exact kX12_feed
  rcases List.mem_cons.mp h with rfl | h
  · exact kX11_trim
  rcases List.mem_cons.mp h with rfl | h
  · exact kX12_trim
  rcases List.mem_cons.mp h with rfl | h
  · exact kX10_startAnew
  rcases List.mem_cons.mp h with rfl | h
  · exact kX10_shapeOf
  rcases List.mem_cons.mp h with rfl | h
  · exact kX10_goOn
  rcases List.mem_cons.mp h with rfl | h
  · exact kJ0_coder_7d493
  rcases List.mem_cons.mp h with rfl | h
  · exact kJ0_length_8abf5
  rcases List.mem_cons.mp h with rfl | h
  · exact kJ0_isLatin1_aae02
  rcases List.mem_cons.mp h with rfl | h
  · exact kJ3_checkIndex_8e157
  rcases List.mem_cons.mp h with rfl | h
  · exact kJ0_checkIndex_df160
  rcases List.mem_cons.mp h with rfl | h
  · exact kJ1_charAt_3b067
  rcases List.mem_cons.mp h with rfl | h
  · exact kJ0_charAt_5068e
  rcases List.mem_cons.mp h with rfl | h
  · exact kX10_isWord
  rcases List.mem_cons.mp h with rfl | h
  · exact kX10_keyHere
  rcases List.mem_cons.mp h with rfl | h
  · exact kX10_addStep
  rcases List.mem_cons.mp h with rfl | h
  · exact kX10_endPiece
  rcases List.mem_cons.mp h with rfl | h
  · exact kX10_takeLeaf
  rcases List.mem_cons.mp h with rfl | h
  · exact kX10_takesNumber
  rcases List.mem_cons.mp h with rfl | h
  · exact kJ1_canEncode_9a6ad
  rcases List.mem_cons.mp h with rfl | h
  · exact kJ1_indexOfChar_4cfef
  rcases List.mem_cons.mp h with rfl | h
  · exact kJ1_indexOf_4cfef
  rcases List.mem_cons.mp h with rfl | h
  · exact kJ0_indexOf_7cf53
  rcases List.mem_cons.mp h with rfl | h
  · exact kJ0_indexOf_0f7a4
  rcases List.mem_cons.mp h with rfl | h
  · exact kX10_isNameHere
  rcases List.mem_cons.mp h with rfl | h
  · exact kX10_takesName
  rcases List.mem_cons.mp h with rfl | h
  · exact kX10_push
  rcases List.mem_cons.mp h with rfl | h
  · exact kX10_takesBracket
  rcases List.mem_cons.mp h with rfl | h
  · exact kX10_takesNot
  rcases List.mem_cons.mp h with rfl | h
  · exact kX10_takesPiece
  rcases List.mem_cons.mp h with rfl | h
  · exact kX10_unpile
  rcases List.mem_cons.mp h with rfl | h
  · exact kX10_closesBracket
  rcases List.mem_cons.mp h with rfl | h
  · exact kX10_takesSign
  rcases List.mem_cons.mp h with rfl | h
  · exact kX10_readTape
  rcases List.mem_cons.mp h with rfl | h
  · exact kX9_init
  rcases List.mem_cons.mp h with rfl | h
  · exact kX10_textRead
  rcases List.mem_cons.mp h with rfl | h
  · exact kX1_addText
  rcases List.mem_cons.mp h with rfl | h
  · exact kX11_text
  rcases List.mem_cons.mp h with rfl | h
  · exact kX12_isLetter
  rcases List.mem_cons.mp h with rfl | h
  · exact kX12_isDigit
  rcases List.mem_cons.mp h with rfl | h
  · exact kX12_nextToken
  rcases List.mem_cons.mp h with rfl | h
  · exact kX12_isWordAt
  rcases List.mem_cons.mp h with rfl | h
  · exact kX12_isLong
  rcases List.mem_cons.mp h with rfl | h
  · exact kX12_key
  rcases List.mem_cons.mp h with rfl | h
  · exact kX12_step
  rcases List.mem_cons.mp h with rfl | h
  · exact kX12_isName
  rcases List.mem_cons.mp h with rfl | h
  · exact kX12_isSign
  rcases List.mem_cons.mp h with rfl | h
  · exact kX12_part0
  rcases List.mem_cons.mp h with rfl | h
  · exact kX12_term
  rcases List.mem_cons.mp h with rfl | h
  · exact kX12_sum
  rcases List.mem_cons.mp h with rfl | h
  · exact kX12_test
  rcases List.mem_cons.mp h with rfl | h
  · exact kX12_both
  rcases List.mem_cons.mp h with rfl | h
  · exact kX12_either
  rcases List.mem_cons.mp h with rfl | h
  · exact kX12_parse
  rcases List.mem_cons.mp h with rfl | h
  · exact kX12_text
  rcases List.mem_cons.mp h with rfl | h
  · exact kX11_textTold
  rcases List.mem_cons.mp h with rfl | h
  · exact kX12_isText
  rcases List.mem_cons.mp h with rfl | h
  · exact kX12_textTold
  rcases List.mem_cons.mp h with rfl | h
  · exact kX11_why
  rcases List.mem_cons.mp h with rfl | h
  · exact kX12_why
  rcases List.mem_cons.mp h with rfl | h
  · exact kX11_weigh
  rcases List.mem_cons.mp h with rfl | h
  · exact kX12_weigh
  rcases List.mem_cons.mp h with rfl | h
  · exact kX11_check
  rcases List.mem_cons.mp h with rfl | h
  · exact kX12_check
  rcases List.mem_cons.mp h with rfl | h
  · exact kX11_says
  rcases List.mem_cons.mp h with rfl | h
  · exact kX12_says
  rcases List.mem_cons.mp h with rfl | h
  · exact kX11_anew
  rcases List.mem_cons.mp h with rfl | h
  · exact kX12_anew
  rcases List.mem_cons.mp h with rfl | h
  · exact kX0_weightOf
  rcases List.mem_cons.mp h with rfl | h
  · exact kX0_mostTelling
  rcases List.mem_cons.mp h with rfl | h
  · exact kX11_next
  rcases List.mem_cons.mp h with rfl | h
  · exact kX12_weightOf
  rcases List.mem_cons.mp h with rfl | h
  · exact kX12_next
  rcases List.mem_cons.mp h with rfl | h
  · exact kX0_fewestOf
  rcases List.mem_cons.mp h with rfl | h
  · exact kX0_fewestChecks
  rcases List.mem_cons.mp h with rfl | h
  · exact kX11_deep
  rcases List.mem_cons.mp h with rfl | h
  · exact kX12_deep
  rcases List.mem_cons.mp h with rfl | h
  · exact kX6_drawn
  rcases List.mem_cons.mp h with rfl | h
  · exact kX6_passDay
  rcases List.mem_cons.mp h with rfl | h
  · exact kX11_run
  rcases List.mem_cons.mp h with rfl | h
  · exact kX12_drawn
  rcases List.mem_cons.mp h with rfl | h
  · exact kX12_oneDay
  rcases List.mem_cons.mp h with rfl | h
  · exact kX12_run
  rcases List.mem_cons.mp h with rfl | h
  · exact kX6_returnedOf
  rcases List.mem_cons.mp h with rfl | h
  · exact kX6_rateOf
  rcases List.mem_cons.mp h with rfl | h
  · exact kX11_rate
  rcases List.mem_cons.mp h with rfl | h
  · exact kX12_rateOf
  rcases List.mem_cons.mp h with rfl | h
  · exact kX12_rate
  rcases List.mem_cons.mp h with rfl | h
  · exact kX11_blamed
  rcases List.mem_cons.mp h with rfl | h
  · exact kX12_blamed
  rcases List.mem_cons.mp h with rfl | h
  · exact kX11_seed
  rcases List.mem_cons.mp h with rfl | h
  · exact kX12_seed
  rcases List.mem_cons.mp h with rfl | h
  · exact kX11_isSheet
  rcases List.mem_cons.mp h with rfl | h
  · exact kX5_layOut
  rcases List.mem_cons.mp h with rfl | h
  · exact kX11_sheet
  rcases List.mem_cons.mp h with rfl | h
  · exact kX12_isSheet
  rcases List.mem_cons.mp h with rfl | h
  · exact kX12_sheet
  rcases List.mem_cons.mp h with rfl | h
  · exact kX11_mark
  rcases List.mem_cons.mp h with rfl | h
  · exact kX12_mark
  rcases List.mem_cons.mp h with rfl | h
  · exact kX11_path
  rcases List.mem_cons.mp h with rfl | h
  · exact kX12_path
  rcases List.mem_cons.mp h with rfl | h
  · exact kX11_fill
  rcases List.mem_cons.mp h with rfl | h
  · exact kX12_fill
  rcases List.mem_cons.mp h with rfl | h
  · exact kX5_hasRange
  rcases List.mem_cons.mp h with rfl | h
  · exact kX11_copy
  rcases List.mem_cons.mp h with rfl | h
  · exact kX12_copy
  rcases List.mem_cons.mp h with rfl | h
  · exact kX11_isSlot
  rcases List.mem_cons.mp h with rfl | h
  · exact kX11_isThing
  rcases List.mem_cons.mp h with rfl | h
  · exact kX3_become
  rcases List.mem_cons.mp h with rfl | h
  · exact kX5_become
  rcases List.mem_cons.mp h with rfl | h
  · exact kX11_lay
  rcases List.mem_cons.mp h with rfl | h
  · exact kX12_isSlot
  rcases List.mem_cons.mp h with rfl | h
  · exact kX12_lay
  rcases List.mem_cons.mp h with rfl | h
  · exact kX11_slotFinding
  rcases List.mem_cons.mp h with rfl | h
  · exact kX11_ask
  rcases List.mem_cons.mp h with rfl | h
  · exact kX12_ask
  rcases List.mem_cons.mp h with rfl | h
  · exact kX11_item
  rcases List.mem_cons.mp h with rfl | h
  · exact kX12_item
  rcases List.mem_cons.mp h with rfl | h
  · exact kX11_rest
  rcases List.mem_cons.mp h with rfl | h
  · exact kX12_rest
  rcases List.mem_cons.mp h with rfl | h
  · exact kX11_tell
  rcases List.mem_cons.mp h with rfl | h
  · exact kX12_tell
  rcases List.mem_cons.mp h with rfl | h
  · exact kX2_become
  rcases List.mem_cons.mp h with rfl | h
  · exact kX1_become
  rcases List.mem_cons.mp h with rfl | h
  · exact kX0_become
  rcases List.mem_cons.mp h with rfl | h
  · exact kX6_become
  rcases List.mem_cons.mp h with rfl | h
  · exact kX6_worthOnHand
  rcases List.mem_cons.mp h with rfl | h
  · exact kX11_isTold
  rcases List.mem_cons.mp h with rfl | h
  · exact kX11_proves
  rcases List.mem_cons.mp h with rfl | h
  · exact kX12_setAside
  rcases List.mem_cons.mp h with rfl | h
  · exact kX12_allTold
  rcases List.mem_cons.mp h with rfl | h
  · exact kX12_proves
  rcases List.mem_cons.mp h with rfl | h
  · exact kX11_keep
  rcases List.mem_cons.mp h with rfl | h
  · exact kX12_keep
  rcases List.mem_cons.mp h with rfl | h
  · exact kX11_back
  rcases List.mem_cons.mp h with rfl | h
  · exact kX12_back
  rcases List.mem_cons.mp h with rfl | h
  · exact kX6_inState
  rcases List.mem_cons.mp h with rfl | h
  · exact kX11_count
  rcases List.mem_cons.mp h with rfl | h
  · exact kX12_inState
  rcases List.mem_cons.mp h with rfl | h
  · exact kX12_count
  cases h
