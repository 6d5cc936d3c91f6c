set_option maxRecDepth 100000 in
theorem cw0 : lw_tbl[592]? = some (Jvm.Cond.code yX0_take cX0_take 4 none) := rfl
set_option maxRecDepth 100000 in
theorem cw1 : lw_tbl[620]? = some (Jvm.Cond.code yX0_stateOf cX0_stateOf 3 (some .int)) := rfl
set_option maxRecDepth 100000 in
theorem cw2 : lw_tbl[685]? = some (Jvm.Cond.code yX0_lineOf cX0_lineOf 1 (some .int)) := rfl
set_option maxRecDepth 100000 in
theorem cw3 : lw_tbl[692]? = some (Jvm.Cond.code yX0_carriedOf cX0_carriedOf 1 (some .int)) := rfl
set_option maxRecDepth 100000 in
theorem cw4 : lw_tbl[695]? = some (Jvm.Cond.code yX0_placedOf cX0_placedOf 1 (some .int)) := rfl
set_option maxRecDepth 100000 in
theorem cw5 : lw_tbl[617]? = some (Jvm.Cond.code yX0_solve cX0_solve 7 (some .int)) := rfl
set_option maxRecDepth 100000 in
theorem cw6 : lw_tbl[632]? = some (Jvm.Cond.code yX0_mostCarriedTo cX0_mostCarriedTo 3 (some .int)) := rfl
set_option maxRecDepth 100000 in
theorem cw7 : lw_tbl[637]? = some (Jvm.Cond.code yX0_solvePage cX0_solvePage 6 none) := rfl
set_option maxRecDepth 100000 in
theorem cw8 : lw_tbl[642]? = some (Jvm.Cond.code yX0_leastRows cX0_leastRows 4 (some .int)) := rfl
set_option maxRecDepth 100000 in
theorem cw9 : lw_tbl[646]? = some (Jvm.Cond.code yX0_rows0To cX0_rows0To 2 (some .int)) := rfl
set_option maxRecDepth 100000 in
theorem cw10 : lw_tbl[654]? = some (Jvm.Cond.code yX0_rows1To cX0_rows1To 2 (some .int)) := rfl
set_option maxRecDepth 100000 in
theorem cw11 : lw_tbl[658]? = some (Jvm.Cond.code yX0_withGap cX0_withGap 2 (some .int)) := rfl
set_option maxRecDepth 100000 in
theorem cw12 : lw_tbl[662]? = some (Jvm.Cond.code yX0_weighEnd cX0_weighEnd 6 none) := rfl
set_option maxRecDepth 100000 in
theorem cw13 : lw_tbl[666]? = some (Jvm.Cond.code yX0_costOfEnd cX0_costOfEnd 2 (some .int)) := rfl
set_option maxRecDepth 100000 in
theorem cw14 : lw_tbl[670]? = some (Jvm.Cond.code yX0_weighNotes cX0_weighNotes 9 none) := rfl
set_option maxRecDepth 100000 in
theorem cw15 : lw_tbl[674]? = some (Jvm.Cond.code yX0_keepBetter cX0_keepBetter 4 none) := rfl
set_option maxRecDepth 100000 in
theorem cw16 : lw_tbl[682]? = some (Jvm.Cond.code yX0_countPages cX0_countPages 3 (some .int)) := rfl
set_option maxRecDepth 100000 in
theorem cw17 : lw_tbl[678]? = some (Jvm.Cond.code yX0_list cX0_list 5 none) := rfl
set_option maxRecDepth 100000 in
theorem cw18 : lw_tbl[689]? = some (Jvm.Cond.code yX0_listPage cX0_listPage 8 none) := rfl
set_option maxRecDepth 100000 in
theorem cw19 : lw_tbl[496]? = some (Jvm.Cond.code yX1_hasParagraph cX1_hasParagraph 2 (some .boolean)) := rfl
set_option maxRecDepth 100000 in
theorem cw20 : lw_tbl[523]? = some (Jvm.Cond.code yX1_hasLine cX1_hasLine 2 (some .boolean)) := rfl
set_option maxRecDepth 100000 in
theorem cw21 : lw_tbl[535]? = some (Jvm.Cond.code yX1_hasNote cX1_hasNote 2 (some .boolean)) := rfl
set_option maxRecDepth 100000 in
theorem cw22 : lw_tbl[488]? = some (Jvm.Cond.code yX1_addParagraph cX1_addParagraph 3 (some .int)) := rfl
set_option maxRecDepth 100000 in
theorem cw23 : lw_tbl[500]? = some (Jvm.Cond.code yX1_resize cX1_resize 6 none) := rfl
set_option maxRecDepth 100000 in
theorem cw24 : lw_tbl[508]? = some (Jvm.Cond.code yX1_lineAfterResize cX1_lineAfterResize 4 (some .int)) := rfl
set_option maxRecDepth 100000 in
theorem cw25 : lw_tbl[527]? = some (Jvm.Cond.code yX1_addNote cX1_addNote 4 (some .int)) := rfl
set_option maxRecDepth 100000 in
theorem cw26 : lw_tbl[547]? = some (Jvm.Cond.code yX1_addFigure cX1_addFigure 3 (some .int)) := rfl
set_option maxRecDepth 100000 in
theorem cw27 : lw_tbl[785]? = some (Jvm.Cond.code yX1_copyFrom cX1_copyFrom 3 none) := rfl
set_option maxRecDepth 100000 in
theorem cw28 : lw_tbl[515]? = some (Jvm.Cond.code yX1_sortNotes cX1_sortNotes 3 none) := rfl
set_option maxRecDepth 100000 in
theorem cw29 : lw_tbl[505]? = some (Jvm.Cond.code yX1_firstLineOf cX1_firstLineOf 4 (some .int)) := rfl
set_option maxRecDepth 100000 in
theorem cw30 : lw_tbl[563]? = some (Jvm.Cond.code yX1_paragraphOf cX1_paragraphOf 4 (some .int)) := rfl
set_option maxRecDepth 100000 in
theorem cw31 : lw_tbl[543]? = some (Jvm.Cond.code yX1_lineOfLastFigure cX1_lineOfLastFigure 1 (some .int)) := rfl
set_option maxRecDepth 100000 in
theorem cw32 : lw_tbl[580]? = some (Jvm.Cond.code yX1_rowsOfNote cX1_rowsOfNote 2 (some .int)) := rfl
set_option maxRecDepth 100000 in
theorem cw33 : lw_tbl[568]? = some (Jvm.Cond.code yX1_countNotesIn cX1_countNotesIn 4 (some .int)) := rfl
set_option maxRecDepth 100000 in
theorem cw34 : lw_tbl[572]? = some (Jvm.Cond.code yX1_countFiguresIn cX1_countFiguresIn 4 (some .int)) := rfl
set_option maxRecDepth 100000 in
theorem cw35 : lw_tbl[555]? = some (Jvm.Cond.code yX1_countGrown cX1_countGrown 3 (some .int)) := rfl
set_option maxRecDepth 100000 in
theorem cw36 : lw_tbl[762]? = some (Jvm.Cond.code yX1_shrinkAll cX1_shrinkAll 3 (some .boolean)) := rfl
set_option maxRecDepth 100000 in
theorem cw37 : lw_tbl[754]? = some (Jvm.Cond.code yX1_placeInBand cX1_placeInBand 6 (some .int)) := rfl
set_option maxRecDepth 100000 in
theorem cw38 : lw_tbl[732]? = some (Jvm.Cond.code yX1_lastOfSplitting cX1_lastOfSplitting 5 (some .int)) := rfl
set_option maxRecDepth 100000 in
theorem cw39 : lw_tbl[744]? = some (Jvm.Cond.code yX1_rowInMargin cX1_rowInMargin 7 (some .int)) := rfl
set_option maxRecDepth 100000 in
theorem cw40 : lw_tbl[596]? = some (Jvm.Cond.code yX2_take cX2_take 2 none) := rfl
set_option maxRecDepth 100000 in
theorem cw41 : lw_tbl[600]? = some (Jvm.Cond.code yX2_takeParagraphs cX2_takeParagraphs 6 none) := rfl
set_option maxRecDepth 100000 in
theorem cw42 : lw_tbl[604]? = some (Jvm.Cond.code yX2_takeNotes cX2_takeNotes 4 none) := rfl
set_option maxRecDepth 100000 in
theorem cw43 : lw_tbl[608]? = some (Jvm.Cond.code yX2_takeNote cX2_takeNote 6 none) := rfl
set_option maxRecDepth 100000 in
theorem cw44 : lw_tbl[613]? = some (Jvm.Cond.code yX2_takeFigures cX2_takeFigures 4 none) := rfl
set_option maxRecDepth 100000 in
theorem cw45 : lw_tbl[625]? = some (Jvm.Cond.code yX2_layMargin cX2_layMargin 8 none) := rfl
set_option maxRecDepth 100000 in
theorem cw46 : lw_tbl[776]? = some (Jvm.Cond.code yX2_allRows cX2_allRows 1 (some .int)) := rfl
set_option maxRecDepth 100000 in
theorem cw47 : lw_tbl[650]? = some (Jvm.Cond.code yX2_lastRowsOfPage cX2_lastRowsOfPage 3 (some .int)) := rfl
set_option maxRecDepth 100000 in
theorem cw48 : lw_tbl[699]? = some (Jvm.Cond.code yX3_put cX3_put 5 none) := rfl
set_option maxRecDepth 100000 in
theorem cw49 : lw_tbl[711]? = some (Jvm.Cond.code yX3_fact cX3_fact 4 (some .int)) := rfl
set_option maxRecDepth 100000 in
theorem cw50 : lw_tbl[723]? = some (Jvm.Cond.code yX3_pageOfLine cX3_pageOfLine 3 (some .int)) := rfl
set_option maxRecDepth 100000 in
theorem cw51 : lw_tbl[736]? = some (Jvm.Cond.code yX3_pageOfFigure cX3_pageOfFigure 4 (some .int)) := rfl
set_option maxRecDepth 100000 in
theorem cw52 : lw_tbl[370]? = some (Jvm.Cond.code yX4_append cX4_append 5 (some .boolean)) := rfl
set_option maxRecDepth 100000 in
theorem cw53 : lw_tbl[378]? = some (Jvm.Cond.code yX4_parse cX4_parse 4 (some .int)) := rfl
set_option maxRecDepth 100000 in
theorem cw54 : lw_tbl[382]? = some (Jvm.Cond.code yX4_begin cX4_begin 2 none) := rfl
set_option maxRecDepth 100000 in
theorem cw55 : lw_tbl[391]? = some (Jvm.Cond.code yX4_parseClause cX4_parseClause 2 none) := rfl
set_option maxRecDepth 100000 in
theorem cw56 : lw_tbl[395]? = some (Jvm.Cond.code yX4_parseWord cX4_parseWord 3 (some .int)) := rfl
set_option maxRecDepth 100000 in
theorem cw57 : lw_tbl[460]? = some (Jvm.Cond.code yX4_parseNumber cX4_parseNumber 4 none) := rfl
set_option maxRecDepth 100000 in
theorem cw58 : lw_tbl[468]? = some (Jvm.Cond.code yX4_parseEnd cX4_parseEnd 1 none) := rfl
set_option maxRecDepth 100000 in
theorem cw59 : lw_tbl[387]? = some (Jvm.Cond.code yX4_skipBlanks cX4_skipBlanks 1 none) := rfl
set_option maxRecDepth 100000 in
theorem cw60 : lw_tbl[456]? = some (Jvm.Cond.code yX4_fail cX4_fail 3 none) := rfl
set_option maxRecDepth 100000 in
theorem cw61 : lw_tbl[399]? = some (Jvm.Cond.code yX4_clauseOf cX4_clauseOf 4 (some .int)) := rfl
set_option maxRecDepth 100000 in
theorem cw62 : lw_tbl[403]? = some (Jvm.Cond.code yX4_isWordOf cX4_isWordOf 7 (some .boolean)) := rfl
set_option maxRecDepth 100000 in
theorem cw63 : lw_tbl[366]? = some (Jvm.Cond.code yX5_feed cX5_feed 4 (some .int)) := rfl
set_option maxRecDepth 100000 in
theorem cw64 : lw_tbl[374]? = some (Jvm.Cond.code yX5_read cX5_read 2 (some .int)) := rfl
set_option maxRecDepth 100000 in
theorem cw65 : lw_tbl[473]? = some (Jvm.Cond.code yX5_fault cX5_fault 1 (some .int)) := rfl
set_option maxRecDepth 100000 in
theorem cw66 : lw_tbl[477]? = some (Jvm.Cond.code yX5_rule cX5_rule 2 (some .int)) := rfl
set_option maxRecDepth 100000 in
theorem cw67 : lw_tbl[481]? = some (Jvm.Cond.code yX5_paragraph cX5_paragraph 3 (some .int)) := rfl
set_option maxRecDepth 100000 in
theorem cw68 : lw_tbl[492]? = some (Jvm.Cond.code yX5_change cX5_change 4 (some .int)) := rfl
set_option maxRecDepth 100000 in
theorem cw69 : lw_tbl[519]? = some (Jvm.Cond.code yX5_note cX5_note 4 (some .int)) := rfl
set_option maxRecDepth 100000 in
theorem cw70 : lw_tbl[531]? = some (Jvm.Cond.code yX5_refer cX5_refer 4 (some .int)) := rfl
set_option maxRecDepth 100000 in
theorem cw71 : lw_tbl[539]? = some (Jvm.Cond.code yX5_figure cX5_figure 3 (some .int)) := rfl
set_option maxRecDepth 100000 in
theorem cw72 : lw_tbl[551]? = some (Jvm.Cond.code yX5_count cX5_count 2 (some .int)) := rfl
set_option maxRecDepth 100000 in
theorem cw73 : lw_tbl[559]? = some (Jvm.Cond.code yX5_line cX5_line 3 (some .int)) := rfl
set_option maxRecDepth 100000 in
theorem cw74 : lw_tbl[576]? = some (Jvm.Cond.code yX5_told cX5_told 3 (some .int)) := rfl
set_option maxRecDepth 100000 in
theorem cw75 : lw_tbl[584]? = some (Jvm.Cond.code yX5_pages cX5_pages 1 (some .int)) := rfl
set_option maxRecDepth 100000 in
theorem cw76 : lw_tbl[703]? = some (Jvm.Cond.code yX5_cost cX5_cost 1 (some .int)) := rfl
set_option maxRecDepth 100000 in
theorem cw77 : lw_tbl[707]? = some (Jvm.Cond.code yX5_page cX5_page 3 (some .int)) := rfl
set_option maxRecDepth 100000 in
theorem cw78 : lw_tbl[715]? = some (Jvm.Cond.code yX5_where cX5_where 3 (some .int)) := rfl
set_option maxRecDepth 100000 in
theorem cw79 : lw_tbl[750]? = some (Jvm.Cond.code yX5_mark cX5_mark 3 (some .int)) := rfl
set_option maxRecDepth 100000 in
theorem cw80 : lw_tbl[758]? = some (Jvm.Cond.code yX5_settle cX5_settle 3 (some .int)) := rfl
set_option maxRecDepth 100000 in
theorem cw81 : lw_tbl[770]? = some (Jvm.Cond.code yX5_least cX5_least 4 (some .int)) := rfl
set_option maxRecDepth 100000 in
theorem cw82 : lw_tbl[781]? = some (Jvm.Cond.code yX5_tried cX5_tried 4 (some .int)) := rfl
set_option maxRecDepth 100000 in
theorem cw83 : lw_tbl[484]? = some (Jvm.Cond.code yX5_isParagraphSize cX5_isParagraphSize 1 (some .boolean)) := rfl
set_option maxRecDepth 100000 in
theorem cw84 : lw_tbl[719]? = some (Jvm.Cond.code yX5_isThere cX5_isThere 3 (some .boolean)) := rfl
set_option maxRecDepth 100000 in
theorem cw85 : lw_tbl[588]? = some (Jvm.Cond.code yX5_breakAnew cX5_breakAnew 1 none) := rfl
set_option maxRecDepth 100000 in
theorem cw86 : lw_tbl[728]? = some (Jvm.Cond.code yX5_pageOfLastRow cX5_pageOfLastRow 4 (some .int)) := rfl
set_option maxRecDepth 100000 in
theorem cw87 : lw_tbl[740]? = some (Jvm.Cond.code yX5_rowInMargin cX5_rowInMargin 2 (some .int)) := rfl
set_option maxRecDepth 100000 in
theorem cw88 : lw_tbl[766]? = some (Jvm.Cond.code yX5_growByPages cX5_growByPages 5 (some .boolean)) := rfl
set_option maxRecDepth 100000 in
theorem cw89 : lw_tbl[940]? = some (Jvm.Cond.code yX6_in cX6_in 6 (some .boolean)) := rfl
set_option maxRecDepth 100000 in
theorem cw90 : lw_tbl[798]? = some (Jvm.Cond.code yX6_first cX6_first 1 none) := rfl
set_option maxRecDepth 100000 in
theorem cw91 : lw_tbl[802]? = some (Jvm.Cond.code yX6_keepRules cX6_keepRules 2 none) := rfl
set_option maxRecDepth 100000 in
theorem cw92 : lw_tbl[936]? = some (Jvm.Cond.code yX6_feed cX6_feed 5 (some .int)) := rfl
set_option maxRecDepth 100000 in
theorem cw93 : lw_tbl[949]? = some (Jvm.Cond.code yX6_here cX6_here 1 (some .int)) := rfl
set_option maxRecDepth 100000 in
theorem cw94 : lw_tbl[974]? = some (Jvm.Cond.code yX6_fails cX6_fails 3 (some .int)) := rfl
set_option maxRecDepth 100000 in
theorem cw95 : lw_tbl[957]? = some (Jvm.Cond.code yX6_readWord cX6_readWord 2 none) := rfl
set_option maxRecDepth 100000 in
theorem cw96 : lw_tbl[970]? = some (Jvm.Cond.code yX6_code cX6_code 8 (some .long)) := rfl
set_option maxRecDepth 100000 in
theorem cw97 : lw_tbl[967]? = some (Jvm.Cond.code yX6_keyOf cX6_keyOf 3 (some .int)) := rfl
set_option maxRecDepth 100000 in
theorem cw98 : lw_tbl[953]? = some (Jvm.Cond.code yX6_readClause cX6_readClause 8 (some .int)) := rfl
set_option maxRecDepth 100000 in
theorem cw99 : lw_tbl[945]? = some (Jvm.Cond.code yX6_read cX6_read 4 (some .int)) := rfl
set_option maxRecDepth 100000 in
theorem cw100 : lw_tbl[980]? = some (Jvm.Cond.code yX6_fault cX6_fault 1 (some .int)) := rfl
set_option maxRecDepth 100000 in
theorem cw101 : lw_tbl[984]? = some (Jvm.Cond.code yX6_rule cX6_rule 2 (some .int)) := rfl
set_option maxRecDepth 100000 in
theorem cw102 : lw_tbl[993]? = some (Jvm.Cond.code yX6_findLines cX6_findLines 3 none) := rfl
set_option maxRecDepth 100000 in
theorem cw103 : lw_tbl[988]? = some (Jvm.Cond.code yX6_paragraph cX6_paragraph 3 (some .int)) := rfl
set_option maxRecDepth 100000 in
theorem cw104 : lw_tbl[1001]? = some (Jvm.Cond.code yX6_clamp cX6_clamp 3 none) := rfl
set_option maxRecDepth 100000 in
theorem cw105 : lw_tbl[997]? = some (Jvm.Cond.code yX6_change cX6_change 4 (some .int)) := rfl
set_option maxRecDepth 100000 in
theorem cw106 : lw_tbl[1009]? = some (Jvm.Cond.code yX6_isLine cX6_isLine 2 (some .boolean)) := rfl
set_option maxRecDepth 100000 in
theorem cw107 : lw_tbl[1018]? = some (Jvm.Cond.code yX6_isNote cX6_isNote 2 (some .boolean)) := rfl
set_option maxRecDepth 100000 in
theorem cw108 : lw_tbl[1005]? = some (Jvm.Cond.code yX6_note cX6_note 4 (some .int)) := rfl
set_option maxRecDepth 100000 in
theorem cw109 : lw_tbl[1014]? = some (Jvm.Cond.code yX6_refer cX6_refer 4 (some .int)) := rfl
set_option maxRecDepth 100000 in
theorem cw110 : lw_tbl[1031]? = some (Jvm.Cond.code yX6_lineOf cX6_lineOf 5 (some .int)) := rfl
set_option maxRecDepth 100000 in
theorem cw111 : lw_tbl[1043]? = some (Jvm.Cond.code yX6_noteLine cX6_noteLine 2 (some .int)) := rfl
set_option maxRecDepth 100000 in
theorem cw112 : lw_tbl[1027]? = some (Jvm.Cond.code yX6_figureLine cX6_figureLine 2 (some .int)) := rfl
set_option maxRecDepth 100000 in
theorem cw113 : lw_tbl[1052]? = some (Jvm.Cond.code yX6_rowsOf cX6_rowsOf 2 (some .int)) := rfl
set_option maxRecDepth 100000 in
theorem cw114 : lw_tbl[1022]? = some (Jvm.Cond.code yX6_figure cX6_figure 3 (some .int)) := rfl
set_option maxRecDepth 100000 in
theorem cw115 : lw_tbl[1035]? = some (Jvm.Cond.code yX6_count cX6_count 4 (some .int)) := rfl
set_option maxRecDepth 100000 in
theorem cw116 : lw_tbl[1039]? = some (Jvm.Cond.code yX6_line cX6_line 5 (some .int)) := rfl
set_option maxRecDepth 100000 in
theorem cw117 : lw_tbl[1048]? = some (Jvm.Cond.code yX6_told cX6_told 3 (some .int)) := rfl
set_option maxRecDepth 100000 in
theorem cw118 : lw_tbl[1064]? = some (Jvm.Cond.code yX6_findOrder cX6_findOrder 4 none) := rfl
set_option maxRecDepth 100000 in
theorem cw119 : lw_tbl[1092]? = some (Jvm.Cond.code yX6_rowsIn cX6_rowsIn 6 (some .int)) := rfl
set_option maxRecDepth 100000 in
theorem cw120 : lw_tbl[1080]? = some (Jvm.Cond.code yX6_lastIn cX6_lastIn 5 (some .int)) := rfl
set_option maxRecDepth 100000 in
theorem cw121 : lw_tbl[1072]? = some (Jvm.Cond.code yX6_figuresAhead cX6_figuresAhead 4 (some .int)) := rfl
set_option maxRecDepth 100000 in
theorem cw122 : lw_tbl[1096]? = some (Jvm.Cond.code yX6_margin cX6_margin 9 (some .int)) := rfl
set_option maxRecDepth 100000 in
theorem cw123 : lw_tbl[1088]? = some (Jvm.Cond.code yX6_isLast cX6_isLast 2 (some .boolean)) := rfl
set_option maxRecDepth 100000 in
theorem cw124 : lw_tbl[1084]? = some (Jvm.Cond.code yX6_costOf cX6_costOf 10 (some .int)) := rfl
set_option maxRecDepth 100000 in
theorem cw125 : lw_tbl[1067]? = some (Jvm.Cond.code yX6_state cX6_state 3 (some .int)) := rfl
set_option maxRecDepth 100000 in
theorem cw126 : lw_tbl[1076]? = some (Jvm.Cond.code yX6_look cX6_look 16 none) := rfl
set_option maxRecDepth 100000 in
theorem cw127 : lw_tbl[1060]? = some (Jvm.Cond.code yX6_find cX6_find 4 (some .boolean)) := rfl
set_option maxRecDepth 100000 in
theorem cw128 : lw_tbl[1056]? = some (Jvm.Cond.code yX6_pages cX6_pages 1 (some .int)) := rfl
set_option maxRecDepth 100000 in
theorem cw129 : lw_tbl[1100]? = some (Jvm.Cond.code yX6_cost cX6_cost 1 (some .int)) := rfl
set_option maxRecDepth 100000 in
theorem cw130 : lw_tbl[1104]? = some (Jvm.Cond.code yX6_page cX6_page 7 (some .int)) := rfl
set_option maxRecDepth 100000 in
theorem cw131 : lw_tbl[1113]? = some (Jvm.Cond.code yX6_pageOfLine cX6_pageOfLine 3 (some .int)) := rfl
set_option maxRecDepth 100000 in
theorem cw132 : lw_tbl[1121]? = some (Jvm.Cond.code yX6_pageOfFigure cX6_pageOfFigure 3 (some .int)) := rfl
set_option maxRecDepth 100000 in
theorem cw133 : lw_tbl[1117]? = some (Jvm.Cond.code yX6_isSplit cX6_isSplit 3 (some .boolean)) := rfl
set_option maxRecDepth 100000 in
theorem cw134 : lw_tbl[1125]? = some (Jvm.Cond.code yX6_marginRow cX6_marginRow 7 (some .int)) := rfl
set_option maxRecDepth 100000 in
theorem cw135 : lw_tbl[1108]? = some (Jvm.Cond.code yX6_where cX6_where 4 (some .int)) := rfl
set_option maxRecDepth 100000 in
theorem cw136 : lw_tbl[1129]? = some (Jvm.Cond.code yX6_mark cX6_mark 7 (some .int)) := rfl
set_option maxRecDepth 100000 in
theorem cw137 : lw_tbl[1137]? = some (Jvm.Cond.code yX6_round cX6_round 4 (some .int)) := rfl
set_option maxRecDepth 100000 in
theorem cw138 : lw_tbl[1133]? = some (Jvm.Cond.code yX6_settle cX6_settle 4 (some .int)) := rfl
set_option maxRecDepth 100000 in
theorem cw139 : lw_tbl[1141]? = some (Jvm.Cond.code yX6_least cX6_least 5 (some .int)) := rfl
set_option maxRecDepth 100000 in
theorem cw140 : lw_tbl[1146]? = some (Jvm.Cond.code yX6_tried cX6_tried 5 (some .int)) := rfl
theorem code_ok : ∀ k, k < 141 → lw_tbl[mI k]? = some (Jvm.Cond.code (mY k) (mC k) (mL k) (mR k))
  | 0, _ => cw0
  | 1, _ => cw1
  | 2, _ => cw2
  | 3, _ => cw3
  | 4, _ => cw4
  | 5, _ => cw5
  | 6, _ => cw6
  | 7, _ => cw7
  | 8, _ => cw8
  | 9, _ => cw9
  | 10, _ => cw10
  | 11, _ => cw11
  | 12, _ => cw12
  | 13, _ => cw13
  | 14, _ => cw14
  | 15, _ => cw15
  | 16, _ => cw16
  | 17, _ => cw17
  | 18, _ => cw18
  | 19, _ => cw19
  | 20, _ => cw20
  | 21, _ => cw21
  | 22, _ => cw22
  | 23, _ => cw23
  | 24, _ => cw24
  | 25, _ => cw25
  | 26, _ => cw26
  | 27, _ => cw27
  | 28, _ => cw28
  | 29, _ => cw29
  | 30, _ => cw30
  | 31, _ => cw31
  | 32, _ => cw32
  | 33, _ => cw33
  | 34, _ => cw34
  | 35, _ => cw35
  | 36, _ => cw36
  | 37, _ => cw37
  | 38, _ => cw38
  | 39, _ => cw39
  | 40, _ => cw40
  | 41, _ => cw41
  | 42, _ => cw42
  | 43, _ => cw43
  | 44, _ => cw44
  | 45, _ => cw45
  | 46, _ => cw46
  | 47, _ => cw47
  | 48, _ => cw48
  | 49, _ => cw49
  | 50, _ => cw50
  | 51, _ => cw51
  | 52, _ => cw52
  | 53, _ => cw53
  | 54, _ => cw54
  | 55, _ => cw55
  | 56, _ => cw56
  | 57, _ => cw57
  | 58, _ => cw58
  | 59, _ => cw59
  | 60, _ => cw60
  | 61, _ => cw61
  | 62, _ => cw62
  | 63, _ => cw63
  | 64, _ => cw64
  | 65, _ => cw65
  | 66, _ => cw66
  | 67, _ => cw67
  | 68, _ => cw68
  | 69, _ => cw69
  | 70, _ => cw70
  | 71, _ => cw71
  | 72, _ => cw72
  | 73, _ => cw73
  | 74, _ => cw74
  | 75, _ => cw75
  | 76, _ => cw76
  | 77, _ => cw77
  | 78, _ => cw78
  | 79, _ => cw79
  | 80, _ => cw80
  | 81, _ => cw81
  | 82, _ => cw82
  | 83, _ => cw83
  | 84, _ => cw84
  | 85, _ => cw85
  | 86, _ => cw86
  | 87, _ => cw87
  | 88, _ => cw88
  | 89, _ => cw89
  | 90, _ => cw90
  | 91, _ => cw91
  | 92, _ => cw92
  | 93, _ => cw93
  | 94, _ => cw94
  | 95, _ => cw95
  | 96, _ => cw96
  | 97, _ => cw97
  | 98, _ => cw98
  | 99, _ => cw99
  | 100, _ => cw100
  | 101, _ => cw101
  | 102, _ => cw102
  | 103, _ => cw103
  | 104, _ => cw104
  | 105, _ => cw105
  | 106, _ => cw106
  | 107, _ => cw107
  | 108, _ => cw108
  | 109, _ => cw109
  | 110, _ => cw110
  | 111, _ => cw111
  | 112, _ => cw112
  | 113, _ => cw113
  | 114, _ => cw114
  | 115, _ => cw115
  | 116, _ => cw116
  | 117, _ => cw117
  | 118, _ => cw118
  | 119, _ => cw119
  | 120, _ => cw120
  | 121, _ => cw121
  | 122, _ => cw122
  | 123, _ => cw123
  | 124, _ => cw124
  | 125, _ => cw125
  | 126, _ => cw126
  | 127, _ => cw127
  | 128, _ => cw128
  | 129, _ => cw129
  | 130, _ => cw130
  | 131, _ => cw131
  | 132, _ => cw132
  | 133, _ => cw133
  | 134, _ => cw134
  | 135, _ => cw135
  | 136, _ => cw136
  | 137, _ => cw137
  | 138, _ => cw138
  | 139, _ => cw139
  | 140, _ => cw140
  | n + 141, h => absurd h (by omega)
def flW (e : (Nat × Nat) × (Nat × Nat × Nat)) : Jvm.Cond := if e.2.2.2 = 1 then .fieldLinkNest (cN e.1.1) e.1.2 (cN e.2.1) (fT e.2.1 e.2.2.1).2.1 (fT e.2.1 e.2.2.1).2.2.1 "NotesBelow" else .fieldLink (cN e.1.1) e.1.2 (cN e.2.1) (fT e.2.1 e.2.2.1).2.1 (fT e.2.1 e.2.2.1).2.2.1
theorem fl_ok : ∀ e ∈ flT.zip flI, lw_tbl[e.2]? = some (flW e.1) ∧ e.1.2.1 < 7 ∧ e.1.2.2.1 < fN e.1.2.1 ∧ e.1.2.2.1 < 64 := by decide +kernel
theorem fl_len : flT.length = flI.length := by decide +kernel
def ivW (e : (Nat × Nat) × (Nat × Nat × Nat)) : Jvm.Cond := if e.2.1 = 900 then .methodLink (cN e.1.1) e.1.2 Lib.Math.max.name else if e.2.1 = 901 then .methodLink (cN e.1.1) e.1.2 Lib.Math.min.name else if e.2.1 = 902 then .methodLink (cN e.1.1) e.1.2 arraycopyName else if e.2.1 = 910 then .methodLink (cN e.1.1) e.1.2 ⟨"java/lang/String", "length", "()I"⟩ else if e.2.1 = 911 then .methodLink (cN e.1.1) e.1.2 ⟨"java/lang/String", "charAt", "(I)C"⟩ else if e.2.2.2 = 1 then .methodLinkNest (cN e.1.1) e.1.2 (mY e.2.1) "NotesBelow" else .methodLink (cN e.1.1) e.1.2 (mY e.2.1)
theorem iv_ok : ∀ e ∈ ivT.zip ivI, lw_tbl[e.2]? = some (ivW e.1) ∧ (e.1.2.1 < 141 → (parseMethodDescriptor (mY e.1.2.1).desc).map (fun d => d.parameters.length) = some e.1.2.2.1) := by decide +kernel
theorem iv_len : ivT.length = ivI.length := by decide +kernel
theorem kI_ok : ∀ e ∈ kIT.zip kII, lw_tbl[e.2]? = some (Jvm.Cond.constant (cN e.1.1.1) e.1.1.2 (Int32.ofInt e.1.2)) := by decide +kernel
theorem kI_len : kIT.length = kII.length := by decide +kernel
theorem kL_ok : ∀ e ∈ kLT.zip kLI, lw_tbl[e.2]? = some (Jvm.Cond.constantLong (cN e.1.1.1) e.1.1.2 (Int64.ofInt e.1.2)) := by decide +kernel
theorem kL_len : kLT.length = kLI.length := by decide +kernel
def gsW (e : (Nat × Nat) × (Nat × Nat)) : Jvm.Cond := if e.2.2 = 1 then .fieldLinkNest (cN e.1.1) e.1.2 "NotesBelow" (roN e.2.1) "[I" "NotesBelow" else .fieldLink (cN e.1.1) e.1.2 "NotesBelow" (roN e.2.1) "[I"
theorem gs_ok : ∀ e ∈ gsT.zip gsI, lw_tbl[e.2]? = some (gsW e.1) ∧ 200 ≤ e.1.2.1 ∧ e.1.2.1 ≤ 202 := by decide +kernel
theorem gs_len : gsT.length = gsI.length := by decide +kernel
theorem st_ok : ∀ k, k < 141 → mS k = true → lw_tbl[mJ k]? = some (Jvm.Cond.static (mY k)) := by decide +kernel
theorem in_ok : ∀ k, k < 141 → mS k = false → lw_tbl[mJ k]? = some (Jvm.Cond.instanceMethod (mY k)) ∧ lw_tbl[mK k]? = some (Jvm.Cond.selects (cN (mO k)) (mY k) (mY k)) := by decide +kernel
theorem me_ok : ∀ k, k < 141 → (mY k).cls = cN (mO k) ∧ mL k ≤ 19 ∧ mO k < 7 ∧ plainName (mY k).cls = true := by decide +kernel
theorem ini_ok : ∀ o, o < 7 → Jvm.Cond.initialized (cN o) ∈ lw_tbl := by decide +kernel
theorem cl_ok : ∀ o, o < 7 → vwCl[o]? = some (cN o, fT o, fN o) := by
  intro o h
  match o, h with
  | 0, _ => rfl
  | 1, _ => rfl
  | 2, _ => rfl
  | 3, _ => rfl
  | 4, _ => rfl
  | 5, _ => rfl
  | 6, _ => rfl
theorem tbl_in {i : Nat} {w : Jvm.Cond} (h : lw_tbl[i]? = some w) : w ∈ lw_tbl := List.mem_of_getElem? h
theorem gw_in {w : Jvm.Cond} (h : w ∈ lw_tbl) (hg : goodWord w = true) : w ∈ gw := List.mem_filter.mpr ⟨h, hg⟩
theorem nw_in {w : Jvm.Cond} (h : w ∈ lw_tbl) (hg : isNest w = true) : w ∈ nw := List.mem_filter.mpr ⟨h, hg⟩
theorem zip_mem {α β : Type} : ∀ (l : List α) (r : List β), l.length = r.length → ∀ a ∈ l, ∃ b, (a, b) ∈ l.zip r
  | [], _, _, _, h => by cases h
  | x :: l, [], h, _, _ => by cases h
  | x :: l, y :: r, h, a, ha => by
    rcases List.mem_cons.mp ha with rfl | ha
    · exact ⟨y, List.mem_cons_self⟩
    · obtain ⟨b, hb⟩ := zip_mem l r (by simpa using h) a ha
      exact ⟨b, List.mem_cons_of_mem _ hb⟩
theorem lookup_mem {α β : Type} [BEq α] [LawfulBEq α] : ∀ (l : List (α × β)) {a : α} {b : β}, l.lookup a = some b → (a, b) ∈ l
  | [], _, _, h => by cases h
  | (x, y) :: l, a, b, h => by
    rw [List.lookup_cons] at h
    by_cases hx : (a == x) = true
    · rw [hx] at h
      cases h
      rw [eq_of_beq hx]
      exact List.mem_cons_self
    · rw [Bool.eq_false_iff.mpr hx] at h
      exact List.mem_cons_of_mem _ (lookup_mem l h)
