/-! WHAT THE TABLES SAY IS SO: by the kernel -/
def okI (pc : Nat) : Instr → Bool
  | .iconst _ => true
  | .bipush n => decide (-128 ≤ n) && decide (n ≤ 127)
  | .sipush n => decide (-32768 ≤ n) && decide (n ≤ 32767)
  | .ifCond _ off => decide (0 ≤ (pc : Int) + off)
  | .if_icmp _ off => decide (0 ≤ (pc : Int) + off)
  | .goto off => decide (0 ≤ (pc : Int) + off)
  | .tableswitch d lo hi offs => decide (0 ≤ (pc : Int) + d) && (decide (hi + 1 = lo + (offs.size : Int)) && offs.toList.all (fun o => decide (0 ≤ (pc : Int) + o)))
  | _ => true
def decOK (cc : ByteArray) (q : Nat × Instr) : Prop := decode cc q.1 = .ok (q.2, iLen q.1 q.2) ∧ okI q.1 q.2 = true
theorem dk0 : ∀ q ∈ tX0_take, decode cX0_take q.1 = .ok (q.2, iLen q.1 q.2) ∧ okI q.1 q.2 = true := by decide +kernel
theorem dk1 : ∀ q ∈ tX0_stateOf, decode cX0_stateOf q.1 = .ok (q.2, iLen q.1 q.2) ∧ okI q.1 q.2 = true := by decide +kernel
theorem dk2 : ∀ q ∈ tX0_lineOf, decode cX0_lineOf q.1 = .ok (q.2, iLen q.1 q.2) ∧ okI q.1 q.2 = true := by decide +kernel
theorem dk3 : ∀ q ∈ tX0_carriedOf, decode cX0_carriedOf q.1 = .ok (q.2, iLen q.1 q.2) ∧ okI q.1 q.2 = true := by decide +kernel
theorem dk4 : ∀ q ∈ tX0_placedOf, decode cX0_placedOf q.1 = .ok (q.2, iLen q.1 q.2) ∧ okI q.1 q.2 = true := by decide +kernel
theorem dk5 : ∀ q ∈ tX0_solve, decode cX0_solve q.1 = .ok (q.2, iLen q.1 q.2) ∧ okI q.1 q.2 = true := by decide +kernel
theorem dk6 : ∀ q ∈ tX0_mostCarriedTo, decode cX0_mostCarriedTo q.1 = .ok (q.2, iLen q.1 q.2) ∧ okI q.1 q.2 = true := by decide +kernel
theorem dk7 : ∀ q ∈ tX0_solvePage, decode cX0_solvePage q.1 = .ok (q.2, iLen q.1 q.2) ∧ okI q.1 q.2 = true := by decide +kernel
theorem dk8 : ∀ q ∈ tX0_leastRows, decode cX0_leastRows q.1 = .ok (q.2, iLen q.1 q.2) ∧ okI q.1 q.2 = true := by decide +kernel
theorem dk9 : ∀ q ∈ tX0_rows0To, decode cX0_rows0To q.1 = .ok (q.2, iLen q.1 q.2) ∧ okI q.1 q.2 = true := by decide +kernel
theorem dk10 : ∀ q ∈ tX0_rows1To, decode cX0_rows1To q.1 = .ok (q.2, iLen q.1 q.2) ∧ okI q.1 q.2 = true := by decide +kernel
theorem dk11 : ∀ q ∈ tX0_withGap, decode cX0_withGap q.1 = .ok (q.2, iLen q.1 q.2) ∧ okI q.1 q.2 = true := by decide +kernel
theorem dk12 : ∀ q ∈ tX0_weighEnd, decode cX0_weighEnd q.1 = .ok (q.2, iLen q.1 q.2) ∧ okI q.1 q.2 = true := by decide +kernel
theorem dk13 : ∀ q ∈ tX0_costOfEnd, decode cX0_costOfEnd q.1 = .ok (q.2, iLen q.1 q.2) ∧ okI q.1 q.2 = true := by decide +kernel
theorem dk14 : ∀ q ∈ tX0_weighNotes, decode cX0_weighNotes q.1 = .ok (q.2, iLen q.1 q.2) ∧ okI q.1 q.2 = true := by decide +kernel
theorem dk15 : ∀ q ∈ tX0_keepBetter, decode cX0_keepBetter q.1 = .ok (q.2, iLen q.1 q.2) ∧ okI q.1 q.2 = true := by decide +kernel
theorem dk16 : ∀ q ∈ tX0_countPages, decode cX0_countPages q.1 = .ok (q.2, iLen q.1 q.2) ∧ okI q.1 q.2 = true := by decide +kernel
theorem dk17 : ∀ q ∈ tX0_list, decode cX0_list q.1 = .ok (q.2, iLen q.1 q.2) ∧ okI q.1 q.2 = true := by decide +kernel
theorem dk18 : ∀ q ∈ tX0_listPage, decode cX0_listPage q.1 = .ok (q.2, iLen q.1 q.2) ∧ okI q.1 q.2 = true := by decide +kernel
theorem dk19 : ∀ q ∈ tX1_hasParagraph, decode cX1_hasParagraph q.1 = .ok (q.2, iLen q.1 q.2) ∧ okI q.1 q.2 = true := by decide +kernel
theorem dk20 : ∀ q ∈ tX1_hasLine, decode cX1_hasLine q.1 = .ok (q.2, iLen q.1 q.2) ∧ okI q.1 q.2 = true := by decide +kernel
theorem dk21 : ∀ q ∈ tX1_hasNote, decode cX1_hasNote q.1 = .ok (q.2, iLen q.1 q.2) ∧ okI q.1 q.2 = true := by decide +kernel
theorem dk22 : ∀ q ∈ tX1_addParagraph, decode cX1_addParagraph q.1 = .ok (q.2, iLen q.1 q.2) ∧ okI q.1 q.2 = true := by decide +kernel
theorem dk23 : ∀ q ∈ tX1_resize, decode cX1_resize q.1 = .ok (q.2, iLen q.1 q.2) ∧ okI q.1 q.2 = true := by decide +kernel
theorem dk24 : ∀ q ∈ tX1_lineAfterResize, decode cX1_lineAfterResize q.1 = .ok (q.2, iLen q.1 q.2) ∧ okI q.1 q.2 = true := by decide +kernel
theorem dk25 : ∀ q ∈ tX1_addNote, decode cX1_addNote q.1 = .ok (q.2, iLen q.1 q.2) ∧ okI q.1 q.2 = true := by decide +kernel
theorem dk26 : ∀ q ∈ tX1_addFigure, decode cX1_addFigure q.1 = .ok (q.2, iLen q.1 q.2) ∧ okI q.1 q.2 = true := by decide +kernel
theorem dk27 : ∀ q ∈ tX1_copyFrom, decode cX1_copyFrom q.1 = .ok (q.2, iLen q.1 q.2) ∧ okI q.1 q.2 = true := by decide +kernel
theorem dk28 : ∀ q ∈ tX1_sortNotes, decode cX1_sortNotes q.1 = .ok (q.2, iLen q.1 q.2) ∧ okI q.1 q.2 = true := by decide +kernel
theorem dk29 : ∀ q ∈ tX1_firstLineOf, decode cX1_firstLineOf q.1 = .ok (q.2, iLen q.1 q.2) ∧ okI q.1 q.2 = true := by decide +kernel
theorem dk30 : ∀ q ∈ tX1_paragraphOf, decode cX1_paragraphOf q.1 = .ok (q.2, iLen q.1 q.2) ∧ okI q.1 q.2 = true := by decide +kernel
theorem dk31 : ∀ q ∈ tX1_lineOfLastFigure, decode cX1_lineOfLastFigure q.1 = .ok (q.2, iLen q.1 q.2) ∧ okI q.1 q.2 = true := by decide +kernel
theorem dk32 : ∀ q ∈ tX1_rowsOfNote, decode cX1_rowsOfNote q.1 = .ok (q.2, iLen q.1 q.2) ∧ okI q.1 q.2 = true := by decide +kernel
theorem dk33 : ∀ q ∈ tX1_countNotesIn, decode cX1_countNotesIn q.1 = .ok (q.2, iLen q.1 q.2) ∧ okI q.1 q.2 = true := by decide +kernel
theorem dk34 : ∀ q ∈ tX1_countFiguresIn, decode cX1_countFiguresIn q.1 = .ok (q.2, iLen q.1 q.2) ∧ okI q.1 q.2 = true := by decide +kernel
theorem dk35 : ∀ q ∈ tX1_countGrown, decode cX1_countGrown q.1 = .ok (q.2, iLen q.1 q.2) ∧ okI q.1 q.2 = true := by decide +kernel
theorem dk36 : ∀ q ∈ tX1_shrinkAll, decode cX1_shrinkAll q.1 = .ok (q.2, iLen q.1 q.2) ∧ okI q.1 q.2 = true := by decide +kernel
theorem dk37 : ∀ q ∈ tX1_placeInBand, decode cX1_placeInBand q.1 = .ok (q.2, iLen q.1 q.2) ∧ okI q.1 q.2 = true := by decide +kernel
theorem dk38 : ∀ q ∈ tX1_lastOfSplitting, decode cX1_lastOfSplitting q.1 = .ok (q.2, iLen q.1 q.2) ∧ okI q.1 q.2 = true := by decide +kernel
theorem dk39 : ∀ q ∈ tX1_rowInMargin, decode cX1_rowInMargin q.1 = .ok (q.2, iLen q.1 q.2) ∧ okI q.1 q.2 = true := by decide +kernel
theorem dk40 : ∀ q ∈ tX2_take, decode cX2_take q.1 = .ok (q.2, iLen q.1 q.2) ∧ okI q.1 q.2 = true := by decide +kernel
theorem dk41 : ∀ q ∈ tX2_takeParagraphs, decode cX2_takeParagraphs q.1 = .ok (q.2, iLen q.1 q.2) ∧ okI q.1 q.2 = true := by decide +kernel
theorem dk42 : ∀ q ∈ tX2_takeNotes, decode cX2_takeNotes q.1 = .ok (q.2, iLen q.1 q.2) ∧ okI q.1 q.2 = true := by decide +kernel
theorem dk43 : ∀ q ∈ tX2_takeNote, decode cX2_takeNote q.1 = .ok (q.2, iLen q.1 q.2) ∧ okI q.1 q.2 = true := by decide +kernel
theorem dk44 : ∀ q ∈ tX2_takeFigures, decode cX2_takeFigures q.1 = .ok (q.2, iLen q.1 q.2) ∧ okI q.1 q.2 = true := by decide +kernel
theorem dk45 : ∀ q ∈ tX2_layMargin, decode cX2_layMargin q.1 = .ok (q.2, iLen q.1 q.2) ∧ okI q.1 q.2 = true := by decide +kernel
theorem dk46 : ∀ q ∈ tX2_allRows, decode cX2_allRows q.1 = .ok (q.2, iLen q.1 q.2) ∧ okI q.1 q.2 = true := by decide +kernel
theorem dk47 : ∀ q ∈ tX2_lastRowsOfPage, decode cX2_lastRowsOfPage q.1 = .ok (q.2, iLen q.1 q.2) ∧ okI q.1 q.2 = true := by decide +kernel
theorem dk48 : ∀ q ∈ tX3_put, decode cX3_put q.1 = .ok (q.2, iLen q.1 q.2) ∧ okI q.1 q.2 = true := by decide +kernel
theorem dk49 : ∀ q ∈ tX3_fact, decode cX3_fact q.1 = .ok (q.2, iLen q.1 q.2) ∧ okI q.1 q.2 = true := by decide +kernel
theorem dk50 : ∀ q ∈ tX3_pageOfLine, decode cX3_pageOfLine q.1 = .ok (q.2, iLen q.1 q.2) ∧ okI q.1 q.2 = true := by decide +kernel
theorem dk51 : ∀ q ∈ tX3_pageOfFigure, decode cX3_pageOfFigure q.1 = .ok (q.2, iLen q.1 q.2) ∧ okI q.1 q.2 = true := by decide +kernel
theorem dk52 : ∀ q ∈ tX4_append, decode cX4_append q.1 = .ok (q.2, iLen q.1 q.2) ∧ okI q.1 q.2 = true := by decide +kernel
theorem dk53 : ∀ q ∈ tX4_parse, decode cX4_parse q.1 = .ok (q.2, iLen q.1 q.2) ∧ okI q.1 q.2 = true := by decide +kernel
theorem dk54 : ∀ q ∈ tX4_begin, decode cX4_begin q.1 = .ok (q.2, iLen q.1 q.2) ∧ okI q.1 q.2 = true := by decide +kernel
theorem dk55 : ∀ q ∈ tX4_parseClause, decode cX4_parseClause q.1 = .ok (q.2, iLen q.1 q.2) ∧ okI q.1 q.2 = true := by decide +kernel
theorem dk56 : ∀ q ∈ tX4_parseWord, decode cX4_parseWord q.1 = .ok (q.2, iLen q.1 q.2) ∧ okI q.1 q.2 = true := by decide +kernel
theorem dk57 : ∀ q ∈ tX4_parseNumber, decode cX4_parseNumber q.1 = .ok (q.2, iLen q.1 q.2) ∧ okI q.1 q.2 = true := by decide +kernel
theorem dk58 : ∀ q ∈ tX4_parseEnd, decode cX4_parseEnd q.1 = .ok (q.2, iLen q.1 q.2) ∧ okI q.1 q.2 = true := by decide +kernel
theorem dk59 : ∀ q ∈ tX4_skipBlanks, decode cX4_skipBlanks q.1 = .ok (q.2, iLen q.1 q.2) ∧ okI q.1 q.2 = true := by decide +kernel
theorem dk60 : ∀ q ∈ tX4_fail, decode cX4_fail q.1 = .ok (q.2, iLen q.1 q.2) ∧ okI q.1 q.2 = true := by decide +kernel
theorem dk61 : ∀ q ∈ tX4_clauseOf, decode cX4_clauseOf q.1 = .ok (q.2, iLen q.1 q.2) ∧ okI q.1 q.2 = true := by decide +kernel
theorem dk62 : ∀ q ∈ tX4_isWordOf, decode cX4_isWordOf q.1 = .ok (q.2, iLen q.1 q.2) ∧ okI q.1 q.2 = true := by decide +kernel
theorem dk63 : ∀ q ∈ tX5_feed, decode cX5_feed q.1 = .ok (q.2, iLen q.1 q.2) ∧ okI q.1 q.2 = true := by decide +kernel
theorem dk64 : ∀ q ∈ tX5_read, decode cX5_read q.1 = .ok (q.2, iLen q.1 q.2) ∧ okI q.1 q.2 = true := by decide +kernel
theorem dk65 : ∀ q ∈ tX5_fault, decode cX5_fault q.1 = .ok (q.2, iLen q.1 q.2) ∧ okI q.1 q.2 = true := by decide +kernel
theorem dk66 : ∀ q ∈ tX5_rule, decode cX5_rule q.1 = .ok (q.2, iLen q.1 q.2) ∧ okI q.1 q.2 = true := by decide +kernel
theorem dk67 : ∀ q ∈ tX5_paragraph, decode cX5_paragraph q.1 = .ok (q.2, iLen q.1 q.2) ∧ okI q.1 q.2 = true := by decide +kernel
theorem dk68 : ∀ q ∈ tX5_change, decode cX5_change q.1 = .ok (q.2, iLen q.1 q.2) ∧ okI q.1 q.2 = true := by decide +kernel
theorem dk69 : ∀ q ∈ tX5_note, decode cX5_note q.1 = .ok (q.2, iLen q.1 q.2) ∧ okI q.1 q.2 = true := by decide +kernel
theorem dk70 : ∀ q ∈ tX5_refer, decode cX5_refer q.1 = .ok (q.2, iLen q.1 q.2) ∧ okI q.1 q.2 = true := by decide +kernel
theorem dk71 : ∀ q ∈ tX5_figure, decode cX5_figure q.1 = .ok (q.2, iLen q.1 q.2) ∧ okI q.1 q.2 = true := by decide +kernel
theorem dk72 : ∀ q ∈ tX5_count, decode cX5_count q.1 = .ok (q.2, iLen q.1 q.2) ∧ okI q.1 q.2 = true := by decide +kernel
theorem dk73 : ∀ q ∈ tX5_line, decode cX5_line q.1 = .ok (q.2, iLen q.1 q.2) ∧ okI q.1 q.2 = true := by decide +kernel
theorem dk74 : ∀ q ∈ tX5_told, decode cX5_told q.1 = .ok (q.2, iLen q.1 q.2) ∧ okI q.1 q.2 = true := by decide +kernel
theorem dk75 : ∀ q ∈ tX5_pages, decode cX5_pages q.1 = .ok (q.2, iLen q.1 q.2) ∧ okI q.1 q.2 = true := by decide +kernel
theorem dk76 : ∀ q ∈ tX5_cost, decode cX5_cost q.1 = .ok (q.2, iLen q.1 q.2) ∧ okI q.1 q.2 = true := by decide +kernel
theorem dk77 : ∀ q ∈ tX5_page, decode cX5_page q.1 = .ok (q.2, iLen q.1 q.2) ∧ okI q.1 q.2 = true := by decide +kernel
theorem dk78 : ∀ q ∈ tX5_where, decode cX5_where q.1 = .ok (q.2, iLen q.1 q.2) ∧ okI q.1 q.2 = true := by decide +kernel
theorem dk79 : ∀ q ∈ tX5_mark, decode cX5_mark q.1 = .ok (q.2, iLen q.1 q.2) ∧ okI q.1 q.2 = true := by decide +kernel
theorem dk80 : ∀ q ∈ tX5_settle, decode cX5_settle q.1 = .ok (q.2, iLen q.1 q.2) ∧ okI q.1 q.2 = true := by decide +kernel
theorem dk81 : ∀ q ∈ tX5_least, decode cX5_least q.1 = .ok (q.2, iLen q.1 q.2) ∧ okI q.1 q.2 = true := by decide +kernel
theorem dk82 : ∀ q ∈ tX5_tried, decode cX5_tried q.1 = .ok (q.2, iLen q.1 q.2) ∧ okI q.1 q.2 = true := by decide +kernel
theorem dk83 : ∀ q ∈ tX5_isParagraphSize, decode cX5_isParagraphSize q.1 = .ok (q.2, iLen q.1 q.2) ∧ okI q.1 q.2 = true := by decide +kernel
theorem dk84 : ∀ q ∈ tX5_isThere, decode cX5_isThere q.1 = .ok (q.2, iLen q.1 q.2) ∧ okI q.1 q.2 = true := by decide +kernel
theorem dk85 : ∀ q ∈ tX5_breakAnew, decode cX5_breakAnew q.1 = .ok (q.2, iLen q.1 q.2) ∧ okI q.1 q.2 = true := by decide +kernel
theorem dk86 : ∀ q ∈ tX5_pageOfLastRow, decode cX5_pageOfLastRow q.1 = .ok (q.2, iLen q.1 q.2) ∧ okI q.1 q.2 = true := by decide +kernel
theorem dk87 : ∀ q ∈ tX5_rowInMargin, decode cX5_rowInMargin q.1 = .ok (q.2, iLen q.1 q.2) ∧ okI q.1 q.2 = true := by decide +kernel
theorem dk88 : ∀ q ∈ tX5_growByPages, decode cX5_growByPages q.1 = .ok (q.2, iLen q.1 q.2) ∧ okI q.1 q.2 = true := by decide +kernel
theorem dk89 : ∀ q ∈ tX6_in, decode cX6_in q.1 = .ok (q.2, iLen q.1 q.2) ∧ okI q.1 q.2 = true := by decide +kernel
theorem dk90 : ∀ q ∈ tX6_first, decode cX6_first q.1 = .ok (q.2, iLen q.1 q.2) ∧ okI q.1 q.2 = true := by decide +kernel
theorem dk91 : ∀ q ∈ tX6_keepRules, decode cX6_keepRules q.1 = .ok (q.2, iLen q.1 q.2) ∧ okI q.1 q.2 = true := by decide +kernel
theorem dk92 : ∀ q ∈ tX6_feed, decode cX6_feed q.1 = .ok (q.2, iLen q.1 q.2) ∧ okI q.1 q.2 = true := by decide +kernel
theorem dk93 : ∀ q ∈ tX6_here, decode cX6_here q.1 = .ok (q.2, iLen q.1 q.2) ∧ okI q.1 q.2 = true := by decide +kernel
theorem dk94 : ∀ q ∈ tX6_fails, decode cX6_fails q.1 = .ok (q.2, iLen q.1 q.2) ∧ okI q.1 q.2 = true := by decide +kernel
theorem dk95 : ∀ q ∈ tX6_readWord, decode cX6_readWord q.1 = .ok (q.2, iLen q.1 q.2) ∧ okI q.1 q.2 = true := by decide +kernel
theorem dk96 : ∀ q ∈ tX6_code, decode cX6_code q.1 = .ok (q.2, iLen q.1 q.2) ∧ okI q.1 q.2 = true := by decide +kernel
theorem dk97 : ∀ q ∈ tX6_keyOf, decode cX6_keyOf q.1 = .ok (q.2, iLen q.1 q.2) ∧ okI q.1 q.2 = true := by decide +kernel
theorem dk98 : ∀ q ∈ tX6_readClause, decode cX6_readClause q.1 = .ok (q.2, iLen q.1 q.2) ∧ okI q.1 q.2 = true := by decide +kernel
theorem dk99 : ∀ q ∈ tX6_read, decode cX6_read q.1 = .ok (q.2, iLen q.1 q.2) ∧ okI q.1 q.2 = true := by decide +kernel
theorem dk100 : ∀ q ∈ tX6_fault, decode cX6_fault q.1 = .ok (q.2, iLen q.1 q.2) ∧ okI q.1 q.2 = true := by decide +kernel
theorem dk101 : ∀ q ∈ tX6_rule, decode cX6_rule q.1 = .ok (q.2, iLen q.1 q.2) ∧ okI q.1 q.2 = true := by decide +kernel
theorem dk102 : ∀ q ∈ tX6_findLines, decode cX6_findLines q.1 = .ok (q.2, iLen q.1 q.2) ∧ okI q.1 q.2 = true := by decide +kernel
theorem dk103 : ∀ q ∈ tX6_paragraph, decode cX6_paragraph q.1 = .ok (q.2, iLen q.1 q.2) ∧ okI q.1 q.2 = true := by decide +kernel
theorem dk104 : ∀ q ∈ tX6_clamp, decode cX6_clamp q.1 = .ok (q.2, iLen q.1 q.2) ∧ okI q.1 q.2 = true := by decide +kernel
theorem dk105 : ∀ q ∈ tX6_change, decode cX6_change q.1 = .ok (q.2, iLen q.1 q.2) ∧ okI q.1 q.2 = true := by decide +kernel
theorem dk106 : ∀ q ∈ tX6_isLine, decode cX6_isLine q.1 = .ok (q.2, iLen q.1 q.2) ∧ okI q.1 q.2 = true := by decide +kernel
theorem dk107 : ∀ q ∈ tX6_isNote, decode cX6_isNote q.1 = .ok (q.2, iLen q.1 q.2) ∧ okI q.1 q.2 = true := by decide +kernel
theorem dk108 : ∀ q ∈ tX6_note, decode cX6_note q.1 = .ok (q.2, iLen q.1 q.2) ∧ okI q.1 q.2 = true := by decide +kernel
theorem dk109 : ∀ q ∈ tX6_refer, decode cX6_refer q.1 = .ok (q.2, iLen q.1 q.2) ∧ okI q.1 q.2 = true := by decide +kernel
theorem dk110 : ∀ q ∈ tX6_lineOf, decode cX6_lineOf q.1 = .ok (q.2, iLen q.1 q.2) ∧ okI q.1 q.2 = true := by decide +kernel
theorem dk111 : ∀ q ∈ tX6_noteLine, decode cX6_noteLine q.1 = .ok (q.2, iLen q.1 q.2) ∧ okI q.1 q.2 = true := by decide +kernel
theorem dk112 : ∀ q ∈ tX6_figureLine, decode cX6_figureLine q.1 = .ok (q.2, iLen q.1 q.2) ∧ okI q.1 q.2 = true := by decide +kernel
theorem dk113 : ∀ q ∈ tX6_rowsOf, decode cX6_rowsOf q.1 = .ok (q.2, iLen q.1 q.2) ∧ okI q.1 q.2 = true := by decide +kernel
theorem dk114 : ∀ q ∈ tX6_figure, decode cX6_figure q.1 = .ok (q.2, iLen q.1 q.2) ∧ okI q.1 q.2 = true := by decide +kernel
theorem dk115 : ∀ q ∈ tX6_count, decode cX6_count q.1 = .ok (q.2, iLen q.1 q.2) ∧ okI q.1 q.2 = true := by decide +kernel
theorem dk116 : ∀ q ∈ tX6_line, decode cX6_line q.1 = .ok (q.2, iLen q.1 q.2) ∧ okI q.1 q.2 = true := by decide +kernel
theorem dk117 : ∀ q ∈ tX6_told, decode cX6_told q.1 = .ok (q.2, iLen q.1 q.2) ∧ okI q.1 q.2 = true := by decide +kernel
theorem dk118 : ∀ q ∈ tX6_findOrder, decode cX6_findOrder q.1 = .ok (q.2, iLen q.1 q.2) ∧ okI q.1 q.2 = true := by decide +kernel
theorem dk119 : ∀ q ∈ tX6_rowsIn, decode cX6_rowsIn q.1 = .ok (q.2, iLen q.1 q.2) ∧ okI q.1 q.2 = true := by decide +kernel
theorem dk120 : ∀ q ∈ tX6_lastIn, decode cX6_lastIn q.1 = .ok (q.2, iLen q.1 q.2) ∧ okI q.1 q.2 = true := by decide +kernel
theorem dk121 : ∀ q ∈ tX6_figuresAhead, decode cX6_figuresAhead q.1 = .ok (q.2, iLen q.1 q.2) ∧ okI q.1 q.2 = true := by decide +kernel
theorem dk122 : ∀ q ∈ tX6_margin, decode cX6_margin q.1 = .ok (q.2, iLen q.1 q.2) ∧ okI q.1 q.2 = true := by decide +kernel
theorem dk123 : ∀ q ∈ tX6_isLast, decode cX6_isLast q.1 = .ok (q.2, iLen q.1 q.2) ∧ okI q.1 q.2 = true := by decide +kernel
theorem dk124 : ∀ q ∈ tX6_costOf, decode cX6_costOf q.1 = .ok (q.2, iLen q.1 q.2) ∧ okI q.1 q.2 = true := by decide +kernel
theorem dk125 : ∀ q ∈ tX6_state, decode cX6_state q.1 = .ok (q.2, iLen q.1 q.2) ∧ okI q.1 q.2 = true := by decide +kernel
theorem dk126 : ∀ q ∈ tX6_look, decode cX6_look q.1 = .ok (q.2, iLen q.1 q.2) ∧ okI q.1 q.2 = true := by decide +kernel
theorem dk127 : ∀ q ∈ tX6_find, decode cX6_find q.1 = .ok (q.2, iLen q.1 q.2) ∧ okI q.1 q.2 = true := by decide +kernel
theorem dk128 : ∀ q ∈ tX6_pages, decode cX6_pages q.1 = .ok (q.2, iLen q.1 q.2) ∧ okI q.1 q.2 = true := by decide +kernel
theorem dk129 : ∀ q ∈ tX6_cost, decode cX6_cost q.1 = .ok (q.2, iLen q.1 q.2) ∧ okI q.1 q.2 = true := by decide +kernel
theorem dk130 : ∀ q ∈ tX6_page, decode cX6_page q.1 = .ok (q.2, iLen q.1 q.2) ∧ okI q.1 q.2 = true := by decide +kernel
theorem dk131 : ∀ q ∈ tX6_pageOfLine, decode cX6_pageOfLine q.1 = .ok (q.2, iLen q.1 q.2) ∧ okI q.1 q.2 = true := by decide +kernel
theorem dk132 : ∀ q ∈ tX6_pageOfFigure, decode cX6_pageOfFigure q.1 = .ok (q.2, iLen q.1 q.2) ∧ okI q.1 q.2 = true := by decide +kernel
theorem dk133 : ∀ q ∈ tX6_isSplit, decode cX6_isSplit q.1 = .ok (q.2, iLen q.1 q.2) ∧ okI q.1 q.2 = true := by decide +kernel
theorem dk134 : ∀ q ∈ tX6_marginRow, decode cX6_marginRow q.1 = .ok (q.2, iLen q.1 q.2) ∧ okI q.1 q.2 = true := by decide +kernel
theorem dk135 : ∀ q ∈ tX6_where, decode cX6_where q.1 = .ok (q.2, iLen q.1 q.2) ∧ okI q.1 q.2 = true := by decide +kernel
theorem dk136 : ∀ q ∈ tX6_mark, decode cX6_mark q.1 = .ok (q.2, iLen q.1 q.2) ∧ okI q.1 q.2 = true := by decide +kernel
theorem dk137 : ∀ q ∈ tX6_round, decode cX6_round q.1 = .ok (q.2, iLen q.1 q.2) ∧ okI q.1 q.2 = true := by decide +kernel
theorem dk138 : ∀ q ∈ tX6_settle, decode cX6_settle q.1 = .ok (q.2, iLen q.1 q.2) ∧ okI q.1 q.2 = true := by decide +kernel
theorem dk139 : ∀ q ∈ tX6_least, decode cX6_least q.1 = .ok (q.2, iLen q.1 q.2) ∧ okI q.1 q.2 = true := by decide +kernel
theorem dk140 : ∀ q ∈ tX6_tried, decode cX6_tried q.1 = .ok (q.2, iLen q.1 q.2) ∧ okI q.1 q.2 = true := by decide +kernel
theorem dkL : ∀ q ∈ tXL_law, decode code q.1 = .ok (q.2, iLen q.1 q.2) ∧ okI q.1 q.2 = true := by decide +kernel
theorem dec_ok : ∀ (k : Nat), ∀ q ∈ mT k, decode (mC k) q.1 = .ok (q.2, iLen q.1 q.2) ∧ okI q.1 q.2 = true
  | 0 => dk0
  | 1 => dk1
  | 2 => dk2
  | 3 => dk3
  | 4 => dk4
  | 5 => dk5
  | 6 => dk6
  | 7 => dk7
  | 8 => dk8
  | 9 => dk9
  | 10 => dk10
  | 11 => dk11
  | 12 => dk12
  | 13 => dk13
  | 14 => dk14
  | 15 => dk15
  | 16 => dk16
  | 17 => dk17
  | 18 => dk18
  | 19 => dk19
  | 20 => dk20
  | 21 => dk21
  | 22 => dk22
  | 23 => dk23
  | 24 => dk24
  | 25 => dk25
  | 26 => dk26
  | 27 => dk27
  | 28 => dk28
  | 29 => dk29
  | 30 => dk30
  | 31 => dk31
  | 32 => dk32
  | 33 => dk33
  | 34 => dk34
  | 35 => dk35
  | 36 => dk36
  | 37 => dk37
  | 38 => dk38
  | 39 => dk39
  | 40 => dk40
  | 41 => dk41
  | 42 => dk42
  | 43 => dk43
  | 44 => dk44
  | 45 => dk45
  | 46 => dk46
  | 47 => dk47
  | 48 => dk48
  | 49 => dk49
  | 50 => dk50
  | 51 => dk51
  | 52 => dk52
  | 53 => dk53
  | 54 => dk54
  | 55 => dk55
  | 56 => dk56
  | 57 => dk57
  | 58 => dk58
  | 59 => dk59
  | 60 => dk60
  | 61 => dk61
  | 62 => dk62
  | 63 => dk63
  | 64 => dk64
  | 65 => dk65
  | 66 => dk66
  | 67 => dk67
  | 68 => dk68
  | 69 => dk69
  | 70 => dk70
  | 71 => dk71
  | 72 => dk72
  | 73 => dk73
  | 74 => dk74
  | 75 => dk75
  | 76 => dk76
  | 77 => dk77
  | 78 => dk78
  | 79 => dk79
  | 80 => dk80
  | 81 => dk81
  | 82 => dk82
  | 83 => dk83
  | 84 => dk84
  | 85 => dk85
  | 86 => dk86
  | 87 => dk87
  | 88 => dk88
  | 89 => dk89
  | 90 => dk90
  | 91 => dk91
  | 92 => dk92
  | 93 => dk93
  | 94 => dk94
  | 95 => dk95
  | 96 => dk96
  | 97 => dk97
  | 98 => dk98
  | 99 => dk99
  | 100 => dk100
  | 101 => dk101
  | 102 => dk102
  | 103 => dk103
  | 104 => dk104
  | 105 => dk105
  | 106 => dk106
  | 107 => dk107
  | 108 => dk108
  | 109 => dk109
  | 110 => dk110
  | 111 => dk111
  | 112 => dk112
  | 113 => dk113
  | 114 => dk114
  | 115 => dk115
  | 116 => dk116
  | 117 => dk117
  | 118 => dk118
  | 119 => dk119
  | 120 => dk120
  | 121 => dk121
  | 122 => dk122
  | 123 => dk123
  | 124 => dk124
  | 125 => dk125
  | 126 => dk126
  | 127 => dk127
  | 128 => dk128
  | 129 => dk129
  | 130 => dk130
  | 131 => dk131
  | 132 => dk132
  | 133 => dk133
  | 134 => dk134
  | 135 => dk135
  | 136 => dk136
  | 137 => dk137
  | 138 => dk138
  | 139 => dk139
  | 140 => dk140
  | n + 141 => dkL
