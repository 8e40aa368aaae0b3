/-- DyerBells$Tape.put (1 tape) -/
def b_Tape_put : SM := (sq (sq (stS 2 (cE 24)) (whS (nB (zB 2 (vE 2))) (ifS (nB (cB 3 (thE (cE 0) (gE 65)) (cE 940))) (sq (asS 128 940 i2bI (thE (cE 0) (cE 0)) (thE (cE 0) (gE 65)) (o1 i2bI (o2 usrI (vE 1) (vE 2)))) (poS 65 addI (cE 0) (cE 1))) skS) (inS 2 (-8)) FU)) rvS)
def m_Tape_put : FM := mthF [0, 1] b_Tape_put
/-- DyerBells.feed (0 ) -/
def b_D_feed : SM := (sq (ifS (nB (cB 5 (thE (thE (cE 0) (cE 0)) (gE 65)) (cE 920))) (rtS (cE (-1))) skS) (sq (exS (clE m_Tape_put [(thE (cE 0) (cE 0)), (vE 1)])) (sq (exS (clE m_Tape_put [(thE (cE 0) (cE 0)), (vE 2)])) (sq (exS (clE m_Tape_put [(thE (cE 0) (cE 0)), (vE 3)])) (sq (exS (clE m_Tape_put [(thE (cE 0) (cE 0)), (vE 4)])) (sq (exS (clE m_Tape_put [(thE (cE 0) (cE 0)), (vE 5)])) (rtS (thE (thE (cE 0) (cE 0)) (gE 65)))))))))
def m_D_feed : FM := mthF [0, 1, 2, 3, 4, 5] b_D_feed
/-- DyerBells.end (0 ) -/
def b_D_end : SM := (sq (ifS (orB (zB 2 (vE 1)) (nB (cB 5 (vE 1) (thE (thE (cE 0) (cE 0)) (gE 65))))) (rtS (cE 0)) skS) (sq (pfS 65 (thE (cE 0) (cE 0)) (vE 1)) (rtS (cE 1))))
def m_D_end : FM := mthZ [0, 1] b_D_end
/-- DyerBells$River.forget (37 draft.river) -/
def b_River_forget : SM := (sq (pfS 2432 (thE (cE 0) (cE 0)) (cE 0)) (sq (pfS 2369 (cE 0) (cE 0)) (sq (pfS 2372 (cE 0) (cE 0)) (sq (pfS 2373 (cE 0) (cE 0)) (sq (pfS 2377 (cE 0) (cE 0)) (sq (pfS 2384 (cE 0) (cE 0)) (sq (pfS 2383 (cE 0) (cE (-1))) (sq (sq (stS 1 (cE 0)) (whS (nB (cB 3 (vE 1) (cE 7))) (asS 3264 7 idI (thE (cE 0) (cE 0)) (vE 1) (cE (-1))) (inS 1 1) FU)) (sq (sq (stS 1 (cE 0)) (whS (nB (cB 3 (vE 1) (cE 24))) (asS 2944 24 idI (thE (cE 0) (cE 0)) (vE 1) (cE 0)) (inS 1 1) FU)) (sq (sq (stS 1 (cE 0)) (whS (nB (cB 3 (vE 1) (cE 24))) (asS 3200 24 idI (thE (cE 0) (cE 0)) (vE 1) (cE (-1))) (inS 1 1) FU)) rvS))))))))))
def m_River_forget : FM := mthF [0] b_River_forget
/-- DyerBells$Order.forget (55 draft.order) -/
def b_Order_forget : SM := (sq (pfS 3520 (cE 0) (cE 0)) rvS)
def m_Order_forget : FM := mthF [0] b_Order_forget
/-- DyerBells$Sentence.forget (63 draft.sentence) -/
def b_Sentence_forget : SM := (sq (pfS 4032 (cE 0) (cE 0)) (sq (pfS 4033 (cE 0) (cE 0)) rvS))
def m_Sentence_forget : FM := mthF [0] b_Sentence_forget
/-- DyerBells$Scene.forget (36 draft) -/
def b_Scene_forget : SM := (sq (exS (clE m_River_forget [(thE (cE 0) (cE 0))])) (sq (exS (clE m_Order_forget [(thE (cE 0) (cE 0))])) (sq (pfS 3776 (thE (cE 0) (cE 0)) (cE 0)) (sq (exS (clE m_Sentence_forget [(thE (cE 0) (cE 0))])) rvS))))
def m_Scene_forget : FM := mthF [0] b_Scene_forget
/-- DyerBells$Tape.readRun (1 tape) -/
def b_Tape_readRun : SM := (sq (stS 2 (cE 0)) (sq (stS 3 (cE 0)) (sq (stS 4 (vE 1)) (sq (pfS 73 (cE 0) (cE 0)) (sq (pfS 72 (cE 0) (cE 0)) (sq (whS (nB (cB 3 (vE 4) (thE (cE 0) (gE 66)))) (sq (stS 5 (ldE 128 940 (thE (cE 0) (cE 0)) (vE 4))) (ifS (andB (nB (cB 2 (vE 5) (cE 97))) (nB (cB 4 (vE 5) (cE 122)))) (sq (inS 2 1) (pfS 73 (cE 0) (o2 iorL (o2 shlL (thE (cE 0) (gE 73)) (cE 8)) (o1 i2lI (vE 5))))) (ifS (andB (nB (cB 2 (vE 5) (cE 48))) (nB (cB 4 (vE 5) (cE 57)))) (sq (inS 3 1) (pfS 72 (cE 0) (o2 subI (o2 addI (o2 mulI (thE (cE 0) (gE 72)) (cE 10)) (vE 5)) (cE 48)))) brS))) (inS 4 1) FU) (sq (pfS 68 (cE 0) (vE 4)) (sq (ifS (andB (nB (zB 1 (vE 3))) (nB (cB 4 (vE 2) (cE 6)))) (pfS 69 (cE 0) (cE 1)) (pfS 69 (cE 0) (kE (andB (nB (zB 1 (vE 2))) (nB (cB 4 (vE 3) (cE 4)))) (cE 2) (cE 4)))) (rtS (kE (nB (zB 5 (o2 addI (vE 2) (vE 3)))) (cE 1) (cE 0)))))))))))
def m_Tape_readRun : FM := mthZ [0, 1] b_Tape_readRun
/-- DyerBells$Tape.readSign (1 tape) -/
def b_Tape_readSign : SM := (sq (pfS 72 (cE 0) (ldE 128 940 (thE (cE 0) (cE 0)) (vE 1))) (sq (stS 2 (kE (orB (orB (andB (nB (cB 2 (thE (cE 0) (gE 72)) (cE 59))) (cB 5 (thE (cE 0) (gE 72)) (cE 62))) (cB 0 (thE (cE 0) (gE 72)) (cE 40))) (nB (cB 1 (thE (cE 0) (gE 72)) (cE 41)))) (cE 1) (cE 0))) (sq (pfS 69 (cE 0) (kE (nB (zB 0 (vE 2))) (cE 3) (cE 4))) (sq (pfS 68 (cE 0) (o2 addI (vE 1) (cE 1))) rvS))))
def m_Tape_readSign : FM := mthF [0, 1] b_Tape_readSign
/-- DyerBells$Tape.advance (1 tape) -/
def b_Tape_advance : SM := (sq (ifS (nB (zB 0 (thE (cE 0) (gE 74)))) rvS skS) (sq (pfS 71 (cE 0) (thE (cE 0) (gE 70))) (sq (stS 1 (thE (cE 0) (gE 68))) (sq (whS (andB (nB (cB 3 (vE 1) (thE (cE 0) (gE 67)))) (orB (cB 0 (ldE 128 940 (thE (cE 0) (cE 0)) (vE 1)) (cE 32)) (nB (cB 1 (ldE 128 940 (thE (cE 0) (cE 0)) (vE 1)) (cE 10))))) (inS 1 1) skS FU) (sq (pfS 70 (cE 0) (o2 minI (vE 1) (thE (cE 0) (gE 67)))) (sq (ifS (nB (cB 2 (vE 1) (thE (cE 0) (gE 67)))) (pfS 69 (cE 0) (cE 0)) (ifS (nB (zB 1 (clE m_Tape_readRun [(cE 0), (vE 1)]))) (exS (clE m_Tape_readSign [(cE 0), (vE 1)])) skS)) rvS))))))
def m_Tape_advance : FM := mthF [0] b_Tape_advance
/-- DyerBells$Tape.open (1 tape) -/
def b_Tape_open : SM := (sq (pfS 66 (cE 0) (thE (cE 0) (gE 65))) (sq (pfS 65 (cE 0) (cE 0)) (sq (pfS 67 (cE 0) (o2 minI (thE (cE 0) (gE 66)) (vE 1))) (sq (pfS 68 (cE 0) (cE 0)) (sq (pfS 70 (cE 0) (cE 0)) (sq (pfS 74 (cE 0) (cE 0)) (sq (pfS 75 (cE 0) (cE 0)) (sq (exS (clE m_Tape_advance [(cE 0)])) rvS))))))))
def m_Tape_open : FM := mthF [0, 1] b_Tape_open
/-- DyerBells$Tape.goesOn (1 tape) -/
def b_Tape_goesOn : SM := (rtS (kE (andB (nB (zB 1 (thE (cE 0) (gE 74)))) (nB (zB 0 (thE (cE 0) (gE 69))))) (cE 1) (cE 0)))
def m_Tape_goesOn : FM := mthZ [0] b_Tape_goesOn
/-- DyerBells$Tape.isWord (1 tape) -/
def b_Tape_isWord : SM := (rtS (kE (andB (andB (nB (zB 1 (thE (cE 0) (gE 74)))) (nB (cB 1 (thE (cE 0) (gE 69)) (cE 1)))) (nB (zB 1 (o2 cmpL (thE (cE 0) (gE 73)) (vE 1))))) (cE 1) (cE 0)))
def m_Tape_isWord : FM := mthZ [0, 1] b_Tape_isWord
/-- DyerBells$Tape.refuseAt (1 tape) -/
def b_Tape_refuseAt : SM := (sq (ifS (nB (zB 1 (thE (cE 0) (gE 74)))) (sq (pfS 74 (cE 0) (vE 2)) (pfS 75 (cE 0) (vE 1))) skS) rvS)
def m_Tape_refuseAt : FM := mthF [0, 1, 2] b_Tape_refuseAt
/-- DyerBells$Tape.refuse (1 tape) -/
def b_Tape_refuse : SM := (sq (exS (clE m_Tape_refuseAt [(cE 0), (thE (cE 0) (gE 70)), (vE 1)])) rvS)
def m_Tape_refuse : FM := mthF [0, 1] b_Tape_refuse
/-- DyerBells$Tape.isRiverWord (1 tape) -/
def b_Tape_isRiverWord : SM := (rtS (kE (orB (orB (orB (orB (orB (orB (zB 0 (o2 cmpL (thE (cE 0) (gE 73)) (cE 491327153000))) (zB 0 (o2 cmpL (thE (cE 0) (gE 73)) (cE 109330211763570)))) (zB 0 (o2 cmpL (thE (cE 0) (gE 73)) (cE 444351474788)))) (zB 0 (o2 cmpL (thE (cE 0) (gE 73)) (cE 1970496882)))) (zB 0 (o2 cmpL (thE (cE 0) (gE 73)) (cE 1718382455)))) (zB 0 (o2 cmpL (thE (cE 0) (gE 73)) (cE 439905906532)))) (nB (zB 1 (o2 cmpL (thE (cE 0) (gE 73)) (cE 123580744625253))))) (cE 1) (cE 0)))
def m_Tape_isRiverWord : FM := mthZ [0] b_Tape_isRiverWord
/-- DyerBells$Tape.isSentenceWord (1 tape) -/
def b_Tape_isSentenceWord : SM := (rtS (kE (orB (orB (orB (orB (orB (orB (orB (orB (zB 0 (o2 cmpL (thE (cE 0) (gE 73)) (cE 28530))) (zB 0 (o2 cmpL (thE (cE 0) (gE 73)) (cE 6385252)))) (zB 0 (o2 cmpL (thE (cE 0) (gE 73)) (cE 7237492)))) (zB 0 (o2 cmpL (thE (cE 0) (gE 73)) (cE 512970877811)))) (zB 0 (o2 cmpL (thE (cE 0) (gE 73)) (cE 114767740888420)))) (zB 0 (o2 cmpL (thE (cE 0) (gE 73)) (cE 495672452197)))) (zB 0 (o2 cmpL (thE (cE 0) (gE 73)) (cE 1752135026)))) (zB 0 (o2 cmpL (thE (cE 0) (gE 73)) (cE 6578553)))) (nB (zB 1 (o2 cmpL (thE (cE 0) (gE 73)) (cE 123563851081060))))) (cE 1) (cE 0)))
def m_Tape_isSentenceWord : FM := mthZ [0] b_Tape_isSentenceWord
/-- DyerBells$Tape.isName (1 tape) -/
def b_Tape_isName : SM := (rtS (kE (andB (andB (andB (nB (cB 1 (thE (cE 0) (gE 69)) (cE 1))) (nB (zB 1 (clE m_Tape_isRiverWord [(cE 0)])))) (nB (zB 0 (o2 cmpL (thE (cE 0) (gE 73)) (cE 1650814060))))) (nB (zB 1 (clE m_Tape_isSentenceWord [(cE 0)])))) (cE 1) (cE 0)))
def m_Tape_isName : FM := mthZ [0] b_Tape_isName
/-- DyerBells$Names.find (38 draft.river.names) -/
def b_Names_find : SM := (sq (sq (stS 3 (cE 0)) (whS (nB (cB 3 (vE 3) (thE (cE 0) (gE 2432)))) (ifS (nB (zB 1 (o2 cmpL (ldE 2496 26 (thE (cE 0) (cE 0)) (vE 3)) (vE 1)))) (rtS (vE 3)) skS) (inS 3 1) FU)) (rtS (cE (-1))))
def m_Names_find : FM := mthF [0, 1] b_Names_find
/-- DyerBells$Names.takeNew (38 draft.river.names) -/
def b_Names_takeNew : SM := (sq (ifS (nB (zB 1 (clE m_Tape_isName [(cE 0)]))) (exS (clE m_Tape_refuse [(cE 0), (cE 1)])) (ifS (orB (cB 1 (clE m_Names_find [(cE 0), (thE (cE 0) (gE 73))]) (cE (-1))) (nB (cB 2 (thE (cE 0) (gE 2432)) (cE 26)))) (exS (clE m_Tape_refuse [(cE 0), (cE 3)])) (sq (asS 2496 26 idI (thE (cE 0) (cE 0)) (thE (cE 0) (gE 2432)) (thE (cE 0) (gE 73))) (sq (asS 2560 26 idI (thE (cE 0) (cE 0)) (thE (cE 0) (gE 2432)) (vE 2)) (sq (asS 2624 26 idI (thE (cE 0) (cE 0)) (thE (cE 0) (gE 2432)) (vE 3)) (sq (poS 2432 addI (cE 0) (cE 1)) (exS (clE m_Tape_advance [(cE 0)])))))))) rvS)
def m_Names_takeNew : FM := mthF [0, 1, 2, 3] b_Names_takeNew
/-- DyerBells$Tape.takeNumber (1 tape) -/
def b_Tape_takeNumber : SM := (sq (ifS (nB (cB 0 (thE (cE 0) (gE 69)) (cE 2))) (exS (clE m_Tape_refuse [(cE 0), (cE 1)])) (ifS (orB (cB 2 (thE (cE 0) (gE 72)) (vE 1)) (nB (cB 5 (thE (cE 0) (gE 72)) (vE 2)))) (exS (clE m_Tape_refuse [(cE 0), (cE 2)])) skS)) (sq (stS 3 (thE (cE 0) (gE 72))) (sq (exS (clE m_Tape_advance [(cE 0)])) (rtS (kE (nB (zB 1 (thE (cE 0) (gE 74)))) (vE 3) (cE 0))))))
def m_Tape_takeNumber : FM := mthF [0, 1, 2] b_Tape_takeNumber
/-- DyerBells$RiverText.readReach -/
def b_RiverText_readReach : SM := (sq (stS 2 (thE (cE 0) (gE 2369))) (sq (ifS (nB (cB 2 (vE 2) (cE 10))) (sq (exS (clE m_Tape_refuse [(cE 0), (cE 4)])) rvS) skS) (sq (exS (clE m_Tape_advance [(cE 0)])) (sq (exS (clE m_Names_takeNew [(thE (cE 0) (cE 0)), (cE 0), (cE 0), (vE 2)])) (sq (asS 2688 10 idI (thE (cE 0) (cE 0)) (vE 2) (clE m_Tape_takeNumber [(cE 0), (cE 1), (cE 9999)])) (sq (asS 2752 10 idI (thE (cE 0) (cE 0)) (vE 2) (clE m_Tape_takeNumber [(cE 0), (cE 0), (cE 500)])) (sq (pfS 2369 (cE 0) (o2 addI (vE 2) (cE 1))) rvS)))))))
def m_RiverText_readReach : FM := mthF [0, 1] b_RiverText_readReach
/-- DyerBells$RiverText.readColour -/
def b_RiverText_readColour : SM := (sq (stS 2 (thE (cE 0) (gE 2372))) (sq (ifS (nB (cB 2 (vE 2) (cE 4))) (sq (exS (clE m_Tape_refuse [(cE 0), (cE 4)])) rvS) skS) (sq (exS (clE m_Tape_advance [(cE 0)])) (sq (exS (clE m_Names_takeNew [(thE (cE 0) (cE 0)), (cE 0), (cE 1), (vE 2)])) (sq (pfS 2372 (cE 0) (o2 addI (vE 2) (cE 1))) rvS)))))
def m_RiverText_readColour : FM := mthF [0, 1] b_RiverText_readColour
/-- DyerBells$Names.takeTold (38 draft.river.names) -/
def b_Names_takeTold : SM := (sq (ifS (nB (zB 1 (clE m_Tape_isName [(cE 0)]))) (sq (exS (clE m_Tape_refuse [(cE 0), (cE 1)])) (rtS (cE (-1)))) skS) (sq (stS 3 (clE m_Names_find [(cE 0), (thE (cE 0) (gE 73))])) (sq (ifS (orB (cB 0 (vE 3) (cE (-1))) (nB (cB 0 (ldE 2560 26 (thE (cE 0) (cE 0)) (vE 3)) (vE 2)))) (sq (exS (clE m_Tape_refuse [(cE 0), (cE 3)])) (rtS (cE (-1)))) skS) (sq (exS (clE m_Tape_advance [(cE 0)])) (rtS (kE (nB (zB 1 (thE (cE 0) (gE 74)))) (ldE 2624 26 (thE (cE 0) (cE 0)) (vE 3)) (cE (-1))))))))
def m_Names_takeTold : FM := mthF [0, 1, 2] b_Names_takeTold
/-- DyerBells$Tape.isAtSign (1 tape) -/
def b_Tape_isAtSign : SM := (rtS (kE (andB (andB (nB (zB 1 (thE (cE 0) (gE 74)))) (nB (cB 1 (thE (cE 0) (gE 69)) (cE 3)))) (nB (cB 1 (thE (cE 0) (gE 72)) (vE 1)))) (cE 1) (cE 0)))
def m_Tape_isAtSign : FM := mthZ [0, 1] b_Tape_isAtSign
/-- DyerBells$Tape.refuseTaken (1 tape) -/
def b_Tape_refuseTaken : SM := (sq (exS (clE m_Tape_refuseAt [(cE 0), (thE (cE 0) (gE 71)), (vE 1)])) rvS)
def m_Tape_refuseTaken : FM := mthF [0, 1] b_Tape_refuseTaken
/-- DyerBells$RiverText.readShares -/
def b_RiverText_readShares : SM := (sq (stS 5 (cE 0)) (sq (sq (stS 6 (cE 0)) (whS (andB (andB (nB (cB 4 (vE 6) (cE 4))) (nB (zB 1 (thE (cE 0) (gE 74))))) (nB (zB 1 (clE m_Tape_isAtSign [(cE 0), (cE 59)])))) (sq (stS 7 (clE m_Names_takeTold [(cE 0), (cE 0), (cE 1)])) (sq (ifS (andB (nB (zB 2 (vE 7))) (nB (zB 0 (o2 andI (o2 shrI (vE 5) (vE 7)) (cE 1))))) (exS (clE m_Tape_refuseTaken [(cE 0), (cE 3)])) skS) (sq (stS 8 (clE m_Tape_takeNumber [(cE 0), (vE 4), (cE 9999)])) (ifS (andB (nB (zB 2 (vE 7))) (nB (cB 3 (vE 7) (cE 4)))) (sq (asS 2944 24 idI (cE 0) (o2 addI (vE 3) (vE 7)) (vE 8)) (stS 5 (o2 iorI (vE 5) (o2 shlI (cE 1) (vE 7))))) skS)))) (inS 6 1) FU)) rvS))
def m_RiverText_readShares : FM := mthF [0, 1, 2, 3, 4] b_RiverText_readShares
/-- DyerBells$RiverText.readGuild -/
def b_RiverText_readGuild : SM := (sq (stS 2 (thE (cE 0) (gE 2373))) (sq (ifS (nB (cB 2 (vE 2) (cE 6))) (sq (exS (clE m_Tape_refuse [(cE 0), (cE 4)])) rvS) skS) (sq (exS (clE m_Tape_advance [(cE 0)])) (sq (exS (clE m_Names_takeNew [(thE (cE 0) (cE 0)), (cE 0), (cE 2), (vE 2)])) (sq (asS 2816 6 idI (thE (cE 0) (cE 0)) (vE 2) (clE m_Names_takeTold [(thE (cE 0) (cE 0)), (cE 0), (cE 0)])) (sq (asS 2880 6 idI (thE (cE 0) (cE 0)) (vE 2) (clE m_Tape_takeNumber [(cE 0), (cE 1), (cE 24)])) (sq (ifS (nB (zB 0 (clE m_Tape_isAtSign [(cE 0), (cE 59)]))) (exS (clE m_Tape_refuse [(cE 0), (cE 1)])) skS) (sq (exS (clE m_RiverText_readShares [(cE 0), (thE (cE 0) (cE 0)), (thE (cE 0) (cE 0)), (o2 mulI (vE 2) (cE 4)), (cE 1)])) (sq (pfS 2373 (cE 0) (o2 addI (vE 2) (cE 1))) rvS)))))))))
def m_RiverText_readGuild : FM := mthF [0, 1] b_RiverText_readGuild
/-- DyerBells$RiverText.readShares -/
def b_RiverText_readShares_2 : SM := (sq (stS 5 (cE 0)) (sq (sq (stS 6 (cE 0)) (whS (andB (andB (nB (cB 4 (vE 6) (cE 4))) (nB (zB 1 (thE (cE 0) (gE 74))))) (nB (zB 1 (clE m_Tape_isAtSign [(cE 0), (cE 59)])))) (sq (stS 7 (clE m_Names_takeTold [(cE 0), (cE 0), (cE 1)])) (sq (ifS (andB (nB (zB 2 (vE 7))) (nB (zB 0 (o2 andI (o2 shrI (vE 5) (vE 7)) (cE 1))))) (exS (clE m_Tape_refuseTaken [(cE 0), (cE 3)])) skS) (sq (stS 8 (clE m_Tape_takeNumber [(cE 0), (vE 4), (cE 9999)])) (ifS (andB (nB (zB 2 (vE 7))) (nB (cB 3 (vE 7) (cE 4)))) (sq (asS 3200 24 idI (cE 0) (o2 addI (vE 3) (vE 7)) (vE 8)) (stS 5 (o2 iorI (vE 5) (o2 shlI (cE 1) (vE 7))))) skS)))) (inS 6 1) FU)) rvS))
def m_RiverText_readShares_2 : FM := mthF [0, 1, 2, 3, 4] b_RiverText_readShares_2
/-- DyerBells$RiverText.readUser -/
def b_RiverText_readUser : SM := (sq (stS 2 (thE (cE 0) (gE 2377))) (sq (ifS (nB (cB 2 (vE 2) (cE 6))) (sq (exS (clE m_Tape_refuse [(cE 0), (cE 4)])) rvS) skS) (sq (exS (clE m_Tape_advance [(cE 0)])) (sq (exS (clE m_Names_takeNew [(thE (cE 0) (cE 0)), (cE 0), (cE 3), (vE 2)])) (sq (asS 3008 6 idI (thE (cE 0) (cE 0)) (vE 2) (clE m_Names_takeTold [(thE (cE 0) (cE 0)), (cE 0), (cE 0)])) (sq (stS 3 (clE m_Tape_takeNumber [(cE 0), (cE 0), (cE 23)])) (sq (asS 3072 6 idI (thE (cE 0) (cE 0)) (vE 2) (vE 3)) (sq (asS 3136 6 idI (thE (cE 0) (cE 0)) (vE 2) (clE m_Tape_takeNumber [(cE 0), (o2 addI (vE 3) (cE 1)), (cE 24)])) (sq (exS (clE m_RiverText_readShares_2 [(cE 0), (thE (cE 0) (cE 0)), (thE (cE 0) (cE 0)), (o2 mulI (vE 2) (cE 4)), (cE 0)])) (sq (pfS 2377 (cE 0) (o2 addI (vE 2) (cE 1))) rvS))))))))))
def m_RiverText_readUser : FM := mthF [0, 1] b_RiverText_readUser
/-- DyerBells$RiverText.readFlow -/
def b_RiverText_readFlow : SM := (sq (exS (clE m_Tape_advance [(cE 0)])) (sq (stS 2 (clE m_Tape_takeNumber [(cE 0), (cE 0), (cE 6)])) (sq (ifS (nB (cB 0 (ldE 3264 7 (thE (cE 0) (cE 0)) (vE 2)) (cE (-1)))) (exS (clE m_Tape_refuseTaken [(cE 0), (cE 3)])) skS) (sq (asS 3264 7 idI (thE (cE 0) (cE 0)) (vE 2) (clE m_Tape_takeNumber [(cE 0), (cE 0), (cE 9999)])) rvS))))
def m_RiverText_readFlow : FM := mthF [0, 1] b_RiverText_readFlow
/-- DyerBells$RiverText.readFlood -/
def b_RiverText_readFlood : SM := (sq (ifS (nB (cB 0 (thE (cE 0) (gE 2383)) (cE (-1)))) (sq (exS (clE m_Tape_refuse [(cE 0), (cE 3)])) rvS) skS) (sq (exS (clE m_Tape_advance [(cE 0)])) (sq (pfS 2383 (cE 0) (clE m_Tape_takeNumber [(cE 0), (cE 1), (cE 9999)])) rvS)))
def m_RiverText_readFlood : FM := mthF [0, 1] b_RiverText_readFlood
/-- DyerBells$River.hasPebble (37 draft.river) -/
def b_River_hasPebble : SM := (sq (sq (stS 3 (cE 0)) (whS (nB (cB 3 (vE 3) (thE (cE 0) (gE 2384)))) (ifS (andB (nB (cB 1 (ldE 3328 12 (thE (cE 0) (cE 0)) (vE 3)) (vE 1))) (nB (cB 1 (ldE 3392 12 (thE (cE 0) (cE 0)) (vE 3)) (vE 2)))) (rtS (cE 1)) skS) (inS 3 1) FU)) (rtS (cE 0)))
def m_River_hasPebble : FM := mthZ [0, 1, 2] b_River_hasPebble
/-- DyerBells$RiverText.readPebble -/
def b_RiverText_readPebble : SM := (sq (stS 2 (thE (cE 0) (gE 2384))) (sq (ifS (nB (cB 2 (vE 2) (cE 12))) (sq (exS (clE m_Tape_refuse [(cE 0), (cE 4)])) rvS) skS) (sq (exS (clE m_Tape_advance [(cE 0)])) (sq (stS 3 (clE m_Names_takeTold [(thE (cE 0) (cE 0)), (cE 0), (cE 1)])) (sq (stS 4 (clE m_Tape_takeNumber [(cE 0), (cE 1), (cE 9999)])) (sq (ifS (nB (zB 0 (clE m_River_hasPebble [(cE 0), (vE 3), (vE 4)]))) (exS (clE m_Tape_refuseTaken [(cE 0), (cE 3)])) skS) (sq (asS 3328 12 idI (thE (cE 0) (cE 0)) (vE 2) (vE 3)) (sq (asS 3392 12 idI (thE (cE 0) (cE 0)) (vE 2) (vE 4)) (sq (asS 3456 12 idI (thE (cE 0) (cE 0)) (vE 2) (clE m_Tape_takeNumber [(cE 0), (cE 0), (cE 999)])) (sq (pfS 2384 (cE 0) (o2 addI (vE 2) (cE 1))) rvS))))))))))
def m_RiverText_readPebble : FM := mthF [0, 1] b_RiverText_readPebble
/-- DyerBells$Tape.takeSign (1 tape) -/
def b_Tape_takeSign : SM := (sq (ifS (nB (zB 1 (clE m_Tape_isAtSign [(cE 0), (vE 1)]))) (exS (clE m_Tape_refuse [(cE 0), (cE 1)])) skS) (sq (exS (clE m_Tape_advance [(cE 0)])) rvS))
def m_Tape_takeSign : FM := mthF [0, 1] b_Tape_takeSign
/-- DyerBells$Tape.close (1 tape) -/
def b_Tape_close : SM := (sq (ifS (orB (zB 1 (thE (cE 0) (gE 69))) (nB (cB 5 (thE (cE 0) (gE 66)) (thE (cE 0) (gE 67))))) (exS (clE m_Tape_refuse [(cE 0), (cE 1)])) skS) rvS)
def m_Tape_close : FM := mthF [0] b_Tape_close
/-- DyerBells$RiverText.readLines -/
def b_RiverText_readLines : SM := (sq (stS 2 (cE 0)) (sq (whS (andB (nB (cB 3 (vE 2) (cE 900))) (nB (zB 0 (clE m_Tape_goesOn [(cE 0)])))) (sq (ifS (nB (zB 0 (clE m_Tape_isWord [(cE 0), (cE 491327153000)]))) (exS (clE m_RiverText_readReach [(cE 0), (cE 0)])) (ifS (nB (zB 0 (clE m_Tape_isWord [(cE 0), (cE 109330211763570)]))) (exS (clE m_RiverText_readColour [(cE 0), (cE 0)])) (ifS (nB (zB 0 (clE m_Tape_isWord [(cE 0), (cE 444351474788)]))) (exS (clE m_RiverText_readGuild [(cE 0), (cE 0)])) (ifS (nB (zB 0 (clE m_Tape_isWord [(cE 0), (cE 1970496882)]))) (exS (clE m_RiverText_readUser [(cE 0), (cE 0)])) (ifS (nB (zB 0 (clE m_Tape_isWord [(cE 0), (cE 1718382455)]))) (exS (clE m_RiverText_readFlow [(cE 0), (cE 0)])) (ifS (nB (zB 0 (clE m_Tape_isWord [(cE 0), (cE 439905906532)]))) (exS (clE m_RiverText_readFlood [(cE 0), (cE 0)])) (ifS (nB (zB 0 (clE m_Tape_isWord [(cE 0), (cE 123580744625253)]))) (exS (clE m_RiverText_readPebble [(cE 0), (cE 0)])) (exS (clE m_Tape_refuse [(cE 0), (cE 1)]))))))))) (sq (exS (clE m_Tape_takeSign [(cE 0), (cE 59)])) (inS 2 1))) skS FU) (sq (exS (clE m_Tape_close [(cE 0)])) (rtS (vE 2)))))
def m_RiverText_readLines : FM := mthF [0, 1] b_RiverText_readLines
/-- DyerBells.isRefused (0 ) -/
def b_D_isRefused : SM := (sq (pfS 1 (cE 0) (thE (thE (cE 0) (cE 0)) (gE 74))) (rtS (kE (nB (zB 0 (thE (cE 0) (gE 1)))) (cE 1) (cE 0))))
def m_D_isRefused : FM := mthZ [0] b_D_isRefused
/-- DyerBells$Names.copyFrom (5 now.river.names) -/
def b_Names_copyFrom : SM := (sq (pfS 320 (cE 0) (thE (cE 0) (gE 2432))) (sq (cpS 2496 26 384 26 [(thE (cE 0) (cE 0)), (cE 0), (thE (cE 0) (cE 0)), (cE 0), (cE 26)]) (sq (cpS 2560 26 448 26 [(thE (cE 0) (cE 0)), (cE 0), (thE (cE 0) (cE 0)), (cE 0), (cE 26)]) (sq (cpS 2624 26 512 26 [(thE (cE 0) (cE 0)), (cE 0), (thE (cE 0) (cE 0)), (cE 0), (cE 26)]) rvS))))
def m_Names_copyFrom : FM := mthF [0, 1] b_Names_copyFrom
/-- DyerBells$River.copyFrom (4 now.river) -/
def b_River_copyFrom : SM := (sq (exS (clE m_Names_copyFrom [(thE (cE 0) (cE 0)), (thE (cE 0) (cE 0))])) (sq (pfS 257 (cE 0) (thE (cE 0) (gE 2369))) (sq (cpS 2688 10 576 10 [(thE (cE 0) (cE 0)), (cE 0), (thE (cE 0) (cE 0)), (cE 0), (cE 10)]) (sq (cpS 2752 10 640 10 [(thE (cE 0) (cE 0)), (cE 0), (thE (cE 0) (cE 0)), (cE 0), (cE 10)]) (sq (pfS 260 (cE 0) (thE (cE 0) (gE 2372))) (sq (pfS 261 (cE 0) (thE (cE 0) (gE 2373))) (sq (cpS 2816 6 704 6 [(thE (cE 0) (cE 0)), (cE 0), (thE (cE 0) (cE 0)), (cE 0), (cE 6)]) (sq (cpS 2880 6 768 6 [(thE (cE 0) (cE 0)), (cE 0), (thE (cE 0) (cE 0)), (cE 0), (cE 6)]) (sq (cpS 2944 24 832 24 [(thE (cE 0) (cE 0)), (cE 0), (thE (cE 0) (cE 0)), (cE 0), (cE 24)]) (sq (pfS 265 (cE 0) (thE (cE 0) (gE 2377))) (sq (cpS 3008 6 896 6 [(thE (cE 0) (cE 0)), (cE 0), (thE (cE 0) (cE 0)), (cE 0), (cE 6)]) (sq (cpS 3072 6 960 6 [(thE (cE 0) (cE 0)), (cE 0), (thE (cE 0) (cE 0)), (cE 0), (cE 6)]) (sq (cpS 3136 6 1024 6 [(thE (cE 0) (cE 0)), (cE 0), (thE (cE 0) (cE 0)), (cE 0), (cE 6)]) (sq (cpS 3200 24 1088 24 [(thE (cE 0) (cE 0)), (cE 0), (thE (cE 0) (cE 0)), (cE 0), (cE 24)]) (sq (cpS 3264 7 1152 7 [(thE (cE 0) (cE 0)), (cE 0), (thE (cE 0) (cE 0)), (cE 0), (cE 7)]) (sq (pfS 271 (cE 0) (thE (cE 0) (gE 2383))) (sq (pfS 272 (cE 0) (thE (cE 0) (gE 2384))) (sq (cpS 3328 12 1216 12 [(thE (cE 0) (cE 0)), (cE 0), (thE (cE 0) (cE 0)), (cE 0), (cE 12)]) (sq (cpS 3392 12 1280 12 [(thE (cE 0) (cE 0)), (cE 0), (thE (cE 0) (cE 0)), (cE 0), (cE 12)]) (sq (cpS 3456 12 1344 12 [(thE (cE 0) (cE 0)), (cE 0), (thE (cE 0) (cE 0)), (cE 0), (cE 12)]) rvS))))))))))))))))))))
def m_River_copyFrom : FM := mthF [0, 1] b_River_copyFrom
/-- DyerBells$Order.copyFrom (22 now.order) -/
def b_Order_copyFrom : SM := (sq (pfS 1408 (cE 0) (thE (cE 0) (gE 3520))) (sq (cpS 3584 40 1472 40 [(thE (cE 0) (cE 0)), (cE 0), (thE (cE 0) (cE 0)), (cE 0), (cE 40)]) (sq (cpS 3648 40 1536 40 [(thE (cE 0) (cE 0)), (cE 0), (thE (cE 0) (cE 0)), (cE 0), (cE 40)]) (sq (cpS 3712 40 1600 40 [(thE (cE 0) (cE 0)), (cE 0), (thE (cE 0) (cE 0)), (cE 0), (cE 40)]) rvS))))
def m_Order_copyFrom : FM := mthF [0, 1] b_Order_copyFrom
/-- DyerBells$Sights.copyFrom (26 now.sights) -/
def b_Sights_copyFrom : SM := (sq (pfS 1664 (cE 0) (thE (cE 0) (gE 3776))) (sq (cpS 3840 20 1728 20 [(thE (cE 0) (cE 0)), (cE 0), (thE (cE 0) (cE 0)), (cE 0), (cE 20)]) (sq (cpS 3904 20 1792 20 [(thE (cE 0) (cE 0)), (cE 0), (thE (cE 0) (cE 0)), (cE 0), (cE 20)]) (sq (cpS 3968 20 1856 20 [(thE (cE 0) (cE 0)), (cE 0), (thE (cE 0) (cE 0)), (cE 0), (cE 20)]) rvS))))
def m_Sights_copyFrom : FM := mthF [0, 1] b_Sights_copyFrom
/-- DyerBells$Sentence.copyFrom (30 now.sentence) -/
def b_Sentence_copyFrom : SM := (sq (pfS 1920 (cE 0) (thE (cE 0) (gE 4032))) (sq (pfS 1921 (cE 0) (thE (cE 0) (gE 4033))) (sq (cpS 4096 40 1984 40 [(thE (cE 0) (cE 0)), (cE 0), (thE (cE 0) (cE 0)), (cE 0), (cE 40)]) (sq (cpS 4160 40 2048 40 [(thE (cE 0) (cE 0)), (cE 0), (thE (cE 0) (cE 0)), (cE 0), (cE 40)]) (sq (cpS 4224 40 2112 40 [(thE (cE 0) (cE 0)), (cE 0), (thE (cE 0) (cE 0)), (cE 0), (cE 40)]) (sq (cpS 4288 40 2176 40 [(thE (cE 0) (cE 0)), (cE 0), (thE (cE 0) (cE 0)), (cE 0), (cE 40)]) (sq (cpS 4352 40 2240 40 [(thE (cE 0) (cE 0)), (cE 0), (thE (cE 0) (cE 0)), (cE 0), (cE 40)]) rvS)))))))
def m_Sentence_copyFrom : FM := mthF [0, 1] b_Sentence_copyFrom
/-- DyerBells$Scene.copyFrom (3 now) -/
def b_Scene_copyFrom : SM := (sq (exS (clE m_River_copyFrom [(thE (cE 0) (cE 0)), (thE (cE 0) (cE 0))])) (sq (exS (clE m_Order_copyFrom [(thE (cE 0) (cE 0)), (thE (cE 0) (cE 0))])) (sq (exS (clE m_Sights_copyFrom [(thE (cE 0) (cE 0)), (thE (cE 0) (cE 0))])) (sq (exS (clE m_Sentence_copyFrom [(thE (cE 0) (cE 0)), (thE (cE 0) (cE 0))])) rvS))))
def m_Scene_copyFrom : FM := mthF [0, 1] b_Scene_copyFrom
/-- DyerBells.river (0 ) -/
def b_D_river : SM := (sq (exS (clE m_Scene_forget [(thE (cE 0) (cE 0))])) (sq (exS (clE m_Tape_open [(thE (cE 0) (cE 0)), (cE 900)])) (sq (stS 1 (clE m_RiverText_readLines [(thE (cE 0) (cE 0)), (thE (thE (cE 0) (cE 0)) (cE 0))])) (sq (ifS (nB (zB 0 (clE m_D_isRefused [(cE 0)]))) (rtS (o2 subI (cE (-1)) (thE (thE (cE 0) (cE 0)) (gE 75)))) skS) (sq (exS (clE m_Scene_copyFrom [(thE (cE 0) (cE 0)), (thE (cE 0) (cE 0))])) (sq (pzS 10 (cE 0) (cE 1)) (rtS (vE 1))))))))
def m_D_river : FM := mthF [0] b_D_river
/-- DyerBells.fault (0 ) -/
def b_D_fault : SM := (rtS (thE (cE 0) (gE 1)))
def m_D_fault : FM := mthF [0] b_D_fault
/-- DyerBells.isReach (0 ) -/
def b_D_isReach : SM := (rtS (kE (andB (nB (zB 2 (vE 1))) (nB (cB 3 (vE 1) (thE (thE (thE (cE 0) (cE 0)) (cE 0)) (gE 257))))) (cE 1) (cE 0)))
def m_D_isReach : FM := mthZ [0, 1] b_D_isReach
/-- DyerBells.reach (0 ) -/
def b_D_reach : SM := (sq (ifS (orB (orB (zB 0 (clE m_D_isReach [(cE 0), (vE 1)])) (zB 2 (vE 2))) (nB (cB 5 (vE 2) (cE 1)))) thS skS) (rtS (kE (nB (zB 1 (vE 2))) (ldE 576 10 (thE (thE (thE (cE 0) (cE 0)) (cE 0)) (cE 0)) (vE 1)) (ldE 640 10 (thE (thE (thE (cE 0) (cE 0)) (cE 0)) (cE 0)) (vE 1)))))
def m_D_reach : FM := mthF [0, 1, 2] b_D_reach
/-- DyerBells.isGuild (0 ) -/
def b_D_isGuild : SM := (rtS (kE (andB (nB (zB 2 (vE 1))) (nB (cB 3 (vE 1) (thE (thE (thE (cE 0) (cE 0)) (cE 0)) (gE 261))))) (cE 1) (cE 0)))
def m_D_isGuild : FM := mthZ [0, 1] b_D_isGuild
/-- DyerBells.guild (0 ) -/
def b_D_guild : SM := (sq (ifS (orB (orB (zB 0 (clE m_D_isGuild [(cE 0), (vE 1)])) (zB 2 (vE 2))) (nB (cB 2 (vE 2) (o2 addI (cE 2) (thE (thE (thE (cE 0) (cE 0)) (cE 0)) (gE 260)))))) thS skS) (sq (ifS (nB (zB 1 (vE 2))) (rtS (ldE 704 6 (thE (thE (thE (cE 0) (cE 0)) (cE 0)) (cE 0)) (vE 1))) skS) (rtS (kE (nB (cB 1 (vE 2) (cE 1))) (ldE 768 6 (thE (thE (thE (cE 0) (cE 0)) (cE 0)) (cE 0)) (vE 1)) (ldE 832 24 (thE (thE (thE (cE 0) (cE 0)) (cE 0)) (cE 0)) (o2 subI (o2 addI (o2 mulI (vE 1) (cE 4)) (vE 2)) (cE 2)))))))
def m_D_guild : FM := mthF [0, 1, 2] b_D_guild
/-- DyerBells.isUser (0 ) -/
def b_D_isUser : SM := (rtS (kE (andB (nB (zB 2 (vE 1))) (nB (cB 3 (vE 1) (thE (thE (thE (cE 0) (cE 0)) (cE 0)) (gE 265))))) (cE 1) (cE 0)))
def m_D_isUser : FM := mthZ [0, 1] b_D_isUser
/-- DyerBells.user (0 ) -/
def b_D_user : SM := (sq (ifS (orB (orB (zB 0 (clE m_D_isUser [(cE 0), (vE 1)])) (zB 2 (vE 2))) (nB (cB 2 (vE 2) (o2 addI (cE 3) (thE (thE (thE (cE 0) (cE 0)) (cE 0)) (gE 260)))))) thS skS) (sq (ifS (nB (zB 1 (vE 2))) (rtS (ldE 896 6 (thE (thE (thE (cE 0) (cE 0)) (cE 0)) (cE 0)) (vE 1))) skS) (sq (ifS (nB (cB 1 (vE 2) (cE 1))) (rtS (ldE 960 6 (thE (thE (thE (cE 0) (cE 0)) (cE 0)) (cE 0)) (vE 1))) skS) (rtS (kE (nB (cB 1 (vE 2) (cE 2))) (ldE 1024 6 (thE (thE (thE (cE 0) (cE 0)) (cE 0)) (cE 0)) (vE 1)) (ldE 1088 24 (thE (thE (thE (cE 0) (cE 0)) (cE 0)) (cE 0)) (o2 subI (o2 addI (o2 mulI (vE 1) (cE 4)) (vE 2)) (cE 3))))))))
def m_D_user : FM := mthF [0, 1, 2] b_D_user
/-- DyerBells$River.flowOn (4 now.river) -/
def b_River_flowOn : SM := (rtS (kE (nB (cB 1 (ldE 1152 7 (thE (cE 0) (cE 0)) (vE 1)) (cE (-1)))) (cE 100) (ldE 1152 7 (thE (cE 0) (cE 0)) (vE 1))))
def m_River_flowOn : FM := mthF [0, 1] b_River_flowOn
/-- DyerBells.flow (0 ) -/
def b_D_flow : SM := (sq (ifS (orB (zB 2 (vE 1)) (nB (cB 2 (vE 1) (cE 7)))) thS skS) (rtS (clE m_River_flowOn [(thE (thE (cE 0) (cE 0)) (cE 0)), (vE 1)])))
def m_D_flow : FM := mthF [0, 1] b_D_flow
/-- DyerBells$Names.find (5 now.river.names) -/
def b_Names_find_2 : SM := (sq (sq (stS 3 (cE 0)) (whS (nB (cB 3 (vE 3) (thE (cE 0) (gE 320)))) (ifS (nB (zB 1 (o2 cmpL (ldE 384 26 (thE (cE 0) (cE 0)) (vE 3)) (vE 1)))) (rtS (vE 3)) skS) (inS 3 1) FU)) (rtS (cE (-1))))
def m_Names_find_2 : FM := mthF [0, 1] b_Names_find_2
/-- DyerBells$Names.takeTold (5 now.river.names) -/
def b_Names_takeTold_2 : SM := (sq (ifS (nB (zB 1 (clE m_Tape_isName [(cE 0)]))) (sq (exS (clE m_Tape_refuse [(cE 0), (cE 1)])) (rtS (cE (-1)))) skS) (sq (stS 3 (clE m_Names_find_2 [(cE 0), (thE (cE 0) (gE 73))])) (sq (ifS (orB (cB 0 (vE 3) (cE (-1))) (nB (cB 0 (ldE 448 26 (thE (cE 0) (cE 0)) (vE 3)) (vE 2)))) (sq (exS (clE m_Tape_refuse [(cE 0), (cE 3)])) (rtS (cE (-1)))) skS) (sq (exS (clE m_Tape_advance [(cE 0)])) (rtS (kE (nB (zB 1 (thE (cE 0) (gE 74)))) (ldE 512 26 (thE (cE 0) (cE 0)) (vE 3)) (cE (-1))))))))
def m_Names_takeTold_2 : FM := mthF [0, 1, 2] b_Names_takeTold_2
/-- DyerBells$Order.add (55 draft.order) -/
def b_Order_add : SM := (sq (ifS (nB (cB 3 (thE (cE 0) (gE 3520)) (cE 40))) (sq (asS 3584 40 idI (thE (cE 0) (cE 0)) (thE (cE 0) (gE 3520)) (vE 1)) (sq (asS 3648 40 idI (thE (cE 0) (cE 0)) (thE (cE 0) (gE 3520)) (vE 2)) (sq (asS 3712 40 idI (thE (cE 0) (cE 0)) (thE (cE 0) (gE 3520)) (vE 3)) (poS 3520 addI (cE 0) (cE 1))))) skS) rvS)
def m_Order_add : FM := mthF [0, 1, 2, 3] b_Order_add
/-- DyerBells$Order.readBell (55 draft.order) -/
def b_Order_readBell : SM := (sq (ifS (nB (zB 1 (clE m_Tape_isWord [(cE 0), (cE 1650814060)]))) (sq (exS (clE m_Tape_refuse [(cE 0), (cE 1)])) rvS) skS) (sq (ifS (nB (cB 2 (thE (cE 0) (gE 3520)) (cE 40))) (sq (exS (clE m_Tape_refuse [(cE 0), (cE 4)])) rvS) skS) (sq (exS (clE m_Tape_advance [(cE 0)])) (sq (stS 3 (clE m_Tape_takeNumber [(cE 0), (cE 0), (cE 6)])) (sq (stS 4 (o2 addI (o2 mulI (vE 3) (cE 24)) (clE m_Tape_takeNumber [(cE 0), (cE 0), (cE 23)]))) (sq (stS 5 (clE m_Names_takeTold_2 [(cE 0), (cE 0), (cE 2)])) (sq (stS 6 (clE m_Tape_takeNumber [(cE 0), (cE 1), (o2 minI (cE 24) (o2 subI (cE 168) (vE 4)))])) (sq (exS (clE m_Tape_takeSign [(cE 0), (cE 59)])) (sq (ifS (nB (zB 1 (thE (cE 0) (gE 74)))) (exS (clE m_Order_add [(cE 0), (vE 4), (vE 5), (vE 6)])) skS) rvS)))))))))
def m_Order_readBell : FM := mthF [0, 1, 2] b_Order_readBell
/-- DyerBells$Order.readBells (55 draft.order) -/
def b_Order_readBells : SM := (sq (sq (stS 3 (cE 0)) (whS (andB (nB (cB 4 (vE 3) (cE 40))) (nB (zB 0 (clE m_Tape_goesOn [(cE 0)])))) (exS (clE m_Order_readBell [(cE 0), (cE 0), (cE 0)])) (inS 3 1) FU)) (sq (exS (clE m_Tape_close [(cE 0)])) rvS))
def m_Order_readBells : FM := mthF [0, 1, 2] b_Order_readBells
/-- DyerBells.order (0 ) -/
def b_D_order : SM := (sq (exS (clE m_Order_forget [(thE (thE (cE 0) (cE 0)) (cE 0))])) (sq (exS (clE m_Tape_open [(thE (cE 0) (cE 0)), (cE 600)])) (sq (exS (clE m_Order_readBells [(thE (thE (cE 0) (cE 0)) (cE 0)), (thE (cE 0) (cE 0)), (thE (thE (thE (cE 0) (cE 0)) (cE 0)) (cE 0))])) (sq (ifS (nB (zB 0 (clE m_D_isRefused [(cE 0)]))) (rtS (o2 subI (cE (-1)) (thE (thE (cE 0) (cE 0)) (gE 75)))) skS) (sq (exS (clE m_Order_copyFrom [(thE (thE (cE 0) (cE 0)) (cE 0)), (thE (thE (cE 0) (cE 0)) (cE 0))])) (sq (pzS 10 (cE 0) (cE 1)) (rtS (thE (thE (thE (cE 0) (cE 0)) (cE 0)) (gE 1408)))))))))
def m_D_order : FM := mthF [0] b_D_order
/-- DyerBells.isHour (0 ) -/
def b_D_isHour : SM := (rtS (kE (andB (nB (zB 2 (vE 1))) (nB (cB 3 (vE 1) (cE 168)))) (cE 1) (cE 0)))
def m_D_isHour : FM := mthZ [0, 1] b_D_isHour
/-- DyerBells$Order.add (22 now.order) -/
def b_Order_add_2 : SM := (sq (ifS (nB (cB 3 (thE (cE 0) (gE 1408)) (cE 40))) (sq (asS 1472 40 idI (thE (cE 0) (cE 0)) (thE (cE 0) (gE 1408)) (vE 1)) (sq (asS 1536 40 idI (thE (cE 0) (cE 0)) (thE (cE 0) (gE 1408)) (vE 2)) (sq (asS 1600 40 idI (thE (cE 0) (cE 0)) (thE (cE 0) (gE 1408)) (vE 3)) (poS 1408 addI (cE 0) (cE 1))))) skS) rvS)
def m_Order_add_2 : FM := mthF [0, 1, 2, 3] b_Order_add_2
/-- DyerBells.ring (0 ) -/
def b_D_ring : SM := (sq (stS 4 (kE (andB (andB (andB (andB (nB (zB 0 (clE m_D_isHour [(cE 0), (vE 1)]))) (nB (zB 0 (clE m_D_isGuild [(cE 0), (vE 2)])))) (nB (cB 2 (vE 3) (cE 1)))) (nB (cB 4 (vE 3) (cE 24)))) (nB (cB 4 (o2 addI (vE 1) (vE 3)) (cE 168)))) (cE 1) (cE 0))) (sq (ifS (orB (zB 0 (vE 4)) (nB (cB 2 (thE (thE (thE (cE 0) (cE 0)) (cE 0)) (gE 1408)) (cE 40)))) (rtS (cE (-1))) skS) (sq (exS (clE m_Order_add_2 [(thE (thE (cE 0) (cE 0)) (cE 0)), (vE 1), (vE 2), (vE 3)])) (sq (pzS 10 (cE 0) (cE 1)) (rtS (o2 subI (thE (thE (thE (cE 0) (cE 0)) (cE 0)) (gE 1408)) (cE 1)))))))
def m_D_ring : FM := mthF [0, 1, 2, 3] b_D_ring
/-- DyerBells.undo (0 ) -/
def b_D_undo : SM := (sq (ifS (nB (zB 4 (thE (thE (thE (cE 0) (cE 0)) (cE 0)) (gE 1408)))) (rtS (cE (-1))) skS) (sq (poS 1408 subI (thE (thE (cE 0) (cE 0)) (cE 0)) (cE 1)) (sq (pzS 10 (cE 0) (cE 1)) (rtS (thE (thE (thE (cE 0) (cE 0)) (cE 0)) (gE 1408))))))
def m_D_undo : FM := mthF [0] b_D_undo
/-- DyerBells.isBell (0 ) -/
def b_D_isBell : SM := (rtS (kE (andB (nB (zB 2 (vE 1))) (nB (cB 3 (vE 1) (thE (thE (thE (cE 0) (cE 0)) (cE 0)) (gE 1408))))) (cE 1) (cE 0)))
def m_D_isBell : FM := mthZ [0, 1] b_D_isBell
/-- DyerBells.bell (0 ) -/
def b_D_bell : SM := (sq (ifS (orB (orB (zB 0 (clE m_D_isBell [(cE 0), (vE 1)])) (zB 2 (vE 2))) (nB (cB 5 (vE 2) (cE 2)))) thS skS) (sq (ifS (nB (zB 1 (vE 2))) (rtS (ldE 1472 40 (thE (thE (thE (cE 0) (cE 0)) (cE 0)) (cE 0)) (vE 1))) skS) (rtS (kE (nB (cB 1 (vE 2) (cE 1))) (ldE 1536 40 (thE (thE (thE (cE 0) (cE 0)) (cE 0)) (cE 0)) (vE 1)) (ldE 1600 40 (thE (thE (thE (cE 0) (cE 0)) (cE 0)) (cE 0)) (vE 1))))))
def m_D_bell : FM := mthF [0, 1, 2] b_D_bell
/-- DyerBells.isColour (0 ) -/
def b_D_isColour : SM := (rtS (kE (andB (nB (zB 2 (vE 1))) (nB (cB 3 (vE 1) (thE (thE (thE (cE 0) (cE 0)) (cE 0)) (gE 260))))) (cE 1) (cE 0)))
def m_D_isColour : FM := mthZ [0, 1] b_D_isColour
/-- DyerBells$Week.takeFrom (135 week) -/
def b_Week_takeFrom : SM := (sq (cpS 576 10 8704 10 [(thE (cE 0) (cE 0)), (cE 0), (thE (cE 0) (cE 0)), (cE 0), (cE 10)]) (sq (sq (stS 2 (cE 0)) (whS (nB (cB 3 (vE 2) (cE 7))) (asS 8768 7 idI (thE (cE 0) (cE 0)) (vE 2) (clE m_River_flowOn [(cE 0), (vE 2)])) (inS 2 1) FU)) rvS))
def m_Week_takeFrom : FM := mthF [0, 1] b_Week_takeFrom
/-- DyerBells$Week.rest (135 week) -/
def b_Week_rest : SM := (sq (sq (stS 1 (cE 0)) (whS (nB (cB 3 (vE 1) (cE 168))) (asS 8832 168 idI (thE (cE 0) (cE 0)) (vE 1) (cE 0)) (inS 1 1) FU)) rvS)
def m_Week_rest : FM := mthF [0] b_Week_rest
/-- DyerBells$Week.setWork (135 week) -/
def b_Week_setWork : SM := (sq (sq (stS 4 (o2 maxI (vE 2) (cE 0))) (whS (andB (nB (cB 3 (vE 4) (o2 addI (vE 2) (vE 3)))) (nB (cB 3 (vE 4) (cE 168)))) (aoS 8832 168 iorI (thE (cE 0) (cE 0)) (vE 4) (o2 shlI (cE 1) (vE 1))) (inS 4 1) FU)) rvS)
def m_Week_setWork : FM := mthF [0, 1, 2, 3] b_Week_setWork
/-- DyerBells$Week.prepare (135 week) -/
def b_Week_prepare : SM := (sq (exS (clE m_Week_takeFrom [(cE 0), (cE 0)])) (sq (exS (clE m_Week_rest [(cE 0)])) (sq (sq (stS 3 (cE 0)) (whS (nB (cB 3 (vE 3) (thE (cE 0) (gE 1408)))) (exS (clE m_Week_setWork [(cE 0), (ldE 1536 40 (thE (cE 0) (cE 0)) (vE 3)), (ldE 1472 40 (thE (cE 0) (cE 0)) (vE 3)), (ldE 1600 40 (thE (cE 0) (cE 0)) (vE 3))])) (inS 3 1) FU)) rvS)))
def m_Week_prepare : FM := mthF [0, 1, 2] b_Week_prepare
/-- DyerBells$Week.empty (135 week) -/
def b_Week_empty : SM := (sq (sq (stS 1 (cE 0)) (whS (nB (cB 3 (vE 1) (cE 40))) (sq (asS 8896 40 idI (thE (cE 0) (cE 0)) (vE 1) (cE 0)) (asS 8960 40 idI (thE (cE 0) (cE 0)) (vE 1) (cE 0))) (inS 1 1) FU)) rvS)
def m_Week_empty : FM := mthF [0] b_Week_empty
/-- DyerBells$Week.pour (135 week) -/
def b_Week_pour : SM := (sq (sq (stS 3 (cE 0)) (whS (nB (cB 3 (vE 3) (thE (cE 0) (gE 261)))) (ifS (nB (zB 0 (o2 andI (o2 shrI (vE 2) (vE 3)) (cE 1)))) (sq (stS 4 (cE 0)) (whS (nB (cB 3 (vE 4) (thE (cE 0) (gE 260)))) (aoS 8896 40 addI (thE (cE 0) (cE 0)) (o2 addI (o2 mulI (ldE 704 6 (thE (cE 0) (cE 0)) (vE 3)) (cE 4)) (vE 4)) (ldE 832 24 (thE (cE 0) (cE 0)) (o2 addI (o2 mulI (vE 3) (cE 4)) (vE 4)))) (inS 4 1) FU)) skS) (inS 3 1) FU)) rvS)
def m_Week_pour : FM := mthF [0, 1, 2] b_Week_pour
/-- DyerBells$River.floodFrom (4 now.river) -/
def b_River_floodFrom : SM := (rtS (kE (nB (cB 1 (thE (cE 0) (gE 271)) (cE (-1)))) (cE 9999) (thE (cE 0) (gE 271))))
def m_River_floodFrom : FM := mthF [0] b_River_floodFrom
/-- DyerBells$Week.washUp (135 week) -/
def b_Week_washUp : SM := (sq (sq (stS 2 (cE 0)) (whS (nB (cB 3 (vE 2) (o2 mulI (thE (cE 0) (gE 257)) (cE 4)))) (sq (stS 3 (dvE (ldE 8960 40 (thE (cE 0) (cE 0)) (vE 2)) (cE 2))) (sq (aoS 8960 40 subI (thE (cE 0) (cE 0)) (vE 2) (vE 3)) (aoS 8896 40 addI (thE (cE 0) (cE 0)) (vE 2) (vE 3)))) (inS 2 1) FU)) rvS)
def m_Week_washUp : FM := mthF [0, 1] b_Week_washUp
/-- DyerBells$Week.partOf -/
def b_Week_partOf : SM := (rtS (kE (andB (nB (zB 5 (vE 0))) (nB (zB 5 (vE 2)))) (o1 l2iI (dlE (o2 mulI (o1 i2lI (vE 0)) (o1 i2lI (vE 1))) (o1 i2lI (vE 2)))) (cE 0)))
def m_Week_partOf : FM := mthF [0, 1, 2] b_Week_partOf
/-- DyerBells$Week.carry (135 week) -/
def b_Week_carry : SM := (sq (sq (stS 3 (cE 0)) (whS (nB (cB 3 (vE 3) (thE (cE 0) (gE 260)))) (sq (asS 9024 4 idI (thE (cE 0) (cE 0)) (vE 3) (cE 0)) (sq (stS 4 (o2 subI (thE (cE 0) (gE 257)) (cE 1))) (whS (nB (zB 2 (vE 4))) (sq (stS 5 (o2 addI (o2 mulI (vE 4) (cE 4)) (vE 3))) (sq (stS 6 (clE m_Week_partOf [(ldE 8896 40 (thE (cE 0) (cE 0)) (vE 5)), (o2 minI (vE 2) (ldE 8704 10 (thE (cE 0) (cE 0)) (vE 4))), (ldE 8704 10 (thE (cE 0) (cE 0)) (vE 4))])) (sq (aoS 8896 40 subI (thE (cE 0) (cE 0)) (vE 5) (vE 6)) (ifS (nB (cB 3 (vE 4) (o2 subI (thE (cE 0) (gE 257)) (cE 1)))) (aoS 8896 40 addI (thE (cE 0) (cE 0)) (o2 addI (vE 5) (cE 4)) (vE 6)) (asS 9024 4 idI (thE (cE 0) (cE 0)) (vE 3) (vE 6)))))) (inS 4 (-1)) FU))) (inS 3 1) FU)) rvS)
def m_Week_carry : FM := mthF [0, 1, 2] b_Week_carry
/-- DyerBells$Week.sink (135 week) -/
def b_Week_sink : SM := (sq (sq (stS 2 (cE 0)) (whS (nB (cB 3 (vE 2) (thE (cE 0) (gE 257)))) (sq (stS 3 (cE 0)) (whS (nB (cB 3 (vE 3) (thE (cE 0) (gE 260)))) (sq (stS 4 (o2 addI (o2 mulI (vE 2) (cE 4)) (vE 3))) (sq (stS 5 (clE m_Week_partOf [(ldE 8896 40 (thE (cE 0) (cE 0)) (vE 4)), (ldE 640 10 (thE (cE 0) (cE 0)) (vE 2)), (cE 1000)])) (sq (aoS 8896 40 subI (thE (cE 0) (cE 0)) (vE 4) (vE 5)) (aoS 8960 40 addI (thE (cE 0) (cE 0)) (vE 4) (vE 5))))) (inS 3 1) FU)) (inS 2 1) FU)) rvS)
def m_Week_sink : FM := mthF [0, 1] b_Week_sink
/-- DyerBells$Week.pass (135 week) -/
def b_Week_pass : SM := (sq (stS 3 (ldE 8768 7 (thE (cE 0) (cE 0)) (dvE (vE 2) (cE 24)))) (sq (exS (clE m_Week_pour [(cE 0), (cE 0), (ldE 8832 168 (thE (cE 0) (cE 0)) (vE 2))])) (sq (ifS (nB (cB 2 (vE 3) (clE m_River_floodFrom [(cE 0)]))) (exS (clE m_Week_washUp [(cE 0), (cE 0)])) skS) (sq (exS (clE m_Week_carry [(cE 0), (cE 0), (vE 3)])) (sq (exS (clE m_Week_sink [(cE 0), (cE 0)])) rvS)))))
def m_Week_pass : FM := mthF [0, 1, 2] b_Week_pass
/-- DyerBells.shadeOf -/
def b_D_shadeOf : SM := (rtS (kE (nB (zB 5 (vE 1))) (dvE (o2 mulI (vE 0) (cE 100)) (vE 1)) (cE 0)))
def m_D_shadeOf : FM := mthF [0, 1] b_D_shadeOf
/-- DyerBells$Week.suffers (135 week) -/
def b_Week_suffers : SM := (sq (stS 3 (ldE 896 6 (thE (cE 0) (cE 0)) (vE 2))) (sq (sq (stS 4 (cE 0)) (whS (nB (cB 3 (vE 4) (thE (cE 0) (gE 260)))) (sq (stS 5 (ldE 1088 24 (thE (cE 0) (cE 0)) (o2 addI (o2 mulI (vE 2) (cE 4)) (vE 4)))) (ifS (andB (nB (cB 0 (vE 5) (cE (-1)))) (nB (cB 5 (clE m_D_shadeOf [(ldE 8896 40 (thE (cE 0) (cE 0)) (o2 addI (o2 mulI (vE 3) (cE 4)) (vE 4))), (ldE 8704 10 (thE (cE 0) (cE 0)) (vE 3))]) (vE 5)))) (rtS (cE 1)) skS)) (inS 4 1) FU)) (rtS (cE 0))))
def m_Week_suffers : FM := mthZ [0, 1, 2] b_Week_suffers
/-- DyerBells$Week.harmedBehind (135 week) -/
def b_Week_harmedBehind : SM := (sq (stS 3 (rmE (vE 2) (cE 24))) (sq (stS 4 (cE 0)) (sq (sq (stS 5 (cE 0)) (whS (nB (cB 3 (vE 5) (thE (cE 0) (gE 265)))) (ifS (andB (andB (nB (cB 2 (vE 3) (ldE 960 6 (thE (cE 0) (cE 0)) (vE 5)))) (nB (cB 3 (vE 3) (ldE 1024 6 (thE (cE 0) (cE 0)) (vE 5))))) (nB (zB 0 (clE m_Week_suffers [(cE 0), (cE 0), (vE 5)])))) (stS 4 (o2 iorI (vE 4) (o2 shlI (cE 1) (vE 5)))) skS) (inS 5 1) FU)) (rtS (vE 4)))))
def m_Week_harmedBehind : FM := mthF [0, 1, 2] b_Week_harmedBehind
/-- java/lang/Integer.bitCount -/
def b_Integer_bitCount : SM := (sq (stS 0 (o2 subI (vE 0) (o2 andI (o2 usrI (vE 0) (cE 1)) (cE 1431655765)))) (sq (stS 0 (o2 addI (o2 andI (vE 0) (cE 858993459)) (o2 andI (o2 usrI (vE 0) (cE 2)) (cE 858993459)))) (sq (stS 0 (o2 andI (o2 addI (vE 0) (o2 usrI (vE 0) (cE 4))) (cE 252645135))) (sq (stS 0 (o2 addI (vE 0) (o2 usrI (vE 0) (cE 8)))) (sq (stS 0 (o2 addI (vE 0) (o2 usrI (vE 0) (cE 16)))) (rtS (o2 andI (vE 0) (cE 63))))))))
def m_Integer_bitCount : FM := mthF [0] b_Integer_bitCount
/-- DyerBells$Past.keep (142 past) -/
def b_Past_keep : SM := (sq (cpS 8896 40 9152 6720 [(thE (cE 0) (cE 0)), (cE 0), (thE (cE 0) (cE 0)), (o2 mulI (vE 3) (cE 40)), (cE 40)]) (sq (cpS 8960 40 9216 6720 [(thE (cE 0) (cE 0)), (cE 0), (thE (cE 0) (cE 0)), (o2 mulI (vE 3) (cE 40)), (cE 40)]) (sq (cpS 9024 4 9280 672 [(thE (cE 0) (cE 0)), (cE 0), (thE (cE 0) (cE 0)), (o2 mulI (vE 3) (cE 4)), (cE 4)]) (sq (asS 9344 168 idI (thE (cE 0) (cE 0)) (vE 3) (ldE 8832 168 (thE (cE 0) (cE 0)) (vE 3))) (sq (asS 9408 168 idI (thE (cE 0) (cE 0)) (vE 3) (clE m_Week_harmedBehind [(cE 0), (cE 0), (vE 3)])) (sq (asS 9472 169 idI (thE (cE 0) (cE 0)) (o2 addI (vE 3) (cE 1)) (o2 addI (ldE 9472 169 (thE (cE 0) (cE 0)) (vE 3)) (clE m_Integer_bitCount [(ldE 9408 168 (thE (cE 0) (cE 0)) (vE 3))]))) rvS))))))
def m_Past_keep : FM := mthF [0, 1, 2, 3] b_Past_keep
/-- DyerBells.past (0 ) -/
def b_D_past : SM := (sq (ifS (nB (zB 0 (thE (cE 0) (gE 10)))) (sq (exS (clE m_Week_prepare [(thE (cE 0) (cE 0)), (thE (thE (cE 0) (cE 0)) (cE 0)), (thE (thE (cE 0) (cE 0)) (cE 0))])) (sq (exS (clE m_Week_empty [(thE (cE 0) (cE 0))])) (sq (sq (stS 1 (cE 0)) (whS (nB (cB 3 (vE 1) (cE 168))) (sq (exS (clE m_Week_pass [(thE (cE 0) (cE 0)), (thE (thE (cE 0) (cE 0)) (cE 0)), (vE 1)])) (exS (clE m_Past_keep [(thE (cE 0) (cE 0)), (thE (thE (cE 0) (cE 0)) (cE 0)), (thE (cE 0) (cE 0)), (vE 1)]))) (inS 1 1) FU)) (pzS 10 (cE 0) (cE 0))))) skS) (rtS (thE (cE 0) (cE 0))))
def m_D_past : FM := mthF [0] b_D_past
/-- DyerBells.at (0 ) -/
def b_D_at : SM := (sq (ifS (orB (orB (zB 0 (clE m_D_isHour [(cE 0), (vE 1)])) (zB 0 (clE m_D_isReach [(cE 0), (vE 2)]))) (nB (zB 1 (clE m_D_isColour [(cE 0), (vE 3)])))) (rtS (cE (-1))) skS) (sq (stS 5 (clE m_D_past [(cE 0)])) (sq (stS 6 (o2 addI (o2 addI (o2 mulI (vE 1) (cE 40)) (o2 mulI (vE 2) (cE 4))) (vE 3))) (tsS (vE 4) 0 [(rtS (ldE 9152 6720 (thE (cE 0) (cE 0)) (vE 6))), (rtS (ldE 9216 6720 (thE (cE 0) (cE 0)) (vE 6))), (rtS (clE m_D_shadeOf [(ldE 9152 6720 (thE (cE 0) (cE 0)) (vE 6)), (ldE 576 10 (thE (thE (thE (cE 0) (cE 0)) (cE 0)) (cE 0)) (vE 2))]))] (rtS (cE (-1)))))))
def m_D_at : FM := mthF [0, 1, 2, 3, 4] b_D_at
/-- DyerBells.passed (0 ) -/
def b_D_passed : SM := (sq (ifS (orB (zB 0 (clE m_D_isHour [(cE 0), (vE 1)])) (nB (zB 1 (clE m_D_isColour [(cE 0), (vE 2)])))) (rtS (cE (-1))) skS) (rtS (ldE 9280 672 (thE (clE m_D_past [(cE 0)]) (cE 0)) (o2 addI (o2 mulI (vE 1) (cE 4)) (vE 2)))))
def m_D_passed : FM := mthF [0, 1, 2] b_D_passed
/-- DyerBells$Past.sumPut (142 past) -/
def b_Past_sumPut : SM := (sq (stS 3 (cE 0)) (sq (sq (stS 4 (cE 0)) (whS (nB (cB 3 (vE 4) (cE 168))) (sq (stS 5 (cE 0)) (whS (nB (cB 3 (vE 5) (thE (cE 0) (gE 261)))) (ifS (nB (zB 0 (o2 andI (o2 shrI (ldE 9344 168 (thE (cE 0) (cE 0)) (vE 4)) (vE 5)) (cE 1)))) (stS 3 (o2 addI (vE 3) (ldE 832 24 (thE (cE 0) (cE 0)) (o2 addI (o2 mulI (vE 5) (cE 4)) (vE 2))))) skS) (inS 5 1) FU)) (inS 4 1) FU)) (rtS (vE 3))))
def m_Past_sumPut : FM := mthF [0, 1, 2] b_Past_sumPut
/-- DyerBells$Past.sumPassed (142 past) -/
def b_Past_sumPassed : SM := (sq (stS 2 (cE 0)) (sq (sq (stS 3 (cE 0)) (whS (nB (cB 3 (vE 3) (cE 168))) (stS 2 (o2 addI (vE 2) (ldE 9280 672 (thE (cE 0) (cE 0)) (o2 addI (o2 mulI (vE 3) (cE 4)) (vE 1))))) (inS 3 1) FU)) (rtS (vE 2))))
def m_Past_sumPassed : FM := mthF [0, 1] b_Past_sumPassed
/-- DyerBells$Past.sumLast (142 past) -/
def b_Past_sumLast : SM := (sq (stS 3 (cE 0)) (sq (sq (stS 4 (cE 0)) (whS (nB (cB 3 (vE 4) (cE 10))) (sq (stS 5 (o2 addI (o2 addI (cE 6680) (o2 mulI (vE 4) (cE 4))) (vE 2))) (ifS (andB (nB (zB 2 (vE 5))) (nB (cB 3 (vE 5) (thE (cE 0) (cE 6720))))) (stS 3 (o2 addI (vE 3) (ldE 9152 6720 (cE 0) (vE 5)))) skS)) (inS 4 1) FU)) (rtS (vE 3))))
def m_Past_sumLast : FM := mthF [0, 1, 2] b_Past_sumLast
/-- DyerBells$Past.sumLast (142 past) -/
def b_Past_sumLast_2 : SM := (sq (stS 3 (cE 0)) (sq (sq (stS 4 (cE 0)) (whS (nB (cB 3 (vE 4) (cE 10))) (sq (stS 5 (o2 addI (o2 addI (cE 6680) (o2 mulI (vE 4) (cE 4))) (vE 2))) (ifS (andB (nB (zB 2 (vE 5))) (nB (cB 3 (vE 5) (thE (cE 0) (cE 6720))))) (stS 3 (o2 addI (vE 3) (ldE 9216 6720 (cE 0) (vE 5)))) skS)) (inS 4 1) FU)) (rtS (vE 3))))
def m_Past_sumLast_2 : FM := mthF [0, 1, 2] b_Past_sumLast_2
/-- DyerBells.sum (0 ) -/
def b_D_sum : SM := (sq (ifS (nB (zB 1 (clE m_D_isColour [(cE 0), (vE 1)]))) (rtS (cE (-1))) skS) (sq (stS 3 (clE m_D_past [(cE 0)])) (tsS (vE 2) 0 [(rtS (clE m_Past_sumPut [(cE 0), (thE (thE (cE 0) (cE 0)) (cE 0)), (vE 1)])), (rtS (clE m_Past_sumPassed [(cE 0), (vE 1)])), (rtS (clE m_Past_sumLast [(cE 0), (thE (cE 0) (cE 0)), (vE 1)])), (rtS (clE m_Past_sumLast_2 [(cE 0), (thE (cE 0) (cE 0)), (vE 1)]))] (rtS (cE (-1))))))
def m_D_sum : FM := mthF [0, 1, 2] b_D_sum
/-- DyerBells$Past.shadeAt (142 past) -/
def b_Past_shadeAt : SM := (rtS (clE m_D_shadeOf [(ldE 9152 6720 (thE (cE 0) (cE 0)) (o2 addI (o2 addI (o2 mulI (vE 2) (cE 40)) (o2 mulI (vE 3) (cE 4))) (vE 4))), (ldE 576 10 (thE (cE 0) (cE 0)) (vE 3))]))
def m_Past_shadeAt : FM := mthF [0, 1, 2, 3, 4] b_Past_shadeAt
/-- DyerBells$River.fineOf (4 now.river) -/
def b_River_fineOf : SM := (sq (stS 3 (cE 0)) (sq (stS 4 (cE 0)) (sq (sq (stS 5 (cE 0)) (whS (nB (cB 3 (vE 5) (thE (cE 0) (gE 272)))) (ifS (andB (andB (nB (cB 1 (ldE 1216 12 (thE (cE 0) (cE 0)) (vE 5)) (vE 1))) (nB (cB 4 (ldE 1280 12 (thE (cE 0) (cE 0)) (vE 5)) (vE 2)))) (nB (cB 5 (ldE 1280 12 (thE (cE 0) (cE 0)) (vE 5)) (vE 3)))) (sq (stS 3 (ldE 1280 12 (thE (cE 0) (cE 0)) (vE 5))) (stS 4 (ldE 1344 12 (thE (cE 0) (cE 0)) (vE 5)))) skS) (inS 5 1) FU)) (rtS (vE 4)))))
def m_River_fineOf : FM := mthF [0, 1, 2] b_River_fineOf
/-- DyerBells.fine (0 ) -/
def b_D_fine : SM := (sq (ifS (orB (zB 0 (clE m_D_isHour [(cE 0), (vE 1)])) (nB (zB 1 (clE m_D_isReach [(cE 0), (vE 2)])))) (rtS (cE (-1))) skS) (sq (stS 3 (clE m_D_past [(cE 0)])) (sq (stS 4 (cE 0)) (sq (sq (stS 5 (cE 0)) (whS (nB (cB 3 (vE 5) (thE (thE (thE (cE 0) (cE 0)) (cE 0)) (gE 260)))) (stS 4 (o2 addI (vE 4) (clE m_River_fineOf [(thE (thE (cE 0) (cE 0)) (cE 0)), (vE 5), (clE m_Past_shadeAt [(cE 0), (thE (thE (cE 0) (cE 0)) (cE 0)), (vE 1), (vE 2), (vE 5)])]))) (inS 5 1) FU)) (rtS (vE 4))))))
def m_D_fine : FM := mthF [0, 1, 2] b_D_fine
/-- DyerBells$Past.isHarmed (142 past) -/
def b_Past_isHarmed : SM := (rtS (kE (nB (zB 0 (o2 andI (o2 shrI (ldE 9408 168 (thE (cE 0) (cE 0)) (vE 2)) (vE 1)) (cE 1)))) (cE 1) (cE 0)))
def m_Past_isHarmed : FM := mthZ [0, 1, 2] b_Past_isHarmed
/-- DyerBells.harmed (0 ) -/
def b_D_harmed : SM := (sq (ifS (orB (zB 0 (clE m_D_isUser [(cE 0), (vE 1)])) (nB (cB 3 (vE 2) (cE (-1))))) (rtS (cE (-1))) skS) (sq (stS 3 (clE m_D_past [(cE 0)])) (sq (stS 4 (cE 0)) (sq (sq (stS 5 (cE 0)) (whS (nB (cB 3 (vE 5) (cE 168))) (ifS (nB (zB 0 (clE m_Past_isHarmed [(cE 0), (vE 1), (vE 5)]))) (sq (ifS (nB (cB 1 (vE 4) (vE 2))) (rtS (vE 5)) skS) (inS 4 1)) skS) (inS 5 1) FU)) (rtS (kE (nB (cB 1 (vE 2) (cE (-1)))) (vE 4) (cE (-1))))))))
def m_D_harmed : FM := mthF [0, 1, 2] b_D_harmed
/-- DyerBells.harm (0 ) -/
def b_D_harm : SM := (rtS (ldE 9472 169 (thE (clE m_D_past [(cE 0)]) (cE 0)) (cE 168)))
def m_D_harm : FM := mthF [0] b_D_harm
/-- DyerBells.blame (0 ) -/
def b_D_blame : SM := (sq (ifS (orB (zB 0 (clE m_D_isGuild [(cE 0), (vE 1)])) (nB (zB 1 (clE m_D_isUser [(cE 0), (vE 2)])))) (rtS (cE (-1))) skS) (sq (stS 3 (clE m_D_past [(cE 0)])) (sq (exS (clE m_Week_prepare [(thE (cE 0) (cE 0)), (thE (thE (cE 0) (cE 0)) (cE 0)), (thE (thE (cE 0) (cE 0)) (cE 0))])) (sq (sq (stS 4 (cE 0)) (whS (nB (cB 3 (vE 4) (cE 168))) (aoS 8832 168 andI (thE (thE (cE 0) (cE 0)) (cE 0)) (vE 4) (o2 xorI (o2 shlI (cE 1) (vE 1)) (cE (-1)))) (inS 4 1) FU)) (sq (exS (clE m_Week_empty [(thE (cE 0) (cE 0))])) (sq (stS 4 (cE 0)) (sq (sq (stS 5 (cE 0)) (whS (nB (cB 3 (vE 5) (cE 168))) (sq (exS (clE m_Week_pass [(thE (cE 0) (cE 0)), (thE (thE (cE 0) (cE 0)) (cE 0)), (vE 5)])) (ifS (andB (nB (zB 0 (clE m_Past_isHarmed [(cE 0), (vE 2), (vE 5)]))) (nB (zB 1 (o2 andI (o2 shrI (clE m_Week_harmedBehind [(thE (cE 0) (cE 0)), (thE (thE (cE 0) (cE 0)) (cE 0)), (vE 5)]) (vE 2)) (cE 1))))) (inS 4 1) skS)) (inS 5 1) FU)) (rtS (vE 4)))))))))
def m_D_blame : FM := mthF [0, 1, 2] b_D_blame
/-- DyerBells.duty (0 ) -/
def b_D_duty : SM := (sq (ifS (nB (zB 1 (clE m_D_isGuild [(cE 0), (vE 1)]))) (rtS (cE (-1))) skS) (sq (stS 2 (clE m_D_past [(cE 0)])) (sq (stS 3 (ldE 768 6 (thE (thE (thE (cE 0) (cE 0)) (cE 0)) (cE 0)) (vE 1))) (sq (sq (stS 4 (cE 0)) (whS (nB (cB 3 (vE 4) (cE 168))) (stS 3 (o2 subI (vE 3) (o2 andI (o2 shrI (ldE 9344 168 (thE (cE 0) (cE 0)) (vE 4)) (vE 1)) (cE 1)))) (inS 4 1) FU)) (rtS (o2 maxI (vE 3) (cE 0)))))))
def m_D_duty : FM := mthF [0, 1] b_D_duty
/-- DyerBells.pulse (0 ) -/
def b_D_pulse : SM := (sq (ifS (orB (orB (orB (orB (orB (zB 0 (clE m_D_isReach [(cE 0), (vE 1)])) (zB 0 (clE m_D_isColour [(cE 0), (vE 2)]))) (cB 2 (vE 3) (cE 1))) (cB 4 (vE 3) (cE 9999))) (zB 2 (vE 4))) (nB (cB 5 (vE 4) (cE 2)))) (rtS (cE (-2))) skS) (sq (exS (clE m_Week_takeFrom [(thE (cE 0) (cE 0)), (thE (thE (cE 0) (cE 0)) (cE 0))])) (sq (exS (clE m_Week_rest [(thE (cE 0) (cE 0))])) (sq (exS (clE m_Week_empty [(thE (cE 0) (cE 0))])) (sq (asS 8896 40 idI (thE (thE (cE 0) (cE 0)) (cE 0)) (o2 addI (o2 mulI (vE 1) (cE 4)) (vE 2)) (vE 3)) (sq (stS 5 (cE (-1))) (sq (stS 6 (cE (-1))) (sq (stS 7 (cE 0)) (sq (stS 8 (cE 0)) (sq (sq (stS 9 (cE 0)) (whS (nB (cB 3 (vE 9) (cE 168))) (sq (exS (clE m_Week_pass [(thE (cE 0) (cE 0)), (thE (thE (cE 0) (cE 0)) (cE 0)), (vE 9)])) (sq (stS 10 (ldE 9024 4 (thE (thE (cE 0) (cE 0)) (cE 0)) (vE 2))) (sq (stS 8 (o2 addI (vE 8) (vE 10))) (sq (ifS (andB (nB (zB 5 (vE 10))) (nB (cB 1 (vE 5) (cE (-1))))) (stS 5 (vE 9)) skS) (ifS (nB (cB 5 (vE 10) (vE 7))) (sq (stS 7 (vE 10)) (stS 6 (vE 9))) skS))))) (inS 9 1) FU)) (sq (ifS (nB (zB 1 (vE 4))) (rtS (vE 5)) skS) (rtS (kE (nB (cB 1 (vE 4) (cE 1))) (vE 6) (vE 8))))))))))))))
def m_D_pulse : FM := mthF [0, 1, 2, 3, 4] b_D_pulse
/-- DyerBells$Tape.byteAt (1 tape) -/
def b_Tape_byteAt : SM := (rtS (kE (andB (nB (zB 2 (vE 1))) (nB (cB 3 (vE 1) (cE 940)))) (o2 andI (ldE 128 940 (thE (cE 0) (cE 0)) (vE 1)) (cE 255)) (cE (-1))))
def m_Tape_byteAt : FM := mthF [0, 1] b_Tape_byteAt
/-- DyerBells.chooseGuilds (0 ) -/
def b_D_chooseGuilds : SM := (sq (ifS (orB (orB (cB 2 (vE 1) (cE 1)) (cB 4 (vE 1) (cE 4))) (nB (cB 5 (o2 addI (thE (thE (thE (cE 0) (cE 0)) (cE 0)) (gE 1408)) (vE 1)) (cE 40)))) (rtS (cE 0)) skS) (sq (stS 2 (cE 0)) (sq (sq (stS 3 (cE 0)) (whS (nB (cB 3 (vE 3) (vE 1))) (sq (stS 4 (clE m_Tape_byteAt [(thE (cE 0) (cE 0)), (vE 3)])) (sq (ifS (orB (zB 0 (clE m_D_isGuild [(cE 0), (vE 4)])) (nB (zB 0 (o2 andI (o2 shrI (vE 2) (vE 4)) (cE 1))))) (rtS (cE 0)) skS) (sq (stS 2 (o2 iorI (vE 2) (o2 shlI (cE 1) (vE 4)))) (asS 9536 4 idI (thE (cE 0) (cE 0)) (vE 3) (vE 4))))) (inS 3 1) FU)) (rtS (cE 1)))))
def m_D_chooseGuilds : FM := mthZ [0, 1] b_D_chooseGuilds
/-- DyerBells.firstTried (0 ) -/
def b_D_firstTried : SM := (sq (stS 3 (cE 6)) (sq (sq (stS 4 (cE 0)) (whS (andB (nB (cB 4 (vE 4) (vE 1))) (nB (cB 3 (vE 4) (cE 4)))) (stS 3 (o2 minI (vE 3) (ldE 9600 4 (thE (cE 0) (cE 0)) (vE 4)))) (inS 4 1) FU)) (rtS (o2 addI (o2 mulI (vE 3) (cE 24)) (vE 2)))))
def m_D_firstTried : FM := mthF [0, 1, 2] b_D_firstTried
/-- DyerBells$Week.beginBehind (135 week) -/
def b_Week_beginBehind : SM := (sq (ifS (nB (zB 4 (vE 2))) (exS (clE m_Week_empty [(cE 0)])) (sq (cpS 9152 6720 8896 40 [(thE (cE 0) (cE 0)), (o2 mulI (o2 subI (vE 2) (cE 1)) (cE 40)), (thE (cE 0) (cE 0)), (cE 0), (cE 40)]) (cpS 9216 6720 8960 40 [(thE (cE 0) (cE 0)), (o2 mulI (o2 subI (vE 2) (cE 1)) (cE 40)), (thE (cE 0) (cE 0)), (cE 0), (cE 40)]))) rvS)
def m_Week_beginBehind : FM := mthF [0, 1, 2] b_Week_beginBehind
/-- DyerBells$Week.addHarm (135 week) -/
def b_Week_addHarm : SM := (sq (stS 5 (vE 3)) (sq (sq (stS 6 (vE 2)) (whS (andB (nB (cB 3 (vE 6) (cE 168))) (nB (cB 3 (vE 5) (vE 4)))) (sq (exS (clE m_Week_pass [(cE 0), (cE 0), (vE 6)])) (stS 5 (o2 addI (vE 5) (clE m_Integer_bitCount [(clE m_Week_harmedBehind [(cE 0), (cE 0), (vE 6)])])))) (inS 6 1) FU)) (rtS (vE 5))))
def m_Week_addHarm : FM := mthF [0, 1, 2, 3, 4] b_Week_addHarm
/-- DyerBells$Week.harmFrom (135 week) -/
def b_Week_harmFrom : SM := (sq (exS (clE m_Week_beginBehind [(cE 0), (cE 0), (vE 3)])) (rtS (clE m_Week_addHarm [(cE 0), (cE 0), (vE 3), (ldE 9472 169 (thE (cE 0) (cE 0)) (vE 3)), (vE 4)])))
def m_Week_harmFrom : FM := mthF [0, 1, 2, 3, 4] b_Week_harmFrom
/-- DyerBells$Week.resetWork (135 week) -/
def b_Week_resetWork : SM := (sq (sq (stS 5 (o2 maxI (vE 3) (cE 0))) (whS (andB (nB (cB 3 (vE 5) (o2 addI (vE 3) (vE 4)))) (nB (cB 3 (vE 5) (cE 168)))) (asS 8832 168 idI (thE (cE 0) (cE 0)) (vE 5) (o2 iorI (o2 andI (ldE 8832 168 (thE (cE 0) (cE 0)) (vE 5)) (o2 xorI (o2 shlI (cE 1) (vE 2)) (cE (-1)))) (o2 andI (ldE 9344 168 (thE (cE 0) (cE 0)) (vE 5)) (o2 shlI (cE 1) (vE 2))))) (inS 5 1) FU)) rvS)
def m_Week_resetWork : FM := mthF [0, 1, 2, 3, 4] b_Week_resetWork
def b_D_tryDays (F : FM) : SM := (sq (ifS (orB (orB (zB 2 (vE 1)) (cB 3 (vE 1) (vE 2))) (nB (cB 2 (vE 1) (cE 4)))) (rtS (vE 4)) skS) (sq (stS 5 (ldE 9536 4 (thE (cE 0) (cE 0)) (vE 1))) (sq (stS 6 (ldE 768 6 (thE (thE (thE (cE 0) (cE 0)) (cE 0)) (cE 0)) (vE 5))) (sq (sq (stS 7 (cE 0)) (whS (nB (cB 3 (vE 7) (cE 7))) (sq (stS 8 (o2 addI (o2 mulI (vE 7) (cE 24)) (vE 3))) (sq (ifS (nB (cB 5 (o2 addI (vE 8) (vE 6)) (cE 168))) brS skS) (sq (asS 9600 4 idI (thE (cE 0) (cE 0)) (vE 1) (vE 7)) (sq (exS (clE m_Week_setWork [(thE (cE 0) (cE 0)), (vE 5), (vE 8), (vE 6)])) (sq (stS 9 (clE m_Week_harmFrom [(thE (cE 0) (cE 0)), (thE (thE (cE 0) (cE 0)) (cE 0)), (thE (cE 0) (cE 0)), (clE m_D_firstTried [(cE 0), (vE 1), (vE 3)]), (vE 4)])) (sq (ifS (andB (nB (cB 3 (vE 9) (vE 4))) (nB (cB 3 (o2 addI (vE 1) (cE 1)) (vE 2)))) (stS 4 (clE F [(cE 0), (o2 addI (vE 1) (cE 1)), (vE 2), (vE 3), (vE 4)])) (ifS (nB (cB 3 (vE 9) (vE 4))) (sq (stS 4 (vE 9)) (cpS 9600 4 9664 4 [(thE (cE 0) (cE 0)), (cE 0), (thE (cE 0) (cE 0)), (cE 0), (vE 2)])) skS)) (exS (clE m_Week_resetWork [(thE (cE 0) (cE 0)), (thE (cE 0) (cE 0)), (vE 5), (vE 8), (vE 6)])))))))) (inS 7 1) FU)) (rtS (vE 4))))))
def g_D_tryDays : Nat → FM
  | 0 => (fun _ _ => none)
  | n + 1 => (mthF [0, 1, 2, 3, 4] (b_D_tryDays (g_D_tryDays n)))
/-- DyerBells.days (0 ) -/
def b_D_days : SM := (sq (stS 2 (thE (thE (cE 0) (cE 0)) (gE 65))) (sq (pfS 65 (thE (cE 0) (cE 0)) (cE 0)) (sq (ifS (orB (orB (zB 2 (vE 1)) (cB 3 (vE 1) (cE 24))) (nB (zB 1 (clE m_D_chooseGuilds [(cE 0), (vE 2)])))) (rtS (cE (-2))) skS) (sq (exS (clE m_D_past [(cE 0)])) (sq (exS (clE m_Week_prepare [(thE (cE 0) (cE 0)), (thE (thE (cE 0) (cE 0)) (cE 0)), (thE (thE (cE 0) (cE 0)) (cE 0))])) (sq (stS 3 (clE (g_D_tryDays 60) [(cE 0), (cE 0), (vE 2), (vE 1), (cE 1009)])) (sq (ifS (nB (cB 1 (vE 3) (cE 1009))) (rtS (cE (-1))) skS) (sq (pfS 14 (cE 0) (vE 2)) (rtS (vE 3))))))))))
def m_D_days : FM := mthF [0, 1] b_D_days
/-- DyerBells.dayOf (0 ) -/
def b_D_dayOf : SM := (rtS (kE (andB (andB (nB (zB 2 (vE 1))) (nB (cB 3 (vE 1) (thE (cE 0) (gE 14))))) (nB (cB 3 (vE 1) (cE 4)))) (ldE 9664 4 (thE (cE 0) (cE 0)) (vE 1)) (cE (-1))))
def m_D_dayOf : FM := mthF [0, 1] b_D_dayOf
/-- DyerBells$Order.swapGuilds (22 now.order) -/
def b_Order_swapGuilds : SM := (sq (stS 3 (ldE 1536 40 (thE (cE 0) (cE 0)) (vE 1))) (sq (asS 1536 40 idI (thE (cE 0) (cE 0)) (vE 1) (ldE 1536 40 (thE (cE 0) (cE 0)) (vE 2))) (sq (asS 1536 40 idI (thE (cE 0) (cE 0)) (vE 2) (vE 3)) rvS)))
def m_Order_swapGuilds : FM := mthF [0, 1, 2] b_Order_swapGuilds
/-- DyerBells.exchangeFirst (0 ) -/
def b_D_exchangeFirst : SM := (sq (stS 2 (clE m_D_past [(cE 0)])) (sq (stS 3 (thE (thE (cE 0) (cE 0)) (cE 0))) (sq (sq (stS 4 (cE 0)) (whS (nB (cB 3 (vE 4) (thE (cE 0) (gE 1408)))) (sq (stS 5 (o2 addI (vE 4) (cE 1))) (whS (nB (cB 3 (vE 5) (thE (cE 0) (gE 1408)))) (ifS (nB (cB 0 (ldE 1536 40 (thE (cE 0) (cE 0)) (vE 4)) (ldE 1536 40 (thE (cE 0) (cE 0)) (vE 5)))) (sq (exS (clE m_Order_swapGuilds [(cE 0), (vE 4), (vE 5)])) (sq (exS (clE m_Week_prepare [(thE (cE 0) (cE 0)), (thE (thE (cE 0) (cE 0)) (cE 0)), (cE 0)])) (sq (stS 6 (clE m_Week_harmFrom [(thE (cE 0) (cE 0)), (thE (thE (cE 0) (cE 0)) (cE 0)), (cE 0), (o2 minI (ldE 1472 40 (thE (cE 0) (cE 0)) (vE 4)) (ldE 1472 40 (thE (cE 0) (cE 0)) (vE 5))), (vE 1)])) (sq (ifS (nB (cB 3 (vE 6) (vE 1))) (sq (pzS 10 (cE 0) (cE 1)) (rtS (vE 6))) skS) (exS (clE m_Order_swapGuilds [(cE 0), (vE 4), (vE 5)])))))) skS) (inS 5 1) FU)) (inS 4 1) FU)) (rtS (vE 1)))))
def m_D_exchangeFirst : FM := mthF [0, 1] b_D_exchangeFirst
/-- DyerBells.exchange (0 ) -/
def b_D_exchange : SM := (sq (stS 1 (ldE 9472 169 (thE (clE m_D_past [(cE 0)]) (cE 0)) (cE 168))) (sq (pfS 15 (cE 0) (cE 0)) (sq (sq (stS 2 (cE 0)) (whS (andB (nB (cB 3 (vE 2) (cE 50))) (nB (zB 5 (vE 1)))) (sq (stS 3 (clE m_D_exchangeFirst [(cE 0), (vE 1)])) (sq (ifS (nB (cB 2 (vE 3) (vE 1))) brS skS) (sq (stS 1 (vE 3)) (poS 15 addI (cE 0) (cE 1))))) (inS 2 1) FU)) (rtS (vE 1)))))
def m_D_exchange : FM := mthF [0] b_D_exchange
/-- DyerBells.exchanges (0 ) -/
def b_D_exchanges : SM := (rtS (thE (cE 0) (gE 15)))
def m_D_exchanges : FM := mthF [0] b_D_exchanges
/-- DyerBells.late (0 ) -/
def b_D_late : SM := (sq (ifS (nB (zB 1 (clE m_D_isBell [(cE 0), (vE 1)]))) (rtS (cE (-1))) skS) (sq (stS 2 (clE m_D_past [(cE 0)])) (sq (stS 3 (ldE 9472 169 (thE (cE 0) (cE 0)) (cE 168))) (sq (stS 4 (ldE 1472 40 (thE (thE (thE (cE 0) (cE 0)) (cE 0)) (cE 0)) (vE 1))) (sq (stS 5 (o2 minI (cE 24) (o2 subI (o2 subI (cE 168) (vE 4)) (ldE 1600 40 (thE (thE (thE (cE 0) (cE 0)) (cE 0)) (cE 0)) (vE 1))))) (sq (stS 6 (cE 0)) (sq (sq (stS 7 (cE 1)) (whS (nB (cB 4 (vE 7) (vE 5))) (sq (asS 1472 40 idI (thE (thE (thE (cE 0) (cE 0)) (cE 0)) (cE 0)) (vE 1) (o2 addI (vE 4) (vE 7))) (sq (exS (clE m_Week_prepare [(thE (cE 0) (cE 0)), (thE (thE (cE 0) (cE 0)) (cE 0)), (thE (thE (cE 0) (cE 0)) (cE 0))])) (sq (ifS (nB (cB 5 (clE m_Week_harmFrom [(thE (cE 0) (cE 0)), (thE (thE (cE 0) (cE 0)) (cE 0)), (cE 0), (vE 4), (o2 addI (vE 3) (cE 1))]) (vE 3))) brS skS) (stS 6 (vE 7))))) (inS 7 1) FU)) (sq (asS 1472 40 idI (thE (thE (thE (cE 0) (cE 0)) (cE 0)) (cE 0)) (vE 1) (vE 4)) (rtS (vE 6))))))))))
def m_D_late : FM := mthF [0, 1] b_D_late
/-- DyerBells$Sights.add (26 now.sights) -/
def b_Sights_add : SM := (sq (ifS (nB (cB 3 (thE (cE 0) (gE 1664)) (cE 20))) (sq (asS 1728 20 idI (thE (cE 0) (cE 0)) (thE (cE 0) (gE 1664)) (vE 1)) (sq (asS 1792 20 idI (thE (cE 0) (cE 0)) (thE (cE 0) (gE 1664)) (vE 2)) (sq (asS 1856 20 idI (thE (cE 0) (cE 0)) (thE (cE 0) (gE 1664)) (vE 3)) (poS 1664 addI (cE 0) (cE 1))))) skS) rvS)
def m_Sights_add : FM := mthF [0, 1, 2, 3] b_Sights_add
/-- DyerBells.see (0 ) -/
def b_D_see : SM := (sq (ifS (orB (orB (orB (zB 0 (clE m_D_isHour [(cE 0), (vE 1)])) (zB 0 (clE m_D_isColour [(cE 0), (vE 2)]))) (zB 2 (vE 3))) (nB (cB 2 (thE (thE (thE (cE 0) (cE 0)) (cE 0)) (gE 1664)) (cE 20)))) (rtS (cE (-1))) skS) (sq (exS (clE m_Sights_add [(thE (thE (cE 0) (cE 0)) (cE 0)), (vE 1), (vE 2), (vE 3)])) (rtS (o2 subI (thE (thE (thE (cE 0) (cE 0)) (cE 0)) (gE 1664)) (cE 1)))))
def m_D_see : FM := mthF [0, 1, 2, 3] b_D_see
/-- DyerBells$Sights.firstUnlike (26 now.sights) -/
def b_Sights_firstUnlike : SM := (sq (stS 2 (cE 168)) (sq (sq (stS 3 (cE 0)) (whS (nB (cB 3 (vE 3) (thE (cE 0) (gE 1664)))) (ifS (nB (cB 0 (ldE 9280 672 (thE (cE 0) (cE 0)) (o2 addI (o2 mulI (ldE 1728 20 (thE (cE 0) (cE 0)) (vE 3)) (cE 4)) (ldE 1792 20 (thE (cE 0) (cE 0)) (vE 3)))) (ldE 1856 20 (thE (cE 0) (cE 0)) (vE 3)))) (stS 2 (o2 minI (vE 2) (ldE 1728 20 (thE (cE 0) (cE 0)) (vE 3)))) skS) (inS 3 1) FU)) (rtS (vE 2))))
def m_Sights_firstUnlike : FM := mthF [0, 1] b_Sights_firstUnlike
/-- DyerBells$Sights.lastHour (26 now.sights) -/
def b_Sights_lastHour : SM := (sq (stS 1 (cE (-1))) (sq (sq (stS 2 (cE 0)) (whS (nB (cB 3 (vE 2) (thE (cE 0) (gE 1664)))) (stS 1 (o2 maxI (vE 1) (ldE 1728 20 (thE (cE 0) (cE 0)) (vE 2)))) (inS 2 1) FU)) (rtS (vE 1))))
def m_Sights_lastHour : FM := mthF [0] b_Sights_lastHour
/-- DyerBells$Sights.agree (26 now.sights) -/
def b_Sights_agree : SM := (sq (sq (stS 3 (cE 0)) (whS (nB (cB 3 (vE 3) (thE (cE 0) (gE 1664)))) (ifS (andB (nB (cB 1 (ldE 1728 20 (thE (cE 0) (cE 0)) (vE 3)) (vE 1))) (nB (cB 0 (ldE 9024 4 (cE 0) (ldE 1792 20 (thE (cE 0) (cE 0)) (vE 3))) (ldE 1856 20 (thE (cE 0) (cE 0)) (vE 3))))) (rtS (cE 0)) skS) (inS 3 1) FU)) (rtS (cE 1)))
def m_Sights_agree : FM := mthZ [0, 1, 2] b_Sights_agree
/-- DyerBells$Week.agreesFrom (135 week) -/
def b_Week_agreesFrom : SM := (sq (exS (clE m_Week_beginBehind [(cE 0), (cE 0), (vE 3)])) (sq (stS 5 (clE m_Sights_lastHour [(cE 0)])) (sq (sq (stS 6 (vE 3)) (whS (andB (nB (cB 4 (vE 6) (vE 5))) (nB (cB 3 (vE 6) (cE 168)))) (sq (exS (clE m_Week_pass [(cE 0), (cE 0), (vE 6)])) (ifS (nB (zB 1 (clE m_Sights_agree [(cE 0), (vE 6), (thE (cE 0) (cE 0))]))) (rtS (cE 0)) skS)) (inS 6 1) FU)) (rtS (cE 1)))))
def m_Week_agreesFrom : FM := mthZ [0, 1, 2, 3, 4] b_Week_agreesFrom
/-- DyerBells.tryNights (0 ) -/
def b_D_tryNights : SM := (sq (stS 4 (o2 minI (cE 6) (o2 subI (cE 168) (vE 2)))) (sq (stS 5 (cE 0)) (sq (sq (stS 6 (cE 1)) (whS (nB (cB 4 (vE 6) (vE 4))) (sq (exS (clE m_Week_setWork [(thE (cE 0) (cE 0)), (vE 1), (vE 2), (vE 6)])) (ifS (nB (zB 0 (clE m_Week_agreesFrom [(thE (cE 0) (cE 0)), (thE (thE (cE 0) (cE 0)) (cE 0)), (thE (cE 0) (cE 0)), (vE 2), (thE (thE (cE 0) (cE 0)) (cE 0))]))) (sq (ifS (nB (zB 1 (o2 addI (vE 3) (vE 5)))) (sq (asS 9728 3 idI (thE (cE 0) (cE 0)) (cE 0) (vE 1)) (sq (asS 9728 3 idI (thE (cE 0) (cE 0)) (cE 1) (vE 2)) (asS 9728 3 idI (thE (cE 0) (cE 0)) (cE 2) (vE 6)))) skS) (inS 5 1)) skS)) (inS 6 1) FU)) (sq (exS (clE m_Week_resetWork [(thE (cE 0) (cE 0)), (thE (cE 0) (cE 0)), (vE 1), (vE 2), (vE 4)])) (rtS (vE 5))))))
def m_D_tryNights : FM := mthF [0, 1, 2, 3] b_D_tryNights
/-- DyerBells.night (0 ) -/
def b_D_night : SM := (sq (stS 1 (clE m_D_past [(cE 0)])) (sq (exS (clE m_Week_prepare [(thE (cE 0) (cE 0)), (thE (thE (cE 0) (cE 0)) (cE 0)), (thE (thE (cE 0) (cE 0)) (cE 0))])) (sq (stS 2 (o2 minI (clE m_Sights_firstUnlike [(thE (thE (cE 0) (cE 0)) (cE 0)), (cE 0)]) (cE 167))) (sq (stS 3 (cE 0)) (sq (sq (stS 4 (cE 0)) (whS (nB (cB 3 (vE 4) (thE (thE (thE (cE 0) (cE 0)) (cE 0)) (gE 261)))) (sq (stS 5 (cE 0)) (whS (nB (cB 4 (vE 5) (vE 2))) (stS 3 (o2 addI (vE 3) (clE m_D_tryNights [(cE 0), (vE 4), (vE 5), (vE 3)]))) (inS 5 1) FU)) (inS 4 1) FU)) (sq (ifS (nB (cB 0 (vE 3) (cE 1))) (sq (asS 9728 3 idI (thE (cE 0) (cE 0)) (cE 0) (cE (-1))) (sq (asS 9728 3 idI (thE (cE 0) (cE 0)) (cE 1) (cE (-1))) (asS 9728 3 idI (thE (cE 0) (cE 0)) (cE 2) (cE (-1))))) skS) (rtS (vE 3))))))))
def m_D_night : FM := mthF [0] b_D_night
/-- DyerBells.led (0 ) -/
def b_D_led : SM := (rtS (kE (andB (nB (zB 2 (vE 1))) (nB (cB 4 (vE 1) (cE 2)))) (ldE 9728 3 (thE (cE 0) (cE 0)) (vE 1)) (cE (-1))))
def m_D_led : FM := mthF [0, 1] b_D_led
/-- DyerBells$Week.harmOfAll (135 week) -/
def b_Week_harmOfAll : SM := (sq (exS (clE m_Week_empty [(cE 0)])) (rtS (clE m_Week_addHarm [(cE 0), (cE 0), (cE 0), (cE 0), (vE 2)])))
def m_Week_harmOfAll : FM := mthF [0, 1, 2] b_Week_harmOfAll
/-- DyerBells.dam (0 ) -/
def b_D_dam : SM := (sq (ifS (orB (orB (zB 0 (clE m_D_isReach [(cE 0), (vE 1)])) (cB 2 (vE 2) (cE 1))) (nB (cB 5 (vE 2) (cE 9999)))) (rtS (cE (-1))) skS) (sq (exS (clE m_Week_prepare [(thE (cE 0) (cE 0)), (thE (thE (cE 0) (cE 0)) (cE 0)), (thE (thE (cE 0) (cE 0)) (cE 0))])) (sq (asS 8704 10 idI (thE (thE (cE 0) (cE 0)) (cE 0)) (vE 1) (vE 2)) (rtS (clE m_Week_harmOfAll [(thE (cE 0) (cE 0)), (thE (thE (cE 0) (cE 0)) (cE 0)), (cE 1009)])))))
def m_D_dam : FM := mthF [0, 1, 2] b_D_dam
/-- DyerBells.rainedFlow -/
def b_D_rainedFlow : SM := (sq (ifS (nB (zB 1 (vE 1))) (rtS (dvE (vE 0) (cE 2))) skS) (rtS (kE (nB (cB 1 (vE 1) (cE 4))) (o2 minI (o2 mulI (cE 3) (vE 0)) (cE 9999)) (vE 0))))
def m_D_rainedFlow : FM := mthF [0, 1] b_D_rainedFlow
/-- DyerBells.rain (0 ) -/
def b_D_rain : SM := (sq (ifS (orB (cB 2 (vE 1) (cE 1)) (nB (cB 5 (vE 1) (cE 20)))) (rtS (cE (-1))) skS) (sq (exS (clE m_Week_prepare [(thE (cE 0) (cE 0)), (thE (thE (cE 0) (cE 0)) (cE 0)), (thE (thE (cE 0) (cE 0)) (cE 0))])) (sq (stS 3 (vE 2)) (sq (stS 4 (cE 0)) (sq (sq (stS 5 (cE 0)) (whS (nB (cB 3 (vE 5) (vE 1))) (sq (sq (stS 6 (cE 0)) (whS (nB (cB 3 (vE 6) (cE 7))) (sq (stS 3 (o2 addI (o2 mulI (vE 3) (cE 1103515245)) (cE 12345))) (asS 8768 7 idI (thE (thE (cE 0) (cE 0)) (cE 0)) (vE 6) (clE m_D_rainedFlow [(clE m_River_flowOn [(thE (thE (cE 0) (cE 0)) (cE 0)), (vE 6)]), (rmE (o2 usrI (vE 3) (cE 8)) (cE 5))]))) (inS 6 1) FU)) (ifS (nB (zB 5 (clE m_Week_harmOfAll [(thE (cE 0) (cE 0)), (thE (thE (cE 0) (cE 0)) (cE 0)), (cE 1)]))) (inS 4 1) skS)) (inS 5 1) FU)) (rtS (vE 4)))))))
def m_D_rain : FM := mthF [0, 1, 2] b_D_rain
/-- DyerBells$Sentence.addStep (63 draft.sentence) -/
def b_Sentence_addStep : SM := (sq (ifS (nB (cB 3 (thE (cE 0) (gE 4033)) (cE 40))) (sq (asS 4096 40 idI (thE (cE 0) (cE 0)) (thE (cE 0) (gE 4033)) (vE 1)) (sq (asS 4160 40 idI (thE (cE 0) (cE 0)) (thE (cE 0) (gE 4033)) (vE 2)) (sq (asS 4224 40 idI (thE (cE 0) (cE 0)) (thE (cE 0) (gE 4033)) (vE 3)) (sq (asS 4288 40 idI (thE (cE 0) (cE 0)) (thE (cE 0) (gE 4033)) (vE 4)) (sq (asS 4352 40 idI (thE (cE 0) (cE 0)) (thE (cE 0) (gE 4033)) (vE 5)) (poS 4033 addI (cE 0) (cE 1))))))) skS) rvS)
def m_Sentence_addStep : FM := mthF [0, 1, 2, 3, 4, 5] b_Sentence_addStep
/-- DyerBells$SentenceText.beginsPlain -/
def b_SentenceText_beginsPlain : SM := (rtS (kE (orB (orB (orB (orB (orB (zB 1 (clE m_Tape_isWord [(cE 0), (cE 512970877811)])) (zB 1 (clE m_Tape_isWord [(cE 0), (cE 114767740888420)]))) (zB 1 (clE m_Tape_isWord [(cE 0), (cE 495672452197)]))) (zB 1 (clE m_Tape_isWord [(cE 0), (cE 1752135026)]))) (zB 1 (clE m_Tape_isWord [(cE 0), (cE 6578553)]))) (nB (zB 0 (clE m_Tape_isWord [(cE 0), (cE 123563851081060)])))) (cE 1) (cE 0)))
def m_SentenceText_beginsPlain : FM := mthZ [0] b_SentenceText_beginsPlain
/-- DyerBells$Tape.takeComparison (1 tape) -/
def b_Tape_takeComparison : SM := (sq (ifS (andB (andB (nB (zB 1 (clE m_Tape_isAtSign [(cE 0), (cE 60)]))) (nB (zB 1 (clE m_Tape_isAtSign [(cE 0), (cE 61)])))) (nB (zB 1 (clE m_Tape_isAtSign [(cE 0), (cE 62)])))) (exS (clE m_Tape_refuse [(cE 0), (cE 1)])) skS) (sq (stS 1 (thE (cE 0) (gE 72))) (sq (exS (clE m_Tape_advance [(cE 0)])) (rtS (kE (nB (zB 1 (thE (cE 0) (gE 74)))) (vE 1) (cE 0))))))
def m_Tape_takeComparison : FM := mthF [0] b_Tape_takeComparison
/-- DyerBells$SentenceText.readComparison -/
def b_SentenceText_readComparison : SM := (sq (stS 5 (clE m_Tape_takeComparison [(cE 0)])) (sq (exS (clE m_Sentence_addStep [(cE 0), (vE 2), (vE 3), (vE 4), (vE 5), (clE m_Tape_takeNumber [(cE 0), (cE 0), (cE 9999)])])) rvS))
def m_SentenceText_readComparison : FM := mthF [0, 1, 2, 3, 4] b_SentenceText_readComparison
/-- DyerBells$SentenceText.readPlain -/
def b_SentenceText_readPlain : SM := (sq (ifS (nB (zB 0 (clE m_Tape_isWord [(cE 0), (cE 512970877811)]))) (sq (exS (clE m_Tape_advance [(cE 0)])) (exS (clE m_Sentence_addStep [(cE 0), (cE 3), (clE m_Names_takeTold_2 [(cE 0), (cE 0), (cE 2)]), (cE 0), (cE 0), (cE 0)]))) (ifS (nB (zB 0 (clE m_Tape_isWord [(cE 0), (cE 114767740888420)]))) (sq (exS (clE m_Tape_advance [(cE 0)])) (exS (clE m_Sentence_addStep [(cE 0), (cE 4), (clE m_Names_takeTold_2 [(cE 0), (cE 0), (cE 3)]), (cE 0), (cE 0), (cE 0)]))) (ifS (nB (zB 0 (clE m_Tape_isWord [(cE 0), (cE 495672452197)]))) (sq (exS (clE m_Tape_advance [(cE 0)])) (sq (stS 3 (clE m_Names_takeTold_2 [(cE 0), (cE 0), (cE 1)])) (sq (stS 4 (clE m_Names_takeTold_2 [(cE 0), (cE 0), (cE 0)])) (exS (clE m_SentenceText_readComparison [(cE 0), (cE 0), (cE 5), (vE 3), (vE 4)]))))) (ifS (nB (zB 0 (clE m_Tape_isWord [(cE 0), (cE 1752135026)]))) (sq (exS (clE m_Tape_advance [(cE 0)])) (exS (clE m_SentenceText_readComparison [(cE 0), (cE 0), (cE 6), (cE 0), (cE 0)]))) (ifS (nB (zB 0 (clE m_Tape_isWord [(cE 0), (cE 6578553)]))) (sq (exS (clE m_Tape_advance [(cE 0)])) (exS (clE m_SentenceText_readComparison [(cE 0), (cE 0), (cE 7), (cE 0), (cE 0)]))) (sq (exS (clE m_Tape_advance [(cE 0)])) (exS (clE m_SentenceText_readComparison [(cE 0), (cE 0), (cE 8), (cE 0), (cE 0)])))))))) rvS)
def m_SentenceText_readPlain : FM := mthF [0, 1, 2] b_SentenceText_readPlain
def b_SentenceText_readCond (F : FM × FM × FM) : SM := (sq (exS (clE F.2.1 [(cE 0), (cE 0), (cE 0), (vE 3)])) (sq (sq (stS 4 (cE 0)) (whS (andB (nB (cB 3 (vE 4) (cE 20))) (nB (zB 0 (clE m_Tape_isWord [(cE 0), (cE 28530)])))) (sq (exS (clE m_Tape_advance [(cE 0)])) (sq (exS (clE F.2.1 [(cE 0), (cE 0), (cE 0), (vE 3)])) (exS (clE m_Sentence_addStep [(cE 0), (cE 2), (cE 0), (cE 0), (cE 0), (cE 0)])))) (inS 4 1) FU)) rvS))
def b_SentenceText_readAll (F : FM × FM × FM) : SM := (sq (exS (clE F.2.2 [(cE 0), (cE 0), (cE 0), (vE 3)])) (sq (sq (stS 4 (cE 0)) (whS (andB (nB (cB 3 (vE 4) (cE 20))) (nB (zB 0 (clE m_Tape_isWord [(cE 0), (cE 6385252)])))) (sq (exS (clE m_Tape_advance [(cE 0)])) (sq (exS (clE F.2.2 [(cE 0), (cE 0), (cE 0), (vE 3)])) (exS (clE m_Sentence_addStep [(cE 0), (cE 1), (cE 0), (cE 0), (cE 0), (cE 0)])))) (inS 4 1) FU)) rvS))
def b_SentenceText_readOne (F : FM × FM × FM) : SM := (sq (stS 4 (clE m_Tape_isWord [(cE 0), (cE 7237492)])) (sq (stS 5 (clE m_Tape_isAtSign [(cE 0), (cE 40)])) (sq (ifS (andB (andB (nB (zB 1 (vE 4))) (nB (zB 1 (vE 5)))) (nB (zB 1 (clE m_SentenceText_beginsPlain [(cE 0)])))) (sq (exS (clE m_Tape_refuse [(cE 0), (cE 1)])) rvS) skS) (sq (ifS (orB (cB 3 (thE (cE 0) (gE 4032)) (cE 20)) (nB (cB 5 (vE 3) (cE 8)))) (sq (exS (clE m_Tape_refuse [(cE 0), (cE 4)])) rvS) skS) (sq (poS 4032 addI (cE 0) (cE 1)) (sq (ifS (nB (zB 0 (vE 4))) (sq (exS (clE m_Tape_advance [(cE 0)])) (sq (exS (clE F.2.2 [(cE 0), (cE 0), (cE 0), (o2 addI (vE 3) (cE 1))])) (exS (clE m_Sentence_addStep [(cE 0), (cE 0), (cE 0), (cE 0), (cE 0), (cE 0)])))) (ifS (nB (zB 0 (vE 5))) (sq (exS (clE m_Tape_advance [(cE 0)])) (sq (exS (clE F.1 [(cE 0), (cE 0), (cE 0), (o2 addI (vE 3) (cE 1))])) (exS (clE m_Tape_takeSign [(cE 0), (cE 41)])))) (exS (clE m_SentenceText_readPlain [(cE 0), (cE 0), (cE 0)])))) rvS))))))
def g_SentenceText_readCond : Nat → FM × FM × FM
  | 0 => (fun _ _ => none, fun _ _ => none, fun _ _ => none)
  | n + 1 => (mthF [0, 1, 2, 3] (b_SentenceText_readCond (g_SentenceText_readCond n)), mthF [0, 1, 2, 3] (b_SentenceText_readAll (g_SentenceText_readCond n)), mthF [0, 1, 2, 3] (b_SentenceText_readOne (g_SentenceText_readCond n)))
/-- DyerBells.sentence (0 ) -/
def b_D_sentence : SM := (sq (exS (clE m_Sentence_forget [(thE (thE (cE 0) (cE 0)) (cE 0))])) (sq (exS (clE m_Tape_open [(thE (cE 0) (cE 0)), (cE 200)])) (sq (exS (clE (g_SentenceText_readCond 60).1 [(thE (cE 0) (cE 0)), (thE (thE (thE (cE 0) (cE 0)) (cE 0)) (cE 0)), (thE (thE (cE 0) (cE 0)) (cE 0)), (cE 1)])) (sq (exS (clE m_Tape_close [(thE (cE 0) (cE 0))])) (sq (ifS (nB (zB 0 (clE m_D_isRefused [(cE 0)]))) (rtS (o2 subI (cE (-1)) (thE (thE (cE 0) (cE 0)) (gE 75)))) skS) (sq (exS (clE m_Sentence_copyFrom [(thE (thE (cE 0) (cE 0)) (cE 0)), (thE (thE (cE 0) (cE 0)) (cE 0))])) (rtS (thE (thE (thE (cE 0) (cE 0)) (cE 0)) (gE 1920)))))))))
def m_D_sentence : FM := mthF [0] b_D_sentence
/-- DyerBells$Sentence.compares (30 now.sentence) -/
def b_Sentence_compares : SM := (sq (ifS (nB (cB 1 (ldE 2176 40 (thE (cE 0) (cE 0)) (vE 2)) (cE 60))) (rtS (kE (nB (cB 3 (vE 1) (ldE 2240 40 (thE (cE 0) (cE 0)) (vE 2)))) (cE 1) (cE 0))) skS) (rtS (kE (nB (cB 1 (ldE 2176 40 (thE (cE 0) (cE 0)) (vE 2)) (cE 62))) (kE (nB (cB 5 (vE 1) (ldE 2240 40 (thE (cE 0) (cE 0)) (vE 2)))) (cE 1) (cE 0)) (kE (nB (cB 1 (vE 1) (ldE 2240 40 (thE (cE 0) (cE 0)) (vE 2)))) (cE 1) (cE 0)))))
def m_Sentence_compares : FM := mthZ [0, 1, 2] b_Sentence_compares
/-- DyerBells$Past.passedOfAll (142 past) -/
def b_Past_passedOfAll : SM := (sq (stS 3 (cE 0)) (sq (sq (stS 4 (cE 0)) (whS (nB (cB 3 (vE 4) (thE (cE 0) (gE 260)))) (stS 3 (o2 addI (vE 3) (ldE 9280 672 (thE (cE 0) (cE 0)) (o2 addI (o2 mulI (vE 2) (cE 4)) (vE 4))))) (inS 4 1) FU)) (rtS (vE 3))))
def m_Past_passedOfAll : FM := mthF [0, 1, 2] b_Past_passedOfAll
/-- DyerBells$Sentence.isSo (30 now.sentence) -/
def b_Sentence_isSo : SM := (tsS (ldE 1984 40 (thE (cE 0) (cE 0)) (vE 1)) 3 [(rtS (kE (nB (zB 0 (o2 andI (o2 shrI (ldE 9344 168 (thE (cE 0) (cE 0)) (vE 4)) (ldE 2048 40 (thE (cE 0) (cE 0)) (vE 1))) (cE 1)))) (cE 1) (cE 0))), (rtS (clE m_Past_isHarmed [(cE 0), (ldE 2048 40 (thE (cE 0) (cE 0)) (vE 1)), (vE 4)])), (rtS (clE m_Sentence_compares [(cE 0), (clE m_Past_shadeAt [(cE 0), (cE 0), (vE 4), (ldE 2112 40 (thE (cE 0) (cE 0)) (vE 1)), (ldE 2048 40 (thE (cE 0) (cE 0)) (vE 1))]), (vE 1)])), (rtS (clE m_Sentence_compares [(cE 0), (vE 4), (vE 1)])), (rtS (clE m_Sentence_compares [(cE 0), (dvE (vE 4) (cE 24)), (vE 1)]))] (rtS (clE m_Sentence_compares [(cE 0), (clE m_Past_passedOfAll [(cE 0), (cE 0), (vE 4)]), (vE 1)])))
def m_Sentence_isSo : FM := mthZ [0, 1, 2, 3, 4] b_Sentence_isSo
/-- DyerBells$Sentence.holds (30 now.sentence) -/
def b_Sentence_holds : SM := (sq (stS 4 (cE 0)) (sq (sq (stS 5 (cE 0)) (whS (nB (cB 3 (vE 5) (thE (cE 0) (gE 1921)))) (sq (stS 6 (o2 andI (vE 4) (cE 1))) (sq (stS 7 (o2 andI (o2 usrI (vE 4) (cE 1)) (cE 1))) (swS (tsS (ldE 1984 40 (thE (cE 0) (cE 0)) (vE 5)) 0 [(sq (stS 4 (o2 xorI (vE 4) (cE 1))) brS), (sq (stS 4 (o2 iorI (o2 shlI (o2 usrI (vE 4) (cE 2)) (cE 1)) (o2 andI (vE 6) (vE 7)))) brS), (sq (stS 4 (o2 iorI (o2 shlI (o2 usrI (vE 4) (cE 2)) (cE 1)) (o2 iorI (vE 6) (vE 7)))) brS)] (sq (stS 4 (o2 iorI (o2 shlI (vE 4) (cE 1)) (kE (nB (zB 0 (clE m_Sentence_isSo [(cE 0), (vE 5), (cE 0), (cE 0), (vE 3)]))) (cE 1) (cE 0)))) brS))))) (inS 5 1) FU)) (rtS (kE (nB (zB 0 (o2 andI (vE 4) (cE 1)))) (cE 1) (cE 0)))))
def m_Sentence_holds : FM := mthZ [0, 1, 2, 3] b_Sentence_holds
/-- DyerBells.said (0 ) -/
def b_D_said : SM := (sq (ifS (orB (cB 2 (vE 1) (cE (-1))) (nB (zB 1 (thE (thE (thE (cE 0) (cE 0)) (cE 0)) (gE 1920))))) (rtS (cE (-1))) skS) (sq (stS 2 (clE m_D_past [(cE 0)])) (sq (stS 3 (cE 0)) (sq (sq (stS 4 (cE 0)) (whS (nB (cB 3 (vE 4) (cE 168))) (ifS (nB (zB 0 (clE m_Sentence_holds [(thE (thE (cE 0) (cE 0)) (cE 0)), (thE (thE (cE 0) (cE 0)) (cE 0)), (cE 0), (vE 4)]))) (sq (ifS (nB (cB 1 (vE 3) (vE 1))) (rtS (vE 4)) skS) (inS 3 1)) skS) (inS 4 1) FU)) (rtS (kE (nB (cB 1 (vE 1) (cE (-1)))) (vE 3) (cE (-1))))))))
def m_D_said : FM := mthF [0, 1] b_D_said
/-- DyerBells$Names.copyFrom (71 keptFirst.river.names) -/
def b_Names_copyFrom_2 : SM := (sq (pfS 4544 (cE 0) (thE (cE 0) (gE 320))) (sq (cpS 384 26 4608 26 [(thE (cE 0) (cE 0)), (cE 0), (thE (cE 0) (cE 0)), (cE 0), (cE 26)]) (sq (cpS 448 26 4672 26 [(thE (cE 0) (cE 0)), (cE 0), (thE (cE 0) (cE 0)), (cE 0), (cE 26)]) (sq (cpS 512 26 4736 26 [(thE (cE 0) (cE 0)), (cE 0), (thE (cE 0) (cE 0)), (cE 0), (cE 26)]) rvS))))
def m_Names_copyFrom_2 : FM := mthF [0, 1] b_Names_copyFrom_2
/-- DyerBells$River.copyFrom (70 keptFirst.river) -/
def b_River_copyFrom_2 : SM := (sq (exS (clE m_Names_copyFrom_2 [(thE (cE 0) (cE 0)), (thE (cE 0) (cE 0))])) (sq (pfS 4481 (cE 0) (thE (cE 0) (gE 257))) (sq (cpS 576 10 4800 10 [(thE (cE 0) (cE 0)), (cE 0), (thE (cE 0) (cE 0)), (cE 0), (cE 10)]) (sq (cpS 640 10 4864 10 [(thE (cE 0) (cE 0)), (cE 0), (thE (cE 0) (cE 0)), (cE 0), (cE 10)]) (sq (pfS 4484 (cE 0) (thE (cE 0) (gE 260))) (sq (pfS 4485 (cE 0) (thE (cE 0) (gE 261))) (sq (cpS 704 6 4928 6 [(thE (cE 0) (cE 0)), (cE 0), (thE (cE 0) (cE 0)), (cE 0), (cE 6)]) (sq (cpS 768 6 4992 6 [(thE (cE 0) (cE 0)), (cE 0), (thE (cE 0) (cE 0)), (cE 0), (cE 6)]) (sq (cpS 832 24 5056 24 [(thE (cE 0) (cE 0)), (cE 0), (thE (cE 0) (cE 0)), (cE 0), (cE 24)]) (sq (pfS 4489 (cE 0) (thE (cE 0) (gE 265))) (sq (cpS 896 6 5120 6 [(thE (cE 0) (cE 0)), (cE 0), (thE (cE 0) (cE 0)), (cE 0), (cE 6)]) (sq (cpS 960 6 5184 6 [(thE (cE 0) (cE 0)), (cE 0), (thE (cE 0) (cE 0)), (cE 0), (cE 6)]) (sq (cpS 1024 6 5248 6 [(thE (cE 0) (cE 0)), (cE 0), (thE (cE 0) (cE 0)), (cE 0), (cE 6)]) (sq (cpS 1088 24 5312 24 [(thE (cE 0) (cE 0)), (cE 0), (thE (cE 0) (cE 0)), (cE 0), (cE 24)]) (sq (cpS 1152 7 5376 7 [(thE (cE 0) (cE 0)), (cE 0), (thE (cE 0) (cE 0)), (cE 0), (cE 7)]) (sq (pfS 4495 (cE 0) (thE (cE 0) (gE 271))) (sq (pfS 4496 (cE 0) (thE (cE 0) (gE 272))) (sq (cpS 1216 12 5440 12 [(thE (cE 0) (cE 0)), (cE 0), (thE (cE 0) (cE 0)), (cE 0), (cE 12)]) (sq (cpS 1280 12 5504 12 [(thE (cE 0) (cE 0)), (cE 0), (thE (cE 0) (cE 0)), (cE 0), (cE 12)]) (sq (cpS 1344 12 5568 12 [(thE (cE 0) (cE 0)), (cE 0), (thE (cE 0) (cE 0)), (cE 0), (cE 12)]) rvS))))))))))))))))))))
def m_River_copyFrom_2 : FM := mthF [0, 1] b_River_copyFrom_2
/-- DyerBells$Order.copyFrom (88 keptFirst.order) -/
def b_Order_copyFrom_2 : SM := (sq (pfS 5632 (cE 0) (thE (cE 0) (gE 1408))) (sq (cpS 1472 40 5696 40 [(thE (cE 0) (cE 0)), (cE 0), (thE (cE 0) (cE 0)), (cE 0), (cE 40)]) (sq (cpS 1536 40 5760 40 [(thE (cE 0) (cE 0)), (cE 0), (thE (cE 0) (cE 0)), (cE 0), (cE 40)]) (sq (cpS 1600 40 5824 40 [(thE (cE 0) (cE 0)), (cE 0), (thE (cE 0) (cE 0)), (cE 0), (cE 40)]) rvS))))
def m_Order_copyFrom_2 : FM := mthF [0, 1] b_Order_copyFrom_2
/-- DyerBells$Sights.copyFrom (92 keptFirst.sights) -/
def b_Sights_copyFrom_2 : SM := (sq (pfS 5888 (cE 0) (thE (cE 0) (gE 1664))) (sq (cpS 1728 20 5952 20 [(thE (cE 0) (cE 0)), (cE 0), (thE (cE 0) (cE 0)), (cE 0), (cE 20)]) (sq (cpS 1792 20 6016 20 [(thE (cE 0) (cE 0)), (cE 0), (thE (cE 0) (cE 0)), (cE 0), (cE 20)]) (sq (cpS 1856 20 6080 20 [(thE (cE 0) (cE 0)), (cE 0), (thE (cE 0) (cE 0)), (cE 0), (cE 20)]) rvS))))
def m_Sights_copyFrom_2 : FM := mthF [0, 1] b_Sights_copyFrom_2
/-- DyerBells$Sentence.copyFrom (96 keptFirst.sentence) -/
def b_Sentence_copyFrom_2 : SM := (sq (pfS 6144 (cE 0) (thE (cE 0) (gE 1920))) (sq (pfS 6145 (cE 0) (thE (cE 0) (gE 1921))) (sq (cpS 1984 40 6208 40 [(thE (cE 0) (cE 0)), (cE 0), (thE (cE 0) (cE 0)), (cE 0), (cE 40)]) (sq (cpS 2048 40 6272 40 [(thE (cE 0) (cE 0)), (cE 0), (thE (cE 0) (cE 0)), (cE 0), (cE 40)]) (sq (cpS 2112 40 6336 40 [(thE (cE 0) (cE 0)), (cE 0), (thE (cE 0) (cE 0)), (cE 0), (cE 40)]) (sq (cpS 2176 40 6400 40 [(thE (cE 0) (cE 0)), (cE 0), (thE (cE 0) (cE 0)), (cE 0), (cE 40)]) (sq (cpS 2240 40 6464 40 [(thE (cE 0) (cE 0)), (cE 0), (thE (cE 0) (cE 0)), (cE 0), (cE 40)]) rvS)))))))
def m_Sentence_copyFrom_2 : FM := mthF [0, 1] b_Sentence_copyFrom_2
/-- DyerBells$Scene.copyFrom (69 keptFirst) -/
def b_Scene_copyFrom_2 : SM := (sq (exS (clE m_River_copyFrom_2 [(thE (cE 0) (cE 0)), (thE (cE 0) (cE 0))])) (sq (exS (clE m_Order_copyFrom_2 [(thE (cE 0) (cE 0)), (thE (cE 0) (cE 0))])) (sq (exS (clE m_Sights_copyFrom_2 [(thE (cE 0) (cE 0)), (thE (cE 0) (cE 0))])) (sq (exS (clE m_Sentence_copyFrom_2 [(thE (cE 0) (cE 0)), (thE (cE 0) (cE 0))])) rvS))))
def m_Scene_copyFrom_2 : FM := mthF [0, 1] b_Scene_copyFrom_2
/-- DyerBells$Names.copyFrom (104 keptSecond.river.names) -/
def b_Names_copyFrom_3 : SM := (sq (pfS 6656 (cE 0) (thE (cE 0) (gE 320))) (sq (cpS 384 26 6720 26 [(thE (cE 0) (cE 0)), (cE 0), (thE (cE 0) (cE 0)), (cE 0), (cE 26)]) (sq (cpS 448 26 6784 26 [(thE (cE 0) (cE 0)), (cE 0), (thE (cE 0) (cE 0)), (cE 0), (cE 26)]) (sq (cpS 512 26 6848 26 [(thE (cE 0) (cE 0)), (cE 0), (thE (cE 0) (cE 0)), (cE 0), (cE 26)]) rvS))))
def m_Names_copyFrom_3 : FM := mthF [0, 1] b_Names_copyFrom_3
/-- DyerBells$River.copyFrom (103 keptSecond.river) -/
def b_River_copyFrom_3 : SM := (sq (exS (clE m_Names_copyFrom_3 [(thE (cE 0) (cE 0)), (thE (cE 0) (cE 0))])) (sq (pfS 6593 (cE 0) (thE (cE 0) (gE 257))) (sq (cpS 576 10 6912 10 [(thE (cE 0) (cE 0)), (cE 0), (thE (cE 0) (cE 0)), (cE 0), (cE 10)]) (sq (cpS 640 10 6976 10 [(thE (cE 0) (cE 0)), (cE 0), (thE (cE 0) (cE 0)), (cE 0), (cE 10)]) (sq (pfS 6596 (cE 0) (thE (cE 0) (gE 260))) (sq (pfS 6597 (cE 0) (thE (cE 0) (gE 261))) (sq (cpS 704 6 7040 6 [(thE (cE 0) (cE 0)), (cE 0), (thE (cE 0) (cE 0)), (cE 0), (cE 6)]) (sq (cpS 768 6 7104 6 [(thE (cE 0) (cE 0)), (cE 0), (thE (cE 0) (cE 0)), (cE 0), (cE 6)]) (sq (cpS 832 24 7168 24 [(thE (cE 0) (cE 0)), (cE 0), (thE (cE 0) (cE 0)), (cE 0), (cE 24)]) (sq (pfS 6601 (cE 0) (thE (cE 0) (gE 265))) (sq (cpS 896 6 7232 6 [(thE (cE 0) (cE 0)), (cE 0), (thE (cE 0) (cE 0)), (cE 0), (cE 6)]) (sq (cpS 960 6 7296 6 [(thE (cE 0) (cE 0)), (cE 0), (thE (cE 0) (cE 0)), (cE 0), (cE 6)]) (sq (cpS 1024 6 7360 6 [(thE (cE 0) (cE 0)), (cE 0), (thE (cE 0) (cE 0)), (cE 0), (cE 6)]) (sq (cpS 1088 24 7424 24 [(thE (cE 0) (cE 0)), (cE 0), (thE (cE 0) (cE 0)), (cE 0), (cE 24)]) (sq (cpS 1152 7 7488 7 [(thE (cE 0) (cE 0)), (cE 0), (thE (cE 0) (cE 0)), (cE 0), (cE 7)]) (sq (pfS 6607 (cE 0) (thE (cE 0) (gE 271))) (sq (pfS 6608 (cE 0) (thE (cE 0) (gE 272))) (sq (cpS 1216 12 7552 12 [(thE (cE 0) (cE 0)), (cE 0), (thE (cE 0) (cE 0)), (cE 0), (cE 12)]) (sq (cpS 1280 12 7616 12 [(thE (cE 0) (cE 0)), (cE 0), (thE (cE 0) (cE 0)), (cE 0), (cE 12)]) (sq (cpS 1344 12 7680 12 [(thE (cE 0) (cE 0)), (cE 0), (thE (cE 0) (cE 0)), (cE 0), (cE 12)]) rvS))))))))))))))))))))
def m_River_copyFrom_3 : FM := mthF [0, 1] b_River_copyFrom_3
/-- DyerBells$Order.copyFrom (121 keptSecond.order) -/
def b_Order_copyFrom_3 : SM := (sq (pfS 7744 (cE 0) (thE (cE 0) (gE 1408))) (sq (cpS 1472 40 7808 40 [(thE (cE 0) (cE 0)), (cE 0), (thE (cE 0) (cE 0)), (cE 0), (cE 40)]) (sq (cpS 1536 40 7872 40 [(thE (cE 0) (cE 0)), (cE 0), (thE (cE 0) (cE 0)), (cE 0), (cE 40)]) (sq (cpS 1600 40 7936 40 [(thE (cE 0) (cE 0)), (cE 0), (thE (cE 0) (cE 0)), (cE 0), (cE 40)]) rvS))))
def m_Order_copyFrom_3 : FM := mthF [0, 1] b_Order_copyFrom_3
/-- DyerBells$Sights.copyFrom (125 keptSecond.sights) -/
def b_Sights_copyFrom_3 : SM := (sq (pfS 8000 (cE 0) (thE (cE 0) (gE 1664))) (sq (cpS 1728 20 8064 20 [(thE (cE 0) (cE 0)), (cE 0), (thE (cE 0) (cE 0)), (cE 0), (cE 20)]) (sq (cpS 1792 20 8128 20 [(thE (cE 0) (cE 0)), (cE 0), (thE (cE 0) (cE 0)), (cE 0), (cE 20)]) (sq (cpS 1856 20 8192 20 [(thE (cE 0) (cE 0)), (cE 0), (thE (cE 0) (cE 0)), (cE 0), (cE 20)]) rvS))))
def m_Sights_copyFrom_3 : FM := mthF [0, 1] b_Sights_copyFrom_3
/-- DyerBells$Sentence.copyFrom (129 keptSecond.sentence) -/
def b_Sentence_copyFrom_3 : SM := (sq (pfS 8256 (cE 0) (thE (cE 0) (gE 1920))) (sq (pfS 8257 (cE 0) (thE (cE 0) (gE 1921))) (sq (cpS 1984 40 8320 40 [(thE (cE 0) (cE 0)), (cE 0), (thE (cE 0) (cE 0)), (cE 0), (cE 40)]) (sq (cpS 2048 40 8384 40 [(thE (cE 0) (cE 0)), (cE 0), (thE (cE 0) (cE 0)), (cE 0), (cE 40)]) (sq (cpS 2112 40 8448 40 [(thE (cE 0) (cE 0)), (cE 0), (thE (cE 0) (cE 0)), (cE 0), (cE 40)]) (sq (cpS 2176 40 8512 40 [(thE (cE 0) (cE 0)), (cE 0), (thE (cE 0) (cE 0)), (cE 0), (cE 40)]) (sq (cpS 2240 40 8576 40 [(thE (cE 0) (cE 0)), (cE 0), (thE (cE 0) (cE 0)), (cE 0), (cE 40)]) rvS)))))))
def m_Sentence_copyFrom_3 : FM := mthF [0, 1] b_Sentence_copyFrom_3
/-- DyerBells$Scene.copyFrom (102 keptSecond) -/
def b_Scene_copyFrom_3 : SM := (sq (exS (clE m_River_copyFrom_3 [(thE (cE 0) (cE 0)), (thE (cE 0) (cE 0))])) (sq (exS (clE m_Order_copyFrom_3 [(thE (cE 0) (cE 0)), (thE (cE 0) (cE 0))])) (sq (exS (clE m_Sights_copyFrom_3 [(thE (cE 0) (cE 0)), (thE (cE 0) (cE 0))])) (sq (exS (clE m_Sentence_copyFrom_3 [(thE (cE 0) (cE 0)), (thE (cE 0) (cE 0))])) rvS))))
def m_Scene_copyFrom_3 : FM := mthF [0, 1] b_Scene_copyFrom_3
/-- DyerBells.image (0 ) -/
def b_D_image : SM := (sq (ifS (nB (zB 1 (vE 1))) (sq (exS (clE m_Scene_copyFrom_2 [(thE (cE 0) (cE 0)), (thE (cE 0) (cE 0))])) (sq (pzS 6 (cE 0) (cE 1)) (rtS (cE 1)))) skS) (sq (ifS (nB (cB 1 (vE 1) (cE 1))) (sq (exS (clE m_Scene_copyFrom_3 [(thE (cE 0) (cE 0)), (thE (cE 0) (cE 0))])) (sq (pzS 7 (cE 0) (cE 1)) (rtS (cE 1)))) skS) (rtS (cE 0))))
def m_D_image : FM := mthZ [0, 1] b_D_image
/-- DyerBells$Names.copyFrom (5 now.river.names) -/
def b_Names_copyFrom_4 : SM := (sq (pfS 320 (cE 0) (thE (cE 0) (gE 4544))) (sq (cpS 4608 26 384 26 [(thE (cE 0) (cE 0)), (cE 0), (thE (cE 0) (cE 0)), (cE 0), (cE 26)]) (sq (cpS 4672 26 448 26 [(thE (cE 0) (cE 0)), (cE 0), (thE (cE 0) (cE 0)), (cE 0), (cE 26)]) (sq (cpS 4736 26 512 26 [(thE (cE 0) (cE 0)), (cE 0), (thE (cE 0) (cE 0)), (cE 0), (cE 26)]) rvS))))
def m_Names_copyFrom_4 : FM := mthF [0, 1] b_Names_copyFrom_4
/-- DyerBells$River.copyFrom (4 now.river) -/
def b_River_copyFrom_4 : SM := (sq (exS (clE m_Names_copyFrom_4 [(thE (cE 0) (cE 0)), (thE (cE 0) (cE 0))])) (sq (pfS 257 (cE 0) (thE (cE 0) (gE 4481))) (sq (cpS 4800 10 576 10 [(thE (cE 0) (cE 0)), (cE 0), (thE (cE 0) (cE 0)), (cE 0), (cE 10)]) (sq (cpS 4864 10 640 10 [(thE (cE 0) (cE 0)), (cE 0), (thE (cE 0) (cE 0)), (cE 0), (cE 10)]) (sq (pfS 260 (cE 0) (thE (cE 0) (gE 4484))) (sq (pfS 261 (cE 0) (thE (cE 0) (gE 4485))) (sq (cpS 4928 6 704 6 [(thE (cE 0) (cE 0)), (cE 0), (thE (cE 0) (cE 0)), (cE 0), (cE 6)]) (sq (cpS 4992 6 768 6 [(thE (cE 0) (cE 0)), (cE 0), (thE (cE 0) (cE 0)), (cE 0), (cE 6)]) (sq (cpS 5056 24 832 24 [(thE (cE 0) (cE 0)), (cE 0), (thE (cE 0) (cE 0)), (cE 0), (cE 24)]) (sq (pfS 265 (cE 0) (thE (cE 0) (gE 4489))) (sq (cpS 5120 6 896 6 [(thE (cE 0) (cE 0)), (cE 0), (thE (cE 0) (cE 0)), (cE 0), (cE 6)]) (sq (cpS 5184 6 960 6 [(thE (cE 0) (cE 0)), (cE 0), (thE (cE 0) (cE 0)), (cE 0), (cE 6)]) (sq (cpS 5248 6 1024 6 [(thE (cE 0) (cE 0)), (cE 0), (thE (cE 0) (cE 0)), (cE 0), (cE 6)]) (sq (cpS 5312 24 1088 24 [(thE (cE 0) (cE 0)), (cE 0), (thE (cE 0) (cE 0)), (cE 0), (cE 24)]) (sq (cpS 5376 7 1152 7 [(thE (cE 0) (cE 0)), (cE 0), (thE (cE 0) (cE 0)), (cE 0), (cE 7)]) (sq (pfS 271 (cE 0) (thE (cE 0) (gE 4495))) (sq (pfS 272 (cE 0) (thE (cE 0) (gE 4496))) (sq (cpS 5440 12 1216 12 [(thE (cE 0) (cE 0)), (cE 0), (thE (cE 0) (cE 0)), (cE 0), (cE 12)]) (sq (cpS 5504 12 1280 12 [(thE (cE 0) (cE 0)), (cE 0), (thE (cE 0) (cE 0)), (cE 0), (cE 12)]) (sq (cpS 5568 12 1344 12 [(thE (cE 0) (cE 0)), (cE 0), (thE (cE 0) (cE 0)), (cE 0), (cE 12)]) rvS))))))))))))))))))))
def m_River_copyFrom_4 : FM := mthF [0, 1] b_River_copyFrom_4
/-- DyerBells$Order.copyFrom (22 now.order) -/
def b_Order_copyFrom_4 : SM := (sq (pfS 1408 (cE 0) (thE (cE 0) (gE 5632))) (sq (cpS 5696 40 1472 40 [(thE (cE 0) (cE 0)), (cE 0), (thE (cE 0) (cE 0)), (cE 0), (cE 40)]) (sq (cpS 5760 40 1536 40 [(thE (cE 0) (cE 0)), (cE 0), (thE (cE 0) (cE 0)), (cE 0), (cE 40)]) (sq (cpS 5824 40 1600 40 [(thE (cE 0) (cE 0)), (cE 0), (thE (cE 0) (cE 0)), (cE 0), (cE 40)]) rvS))))
def m_Order_copyFrom_4 : FM := mthF [0, 1] b_Order_copyFrom_4
/-- DyerBells$Sights.copyFrom (26 now.sights) -/
def b_Sights_copyFrom_4 : SM := (sq (pfS 1664 (cE 0) (thE (cE 0) (gE 5888))) (sq (cpS 5952 20 1728 20 [(thE (cE 0) (cE 0)), (cE 0), (thE (cE 0) (cE 0)), (cE 0), (cE 20)]) (sq (cpS 6016 20 1792 20 [(thE (cE 0) (cE 0)), (cE 0), (thE (cE 0) (cE 0)), (cE 0), (cE 20)]) (sq (cpS 6080 20 1856 20 [(thE (cE 0) (cE 0)), (cE 0), (thE (cE 0) (cE 0)), (cE 0), (cE 20)]) rvS))))
def m_Sights_copyFrom_4 : FM := mthF [0, 1] b_Sights_copyFrom_4
/-- DyerBells$Sentence.copyFrom (30 now.sentence) -/
def b_Sentence_copyFrom_4 : SM := (sq (pfS 1920 (cE 0) (thE (cE 0) (gE 6144))) (sq (pfS 1921 (cE 0) (thE (cE 0) (gE 6145))) (sq (cpS 6208 40 1984 40 [(thE (cE 0) (cE 0)), (cE 0), (thE (cE 0) (cE 0)), (cE 0), (cE 40)]) (sq (cpS 6272 40 2048 40 [(thE (cE 0) (cE 0)), (cE 0), (thE (cE 0) (cE 0)), (cE 0), (cE 40)]) (sq (cpS 6336 40 2112 40 [(thE (cE 0) (cE 0)), (cE 0), (thE (cE 0) (cE 0)), (cE 0), (cE 40)]) (sq (cpS 6400 40 2176 40 [(thE (cE 0) (cE 0)), (cE 0), (thE (cE 0) (cE 0)), (cE 0), (cE 40)]) (sq (cpS 6464 40 2240 40 [(thE (cE 0) (cE 0)), (cE 0), (thE (cE 0) (cE 0)), (cE 0), (cE 40)]) rvS)))))))
def m_Sentence_copyFrom_4 : FM := mthF [0, 1] b_Sentence_copyFrom_4
/-- DyerBells$Scene.copyFrom (3 now) -/
def b_Scene_copyFrom_4 : SM := (sq (exS (clE m_River_copyFrom_4 [(thE (cE 0) (cE 0)), (thE (cE 0) (cE 0))])) (sq (exS (clE m_Order_copyFrom_4 [(thE (cE 0) (cE 0)), (thE (cE 0) (cE 0))])) (sq (exS (clE m_Sights_copyFrom_4 [(thE (cE 0) (cE 0)), (thE (cE 0) (cE 0))])) (sq (exS (clE m_Sentence_copyFrom_4 [(thE (cE 0) (cE 0)), (thE (cE 0) (cE 0))])) rvS))))
def m_Scene_copyFrom_4 : FM := mthF [0, 1] b_Scene_copyFrom_4
/-- DyerBells$Names.copyFrom (5 now.river.names) -/
def b_Names_copyFrom_5 : SM := (sq (pfS 320 (cE 0) (thE (cE 0) (gE 6656))) (sq (cpS 6720 26 384 26 [(thE (cE 0) (cE 0)), (cE 0), (thE (cE 0) (cE 0)), (cE 0), (cE 26)]) (sq (cpS 6784 26 448 26 [(thE (cE 0) (cE 0)), (cE 0), (thE (cE 0) (cE 0)), (cE 0), (cE 26)]) (sq (cpS 6848 26 512 26 [(thE (cE 0) (cE 0)), (cE 0), (thE (cE 0) (cE 0)), (cE 0), (cE 26)]) rvS))))
def m_Names_copyFrom_5 : FM := mthF [0, 1] b_Names_copyFrom_5
/-- DyerBells$River.copyFrom (4 now.river) -/
def b_River_copyFrom_5 : SM := (sq (exS (clE m_Names_copyFrom_5 [(thE (cE 0) (cE 0)), (thE (cE 0) (cE 0))])) (sq (pfS 257 (cE 0) (thE (cE 0) (gE 6593))) (sq (cpS 6912 10 576 10 [(thE (cE 0) (cE 0)), (cE 0), (thE (cE 0) (cE 0)), (cE 0), (cE 10)]) (sq (cpS 6976 10 640 10 [(thE (cE 0) (cE 0)), (cE 0), (thE (cE 0) (cE 0)), (cE 0), (cE 10)]) (sq (pfS 260 (cE 0) (thE (cE 0) (gE 6596))) (sq (pfS 261 (cE 0) (thE (cE 0) (gE 6597))) (sq (cpS 7040 6 704 6 [(thE (cE 0) (cE 0)), (cE 0), (thE (cE 0) (cE 0)), (cE 0), (cE 6)]) (sq (cpS 7104 6 768 6 [(thE (cE 0) (cE 0)), (cE 0), (thE (cE 0) (cE 0)), (cE 0), (cE 6)]) (sq (cpS 7168 24 832 24 [(thE (cE 0) (cE 0)), (cE 0), (thE (cE 0) (cE 0)), (cE 0), (cE 24)]) (sq (pfS 265 (cE 0) (thE (cE 0) (gE 6601))) (sq (cpS 7232 6 896 6 [(thE (cE 0) (cE 0)), (cE 0), (thE (cE 0) (cE 0)), (cE 0), (cE 6)]) (sq (cpS 7296 6 960 6 [(thE (cE 0) (cE 0)), (cE 0), (thE (cE 0) (cE 0)), (cE 0), (cE 6)]) (sq (cpS 7360 6 1024 6 [(thE (cE 0) (cE 0)), (cE 0), (thE (cE 0) (cE 0)), (cE 0), (cE 6)]) (sq (cpS 7424 24 1088 24 [(thE (cE 0) (cE 0)), (cE 0), (thE (cE 0) (cE 0)), (cE 0), (cE 24)]) (sq (cpS 7488 7 1152 7 [(thE (cE 0) (cE 0)), (cE 0), (thE (cE 0) (cE 0)), (cE 0), (cE 7)]) (sq (pfS 271 (cE 0) (thE (cE 0) (gE 6607))) (sq (pfS 272 (cE 0) (thE (cE 0) (gE 6608))) (sq (cpS 7552 12 1216 12 [(thE (cE 0) (cE 0)), (cE 0), (thE (cE 0) (cE 0)), (cE 0), (cE 12)]) (sq (cpS 7616 12 1280 12 [(thE (cE 0) (cE 0)), (cE 0), (thE (cE 0) (cE 0)), (cE 0), (cE 12)]) (sq (cpS 7680 12 1344 12 [(thE (cE 0) (cE 0)), (cE 0), (thE (cE 0) (cE 0)), (cE 0), (cE 12)]) rvS))))))))))))))))))))
def m_River_copyFrom_5 : FM := mthF [0, 1] b_River_copyFrom_5
/-- DyerBells$Order.copyFrom (22 now.order) -/
def b_Order_copyFrom_5 : SM := (sq (pfS 1408 (cE 0) (thE (cE 0) (gE 7744))) (sq (cpS 7808 40 1472 40 [(thE (cE 0) (cE 0)), (cE 0), (thE (cE 0) (cE 0)), (cE 0), (cE 40)]) (sq (cpS 7872 40 1536 40 [(thE (cE 0) (cE 0)), (cE 0), (thE (cE 0) (cE 0)), (cE 0), (cE 40)]) (sq (cpS 7936 40 1600 40 [(thE (cE 0) (cE 0)), (cE 0), (thE (cE 0) (cE 0)), (cE 0), (cE 40)]) rvS))))
def m_Order_copyFrom_5 : FM := mthF [0, 1] b_Order_copyFrom_5
/-- DyerBells$Sights.copyFrom (26 now.sights) -/
def b_Sights_copyFrom_5 : SM := (sq (pfS 1664 (cE 0) (thE (cE 0) (gE 8000))) (sq (cpS 8064 20 1728 20 [(thE (cE 0) (cE 0)), (cE 0), (thE (cE 0) (cE 0)), (cE 0), (cE 20)]) (sq (cpS 8128 20 1792 20 [(thE (cE 0) (cE 0)), (cE 0), (thE (cE 0) (cE 0)), (cE 0), (cE 20)]) (sq (cpS 8192 20 1856 20 [(thE (cE 0) (cE 0)), (cE 0), (thE (cE 0) (cE 0)), (cE 0), (cE 20)]) rvS))))
def m_Sights_copyFrom_5 : FM := mthF [0, 1] b_Sights_copyFrom_5
/-- DyerBells$Sentence.copyFrom (30 now.sentence) -/
def b_Sentence_copyFrom_5 : SM := (sq (pfS 1920 (cE 0) (thE (cE 0) (gE 8256))) (sq (pfS 1921 (cE 0) (thE (cE 0) (gE 8257))) (sq (cpS 8320 40 1984 40 [(thE (cE 0) (cE 0)), (cE 0), (thE (cE 0) (cE 0)), (cE 0), (cE 40)]) (sq (cpS 8384 40 2048 40 [(thE (cE 0) (cE 0)), (cE 0), (thE (cE 0) (cE 0)), (cE 0), (cE 40)]) (sq (cpS 8448 40 2112 40 [(thE (cE 0) (cE 0)), (cE 0), (thE (cE 0) (cE 0)), (cE 0), (cE 40)]) (sq (cpS 8512 40 2176 40 [(thE (cE 0) (cE 0)), (cE 0), (thE (cE 0) (cE 0)), (cE 0), (cE 40)]) (sq (cpS 8576 40 2240 40 [(thE (cE 0) (cE 0)), (cE 0), (thE (cE 0) (cE 0)), (cE 0), (cE 40)]) rvS)))))))
def m_Sentence_copyFrom_5 : FM := mthF [0, 1] b_Sentence_copyFrom_5
/-- DyerBells$Scene.copyFrom (3 now) -/
def b_Scene_copyFrom_5 : SM := (sq (exS (clE m_River_copyFrom_5 [(thE (cE 0) (cE 0)), (thE (cE 0) (cE 0))])) (sq (exS (clE m_Order_copyFrom_5 [(thE (cE 0) (cE 0)), (thE (cE 0) (cE 0))])) (sq (exS (clE m_Sights_copyFrom_5 [(thE (cE 0) (cE 0)), (thE (cE 0) (cE 0))])) (sq (exS (clE m_Sentence_copyFrom_5 [(thE (cE 0) (cE 0)), (thE (cE 0) (cE 0))])) rvS))))
def m_Scene_copyFrom_5 : FM := mthF [0, 1] b_Scene_copyFrom_5
/-- DyerBells.restore (0 ) -/
def b_D_restore : SM := (sq (stS 2 (kE (orB (andB (nB (zB 1 (vE 1))) (zB 1 (thE (cE 0) (gE 6)))) (andB (nB (cB 1 (vE 1) (cE 1))) (nB (zB 0 (thE (cE 0) (gE 7)))))) (cE 1) (cE 0))) (sq (ifS (nB (zB 1 (vE 2))) (rtS (cE 0)) skS) (sq (ifS (nB (zB 1 (vE 1))) (exS (clE m_Scene_copyFrom_4 [(thE (cE 0) (cE 0)), (thE (cE 0) (cE 0))])) (exS (clE m_Scene_copyFrom_5 [(thE (cE 0) (cE 0)), (thE (cE 0) (cE 0))]))) (sq (pzS 10 (cE 0) (cE 1)) (rtS (cE 1))))))
def m_D_restore : FM := mthZ [0, 1] b_D_restore
/-- DyerBells.count (0 ) -/
def b_D_count : SM := (tsS (vE 1) 0 [(rtS (thE (thE (thE (cE 0) (cE 0)) (cE 0)) (gE 257))), (rtS (thE (thE (thE (cE 0) (cE 0)) (cE 0)) (gE 260))), (rtS (thE (thE (thE (cE 0) (cE 0)) (cE 0)) (gE 261))), (rtS (thE (thE (thE (cE 0) (cE 0)) (cE 0)) (gE 265))), (rtS (thE (thE (thE (cE 0) (cE 0)) (cE 0)) (gE 272))), (rtS (thE (thE (thE (cE 0) (cE 0)) (cE 0)) (gE 1408))), (rtS (thE (thE (thE (cE 0) (cE 0)) (cE 0)) (gE 1664))), (rtS (thE (thE (cE 0) (cE 0)) (gE 65)))] (rtS (cE (-1))))
def m_D_count : FM := mthF [0, 1] b_D_count
/-- DyerBellsModel.thrown (0 ) -/
def b_M_thrown : SM := (rtS (thE (cE 0) (gE 0)))
def m_M_thrown : FM := mthF [0] b_M_thrown
/-- DyerBellsModel.come (0 ) -/
def b_M_come : SM := (sq (sq (stS 2 (cE 24)) (whS (nB (zB 2 (vE 2))) (sq (asS 64 940 idI (thE (cE 0) (cE 0)) (thE (cE 0) (gE 2)) (o2 andI (o2 usrI (vE 1) (vE 2)) (cE 255))) (poS 2 addI (cE 0) (cE 1))) (inS 2 (-8)) FU)) rvS)
def m_M_come : FM := mthF [0, 1] b_M_come
/-- DyerBellsModel.feed (0 ) -/
def b_M_feed : SM := (sq (pfS 0 (cE 0) (cE 0)) (sq (ifS (nB (cB 5 (o2 addI (thE (cE 0) (gE 2)) (cE 20)) (cE 940))) (rtS (cE (-1))) skS) (sq (exS (clE m_M_come [(cE 0), (vE 1)])) (sq (exS (clE m_M_come [(cE 0), (vE 2)])) (sq (exS (clE m_M_come [(cE 0), (vE 3)])) (sq (exS (clE m_M_come [(cE 0), (vE 4)])) (sq (exS (clE m_M_come [(cE 0), (vE 5)])) (rtS (thE (cE 0) (gE 2))))))))))
def m_M_feed : FM := mthF [0, 1, 2, 3, 4, 5] b_M_feed
/-- DyerBellsModel.end (0 ) -/
def b_M_end : SM := (sq (pfS 0 (cE 0) (cE 0)) (sq (ifS (orB (zB 2 (vE 1)) (nB (cB 5 (vE 1) (thE (cE 0) (gE 2))))) (rtS (cE 0)) skS) (sq (pfS 2 (cE 0) (vE 1)) (rtS (cE 1)))))
def m_M_end : FM := mthZ [0, 1] b_M_end
/-- DyerBellsModel.standard -/
def b_M_standard : SM := (sq (sq (stS 1 (cE 0)) (whS (nB (cB 3 (vE 1) (cE 160))) (asS 128 592 idI (cE 0) (vE 1) (cE 0)) (inS 1 1) FU)) (sq (asS 128 592 idI (cE 0) (cE 5) (cE 9999)) (sq (sq (stS 1 (cE 0)) (whS (nB (cB 3 (vE 1) (cE 7))) (asS 128 592 idI (cE 0) (o2 addI (cE 110) (vE 1)) (cE 100)) (inS 1 1) FU)) rvS)))
def m_M_standard : FM := mthF [0] b_M_standard
/-- DyerBellsModel.lay (0 ) -/
def b_M_lay : SM := (sq (ifS (nB (zB 0 (thE (cE 0) (gE 22)))) rvS skS) (sq (pzS 22 (cE 0) (cE 1)) (sq (exS (clE m_M_standard [(thE (cE 0) (cE 0))])) rvS)))
def m_M_lay : FM := mthF [0] b_M_lay
/-- DyerBellsModel.take (0 ) -/
def b_M_take : SM := (sq (stS 1 (thE (cE 0) (gE 2))) (sq (pfS 2 (cE 0) (cE 0)) (rtS (vE 1))))
def m_M_take : FM := mthF [0] b_M_take
/-- DyerBellsModel.isLetter -/
def b_M_isLetter : SM := (rtS (kE (andB (nB (cB 2 (vE 0) (cE 97))) (nB (cB 4 (vE 0) (cE 122)))) (cE 1) (cE 0)))
def m_M_isLetter : FM := mthZ [0] b_M_isLetter
/-- DyerBellsModel.isDigit -/
def b_M_isDigit : SM := (rtS (kE (andB (nB (cB 2 (vE 0) (cE 48))) (nB (cB 4 (vE 0) (cE 57)))) (cE 1) (cE 0)))
def m_M_isDigit : FM := mthZ [0] b_M_isDigit
/-- DyerBellsModel.byteAt (0 ) -/
def b_M_byteAt : SM := (rtS (kE (nB (cB 3 (vE 1) (thE (cE 0) (gE 3)))) (ldE 64 940 (thE (cE 0) (cE 0)) (vE 1)) (cE 0)))
def m_M_byteAt : FM := mthF [0, 1] b_M_byteAt
/-- DyerBellsModel.go (0 ) -/
def b_M_go : SM := (sq (whS (andB (nB (cB 3 (thE (cE 0) (gE 5)) (thE (cE 0) (gE 3)))) (orB (cB 0 (ldE 64 940 (thE (cE 0) (cE 0)) (thE (cE 0) (gE 5))) (cE 32)) (nB (cB 1 (ldE 64 940 (thE (cE 0) (cE 0)) (thE (cE 0) (gE 5))) (cE 10))))) (poS 5 addI (cE 0) (cE 1)) skS FU) (sq (pfS 6 (cE 0) (thE (cE 0) (gE 5))) (sq (ifS (andB (nB (cB 5 (thE (cE 0) (gE 3)) (thE (cE 0) (gE 4)))) (nB (cB 2 (thE (cE 0) (gE 6)) (thE (cE 0) (gE 4))))) (sq (pfS 6 (cE 0) (thE (cE 0) (gE 4))) (sq (pfS 7 (cE 0) (cE 1)) rvS)) skS) (sq (ifS (nB (cB 2 (thE (cE 0) (gE 5)) (thE (cE 0) (gE 3)))) (sq (pfS 7 (cE 0) (cE 0)) rvS) skS) (sq (stS 1 (ldE 64 940 (thE (cE 0) (cE 0)) (thE (cE 0) (gE 5)))) (sq (ifS (andB (nB (zB 1 (clE m_M_isLetter [(vE 1)]))) (nB (zB 1 (clE m_M_isDigit [(vE 1)])))) (sq (pfS 7 (cE 0) (kE (orB (orB (orB (orB (orB (cB 0 (vE 1) (cE 59)) (cB 0 (vE 1) (cE 60))) (cB 0 (vE 1) (cE 61))) (cB 0 (vE 1) (cE 62))) (cB 0 (vE 1) (cE 40))) (nB (cB 1 (vE 1) (cE 41)))) (cE 4) (cE 1))) (sq (pfS 9 (cE 0) (vE 1)) (sq (poS 5 addI (cE 0) (cE 1)) rvS))) skS) (sq (stS 2 (clE m_M_isLetter [(vE 1)])) (sq (stS 3 (cE 1)) (sq (pfS 12 (cE 0) (cE 0)) (sq (pfS 8 (cE 0) (cE 0)) (sq (whS (orB (zB 1 (clE m_M_isLetter [(clE m_M_byteAt [(cE 0), (thE (cE 0) (gE 5))])])) (nB (zB 0 (clE m_M_isDigit [(clE m_M_byteAt [(cE 0), (thE (cE 0) (gE 5))])])))) (sq (stS 4 (ldE 64 940 (thE (cE 0) (cE 0)) (thE (cE 0) (gE 5)))) (sq (stS 3 (kE (andB (nB (zB 0 (vE 3))) (nB (cB 1 (clE m_M_isLetter [(vE 4)]) (vE 2)))) (cE 1) (cE 0))) (sq (ifS (nB (cB 3 (o2 subI (thE (cE 0) (gE 5)) (thE (cE 0) (gE 6))) (cE 6))) (pfS 12 (cE 0) (o2 subI (o2 addI (o2 mulI (cE 27) (thE (cE 0) (gE 12))) (o1 i2lI (vE 4))) (cE 96))) skS) (sq (ifS (nB (cB 3 (o2 subI (thE (cE 0) (gE 5)) (thE (cE 0) (gE 6))) (cE 4))) (pfS 8 (cE 0) (o2 subI (o2 addI (o2 mulI (cE 10) (thE (cE 0) (gE 8))) (vE 4)) (cE 48))) skS) (poS 5 addI (cE 0) (cE 1)))))) skS FU) (sq (pfS 7 (cE 0) (kE (orB (zB 0 (vE 3)) (nB (cB 5 (o2 subI (thE (cE 0) (gE 5)) (thE (cE 0) (gE 6))) (kE (nB (zB 0 (vE 2))) (cE 6) (cE 4))))) (cE 1) (kE (nB (zB 0 (vE 2))) (cE 2) (cE 3)))) rvS))))))))))))
def m_M_go : FM := mthF [0] b_M_go
/-- DyerBellsModel.begin (0 ) -/
def b_M_begin : SM := (sq (pfS 0 (cE 0) (cE 0)) (sq (exS (clE m_M_lay [(cE 0)])) (sq (pfS 3 (cE 0) (clE m_M_take [(cE 0)])) (sq (pfS 4 (cE 0) (vE 1)) (sq (pfS 10 (cE 0) (cE 0)) (sq (pfS 5 (cE 0) (cE 0)) (sq (exS (clE m_M_go [(cE 0)])) rvS)))))))
def m_M_begin : FM := mthF [0, 1] b_M_begin
/-- DyerBellsModel.standard -/
def b_M_standard_2 : SM := (sq (sq (stS 1 (cE 0)) (whS (nB (cB 3 (vE 1) (cE 160))) (asS 192 160 idI (cE 0) (vE 1) (cE 0)) (inS 1 1) FU)) (sq (asS 192 160 idI (cE 0) (cE 5) (cE 9999)) (sq (sq (stS 1 (cE 0)) (whS (nB (cB 3 (vE 1) (cE 7))) (asS 192 160 idI (cE 0) (o2 addI (cE 110) (vE 1)) (cE 100)) (inS 1 1) FU)) rvS)))
def m_M_standard_2 : FM := mthF [0] b_M_standard_2
/-- DyerBellsModel.spelt -/
def b_M_spelt : SM := (sq (stS 4 (o2 subI (o2 addI (o2 mulI (cE 27) (o2 subI (o1 i2lI (vE 0)) (cE 96))) (o1 i2lI (vE 1))) (cE 96))) (sq (ifS (nB (zB 5 (vE 2))) (stS 4 (o2 subI (o2 addI (o2 mulI (cE 27) (vE 4)) (o1 i2lI (vE 2))) (cE 96))) skS) (rtS (kE (nB (zB 5 (vE 3))) (o2 subI (o2 addI (o2 mulI (cE 27) (vE 4)) (o1 i2lI (vE 3))) (cE 96)) (vE 4)))))
def m_M_spelt : FM := mthF [0, 1, 2, 3] b_M_spelt
/-- DyerBellsModel.on -/
def b_M_on : SM := (sq (stS 4 (o2 subI (o2 addI (o2 mulI (cE 27) (vE 0)) (o1 i2lI (vE 2))) (cE 96))) (rtS (kE (nB (zB 5 (vE 3))) (o2 subI (o2 addI (o2 mulI (cE 27) (vE 4)) (o1 i2lI (vE 3))) (cE 96)) (vE 4))))
def m_M_on : FM := mthF [0, 2, 3] b_M_on
/-- DyerBellsModel.wordOf -/
def b_M_wordOf : SM := (tsS (vE 0) 0 [(rtS (clE m_M_on [(clE m_M_spelt [(cE 114), (cE 101), (cE 97), (cE 99)]), (cE 104), (cE 0)])), (rtS (clE m_M_on [(clE m_M_spelt [(cE 99), (cE 111), (cE 108), (cE 111)]), (cE 117), (cE 114)])), (rtS (clE m_M_on [(clE m_M_spelt [(cE 103), (cE 117), (cE 105), (cE 108)]), (cE 100), (cE 0)])), (rtS (clE m_M_spelt [(cE 117), (cE 115), (cE 101), (cE 114)])), (rtS (clE m_M_spelt [(cE 102), (cE 108), (cE 111), (cE 119)])), (rtS (clE m_M_on [(clE m_M_spelt [(cE 102), (cE 108), (cE 111), (cE 111)]), (cE 100), (cE 0)])), (rtS (clE m_M_on [(clE m_M_spelt [(cE 112), (cE 101), (cE 98), (cE 98)]), (cE 108), (cE 101)])), (rtS (clE m_M_spelt [(cE 98), (cE 101), (cE 108), (cE 108)])), (rtS (clE m_M_spelt [(cE 111), (cE 114), (cE 0), (cE 0)])), (rtS (clE m_M_spelt [(cE 97), (cE 110), (cE 100), (cE 0)])), (rtS (clE m_M_spelt [(cE 110), (cE 111), (cE 116), (cE 0)])), (rtS (clE m_M_on [(clE m_M_spelt [(cE 119), (cE 111), (cE 114), (cE 107)]), (cE 115), (cE 0)])), (rtS (clE m_M_on [(clE m_M_spelt [(cE 104), (cE 97), (cE 114), (cE 109)]), (cE 101), (cE 100)])), (rtS (clE m_M_on [(clE m_M_spelt [(cE 115), (cE 104), (cE 97), (cE 100)]), (cE 101), (cE 0)])), (rtS (clE m_M_spelt [(cE 104), (cE 111), (cE 117), (cE 114)])), (rtS (clE m_M_spelt [(cE 100), (cE 97), (cE 121), (cE 0)]))] (rtS (clE m_M_on [(clE m_M_spelt [(cE 112), (cE 97), (cE 115), (cE 115)]), (cE 101), (cE 100)])))
def m_M_wordOf : FM := mthF [0] b_M_wordOf
/-- DyerBellsModel.isWord (0 ) -/
def b_M_isWord : SM := (rtS (kE (andB (nB (cB 1 (thE (cE 0) (gE 7)) (cE 2))) (nB (zB 1 (o2 cmpL (thE (cE 0) (gE 12)) (clE m_M_wordOf [(vE 1)]))))) (cE 1) (cE 0)))
def m_M_isWord : FM := mthZ [0, 1] b_M_isWord
/-- DyerBellsModel.bad (0 ) -/
def b_M_bad : SM := (sq (pfS 10 (cE 0) (kE (nB (cB 1 (thE (cE 0) (gE 7)) (cE 1))) (cE 1) (vE 1))) (sq (pfS 11 (cE 0) (thE (cE 0) (gE 6))) (rtS (cE 0))))
def m_M_bad : FM := mthZ [0, 1] b_M_bad
/-- DyerBellsModel.isName (0 ) -/
def b_M_isName : SM := (sq (ifS (nB (cB 0 (thE (cE 0) (gE 7)) (cE 2))) (rtS (cE 0)) skS) (sq (sq (stS 1 (cE 0)) (whS (nB (cB 4 (vE 1) (cE 16))) (ifS (nB (zB 1 (o2 cmpL (thE (cE 0) (gE 12)) (clE m_M_wordOf [(vE 1)])))) (rtS (cE 0)) skS) (inS 1 1) FU)) (rtS (cE 1))))
def m_M_isName : FM := mthZ [0] b_M_isName
/-- DyerBellsModel.findIn (0 ) -/
def b_M_findIn : SM := (sq (sq (stS 4 (cE 0)) (whS (nB (cB 3 (vE 4) (vE 3))) (ifS (nB (zB 1 (o2 cmpL (ldE 448 26 (cE 0) (o2 addI (vE 2) (vE 4))) (thE (cE 0) (gE 12))))) (rtS (vE 4)) skS) (inS 4 1) FU)) (rtS (cE (-1))))
def m_M_findIn : FM := mthF [0, 1, 2, 3] b_M_findIn
/-- DyerBellsModel.isTold (0 ) -/
def b_M_isTold : SM := (rtS (kE (orB (orB (orB (cB 1 (clE m_M_findIn [(cE 0), (thE (cE 0) (cE 0)), (cE 0), (ldE 192 160 (thE (cE 0) (cE 0)) (cE 0))]) (cE (-1))) (cB 1 (clE m_M_findIn [(cE 0), (thE (cE 0) (cE 0)), (cE 10), (ldE 192 160 (thE (cE 0) (cE 0)) (cE 1))]) (cE (-1)))) (cB 1 (clE m_M_findIn [(cE 0), (thE (cE 0) (cE 0)), (cE 14), (ldE 192 160 (thE (cE 0) (cE 0)) (cE 2))]) (cE (-1)))) (nB (cB 0 (clE m_M_findIn [(cE 0), (thE (cE 0) (cE 0)), (cE 20), (ldE 192 160 (thE (cE 0) (cE 0)) (cE 3))]) (cE (-1))))) (cE 1) (cE 0)))
def m_M_isTold : FM := mthZ [0] b_M_isTold
/-- DyerBellsModel.readNew (0 ) -/
def b_M_readNew : SM := (sq (ifS (nB (zB 1 (clE m_M_isName [(cE 0)]))) (rtS (clE m_M_bad [(cE 0), (cE 1)])) skS) (sq (ifS (nB (zB 0 (clE m_M_isTold [(cE 0)]))) (rtS (clE m_M_bad [(cE 0), (cE 3)])) skS) (sq (asS 448 26 idI (thE (cE 0) (cE 0)) (vE 1) (thE (cE 0) (gE 12))) (sq (exS (clE m_M_go [(cE 0)])) (rtS (cE 1))))))
def m_M_readNew : FM := mthZ [0, 1] b_M_readNew
/-- DyerBellsModel.isIn -/
def b_M_isIn : SM := (rtS (kE (andB (nB (cB 2 (vE 0) (vE 1))) (nB (cB 4 (vE 0) (vE 2)))) (cE 1) (cE 0)))
def m_M_isIn : FM := mthZ [0, 1, 2] b_M_isIn
/-- DyerBellsModel.readNumber (0 ) -/
def b_M_readNumber : SM := (sq (ifS (nB (cB 0 (thE (cE 0) (gE 7)) (cE 3))) (rtS (clE m_M_bad [(cE 0), (cE 1)])) skS) (sq (ifS (nB (zB 1 (clE m_M_isIn [(thE (cE 0) (gE 8)), (vE 1), (vE 2)]))) (rtS (clE m_M_bad [(cE 0), (cE 2)])) skS) (sq (pfS 13 (cE 0) (thE (cE 0) (gE 8))) (sq (exS (clE m_M_go [(cE 0)])) (rtS (cE 1))))))
def m_M_readNumber : FM := mthZ [0, 1, 2] b_M_readNumber
/-- DyerBellsModel.readReach (0 ) -/
def b_M_readReach : SM := (sq (stS 1 (ldE 192 160 (thE (cE 0) (cE 0)) (cE 0))) (sq (ifS (nB (cB 1 (vE 1) (cE 10))) (rtS (clE m_M_bad [(cE 0), (cE 4)])) skS) (sq (exS (clE m_M_go [(cE 0)])) (sq (ifS (orB (zB 0 (clE m_M_readNew [(cE 0), (o2 addI (cE 0) (vE 1))])) (nB (zB 1 (clE m_M_readNumber [(cE 0), (cE 1), (cE 9999)])))) (rtS (cE 0)) skS) (sq (asS 192 160 idI (thE (cE 0) (cE 0)) (o2 addI (cE 10) (o2 mulI (cE 2) (vE 1))) (thE (cE 0) (gE 13))) (sq (ifS (nB (zB 1 (clE m_M_readNumber [(cE 0), (cE 0), (cE 500)]))) (rtS (cE 0)) skS) (sq (asS 192 160 idI (thE (cE 0) (cE 0)) (o2 addI (o2 addI (cE 10) (o2 mulI (cE 2) (vE 1))) (cE 1)) (thE (cE 0) (gE 13))) (sq (aoS 192 160 addI (thE (cE 0) (cE 0)) (cE 0) (cE 1)) (rtS (cE 1))))))))))
def m_M_readReach : FM := mthZ [0] b_M_readReach
/-- DyerBellsModel.readColour (0 ) -/
def b_M_readColour : SM := (sq (stS 1 (ldE 192 160 (thE (cE 0) (cE 0)) (cE 1))) (sq (ifS (nB (cB 1 (vE 1) (cE 4))) (rtS (clE m_M_bad [(cE 0), (cE 4)])) skS) (sq (exS (clE m_M_go [(cE 0)])) (sq (ifS (nB (zB 1 (clE m_M_readNew [(cE 0), (o2 addI (cE 10) (vE 1))]))) (rtS (cE 0)) skS) (sq (aoS 192 160 addI (thE (cE 0) (cE 0)) (cE 1) (cE 1)) (rtS (cE 1)))))))
def m_M_readColour : FM := mthZ [0] b_M_readColour
/-- DyerBellsModel.readReachTold (0 ) -/
def b_M_readReachTold : SM := (sq (ifS (nB (zB 1 (clE m_M_isName [(cE 0)]))) (rtS (clE m_M_bad [(cE 0), (cE 1)])) skS) (sq (stS 1 (clE m_M_findIn [(cE 0), (thE (cE 0) (cE 0)), (cE 0), (ldE 192 160 (thE (cE 0) (cE 0)) (cE 0))])) (sq (ifS (nB (cB 1 (vE 1) (cE (-1)))) (rtS (clE m_M_bad [(cE 0), (cE 3)])) skS) (sq (pfS 13 (cE 0) (vE 1)) (sq (exS (clE m_M_go [(cE 0)])) (rtS (cE 1)))))))
def m_M_readReachTold : FM := mthZ [0] b_M_readReachTold
/-- DyerBellsModel.has -/
def b_M_has : SM := (rtS (kE (nB (cB 1 (o2 andI (o2 shrI (vE 0) (vE 1)) (cE 1)) (cE 1))) (cE 1) (cE 0)))
def m_M_has : FM := mthZ [0, 1] b_M_has
/-- DyerBellsModel.readColourTold (0 ) -/
def b_M_readColourTold : SM := (sq (ifS (nB (zB 1 (clE m_M_isName [(cE 0)]))) (rtS (clE m_M_bad [(cE 0), (cE 1)])) skS) (sq (stS 2 (clE m_M_findIn [(cE 0), (thE (cE 0) (cE 0)), (cE 10), (ldE 192 160 (thE (cE 0) (cE 0)) (cE 1))])) (sq (ifS (orB (cB 0 (vE 2) (cE (-1))) (nB (zB 0 (clE m_M_has [(vE 1), (vE 2)])))) (rtS (clE m_M_bad [(cE 0), (cE 3)])) skS) (sq (pfS 13 (cE 0) (vE 2)) (rtS (cE 1))))))
def m_M_readColourTold : FM := mthZ [0, 1] b_M_readColourTold
/-- DyerBellsModel.readGuild (0 ) -/
def b_M_readGuild : SM := (sq (stS 1 (ldE 192 160 (thE (cE 0) (cE 0)) (cE 2))) (sq (ifS (nB (cB 1 (vE 1) (cE 6))) (rtS (clE m_M_bad [(cE 0), (cE 4)])) skS) (sq (stS 2 (o2 addI (cE 30) (o2 mulI (cE 6) (vE 1)))) (sq (exS (clE m_M_go [(cE 0)])) (sq (ifS (orB (zB 0 (clE m_M_readNew [(cE 0), (o2 addI (cE 14) (vE 1))])) (nB (zB 1 (clE m_M_readReachTold [(cE 0)])))) (rtS (cE 0)) skS) (sq (asS 192 160 idI (thE (cE 0) (cE 0)) (vE 2) (thE (cE 0) (gE 13))) (sq (ifS (nB (zB 1 (clE m_M_readNumber [(cE 0), (cE 1), (cE 24)]))) (rtS (cE 0)) skS) (sq (asS 192 160 idI (thE (cE 0) (cE 0)) (o2 addI (vE 2) (cE 1)) (thE (cE 0) (gE 13))) (sq (sq (stS 3 (cE 0)) (whS (nB (cB 3 (vE 3) (cE 4))) (asS 192 160 idI (thE (cE 0) (cE 0)) (o2 addI (o2 addI (vE 2) (cE 2)) (vE 3)) (cE 0)) (inS 3 1) FU)) (sq (stS 3 (cE 0)) (sq (whS (orB (zB 0 (vE 3)) (nB (cB 1 (thE (cE 0) (gE 7)) (cE 2)))) (sq (ifS (nB (zB 1 (clE m_M_readColourTold [(cE 0), (vE 3)]))) (rtS (cE 0)) skS) (sq (stS 4 (thE (cE 0) (gE 13))) (sq (stS 3 (o2 iorI (vE 3) (o2 shlI (cE 1) (vE 4)))) (sq (exS (clE m_M_go [(cE 0)])) (sq (ifS (nB (zB 1 (clE m_M_readNumber [(cE 0), (cE 1), (cE 9999)]))) (rtS (cE 0)) skS) (asS 192 160 idI (thE (cE 0) (cE 0)) (o2 addI (o2 addI (vE 2) (cE 2)) (vE 4)) (thE (cE 0) (gE 13)))))))) skS FU) (sq (aoS 192 160 addI (thE (cE 0) (cE 0)) (cE 2) (cE 1)) (rtS (cE 1))))))))))))))
def m_M_readGuild : FM := mthZ [0] b_M_readGuild
/-- DyerBellsModel.readUser (0 ) -/
def b_M_readUser : SM := (sq (stS 1 (ldE 192 160 (thE (cE 0) (cE 0)) (cE 3))) (sq (ifS (nB (cB 1 (vE 1) (cE 6))) (rtS (clE m_M_bad [(cE 0), (cE 4)])) skS) (sq (stS 2 (o2 addI (cE 66) (o2 mulI (cE 7) (vE 1)))) (sq (exS (clE m_M_go [(cE 0)])) (sq (ifS (orB (zB 0 (clE m_M_readNew [(cE 0), (o2 addI (cE 20) (vE 1))])) (nB (zB 1 (clE m_M_readReachTold [(cE 0)])))) (rtS (cE 0)) skS) (sq (asS 192 160 idI (thE (cE 0) (cE 0)) (vE 2) (thE (cE 0) (gE 13))) (sq (ifS (nB (zB 1 (clE m_M_readNumber [(cE 0), (cE 0), (cE 23)]))) (rtS (cE 0)) skS) (sq (asS 192 160 idI (thE (cE 0) (cE 0)) (o2 addI (vE 2) (cE 1)) (thE (cE 0) (gE 13))) (sq (ifS (nB (zB 1 (clE m_M_readNumber [(cE 0), (o2 addI (thE (cE 0) (gE 13)) (cE 1)), (cE 24)]))) (rtS (cE 0)) skS) (sq (asS 192 160 idI (thE (cE 0) (cE 0)) (o2 addI (vE 2) (cE 2)) (thE (cE 0) (gE 13))) (sq (sq (stS 3 (cE 0)) (whS (nB (cB 3 (vE 3) (cE 4))) (asS 192 160 idI (thE (cE 0) (cE 0)) (o2 addI (o2 addI (vE 2) (cE 3)) (vE 3)) (cE (-1))) (inS 3 1) FU)) (sq (stS 3 (cE 0)) (sq (whS (nB (cB 1 (thE (cE 0) (gE 7)) (cE 2))) (sq (ifS (nB (zB 1 (clE m_M_readColourTold [(cE 0), (vE 3)]))) (rtS (cE 0)) skS) (sq (stS 4 (thE (cE 0) (gE 13))) (sq (stS 3 (o2 iorI (vE 3) (o2 shlI (cE 1) (vE 4)))) (sq (exS (clE m_M_go [(cE 0)])) (sq (ifS (nB (zB 1 (clE m_M_readNumber [(cE 0), (cE 0), (cE 9999)]))) (rtS (cE 0)) skS) (asS 192 160 idI (thE (cE 0) (cE 0)) (o2 addI (o2 addI (vE 2) (cE 3)) (vE 4)) (thE (cE 0) (gE 13)))))))) skS FU) (sq (aoS 192 160 addI (thE (cE 0) (cE 0)) (cE 3) (cE 1)) (rtS (cE 1))))))))))))))))
def m_M_readUser : FM := mthZ [0] b_M_readUser
/-- DyerBellsModel.readFlow (0 ) -/
def b_M_readFlow : SM := (sq (exS (clE m_M_go [(cE 0)])) (sq (ifS (nB (cB 0 (thE (cE 0) (gE 7)) (cE 3))) (rtS (clE m_M_bad [(cE 0), (cE 1)])) skS) (sq (ifS (nB (cB 5 (thE (cE 0) (gE 8)) (cE 6))) (rtS (clE m_M_bad [(cE 0), (cE 2)])) skS) (sq (ifS (nB (zB 0 (clE m_M_has [(thE (cE 0) (gE 24)), (thE (cE 0) (gE 8))]))) (rtS (clE m_M_bad [(cE 0), (cE 3)])) skS) (sq (poS 24 iorI (cE 0) (o2 shlI (cE 1) (thE (cE 0) (gE 8)))) (sq (stS 1 (thE (cE 0) (gE 8))) (sq (exS (clE m_M_go [(cE 0)])) (sq (ifS (nB (zB 1 (clE m_M_readNumber [(cE 0), (cE 0), (cE 9999)]))) (rtS (cE 0)) skS) (sq (asS 192 160 idI (thE (cE 0) (cE 0)) (o2 addI (cE 110) (vE 1)) (thE (cE 0) (gE 13))) (rtS (cE 1)))))))))))
def m_M_readFlow : FM := mthZ [0] b_M_readFlow
/-- DyerBellsModel.readFlood (0 ) -/
def b_M_readFlood : SM := (sq (ifS (nB (zB 0 (thE (cE 0) (gE 23)))) (rtS (clE m_M_bad [(cE 0), (cE 3)])) skS) (sq (pfS 23 (cE 0) (cE 1)) (sq (exS (clE m_M_go [(cE 0)])) (sq (ifS (nB (zB 1 (clE m_M_readNumber [(cE 0), (cE 1), (cE 9999)]))) (rtS (cE 0)) skS) (sq (asS 192 160 idI (thE (cE 0) (cE 0)) (cE 5) (thE (cE 0) (gE 13))) (rtS (cE 1)))))))
def m_M_readFlood : FM := mthZ [0] b_M_readFlood
/-- DyerBellsModel.readPebble (0 ) -/
def b_M_readPebble : SM := (sq (stS 1 (ldE 192 160 (thE (cE 0) (cE 0)) (cE 4))) (sq (ifS (nB (cB 1 (vE 1) (cE 12))) (rtS (clE m_M_bad [(cE 0), (cE 4)])) skS) (sq (exS (clE m_M_go [(cE 0)])) (sq (ifS (nB (zB 1 (clE m_M_readColourTold [(cE 0), (cE 0)]))) (rtS (cE 0)) skS) (sq (stS 2 (o2 addI (cE 118) (o2 mulI (cE 3) (vE 1)))) (sq (asS 192 160 idI (thE (cE 0) (cE 0)) (vE 2) (thE (cE 0) (gE 13))) (sq (exS (clE m_M_go [(cE 0)])) (sq (ifS (nB (cB 0 (thE (cE 0) (gE 7)) (cE 3))) (rtS (clE m_M_bad [(cE 0), (cE 1)])) skS) (sq (ifS (nB (zB 1 (clE m_M_isIn [(thE (cE 0) (gE 8)), (cE 1), (cE 9999)]))) (rtS (clE m_M_bad [(cE 0), (cE 2)])) skS) (sq (sq (stS 3 (cE 0)) (whS (nB (cB 3 (vE 3) (vE 1))) (ifS (andB (nB (cB 1 (ldE 192 160 (thE (cE 0) (cE 0)) (o2 addI (cE 118) (o2 mulI (cE 3) (vE 3)))) (ldE 192 160 (thE (cE 0) (cE 0)) (vE 2)))) (nB (cB 1 (ldE 192 160 (thE (cE 0) (cE 0)) (o2 addI (o2 addI (cE 118) (o2 mulI (cE 3) (vE 3))) (cE 1))) (thE (cE 0) (gE 8))))) (rtS (clE m_M_bad [(cE 0), (cE 3)])) skS) (inS 3 1) FU)) (sq (asS 192 160 idI (thE (cE 0) (cE 0)) (o2 addI (vE 2) (cE 1)) (thE (cE 0) (gE 8))) (sq (exS (clE m_M_go [(cE 0)])) (sq (ifS (nB (zB 1 (clE m_M_readNumber [(cE 0), (cE 0), (cE 999)]))) (rtS (cE 0)) skS) (sq (asS 192 160 idI (thE (cE 0) (cE 0)) (o2 addI (vE 2) (cE 2)) (thE (cE 0) (gE 13))) (sq (aoS 192 160 addI (thE (cE 0) (cE 0)) (cE 4) (cE 1)) (rtS (cE 1)))))))))))))))))
def m_M_readPebble : FM := mthZ [0] b_M_readPebble
/-- DyerBellsModel.isSign (0 ) -/
def b_M_isSign : SM := (rtS (kE (andB (nB (cB 1 (thE (cE 0) (gE 7)) (cE 4))) (nB (cB 1 (thE (cE 0) (gE 9)) (vE 1)))) (cE 1) (cE 0)))
def m_M_isSign : FM := mthZ [0, 1] b_M_isSign
/-- DyerBellsModel.readEnd (0 ) -/
def b_M_readEnd : SM := (sq (ifS (nB (zB 1 (clE m_M_isSign [(cE 0), (cE 59)]))) (rtS (clE m_M_bad [(cE 0), (cE 1)])) skS) (sq (exS (clE m_M_go [(cE 0)])) (rtS (cE 1))))
def m_M_readEnd : FM := mthZ [0] b_M_readEnd
/-- DyerBellsModel.readLine (0 ) -/
def b_M_readLine : SM := (sq (stS 1 (cE 0)) (sq (whS (andB (nB (cB 4 (vE 1) (cE 6))) (nB (zB 1 (clE m_M_isWord [(cE 0), (vE 1)])))) (inS 1 1) skS FU) (sq skS (sq (swS (tsS (vE 1) 0 [(sq (stS 2 (clE m_M_readReach [(cE 0)])) brS), (sq (stS 2 (clE m_M_readColour [(cE 0)])) brS), (sq (stS 2 (clE m_M_readGuild [(cE 0)])) brS), (sq (stS 2 (clE m_M_readUser [(cE 0)])) brS), (sq (stS 2 (clE m_M_readFlow [(cE 0)])) brS), (sq (stS 2 (clE m_M_readFlood [(cE 0)])) brS), (sq (stS 2 (clE m_M_readPebble [(cE 0)])) brS)] (rtS (clE m_M_bad [(cE 0), (cE 1)])))) (rtS (kE (andB (nB (zB 0 (vE 2))) (nB (zB 0 (clE m_M_readEnd [(cE 0)])))) (cE 1) (cE 0)))))))
def m_M_readLine : FM := mthZ [0] b_M_readLine
/-- DyerBellsModel.river (0 ) -/
def b_M_river : SM := (sq (exS (clE m_M_begin [(cE 0), (cE 900)])) (sq (exS (clE m_M_standard_2 [(thE (cE 0) (cE 0))])) (sq (pfS 23 (cE 0) (cE 0)) (sq (pfS 24 (cE 0) (cE 0)) (sq (stS 1 (cE 0)) (sq (whS (nB (zB 0 (thE (cE 0) (gE 7)))) (sq (ifS (nB (zB 1 (clE m_M_readLine [(cE 0)]))) (rtS (o2 subI (cE (-1)) (thE (cE 0) (gE 11)))) skS) (inS 1 1)) skS FU) (sq (sq (stS 2 (cE 0)) (whS (nB (cB 3 (vE 2) (cE 160))) (asS 128 592 idI (thE (cE 0) (cE 0)) (vE 2) (ldE 192 160 (thE (cE 0) (cE 0)) (vE 2))) (inS 2 1) FU)) (sq (sq (stS 2 (cE 0)) (whS (nB (cB 3 (vE 2) (cE 26))) (asS 384 26 idI (thE (cE 0) (cE 0)) (vE 2) (ldE 448 26 (thE (cE 0) (cE 0)) (vE 2))) (inS 2 1) FU)) (sq (asS 128 592 idI (thE (cE 0) (cE 0)) (cE 160) (cE 0)) (sq (asS 128 592 idI (thE (cE 0) (cE 0)) (cE 285) (cE 0)) (sq (asS 128 592 idI (thE (cE 0) (cE 0)) (cE 350) (cE 0)) (rtS (vE 1)))))))))))))
def m_M_river : FM := mthF [0] b_M_river
/-- DyerBellsModel.fault (0 ) -/
def b_M_fault : SM := (sq (pfS 0 (cE 0) (cE 0)) (rtS (thE (cE 0) (gE 10))))
def m_M_fault : FM := mthF [0] b_M_fault
/-- DyerBellsModel.reaches (0 ) -/
def b_M_reaches : SM := (rtS (ldE 128 592 (thE (cE 0) (cE 0)) (cE 0)))
def m_M_reaches : FM := mthF [0] b_M_reaches
/-- DyerBellsModel.isReach (0 ) -/
def b_M_isReach : SM := (rtS (kE (andB (nB (zB 2 (vE 1))) (nB (cB 3 (vE 1) (clE m_M_reaches [(cE 0)])))) (cE 1) (cE 0)))
def m_M_isReach : FM := mthZ [0, 1] b_M_isReach
/-- DyerBellsModel.refuse (0 ) -/
def b_M_refuse : SM := (sq (pfS 0 (cE 0) (cE 1)) (rtS (cE 0)))
def m_M_refuse : FM := mthF [0] b_M_refuse
/-- DyerBellsModel.reach (0 ) -/
def b_M_reach : SM := (sq (exS (clE m_M_lay [(cE 0)])) (sq (ifS (orB (zB 0 (clE m_M_isReach [(cE 0), (vE 1)])) (nB (zB 1 (clE m_M_isIn [(vE 2), (cE 0), (cE 1)])))) (rtS (clE m_M_refuse [(cE 0)])) skS) (sq (pfS 0 (cE 0) (cE 0)) (rtS (ldE 128 592 (thE (cE 0) (cE 0)) (o2 addI (o2 addI (cE 10) (o2 mulI (cE 2) (vE 1))) (vE 2)))))))
def m_M_reach : FM := mthF [0, 1, 2] b_M_reach
/-- DyerBellsModel.guilds (0 ) -/
def b_M_guilds : SM := (rtS (ldE 128 592 (thE (cE 0) (cE 0)) (cE 2)))
def m_M_guilds : FM := mthF [0] b_M_guilds
/-- DyerBellsModel.isGuild (0 ) -/
def b_M_isGuild : SM := (rtS (kE (andB (nB (zB 2 (vE 1))) (nB (cB 3 (vE 1) (clE m_M_guilds [(cE 0)])))) (cE 1) (cE 0)))
def m_M_isGuild : FM := mthZ [0, 1] b_M_isGuild
/-- DyerBellsModel.colours (0 ) -/
def b_M_colours : SM := (rtS (ldE 128 592 (thE (cE 0) (cE 0)) (cE 1)))
def m_M_colours : FM := mthF [0] b_M_colours
/-- DyerBellsModel.guild (0 ) -/
def b_M_guild : SM := (sq (exS (clE m_M_lay [(cE 0)])) (sq (ifS (orB (orB (zB 0 (clE m_M_isGuild [(cE 0), (vE 1)])) (zB 2 (vE 2))) (nB (cB 2 (vE 2) (o2 addI (cE 2) (clE m_M_colours [(cE 0)]))))) (rtS (clE m_M_refuse [(cE 0)])) skS) (sq (pfS 0 (cE 0) (cE 0)) (rtS (ldE 128 592 (thE (cE 0) (cE 0)) (o2 addI (o2 addI (cE 30) (o2 mulI (cE 6) (vE 1))) (vE 2)))))))
def m_M_guild : FM := mthF [0, 1, 2] b_M_guild
/-- DyerBellsModel.users (0 ) -/
def b_M_users : SM := (rtS (ldE 128 592 (thE (cE 0) (cE 0)) (cE 3)))
def m_M_users : FM := mthF [0] b_M_users
/-- DyerBellsModel.isUser (0 ) -/
def b_M_isUser : SM := (rtS (kE (andB (nB (zB 2 (vE 1))) (nB (cB 3 (vE 1) (clE m_M_users [(cE 0)])))) (cE 1) (cE 0)))
def m_M_isUser : FM := mthZ [0, 1] b_M_isUser
/-- DyerBellsModel.user (0 ) -/
def b_M_user : SM := (sq (exS (clE m_M_lay [(cE 0)])) (sq (ifS (orB (orB (zB 0 (clE m_M_isUser [(cE 0), (vE 1)])) (zB 2 (vE 2))) (nB (cB 2 (vE 2) (o2 addI (cE 3) (clE m_M_colours [(cE 0)]))))) (rtS (clE m_M_refuse [(cE 0)])) skS) (sq (pfS 0 (cE 0) (cE 0)) (rtS (ldE 128 592 (thE (cE 0) (cE 0)) (o2 addI (o2 addI (cE 66) (o2 mulI (cE 7) (vE 1))) (vE 2)))))))
def m_M_user : FM := mthF [0, 1, 2] b_M_user
/-- DyerBellsModel.flow (0 ) -/
def b_M_flow : SM := (sq (exS (clE m_M_lay [(cE 0)])) (sq (ifS (nB (zB 1 (clE m_M_isIn [(vE 1), (cE 0), (cE 6)]))) (rtS (clE m_M_refuse [(cE 0)])) skS) (sq (pfS 0 (cE 0) (cE 0)) (rtS (ldE 128 592 (thE (cE 0) (cE 0)) (o2 addI (cE 110) (vE 1)))))))
def m_M_flow : FM := mthF [0, 1] b_M_flow
/-- DyerBellsModel.findIn (0 ) -/
def b_M_findIn_2 : SM := (sq (sq (stS 4 (cE 0)) (whS (nB (cB 3 (vE 4) (vE 3))) (ifS (nB (zB 1 (o2 cmpL (ldE 384 26 (cE 0) (o2 addI (vE 2) (vE 4))) (thE (cE 0) (gE 12))))) (rtS (vE 4)) skS) (inS 4 1) FU)) (rtS (cE (-1))))
def m_M_findIn_2 : FM := mthF [0, 1, 2, 3] b_M_findIn_2
/-- DyerBellsModel.readBell (0 ) -/
def b_M_readBell : SM := (sq (ifS (nB (zB 1 (clE m_M_isWord [(cE 0), (cE 7)]))) (rtS (clE m_M_bad [(cE 0), (cE 1)])) skS) (sq (ifS (nB (cB 1 (thE (cE 0) (gE 25)) (cE 40))) (rtS (clE m_M_bad [(cE 0), (cE 4)])) skS) (sq (exS (clE m_M_go [(cE 0)])) (sq (ifS (nB (zB 1 (clE m_M_readNumber [(cE 0), (cE 0), (cE 6)]))) (rtS (cE 0)) skS) (sq (stS 1 (o2 mulI (cE 24) (thE (cE 0) (gE 13)))) (sq (ifS (nB (zB 1 (clE m_M_readNumber [(cE 0), (cE 0), (cE 23)]))) (rtS (cE 0)) skS) (sq (stS 1 (o2 addI (vE 1) (thE (cE 0) (gE 13)))) (sq (ifS (nB (zB 1 (clE m_M_isName [(cE 0)]))) (rtS (clE m_M_bad [(cE 0), (cE 1)])) skS) (sq (stS 2 (clE m_M_findIn_2 [(cE 0), (thE (cE 0) (cE 0)), (cE 14), (clE m_M_guilds [(cE 0)])])) (sq (ifS (nB (cB 1 (vE 2) (cE (-1)))) (rtS (clE m_M_bad [(cE 0), (cE 3)])) skS) (sq (exS (clE m_M_go [(cE 0)])) (sq (ifS (nB (zB 1 (clE m_M_readNumber [(cE 0), (cE 1), (kE (nB (cB 3 (o2 subI (cE 168) (vE 1)) (cE 24))) (o2 subI (cE 168) (vE 1)) (cE 24))]))) (rtS (cE 0)) skS) (sq (asS 320 120 idI (thE (cE 0) (cE 0)) (o2 mulI (cE 3) (thE (cE 0) (gE 25))) (vE 1)) (sq (asS 320 120 idI (thE (cE 0) (cE 0)) (o2 addI (o2 mulI (cE 3) (thE (cE 0) (gE 25))) (cE 1)) (vE 2)) (sq (asS 320 120 idI (thE (cE 0) (cE 0)) (o2 addI (o2 mulI (cE 3) (thE (cE 0) (gE 25))) (cE 2)) (thE (cE 0) (gE 13))) (sq (poS 25 addI (cE 0) (cE 1)) (rtS (clE m_M_readEnd [(cE 0)]))))))))))))))))))
def m_M_readBell : FM := mthZ [0] b_M_readBell
/-- DyerBellsModel.order (0 ) -/
def b_M_order : SM := (sq (exS (clE m_M_begin [(cE 0), (cE 600)])) (sq (pfS 25 (cE 0) (cE 0)) (sq (whS (nB (zB 0 (thE (cE 0) (gE 7)))) (ifS (nB (zB 1 (clE m_M_readBell [(cE 0)]))) (rtS (o2 subI (cE (-1)) (thE (cE 0) (gE 11)))) skS) skS FU) (sq (sq (stS 1 (cE 0)) (whS (nB (cB 3 (vE 1) (o2 mulI (cE 3) (thE (cE 0) (gE 25))))) (asS 128 592 idI (thE (cE 0) (cE 0)) (o2 addI (cE 161) (vE 1)) (ldE 320 120 (thE (cE 0) (cE 0)) (vE 1))) (inS 1 1) FU)) (sq (asS 128 592 idI (thE (cE 0) (cE 0)) (cE 160) (thE (cE 0) (gE 25))) (rtS (thE (cE 0) (gE 25))))))))
def m_M_order : FM := mthF [0] b_M_order
/-- DyerBellsModel.bells (0 ) -/
def b_M_bells : SM := (rtS (ldE 128 592 (thE (cE 0) (cE 0)) (cE 160)))
def m_M_bells : FM := mthF [0] b_M_bells
/-- DyerBellsModel.addBell (0 ) -/
def b_M_addBell : SM := (sq (stS 4 (o2 addI (cE 161) (o2 mulI (cE 3) (clE m_M_bells [(cE 0)])))) (sq (asS 128 592 idI (thE (cE 0) (cE 0)) (vE 4) (vE 1)) (sq (asS 128 592 idI (thE (cE 0) (cE 0)) (o2 addI (vE 4) (cE 1)) (vE 2)) (sq (asS 128 592 idI (thE (cE 0) (cE 0)) (o2 addI (vE 4) (cE 2)) (vE 3)) (sq (aoS 128 592 addI (thE (cE 0) (cE 0)) (cE 160) (cE 1)) rvS)))))
def m_M_addBell : FM := mthF [0, 1, 2, 3] b_M_addBell
/-- DyerBellsModel.ring (0 ) -/
def b_M_ring : SM := (sq (pfS 0 (cE 0) (cE 0)) (sq (exS (clE m_M_lay [(cE 0)])) (sq (ifS (orB (orB (orB (orB (zB 0 (clE m_M_isGuild [(cE 0), (vE 2)])) (zB 0 (clE m_M_isIn [(vE 1), (cE 0), (cE 167)]))) (zB 0 (clE m_M_isIn [(vE 3), (cE 1), (cE 24)]))) (cB 4 (o2 addI (vE 1) (vE 3)) (cE 168))) (nB (cB 1 (clE m_M_bells [(cE 0)]) (cE 40)))) (rtS (cE (-1))) skS) (sq (exS (clE m_M_addBell [(cE 0), (vE 1), (vE 2), (vE 3)])) (rtS (o2 subI (clE m_M_bells [(cE 0)]) (cE 1)))))))
def m_M_ring : FM := mthF [0, 1, 2, 3] b_M_ring
/-- DyerBellsModel.undo (0 ) -/
def b_M_undo : SM := (sq (pfS 0 (cE 0) (cE 0)) (sq (exS (clE m_M_lay [(cE 0)])) (sq (ifS (nB (zB 1 (clE m_M_bells [(cE 0)]))) (rtS (cE (-1))) skS) (sq (aoS 128 592 subI (thE (cE 0) (cE 0)) (cE 160) (cE 1)) (rtS (clE m_M_bells [(cE 0)]))))))
def m_M_undo : FM := mthF [0] b_M_undo
/-- DyerBellsModel.bell (0 ) -/
def b_M_bell : SM := (sq (exS (clE m_M_lay [(cE 0)])) (sq (ifS (orB (orB (zB 2 (vE 1)) (cB 3 (vE 1) (clE m_M_bells [(cE 0)]))) (nB (zB 1 (clE m_M_isIn [(vE 2), (cE 0), (cE 2)])))) (rtS (clE m_M_refuse [(cE 0)])) skS) (sq (pfS 0 (cE 0) (cE 0)) (rtS (ldE 128 592 (thE (cE 0) (cE 0)) (o2 addI (o2 addI (cE 161) (o2 mulI (cE 3) (vE 1))) (vE 2)))))))
def m_M_bell : FM := mthF [0, 1, 2] b_M_bell
/-- DyerBellsModel.isHour -/
def b_M_isHour : SM := (rtS (kE (andB (nB (zB 2 (vE 0))) (nB (cB 3 (vE 0) (cE 168)))) (cE 1) (cE 0)))
def m_M_isHour : FM := mthZ [0] b_M_isHour
/-- DyerBellsModel.isColour (0 ) -/
def b_M_isColour : SM := (rtS (kE (andB (nB (zB 2 (vE 1))) (nB (cB 3 (vE 1) (clE m_M_colours [(cE 0)])))) (cE 1) (cE 0)))
def m_M_isColour : FM := mthZ [0, 1] b_M_isColour
/-- DyerBellsModel.layWorks (0 ) -/
def b_M_layWorks : SM := (sq (sq (stS 2 (cE 0)) (whS (nB (cB 3 (vE 2) (cE 168))) (asS 640 168 idI (thE (cE 0) (cE 0)) (vE 2) (cE 0)) (inS 2 1) FU)) (sq (sq (stS 2 (cE 0)) (whS (nB (cB 3 (vE 2) (clE m_M_bells [(cE 0)]))) (sq (stS 3 (o2 addI (cE 161) (o2 mulI (cE 3) (vE 2)))) (sq (ifS (nB (cB 1 (ldE 128 592 (thE (cE 0) (cE 0)) (o2 addI (vE 3) (cE 1))) (vE 1))) ctS skS) (sq (stS 4 (cE 0)) (whS (nB (cB 3 (vE 4) (ldE 128 592 (thE (cE 0) (cE 0)) (o2 addI (vE 3) (cE 2))))) (aoS 640 168 iorI (thE (cE 0) (cE 0)) (o2 addI (ldE 128 592 (thE (cE 0) (cE 0)) (vE 3)) (vE 4)) (o2 shlI (cE 1) (ldE 128 592 (thE (cE 0) (cE 0)) (o2 addI (vE 3) (cE 1))))) (inS 4 1) FU)))) (inS 2 1) FU)) rvS))
def m_M_layWorks : FM := mthF [0, 1] b_M_layWorks
/-- DyerBellsModel.layFlows (0 ) -/
def b_M_layFlows : SM := (sq (sq (stS 1 (cE 0)) (whS (nB (cB 3 (vE 1) (cE 7))) (asS 960 7 idI (thE (cE 0) (cE 0)) (vE 1) (ldE 128 592 (thE (cE 0) (cE 0)) (o2 addI (cE 110) (vE 1)))) (inS 1 1) FU)) rvS)
def m_M_layFlows : FM := mthF [0] b_M_layFlows
/-- DyerBellsModel.hour (0 ) -/
def b_M_hour : SM := (sq (sq (stS 4 (cE 0)) (whS (nB (cB 3 (vE 4) (clE m_M_guilds [(cE 0)]))) (sq (ifS (nB (zB 1 (clE m_M_has [(ldE 640 168 (thE (cE 0) (cE 0)) (vE 1)), (vE 4)]))) ctS skS) (sq (aoS 704 40 addI (thE (cE 0) (cE 0)) (o2 addI (o2 mulI (cE 4) (ldE 128 592 (thE (cE 0) (cE 0)) (o2 addI (cE 30) (o2 mulI (cE 6) (vE 4))))) (vE 2)) (ldE 128 592 (thE (cE 0) (cE 0)) (o2 addI (o2 addI (o2 addI (cE 30) (o2 mulI (cE 6) (vE 4))) (cE 2)) (vE 2)))) (aoS 896 4 addI (thE (cE 0) (cE 0)) (vE 2) (ldE 128 592 (thE (cE 0) (cE 0)) (o2 addI (o2 addI (o2 addI (cE 30) (o2 mulI (cE 6) (vE 4))) (cE 2)) (vE 2)))))) (inS 4 1) FU)) (sq (ifS (andB (andB (nB (zB 1 (vE 1))) (nB (cB 0 (thE (cE 0) (gE 34)) (cE (-1))))) (nB (cB 1 (vE 2) (thE (cE 0) (gE 35))))) (aoS 704 40 addI (thE (cE 0) (cE 0)) (o2 addI (o2 mulI (cE 4) (thE (cE 0) (gE 34))) (vE 2)) (thE (cE 0) (gE 36))) skS) (sq (asS 832 672 idI (thE (cE 0) (cE 0)) (o2 addI (o2 mulI (cE 4) (vE 1)) (vE 2)) (cE 0)) (sq (sq (stS 4 (o2 subI (clE m_M_reaches [(cE 0)]) (cE 1))) (whS (nB (zB 2 (vE 4))) (sq (stS 5 (o2 addI (o2 mulI (cE 4) (vE 4)) (vE 2))) (sq (stS 6 (ldE 128 592 (thE (cE 0) (cE 0)) (o2 addI (cE 10) (o2 mulI (cE 2) (vE 4))))) (sq (ifS (nB (cB 2 (vE 3) (ldE 128 592 (thE (cE 0) (cE 0)) (cE 5)))) (sq (stS 7 (dvE (ldE 768 40 (thE (cE 0) (cE 0)) (vE 5)) (cE 2))) (sq (aoS 768 40 subI (thE (cE 0) (cE 0)) (vE 5) (vE 7)) (aoS 704 40 addI (thE (cE 0) (cE 0)) (vE 5) (vE 7)))) skS) (sq (stS 7 (o1 l2iI (dlE (o2 mulI (o1 i2lI (ldE 704 40 (thE (cE 0) (cE 0)) (vE 5))) (o1 i2lI (kE (nB (cB 3 (vE 3) (vE 6))) (vE 3) (vE 6)))) (o1 i2lI (vE 6))))) (sq (aoS 704 40 subI (thE (cE 0) (cE 0)) (vE 5) (vE 7)) (ifS (nB (cB 1 (vE 4) (o2 subI (clE m_M_reaches [(cE 0)]) (cE 1)))) (aoS 832 672 addI (thE (cE 0) (cE 0)) (o2 addI (o2 mulI (cE 4) (vE 1)) (vE 2)) (vE 7)) (aoS 704 40 addI (thE (cE 0) (cE 0)) (o2 addI (vE 5) (cE 4)) (vE 7)))))))) (inS 4 (-1)) FU)) (sq (sq (stS 4 (cE 0)) (whS (nB (cB 3 (vE 4) (clE m_M_reaches [(cE 0)]))) (sq (stS 5 (o2 addI (o2 mulI (cE 4) (vE 4)) (vE 2))) (sq (stS 6 (o1 l2iI (dlE (o2 mulI (o1 i2lI (ldE 704 40 (thE (cE 0) (cE 0)) (vE 5))) (o1 i2lI (ldE 128 592 (thE (cE 0) (cE 0)) (o2 addI (o2 addI (cE 10) (o2 mulI (cE 2) (vE 4))) (cE 1))))) (cE 1000)))) (sq (aoS 704 40 subI (thE (cE 0) (cE 0)) (vE 5) (vE 6)) (sq (aoS 768 40 addI (thE (cE 0) (cE 0)) (vE 5) (vE 6)) (sq (asS 1024 6720 idI (thE (cE 0) (cE 0)) (o2 addI (o2 mulI (cE 40) (vE 1)) (vE 5)) (ldE 704 40 (thE (cE 0) (cE 0)) (vE 5))) (asS 1088 6720 idI (thE (cE 0) (cE 0)) (o2 addI (o2 mulI (cE 40) (vE 1)) (vE 5)) (ldE 768 40 (thE (cE 0) (cE 0)) (vE 5)))))))) (inS 4 1) FU)) rvS)))))
def m_M_hour : FM := mthF [0, 1, 2, 3] b_M_hour
/-- DyerBellsModel.goWeek (0 ) -/
def b_M_goWeek : SM := (sq (sq (stS 1 (cE 0)) (whS (nB (cB 3 (vE 1) (cE 40))) (sq (asS 704 40 idI (thE (cE 0) (cE 0)) (vE 1) (cE 0)) (asS 768 40 idI (thE (cE 0) (cE 0)) (vE 1) (cE 0))) (inS 1 1) FU)) (sq (sq (stS 1 (cE 0)) (whS (nB (cB 3 (vE 1) (cE 4))) (asS 896 4 idI (thE (cE 0) (cE 0)) (vE 1) (cE 0)) (inS 1 1) FU)) (sq (sq (stS 1 (cE 0)) (whS (nB (cB 3 (vE 1) (cE 168))) (sq (stS 2 (cE 0)) (whS (nB (cB 3 (vE 2) (clE m_M_colours [(cE 0)]))) (exS (clE m_M_hour [(cE 0), (vE 1), (vE 2), (ldE 960 7 (thE (cE 0) (cE 0)) (dvE (vE 1) (cE 24)))])) (inS 2 1) FU)) (inS 1 1) FU)) rvS)))
def m_M_goWeek : FM := mthF [0] b_M_goWeek
/-- DyerBellsModel.week (0 ) -/
def b_M_week : SM := (sq (exS (clE m_M_lay [(cE 0)])) (sq (exS (clE m_M_layWorks [(cE 0), (cE (-1))])) (sq (exS (clE m_M_layFlows [(cE 0)])) (sq (exS (clE m_M_goWeek [(cE 0)])) rvS))))
def m_M_week : FM := mthF [0] b_M_week
/-- DyerBellsModel.shadeAt (0 ) -/
def b_M_shadeAt : SM := (rtS (o1 l2iI (dlE (o2 mulI (cE 100) (o1 i2lI (ldE 1024 6720 (thE (cE 0) (cE 0)) (o2 addI (o2 addI (o2 mulI (cE 40) (vE 1)) (o2 mulI (cE 4) (vE 2))) (vE 3))))) (o1 i2lI (ldE 128 592 (thE (cE 0) (cE 0)) (o2 addI (cE 10) (o2 mulI (cE 2) (vE 2))))))))
def m_M_shadeAt : FM := mthF [0, 1, 2, 3] b_M_shadeAt
/-- DyerBellsModel.at (0 ) -/
def b_M_at : SM := (sq (pfS 0 (cE 0) (cE 0)) (sq (exS (clE m_M_lay [(cE 0)])) (sq (ifS (orB (orB (orB (zB 0 (clE m_M_isHour [(vE 1)])) (zB 0 (clE m_M_isReach [(cE 0), (vE 2)]))) (zB 0 (clE m_M_isColour [(cE 0), (vE 3)]))) (nB (zB 1 (clE m_M_isIn [(vE 4), (cE 0), (cE 2)])))) (rtS (cE (-1))) skS) (sq (exS (clE m_M_week [(cE 0)])) (sq (stS 5 (o2 addI (o2 addI (o2 mulI (cE 40) (vE 1)) (o2 mulI (cE 4) (vE 2))) (vE 3))) (rtS (kE (nB (zB 1 (vE 4))) (ldE 1024 6720 (thE (cE 0) (cE 0)) (vE 5)) (kE (nB (cB 1 (vE 4) (cE 1))) (ldE 1088 6720 (thE (cE 0) (cE 0)) (vE 5)) (clE m_M_shadeAt [(cE 0), (vE 1), (vE 2), (vE 3)])))))))))
def m_M_at : FM := mthF [0, 1, 2, 3, 4] b_M_at
/-- DyerBellsModel.passed (0 ) -/
def b_M_passed : SM := (sq (pfS 0 (cE 0) (cE 0)) (sq (exS (clE m_M_lay [(cE 0)])) (sq (ifS (orB (zB 0 (clE m_M_isHour [(vE 1)])) (nB (zB 1 (clE m_M_isColour [(cE 0), (vE 2)])))) (rtS (cE (-1))) skS) (sq (exS (clE m_M_week [(cE 0)])) (rtS (ldE 832 672 (thE (cE 0) (cE 0)) (o2 addI (o2 mulI (cE 4) (vE 1)) (vE 2))))))))
def m_M_passed : FM := mthF [0, 1, 2] b_M_passed
/-- DyerBellsModel.sum (0 ) -/
def b_M_sum : SM := (sq (pfS 0 (cE 0) (cE 0)) (sq (exS (clE m_M_lay [(cE 0)])) (sq (ifS (orB (zB 0 (clE m_M_isColour [(cE 0), (vE 1)])) (nB (zB 1 (clE m_M_isIn [(vE 2), (cE 0), (cE 3)])))) (rtS (cE (-1))) skS) (sq (exS (clE m_M_week [(cE 0)])) (sq (ifS (nB (zB 1 (vE 2))) (rtS (ldE 896 4 (thE (cE 0) (cE 0)) (vE 1))) skS) (sq (stS 3 (cE 0)) (sq (ifS (nB (cB 1 (vE 2) (cE 1))) (sq (stS 4 (cE 0)) (whS (nB (cB 3 (vE 4) (cE 168))) (stS 3 (o2 addI (vE 3) (ldE 832 672 (thE (cE 0) (cE 0)) (o2 addI (o2 mulI (cE 4) (vE 4)) (vE 1))))) (inS 4 1) FU)) skS) (sq (sq (stS 4 (cE 0)) (whS (andB (nB (cB 3 (vE 4) (clE m_M_reaches [(cE 0)]))) (nB (cB 5 (vE 2) (cE 1)))) (stS 3 (o2 addI (vE 3) (kE (nB (cB 1 (vE 2) (cE 2))) (ldE 704 40 (thE (cE 0) (cE 0)) (o2 addI (o2 mulI (cE 4) (vE 4)) (vE 1))) (ldE 768 40 (thE (cE 0) (cE 0)) (o2 addI (o2 mulI (cE 4) (vE 4)) (vE 1)))))) (inS 4 1) FU)) (rtS (vE 3))))))))))
def m_M_sum : FM := mthF [0, 1, 2] b_M_sum
/-- DyerBellsModel.fine (0 ) -/
def b_M_fine : SM := (sq (pfS 0 (cE 0) (cE 0)) (sq (exS (clE m_M_lay [(cE 0)])) (sq (ifS (orB (zB 0 (clE m_M_isHour [(vE 1)])) (nB (zB 1 (clE m_M_isReach [(cE 0), (vE 2)])))) (rtS (cE (-1))) skS) (sq (exS (clE m_M_week [(cE 0)])) (sq (stS 3 (cE 0)) (sq (sq (stS 4 (cE 0)) (whS (nB (cB 3 (vE 4) (clE m_M_colours [(cE 0)]))) (sq (stS 5 (clE m_M_shadeAt [(cE 0), (vE 1), (vE 2), (vE 4)])) (sq (stS 6 (cE 0)) (sq (stS 7 (cE 0)) (sq (sq (stS 8 (cE 0)) (whS (nB (cB 3 (vE 8) (ldE 128 592 (thE (cE 0) (cE 0)) (cE 4)))) (sq (stS 9 (o2 addI (cE 118) (o2 mulI (cE 3) (vE 8)))) (sq (ifS (orB (orB (cB 1 (ldE 128 592 (thE (cE 0) (cE 0)) (vE 9)) (vE 4)) (cB 4 (ldE 128 592 (thE (cE 0) (cE 0)) (o2 addI (vE 9) (cE 1))) (vE 5))) (nB (cB 4 (ldE 128 592 (thE (cE 0) (cE 0)) (o2 addI (vE 9) (cE 1))) (vE 6)))) ctS skS) (sq (stS 6 (ldE 128 592 (thE (cE 0) (cE 0)) (o2 addI (vE 9) (cE 1)))) (stS 7 (ldE 128 592 (thE (cE 0) (cE 0)) (o2 addI (vE 9) (cE 2))))))) (inS 8 1) FU)) (stS 3 (o2 addI (vE 3) (vE 7))))))) (inS 4 1) FU)) (rtS (vE 3))))))))
def m_M_fine : FM := mthF [0, 1, 2] b_M_fine
/-- DyerBellsModel.isHarmed (0 ) -/
def b_M_isHarmed : SM := (sq (stS 3 (o2 addI (cE 66) (o2 mulI (cE 7) (vE 1)))) (sq (ifS (orB (cB 2 (rmE (vE 2) (cE 24)) (ldE 128 592 (thE (cE 0) (cE 0)) (o2 addI (vE 3) (cE 1)))) (nB (cB 2 (rmE (vE 2) (cE 24)) (ldE 128 592 (thE (cE 0) (cE 0)) (o2 addI (vE 3) (cE 2)))))) (rtS (cE 0)) skS) (sq (sq (stS 4 (cE 0)) (whS (nB (cB 3 (vE 4) (clE m_M_colours [(cE 0)]))) (ifS (andB (nB (cB 0 (ldE 128 592 (thE (cE 0) (cE 0)) (o2 addI (o2 addI (vE 3) (cE 3)) (vE 4))) (cE (-1)))) (nB (cB 5 (clE m_M_shadeAt [(cE 0), (vE 2), (ldE 128 592 (thE (cE 0) (cE 0)) (vE 3)), (vE 4)]) (ldE 128 592 (thE (cE 0) (cE 0)) (o2 addI (o2 addI (vE 3) (cE 3)) (vE 4)))))) (rtS (cE 1)) skS) (inS 4 1) FU)) (rtS (cE 0)))))
def m_M_isHarmed : FM := mthZ [0, 1, 2] b_M_isHarmed
/-- DyerBellsModel.harmed (0 ) -/
def b_M_harmed : SM := (sq (pfS 0 (cE 0) (cE 0)) (sq (exS (clE m_M_lay [(cE 0)])) (sq (ifS (orB (zB 0 (clE m_M_isUser [(cE 0), (vE 1)])) (nB (cB 3 (vE 2) (cE (-1))))) (rtS (cE (-1))) skS) (sq (exS (clE m_M_week [(cE 0)])) (sq (stS 3 (cE 0)) (sq (sq (stS 4 (cE 0)) (whS (nB (cB 3 (vE 4) (cE 168))) (sq (ifS (nB (zB 1 (clE m_M_isHarmed [(cE 0), (vE 1), (vE 4)]))) ctS skS) (sq (ifS (nB (cB 1 (vE 3) (vE 2))) (rtS (vE 4)) skS) (inS 3 1))) (inS 4 1) FU)) (rtS (kE (nB (cB 1 (vE 2) (cE (-1)))) (vE 3) (cE (-1))))))))))
def m_M_harmed : FM := mthF [0, 1, 2] b_M_harmed
/-- DyerBellsModel.harmAtHand (0 ) -/
def b_M_harmAtHand : SM := (sq (stS 1 (cE 0)) (sq (sq (stS 2 (cE 0)) (whS (nB (cB 3 (vE 2) (clE m_M_users [(cE 0)]))) (sq (stS 3 (cE 0)) (whS (nB (cB 3 (vE 3) (cE 168))) (ifS (nB (zB 0 (clE m_M_isHarmed [(cE 0), (vE 2), (vE 3)]))) (inS 1 1) skS) (inS 3 1) FU)) (inS 2 1) FU)) (rtS (vE 1))))
def m_M_harmAtHand : FM := mthF [0] b_M_harmAtHand
/-- DyerBellsModel.harmNow (0 ) -/
def b_M_harmNow : SM := (sq (exS (clE m_M_week [(cE 0)])) (rtS (clE m_M_harmAtHand [(cE 0)])))
def m_M_harmNow : FM := mthF [0] b_M_harmNow
/-- DyerBellsModel.harm (0 ) -/
def b_M_harm : SM := (sq (pfS 0 (cE 0) (cE 0)) (rtS (clE m_M_harmNow [(cE 0)])))
def m_M_harm : FM := mthF [0] b_M_harm
/-- DyerBellsModel.blame (0 ) -/
def b_M_blame : SM := (sq (pfS 0 (cE 0) (cE 0)) (sq (exS (clE m_M_lay [(cE 0)])) (sq (ifS (orB (zB 0 (clE m_M_isGuild [(cE 0), (vE 1)])) (nB (zB 1 (clE m_M_isUser [(cE 0), (vE 2)])))) (rtS (cE (-1))) skS) (sq (exS (clE m_M_week [(cE 0)])) (sq (sq (stS 3 (cE 0)) (whS (nB (cB 3 (vE 3) (cE 168))) (asS 1152 168 nzI (thE (cE 0) (cE 0)) (vE 3) (clE m_M_isHarmed [(cE 0), (vE 2), (vE 3)])) (inS 3 1) FU)) (sq (exS (clE m_M_layWorks [(cE 0), (vE 1)])) (sq (exS (clE m_M_goWeek [(cE 0)])) (sq (stS 3 (cE 0)) (sq (sq (stS 4 (cE 0)) (whS (nB (cB 3 (vE 4) (cE 168))) (ifS (andB (nB (zB 0 (ldE 1152 168 (thE (cE 0) (cE 0)) (vE 4)))) (nB (zB 1 (clE m_M_isHarmed [(cE 0), (vE 2), (vE 4)])))) (inS 3 1) skS) (inS 4 1) FU)) (rtS (vE 3)))))))))))
def m_M_blame : FM := mthF [0, 1, 2] b_M_blame
/-- DyerBellsModel.duty (0 ) -/
def b_M_duty : SM := (sq (pfS 0 (cE 0) (cE 0)) (sq (exS (clE m_M_lay [(cE 0)])) (sq (ifS (nB (zB 1 (clE m_M_isGuild [(cE 0), (vE 1)]))) (rtS (cE (-1))) skS) (sq (exS (clE m_M_layWorks [(cE 0), (cE (-1))])) (sq (stS 2 (ldE 128 592 (thE (cE 0) (cE 0)) (o2 addI (o2 addI (cE 30) (o2 mulI (cE 6) (vE 1))) (cE 1)))) (sq (sq (stS 3 (cE 0)) (whS (nB (cB 3 (vE 3) (cE 168))) (ifS (nB (zB 0 (clE m_M_has [(ldE 640 168 (thE (cE 0) (cE 0)) (vE 3)), (vE 1)]))) (inS 2 (-1)) skS) (inS 3 1) FU)) (rtS (kE (nB (zB 5 (vE 2))) (vE 2) (cE 0)))))))))
def m_M_duty : FM := mthF [0, 1] b_M_duty
/-- DyerBellsModel.pulse (0 ) -/
def b_M_pulse : SM := (sq (pfS 0 (cE 0) (cE 0)) (sq (exS (clE m_M_lay [(cE 0)])) (sq (ifS (orB (orB (orB (zB 0 (clE m_M_isReach [(cE 0), (vE 1)])) (zB 0 (clE m_M_isColour [(cE 0), (vE 2)]))) (zB 0 (clE m_M_isIn [(vE 3), (cE 1), (cE 9999)]))) (nB (zB 1 (clE m_M_isIn [(vE 4), (cE 0), (cE 2)])))) (rtS (cE (-2))) skS) (sq (sq (stS 5 (cE 0)) (whS (nB (cB 3 (vE 5) (cE 168))) (asS 640 168 idI (thE (cE 0) (cE 0)) (vE 5) (cE 0)) (inS 5 1) FU)) (sq (exS (clE m_M_layFlows [(cE 0)])) (sq (pfS 34 (cE 0) (vE 1)) (sq (pfS 35 (cE 0) (vE 2)) (sq (pfS 36 (cE 0) (vE 3)) (sq (exS (clE m_M_goWeek [(cE 0)])) (sq (pfS 34 (cE 0) (cE (-1))) (sq (stS 5 (cE (-1))) (sq (stS 6 (cE (-1))) (sq (stS 7 (cE 0)) (sq (sq (stS 8 (cE 0)) (whS (nB (cB 3 (vE 8) (cE 168))) (sq (stS 9 (ldE 832 672 (thE (cE 0) (cE 0)) (o2 addI (o2 mulI (cE 4) (vE 8)) (vE 2)))) (sq (stS 7 (o2 addI (vE 7) (vE 9))) (sq (ifS (nB (zB 1 (vE 9))) ctS skS) (sq (ifS (nB (cB 1 (vE 5) (cE (-1)))) (stS 5 (vE 8)) skS) (ifS (orB (cB 0 (vE 6) (cE (-1))) (nB (cB 5 (vE 9) (ldE 832 672 (thE (cE 0) (cE 0)) (o2 addI (o2 mulI (cE 4) (vE 6)) (vE 2)))))) (stS 6 (vE 8)) skS))))) (inS 8 1) FU)) (rtS (kE (nB (zB 1 (vE 4))) (vE 5) (kE (nB (cB 1 (vE 4) (cE 1))) (vE 6) (vE 7))))))))))))))))))
def m_M_pulse : FM := mthF [0, 1, 2, 3, 4] b_M_pulse
def b_M_tryDays (F : FM) : SM := (sq (ifS (nB (cB 1 (vE 1) (thE (cE 0) (gE 42)))) (sq (stS 3 (clE m_M_harmNow [(cE 0)])) (sq (ifS (andB (nB (cB 0 (thE (cE 0) (gE 43)) (cE (-1)))) (nB (cB 2 (vE 3) (thE (cE 0) (gE 43))))) rvS skS) (sq (pfS 43 (cE 0) (vE 3)) (sq (sq (stS 4 (cE 0)) (whS (nB (cB 3 (vE 4) (vE 1))) (asS 1344 4 idI (thE (cE 0) (cE 0)) (vE 4) (ldE 1280 4 (thE (cE 0) (cE 0)) (vE 4))) (inS 4 1) FU)) rvS)))) skS) (sq (stS 3 (ldE 128 592 (thE (cE 0) (cE 0)) (o2 addI (o2 addI (cE 30) (o2 mulI (cE 6) (ldE 1216 4 (thE (cE 0) (cE 0)) (vE 1)))) (cE 1)))) (sq (sq (stS 4 (cE 0)) (whS (andB (nB (cB 3 (vE 4) (cE 7))) (nB (cB 4 (o2 addI (o2 addI (o2 mulI (cE 24) (vE 4)) (vE 2)) (vE 3)) (cE 168)))) (sq (asS 1280 4 idI (thE (cE 0) (cE 0)) (vE 1) (vE 4)) (sq (exS (clE m_M_addBell [(cE 0), (o2 addI (o2 mulI (cE 24) (vE 4)) (vE 2)), (ldE 1216 4 (thE (cE 0) (cE 0)) (vE 1)), (vE 3)])) (sq (exS (clE F [(cE 0), (o2 addI (vE 1) (cE 1)), (vE 2)])) (aoS 128 592 subI (thE (cE 0) (cE 0)) (cE 160) (cE 1))))) (inS 4 1) FU)) rvS)))
def g_M_tryDays : Nat → FM
  | 0 => (fun _ _ => none)
  | n + 1 => (mthF [0, 1, 2] (b_M_tryDays (g_M_tryDays n)))
/-- DyerBellsModel.days (0 ) -/
def b_M_days : SM := (sq (pfS 0 (cE 0) (cE 0)) (sq (exS (clE m_M_lay [(cE 0)])) (sq (stS 2 (clE m_M_take [(cE 0)])) (sq (ifS (orB (orB (zB 0 (clE m_M_isIn [(vE 2), (cE 1), (cE 4)])) (zB 0 (clE m_M_isIn [(vE 1), (cE 0), (cE 23)]))) (nB (cB 5 (o2 addI (clE m_M_bells [(cE 0)]) (vE 2)) (cE 40)))) (rtS (cE (-2))) skS) (sq (stS 3 (cE 0)) (sq (sq (stS 4 (cE 0)) (whS (nB (cB 3 (vE 4) (vE 2))) (sq (ifS (orB (cB 3 (ldE 64 940 (thE (cE 0) (cE 0)) (vE 4)) (clE m_M_guilds [(cE 0)])) (nB (zB 0 (clE m_M_has [(vE 3), (ldE 64 940 (thE (cE 0) (cE 0)) (vE 4))])))) (rtS (cE (-2))) skS) (sq (stS 3 (o2 iorI (vE 3) (o2 shlI (cE 1) (ldE 64 940 (thE (cE 0) (cE 0)) (vE 4))))) (asS 1216 4 idI (thE (cE 0) (cE 0)) (vE 4) (ldE 64 940 (thE (cE 0) (cE 0)) (vE 4))))) (inS 4 1) FU)) (sq (pfS 42 (cE 0) (vE 2)) (sq (pfS 43 (cE 0) (cE (-1))) (sq (exS (clE (g_M_tryDays 60) [(cE 0), (cE 0), (vE 1)])) (sq (ifS (nB (cB 1 (thE (cE 0) (gE 43)) (cE (-1)))) (rtS (cE (-1))) skS) (sq (pfS 44 (cE 0) (vE 2)) (sq (sq (stS 4 (cE 0)) (whS (nB (cB 3 (vE 4) (vE 2))) (asS 1408 4 idI (thE (cE 0) (cE 0)) (vE 4) (ldE 1344 4 (thE (cE 0) (cE 0)) (vE 4))) (inS 4 1) FU)) (rtS (thE (cE 0) (gE 43)))))))))))))))
def m_M_days : FM := mthF [0, 1] b_M_days
/-- DyerBellsModel.dayOf (0 ) -/
def b_M_dayOf : SM := (sq (pfS 0 (cE 0) (cE 0)) (rtS (kE (andB (nB (zB 2 (vE 1))) (nB (cB 3 (vE 1) (thE (cE 0) (gE 44))))) (ldE 1408 4 (thE (cE 0) (cE 0)) (vE 1)) (cE (-1)))))
def m_M_dayOf : FM := mthF [0, 1] b_M_dayOf
/-- DyerBellsModel.swap (0 ) -/
def b_M_swap : SM := (sq (stS 3 (ldE 128 592 (thE (cE 0) (cE 0)) (o2 addI (o2 addI (cE 161) (o2 mulI (cE 3) (vE 1))) (cE 1)))) (sq (asS 128 592 idI (thE (cE 0) (cE 0)) (o2 addI (o2 addI (cE 161) (o2 mulI (cE 3) (vE 1))) (cE 1)) (ldE 128 592 (thE (cE 0) (cE 0)) (o2 addI (o2 addI (cE 161) (o2 mulI (cE 3) (vE 2))) (cE 1)))) (sq (asS 128 592 idI (thE (cE 0) (cE 0)) (o2 addI (o2 addI (cE 161) (o2 mulI (cE 3) (vE 2))) (cE 1)) (vE 3)) rvS)))
def m_M_swap : FM := mthF [0, 1, 2] b_M_swap
/-- DyerBellsModel.exchangeOnce (0 ) -/
def b_M_exchangeOnce : SM := (sq (sq (stS 2 (cE 0)) (whS (nB (cB 3 (vE 2) (clE m_M_bells [(cE 0)]))) (sq (stS 3 (o2 addI (vE 2) (cE 1))) (whS (nB (cB 3 (vE 3) (clE m_M_bells [(cE 0)]))) (sq (ifS (nB (cB 1 (ldE 128 592 (thE (cE 0) (cE 0)) (o2 addI (o2 addI (cE 161) (o2 mulI (cE 3) (vE 2))) (cE 1))) (ldE 128 592 (thE (cE 0) (cE 0)) (o2 addI (o2 addI (cE 161) (o2 mulI (cE 3) (vE 3))) (cE 1))))) ctS skS) (sq (exS (clE m_M_swap [(cE 0), (vE 2), (vE 3)])) (sq (stS 4 (clE m_M_harmNow [(cE 0)])) (sq (ifS (nB (cB 3 (vE 4) (vE 1))) (rtS (vE 4)) skS) (exS (clE m_M_swap [(cE 0), (vE 2), (vE 3)])))))) (inS 3 1) FU)) (inS 2 1) FU)) (rtS (vE 1)))
def m_M_exchangeOnce : FM := mthF [0, 1] b_M_exchangeOnce
/-- DyerBellsModel.exchange (0 ) -/
def b_M_exchange : SM := (sq (pfS 0 (cE 0) (cE 0)) (sq (stS 1 (clE m_M_harmNow [(cE 0)])) (sq (pfS 45 (cE 0) (cE 0)) (sq (sq (stS 2 (cE 0)) (whS (nB (cB 3 (vE 2) (cE 50))) (sq (stS 3 (clE m_M_exchangeOnce [(cE 0), (vE 1)])) (sq (ifS (nB (cB 1 (vE 3) (vE 1))) (rtS (vE 1)) skS) (sq (stS 1 (vE 3)) (poS 45 addI (cE 0) (cE 1))))) (inS 2 1) FU)) (rtS (vE 1))))))
def m_M_exchange : FM := mthF [0] b_M_exchange
/-- DyerBellsModel.exchanges (0 ) -/
def b_M_exchanges : SM := (sq (pfS 0 (cE 0) (cE 0)) (rtS (thE (cE 0) (gE 45))))
def m_M_exchanges : FM := mthF [0] b_M_exchanges
/-- DyerBellsModel.late (0 ) -/
def b_M_late : SM := (sq (pfS 0 (cE 0) (cE 0)) (sq (exS (clE m_M_lay [(cE 0)])) (sq (ifS (orB (zB 2 (vE 1)) (nB (cB 2 (vE 1) (clE m_M_bells [(cE 0)])))) (rtS (cE (-1))) skS) (sq (stS 2 (clE m_M_harmNow [(cE 0)])) (sq (stS 3 (o2 addI (cE 161) (o2 mulI (cE 3) (vE 1)))) (sq (stS 4 (ldE 128 592 (thE (cE 0) (cE 0)) (vE 3))) (sq (stS 5 (cE 0)) (sq (whS (andB (nB (cB 3 (vE 5) (cE 24))) (nB (cB 4 (o2 addI (o2 addI (o2 addI (vE 4) (vE 5)) (cE 1)) (ldE 128 592 (thE (cE 0) (cE 0)) (o2 addI (vE 3) (cE 2)))) (cE 168)))) (sq (asS 128 592 idI (thE (cE 0) (cE 0)) (vE 3) (o2 addI (o2 addI (vE 4) (vE 5)) (cE 1))) (sq (ifS (nB (cB 5 (clE m_M_harmNow [(cE 0)]) (vE 2))) brS skS) (inS 5 1))) skS FU) (sq (asS 128 592 idI (thE (cE 0) (cE 0)) (vE 3) (vE 4)) (rtS (vE 5)))))))))))
def m_M_late : FM := mthF [0, 1] b_M_late
/-- DyerBellsModel.see (0 ) -/
def b_M_see : SM := (sq (pfS 0 (cE 0) (cE 0)) (sq (exS (clE m_M_lay [(cE 0)])) (sq (ifS (orB (orB (orB (zB 0 (clE m_M_isHour [(vE 1)])) (zB 0 (clE m_M_isColour [(cE 0), (vE 2)]))) (zB 2 (vE 3))) (nB (cB 1 (ldE 128 592 (thE (cE 0) (cE 0)) (cE 285)) (cE 20)))) (rtS (cE (-1))) skS) (sq (stS 4 (o2 addI (cE 286) (o2 mulI (cE 3) (ldE 128 592 (thE (cE 0) (cE 0)) (cE 285))))) (sq (asS 128 592 idI (thE (cE 0) (cE 0)) (vE 4) (vE 1)) (sq (asS 128 592 idI (thE (cE 0) (cE 0)) (o2 addI (vE 4) (cE 1)) (vE 2)) (sq (asS 128 592 idI (thE (cE 0) (cE 0)) (o2 addI (vE 4) (cE 2)) (vE 3)) (sq (aoS 128 592 addI (thE (cE 0) (cE 0)) (cE 285) (cE 1)) (rtS (o2 subI (ldE 128 592 (thE (cE 0) (cE 0)) (cE 285)) (cE 1)))))))))))
def m_M_see : FM := mthF [0, 1, 2, 3] b_M_see
/-- DyerBellsModel.isSeen (0 ) -/
def b_M_isSeen : SM := (sq (exS (clE m_M_goWeek [(cE 0)])) (sq (sq (stS 1 (cE 0)) (whS (nB (cB 3 (vE 1) (ldE 128 592 (thE (cE 0) (cE 0)) (cE 285)))) (ifS (nB (cB 0 (ldE 832 672 (thE (cE 0) (cE 0)) (o2 addI (o2 mulI (cE 4) (ldE 128 592 (thE (cE 0) (cE 0)) (o2 addI (cE 286) (o2 mulI (cE 3) (vE 1))))) (ldE 128 592 (thE (cE 0) (cE 0)) (o2 addI (o2 addI (cE 286) (o2 mulI (cE 3) (vE 1))) (cE 1))))) (ldE 128 592 (thE (cE 0) (cE 0)) (o2 addI (o2 addI (cE 286) (o2 mulI (cE 3) (vE 1))) (cE 2))))) (rtS (cE 0)) skS) (inS 1 1) FU)) (rtS (cE 1))))
def m_M_isSeen : FM := mthZ [0] b_M_isSeen
/-- DyerBellsModel.night (0 ) -/
def b_M_night : SM := (sq (pfS 0 (cE 0) (cE 0)) (sq (exS (clE m_M_lay [(cE 0)])) (sq (exS (clE m_M_layWorks [(cE 0), (cE (-1))])) (sq (exS (clE m_M_layFlows [(cE 0)])) (sq (sq (stS 1 (cE 0)) (whS (nB (cB 3 (vE 1) (cE 168))) (asS 1536 168 idI (thE (cE 0) (cE 0)) (vE 1) (ldE 640 168 (thE (cE 0) (cE 0)) (vE 1))) (inS 1 1) FU)) (sq (stS 1 (cE 0)) (sq (sq (stS 2 (cE 0)) (whS (nB (cB 3 (vE 2) (cE 3))) (asS 1472 3 idI (thE (cE 0) (cE 0)) (vE 2) (cE (-1))) (inS 2 1) FU)) (sq (sq (stS 2 (cE 0)) (whS (nB (cB 3 (vE 2) (clE m_M_guilds [(cE 0)]))) (sq (stS 3 (cE 0)) (whS (nB (cB 3 (vE 3) (cE 168))) (sq (sq (stS 4 (cE 1)) (whS (andB (nB (cB 4 (vE 4) (cE 6))) (nB (cB 4 (o2 addI (vE 3) (vE 4)) (cE 168)))) (sq (aoS 640 168 iorI (thE (cE 0) (cE 0)) (o2 subI (o2 addI (vE 3) (vE 4)) (cE 1)) (o2 shlI (cE 1) (vE 2))) (sq (ifS (nB (zB 1 (clE m_M_isSeen [(cE 0)]))) ctS skS) (sq (inS 1 1) (sq (asS 1472 3 idI (thE (cE 0) (cE 0)) (cE 0) (vE 2)) (sq (asS 1472 3 idI (thE (cE 0) (cE 0)) (cE 1) (vE 3)) (asS 1472 3 idI (thE (cE 0) (cE 0)) (cE 2) (vE 4))))))) (inS 4 1) FU)) (sq (stS 4 (cE 0)) (whS (nB (cB 3 (vE 4) (cE 168))) (asS 640 168 idI (thE (cE 0) (cE 0)) (vE 4) (ldE 1536 168 (thE (cE 0) (cE 0)) (vE 4))) (inS 4 1) FU))) (inS 3 1) FU)) (inS 2 1) FU)) (sq (sq (stS 2 (cE 0)) (whS (andB (nB (cB 3 (vE 2) (cE 3))) (nB (cB 0 (vE 1) (cE 1)))) (asS 1472 3 idI (thE (cE 0) (cE 0)) (vE 2) (cE (-1))) (inS 2 1) FU)) (rtS (vE 1)))))))))))
def m_M_night : FM := mthF [0] b_M_night
/-- DyerBellsModel.led (0 ) -/
def b_M_led : SM := (sq (pfS 0 (cE 0) (cE 0)) (rtS (kE (nB (zB 0 (clE m_M_isIn [(vE 1), (cE 0), (cE 2)]))) (ldE 1472 3 (thE (cE 0) (cE 0)) (vE 1)) (cE (-1)))))
def m_M_led : FM := mthF [0, 1] b_M_led
/-- DyerBellsModel.dam (0 ) -/
def b_M_dam : SM := (sq (pfS 0 (cE 0) (cE 0)) (sq (exS (clE m_M_lay [(cE 0)])) (sq (ifS (orB (zB 0 (clE m_M_isReach [(cE 0), (vE 1)])) (nB (zB 1 (clE m_M_isIn [(vE 2), (cE 1), (cE 9999)])))) (rtS (cE (-1))) skS) (sq (stS 3 (ldE 128 592 (thE (cE 0) (cE 0)) (o2 addI (cE 10) (o2 mulI (cE 2) (vE 1))))) (sq (asS 128 592 idI (thE (cE 0) (cE 0)) (o2 addI (cE 10) (o2 mulI (cE 2) (vE 1))) (vE 2)) (sq (stS 4 (clE m_M_harmNow [(cE 0)])) (sq (asS 128 592 idI (thE (cE 0) (cE 0)) (o2 addI (cE 10) (o2 mulI (cE 2) (vE 1))) (vE 3)) (rtS (vE 4)))))))))
def m_M_dam : FM := mthF [0, 1, 2] b_M_dam
/-- DyerBellsModel.draw (0 ) -/
def b_M_draw : SM := (sq (pfS 48 (cE 0) (o2 addI (o2 mulI (thE (cE 0) (gE 48)) (cE 1103515245)) (cE 12345))) (rtS (rmE (o2 usrI (thE (cE 0) (gE 48)) (cE 8)) (vE 1))))
def m_M_draw : FM := mthF [0, 1] b_M_draw
/-- DyerBellsModel.rain (0 ) -/
def b_M_rain : SM := (sq (pfS 0 (cE 0) (cE 0)) (sq (exS (clE m_M_lay [(cE 0)])) (sq (ifS (nB (zB 1 (clE m_M_isIn [(vE 1), (cE 1), (cE 20)]))) (rtS (cE (-1))) skS) (sq (pfS 48 (cE 0) (vE 2)) (sq (exS (clE m_M_layWorks [(cE 0), (cE (-1))])) (sq (stS 3 (cE 0)) (sq (sq (stS 4 (cE 0)) (whS (nB (cB 3 (vE 4) (vE 1))) (sq (sq (stS 5 (cE 0)) (whS (nB (cB 3 (vE 5) (cE 7))) (sq (stS 6 (ldE 128 592 (thE (cE 0) (cE 0)) (o2 addI (cE 110) (vE 5)))) (sq (stS 7 (clE m_M_draw [(cE 0), (cE 5)])) (asS 960 7 idI (thE (cE 0) (cE 0)) (vE 5) (kE (nB (zB 1 (vE 7))) (dvE (vE 6) (cE 2)) (kE (nB (cB 3 (vE 7) (cE 4))) (vE 6) (kE (nB (cB 5 (vE 6) (cE 3333))) (cE 9999) (o2 mulI (cE 3) (vE 6)))))))) (inS 5 1) FU)) (sq (exS (clE m_M_goWeek [(cE 0)])) (ifS (nB (zB 5 (clE m_M_harmAtHand [(cE 0)]))) (inS 3 1) skS))) (inS 4 1) FU)) (rtS (vE 3)))))))))
def m_M_rain : FM := mthF [0, 1, 2] b_M_rain
/-- DyerBellsModel.lays (0 ) -/
def b_M_lays : SM := (sq (stS 5 (o2 mulI (cE 4) (thE (cE 0) (gE 50)))) (sq (asS 1600 240 idI (thE (cE 0) (cE 0)) (vE 5) (vE 1)) (sq (asS 1600 240 idI (thE (cE 0) (cE 0)) (o2 addI (vE 5) (cE 1)) (vE 2)) (sq (asS 1600 240 idI (thE (cE 0) (cE 0)) (o2 addI (vE 5) (cE 2)) (vE 3)) (sq (asS 1600 240 idI (thE (cE 0) (cE 0)) (o2 addI (vE 5) (cE 3)) (vE 4)) (sq (poS 50 addI (cE 0) (cE 1)) (rtS (o2 subI (thE (cE 0) (gE 50)) (cE 1)))))))))
def m_M_lays : FM := mthF [0, 1, 2, 3, 4] b_M_lays
/-- DyerBellsModel.readNamed (0 ) -/
def b_M_readNamed : SM := (sq (ifS (nB (zB 1 (clE m_M_isName [(cE 0)]))) (rtS (clE m_M_bad [(cE 0), (cE 1)])) skS) (sq (stS 3 (clE m_M_findIn_2 [(cE 0), (thE (cE 0) (cE 0)), (vE 1), (vE 2)])) (sq (ifS (nB (cB 1 (vE 3) (cE (-1)))) (rtS (clE m_M_bad [(cE 0), (cE 3)])) skS) (sq (pfS 13 (cE 0) (vE 3)) (sq (exS (clE m_M_go [(cE 0)])) (rtS (cE 1)))))))
def m_M_readNamed : FM := mthZ [0, 1, 2] b_M_readNamed
/-- DyerBellsModel.readOf (0 ) -/
def b_M_readOf : SM := (sq (ifS (nB (tkB (nB (cB 1 (vE 1) (cE 11))) (nB (zB 0 (clE m_M_readNamed [(cE 0), (cE 14), (clE m_M_guilds [(cE 0)])]))) (zB 1 (clE m_M_readNamed [(cE 0), (cE 20), (clE m_M_users [(cE 0)])])))) (rtS (cE 0)) skS) (sq (pfS 53 (cE 0) (clE m_M_lays [(cE 0), (kE (nB (cB 1 (vE 1) (cE 11))) (cE 4) (cE 5)), (thE (cE 0) (gE 13)), (cE 0), (cE 0)])) (rtS (cE 1))))
def m_M_readOf : FM := mthZ [0, 1] b_M_readOf
/-- DyerBellsModel.readCompare (0 ) -/
def b_M_readCompare : SM := (sq (stS 2 (cE 0)) (sq (ifS (nB (cB 1 (vE 1) (cE 13))) (sq (ifS (nB (zB 1 (clE m_M_readNamed [(cE 0), (cE 10), (clE m_M_colours [(cE 0)])]))) (rtS (cE 0)) skS) (sq (stS 2 (thE (cE 0) (gE 13))) (sq (ifS (nB (zB 1 (clE m_M_readNamed [(cE 0), (cE 0), (clE m_M_reaches [(cE 0)])]))) (rtS (cE 0)) skS) (stS 2 (o2 addI (vE 2) (o2 mulI (cE 4) (thE (cE 0) (gE 13)))))))) skS) (sq (ifS (andB (andB (nB (zB 1 (clE m_M_isSign [(cE 0), (cE 60)]))) (nB (zB 1 (clE m_M_isSign [(cE 0), (cE 61)])))) (nB (zB 1 (clE m_M_isSign [(cE 0), (cE 62)])))) (rtS (clE m_M_bad [(cE 0), (cE 1)])) skS) (sq (stS 3 (thE (cE 0) (gE 9))) (sq (exS (clE m_M_go [(cE 0)])) (sq (ifS (nB (zB 1 (clE m_M_readNumber [(cE 0), (cE 0), (cE 9999)]))) (rtS (cE 0)) skS) (sq (pfS 53 (cE 0) (clE m_M_lays [(cE 0), (kE (nB (cB 1 (vE 1) (cE 13))) (cE 6) (o2 addI (cE 50) (vE 1))), (vE 2), (thE (cE 0) (gE 13)), (vE 3)])) (rtS (cE 1)))))))))
def m_M_readCompare : FM := mthZ [0, 1] b_M_readCompare
def b_M_readOr (F : FM × FM × FM × FM × FM) : SM := (sq (ifS (nB (zB 1 (clE F.2.1 [(cE 0)]))) (rtS (cE 0)) skS) (sq (stS 1 (thE (cE 0) (gE 53))) (sq (whS (nB (zB 0 (clE m_M_isWord [(cE 0), (cE 8)]))) (sq (exS (clE m_M_go [(cE 0)])) (sq (ifS (nB (zB 1 (clE F.2.1 [(cE 0)]))) (rtS (cE 0)) skS) (stS 1 (clE m_M_lays [(cE 0), (cE 3), (vE 1), (thE (cE 0) (gE 53)), (cE 0)])))) skS FU) (sq (pfS 53 (cE 0) (vE 1)) (rtS (cE 1))))))
def b_M_readAnd (F : FM × FM × FM × FM × FM) : SM := (sq (ifS (nB (zB 1 (clE F.2.2.1 [(cE 0)]))) (rtS (cE 0)) skS) (sq (stS 1 (thE (cE 0) (gE 53))) (sq (whS (nB (zB 0 (clE m_M_isWord [(cE 0), (cE 9)]))) (sq (exS (clE m_M_go [(cE 0)])) (sq (ifS (nB (zB 1 (clE F.2.2.1 [(cE 0)]))) (rtS (cE 0)) skS) (stS 1 (clE m_M_lays [(cE 0), (cE 2), (vE 1), (thE (cE 0) (gE 53)), (cE 0)])))) skS FU) (sq (pfS 53 (cE 0) (vE 1)) (rtS (cE 1))))))
def b_M_readOne (F : FM × FM × FM × FM × FM) : SM := (sq (stS 1 (clE m_M_isSign [(cE 0), (cE 40)])) (sq (stS 2 (cE 10)) (sq (whS (andB (nB (cB 4 (vE 2) (cE 16))) (nB (zB 1 (clE m_M_isWord [(cE 0), (vE 2)])))) (inS 2 1) skS FU) (sq (ifS (andB (nB (zB 1 (vE 1))) (nB (cB 5 (vE 2) (cE 16)))) (rtS (clE m_M_bad [(cE 0), (cE 1)])) skS) (sq (ifS (orB (cB 0 (thE (cE 0) (gE 51)) (cE 20)) (nB (cB 1 (thE (cE 0) (gE 52)) (cE 8)))) (rtS (clE m_M_bad [(cE 0), (cE 4)])) skS) (sq (poS 51 addI (cE 0) (cE 1)) (sq (poS 52 addI (cE 0) (cE 1)) (sq (exS (clE m_M_go [(cE 0)])) (sq (stS 3 (cE 1)) (sq (ifS (nB (zB 0 (vE 1))) (stS 3 (clE F.2.2.2.2 [(cE 0)])) (ifS (nB (cB 1 (vE 2) (cE 10))) (stS 3 (clE F.2.2.2.1 [(cE 0)])) (ifS (nB (cB 3 (vE 2) (cE 13))) (stS 3 (clE m_M_readOf [(cE 0), (vE 2)])) (stS 3 (clE m_M_readCompare [(cE 0), (vE 2)]))))) (sq (poS 52 subI (cE 0) (cE 1)) (rtS (vE 3)))))))))))))
def b_M_readNot (F : FM × FM × FM × FM × FM) : SM := (sq (ifS (nB (zB 1 (clE F.2.2.1 [(cE 0)]))) (rtS (cE 0)) skS) (sq (pfS 53 (cE 0) (clE m_M_lays [(cE 0), (cE 1), (thE (cE 0) (gE 53)), (cE 0), (cE 0)])) (rtS (cE 1))))
def b_M_readBracket (F : FM × FM × FM × FM × FM) : SM := (sq (ifS (nB (zB 1 (clE F.1 [(cE 0)]))) (rtS (cE 0)) skS) (sq (ifS (nB (zB 1 (clE m_M_isSign [(cE 0), (cE 41)]))) (rtS (clE m_M_bad [(cE 0), (cE 1)])) skS) (sq (exS (clE m_M_go [(cE 0)])) (rtS (cE 1)))))
def g_M_readOr : Nat → FM × FM × FM × FM × FM
  | 0 => (fun _ _ => none, fun _ _ => none, fun _ _ => none, fun _ _ => none, fun _ _ => none)
  | n + 1 => (mthZ [0] (b_M_readOr (g_M_readOr n)), mthZ [0] (b_M_readAnd (g_M_readOr n)), mthZ [0] (b_M_readOne (g_M_readOr n)), mthZ [0] (b_M_readNot (g_M_readOr n)), mthZ [0] (b_M_readBracket (g_M_readOr n)))
/-- DyerBellsModel.sentence (0 ) -/
def b_M_sentence : SM := (sq (exS (clE m_M_begin [(cE 0), (cE 200)])) (sq (pfS 50 (cE 0) (cE 0)) (sq (pfS 51 (cE 0) (cE 0)) (sq (pfS 52 (cE 0) (cE 0)) (sq (ifS (nB (zB 1 (clE (g_M_readOr 60).1 [(cE 0)]))) (rtS (o2 subI (cE (-1)) (thE (cE 0) (gE 11)))) skS) (sq (ifS (nB (zB 0 (thE (cE 0) (gE 7)))) (sq (exS (clE m_M_bad [(cE 0), (cE 1)])) (rtS (o2 subI (cE (-1)) (thE (cE 0) (gE 11))))) skS) (sq (asS 128 592 idI (thE (cE 0) (cE 0)) (cE 350) (cE 1)) (sq (asS 128 592 idI (thE (cE 0) (cE 0)) (cE 351) (thE (cE 0) (gE 53))) (sq (sq (stS 1 (cE 0)) (whS (nB (cB 3 (vE 1) (cE 240))) (asS 128 592 idI (thE (cE 0) (cE 0)) (o2 addI (cE 352) (vE 1)) (ldE 1600 240 (thE (cE 0) (cE 0)) (vE 1))) (inS 1 1) FU)) (rtS (thE (cE 0) (gE 51))))))))))))
def m_M_sentence : FM := mthF [0] b_M_sentence
/-- DyerBellsModel.valueOf (0 ) -/
def b_M_valueOf : SM := (sq (ifS (nB (cB 1 (vE 1) (cE 6))) (rtS (clE m_M_shadeAt [(cE 0), (vE 3), (dvE (vE 2) (cE 4)), (rmE (vE 2) (cE 4))])) skS) (sq (ifS (nB (cB 1 (vE 1) (cE 64))) (rtS (vE 3)) skS) (sq (ifS (nB (cB 1 (vE 1) (cE 65))) (rtS (dvE (vE 3) (cE 24))) skS) (sq (stS 4 (cE 0)) (sq (sq (stS 5 (cE 0)) (whS (nB (cB 3 (vE 5) (clE m_M_colours [(cE 0)]))) (stS 4 (o2 addI (vE 4) (ldE 832 672 (thE (cE 0) (cE 0)) (o2 addI (o2 mulI (cE 4) (vE 3)) (vE 5))))) (inS 5 1) FU)) (rtS (vE 4)))))))
def m_M_valueOf : FM := mthF [0, 1, 2, 3] b_M_valueOf
def b_M_isSo (F : FM) : SM := (sq (stS 3 (o2 addI (cE 352) (o2 mulI (cE 4) (vE 1)))) (sq (stS 4 (ldE 128 592 (thE (cE 0) (cE 0)) (o2 addI (vE 3) (cE 1)))) (sq (stS 5 (ldE 128 592 (thE (cE 0) (cE 0)) (o2 addI (vE 3) (cE 2)))) (tsS (ldE 128 592 (thE (cE 0) (cE 0)) (vE 3)) 1 [(rtS (kE (nB (zB 1 (clE F [(cE 0), (vE 4), (vE 2)]))) (cE 1) (cE 0))), (rtS (kE (andB (nB (zB 0 (clE F [(cE 0), (vE 4), (vE 2)]))) (nB (zB 0 (clE F [(cE 0), (vE 5), (vE 2)])))) (cE 1) (cE 0))), (rtS (kE (orB (zB 1 (clE F [(cE 0), (vE 4), (vE 2)])) (nB (zB 0 (clE F [(cE 0), (vE 5), (vE 2)])))) (cE 1) (cE 0))), (rtS (clE m_M_has [(ldE 640 168 (thE (cE 0) (cE 0)) (vE 2)), (vE 4)])), (rtS (clE m_M_isHarmed [(cE 0), (vE 4), (vE 2)]))] (sq (stS 6 (clE m_M_valueOf [(cE 0), (ldE 128 592 (thE (cE 0) (cE 0)) (vE 3)), (vE 4), (vE 2)])) (rtS (kE (nB (cB 1 (ldE 128 592 (thE (cE 0) (cE 0)) (o2 addI (vE 3) (cE 3))) (cE 60))) (kE (nB (cB 3 (vE 6) (vE 5))) (cE 1) (cE 0)) (kE (nB (cB 1 (ldE 128 592 (thE (cE 0) (cE 0)) (o2 addI (vE 3) (cE 3))) (cE 61))) (kE (nB (cB 1 (vE 6) (vE 5))) (cE 1) (cE 0)) (kE (nB (cB 5 (vE 6) (vE 5))) (cE 1) (cE 0))))))))))
def g_M_isSo : Nat → FM
  | 0 => (fun _ _ => none)
  | n + 1 => (mthZ [0, 1, 2] (b_M_isSo (g_M_isSo n)))
/-- DyerBellsModel.said (0 ) -/
def b_M_said : SM := (sq (pfS 0 (cE 0) (cE 0)) (sq (exS (clE m_M_lay [(cE 0)])) (sq (ifS (orB (zB 0 (ldE 128 592 (thE (cE 0) (cE 0)) (cE 350))) (nB (cB 3 (vE 1) (cE (-1))))) (rtS (cE (-1))) skS) (sq (exS (clE m_M_week [(cE 0)])) (sq (stS 2 (cE 0)) (sq (sq (stS 3 (cE 0)) (whS (nB (cB 3 (vE 3) (cE 168))) (sq (ifS (nB (zB 1 (clE (g_M_isSo 60) [(cE 0), (ldE 128 592 (thE (cE 0) (cE 0)) (cE 351)), (vE 3)]))) ctS skS) (sq (ifS (nB (cB 1 (vE 2) (vE 1))) (rtS (vE 3)) skS) (inS 2 1))) (inS 3 1) FU)) (rtS (kE (nB (cB 1 (vE 1) (cE (-1)))) (vE 2) (cE (-1))))))))))
def m_M_said : FM := mthF [0, 1] b_M_said
/-- DyerBellsModel.image (0 ) -/
def b_M_image : SM := (sq (pfS 0 (cE 0) (cE 0)) (sq (exS (clE m_M_lay [(cE 0)])) (sq (ifS (nB (zB 1 (clE m_M_isIn [(vE 1), (cE 0), (cE 1)]))) (rtS (cE 0)) skS) (sq (sq (stS 2 (cE 0)) (whS (nB (cB 3 (vE 2) (cE 592))) (asS 256 1184 idI (thE (cE 0) (cE 0)) (o2 addI (o2 mulI (cE 592) (vE 1)) (vE 2)) (ldE 128 592 (thE (cE 0) (cE 0)) (vE 2))) (inS 2 1) FU)) (sq (sq (stS 2 (cE 0)) (whS (nB (cB 3 (vE 2) (cE 26))) (asS 512 52 idI (thE (cE 0) (cE 0)) (o2 addI (o2 mulI (cE 26) (vE 1)) (vE 2)) (ldE 384 26 (thE (cE 0) (cE 0)) (vE 2))) (inS 2 1) FU)) (sq (asS 576 2 nzI (thE (cE 0) (cE 0)) (vE 1) (cE 1)) (rtS (cE 1))))))))
def m_M_image : FM := mthZ [0, 1] b_M_image
/-- DyerBellsModel.restore (0 ) -/
def b_M_restore : SM := (sq (pfS 0 (cE 0) (cE 0)) (sq (exS (clE m_M_lay [(cE 0)])) (sq (ifS (orB (zB 0 (clE m_M_isIn [(vE 1), (cE 0), (cE 1)])) (nB (zB 1 (ldE 576 2 (thE (cE 0) (cE 0)) (vE 1))))) (rtS (cE 0)) skS) (sq (sq (stS 2 (cE 0)) (whS (nB (cB 3 (vE 2) (cE 592))) (asS 128 592 idI (thE (cE 0) (cE 0)) (vE 2) (ldE 256 1184 (thE (cE 0) (cE 0)) (o2 addI (o2 mulI (cE 592) (vE 1)) (vE 2)))) (inS 2 1) FU)) (sq (sq (stS 2 (cE 0)) (whS (nB (cB 3 (vE 2) (cE 26))) (asS 384 26 idI (thE (cE 0) (cE 0)) (vE 2) (ldE 512 52 (thE (cE 0) (cE 0)) (o2 addI (o2 mulI (cE 26) (vE 1)) (vE 2)))) (inS 2 1) FU)) (rtS (cE 1)))))))
def m_M_restore : FM := mthZ [0, 1] b_M_restore
/-- DyerBellsModel.count (0 ) -/
def b_M_count : SM := (sq (pfS 0 (cE 0) (cE 0)) (sq (exS (clE m_M_lay [(cE 0)])) (tsS (vE 1) 0 [(rtS (clE m_M_reaches [(cE 0)])), (rtS (clE m_M_colours [(cE 0)])), (rtS (clE m_M_guilds [(cE 0)])), (rtS (clE m_M_users [(cE 0)])), (rtS (ldE 128 592 (thE (cE 0) (cE 0)) (cE 4))), (rtS (clE m_M_bells [(cE 0)])), (rtS (ldE 128 592 (thE (cE 0) (cE 0)) (cE 285))), (rtS (thE (cE 0) (gE 2)))] (rtS (cE (-1))))))
def m_M_count : FM := mthF [0, 1] b_M_count
