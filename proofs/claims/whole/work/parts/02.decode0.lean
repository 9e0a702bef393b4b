theorem dX0_init_0 : decode cX0_init 0 = .ok (.aload_n 0, 1) := by decide +kernel
theorem dX0_init_1 : decode cX0_init 1 = .ok (.invokespecial 3, 3) := by decide +kernel
theorem dX0_init_4 : decode cX0_init 4 = .ok (.aload_n 0, 1) := by decide +kernel
theorem dX0_init_5 : decode cX0_init 5 = .ok (.bipush 48, 2) := by decide +kernel
theorem dX0_init_7 : decode cX0_init 7 = .ok (.newarray .int, 2) := by decide +kernel
theorem dX0_init_9 : decode cX0_init 9 = .ok (.putfield 9, 3) := by decide +kernel
theorem dX0_init_12 : decode cX0_init 12 = .ok (.aload_n 0, 1) := by decide +kernel
theorem dX0_init_13 : decode cX0_init 13 = .ok (.iconst 4, 1) := by decide +kernel
theorem dX0_init_14 : decode cX0_init 14 = .ok (.newarray .int, 2) := by decide +kernel
theorem dX0_init_16 : decode cX0_init 16 = .ok (.putfield 15, 3) := by decide +kernel
theorem dX0_init_19 : decode cX0_init 19 = .ok (.aload_n 0, 1) := by decide +kernel
theorem dX0_init_20 : decode cX0_init 20 = .ok (.iconst 0, 1) := by decide +kernel
theorem dX0_init_21 : decode cX0_init 21 = .ok (.putfield 18, 3) := by decide +kernel
theorem dX0_init_24 : decode cX0_init 24 = .ok (.aload_n 0, 1) := by decide +kernel
theorem dX0_init_25 : decode cX0_init 25 = .ok (.bipush (-6), 2) := by decide +kernel
theorem dX0_init_27 : decode cX0_init 27 = .ok (.putfield 22, 3) := by decide +kernel
theorem dX0_init_30 : decode cX0_init 30 = .ok (.aload_n 0, 1) := by decide +kernel
theorem dX0_init_31 : decode cX0_init 31 = .ok (.getfield 9, 3) := by decide +kernel
theorem dX0_init_34 : decode cX0_init 34 = .ok (.bipush (-6), 2) := by decide +kernel
theorem dX0_init_36 : decode cX0_init 36 = .ok (.invokestatic 25, 3) := by decide +kernel
theorem dX0_init_39 : decode cX0_init 39 = .ok (.return_, 1) := by decide +kernel
theorem dX0_copyFrom_0 : decode cX0_copyFrom 0 = .ok (.aload_n 1, 1) := by decide +kernel
theorem dX0_copyFrom_1 : decode cX0_copyFrom 1 = .ok (.getfield 9, 3) := by decide +kernel
theorem dX0_copyFrom_4 : decode cX0_copyFrom 4 = .ok (.iconst 0, 1) := by decide +kernel
theorem dX0_copyFrom_5 : decode cX0_copyFrom 5 = .ok (.aload_n 0, 1) := by decide +kernel
theorem dX0_copyFrom_6 : decode cX0_copyFrom 6 = .ok (.getfield 9, 3) := by decide +kernel
theorem dX0_copyFrom_9 : decode cX0_copyFrom 9 = .ok (.iconst 0, 1) := by decide +kernel
theorem dX0_copyFrom_10 : decode cX0_copyFrom 10 = .ok (.bipush 48, 2) := by decide +kernel
theorem dX0_copyFrom_12 : decode cX0_copyFrom 12 = .ok (.invokestatic 31, 3) := by decide +kernel
theorem dX0_copyFrom_15 : decode cX0_copyFrom 15 = .ok (.aload_n 1, 1) := by decide +kernel
theorem dX0_copyFrom_16 : decode cX0_copyFrom 16 = .ok (.getfield 15, 3) := by decide +kernel
theorem dX0_copyFrom_19 : decode cX0_copyFrom 19 = .ok (.iconst 0, 1) := by decide +kernel
theorem dX0_copyFrom_20 : decode cX0_copyFrom 20 = .ok (.aload_n 0, 1) := by decide +kernel
theorem dX0_copyFrom_21 : decode cX0_copyFrom 21 = .ok (.getfield 15, 3) := by decide +kernel
theorem dX0_copyFrom_24 : decode cX0_copyFrom 24 = .ok (.iconst 0, 1) := by decide +kernel
theorem dX0_copyFrom_25 : decode cX0_copyFrom 25 = .ok (.iconst 4, 1) := by decide +kernel
theorem dX0_copyFrom_26 : decode cX0_copyFrom 26 = .ok (.invokestatic 31, 3) := by decide +kernel
theorem dX0_copyFrom_29 : decode cX0_copyFrom 29 = .ok (.aload_n 0, 1) := by decide +kernel
theorem dX0_copyFrom_30 : decode cX0_copyFrom 30 = .ok (.aload_n 1, 1) := by decide +kernel
theorem dX0_copyFrom_31 : decode cX0_copyFrom 31 = .ok (.getfield 18, 3) := by decide +kernel
theorem dX0_copyFrom_34 : decode cX0_copyFrom 34 = .ok (.putfield 18, 3) := by decide +kernel
theorem dX0_copyFrom_37 : decode cX0_copyFrom 37 = .ok (.aload_n 0, 1) := by decide +kernel
theorem dX0_copyFrom_38 : decode cX0_copyFrom 38 = .ok (.aload_n 1, 1) := by decide +kernel
theorem dX0_copyFrom_39 : decode cX0_copyFrom 39 = .ok (.getfield 22, 3) := by decide +kernel
theorem dX0_copyFrom_42 : decode cX0_copyFrom 42 = .ok (.putfield 22, 3) := by decide +kernel
theorem dX0_copyFrom_45 : decode cX0_copyFrom 45 = .ok (.return_, 1) := by decide +kernel
theorem dX0_empty_0 : decode cX0_empty 0 = .ok (.aload_n 0, 1) := by decide +kernel
theorem dX0_empty_1 : decode cX0_empty 1 = .ok (.getfield 9, 3) := by decide +kernel
theorem dX0_empty_4 : decode cX0_empty 4 = .ok (.bipush (-6), 2) := by decide +kernel
theorem dX0_empty_6 : decode cX0_empty 6 = .ok (.invokestatic 25, 3) := by decide +kernel
theorem dX0_empty_9 : decode cX0_empty 9 = .ok (.aload_n 0, 1) := by decide +kernel
theorem dX0_empty_10 : decode cX0_empty 10 = .ok (.getfield 15, 3) := by decide +kernel
theorem dX0_empty_13 : decode cX0_empty 13 = .ok (.iconst 0, 1) := by decide +kernel
theorem dX0_empty_14 : decode cX0_empty 14 = .ok (.invokestatic 25, 3) := by decide +kernel
theorem dX0_empty_17 : decode cX0_empty 17 = .ok (.aload_n 0, 1) := by decide +kernel
theorem dX0_empty_18 : decode cX0_empty 18 = .ok (.iconst 0, 1) := by decide +kernel
theorem dX0_empty_19 : decode cX0_empty 19 = .ok (.putfield 18, 3) := by decide +kernel
theorem dX0_empty_22 : decode cX0_empty 22 = .ok (.aload_n 0, 1) := by decide +kernel
theorem dX0_empty_23 : decode cX0_empty 23 = .ok (.bipush (-6), 2) := by decide +kernel
theorem dX0_empty_25 : decode cX0_empty 25 = .ok (.putfield 22, 3) := by decide +kernel
theorem dX0_empty_28 : decode cX0_empty 28 = .ok (.return_, 1) := by decide +kernel
theorem dX0_fillRow_0 : decode cX0_fillRow 0 = .ok (.iconst 0, 1) := by decide +kernel
theorem dX0_fillRow_1 : decode cX0_fillRow 1 = .ok (.istore_n 3, 1) := by decide +kernel
theorem dX0_fillRow_2 : decode cX0_fillRow 2 = .ok (.iload_n 3, 1) := by decide +kernel
theorem dX0_fillRow_3 : decode cX0_fillRow 3 = .ok (.bipush 6, 2) := by decide +kernel
theorem dX0_fillRow_5 : decode cX0_fillRow 5 = .ok (.if_icmp .ge 20, 3) := by decide +kernel
theorem dX0_fillRow_8 : decode cX0_fillRow 8 = .ok (.aload_n 0, 1) := by decide +kernel
theorem dX0_fillRow_9 : decode cX0_fillRow 9 = .ok (.iload_n 1, 1) := by decide +kernel
theorem dX0_fillRow_10 : decode cX0_fillRow 10 = .ok (.bipush 6, 2) := by decide +kernel
theorem dX0_fillRow_12 : decode cX0_fillRow 12 = .ok (.imul, 1) := by decide +kernel
theorem dX0_fillRow_13 : decode cX0_fillRow 13 = .ok (.iload_n 3, 1) := by decide +kernel
theorem dX0_fillRow_14 : decode cX0_fillRow 14 = .ok (.iadd, 1) := by decide +kernel
theorem dX0_fillRow_15 : decode cX0_fillRow 15 = .ok (.iload_n 2, 1) := by decide +kernel
theorem dX0_fillRow_16 : decode cX0_fillRow 16 = .ok (.invokevirtual 37, 3) := by decide +kernel
theorem dX0_fillRow_19 : decode cX0_fillRow 19 = .ok (.iinc 3 1, 3) := by decide +kernel
theorem dX0_fillRow_22 : decode cX0_fillRow 22 = .ok (.goto (-20), 3) := by decide +kernel
theorem dX0_fillRow_25 : decode cX0_fillRow 25 = .ok (.return_, 1) := by decide +kernel
theorem dX0_pieceAt_0 : decode cX0_pieceAt 0 = .ok (.iload_n 1, 1) := by decide +kernel
theorem dX0_pieceAt_1 : decode cX0_pieceAt 1 = .ok (.ifCond .lt 21, 3) := by decide +kernel
theorem dX0_pieceAt_4 : decode cX0_pieceAt 4 = .ok (.iload_n 1, 1) := by decide +kernel
theorem dX0_pieceAt_5 : decode cX0_pieceAt 5 = .ok (.aload_n 0, 1) := by decide +kernel
theorem dX0_pieceAt_6 : decode cX0_pieceAt 6 = .ok (.getfield 9, 3) := by decide +kernel
theorem dX0_pieceAt_9 : decode cX0_pieceAt 9 = .ok (.arraylength, 1) := by decide +kernel
theorem dX0_pieceAt_10 : decode cX0_pieceAt 10 = .ok (.if_icmp .ge 12, 3) := by decide +kernel
theorem dX0_pieceAt_13 : decode cX0_pieceAt 13 = .ok (.aload_n 0, 1) := by decide +kernel
theorem dX0_pieceAt_14 : decode cX0_pieceAt 14 = .ok (.getfield 9, 3) := by decide +kernel
theorem dX0_pieceAt_17 : decode cX0_pieceAt 17 = .ok (.iload_n 1, 1) := by decide +kernel
theorem dX0_pieceAt_18 : decode cX0_pieceAt 18 = .ok (.iaload, 1) := by decide +kernel
theorem dX0_pieceAt_19 : decode cX0_pieceAt 19 = .ok (.goto 5, 3) := by decide +kernel
theorem dX0_pieceAt_22 : decode cX0_pieceAt 22 = .ok (.bipush (-6), 2) := by decide +kernel
theorem dX0_pieceAt_24 : decode cX0_pieceAt 24 = .ok (.ireturn, 1) := by decide +kernel
theorem dX0_place_0 : decode cX0_place 0 = .ok (.iload_n 1, 1) := by decide +kernel
theorem dX0_place_1 : decode cX0_place 1 = .ok (.ifCond .lt 12, 3) := by decide +kernel
theorem dX0_place_4 : decode cX0_place 4 = .ok (.iload_n 1, 1) := by decide +kernel
theorem dX0_place_5 : decode cX0_place 5 = .ok (.aload_n 0, 1) := by decide +kernel
theorem dX0_place_6 : decode cX0_place 6 = .ok (.getfield 9, 3) := by decide +kernel
theorem dX0_place_9 : decode cX0_place 9 = .ok (.arraylength, 1) := by decide +kernel
theorem dX0_place_10 : decode cX0_place 10 = .ok (.if_icmp .lt 4, 3) := by decide +kernel
theorem dX0_place_13 : decode cX0_place 13 = .ok (.return_, 1) := by decide +kernel
theorem dX0_place_14 : decode cX0_place 14 = .ok (.aload_n 0, 1) := by decide +kernel
theorem dX0_place_15 : decode cX0_place 15 = .ok (.aload_n 0, 1) := by decide +kernel
theorem dX0_place_16 : decode cX0_place 16 = .ok (.getfield 9, 3) := by decide +kernel
theorem dX0_place_19 : decode cX0_place 19 = .ok (.iload_n 1, 1) := by decide +kernel
theorem dX0_place_20 : decode cX0_place 20 = .ok (.iaload, 1) := by decide +kernel
theorem dX0_place_21 : decode cX0_place 21 = .ok (.iconst (-1), 1) := by decide +kernel
theorem dX0_place_22 : decode cX0_place 22 = .ok (.invokevirtual 41, 3) := by decide +kernel
theorem dX0_place_25 : decode cX0_place 25 = .ok (.aload_n 0, 1) := by decide +kernel
theorem dX0_place_26 : decode cX0_place 26 = .ok (.iload_n 2, 1) := by decide +kernel
theorem dX0_place_27 : decode cX0_place 27 = .ok (.iconst 1, 1) := by decide +kernel
theorem dX0_place_28 : decode cX0_place 28 = .ok (.invokevirtual 41, 3) := by decide +kernel
theorem dX0_place_31 : decode cX0_place 31 = .ok (.aload_n 0, 1) := by decide +kernel
theorem dX0_place_32 : decode cX0_place 32 = .ok (.getfield 9, 3) := by decide +kernel
theorem dX0_place_35 : decode cX0_place 35 = .ok (.iload_n 1, 1) := by decide +kernel
theorem dX0_place_36 : decode cX0_place 36 = .ok (.iload_n 2, 1) := by decide +kernel
theorem dX0_place_37 : decode cX0_place 37 = .ok (.iastore, 1) := by decide +kernel
theorem dX0_place_38 : decode cX0_place 38 = .ok (.return_, 1) := by decide +kernel
theorem dX0_addToNumber_0 : decode cX0_addToNumber 0 = .ok (.iload_n 1, 1) := by decide +kernel
theorem dX0_addToNumber_1 : decode cX0_addToNumber 1 = .ok (.ifCond .lt 22, 3) := by decide +kernel
theorem dX0_addToNumber_4 : decode cX0_addToNumber 4 = .ok (.iload_n 1, 1) := by decide +kernel
theorem dX0_addToNumber_5 : decode cX0_addToNumber 5 = .ok (.aload_n 0, 1) := by decide +kernel
theorem dX0_addToNumber_6 : decode cX0_addToNumber 6 = .ok (.getfield 15, 3) := by decide +kernel
theorem dX0_addToNumber_9 : decode cX0_addToNumber 9 = .ok (.arraylength, 1) := by decide +kernel
theorem dX0_addToNumber_10 : decode cX0_addToNumber 10 = .ok (.if_icmp .ge 13, 3) := by decide +kernel
theorem dX0_addToNumber_13 : decode cX0_addToNumber 13 = .ok (.aload_n 0, 1) := by decide +kernel
theorem dX0_addToNumber_14 : decode cX0_addToNumber 14 = .ok (.getfield 15, 3) := by decide +kernel
theorem dX0_addToNumber_17 : decode cX0_addToNumber 17 = .ok (.iload_n 1, 1) := by decide +kernel
theorem dX0_addToNumber_18 : decode cX0_addToNumber 18 = .ok (.dup2, 1) := by decide +kernel
theorem dX0_addToNumber_19 : decode cX0_addToNumber 19 = .ok (.iaload, 1) := by decide +kernel
theorem dX0_addToNumber_20 : decode cX0_addToNumber 20 = .ok (.iload_n 2, 1) := by decide +kernel
theorem dX0_addToNumber_21 : decode cX0_addToNumber 21 = .ok (.iadd, 1) := by decide +kernel
theorem dX0_addToNumber_22 : decode cX0_addToNumber 22 = .ok (.iastore, 1) := by decide +kernel
theorem dX0_addToNumber_23 : decode cX0_addToNumber 23 = .ok (.return_, 1) := by decide +kernel
theorem dX0_numberOf_0 : decode cX0_numberOf 0 = .ok (.iload_n 1, 1) := by decide +kernel
theorem dX0_numberOf_1 : decode cX0_numberOf 1 = .ok (.ifCond .lt 21, 3) := by decide +kernel
theorem dX0_numberOf_4 : decode cX0_numberOf 4 = .ok (.iload_n 1, 1) := by decide +kernel
theorem dX0_numberOf_5 : decode cX0_numberOf 5 = .ok (.aload_n 0, 1) := by decide +kernel
theorem dX0_numberOf_6 : decode cX0_numberOf 6 = .ok (.getfield 15, 3) := by decide +kernel
theorem dX0_numberOf_9 : decode cX0_numberOf 9 = .ok (.arraylength, 1) := by decide +kernel
theorem dX0_numberOf_10 : decode cX0_numberOf 10 = .ok (.if_icmp .ge 12, 3) := by decide +kernel
theorem dX0_numberOf_13 : decode cX0_numberOf 13 = .ok (.aload_n 0, 1) := by decide +kernel
theorem dX0_numberOf_14 : decode cX0_numberOf 14 = .ok (.getfield 15, 3) := by decide +kernel
theorem dX0_numberOf_17 : decode cX0_numberOf 17 = .ok (.iload_n 1, 1) := by decide +kernel
theorem dX0_numberOf_18 : decode cX0_numberOf 18 = .ok (.iaload, 1) := by decide +kernel
theorem dX0_numberOf_19 : decode cX0_numberOf 19 = .ok (.goto 4, 3) := by decide +kernel
theorem dX0_numberOf_22 : decode cX0_numberOf 22 = .ok (.iconst 0, 1) := by decide +kernel
theorem dX0_numberOf_23 : decode cX0_numberOf 23 = .ok (.ireturn, 1) := by decide +kernel
theorem dX0_menOf_0 : decode cX0_menOf 0 = .ok (.aload_n 0, 1) := by decide +kernel
theorem dX0_menOf_1 : decode cX0_menOf 1 = .ok (.iload_n 1, 1) := by decide +kernel
theorem dX0_menOf_2 : decode cX0_menOf 2 = .ok (.ifCond .ne 7, 3) := by decide +kernel
theorem dX0_menOf_5 : decode cX0_menOf 5 = .ok (.iconst 0, 1) := by decide +kernel
theorem dX0_menOf_6 : decode cX0_menOf 6 = .ok (.goto 4, 3) := by decide +kernel
theorem dX0_menOf_9 : decode cX0_menOf 9 = .ok (.iconst 2, 1) := by decide +kernel
theorem dX0_menOf_10 : decode cX0_menOf 10 = .ok (.invokevirtual 44, 3) := by decide +kernel
theorem dX0_menOf_13 : decode cX0_menOf 13 = .ok (.ireturn, 1) := by decide +kernel
theorem dX0_kingsOf_0 : decode cX0_kingsOf 0 = .ok (.aload_n 0, 1) := by decide +kernel
theorem dX0_kingsOf_1 : decode cX0_kingsOf 1 = .ok (.iload_n 1, 1) := by decide +kernel
theorem dX0_kingsOf_2 : decode cX0_kingsOf 2 = .ok (.invokestatic 48, 3) := by decide +kernel
theorem dX0_kingsOf_5 : decode cX0_kingsOf 5 = .ok (.invokevirtual 44, 3) := by decide +kernel
theorem dX0_kingsOf_8 : decode cX0_kingsOf 8 = .ok (.ireturn, 1) := by decide +kernel
theorem dX0_piecesOf_0 : decode cX0_piecesOf 0 = .ok (.aload_n 0, 1) := by decide +kernel
theorem dX0_piecesOf_1 : decode cX0_piecesOf 1 = .ok (.iload_n 1, 1) := by decide +kernel
theorem dX0_piecesOf_2 : decode cX0_piecesOf 2 = .ok (.invokevirtual 51, 3) := by decide +kernel
theorem dX0_piecesOf_5 : decode cX0_piecesOf 5 = .ok (.aload_n 0, 1) := by decide +kernel
theorem dX0_piecesOf_6 : decode cX0_piecesOf 6 = .ok (.iload_n 1, 1) := by decide +kernel
theorem dX0_piecesOf_7 : decode cX0_piecesOf 7 = .ok (.invokevirtual 54, 3) := by decide +kernel
theorem dX0_piecesOf_10 : decode cX0_piecesOf 10 = .ok (.iadd, 1) := by decide +kernel
theorem dX0_piecesOf_11 : decode cX0_piecesOf 11 = .ok (.ireturn, 1) := by decide +kernel
theorem dX0_worthOf_0 : decode cX0_worthOf 0 = .ok (.aload_n 0, 1) := by decide +kernel
theorem dX0_worthOf_1 : decode cX0_worthOf 1 = .ok (.iload_n 1, 1) := by decide +kernel
theorem dX0_worthOf_2 : decode cX0_worthOf 2 = .ok (.invokevirtual 51, 3) := by decide +kernel
theorem dX0_worthOf_5 : decode cX0_worthOf 5 = .ok (.iconst 3, 1) := by decide +kernel
theorem dX0_worthOf_6 : decode cX0_worthOf 6 = .ok (.aload_n 0, 1) := by decide +kernel
theorem dX0_worthOf_7 : decode cX0_worthOf 7 = .ok (.iload_n 1, 1) := by decide +kernel
theorem dX0_worthOf_8 : decode cX0_worthOf 8 = .ok (.invokevirtual 54, 3) := by decide +kernel
theorem dX0_worthOf_11 : decode cX0_worthOf 11 = .ok (.imul, 1) := by decide +kernel
theorem dX0_worthOf_12 : decode cX0_worthOf 12 = .ok (.iadd, 1) := by decide +kernel
theorem dX0_worthOf_13 : decode cX0_worthOf 13 = .ok (.ireturn, 1) := by decide +kernel
theorem dX0_stepsToPrey_0 : decode cX0_stepsToPrey 0 = .ok (.aload_n 0, 1) := by decide +kernel
theorem dX0_stepsToPrey_1 : decode cX0_stepsToPrey 1 = .ok (.iload_n 1, 1) := by decide +kernel
theorem dX0_stepsToPrey_2 : decode cX0_stepsToPrey 2 = .ok (.invokevirtual 57, 3) := by decide +kernel
theorem dX0_stepsToPrey_5 : decode cX0_stepsToPrey 5 = .ok (.istore_n 3, 1) := by decide +kernel
theorem dX0_stepsToPrey_6 : decode cX0_stepsToPrey 6 = .ok (.iload_n 3, 1) := by decide +kernel
theorem dX0_stepsToPrey_7 : decode cX0_stepsToPrey 7 = .ok (.iload_n 2, 1) := by decide +kernel
theorem dX0_stepsToPrey_8 : decode cX0_stepsToPrey 8 = .ok (.invokestatic 60, 3) := by decide +kernel
theorem dX0_stepsToPrey_11 : decode cX0_stepsToPrey 11 = .ok (.ifCond .ne 5, 3) := by decide +kernel
theorem dX0_stepsToPrey_14 : decode cX0_stepsToPrey 14 = .ok (.iconst 0, 1) := by decide +kernel
theorem dX0_stepsToPrey_15 : decode cX0_stepsToPrey 15 = .ok (.ireturn, 1) := by decide +kernel
theorem dX0_stepsToPrey_16 : decode cX0_stepsToPrey 16 = .ok (.iload_n 3, 1) := by decide +kernel
theorem dX0_stepsToPrey_17 : decode cX0_stepsToPrey 17 = .ok (.invokestatic 64, 3) := by decide +kernel
theorem dX0_stepsToPrey_20 : decode cX0_stepsToPrey 20 = .ok (.ifCond .eq 8, 3) := by decide +kernel
theorem dX0_stepsToPrey_23 : decode cX0_stepsToPrey 23 = .ok (.bipush 22, 2) := by decide +kernel
theorem dX0_stepsToPrey_25 : decode cX0_stepsToPrey 25 = .ok (.goto 4, 3) := by decide +kernel
theorem dX0_stepsToPrey_28 : decode cX0_stepsToPrey 28 = .ok (.iconst 1, 1) := by decide +kernel
theorem dX0_stepsToPrey_29 : decode cX0_stepsToPrey 29 = .ok (.istore 4, 2) := by decide +kernel
theorem dX0_stepsToPrey_31 : decode cX0_stepsToPrey 31 = .ok (.iconst 1, 1) := by decide +kernel
theorem dX0_stepsToPrey_32 : decode cX0_stepsToPrey 32 = .ok (.istore 5, 2) := by decide +kernel
theorem dX0_stepsToPrey_34 : decode cX0_stepsToPrey 34 = .ok (.iload_n 1, 1) := by decide +kernel
theorem dX0_stepsToPrey_35 : decode cX0_stepsToPrey 35 = .ok (.iload_n 2, 1) := by decide +kernel
theorem dX0_stepsToPrey_36 : decode cX0_stepsToPrey 36 = .ok (.iconst 1, 1) := by decide +kernel
theorem dX0_stepsToPrey_37 : decode cX0_stepsToPrey 37 = .ok (.invokestatic 68, 3) := by decide +kernel
theorem dX0_stepsToPrey_40 : decode cX0_stepsToPrey 40 = .ok (.istore 6, 2) := by decide +kernel
theorem dX0_stepsToPrey_42 : decode cX0_stepsToPrey 42 = .ok (.iload 5, 2) := by decide +kernel
theorem dX0_stepsToPrey_44 : decode cX0_stepsToPrey 44 = .ok (.iload 4, 2) := by decide +kernel
theorem dX0_stepsToPrey_46 : decode cX0_stepsToPrey 46 = .ok (.if_icmp .ge 29, 3) := by decide +kernel
theorem dX0_stepsToPrey_49 : decode cX0_stepsToPrey 49 = .ok (.aload_n 0, 1) := by decide +kernel
theorem dX0_stepsToPrey_50 : decode cX0_stepsToPrey 50 = .ok (.iload 6, 2) := by decide +kernel
theorem dX0_stepsToPrey_52 : decode cX0_stepsToPrey 52 = .ok (.invokevirtual 57, 3) := by decide +kernel
theorem dX0_stepsToPrey_55 : decode cX0_stepsToPrey 55 = .ok (.bipush (-6), 2) := by decide +kernel
theorem dX0_stepsToPrey_57 : decode cX0_stepsToPrey 57 = .ok (.if_icmp .ne 18, 3) := by decide +kernel
theorem dX0_stepsToPrey_60 : decode cX0_stepsToPrey 60 = .ok (.iload 6, 2) := by decide +kernel
theorem dX0_stepsToPrey_62 : decode cX0_stepsToPrey 62 = .ok (.iload_n 2, 1) := by decide +kernel
theorem dX0_stepsToPrey_63 : decode cX0_stepsToPrey 63 = .ok (.iconst 1, 1) := by decide +kernel
theorem dX0_stepsToPrey_64 : decode cX0_stepsToPrey 64 = .ok (.invokestatic 68, 3) := by decide +kernel
theorem dX0_stepsToPrey_67 : decode cX0_stepsToPrey 67 = .ok (.istore 6, 2) := by decide +kernel
theorem dX0_stepsToPrey_69 : decode cX0_stepsToPrey 69 = .ok (.iinc 5 1, 3) := by decide +kernel
theorem dX0_stepsToPrey_72 : decode cX0_stepsToPrey 72 = .ok (.goto (-30), 3) := by decide +kernel
theorem dX0_stepsToPrey_75 : decode cX0_stepsToPrey 75 = .ok (.aload_n 0, 1) := by decide +kernel
theorem dX0_stepsToPrey_76 : decode cX0_stepsToPrey 76 = .ok (.iload 6, 2) := by decide +kernel
theorem dX0_stepsToPrey_78 : decode cX0_stepsToPrey 78 = .ok (.invokevirtual 57, 3) := by decide +kernel
theorem dX0_stepsToPrey_81 : decode cX0_stepsToPrey 81 = .ok (.invokestatic 72, 3) := by decide +kernel
theorem dX0_stepsToPrey_84 : decode cX0_stepsToPrey 84 = .ok (.iconst 1, 1) := by decide +kernel
theorem dX0_stepsToPrey_85 : decode cX0_stepsToPrey 85 = .ok (.iload_n 3, 1) := by decide +kernel
theorem dX0_stepsToPrey_86 : decode cX0_stepsToPrey 86 = .ok (.invokestatic 72, 3) := by decide +kernel
theorem dX0_stepsToPrey_89 : decode cX0_stepsToPrey 89 = .ok (.isub, 1) := by decide +kernel
theorem dX0_stepsToPrey_90 : decode cX0_stepsToPrey 90 = .ok (.if_icmp .ne 7, 3) := by decide +kernel
theorem dX0_stepsToPrey_93 : decode cX0_stepsToPrey 93 = .ok (.iconst 1, 1) := by decide +kernel
theorem dX0_stepsToPrey_94 : decode cX0_stepsToPrey 94 = .ok (.goto 4, 3) := by decide +kernel
theorem dX0_stepsToPrey_97 : decode cX0_stepsToPrey 97 = .ok (.iconst 0, 1) := by decide +kernel
theorem dX0_stepsToPrey_98 : decode cX0_stepsToPrey 98 = .ok (.istore 7, 2) := by decide +kernel
theorem dX0_stepsToPrey_100 : decode cX0_stepsToPrey 100 = .ok (.iload 7, 2) := by decide +kernel
theorem dX0_stepsToPrey_102 : decode cX0_stepsToPrey 102 = .ok (.ifCond .eq 24, 3) := by decide +kernel
theorem dX0_stepsToPrey_105 : decode cX0_stepsToPrey 105 = .ok (.aload_n 0, 1) := by decide +kernel
theorem dX0_stepsToPrey_106 : decode cX0_stepsToPrey 106 = .ok (.iload 6, 2) := by decide +kernel
theorem dX0_stepsToPrey_108 : decode cX0_stepsToPrey 108 = .ok (.iload_n 2, 1) := by decide +kernel
theorem dX0_stepsToPrey_109 : decode cX0_stepsToPrey 109 = .ok (.iconst 1, 1) := by decide +kernel
theorem dX0_stepsToPrey_110 : decode cX0_stepsToPrey 110 = .ok (.invokestatic 68, 3) := by decide +kernel
theorem dX0_stepsToPrey_113 : decode cX0_stepsToPrey 113 = .ok (.invokevirtual 57, 3) := by decide +kernel
theorem dX0_stepsToPrey_116 : decode cX0_stepsToPrey 116 = .ok (.bipush (-6), 2) := by decide +kernel
theorem dX0_stepsToPrey_118 : decode cX0_stepsToPrey 118 = .ok (.if_icmp .ne 8, 3) := by decide +kernel
theorem dX0_stepsToPrey_121 : decode cX0_stepsToPrey 121 = .ok (.iload 5, 2) := by decide +kernel
theorem dX0_stepsToPrey_123 : decode cX0_stepsToPrey 123 = .ok (.goto 4, 3) := by decide +kernel
theorem dX0_stepsToPrey_126 : decode cX0_stepsToPrey 126 = .ok (.iconst 0, 1) := by decide +kernel
theorem dX0_stepsToPrey_127 : decode cX0_stepsToPrey 127 = .ok (.ireturn, 1) := by decide +kernel
theorem dX0_canJump_0 : decode cX0_canJump 0 = .ok (.iconst 0, 1) := by decide +kernel
theorem dX0_canJump_1 : decode cX0_canJump 1 = .ok (.istore_n 2, 1) := by decide +kernel
theorem dX0_canJump_2 : decode cX0_canJump 2 = .ok (.iload_n 2, 1) := by decide +kernel
theorem dX0_canJump_3 : decode cX0_canJump 3 = .ok (.iconst 4, 1) := by decide +kernel
theorem dX0_canJump_4 : decode cX0_canJump 4 = .ok (.if_icmp .ge 20, 3) := by decide +kernel
theorem dX0_canJump_7 : decode cX0_canJump 7 = .ok (.aload_n 0, 1) := by decide +kernel
theorem dX0_canJump_8 : decode cX0_canJump 8 = .ok (.iload_n 1, 1) := by decide +kernel
theorem dX0_canJump_9 : decode cX0_canJump 9 = .ok (.iload_n 2, 1) := by decide +kernel
theorem dX0_canJump_10 : decode cX0_canJump 10 = .ok (.invokevirtual 75, 3) := by decide +kernel
theorem dX0_canJump_13 : decode cX0_canJump 13 = .ok (.ifCond .le 5, 3) := by decide +kernel
theorem dX0_canJump_16 : decode cX0_canJump 16 = .ok (.iconst 1, 1) := by decide +kernel
theorem dX0_canJump_17 : decode cX0_canJump 17 = .ok (.ireturn, 1) := by decide +kernel
theorem dX0_canJump_18 : decode cX0_canJump 18 = .ok (.iinc 2 1, 3) := by decide +kernel
theorem dX0_canJump_21 : decode cX0_canJump 21 = .ok (.goto (-19), 3) := by decide +kernel
theorem dX0_canJump_24 : decode cX0_canJump 24 = .ok (.iconst 0, 1) := by decide +kernel
theorem dX0_canJump_25 : decode cX0_canJump 25 = .ok (.ireturn, 1) := by decide +kernel
theorem dX0_hasHop_0 : decode cX0_hasHop 0 = .ok (.iconst 0, 1) := by decide +kernel
theorem dX0_hasHop_1 : decode cX0_hasHop 1 = .ok (.istore_n 1, 1) := by decide +kernel
theorem dX0_hasHop_2 : decode cX0_hasHop 2 = .ok (.iload_n 1, 1) := by decide +kernel
theorem dX0_hasHop_3 : decode cX0_hasHop 3 = .ok (.bipush 48, 2) := by decide +kernel
theorem dX0_hasHop_5 : decode cX0_hasHop 5 = .ok (.if_icmp .ge 88, 3) := by decide +kernel
theorem dX0_hasHop_8 : decode cX0_hasHop 8 = .ok (.aload_n 0, 1) := by decide +kernel
theorem dX0_hasHop_9 : decode cX0_hasHop 9 = .ok (.iload_n 1, 1) := by decide +kernel
theorem dX0_hasHop_10 : decode cX0_hasHop 10 = .ok (.invokevirtual 57, 3) := by decide +kernel
theorem dX0_hasHop_13 : decode cX0_hasHop 13 = .ok (.istore_n 2, 1) := by decide +kernel
theorem dX0_hasHop_14 : decode cX0_hasHop 14 = .ok (.iload_n 2, 1) := by decide +kernel
theorem dX0_hasHop_15 : decode cX0_hasHop 15 = .ok (.invokestatic 72, 3) := by decide +kernel
theorem dX0_hasHop_18 : decode cX0_hasHop 18 = .ok (.aload_n 0, 1) := by decide +kernel
theorem dX0_hasHop_19 : decode cX0_hasHop 19 = .ok (.getfield 18, 3) := by decide +kernel
theorem dX0_hasHop_22 : decode cX0_hasHop 22 = .ok (.if_icmp .eq 6, 3) := by decide +kernel
theorem dX0_hasHop_25 : decode cX0_hasHop 25 = .ok (.goto 62, 3) := by decide +kernel
theorem dX0_hasHop_28 : decode cX0_hasHop 28 = .ok (.iconst 0, 1) := by decide +kernel
theorem dX0_hasHop_29 : decode cX0_hasHop 29 = .ok (.istore_n 3, 1) := by decide +kernel
theorem dX0_hasHop_30 : decode cX0_hasHop 30 = .ok (.iload_n 3, 1) := by decide +kernel
theorem dX0_hasHop_31 : decode cX0_hasHop 31 = .ok (.iconst 4, 1) := by decide +kernel
theorem dX0_hasHop_32 : decode cX0_hasHop 32 = .ok (.if_icmp .ge 55, 3) := by decide +kernel
theorem dX0_hasHop_35 : decode cX0_hasHop 35 = .ok (.iload_n 2, 1) := by decide +kernel
theorem dX0_hasHop_36 : decode cX0_hasHop 36 = .ok (.iload_n 3, 1) := by decide +kernel
theorem dX0_hasHop_37 : decode cX0_hasHop 37 = .ok (.invokestatic 60, 3) := by decide +kernel
theorem dX0_hasHop_40 : decode cX0_hasHop 40 = .ok (.ifCond .eq 22, 3) := by decide +kernel
theorem dX0_hasHop_43 : decode cX0_hasHop 43 = .ok (.aload_n 0, 1) := by decide +kernel
theorem dX0_hasHop_44 : decode cX0_hasHop 44 = .ok (.iload_n 1, 1) := by decide +kernel
theorem dX0_hasHop_45 : decode cX0_hasHop 45 = .ok (.iload_n 3, 1) := by decide +kernel
theorem dX0_hasHop_46 : decode cX0_hasHop 46 = .ok (.iconst 1, 1) := by decide +kernel
theorem dX0_hasHop_47 : decode cX0_hasHop 47 = .ok (.invokestatic 68, 3) := by decide +kernel
theorem dX0_hasHop_50 : decode cX0_hasHop 50 = .ok (.invokevirtual 57, 3) := by decide +kernel
theorem dX0_hasHop_53 : decode cX0_hasHop 53 = .ok (.bipush (-6), 2) := by decide +kernel
theorem dX0_hasHop_55 : decode cX0_hasHop 55 = .ok (.if_icmp .ne 7, 3) := by decide +kernel
theorem dX0_hasHop_58 : decode cX0_hasHop 58 = .ok (.iconst 1, 1) := by decide +kernel
theorem dX0_hasHop_59 : decode cX0_hasHop 59 = .ok (.goto 4, 3) := by decide +kernel
theorem dX0_hasHop_62 : decode cX0_hasHop 62 = .ok (.iconst 0, 1) := by decide +kernel
theorem dX0_hasHop_63 : decode cX0_hasHop 63 = .ok (.istore 4, 2) := by decide +kernel
theorem dX0_hasHop_65 : decode cX0_hasHop 65 = .ok (.iload 4, 2) := by decide +kernel
theorem dX0_hasHop_67 : decode cX0_hasHop 67 = .ok (.ifCond .ne 12, 3) := by decide +kernel
theorem dX0_hasHop_70 : decode cX0_hasHop 70 = .ok (.aload_n 0, 1) := by decide +kernel
theorem dX0_hasHop_71 : decode cX0_hasHop 71 = .ok (.iload_n 1, 1) := by decide +kernel
theorem dX0_hasHop_72 : decode cX0_hasHop 72 = .ok (.iload_n 3, 1) := by decide +kernel
theorem dX0_hasHop_73 : decode cX0_hasHop 73 = .ok (.invokevirtual 75, 3) := by decide +kernel
theorem dX0_hasHop_76 : decode cX0_hasHop 76 = .ok (.ifCond .le 5, 3) := by decide +kernel
theorem dX0_hasHop_79 : decode cX0_hasHop 79 = .ok (.iconst 1, 1) := by decide +kernel
theorem dX0_hasHop_80 : decode cX0_hasHop 80 = .ok (.ireturn, 1) := by decide +kernel
theorem dX0_hasHop_81 : decode cX0_hasHop 81 = .ok (.iinc 3 1, 3) := by decide +kernel
theorem dX0_hasHop_84 : decode cX0_hasHop 84 = .ok (.goto (-54), 3) := by decide +kernel
theorem dX0_hasHop_87 : decode cX0_hasHop 87 = .ok (.iinc 1 1, 3) := by decide +kernel
theorem dX0_hasHop_90 : decode cX0_hasHop 90 = .ok (.goto (-88), 3) := by decide +kernel
theorem dX0_hasHop_93 : decode cX0_hasHop 93 = .ok (.iconst 0, 1) := by decide +kernel
theorem dX0_hasHop_94 : decode cX0_hasHop 94 = .ok (.ireturn, 1) := by decide +kernel
theorem dX0_make_0 : decode cX0_make 0 = .ok (.aload_n 1, 1) := by decide +kernel
theorem dX0_make_1 : decode cX0_make 1 = .ok (.iload_n 2, 1) := by decide +kernel
theorem dX0_make_2 : decode cX0_make 2 = .ok (.invokevirtual 79, 3) := by decide +kernel
theorem dX0_make_5 : decode cX0_make 5 = .ok (.istore_n 3, 1) := by decide +kernel
theorem dX0_make_6 : decode cX0_make 6 = .ok (.aload_n 1, 1) := by decide +kernel
theorem dX0_make_7 : decode cX0_make 7 = .ok (.iload_n 2, 1) := by decide +kernel
theorem dX0_make_8 : decode cX0_make 8 = .ok (.invokevirtual 84, 3) := by decide +kernel
theorem dX0_make_11 : decode cX0_make 11 = .ok (.istore 4, 2) := by decide +kernel
theorem dX0_make_13 : decode cX0_make 13 = .ok (.aload_n 1, 1) := by decide +kernel
theorem dX0_make_14 : decode cX0_make 14 = .ok (.iload_n 2, 1) := by decide +kernel
theorem dX0_make_15 : decode cX0_make 15 = .ok (.invokevirtual 87, 3) := by decide +kernel
theorem dX0_make_18 : decode cX0_make 18 = .ok (.istore 5, 2) := by decide +kernel
theorem dX0_make_20 : decode cX0_make 20 = .ok (.aload_n 0, 1) := by decide +kernel
theorem dX0_make_21 : decode cX0_make 21 = .ok (.iload_n 3, 1) := by decide +kernel
theorem dX0_make_22 : decode cX0_make 22 = .ok (.invokevirtual 57, 3) := by decide +kernel
theorem dX0_make_25 : decode cX0_make 25 = .ok (.istore 6, 2) := by decide +kernel
theorem dX0_make_27 : decode cX0_make 27 = .ok (.iload 6, 2) := by decide +kernel
theorem dX0_make_29 : decode cX0_make 29 = .ok (.iload_n 3, 1) := by decide +kernel
theorem dX0_make_30 : decode cX0_make 30 = .ok (.aload_n 1, 1) := by decide +kernel
theorem dX0_make_31 : decode cX0_make 31 = .ok (.iload_n 2, 1) := by decide +kernel
theorem dX0_make_32 : decode cX0_make 32 = .ok (.invokevirtual 90, 3) := by decide +kernel
theorem dX0_make_35 : decode cX0_make 35 = .ok (.invokestatic 93, 3) := by decide +kernel
theorem dX0_make_38 : decode cX0_make 38 = .ok (.istore 7, 2) := by decide +kernel
theorem dX0_make_40 : decode cX0_make 40 = .ok (.aload_n 0, 1) := by decide +kernel
theorem dX0_make_41 : decode cX0_make 41 = .ok (.iload_n 3, 1) := by decide +kernel
theorem dX0_make_42 : decode cX0_make 42 = .ok (.bipush (-6), 2) := by decide +kernel
theorem dX0_make_44 : decode cX0_make 44 = .ok (.invokevirtual 37, 3) := by decide +kernel
theorem dX0_make_47 : decode cX0_make 47 = .ok (.aload_n 0, 1) := by decide +kernel
theorem dX0_make_48 : decode cX0_make 48 = .ok (.iload 5, 2) := by decide +kernel
theorem dX0_make_50 : decode cX0_make 50 = .ok (.bipush (-6), 2) := by decide +kernel
theorem dX0_make_52 : decode cX0_make 52 = .ok (.invokevirtual 37, 3) := by decide +kernel
theorem dX0_make_55 : decode cX0_make 55 = .ok (.aload_n 0, 1) := by decide +kernel
theorem dX0_make_56 : decode cX0_make 56 = .ok (.iload 4, 2) := by decide +kernel
theorem dX0_make_58 : decode cX0_make 58 = .ok (.iload 7, 2) := by decide +kernel
theorem dX0_make_60 : decode cX0_make 60 = .ok (.ifCond .eq 13, 3) := by decide +kernel
theorem dX0_make_63 : decode cX0_make 63 = .ok (.aload_n 0, 1) := by decide +kernel
theorem dX0_make_64 : decode cX0_make 64 = .ok (.getfield 18, 3) := by decide +kernel
theorem dX0_make_67 : decode cX0_make 67 = .ok (.invokestatic 48, 3) := by decide +kernel
theorem dX0_make_70 : decode cX0_make 70 = .ok (.goto 5, 3) := by decide +kernel
theorem dX0_make_73 : decode cX0_make 73 = .ok (.iload 6, 2) := by decide +kernel
theorem dX0_make_75 : decode cX0_make 75 = .ok (.invokevirtual 37, 3) := by decide +kernel
theorem dX0_make_78 : decode cX0_make 78 = .ok (.aload_n 0, 1) := by decide +kernel
theorem dX0_make_79 : decode cX0_make 79 = .ok (.iload 5, 2) := by decide +kernel
theorem dX0_make_81 : decode cX0_make 81 = .ok (.bipush (-6), 2) := by decide +kernel
theorem dX0_make_83 : decode cX0_make 83 = .ok (.if_icmp .eq 17, 3) := by decide +kernel
theorem dX0_make_86 : decode cX0_make 86 = .ok (.aload_n 0, 1) := by decide +kernel
theorem dX0_make_87 : decode cX0_make 87 = .ok (.iload 4, 2) := by decide +kernel
theorem dX0_make_89 : decode cX0_make 89 = .ok (.invokevirtual 97, 3) := by decide +kernel
theorem dX0_make_92 : decode cX0_make 92 = .ok (.ifCond .eq 8, 3) := by decide +kernel
theorem dX0_make_95 : decode cX0_make 95 = .ok (.iload 4, 2) := by decide +kernel
theorem dX0_make_97 : decode cX0_make 97 = .ok (.goto 5, 3) := by decide +kernel
theorem dX0_make_100 : decode cX0_make 100 = .ok (.bipush (-6), 2) := by decide +kernel
theorem dX0_make_102 : decode cX0_make 102 = .ok (.putfield 22, 3) := by decide +kernel
theorem dX0_make_105 : decode cX0_make 105 = .ok (.aload_n 0, 1) := by decide +kernel
theorem dX0_make_106 : decode cX0_make 106 = .ok (.getfield 22, 3) := by decide +kernel
theorem dX0_make_109 : decode cX0_make 109 = .ok (.bipush (-6), 2) := by decide +kernel
theorem dX0_make_111 : decode cX0_make 111 = .ok (.if_icmp .ne 13, 3) := by decide +kernel
theorem dX0_make_114 : decode cX0_make 114 = .ok (.aload_n 0, 1) := by decide +kernel
theorem dX0_make_115 : decode cX0_make 115 = .ok (.iconst 1, 1) := by decide +kernel
theorem dX0_make_116 : decode cX0_make 116 = .ok (.aload_n 0, 1) := by decide +kernel
theorem dX0_make_117 : decode cX0_make 117 = .ok (.getfield 18, 3) := by decide +kernel
theorem dX0_make_120 : decode cX0_make 120 = .ok (.isub, 1) := by decide +kernel
theorem dX0_make_121 : decode cX0_make 121 = .ok (.putfield 18, 3) := by decide +kernel
theorem dX0_make_124 : decode cX0_make 124 = .ok (.return_, 1) := by decide +kernel
theorem dX0_third_0 : decode cX0_third 0 = .ok (.iload_n 1, 1) := by decide +kernel
theorem dX0_third_1 : decode cX0_third 1 = .ok (.bipush 16, 2) := by decide +kernel
theorem dX0_third_3 : decode cX0_third 3 = .ok (.imul, 1) := by decide +kernel
theorem dX0_third_4 : decode cX0_third 4 = .ok (.istore_n 2, 1) := by decide +kernel
theorem dX0_third_5 : decode cX0_third 5 = .ok (.iload_n 1, 1) := by decide +kernel
theorem dX0_third_6 : decode cX0_third 6 = .ok (.ifCond .ne 11, 3) := by decide +kernel
theorem dX0_third_9 : decode cX0_third 9 = .ok (.aload_n 0, 1) := by decide +kernel
theorem dX0_third_10 : decode cX0_third 10 = .ok (.getfield 18, 3) := by decide +kernel
theorem dX0_third_13 : decode cX0_third 13 = .ok (.i2l, 1) := by decide +kernel
theorem dX0_third_14 : decode cX0_third 14 = .ok (.goto 20, 3) := by decide +kernel
theorem dX0_third_17 : decode cX0_third 17 = .ok (.iload_n 1, 1) := by decide +kernel
theorem dX0_third_18 : decode cX0_third 18 = .ok (.iconst 1, 1) := by decide +kernel
theorem dX0_third_19 : decode cX0_third 19 = .ok (.if_icmp .ne 14, 3) := by decide +kernel
theorem dX0_third_22 : decode cX0_third 22 = .ok (.aload_n 0, 1) := by decide +kernel
theorem dX0_third_23 : decode cX0_third 23 = .ok (.getfield 22, 3) := by decide +kernel
theorem dX0_third_26 : decode cX0_third 26 = .ok (.bipush (-6), 2) := by decide +kernel
theorem dX0_third_28 : decode cX0_third 28 = .ok (.isub, 1) := by decide +kernel
theorem dX0_third_29 : decode cX0_third 29 = .ok (.i2l, 1) := by decide +kernel
theorem dX0_third_30 : decode cX0_third 30 = .ok (.goto 4, 3) := by decide +kernel
theorem dX0_third_33 : decode cX0_third 33 = .ok (.lconst 0, 1) := by decide +kernel
theorem dX0_third_34 : decode cX0_third 34 = .ok (.lstore_n 3, 1) := by decide +kernel
theorem dX0_third_35 : decode cX0_third 35 = .ok (.iload_n 2, 1) := by decide +kernel
theorem dX0_third_36 : decode cX0_third 36 = .ok (.istore 5, 2) := by decide +kernel
theorem dX0_third_38 : decode cX0_third 38 = .ok (.iload 5, 2) := by decide +kernel
theorem dX0_third_40 : decode cX0_third 40 = .ok (.iload_n 2, 1) := by decide +kernel
theorem dX0_third_41 : decode cX0_third 41 = .ok (.bipush 16, 2) := by decide +kernel
theorem dX0_third_43 : decode cX0_third 43 = .ok (.iadd, 1) := by decide +kernel
theorem dX0_third_44 : decode cX0_third 44 = .ok (.if_icmp .ge 36, 3) := by decide +kernel
theorem dX0_third_47 : decode cX0_third 47 = .ok (.aload_n 0, 1) := by decide +kernel
theorem dX0_third_48 : decode cX0_third 48 = .ok (.iload 5, 2) := by decide +kernel
theorem dX0_third_50 : decode cX0_third 50 = .ok (.invokevirtual 57, 3) := by decide +kernel
theorem dX0_third_53 : decode cX0_third 53 = .ok (.istore 6, 2) := by decide +kernel
theorem dX0_third_55 : decode cX0_third 55 = .ok (.lload_n 3, 1) := by decide +kernel
theorem dX0_third_56 : decode cX0_third 56 = .ok (.iconst 3, 1) := by decide +kernel
theorem dX0_third_57 : decode cX0_third 57 = .ok (.lshl, 1) := by decide +kernel
theorem dX0_third_58 : decode cX0_third 58 = .ok (.iload 6, 2) := by decide +kernel
theorem dX0_third_60 : decode cX0_third 60 = .ok (.bipush (-6), 2) := by decide +kernel
theorem dX0_third_62 : decode cX0_third 62 = .ok (.if_icmp .ne 7, 3) := by decide +kernel
theorem dX0_third_65 : decode cX0_third 65 = .ok (.iconst 4, 1) := by decide +kernel
theorem dX0_third_66 : decode cX0_third 66 = .ok (.goto 5, 3) := by decide +kernel
theorem dX0_third_69 : decode cX0_third 69 = .ok (.iload 6, 2) := by decide +kernel
theorem dX0_third_71 : decode cX0_third 71 = .ok (.i2l, 1) := by decide +kernel
theorem dX0_third_72 : decode cX0_third 72 = .ok (.lor, 1) := by decide +kernel
theorem dX0_third_73 : decode cX0_third 73 = .ok (.lstore_n 3, 1) := by decide +kernel
theorem dX0_third_74 : decode cX0_third 74 = .ok (.iinc 5 1, 3) := by decide +kernel
theorem dX0_third_77 : decode cX0_third 77 = .ok (.goto (-39), 3) := by decide +kernel
theorem dX0_third_80 : decode cX0_third 80 = .ok (.lload_n 3, 1) := by decide +kernel
theorem dX0_third_81 : decode cX0_third 81 = .ok (.lreturn, 1) := by decide +kernel
theorem dX1_init_0 : decode cX1_init 0 = .ok (.aload_n 0, 1) := by decide +kernel
theorem dX1_init_1 : decode cX1_init 1 = .ok (.invokespecial 3, 3) := by decide +kernel
theorem dX1_init_4 : decode cX1_init 4 = .ok (.aload_n 0, 1) := by decide +kernel
theorem dX1_init_5 : decode cX1_init 5 = .ok (.new 9, 3) := by decide +kernel
theorem dX1_init_8 : decode cX1_init 8 = .ok (.dup, 1) := by decide +kernel
theorem dX1_init_9 : decode cX1_init 9 = .ok (.invokespecial 11, 3) := by decide +kernel
theorem dX1_init_12 : decode cX1_init 12 = .ok (.putfield 12, 3) := by decide +kernel
theorem dX1_init_15 : decode cX1_init 15 = .ok (.aload_n 0, 1) := by decide +kernel
theorem dX1_init_16 : decode cX1_init 16 = .ok (.iconst 2, 1) := by decide +kernel
theorem dX1_init_17 : decode cX1_init 17 = .ok (.newarray .int, 2) := by decide +kernel
theorem dX1_init_19 : decode cX1_init 19 = .ok (.putfield 18, 3) := by decide +kernel
theorem dX1_init_22 : decode cX1_init 22 = .ok (.aload_n 0, 1) := by decide +kernel
theorem dX1_init_23 : decode cX1_init 23 = .ok (.iconst 2, 1) := by decide +kernel
theorem dX1_init_24 : decode cX1_init 24 = .ok (.newarray .int, 2) := by decide +kernel
theorem dX1_init_26 : decode cX1_init 26 = .ok (.putfield 22, 3) := by decide +kernel
theorem dX1_init_29 : decode cX1_init 29 = .ok (.aload_n 0, 1) := by decide +kernel
theorem dX1_init_30 : decode cX1_init 30 = .ok (.sipush 183, 3) := by decide +kernel
theorem dX1_init_33 : decode cX1_init 33 = .ok (.newarray .long, 2) := by decide +kernel
theorem dX1_init_35 : decode cX1_init 35 = .ok (.putfield 25, 3) := by decide +kernel
theorem dX1_init_38 : decode cX1_init 38 = .ok (.aload_n 0, 1) := by decide +kernel
theorem dX1_init_39 : decode cX1_init 39 = .ok (.iconst 0, 1) := by decide +kernel
theorem dX1_init_40 : decode cX1_init 40 = .ok (.putfield 29, 3) := by decide +kernel
theorem dX1_init_43 : decode cX1_init 43 = .ok (.aload_n 0, 1) := by decide +kernel
theorem dX1_init_44 : decode cX1_init 44 = .ok (.sipush 600, 3) := by decide +kernel
theorem dX1_init_47 : decode cX1_init 47 = .ok (.putfield 33, 3) := by decide +kernel
theorem dX1_init_50 : decode cX1_init 50 = .ok (.aload_n 0, 1) := by decide +kernel
theorem dX1_init_51 : decode cX1_init 51 = .ok (.iconst 0, 1) := by decide +kernel
theorem dX1_init_52 : decode cX1_init 52 = .ok (.putfield 36, 3) := by decide +kernel
theorem dX1_init_55 : decode cX1_init 55 = .ok (.aload_n 0, 1) := by decide +kernel
theorem dX1_init_56 : decode cX1_init 56 = .ok (.iconst 0, 1) := by decide +kernel
theorem dX1_init_57 : decode cX1_init 57 = .ok (.putfield 39, 3) := by decide +kernel
theorem dX1_init_60 : decode cX1_init 60 = .ok (.aload_n 0, 1) := by decide +kernel
theorem dX1_init_61 : decode cX1_init 61 = .ok (.iconst 0, 1) := by decide +kernel
theorem dX1_init_62 : decode cX1_init 62 = .ok (.putfield 42, 3) := by decide +kernel
theorem dX1_init_65 : decode cX1_init 65 = .ok (.return_, 1) := by decide +kernel
theorem dX1_copyFrom_0 : decode cX1_copyFrom 0 = .ok (.aload_n 0, 1) := by decide +kernel
theorem dX1_copyFrom_1 : decode cX1_copyFrom 1 = .ok (.getfield 12, 3) := by decide +kernel
theorem dX1_copyFrom_4 : decode cX1_copyFrom 4 = .ok (.aload_n 1, 1) := by decide +kernel
theorem dX1_copyFrom_5 : decode cX1_copyFrom 5 = .ok (.getfield 12, 3) := by decide +kernel
theorem dX1_copyFrom_8 : decode cX1_copyFrom 8 = .ok (.invokevirtual 45, 3) := by decide +kernel
theorem dX1_copyFrom_11 : decode cX1_copyFrom 11 = .ok (.aload_n 1, 1) := by decide +kernel
theorem dX1_copyFrom_12 : decode cX1_copyFrom 12 = .ok (.getfield 18, 3) := by decide +kernel
theorem dX1_copyFrom_15 : decode cX1_copyFrom 15 = .ok (.iconst 0, 1) := by decide +kernel
theorem dX1_copyFrom_16 : decode cX1_copyFrom 16 = .ok (.aload_n 0, 1) := by decide +kernel
theorem dX1_copyFrom_17 : decode cX1_copyFrom 17 = .ok (.getfield 18, 3) := by decide +kernel
theorem dX1_copyFrom_20 : decode cX1_copyFrom 20 = .ok (.iconst 0, 1) := by decide +kernel
theorem dX1_copyFrom_21 : decode cX1_copyFrom 21 = .ok (.iconst 2, 1) := by decide +kernel
theorem dX1_copyFrom_22 : decode cX1_copyFrom 22 = .ok (.invokestatic 49, 3) := by decide +kernel
theorem dX1_copyFrom_25 : decode cX1_copyFrom 25 = .ok (.aload_n 1, 1) := by decide +kernel
theorem dX1_copyFrom_26 : decode cX1_copyFrom 26 = .ok (.getfield 22, 3) := by decide +kernel
theorem dX1_copyFrom_29 : decode cX1_copyFrom 29 = .ok (.iconst 0, 1) := by decide +kernel
theorem dX1_copyFrom_30 : decode cX1_copyFrom 30 = .ok (.aload_n 0, 1) := by decide +kernel
theorem dX1_copyFrom_31 : decode cX1_copyFrom 31 = .ok (.getfield 22, 3) := by decide +kernel
theorem dX1_copyFrom_34 : decode cX1_copyFrom 34 = .ok (.iconst 0, 1) := by decide +kernel
theorem dX1_copyFrom_35 : decode cX1_copyFrom 35 = .ok (.iconst 2, 1) := by decide +kernel
theorem dX1_copyFrom_36 : decode cX1_copyFrom 36 = .ok (.invokestatic 49, 3) := by decide +kernel
theorem dX1_copyFrom_39 : decode cX1_copyFrom 39 = .ok (.aload_n 1, 1) := by decide +kernel
theorem dX1_copyFrom_40 : decode cX1_copyFrom 40 = .ok (.getfield 25, 3) := by decide +kernel
theorem dX1_copyFrom_43 : decode cX1_copyFrom 43 = .ok (.iconst 0, 1) := by decide +kernel
theorem dX1_copyFrom_44 : decode cX1_copyFrom 44 = .ok (.aload_n 0, 1) := by decide +kernel
theorem dX1_copyFrom_45 : decode cX1_copyFrom 45 = .ok (.getfield 25, 3) := by decide +kernel
theorem dX1_copyFrom_48 : decode cX1_copyFrom 48 = .ok (.iconst 0, 1) := by decide +kernel
theorem dX1_copyFrom_49 : decode cX1_copyFrom 49 = .ok (.sipush 183, 3) := by decide +kernel
theorem dX1_copyFrom_52 : decode cX1_copyFrom 52 = .ok (.invokestatic 49, 3) := by decide +kernel
theorem dX1_copyFrom_55 : decode cX1_copyFrom 55 = .ok (.aload_n 0, 1) := by decide +kernel
theorem dX1_copyFrom_56 : decode cX1_copyFrom 56 = .ok (.aload_n 1, 1) := by decide +kernel
theorem dX1_copyFrom_57 : decode cX1_copyFrom 57 = .ok (.getfield 29, 3) := by decide +kernel
theorem dX1_copyFrom_60 : decode cX1_copyFrom 60 = .ok (.putfield 29, 3) := by decide +kernel
theorem dX1_copyFrom_63 : decode cX1_copyFrom 63 = .ok (.aload_n 0, 1) := by decide +kernel
theorem dX1_copyFrom_64 : decode cX1_copyFrom 64 = .ok (.aload_n 1, 1) := by decide +kernel
theorem dX1_copyFrom_65 : decode cX1_copyFrom 65 = .ok (.getfield 33, 3) := by decide +kernel
theorem dX1_copyFrom_68 : decode cX1_copyFrom 68 = .ok (.putfield 33, 3) := by decide +kernel
theorem dX1_copyFrom_71 : decode cX1_copyFrom 71 = .ok (.aload_n 0, 1) := by decide +kernel
theorem dX1_copyFrom_72 : decode cX1_copyFrom 72 = .ok (.aload_n 1, 1) := by decide +kernel
theorem dX1_copyFrom_73 : decode cX1_copyFrom 73 = .ok (.getfield 36, 3) := by decide +kernel
theorem dX1_copyFrom_76 : decode cX1_copyFrom 76 = .ok (.putfield 36, 3) := by decide +kernel
theorem dX1_copyFrom_79 : decode cX1_copyFrom 79 = .ok (.aload_n 0, 1) := by decide +kernel
theorem dX1_copyFrom_80 : decode cX1_copyFrom 80 = .ok (.aload_n 1, 1) := by decide +kernel
theorem dX1_copyFrom_81 : decode cX1_copyFrom 81 = .ok (.getfield 39, 3) := by decide +kernel
theorem dX1_copyFrom_84 : decode cX1_copyFrom 84 = .ok (.putfield 39, 3) := by decide +kernel
theorem dX1_copyFrom_87 : decode cX1_copyFrom 87 = .ok (.aload_n 0, 1) := by decide +kernel
theorem dX1_copyFrom_88 : decode cX1_copyFrom 88 = .ok (.aload_n 1, 1) := by decide +kernel
theorem dX1_copyFrom_89 : decode cX1_copyFrom 89 = .ok (.getfield 42, 3) := by decide +kernel
theorem dX1_copyFrom_92 : decode cX1_copyFrom 92 = .ok (.putfield 42, 3) := by decide +kernel
theorem dX1_copyFrom_95 : decode cX1_copyFrom 95 = .ok (.return_, 1) := by decide +kernel
theorem dX1_start_0 : decode cX1_start 0 = .ok (.aload_n 0, 1) := by decide +kernel
theorem dX1_start_1 : decode cX1_start 1 = .ok (.getfield 12, 3) := by decide +kernel
theorem dX1_start_4 : decode cX1_start 4 = .ok (.invokevirtual 55, 3) := by decide +kernel
theorem dX1_start_7 : decode cX1_start 7 = .ok (.iload_n 1, 1) := by decide +kernel
theorem dX1_start_8 : decode cX1_start 8 = .ok (.ifCond .ne 40, 3) := by decide +kernel
theorem dX1_start_11 : decode cX1_start 11 = .ok (.aload_n 0, 1) := by decide +kernel
theorem dX1_start_12 : decode cX1_start 12 = .ok (.getfield 12, 3) := by decide +kernel
theorem dX1_start_15 : decode cX1_start 15 = .ok (.iconst 1, 1) := by decide +kernel
theorem dX1_start_16 : decode cX1_start 16 = .ok (.iconst 0, 1) := by decide +kernel
theorem dX1_start_17 : decode cX1_start 17 = .ok (.invokevirtual 58, 3) := by decide +kernel
theorem dX1_start_20 : decode cX1_start 20 = .ok (.aload_n 0, 1) := by decide +kernel
theorem dX1_start_21 : decode cX1_start 21 = .ok (.getfield 12, 3) := by decide +kernel
theorem dX1_start_24 : decode cX1_start 24 = .ok (.iconst 2, 1) := by decide +kernel
theorem dX1_start_25 : decode cX1_start 25 = .ok (.iconst 0, 1) := by decide +kernel
theorem dX1_start_26 : decode cX1_start 26 = .ok (.invokevirtual 58, 3) := by decide +kernel
theorem dX1_start_29 : decode cX1_start 29 = .ok (.aload_n 0, 1) := by decide +kernel
theorem dX1_start_30 : decode cX1_start 30 = .ok (.getfield 12, 3) := by decide +kernel
theorem dX1_start_33 : decode cX1_start 33 = .ok (.iconst 5, 1) := by decide +kernel
theorem dX1_start_34 : decode cX1_start 34 = .ok (.iconst 2, 1) := by decide +kernel
theorem dX1_start_35 : decode cX1_start 35 = .ok (.invokevirtual 58, 3) := by decide +kernel
theorem dX1_start_38 : decode cX1_start 38 = .ok (.aload_n 0, 1) := by decide +kernel
theorem dX1_start_39 : decode cX1_start 39 = .ok (.getfield 12, 3) := by decide +kernel
theorem dX1_start_42 : decode cX1_start 42 = .ok (.bipush 6, 2) := by decide +kernel
theorem dX1_start_44 : decode cX1_start 44 = .ok (.iconst 2, 1) := by decide +kernel
theorem dX1_start_45 : decode cX1_start 45 = .ok (.invokevirtual 58, 3) := by decide +kernel
theorem dX1_start_48 : decode cX1_start 48 = .ok (.aload_n 0, 1) := by decide +kernel
theorem dX1_start_49 : decode cX1_start 49 = .ok (.getfield 18, 3) := by decide +kernel
theorem dX1_start_52 : decode cX1_start 52 = .ok (.aload_n 0, 1) := by decide +kernel
theorem dX1_start_53 : decode cX1_start 53 = .ok (.getfield 33, 3) := by decide +kernel
theorem dX1_start_56 : decode cX1_start 56 = .ok (.invokestatic 62, 3) := by decide +kernel
theorem dX1_start_59 : decode cX1_start 59 = .ok (.aload_n 0, 1) := by decide +kernel
theorem dX1_start_60 : decode cX1_start 60 = .ok (.invokevirtual 68, 3) := by decide +kernel
theorem dX1_start_63 : decode cX1_start 63 = .ok (.return_, 1) := by decide +kernel
theorem dX1_startFromHere_0 : decode cX1_startFromHere 0 = .ok (.aload_n 0, 1) := by decide +kernel
theorem dX1_startFromHere_1 : decode cX1_startFromHere 1 = .ok (.getfield 12, 3) := by decide +kernel
theorem dX1_startFromHere_4 : decode cX1_startFromHere 4 = .ok (.bipush (-6), 2) := by decide +kernel
theorem dX1_startFromHere_6 : decode cX1_startFromHere 6 = .ok (.putfield 71, 3) := by decide +kernel
theorem dX1_startFromHere_9 : decode cX1_startFromHere 9 = .ok (.aload_n 0, 1) := by decide +kernel
theorem dX1_startFromHere_10 : decode cX1_startFromHere 10 = .ok (.getfield 22, 3) := by decide +kernel
theorem dX1_startFromHere_13 : decode cX1_startFromHere 13 = .ok (.iconst 0, 1) := by decide +kernel
theorem dX1_startFromHere_14 : decode cX1_startFromHere 14 = .ok (.invokestatic 62, 3) := by decide +kernel
theorem dX1_startFromHere_17 : decode cX1_startFromHere 17 = .ok (.aload_n 0, 1) := by decide +kernel
theorem dX1_startFromHere_18 : decode cX1_startFromHere 18 = .ok (.iconst 0, 1) := by decide +kernel
theorem dX1_startFromHere_19 : decode cX1_startFromHere 19 = .ok (.putfield 36, 3) := by decide +kernel
theorem dX1_startFromHere_22 : decode cX1_startFromHere 22 = .ok (.aload_n 0, 1) := by decide +kernel
theorem dX1_startFromHere_23 : decode cX1_startFromHere 23 = .ok (.iconst 0, 1) := by decide +kernel
theorem dX1_startFromHere_24 : decode cX1_startFromHere 24 = .ok (.putfield 39, 3) := by decide +kernel
theorem dX1_startFromHere_27 : decode cX1_startFromHere 27 = .ok (.aload_n 0, 1) := by decide +kernel
theorem dX1_startFromHere_28 : decode cX1_startFromHere 28 = .ok (.iconst 0, 1) := by decide +kernel
theorem dX1_startFromHere_29 : decode cX1_startFromHere 29 = .ok (.putfield 29, 3) := by decide +kernel
theorem dX1_startFromHere_32 : decode cX1_startFromHere 32 = .ok (.aload_n 0, 1) := by decide +kernel
theorem dX1_startFromHere_33 : decode cX1_startFromHere 33 = .ok (.invokevirtual 74, 3) := by decide +kernel
theorem dX1_startFromHere_36 : decode cX1_startFromHere 36 = .ok (.aload_n 0, 1) := by decide +kernel
theorem dX1_startFromHere_37 : decode cX1_startFromHere 37 = .ok (.invokevirtual 77, 3) := by decide +kernel
theorem dX1_startFromHere_40 : decode cX1_startFromHere 40 = .ok (.return_, 1) := by decide +kernel
theorem dX1_makeHop_0 : decode cX1_makeHop 0 = .ok (.aload_n 0, 1) := by decide +kernel
theorem dX1_makeHop_1 : decode cX1_makeHop 1 = .ok (.getfield 12, 3) := by decide +kernel
theorem dX1_makeHop_4 : decode cX1_makeHop 4 = .ok (.getfield 80, 3) := by decide +kernel
theorem dX1_makeHop_7 : decode cX1_makeHop 7 = .ok (.istore 4, 2) := by decide +kernel
theorem dX1_makeHop_9 : decode cX1_makeHop 9 = .ok (.iload 4, 2) := by decide +kernel
theorem dX1_makeHop_11 : decode cX1_makeHop 11 = .ok (.invokestatic 83, 3) := by decide +kernel
theorem dX1_makeHop_14 : decode cX1_makeHop 14 = .ok (.ifCond .ne 4, 3) := by decide +kernel
theorem dX1_makeHop_17 : decode cX1_makeHop 17 = .ok (.return_, 1) := by decide +kernel
theorem dX1_makeHop_18 : decode cX1_makeHop 18 = .ok (.iload_n 3, 1) := by decide +kernel
theorem dX1_makeHop_19 : decode cX1_makeHop 19 = .ok (.aload_n 0, 1) := by decide +kernel
theorem dX1_makeHop_20 : decode cX1_makeHop 20 = .ok (.getfield 18, 3) := by decide +kernel
theorem dX1_makeHop_23 : decode cX1_makeHop 23 = .ok (.iload 4, 2) := by decide +kernel
theorem dX1_makeHop_25 : decode cX1_makeHop 25 = .ok (.iaload, 1) := by decide +kernel
theorem dX1_makeHop_26 : decode cX1_makeHop 26 = .ok (.if_icmp .le 23, 3) := by decide +kernel
theorem dX1_makeHop_29 : decode cX1_makeHop 29 = .ok (.aload_n 0, 1) := by decide +kernel
theorem dX1_makeHop_30 : decode cX1_makeHop 30 = .ok (.getfield 18, 3) := by decide +kernel
theorem dX1_makeHop_33 : decode cX1_makeHop 33 = .ok (.iload 4, 2) := by decide +kernel
theorem dX1_makeHop_35 : decode cX1_makeHop 35 = .ok (.iconst 0, 1) := by decide +kernel
theorem dX1_makeHop_36 : decode cX1_makeHop 36 = .ok (.iastore, 1) := by decide +kernel
theorem dX1_makeHop_37 : decode cX1_makeHop 37 = .ok (.aload_n 0, 1) := by decide +kernel
theorem dX1_makeHop_38 : decode cX1_makeHop 38 = .ok (.iconst 1, 1) := by decide +kernel
theorem dX1_makeHop_39 : decode cX1_makeHop 39 = .ok (.iload 4, 2) := by decide +kernel
theorem dX1_makeHop_41 : decode cX1_makeHop 41 = .ok (.isub, 1) := by decide +kernel
theorem dX1_makeHop_42 : decode cX1_makeHop 42 = .ok (.invokestatic 87, 3) := by decide +kernel
theorem dX1_makeHop_45 : decode cX1_makeHop 45 = .ok (.putfield 42, 3) := by decide +kernel
theorem dX1_makeHop_48 : decode cX1_makeHop 48 = .ok (.return_, 1) := by decide +kernel
theorem dX1_makeHop_49 : decode cX1_makeHop 49 = .ok (.aload_n 0, 1) := by decide +kernel
theorem dX1_makeHop_50 : decode cX1_makeHop 50 = .ok (.getfield 18, 3) := by decide +kernel
theorem dX1_makeHop_53 : decode cX1_makeHop 53 = .ok (.iload 4, 2) := by decide +kernel
theorem dX1_makeHop_55 : decode cX1_makeHop 55 = .ok (.dup2, 1) := by decide +kernel
theorem dX1_makeHop_56 : decode cX1_makeHop 56 = .ok (.iaload, 1) := by decide +kernel
theorem dX1_makeHop_57 : decode cX1_makeHop 57 = .ok (.iload_n 3, 1) := by decide +kernel
theorem dX1_makeHop_58 : decode cX1_makeHop 58 = .ok (.isub, 1) := by decide +kernel
theorem dX1_makeHop_59 : decode cX1_makeHop 59 = .ok (.iastore, 1) := by decide +kernel
theorem dX1_makeHop_60 : decode cX1_makeHop 60 = .ok (.aload_n 1, 1) := by decide +kernel
theorem dX1_makeHop_61 : decode cX1_makeHop 61 = .ok (.iload_n 2, 1) := by decide +kernel
theorem dX1_makeHop_62 : decode cX1_makeHop 62 = .ok (.invokevirtual 91, 3) := by decide +kernel
theorem dX1_makeHop_65 : decode cX1_makeHop 65 = .ok (.bipush (-6), 2) := by decide +kernel
theorem dX1_makeHop_67 : decode cX1_makeHop 67 = .ok (.if_icmp .eq 7, 3) := by decide +kernel
theorem dX1_makeHop_70 : decode cX1_makeHop 70 = .ok (.iconst 1, 1) := by decide +kernel
theorem dX1_makeHop_71 : decode cX1_makeHop 71 = .ok (.goto 4, 3) := by decide +kernel
theorem dX1_makeHop_74 : decode cX1_makeHop 74 = .ok (.iconst 0, 1) := by decide +kernel
theorem dX1_makeHop_75 : decode cX1_makeHop 75 = .ok (.istore 5, 2) := by decide +kernel
theorem dX1_makeHop_77 : decode cX1_makeHop 77 = .ok (.aload_n 0, 1) := by decide +kernel
theorem dX1_makeHop_78 : decode cX1_makeHop 78 = .ok (.getfield 12, 3) := by decide +kernel
theorem dX1_makeHop_81 : decode cX1_makeHop 81 = .ok (.aload_n 1, 1) := by decide +kernel
theorem dX1_makeHop_82 : decode cX1_makeHop 82 = .ok (.iload_n 2, 1) := by decide +kernel
theorem dX1_makeHop_83 : decode cX1_makeHop 83 = .ok (.invokevirtual 96, 3) := by decide +kernel
theorem dX1_makeHop_86 : decode cX1_makeHop 86 = .ok (.invokevirtual 99, 3) := by decide +kernel
theorem dX1_makeHop_89 : decode cX1_makeHop 89 = .ok (.invokestatic 102, 3) := by decide +kernel
theorem dX1_makeHop_92 : decode cX1_makeHop 92 = .ok (.ifCond .eq 12, 3) := by decide +kernel
theorem dX1_makeHop_95 : decode cX1_makeHop 95 = .ok (.iload 5, 2) := by decide +kernel
theorem dX1_makeHop_97 : decode cX1_makeHop 97 = .ok (.ifCond .ne 7, 3) := by decide +kernel
theorem dX1_makeHop_100 : decode cX1_makeHop 100 = .ok (.iconst 1, 1) := by decide +kernel
theorem dX1_makeHop_101 : decode cX1_makeHop 101 = .ok (.goto 4, 3) := by decide +kernel
theorem dX1_makeHop_104 : decode cX1_makeHop 104 = .ok (.iconst 0, 1) := by decide +kernel
theorem dX1_makeHop_105 : decode cX1_makeHop 105 = .ok (.istore 6, 2) := by decide +kernel
theorem dX1_makeHop_107 : decode cX1_makeHop 107 = .ok (.iload 5, 2) := by decide +kernel
theorem dX1_makeHop_109 : decode cX1_makeHop 109 = .ok (.ifCond .eq 16, 3) := by decide +kernel
theorem dX1_makeHop_112 : decode cX1_makeHop 112 = .ok (.aload_n 0, 1) := by decide +kernel
theorem dX1_makeHop_113 : decode cX1_makeHop 113 = .ok (.getfield 22, 3) := by decide +kernel
theorem dX1_makeHop_116 : decode cX1_makeHop 116 = .ok (.iconst 1, 1) := by decide +kernel
theorem dX1_makeHop_117 : decode cX1_makeHop 117 = .ok (.iload 4, 2) := by decide +kernel
theorem dX1_makeHop_119 : decode cX1_makeHop 119 = .ok (.isub, 1) := by decide +kernel
theorem dX1_makeHop_120 : decode cX1_makeHop 120 = .ok (.dup2, 1) := by decide +kernel
theorem dX1_makeHop_121 : decode cX1_makeHop 121 = .ok (.iaload, 1) := by decide +kernel
theorem dX1_makeHop_122 : decode cX1_makeHop 122 = .ok (.iconst 1, 1) := by decide +kernel
theorem dX1_makeHop_123 : decode cX1_makeHop 123 = .ok (.iadd, 1) := by decide +kernel
theorem dX1_makeHop_124 : decode cX1_makeHop 124 = .ok (.iastore, 1) := by decide +kernel
theorem dX1_makeHop_125 : decode cX1_makeHop 125 = .ok (.aload_n 0, 1) := by decide +kernel
theorem dX1_makeHop_126 : decode cX1_makeHop 126 = .ok (.getfield 12, 3) := by decide +kernel
theorem dX1_makeHop_129 : decode cX1_makeHop 129 = .ok (.aload_n 1, 1) := by decide +kernel
theorem dX1_makeHop_130 : decode cX1_makeHop 130 = .ok (.iload_n 2, 1) := by decide +kernel
theorem dX1_makeHop_131 : decode cX1_makeHop 131 = .ok (.invokevirtual 105, 3) := by decide +kernel
theorem dX1_makeHop_134 : decode cX1_makeHop 134 = .ok (.aload_n 0, 1) := by decide +kernel
theorem dX1_makeHop_135 : decode cX1_makeHop 135 = .ok (.dup, 1) := by decide +kernel
theorem dX1_makeHop_136 : decode cX1_makeHop 136 = .ok (.getfield 36, 3) := by decide +kernel
theorem dX1_makeHop_139 : decode cX1_makeHop 139 = .ok (.iconst 1, 1) := by decide +kernel
theorem dX1_makeHop_140 : decode cX1_makeHop 140 = .ok (.iadd, 1) := by decide +kernel
theorem dX1_makeHop_141 : decode cX1_makeHop 141 = .ok (.putfield 36, 3) := by decide +kernel
theorem dX1_makeHop_144 : decode cX1_makeHop 144 = .ok (.aload_n 0, 1) := by decide +kernel
theorem dX1_makeHop_145 : decode cX1_makeHop 145 = .ok (.iload 6, 2) := by decide +kernel
theorem dX1_makeHop_147 : decode cX1_makeHop 147 = .ok (.ifCond .eq 12, 3) := by decide +kernel
theorem dX1_makeHop_150 : decode cX1_makeHop 150 = .ok (.aload_n 0, 1) := by decide +kernel
theorem dX1_makeHop_151 : decode cX1_makeHop 151 = .ok (.getfield 39, 3) := by decide +kernel
theorem dX1_makeHop_154 : decode cX1_makeHop 154 = .ok (.iconst 1, 1) := by decide +kernel
theorem dX1_makeHop_155 : decode cX1_makeHop 155 = .ok (.iadd, 1) := by decide +kernel
theorem dX1_makeHop_156 : decode cX1_makeHop 156 = .ok (.goto 4, 3) := by decide +kernel
theorem dX1_makeHop_159 : decode cX1_makeHop 159 = .ok (.iconst 0, 1) := by decide +kernel
theorem dX1_makeHop_160 : decode cX1_makeHop 160 = .ok (.putfield 39, 3) := by decide +kernel
theorem dX1_makeHop_163 : decode cX1_makeHop 163 = .ok (.iload 6, 2) := by decide +kernel
theorem dX1_makeHop_165 : decode cX1_makeHop 165 = .ok (.ifCond .ne 8, 3) := by decide +kernel
theorem dX1_makeHop_168 : decode cX1_makeHop 168 = .ok (.aload_n 0, 1) := by decide +kernel
theorem dX1_makeHop_169 : decode cX1_makeHop 169 = .ok (.iconst 0, 1) := by decide +kernel
theorem dX1_makeHop_170 : decode cX1_makeHop 170 = .ok (.putfield 29, 3) := by decide +kernel
theorem dX1_makeHop_173 : decode cX1_makeHop 173 = .ok (.aload_n 0, 1) := by decide +kernel
theorem dX1_makeHop_174 : decode cX1_makeHop 174 = .ok (.invokevirtual 74, 3) := by decide +kernel
theorem dX1_makeHop_177 : decode cX1_makeHop 177 = .ok (.aload_n 0, 1) := by decide +kernel
theorem dX1_makeHop_178 : decode cX1_makeHop 178 = .ok (.invokevirtual 77, 3) := by decide +kernel
theorem dX1_makeHop_181 : decode cX1_makeHop 181 = .ok (.return_, 1) := by decide +kernel
theorem dX1_judge_0 : decode cX1_judge 0 = .ok (.aload_n 0, 1) := by decide +kernel
theorem dX1_judge_1 : decode cX1_judge 1 = .ok (.getfield 12, 3) := by decide +kernel
theorem dX1_judge_4 : decode cX1_judge 4 = .ok (.invokevirtual 109, 3) := by decide +kernel
theorem dX1_judge_7 : decode cX1_judge 7 = .ok (.ifCond .ne 22, 3) := by decide +kernel
theorem dX1_judge_10 : decode cX1_judge 10 = .ok (.aload_n 0, 1) := by decide +kernel
theorem dX1_judge_11 : decode cX1_judge 11 = .ok (.iconst 1, 1) := by decide +kernel
theorem dX1_judge_12 : decode cX1_judge 12 = .ok (.aload_n 0, 1) := by decide +kernel
theorem dX1_judge_13 : decode cX1_judge 13 = .ok (.getfield 12, 3) := by decide +kernel
theorem dX1_judge_16 : decode cX1_judge 16 = .ok (.getfield 80, 3) := by decide +kernel
theorem dX1_judge_19 : decode cX1_judge 19 = .ok (.isub, 1) := by decide +kernel
theorem dX1_judge_20 : decode cX1_judge 20 = .ok (.invokestatic 87, 3) := by decide +kernel
theorem dX1_judge_23 : decode cX1_judge 23 = .ok (.putfield 42, 3) := by decide +kernel
theorem dX1_judge_26 : decode cX1_judge 26 = .ok (.goto 33, 3) := by decide +kernel
theorem dX1_judge_29 : decode cX1_judge 29 = .ok (.aload_n 0, 1) := by decide +kernel
theorem dX1_judge_30 : decode cX1_judge 30 = .ok (.invokevirtual 113, 3) := by decide +kernel
theorem dX1_judge_33 : decode cX1_judge 33 = .ok (.iconst 3, 1) := by decide +kernel
theorem dX1_judge_34 : decode cX1_judge 34 = .ok (.if_icmp .ge 12, 3) := by decide +kernel
theorem dX1_judge_37 : decode cX1_judge 37 = .ok (.aload_n 0, 1) := by decide +kernel
theorem dX1_judge_38 : decode cX1_judge 38 = .ok (.getfield 39, 3) := by decide +kernel
theorem dX1_judge_41 : decode cX1_judge 41 = .ok (.bipush 60, 2) := by decide +kernel
theorem dX1_judge_43 : decode cX1_judge 43 = .ok (.if_icmp .lt 11, 3) := by decide +kernel
theorem dX1_judge_46 : decode cX1_judge 46 = .ok (.aload_n 0, 1) := by decide +kernel
theorem dX1_judge_47 : decode cX1_judge 47 = .ok (.iconst 3, 1) := by decide +kernel
theorem dX1_judge_48 : decode cX1_judge 48 = .ok (.putfield 42, 3) := by decide +kernel
theorem dX1_judge_51 : decode cX1_judge 51 = .ok (.goto 8, 3) := by decide +kernel
theorem dX1_judge_54 : decode cX1_judge 54 = .ok (.aload_n 0, 1) := by decide +kernel
theorem dX1_judge_55 : decode cX1_judge 55 = .ok (.iconst 0, 1) := by decide +kernel
theorem dX1_judge_56 : decode cX1_judge 56 = .ok (.putfield 42, 3) := by decide +kernel
theorem dX1_judge_59 : decode cX1_judge 59 = .ok (.return_, 1) := by decide +kernel
theorem dX1_keepPosition_0 : decode cX1_keepPosition 0 = .ok (.aload_n 0, 1) := by decide +kernel
theorem dX1_keepPosition_1 : decode cX1_keepPosition 1 = .ok (.getfield 29, 3) := by decide +kernel
theorem dX1_keepPosition_4 : decode cX1_keepPosition 4 = .ok (.iconst 3, 1) := by decide +kernel
theorem dX1_keepPosition_5 : decode cX1_keepPosition 5 = .ok (.imul, 1) := by decide +kernel
theorem dX1_keepPosition_6 : decode cX1_keepPosition 6 = .ok (.istore_n 1, 1) := by decide +kernel
theorem dX1_keepPosition_7 : decode cX1_keepPosition 7 = .ok (.iload_n 1, 1) := by decide +kernel
theorem dX1_keepPosition_8 : decode cX1_keepPosition 8 = .ok (.ifCond .lt 14, 3) := by decide +kernel
theorem dX1_keepPosition_11 : decode cX1_keepPosition 11 = .ok (.iload_n 1, 1) := by decide +kernel
theorem dX1_keepPosition_12 : decode cX1_keepPosition 12 = .ok (.iconst 3, 1) := by decide +kernel
theorem dX1_keepPosition_13 : decode cX1_keepPosition 13 = .ok (.iadd, 1) := by decide +kernel
theorem dX1_keepPosition_14 : decode cX1_keepPosition 14 = .ok (.aload_n 0, 1) := by decide +kernel
theorem dX1_keepPosition_15 : decode cX1_keepPosition 15 = .ok (.getfield 25, 3) := by decide +kernel
theorem dX1_keepPosition_18 : decode cX1_keepPosition 18 = .ok (.arraylength, 1) := by decide +kernel
theorem dX1_keepPosition_19 : decode cX1_keepPosition 19 = .ok (.if_icmp .le 4, 3) := by decide +kernel
theorem dX1_keepPosition_22 : decode cX1_keepPosition 22 = .ok (.return_, 1) := by decide +kernel
theorem dX1_keepPosition_23 : decode cX1_keepPosition 23 = .ok (.iconst 0, 1) := by decide +kernel
theorem dX1_keepPosition_24 : decode cX1_keepPosition 24 = .ok (.istore_n 2, 1) := by decide +kernel
theorem dX1_keepPosition_25 : decode cX1_keepPosition 25 = .ok (.iload_n 2, 1) := by decide +kernel
theorem dX1_keepPosition_26 : decode cX1_keepPosition 26 = .ok (.iconst 3, 1) := by decide +kernel
theorem dX1_keepPosition_27 : decode cX1_keepPosition 27 = .ok (.if_icmp .ge 25, 3) := by decide +kernel
theorem dX1_keepPosition_30 : decode cX1_keepPosition 30 = .ok (.aload_n 0, 1) := by decide +kernel
theorem dX1_keepPosition_31 : decode cX1_keepPosition 31 = .ok (.getfield 25, 3) := by decide +kernel
theorem dX1_keepPosition_34 : decode cX1_keepPosition 34 = .ok (.iload_n 1, 1) := by decide +kernel
theorem dX1_keepPosition_35 : decode cX1_keepPosition 35 = .ok (.iload_n 2, 1) := by decide +kernel
theorem dX1_keepPosition_36 : decode cX1_keepPosition 36 = .ok (.iadd, 1) := by decide +kernel
theorem dX1_keepPosition_37 : decode cX1_keepPosition 37 = .ok (.aload_n 0, 1) := by decide +kernel
theorem dX1_keepPosition_38 : decode cX1_keepPosition 38 = .ok (.getfield 12, 3) := by decide +kernel
theorem dX1_keepPosition_41 : decode cX1_keepPosition 41 = .ok (.iload_n 2, 1) := by decide +kernel
theorem dX1_keepPosition_42 : decode cX1_keepPosition 42 = .ok (.invokevirtual 117, 3) := by decide +kernel
theorem dX1_keepPosition_45 : decode cX1_keepPosition 45 = .ok (.lastore, 1) := by decide +kernel
theorem dX1_keepPosition_46 : decode cX1_keepPosition 46 = .ok (.iinc 2 1, 3) := by decide +kernel
theorem dX1_keepPosition_49 : decode cX1_keepPosition 49 = .ok (.goto (-24), 3) := by decide +kernel
theorem dX1_keepPosition_52 : decode cX1_keepPosition 52 = .ok (.aload_n 0, 1) := by decide +kernel
theorem dX1_keepPosition_53 : decode cX1_keepPosition 53 = .ok (.dup, 1) := by decide +kernel
theorem dX1_keepPosition_54 : decode cX1_keepPosition 54 = .ok (.getfield 29, 3) := by decide +kernel
theorem dX1_keepPosition_57 : decode cX1_keepPosition 57 = .ok (.iconst 1, 1) := by decide +kernel
theorem dX1_keepPosition_58 : decode cX1_keepPosition 58 = .ok (.iadd, 1) := by decide +kernel
theorem dX1_keepPosition_59 : decode cX1_keepPosition 59 = .ok (.putfield 29, 3) := by decide +kernel
theorem dX1_keepPosition_62 : decode cX1_keepPosition 62 = .ok (.return_, 1) := by decide +kernel
theorem dX1_timesOfNow_0 : decode cX1_timesOfNow 0 = .ok (.iconst 0, 1) := by decide +kernel
theorem dX1_timesOfNow_1 : decode cX1_timesOfNow 1 = .ok (.istore_n 1, 1) := by decide +kernel
theorem dX1_timesOfNow_2 : decode cX1_timesOfNow 2 = .ok (.iconst 0, 1) := by decide +kernel
theorem dX1_timesOfNow_3 : decode cX1_timesOfNow 3 = .ok (.istore_n 2, 1) := by decide +kernel
theorem dX1_timesOfNow_4 : decode cX1_timesOfNow 4 = .ok (.iload_n 2, 1) := by decide +kernel
theorem dX1_timesOfNow_5 : decode cX1_timesOfNow 5 = .ok (.aload_n 0, 1) := by decide +kernel
theorem dX1_timesOfNow_6 : decode cX1_timesOfNow 6 = .ok (.getfield 29, 3) := by decide +kernel
theorem dX1_timesOfNow_9 : decode cX1_timesOfNow 9 = .ok (.if_icmp .ge 26, 3) := by decide +kernel
theorem dX1_timesOfNow_12 : decode cX1_timesOfNow 12 = .ok (.aload_n 0, 1) := by decide +kernel
theorem dX1_timesOfNow_13 : decode cX1_timesOfNow 13 = .ok (.iload_n 2, 1) := by decide +kernel
theorem dX1_timesOfNow_14 : decode cX1_timesOfNow 14 = .ok (.aload_n 0, 1) := by decide +kernel
theorem dX1_timesOfNow_15 : decode cX1_timesOfNow 15 = .ok (.getfield 29, 3) := by decide +kernel
theorem dX1_timesOfNow_18 : decode cX1_timesOfNow 18 = .ok (.iconst 1, 1) := by decide +kernel
theorem dX1_timesOfNow_19 : decode cX1_timesOfNow 19 = .ok (.isub, 1) := by decide +kernel
theorem dX1_timesOfNow_20 : decode cX1_timesOfNow 20 = .ok (.invokevirtual 121, 3) := by decide +kernel
theorem dX1_timesOfNow_23 : decode cX1_timesOfNow 23 = .ok (.ifCond .eq 6, 3) := by decide +kernel
theorem dX1_timesOfNow_26 : decode cX1_timesOfNow 26 = .ok (.iinc 1 1, 3) := by decide +kernel
theorem dX1_timesOfNow_29 : decode cX1_timesOfNow 29 = .ok (.iinc 2 1, 3) := by decide +kernel
theorem dX1_timesOfNow_32 : decode cX1_timesOfNow 32 = .ok (.goto (-28), 3) := by decide +kernel
theorem dX1_timesOfNow_35 : decode cX1_timesOfNow 35 = .ok (.iload_n 1, 1) := by decide +kernel
theorem dX1_timesOfNow_36 : decode cX1_timesOfNow 36 = .ok (.ireturn, 1) := by decide +kernel
theorem dX1_isSamePosition_0 : decode cX1_isSamePosition 0 = .ok (.iload_n 1, 1) := by decide +kernel
theorem dX1_isSamePosition_1 : decode cX1_isSamePosition 1 = .ok (.iload_n 2, 1) := by decide +kernel
theorem dX1_isSamePosition_2 : decode cX1_isSamePosition 2 = .ok (.invokestatic 125, 3) := by decide +kernel
theorem dX1_isSamePosition_5 : decode cX1_isSamePosition 5 = .ok (.iconst 3, 1) := by decide +kernel
theorem dX1_isSamePosition_6 : decode cX1_isSamePosition 6 = .ok (.imul, 1) := by decide +kernel
theorem dX1_isSamePosition_7 : decode cX1_isSamePosition 7 = .ok (.istore_n 3, 1) := by decide +kernel
theorem dX1_isSamePosition_8 : decode cX1_isSamePosition 8 = .ok (.iload_n 1, 1) := by decide +kernel
theorem dX1_isSamePosition_9 : decode cX1_isSamePosition 9 = .ok (.iload_n 2, 1) := by decide +kernel
theorem dX1_isSamePosition_10 : decode cX1_isSamePosition 10 = .ok (.invokestatic 131, 3) := by decide +kernel
theorem dX1_isSamePosition_13 : decode cX1_isSamePosition 13 = .ok (.iconst 3, 1) := by decide +kernel
theorem dX1_isSamePosition_14 : decode cX1_isSamePosition 14 = .ok (.imul, 1) := by decide +kernel
theorem dX1_isSamePosition_15 : decode cX1_isSamePosition 15 = .ok (.istore 4, 2) := by decide +kernel
theorem dX1_isSamePosition_17 : decode cX1_isSamePosition 17 = .ok (.iload_n 3, 1) := by decide +kernel
theorem dX1_isSamePosition_18 : decode cX1_isSamePosition 18 = .ok (.ifCond .lt 15, 3) := by decide +kernel
theorem dX1_isSamePosition_21 : decode cX1_isSamePosition 21 = .ok (.iload 4, 2) := by decide +kernel
theorem dX1_isSamePosition_23 : decode cX1_isSamePosition 23 = .ok (.iconst 3, 1) := by decide +kernel
theorem dX1_isSamePosition_24 : decode cX1_isSamePosition 24 = .ok (.iadd, 1) := by decide +kernel
theorem dX1_isSamePosition_25 : decode cX1_isSamePosition 25 = .ok (.aload_n 0, 1) := by decide +kernel
theorem dX1_isSamePosition_26 : decode cX1_isSamePosition 26 = .ok (.getfield 25, 3) := by decide +kernel
theorem dX1_isSamePosition_29 : decode cX1_isSamePosition 29 = .ok (.arraylength, 1) := by decide +kernel
theorem dX1_isSamePosition_30 : decode cX1_isSamePosition 30 = .ok (.if_icmp .le 5, 3) := by decide +kernel
theorem dX1_isSamePosition_33 : decode cX1_isSamePosition 33 = .ok (.iconst 0, 1) := by decide +kernel
theorem dX1_isSamePosition_34 : decode cX1_isSamePosition 34 = .ok (.ireturn, 1) := by decide +kernel
theorem dX1_isSamePosition_35 : decode cX1_isSamePosition 35 = .ok (.iconst 0, 1) := by decide +kernel
theorem dX1_isSamePosition_36 : decode cX1_isSamePosition 36 = .ok (.istore 5, 2) := by decide +kernel
theorem dX1_isSamePosition_38 : decode cX1_isSamePosition 38 = .ok (.iload 5, 2) := by decide +kernel
theorem dX1_isSamePosition_40 : decode cX1_isSamePosition 40 = .ok (.iconst 3, 1) := by decide +kernel
theorem dX1_isSamePosition_41 : decode cX1_isSamePosition 41 = .ok (.if_icmp .ge 34, 3) := by decide +kernel
theorem dX1_isSamePosition_44 : decode cX1_isSamePosition 44 = .ok (.aload_n 0, 1) := by decide +kernel
theorem dX1_isSamePosition_45 : decode cX1_isSamePosition 45 = .ok (.getfield 25, 3) := by decide +kernel
theorem dX1_isSamePosition_48 : decode cX1_isSamePosition 48 = .ok (.iload_n 3, 1) := by decide +kernel
theorem dX1_isSamePosition_49 : decode cX1_isSamePosition 49 = .ok (.iload 5, 2) := by decide +kernel
theorem dX1_isSamePosition_51 : decode cX1_isSamePosition 51 = .ok (.iadd, 1) := by decide +kernel
theorem dX1_isSamePosition_52 : decode cX1_isSamePosition 52 = .ok (.laload, 1) := by decide +kernel
theorem dX1_isSamePosition_53 : decode cX1_isSamePosition 53 = .ok (.aload_n 0, 1) := by decide +kernel
theorem dX1_isSamePosition_54 : decode cX1_isSamePosition 54 = .ok (.getfield 25, 3) := by decide +kernel
theorem dX1_isSamePosition_57 : decode cX1_isSamePosition 57 = .ok (.iload 4, 2) := by decide +kernel
theorem dX1_isSamePosition_59 : decode cX1_isSamePosition 59 = .ok (.iload 5, 2) := by decide +kernel
theorem dX1_isSamePosition_61 : decode cX1_isSamePosition 61 = .ok (.iadd, 1) := by decide +kernel
theorem dX1_isSamePosition_62 : decode cX1_isSamePosition 62 = .ok (.laload, 1) := by decide +kernel
theorem dX1_isSamePosition_63 : decode cX1_isSamePosition 63 = .ok (.lcmp, 1) := by decide +kernel
theorem dX1_isSamePosition_64 : decode cX1_isSamePosition 64 = .ok (.ifCond .eq 5, 3) := by decide +kernel
theorem dX1_isSamePosition_67 : decode cX1_isSamePosition 67 = .ok (.iconst 0, 1) := by decide +kernel
theorem dX1_isSamePosition_68 : decode cX1_isSamePosition 68 = .ok (.ireturn, 1) := by decide +kernel
theorem dX1_isSamePosition_69 : decode cX1_isSamePosition 69 = .ok (.iinc 5 1, 3) := by decide +kernel
theorem dX1_isSamePosition_72 : decode cX1_isSamePosition 72 = .ok (.goto (-34), 3) := by decide +kernel
theorem dX1_isSamePosition_75 : decode cX1_isSamePosition 75 = .ok (.iconst 1, 1) := by decide +kernel
theorem dX1_isSamePosition_76 : decode cX1_isSamePosition 76 = .ok (.ireturn, 1) := by decide +kernel
theorem dX2_init_0 : decode cX2_init 0 = .ok (.aload_n 0, 1) := by decide +kernel
theorem dX2_init_1 : decode cX2_init 1 = .ok (.invokespecial 3, 3) := by decide +kernel
theorem dX2_init_4 : decode cX2_init 4 = .ok (.aload_n 0, 1) := by decide +kernel
theorem dX2_init_5 : decode cX2_init 5 = .ok (.bipush 6, 2) := by decide +kernel
theorem dX2_init_7 : decode cX2_init 7 = .ok (.anewarray 9, 3) := by decide +kernel
theorem dX2_init_10 : decode cX2_init 10 = .ok (.putfield 11, 3) := by decide +kernel
theorem dX2_init_13 : decode cX2_init 13 = .ok (.aload_n 0, 1) := by decide +kernel
theorem dX2_init_14 : decode cX2_init 14 = .ok (.iconst 0, 1) := by decide +kernel
theorem dX2_init_15 : decode cX2_init 15 = .ok (.putfield 17, 3) := by decide +kernel
theorem dX2_init_18 : decode cX2_init 18 = .ok (.return_, 1) := by decide +kernel
theorem dX2_keep_0 : decode cX2_keep 0 = .ok (.aload_n 0, 1) := by decide +kernel
theorem dX2_keep_1 : decode cX2_keep 1 = .ok (.getfield 17, 3) := by decide +kernel
theorem dX2_keep_4 : decode cX2_keep 4 = .ok (.bipush 6, 2) := by decide +kernel
theorem dX2_keep_6 : decode cX2_keep 6 = .ok (.if_icmp .lt 7, 3) := by decide +kernel
theorem dX2_keep_9 : decode cX2_keep 9 = .ok (.aload_n 0, 1) := by decide +kernel
theorem dX2_keep_10 : decode cX2_keep 10 = .ok (.invokevirtual 21, 3) := by decide +kernel
theorem dX2_keep_13 : decode cX2_keep 13 = .ok (.aload_n 0, 1) := by decide +kernel
theorem dX2_keep_14 : decode cX2_keep 14 = .ok (.getfield 17, 3) := by decide +kernel
theorem dX2_keep_17 : decode cX2_keep 17 = .ok (.ifCond .lt 12, 3) := by decide +kernel
theorem dX2_keep_20 : decode cX2_keep 20 = .ok (.aload_n 0, 1) := by decide +kernel
theorem dX2_keep_21 : decode cX2_keep 21 = .ok (.getfield 17, 3) := by decide +kernel
theorem dX2_keep_24 : decode cX2_keep 24 = .ok (.bipush 6, 2) := by decide +kernel
theorem dX2_keep_26 : decode cX2_keep 26 = .ok (.if_icmp .lt 4, 3) := by decide +kernel
theorem dX2_keep_29 : decode cX2_keep 29 = .ok (.return_, 1) := by decide +kernel
theorem dX2_keep_30 : decode cX2_keep 30 = .ok (.aload_n 0, 1) := by decide +kernel
theorem dX2_keep_31 : decode cX2_keep 31 = .ok (.getfield 11, 3) := by decide +kernel
theorem dX2_keep_34 : decode cX2_keep 34 = .ok (.aload_n 0, 1) := by decide +kernel
theorem dX2_keep_35 : decode cX2_keep 35 = .ok (.getfield 17, 3) := by decide +kernel
theorem dX2_keep_38 : decode cX2_keep 38 = .ok (.aaload, 1) := by decide +kernel
theorem dX2_keep_39 : decode cX2_keep 39 = .ok (.astore_n 2, 1) := by decide +kernel
theorem dX2_keep_40 : decode cX2_keep 40 = .ok (.aload_n 2, 1) := by decide +kernel
theorem dX2_keep_41 : decode cX2_keep 41 = .ok (.ifnonnull 21, 3) := by decide +kernel
theorem dX2_keep_44 : decode cX2_keep 44 = .ok (.new 9, 3) := by decide +kernel
theorem dX2_keep_47 : decode cX2_keep 47 = .ok (.dup, 1) := by decide +kernel
theorem dX2_keep_48 : decode cX2_keep 48 = .ok (.invokespecial 24, 3) := by decide +kernel
theorem dX2_keep_51 : decode cX2_keep 51 = .ok (.astore_n 2, 1) := by decide +kernel
theorem dX2_keep_52 : decode cX2_keep 52 = .ok (.aload_n 0, 1) := by decide +kernel
theorem dX2_keep_53 : decode cX2_keep 53 = .ok (.getfield 11, 3) := by decide +kernel
theorem dX2_keep_56 : decode cX2_keep 56 = .ok (.aload_n 0, 1) := by decide +kernel
theorem dX2_keep_57 : decode cX2_keep 57 = .ok (.getfield 17, 3) := by decide +kernel
theorem dX2_keep_60 : decode cX2_keep 60 = .ok (.aload_n 2, 1) := by decide +kernel
theorem dX2_keep_61 : decode cX2_keep 61 = .ok (.aastore, 1) := by decide +kernel
theorem dX2_keep_62 : decode cX2_keep 62 = .ok (.aload_n 2, 1) := by decide +kernel
theorem dX2_keep_63 : decode cX2_keep 63 = .ok (.aload_n 1, 1) := by decide +kernel
theorem dX2_keep_64 : decode cX2_keep 64 = .ok (.invokevirtual 25, 3) := by decide +kernel
theorem dX2_keep_67 : decode cX2_keep 67 = .ok (.aload_n 0, 1) := by decide +kernel
theorem dX2_keep_68 : decode cX2_keep 68 = .ok (.dup, 1) := by decide +kernel
theorem dX2_keep_69 : decode cX2_keep 69 = .ok (.getfield 17, 3) := by decide +kernel
theorem dX2_keep_72 : decode cX2_keep 72 = .ok (.iconst 1, 1) := by decide +kernel
theorem dX2_keep_73 : decode cX2_keep 73 = .ok (.iadd, 1) := by decide +kernel
theorem dX2_keep_74 : decode cX2_keep 74 = .ok (.putfield 17, 3) := by decide +kernel
theorem dX2_keep_77 : decode cX2_keep 77 = .ok (.return_, 1) := by decide +kernel
theorem dX2_dropOldest_0 : decode cX2_dropOldest 0 = .ok (.aload_n 0, 1) := by decide +kernel
theorem dX2_dropOldest_1 : decode cX2_dropOldest 1 = .ok (.getfield 11, 3) := by decide +kernel
theorem dX2_dropOldest_4 : decode cX2_dropOldest 4 = .ok (.iconst 0, 1) := by decide +kernel
theorem dX2_dropOldest_5 : decode cX2_dropOldest 5 = .ok (.aaload, 1) := by decide +kernel
theorem dX2_dropOldest_6 : decode cX2_dropOldest 6 = .ok (.astore_n 1, 1) := by decide +kernel
theorem dX2_dropOldest_7 : decode cX2_dropOldest 7 = .ok (.iconst 1, 1) := by decide +kernel
theorem dX2_dropOldest_8 : decode cX2_dropOldest 8 = .ok (.istore_n 2, 1) := by decide +kernel
theorem dX2_dropOldest_9 : decode cX2_dropOldest 9 = .ok (.iload_n 2, 1) := by decide +kernel
theorem dX2_dropOldest_10 : decode cX2_dropOldest 10 = .ok (.bipush 6, 2) := by decide +kernel
theorem dX2_dropOldest_12 : decode cX2_dropOldest 12 = .ok (.if_icmp .ge 23, 3) := by decide +kernel
theorem dX2_dropOldest_15 : decode cX2_dropOldest 15 = .ok (.aload_n 0, 1) := by decide +kernel
theorem dX2_dropOldest_16 : decode cX2_dropOldest 16 = .ok (.getfield 11, 3) := by decide +kernel
theorem dX2_dropOldest_19 : decode cX2_dropOldest 19 = .ok (.iload_n 2, 1) := by decide +kernel
theorem dX2_dropOldest_20 : decode cX2_dropOldest 20 = .ok (.iconst 1, 1) := by decide +kernel
theorem dX2_dropOldest_21 : decode cX2_dropOldest 21 = .ok (.isub, 1) := by decide +kernel
theorem dX2_dropOldest_22 : decode cX2_dropOldest 22 = .ok (.aload_n 0, 1) := by decide +kernel
theorem dX2_dropOldest_23 : decode cX2_dropOldest 23 = .ok (.getfield 11, 3) := by decide +kernel
theorem dX2_dropOldest_26 : decode cX2_dropOldest 26 = .ok (.iload_n 2, 1) := by decide +kernel
theorem dX2_dropOldest_27 : decode cX2_dropOldest 27 = .ok (.aaload, 1) := by decide +kernel
theorem dX2_dropOldest_28 : decode cX2_dropOldest 28 = .ok (.aastore, 1) := by decide +kernel
theorem dX2_dropOldest_29 : decode cX2_dropOldest 29 = .ok (.iinc 2 1, 3) := by decide +kernel
theorem dX2_dropOldest_32 : decode cX2_dropOldest 32 = .ok (.goto (-23), 3) := by decide +kernel
theorem dX2_dropOldest_35 : decode cX2_dropOldest 35 = .ok (.aload_n 0, 1) := by decide +kernel
theorem dX2_dropOldest_36 : decode cX2_dropOldest 36 = .ok (.getfield 11, 3) := by decide +kernel
theorem dX2_dropOldest_39 : decode cX2_dropOldest 39 = .ok (.iconst 5, 1) := by decide +kernel
theorem dX2_dropOldest_40 : decode cX2_dropOldest 40 = .ok (.aload_n 1, 1) := by decide +kernel
theorem dX2_dropOldest_41 : decode cX2_dropOldest 41 = .ok (.aastore, 1) := by decide +kernel
theorem dX2_dropOldest_42 : decode cX2_dropOldest 42 = .ok (.aload_n 0, 1) := by decide +kernel
theorem dX2_dropOldest_43 : decode cX2_dropOldest 43 = .ok (.iconst 5, 1) := by decide +kernel
theorem dX2_dropOldest_44 : decode cX2_dropOldest 44 = .ok (.putfield 17, 3) := by decide +kernel
theorem dX2_dropOldest_47 : decode cX2_dropOldest 47 = .ok (.return_, 1) := by decide +kernel
theorem dX2_takeBack_0 : decode cX2_takeBack 0 = .ok (.aload_n 0, 1) := by decide +kernel
theorem dX2_takeBack_1 : decode cX2_takeBack 1 = .ok (.getfield 17, 3) := by decide +kernel
theorem dX2_takeBack_4 : decode cX2_takeBack 4 = .ok (.iconst 1, 1) := by decide +kernel
theorem dX2_takeBack_5 : decode cX2_takeBack 5 = .ok (.if_icmp .lt 12, 3) := by decide +kernel
theorem dX2_takeBack_8 : decode cX2_takeBack 8 = .ok (.aload_n 0, 1) := by decide +kernel
theorem dX2_takeBack_9 : decode cX2_takeBack 9 = .ok (.getfield 17, 3) := by decide +kernel
theorem dX2_takeBack_12 : decode cX2_takeBack 12 = .ok (.bipush 6, 2) := by decide +kernel
theorem dX2_takeBack_14 : decode cX2_takeBack 14 = .ok (.if_icmp .le 4, 3) := by decide +kernel
theorem dX2_takeBack_17 : decode cX2_takeBack 17 = .ok (.return_, 1) := by decide +kernel
theorem dX2_takeBack_18 : decode cX2_takeBack 18 = .ok (.aload_n 0, 1) := by decide +kernel
theorem dX2_takeBack_19 : decode cX2_takeBack 19 = .ok (.getfield 11, 3) := by decide +kernel
theorem dX2_takeBack_22 : decode cX2_takeBack 22 = .ok (.aload_n 0, 1) := by decide +kernel
theorem dX2_takeBack_23 : decode cX2_takeBack 23 = .ok (.getfield 17, 3) := by decide +kernel
theorem dX2_takeBack_26 : decode cX2_takeBack 26 = .ok (.iconst 1, 1) := by decide +kernel
theorem dX2_takeBack_27 : decode cX2_takeBack 27 = .ok (.isub, 1) := by decide +kernel
theorem dX2_takeBack_28 : decode cX2_takeBack 28 = .ok (.aaload, 1) := by decide +kernel
theorem dX2_takeBack_29 : decode cX2_takeBack 29 = .ok (.astore_n 2, 1) := by decide +kernel
theorem dX2_takeBack_30 : decode cX2_takeBack 30 = .ok (.aload_n 2, 1) := by decide +kernel
theorem dX2_takeBack_31 : decode cX2_takeBack 31 = .ok (.ifnonnull 4, 3) := by decide +kernel
theorem dX2_takeBack_34 : decode cX2_takeBack 34 = .ok (.return_, 1) := by decide +kernel
theorem dX2_takeBack_35 : decode cX2_takeBack 35 = .ok (.aload_n 1, 1) := by decide +kernel
theorem dX2_takeBack_36 : decode cX2_takeBack 36 = .ok (.aload_n 2, 1) := by decide +kernel
theorem dX2_takeBack_37 : decode cX2_takeBack 37 = .ok (.invokevirtual 25, 3) := by decide +kernel
theorem dX2_takeBack_40 : decode cX2_takeBack 40 = .ok (.aload_n 0, 1) := by decide +kernel
theorem dX2_takeBack_41 : decode cX2_takeBack 41 = .ok (.dup, 1) := by decide +kernel
theorem dX2_takeBack_42 : decode cX2_takeBack 42 = .ok (.getfield 17, 3) := by decide +kernel
theorem dX2_takeBack_45 : decode cX2_takeBack 45 = .ok (.iconst 1, 1) := by decide +kernel
theorem dX2_takeBack_46 : decode cX2_takeBack 46 = .ok (.isub, 1) := by decide +kernel
theorem dX2_takeBack_47 : decode cX2_takeBack 47 = .ok (.putfield 17, 3) := by decide +kernel
theorem dX2_takeBack_50 : decode cX2_takeBack 50 = .ok (.return_, 1) := by decide +kernel
theorem dX3_init_0 : decode cX3_init 0 = .ok (.aload_n 0, 1) := by decide +kernel
theorem dX3_init_1 : decode cX3_init 1 = .ok (.invokespecial 3, 3) := by decide +kernel
theorem dX3_init_4 : decode cX3_init 4 = .ok (.aload_n 0, 1) := by decide +kernel
theorem dX3_init_5 : decode cX3_init 5 = .ok (.sipush 192, 3) := by decide +kernel
theorem dX3_init_8 : decode cX3_init 8 = .ok (.newarray .int, 2) := by decide +kernel
theorem dX3_init_10 : decode cX3_init 10 = .ok (.putfield 11, 3) := by decide +kernel
theorem dX3_init_13 : decode cX3_init 13 = .ok (.aload_n 0, 1) := by decide +kernel
theorem dX3_init_14 : decode cX3_init 14 = .ok (.sipush 192, 3) := by decide +kernel
theorem dX3_init_17 : decode cX3_init 17 = .ok (.newarray .int, 2) := by decide +kernel
theorem dX3_init_19 : decode cX3_init 19 = .ok (.putfield 15, 3) := by decide +kernel
theorem dX3_init_22 : decode cX3_init 22 = .ok (.aload_n 0, 1) := by decide +kernel
theorem dX3_init_23 : decode cX3_init 23 = .ok (.sipush 192, 3) := by decide +kernel
theorem dX3_init_26 : decode cX3_init 26 = .ok (.newarray .int, 2) := by decide +kernel
theorem dX3_init_28 : decode cX3_init 28 = .ok (.putfield 18, 3) := by decide +kernel
theorem dX3_init_31 : decode cX3_init 31 = .ok (.aload_n 0, 1) := by decide +kernel
theorem dX3_init_32 : decode cX3_init 32 = .ok (.sipush 192, 3) := by decide +kernel
theorem dX3_init_35 : decode cX3_init 35 = .ok (.newarray .int, 2) := by decide +kernel
theorem dX3_init_37 : decode cX3_init 37 = .ok (.putfield 21, 3) := by decide +kernel
theorem dX3_init_40 : decode cX3_init 40 = .ok (.aload_n 0, 1) := by decide +kernel
theorem dX3_init_41 : decode cX3_init 41 = .ok (.sipush 192, 3) := by decide +kernel
theorem dX3_init_44 : decode cX3_init 44 = .ok (.newarray .int, 2) := by decide +kernel
theorem dX3_init_46 : decode cX3_init 46 = .ok (.putfield 24, 3) := by decide +kernel
theorem dX3_init_49 : decode cX3_init 49 = .ok (.aload_n 0, 1) := by decide +kernel
theorem dX3_init_50 : decode cX3_init 50 = .ok (.iconst 0, 1) := by decide +kernel
theorem dX3_init_51 : decode cX3_init 51 = .ok (.putfield 27, 3) := by decide +kernel
theorem dX3_init_54 : decode cX3_init 54 = .ok (.return_, 1) := by decide +kernel
theorem dX3_has_0 : decode cX3_has 0 = .ok (.iload_n 1, 1) := by decide +kernel
theorem dX3_has_1 : decode cX3_has 1 = .ok (.ifCond .lt 22, 3) := by decide +kernel
theorem dX3_has_4 : decode cX3_has 4 = .ok (.iload_n 1, 1) := by decide +kernel
theorem dX3_has_5 : decode cX3_has 5 = .ok (.aload_n 0, 1) := by decide +kernel
theorem dX3_has_6 : decode cX3_has 6 = .ok (.getfield 27, 3) := by decide +kernel
theorem dX3_has_9 : decode cX3_has 9 = .ok (.if_icmp .ge 14, 3) := by decide +kernel
theorem dX3_has_12 : decode cX3_has 12 = .ok (.iload_n 1, 1) := by decide +kernel
theorem dX3_has_13 : decode cX3_has 13 = .ok (.sipush 192, 3) := by decide +kernel
theorem dX3_has_16 : decode cX3_has 16 = .ok (.if_icmp .ge 7, 3) := by decide +kernel
theorem dX3_has_19 : decode cX3_has 19 = .ok (.iconst 1, 1) := by decide +kernel
theorem dX3_has_20 : decode cX3_has 20 = .ok (.goto 4, 3) := by decide +kernel
theorem dX3_has_23 : decode cX3_has 23 = .ok (.iconst 0, 1) := by decide +kernel
theorem dX3_has_24 : decode cX3_has 24 = .ok (.ireturn, 1) := by decide +kernel
theorem dX3_from_0 : decode cX3_from 0 = .ok (.aload_n 0, 1) := by decide +kernel
theorem dX3_from_1 : decode cX3_from 1 = .ok (.iload_n 1, 1) := by decide +kernel
theorem dX3_from_2 : decode cX3_from 2 = .ok (.invokevirtual 31, 3) := by decide +kernel
theorem dX3_from_5 : decode cX3_from 5 = .ok (.ifCond .eq 12, 3) := by decide +kernel
theorem dX3_from_8 : decode cX3_from 8 = .ok (.aload_n 0, 1) := by decide +kernel
theorem dX3_from_9 : decode cX3_from 9 = .ok (.getfield 11, 3) := by decide +kernel
theorem dX3_from_12 : decode cX3_from 12 = .ok (.iload_n 1, 1) := by decide +kernel
theorem dX3_from_13 : decode cX3_from 13 = .ok (.iaload, 1) := by decide +kernel
theorem dX3_from_14 : decode cX3_from 14 = .ok (.goto 5, 3) := by decide +kernel
theorem dX3_from_17 : decode cX3_from 17 = .ok (.bipush (-6), 2) := by decide +kernel
theorem dX3_from_19 : decode cX3_from 19 = .ok (.ireturn, 1) := by decide +kernel
theorem dX3_to_0 : decode cX3_to 0 = .ok (.aload_n 0, 1) := by decide +kernel
theorem dX3_to_1 : decode cX3_to 1 = .ok (.iload_n 1, 1) := by decide +kernel
theorem dX3_to_2 : decode cX3_to 2 = .ok (.invokevirtual 31, 3) := by decide +kernel
theorem dX3_to_5 : decode cX3_to 5 = .ok (.ifCond .eq 12, 3) := by decide +kernel
theorem dX3_to_8 : decode cX3_to 8 = .ok (.aload_n 0, 1) := by decide +kernel
theorem dX3_to_9 : decode cX3_to 9 = .ok (.getfield 15, 3) := by decide +kernel
theorem dX3_to_12 : decode cX3_to 12 = .ok (.iload_n 1, 1) := by decide +kernel
theorem dX3_to_13 : decode cX3_to 13 = .ok (.iaload, 1) := by decide +kernel
theorem dX3_to_14 : decode cX3_to 14 = .ok (.goto 5, 3) := by decide +kernel
theorem dX3_to_17 : decode cX3_to 17 = .ok (.bipush (-6), 2) := by decide +kernel
theorem dX3_to_19 : decode cX3_to 19 = .ok (.ireturn, 1) := by decide +kernel
theorem dX3_way_0 : decode cX3_way 0 = .ok (.aload_n 0, 1) := by decide +kernel
theorem dX3_way_1 : decode cX3_way 1 = .ok (.iload_n 1, 1) := by decide +kernel
theorem dX3_way_2 : decode cX3_way 2 = .ok (.invokevirtual 31, 3) := by decide +kernel
theorem dX3_way_5 : decode cX3_way 5 = .ok (.ifCond .eq 12, 3) := by decide +kernel
theorem dX3_way_8 : decode cX3_way 8 = .ok (.aload_n 0, 1) := by decide +kernel
theorem dX3_way_9 : decode cX3_way 9 = .ok (.getfield 18, 3) := by decide +kernel
theorem dX3_way_12 : decode cX3_way 12 = .ok (.iload_n 1, 1) := by decide +kernel
theorem dX3_way_13 : decode cX3_way 13 = .ok (.iaload, 1) := by decide +kernel
theorem dX3_way_14 : decode cX3_way 14 = .ok (.goto 5, 3) := by decide +kernel
theorem dX3_way_17 : decode cX3_way 17 = .ok (.bipush (-6), 2) := by decide +kernel
theorem dX3_way_19 : decode cX3_way 19 = .ok (.ireturn, 1) := by decide +kernel
theorem dX3_steps_0 : decode cX3_steps 0 = .ok (.aload_n 0, 1) := by decide +kernel
theorem dX3_steps_1 : decode cX3_steps 1 = .ok (.iload_n 1, 1) := by decide +kernel
theorem dX3_steps_2 : decode cX3_steps 2 = .ok (.invokevirtual 31, 3) := by decide +kernel
theorem dX3_steps_5 : decode cX3_steps 5 = .ok (.ifCond .eq 12, 3) := by decide +kernel
theorem dX3_steps_8 : decode cX3_steps 8 = .ok (.aload_n 0, 1) := by decide +kernel
theorem dX3_steps_9 : decode cX3_steps 9 = .ok (.getfield 21, 3) := by decide +kernel
theorem dX3_steps_12 : decode cX3_steps 12 = .ok (.iload_n 1, 1) := by decide +kernel
theorem dX3_steps_13 : decode cX3_steps 13 = .ok (.iaload, 1) := by decide +kernel
theorem dX3_steps_14 : decode cX3_steps 14 = .ok (.goto 4, 3) := by decide +kernel
theorem dX3_steps_17 : decode cX3_steps 17 = .ok (.iconst 0, 1) := by decide +kernel
theorem dX3_steps_18 : decode cX3_steps 18 = .ok (.ireturn, 1) := by decide +kernel
theorem dX3_taken_0 : decode cX3_taken 0 = .ok (.aload_n 0, 1) := by decide +kernel
theorem dX3_taken_1 : decode cX3_taken 1 = .ok (.iload_n 1, 1) := by decide +kernel
theorem dX3_taken_2 : decode cX3_taken 2 = .ok (.invokevirtual 31, 3) := by decide +kernel
theorem dX3_taken_5 : decode cX3_taken 5 = .ok (.ifCond .eq 12, 3) := by decide +kernel
theorem dX3_taken_8 : decode cX3_taken 8 = .ok (.aload_n 0, 1) := by decide +kernel
theorem dX3_taken_9 : decode cX3_taken 9 = .ok (.getfield 24, 3) := by decide +kernel
theorem dX3_taken_12 : decode cX3_taken 12 = .ok (.iload_n 1, 1) := by decide +kernel
theorem dX3_taken_13 : decode cX3_taken 13 = .ok (.iaload, 1) := by decide +kernel
theorem dX3_taken_14 : decode cX3_taken 14 = .ok (.goto 5, 3) := by decide +kernel
theorem dX3_taken_17 : decode cX3_taken 17 = .ok (.bipush (-6), 2) := by decide +kernel
theorem dX3_taken_19 : decode cX3_taken 19 = .ok (.ireturn, 1) := by decide +kernel
theorem dX3_find_0 : decode cX3_find 0 = .ok (.iconst 0, 1) := by decide +kernel
theorem dX3_find_1 : decode cX3_find 1 = .ok (.istore_n 3, 1) := by decide +kernel
theorem dX3_find_2 : decode cX3_find 2 = .ok (.iload_n 3, 1) := by decide +kernel
theorem dX3_find_3 : decode cX3_find 3 = .ok (.aload_n 0, 1) := by decide +kernel
theorem dX3_find_4 : decode cX3_find 4 = .ok (.getfield 27, 3) := by decide +kernel
theorem dX3_find_7 : decode cX3_find 7 = .ok (.if_icmp .ge 29, 3) := by decide +kernel
theorem dX3_find_10 : decode cX3_find 10 = .ok (.aload_n 0, 1) := by decide +kernel
theorem dX3_find_11 : decode cX3_find 11 = .ok (.iload_n 3, 1) := by decide +kernel
theorem dX3_find_12 : decode cX3_find 12 = .ok (.invokevirtual 35, 3) := by decide +kernel
theorem dX3_find_15 : decode cX3_find 15 = .ok (.iload_n 1, 1) := by decide +kernel
theorem dX3_find_16 : decode cX3_find 16 = .ok (.if_icmp .ne 14, 3) := by decide +kernel
theorem dX3_find_19 : decode cX3_find 19 = .ok (.aload_n 0, 1) := by decide +kernel
theorem dX3_find_20 : decode cX3_find 20 = .ok (.iload_n 3, 1) := by decide +kernel
theorem dX3_find_21 : decode cX3_find 21 = .ok (.invokevirtual 39, 3) := by decide +kernel
theorem dX3_find_24 : decode cX3_find 24 = .ok (.iload_n 2, 1) := by decide +kernel
theorem dX3_find_25 : decode cX3_find 25 = .ok (.if_icmp .ne 5, 3) := by decide +kernel
theorem dX3_find_28 : decode cX3_find 28 = .ok (.iload_n 3, 1) := by decide +kernel
theorem dX3_find_29 : decode cX3_find 29 = .ok (.ireturn, 1) := by decide +kernel
theorem dX3_find_30 : decode cX3_find 30 = .ok (.iinc 3 1, 3) := by decide +kernel
theorem dX3_find_33 : decode cX3_find 33 = .ok (.goto (-31), 3) := by decide +kernel
theorem dX3_find_36 : decode cX3_find 36 = .ok (.bipush (-6), 2) := by decide +kernel
theorem dX3_find_38 : decode cX3_find 38 = .ok (.ireturn, 1) := by decide +kernel
theorem dX3_numberFrom_0 : decode cX3_numberFrom 0 = .ok (.iconst 0, 1) := by decide +kernel
theorem dX3_numberFrom_1 : decode cX3_numberFrom 1 = .ok (.istore_n 2, 1) := by decide +kernel
theorem dX3_numberFrom_2 : decode cX3_numberFrom 2 = .ok (.iconst 0, 1) := by decide +kernel
theorem dX3_numberFrom_3 : decode cX3_numberFrom 3 = .ok (.istore_n 3, 1) := by decide +kernel
theorem dX3_numberFrom_4 : decode cX3_numberFrom 4 = .ok (.iload_n 3, 1) := by decide +kernel
theorem dX3_numberFrom_5 : decode cX3_numberFrom 5 = .ok (.aload_n 0, 1) := by decide +kernel
theorem dX3_numberFrom_6 : decode cX3_numberFrom 6 = .ok (.getfield 27, 3) := by decide +kernel
theorem dX3_numberFrom_9 : decode cX3_numberFrom 9 = .ok (.if_icmp .ge 21, 3) := by decide +kernel
theorem dX3_numberFrom_12 : decode cX3_numberFrom 12 = .ok (.aload_n 0, 1) := by decide +kernel
theorem dX3_numberFrom_13 : decode cX3_numberFrom 13 = .ok (.iload_n 3, 1) := by decide +kernel
theorem dX3_numberFrom_14 : decode cX3_numberFrom 14 = .ok (.invokevirtual 35, 3) := by decide +kernel
theorem dX3_numberFrom_17 : decode cX3_numberFrom 17 = .ok (.iload_n 1, 1) := by decide +kernel
theorem dX3_numberFrom_18 : decode cX3_numberFrom 18 = .ok (.if_icmp .ne 6, 3) := by decide +kernel
theorem dX3_numberFrom_21 : decode cX3_numberFrom 21 = .ok (.iinc 2 1, 3) := by decide +kernel
theorem dX3_numberFrom_24 : decode cX3_numberFrom 24 = .ok (.iinc 3 1, 3) := by decide +kernel
theorem dX3_numberFrom_27 : decode cX3_numberFrom 27 = .ok (.goto (-23), 3) := by decide +kernel
theorem dX3_numberFrom_30 : decode cX3_numberFrom 30 = .ok (.iload_n 2, 1) := by decide +kernel
theorem dX3_numberFrom_31 : decode cX3_numberFrom 31 = .ok (.ireturn, 1) := by decide +kernel
theorem dX3_takes_0 : decode cX3_takes 0 = .ok (.iconst 0, 1) := by decide +kernel
theorem dX3_takes_1 : decode cX3_takes 1 = .ok (.istore_n 2, 1) := by decide +kernel
theorem dX3_takes_2 : decode cX3_takes 2 = .ok (.iload_n 2, 1) := by decide +kernel
theorem dX3_takes_3 : decode cX3_takes 3 = .ok (.aload_n 0, 1) := by decide +kernel
theorem dX3_takes_4 : decode cX3_takes 4 = .ok (.getfield 27, 3) := by decide +kernel
theorem dX3_takes_7 : decode cX3_takes 7 = .ok (.if_icmp .ge 20, 3) := by decide +kernel
theorem dX3_takes_10 : decode cX3_takes 10 = .ok (.aload_n 0, 1) := by decide +kernel
theorem dX3_takes_11 : decode cX3_takes 11 = .ok (.iload_n 2, 1) := by decide +kernel
theorem dX3_takes_12 : decode cX3_takes 12 = .ok (.invokevirtual 42, 3) := by decide +kernel
theorem dX3_takes_15 : decode cX3_takes 15 = .ok (.iload_n 1, 1) := by decide +kernel
theorem dX3_takes_16 : decode cX3_takes 16 = .ok (.if_icmp .ne 5, 3) := by decide +kernel
theorem dX3_takes_19 : decode cX3_takes 19 = .ok (.iconst 1, 1) := by decide +kernel
theorem dX3_takes_20 : decode cX3_takes 20 = .ok (.ireturn, 1) := by decide +kernel
theorem dX3_takes_21 : decode cX3_takes 21 = .ok (.iinc 2 1, 3) := by decide +kernel
theorem dX3_takes_24 : decode cX3_takes 24 = .ok (.goto (-22), 3) := by decide +kernel
theorem dX3_takes_27 : decode cX3_takes 27 = .ok (.iconst 0, 1) := by decide +kernel
theorem dX3_takes_28 : decode cX3_takes 28 = .ok (.ireturn, 1) := by decide +kernel
theorem dX3_list_0 : decode cX3_list 0 = .ok (.aload_n 0, 1) := by decide +kernel
theorem dX3_list_1 : decode cX3_list 1 = .ok (.aload_n 1, 1) := by decide +kernel
theorem dX3_list_2 : decode cX3_list 2 = .ok (.aload_n 1, 1) := by decide +kernel
theorem dX3_list_3 : decode cX3_list 3 = .ok (.getfield 45, 3) := by decide +kernel
theorem dX3_list_6 : decode cX3_list 6 = .ok (.aload_n 1, 1) := by decide +kernel
theorem dX3_list_7 : decode cX3_list 7 = .ok (.getfield 50, 3) := by decide +kernel
theorem dX3_list_10 : decode cX3_list 10 = .ok (.invokevirtual 53, 3) := by decide +kernel
theorem dX3_list_13 : decode cX3_list 13 = .ok (.aload_n 0, 1) := by decide +kernel
theorem dX3_list_14 : decode cX3_list 14 = .ok (.getfield 27, 3) := by decide +kernel
theorem dX3_list_17 : decode cX3_list 17 = .ok (.ifCond .ne 8, 3) := by decide +kernel
theorem dX3_list_20 : decode cX3_list 20 = .ok (.aload_n 0, 1) := by decide +kernel
theorem dX3_list_21 : decode cX3_list 21 = .ok (.aload_n 1, 1) := by decide +kernel
theorem dX3_list_22 : decode cX3_list 22 = .ok (.invokevirtual 57, 3) := by decide +kernel
theorem dX3_list_25 : decode cX3_list 25 = .ok (.return_, 1) := by decide +kernel
theorem dX3_listJumps_0 : decode cX3_listJumps 0 = .ok (.aload_n 0, 1) := by decide +kernel
theorem dX3_listJumps_1 : decode cX3_listJumps 1 = .ok (.iconst 0, 1) := by decide +kernel
theorem dX3_listJumps_2 : decode cX3_listJumps 2 = .ok (.putfield 27, 3) := by decide +kernel
theorem dX3_listJumps_5 : decode cX3_listJumps 5 = .ok (.iconst 0, 1) := by decide +kernel
theorem dX3_listJumps_6 : decode cX3_listJumps 6 = .ok (.istore 4, 2) := by decide +kernel
theorem dX3_listJumps_8 : decode cX3_listJumps 8 = .ok (.iload 4, 2) := by decide +kernel
theorem dX3_listJumps_10 : decode cX3_listJumps 10 = .ok (.bipush 48, 2) := by decide +kernel
theorem dX3_listJumps_12 : decode cX3_listJumps 12 = .ok (.if_icmp .ge 100, 3) := by decide +kernel
theorem dX3_listJumps_15 : decode cX3_listJumps 15 = .ok (.aload_n 1, 1) := by decide +kernel
theorem dX3_listJumps_16 : decode cX3_listJumps 16 = .ok (.iload 4, 2) := by decide +kernel
theorem dX3_listJumps_18 : decode cX3_listJumps 18 = .ok (.invokevirtual 61, 3) := by decide +kernel
theorem dX3_listJumps_21 : decode cX3_listJumps 21 = .ok (.istore 5, 2) := by decide +kernel
theorem dX3_listJumps_23 : decode cX3_listJumps 23 = .ok (.iload 5, 2) := by decide +kernel
theorem dX3_listJumps_25 : decode cX3_listJumps 25 = .ok (.invokestatic 64, 3) := by decide +kernel
theorem dX3_listJumps_28 : decode cX3_listJumps 28 = .ok (.iload_n 2, 1) := by decide +kernel
theorem dX3_listJumps_29 : decode cX3_listJumps 29 = .ok (.if_icmp .ne 77, 3) := by decide +kernel
theorem dX3_listJumps_32 : decode cX3_listJumps 32 = .ok (.iload_n 3, 1) := by decide +kernel
theorem dX3_listJumps_33 : decode cX3_listJumps 33 = .ok (.bipush (-6), 2) := by decide +kernel
theorem dX3_listJumps_35 : decode cX3_listJumps 35 = .ok (.if_icmp .eq 12, 3) := by decide +kernel
theorem dX3_listJumps_38 : decode cX3_listJumps 38 = .ok (.iload_n 3, 1) := by decide +kernel
theorem dX3_listJumps_39 : decode cX3_listJumps 39 = .ok (.iload 4, 2) := by decide +kernel
theorem dX3_listJumps_41 : decode cX3_listJumps 41 = .ok (.if_icmp .eq 6, 3) := by decide +kernel
theorem dX3_listJumps_44 : decode cX3_listJumps 44 = .ok (.goto 62, 3) := by decide +kernel
theorem dX3_listJumps_47 : decode cX3_listJumps 47 = .ok (.iload 5, 2) := by decide +kernel
theorem dX3_listJumps_49 : decode cX3_listJumps 49 = .ok (.invokestatic 67, 3) := by decide +kernel
theorem dX3_listJumps_52 : decode cX3_listJumps 52 = .ok (.ifCond .eq 8, 3) := by decide +kernel
theorem dX3_listJumps_55 : decode cX3_listJumps 55 = .ok (.bipush 23, 2) := by decide +kernel
theorem dX3_listJumps_57 : decode cX3_listJumps 57 = .ok (.goto 4, 3) := by decide +kernel
theorem dX3_listJumps_60 : decode cX3_listJumps 60 = .ok (.iconst 2, 1) := by decide +kernel
theorem dX3_listJumps_61 : decode cX3_listJumps 61 = .ok (.istore 6, 2) := by decide +kernel
theorem dX3_listJumps_63 : decode cX3_listJumps 63 = .ok (.iconst 0, 1) := by decide +kernel
theorem dX3_listJumps_64 : decode cX3_listJumps 64 = .ok (.istore 7, 2) := by decide +kernel
theorem dX3_listJumps_66 : decode cX3_listJumps 66 = .ok (.iload 7, 2) := by decide +kernel
theorem dX3_listJumps_68 : decode cX3_listJumps 68 = .ok (.iconst 4, 1) := by decide +kernel
theorem dX3_listJumps_69 : decode cX3_listJumps 69 = .ok (.if_icmp .ge 37, 3) := by decide +kernel
theorem dX3_listJumps_72 : decode cX3_listJumps 72 = .ok (.aload_n 1, 1) := by decide +kernel
theorem dX3_listJumps_73 : decode cX3_listJumps 73 = .ok (.iload 4, 2) := by decide +kernel
theorem dX3_listJumps_75 : decode cX3_listJumps 75 = .ok (.iload 7, 2) := by decide +kernel
theorem dX3_listJumps_77 : decode cX3_listJumps 77 = .ok (.invokevirtual 70, 3) := by decide +kernel
theorem dX3_listJumps_80 : decode cX3_listJumps 80 = .ok (.istore 8, 2) := by decide +kernel
theorem dX3_listJumps_82 : decode cX3_listJumps 82 = .ok (.iload 8, 2) := by decide +kernel
theorem dX3_listJumps_84 : decode cX3_listJumps 84 = .ok (.ifCond .le 16, 3) := by decide +kernel
theorem dX3_listJumps_87 : decode cX3_listJumps 87 = .ok (.aload_n 0, 1) := by decide +kernel
theorem dX3_listJumps_88 : decode cX3_listJumps 88 = .ok (.aload_n 1, 1) := by decide +kernel
theorem dX3_listJumps_89 : decode cX3_listJumps 89 = .ok (.iload 4, 2) := by decide +kernel
theorem dX3_listJumps_91 : decode cX3_listJumps 91 = .ok (.iload 7, 2) := by decide +kernel
theorem dX3_listJumps_93 : decode cX3_listJumps 93 = .ok (.iload 8, 2) := by decide +kernel
theorem dX3_listJumps_95 : decode cX3_listJumps 95 = .ok (.iload 6, 2) := by decide +kernel
theorem dX3_listJumps_97 : decode cX3_listJumps 97 = .ok (.invokevirtual 74, 3) := by decide +kernel
theorem dX3_listJumps_100 : decode cX3_listJumps 100 = .ok (.iinc 7 1, 3) := by decide +kernel
theorem dX3_listJumps_103 : decode cX3_listJumps 103 = .ok (.goto (-37), 3) := by decide +kernel
theorem dX3_listJumps_106 : decode cX3_listJumps 106 = .ok (.iinc 4 1, 3) := by decide +kernel
theorem dX3_listJumps_109 : decode cX3_listJumps 109 = .ok (.goto (-101), 3) := by decide +kernel
theorem dX3_listJumps_112 : decode cX3_listJumps 112 = .ok (.return_, 1) := by decide +kernel
theorem dX3_listPlainHops_0 : decode cX3_listPlainHops 0 = .ok (.aload_n 0, 1) := by decide +kernel
theorem dX3_listPlainHops_1 : decode cX3_listPlainHops 1 = .ok (.iconst 0, 1) := by decide +kernel
theorem dX3_listPlainHops_2 : decode cX3_listPlainHops 2 = .ok (.putfield 27, 3) := by decide +kernel
theorem dX3_listPlainHops_5 : decode cX3_listPlainHops 5 = .ok (.iconst 0, 1) := by decide +kernel
theorem dX3_listPlainHops_6 : decode cX3_listPlainHops 6 = .ok (.istore_n 2, 1) := by decide +kernel
theorem dX3_listPlainHops_7 : decode cX3_listPlainHops 7 = .ok (.iload_n 2, 1) := by decide +kernel
theorem dX3_listPlainHops_8 : decode cX3_listPlainHops 8 = .ok (.bipush 48, 2) := by decide +kernel
theorem dX3_listPlainHops_10 : decode cX3_listPlainHops 10 = .ok (.if_icmp .ge 79, 3) := by decide +kernel
theorem dX3_listPlainHops_13 : decode cX3_listPlainHops 13 = .ok (.aload_n 1, 1) := by decide +kernel
theorem dX3_listPlainHops_14 : decode cX3_listPlainHops 14 = .ok (.iload_n 2, 1) := by decide +kernel
theorem dX3_listPlainHops_15 : decode cX3_listPlainHops 15 = .ok (.invokevirtual 61, 3) := by decide +kernel
theorem dX3_listPlainHops_18 : decode cX3_listPlainHops 18 = .ok (.istore_n 3, 1) := by decide +kernel
theorem dX3_listPlainHops_19 : decode cX3_listPlainHops 19 = .ok (.iload_n 3, 1) := by decide +kernel
theorem dX3_listPlainHops_20 : decode cX3_listPlainHops 20 = .ok (.invokestatic 64, 3) := by decide +kernel
theorem dX3_listPlainHops_23 : decode cX3_listPlainHops 23 = .ok (.aload_n 1, 1) := by decide +kernel
theorem dX3_listPlainHops_24 : decode cX3_listPlainHops 24 = .ok (.getfield 45, 3) := by decide +kernel
theorem dX3_listPlainHops_27 : decode cX3_listPlainHops 27 = .ok (.if_icmp .eq 6, 3) := by decide +kernel
theorem dX3_listPlainHops_30 : decode cX3_listPlainHops 30 = .ok (.goto 53, 3) := by decide +kernel
theorem dX3_listPlainHops_33 : decode cX3_listPlainHops 33 = .ok (.iload_n 3, 1) := by decide +kernel
theorem dX3_listPlainHops_34 : decode cX3_listPlainHops 34 = .ok (.invokestatic 67, 3) := by decide +kernel
theorem dX3_listPlainHops_37 : decode cX3_listPlainHops 37 = .ok (.ifCond .eq 8, 3) := by decide +kernel
theorem dX3_listPlainHops_40 : decode cX3_listPlainHops 40 = .ok (.bipush 23, 2) := by decide +kernel
theorem dX3_listPlainHops_42 : decode cX3_listPlainHops 42 = .ok (.goto 4, 3) := by decide +kernel
theorem dX3_listPlainHops_45 : decode cX3_listPlainHops 45 = .ok (.iconst 1, 1) := by decide +kernel
theorem dX3_listPlainHops_46 : decode cX3_listPlainHops 46 = .ok (.istore 4, 2) := by decide +kernel
theorem dX3_listPlainHops_48 : decode cX3_listPlainHops 48 = .ok (.iconst 0, 1) := by decide +kernel
theorem dX3_listPlainHops_49 : decode cX3_listPlainHops 49 = .ok (.istore 5, 2) := by decide +kernel
theorem dX3_listPlainHops_51 : decode cX3_listPlainHops 51 = .ok (.iload 5, 2) := by decide +kernel
theorem dX3_listPlainHops_53 : decode cX3_listPlainHops 53 = .ok (.iconst 4, 1) := by decide +kernel
theorem dX3_listPlainHops_54 : decode cX3_listPlainHops 54 = .ok (.if_icmp .ge 29, 3) := by decide +kernel
theorem dX3_listPlainHops_57 : decode cX3_listPlainHops 57 = .ok (.iload_n 3, 1) := by decide +kernel
theorem dX3_listPlainHops_58 : decode cX3_listPlainHops 58 = .ok (.iload 5, 2) := by decide +kernel
theorem dX3_listPlainHops_60 : decode cX3_listPlainHops 60 = .ok (.invokestatic 78, 3) := by decide +kernel
theorem dX3_listPlainHops_63 : decode cX3_listPlainHops 63 = .ok (.ifCond .eq 14, 3) := by decide +kernel
theorem dX3_listPlainHops_66 : decode cX3_listPlainHops 66 = .ok (.aload_n 0, 1) := by decide +kernel
theorem dX3_listPlainHops_67 : decode cX3_listPlainHops 67 = .ok (.aload_n 1, 1) := by decide +kernel
theorem dX3_listPlainHops_68 : decode cX3_listPlainHops 68 = .ok (.iload_n 2, 1) := by decide +kernel
theorem dX3_listPlainHops_69 : decode cX3_listPlainHops 69 = .ok (.iload 5, 2) := by decide +kernel
theorem dX3_listPlainHops_71 : decode cX3_listPlainHops 71 = .ok (.iconst 0, 1) := by decide +kernel
theorem dX3_listPlainHops_72 : decode cX3_listPlainHops 72 = .ok (.iload 4, 2) := by decide +kernel
theorem dX3_listPlainHops_74 : decode cX3_listPlainHops 74 = .ok (.invokevirtual 74, 3) := by decide +kernel
theorem dX3_listPlainHops_77 : decode cX3_listPlainHops 77 = .ok (.iinc 5 1, 3) := by decide +kernel
theorem dX3_listPlainHops_80 : decode cX3_listPlainHops 80 = .ok (.goto (-29), 3) := by decide +kernel
theorem dX3_listPlainHops_83 : decode cX3_listPlainHops 83 = .ok (.iinc 2 1, 3) := by decide +kernel
theorem dX3_listPlainHops_86 : decode cX3_listPlainHops 86 = .ok (.goto (-79), 3) := by decide +kernel
theorem dX3_listPlainHops_89 : decode cX3_listPlainHops 89 = .ok (.return_, 1) := by decide +kernel
theorem dX3_addLandings_0 : decode cX3_addLandings 0 = .ok (.iload_n 2, 1) := by decide +kernel
theorem dX3_addLandings_1 : decode cX3_addLandings 1 = .ok (.iload_n 3, 1) := by decide +kernel
theorem dX3_addLandings_2 : decode cX3_addLandings 2 = .ok (.iload 4, 2) := by decide +kernel
theorem dX3_addLandings_4 : decode cX3_addLandings 4 = .ok (.invokestatic 82, 3) := by decide +kernel
theorem dX3_addLandings_7 : decode cX3_addLandings 7 = .ok (.istore 6, 2) := by decide +kernel
theorem dX3_addLandings_9 : decode cX3_addLandings 9 = .ok (.iload 4, 2) := by decide +kernel
theorem dX3_addLandings_11 : decode cX3_addLandings 11 = .ok (.ifCond .le 8, 3) := by decide +kernel
theorem dX3_addLandings_14 : decode cX3_addLandings 14 = .ok (.iload 6, 2) := by decide +kernel
theorem dX3_addLandings_16 : decode cX3_addLandings 16 = .ok (.goto 5, 3) := by decide +kernel
theorem dX3_addLandings_19 : decode cX3_addLandings 19 = .ok (.bipush (-6), 2) := by decide +kernel
theorem dX3_addLandings_21 : decode cX3_addLandings 21 = .ok (.istore 7, 2) := by decide +kernel
theorem dX3_addLandings_23 : decode cX3_addLandings 23 = .ok (.iload 6, 2) := by decide +kernel
theorem dX3_addLandings_25 : decode cX3_addLandings 25 = .ok (.iload_n 3, 1) := by decide +kernel
theorem dX3_addLandings_26 : decode cX3_addLandings 26 = .ok (.iconst 1, 1) := by decide +kernel
theorem dX3_addLandings_27 : decode cX3_addLandings 27 = .ok (.invokestatic 82, 3) := by decide +kernel
theorem dX3_addLandings_30 : decode cX3_addLandings 30 = .ok (.istore 8, 2) := by decide +kernel
theorem dX3_addLandings_32 : decode cX3_addLandings 32 = .ok (.iload 4, 2) := by decide +kernel
theorem dX3_addLandings_34 : decode cX3_addLandings 34 = .ok (.iconst 1, 1) := by decide +kernel
theorem dX3_addLandings_35 : decode cX3_addLandings 35 = .ok (.iadd, 1) := by decide +kernel
theorem dX3_addLandings_36 : decode cX3_addLandings 36 = .ok (.istore 9, 2) := by decide +kernel
theorem dX3_addLandings_38 : decode cX3_addLandings 38 = .ok (.iload 9, 2) := by decide +kernel
theorem dX3_addLandings_40 : decode cX3_addLandings 40 = .ok (.iload 5, 2) := by decide +kernel
theorem dX3_addLandings_42 : decode cX3_addLandings 42 = .ok (.if_icmp .gt 41, 3) := by decide +kernel
theorem dX3_addLandings_45 : decode cX3_addLandings 45 = .ok (.aload_n 1, 1) := by decide +kernel
theorem dX3_addLandings_46 : decode cX3_addLandings 46 = .ok (.iload 8, 2) := by decide +kernel
theorem dX3_addLandings_48 : decode cX3_addLandings 48 = .ok (.invokevirtual 61, 3) := by decide +kernel
theorem dX3_addLandings_51 : decode cX3_addLandings 51 = .ok (.bipush (-6), 2) := by decide +kernel
theorem dX3_addLandings_53 : decode cX3_addLandings 53 = .ok (.if_icmp .ne 30, 3) := by decide +kernel
theorem dX3_addLandings_56 : decode cX3_addLandings 56 = .ok (.aload_n 0, 1) := by decide +kernel
theorem dX3_addLandings_57 : decode cX3_addLandings 57 = .ok (.iload_n 2, 1) := by decide +kernel
theorem dX3_addLandings_58 : decode cX3_addLandings 58 = .ok (.iload 8, 2) := by decide +kernel
theorem dX3_addLandings_60 : decode cX3_addLandings 60 = .ok (.iload_n 3, 1) := by decide +kernel
theorem dX3_addLandings_61 : decode cX3_addLandings 61 = .ok (.iload 9, 2) := by decide +kernel
theorem dX3_addLandings_63 : decode cX3_addLandings 63 = .ok (.iload 7, 2) := by decide +kernel
theorem dX3_addLandings_65 : decode cX3_addLandings 65 = .ok (.invokevirtual 86, 3) := by decide +kernel
theorem dX3_addLandings_68 : decode cX3_addLandings 68 = .ok (.iload 8, 2) := by decide +kernel
theorem dX3_addLandings_70 : decode cX3_addLandings 70 = .ok (.iload_n 3, 1) := by decide +kernel
theorem dX3_addLandings_71 : decode cX3_addLandings 71 = .ok (.iconst 1, 1) := by decide +kernel
theorem dX3_addLandings_72 : decode cX3_addLandings 72 = .ok (.invokestatic 82, 3) := by decide +kernel
theorem dX3_addLandings_75 : decode cX3_addLandings 75 = .ok (.istore 8, 2) := by decide +kernel
theorem dX3_addLandings_77 : decode cX3_addLandings 77 = .ok (.iinc 9 1, 3) := by decide +kernel
theorem dX3_addLandings_80 : decode cX3_addLandings 80 = .ok (.goto (-42), 3) := by decide +kernel
theorem dX3_addLandings_83 : decode cX3_addLandings 83 = .ok (.return_, 1) := by decide +kernel
theorem dX3_add_0 : decode cX3_add 0 = .ok (.aload_n 0, 1) := by decide +kernel
theorem dX3_add_1 : decode cX3_add 1 = .ok (.getfield 27, 3) := by decide +kernel
theorem dX3_add_4 : decode cX3_add 4 = .ok (.ifCond .lt 13, 3) := by decide +kernel
theorem dX3_add_7 : decode cX3_add 7 = .ok (.aload_n 0, 1) := by decide +kernel
theorem dX3_add_8 : decode cX3_add 8 = .ok (.getfield 27, 3) := by decide +kernel
theorem dX3_add_11 : decode cX3_add 11 = .ok (.sipush 192, 3) := by decide +kernel
theorem dX3_add_14 : decode cX3_add 14 = .ok (.if_icmp .lt 4, 3) := by decide +kernel
theorem dX3_add_17 : decode cX3_add 17 = .ok (.return_, 1) := by decide +kernel
theorem dX3_add_18 : decode cX3_add 18 = .ok (.aload_n 0, 1) := by decide +kernel
theorem dX3_add_19 : decode cX3_add 19 = .ok (.getfield 11, 3) := by decide +kernel
theorem dX3_add_22 : decode cX3_add 22 = .ok (.aload_n 0, 1) := by decide +kernel
theorem dX3_add_23 : decode cX3_add 23 = .ok (.getfield 27, 3) := by decide +kernel
theorem dX3_add_26 : decode cX3_add 26 = .ok (.iload_n 1, 1) := by decide +kernel
theorem dX3_add_27 : decode cX3_add 27 = .ok (.iastore, 1) := by decide +kernel
theorem dX3_add_28 : decode cX3_add 28 = .ok (.aload_n 0, 1) := by decide +kernel
theorem dX3_add_29 : decode cX3_add 29 = .ok (.getfield 15, 3) := by decide +kernel
theorem dX3_add_32 : decode cX3_add 32 = .ok (.aload_n 0, 1) := by decide +kernel
theorem dX3_add_33 : decode cX3_add 33 = .ok (.getfield 27, 3) := by decide +kernel
theorem dX3_add_36 : decode cX3_add 36 = .ok (.iload_n 2, 1) := by decide +kernel
theorem dX3_add_37 : decode cX3_add 37 = .ok (.iastore, 1) := by decide +kernel
theorem dX3_add_38 : decode cX3_add 38 = .ok (.aload_n 0, 1) := by decide +kernel
theorem dX3_add_39 : decode cX3_add 39 = .ok (.getfield 18, 3) := by decide +kernel
theorem dX3_add_42 : decode cX3_add 42 = .ok (.aload_n 0, 1) := by decide +kernel
theorem dX3_add_43 : decode cX3_add 43 = .ok (.getfield 27, 3) := by decide +kernel
theorem dX3_add_46 : decode cX3_add 46 = .ok (.iload_n 3, 1) := by decide +kernel
theorem dX3_add_47 : decode cX3_add 47 = .ok (.iastore, 1) := by decide +kernel
theorem dX3_add_48 : decode cX3_add 48 = .ok (.aload_n 0, 1) := by decide +kernel
theorem dX3_add_49 : decode cX3_add 49 = .ok (.getfield 21, 3) := by decide +kernel
theorem dX3_add_52 : decode cX3_add 52 = .ok (.aload_n 0, 1) := by decide +kernel
theorem dX3_add_53 : decode cX3_add 53 = .ok (.getfield 27, 3) := by decide +kernel
theorem dX3_add_56 : decode cX3_add 56 = .ok (.iload 4, 2) := by decide +kernel
theorem dX3_add_58 : decode cX3_add 58 = .ok (.iastore, 1) := by decide +kernel
theorem dX3_add_59 : decode cX3_add 59 = .ok (.aload_n 0, 1) := by decide +kernel
theorem dX3_add_60 : decode cX3_add 60 = .ok (.getfield 24, 3) := by decide +kernel
theorem dX3_add_63 : decode cX3_add 63 = .ok (.aload_n 0, 1) := by decide +kernel
theorem dX3_add_64 : decode cX3_add 64 = .ok (.getfield 27, 3) := by decide +kernel
theorem dX3_add_67 : decode cX3_add 67 = .ok (.iload 5, 2) := by decide +kernel
theorem dX3_add_69 : decode cX3_add 69 = .ok (.iastore, 1) := by decide +kernel
theorem dX3_add_70 : decode cX3_add 70 = .ok (.aload_n 0, 1) := by decide +kernel
theorem dX3_add_71 : decode cX3_add 71 = .ok (.dup, 1) := by decide +kernel
theorem dX3_add_72 : decode cX3_add 72 = .ok (.getfield 27, 3) := by decide +kernel
theorem dX3_add_75 : decode cX3_add 75 = .ok (.iconst 1, 1) := by decide +kernel
theorem dX3_add_76 : decode cX3_add 76 = .ok (.iadd, 1) := by decide +kernel
theorem dX3_add_77 : decode cX3_add 77 = .ok (.putfield 27, 3) := by decide +kernel
theorem dX3_add_80 : decode cX3_add 80 = .ok (.return_, 1) := by decide +kernel
theorem dX4_init_0 : decode cX4_init 0 = .ok (.aload_n 0, 1) := by decide +kernel
theorem dX4_init_1 : decode cX4_init 1 = .ok (.invokespecial 3, 3) := by decide +kernel
theorem dX4_init_4 : decode cX4_init 4 = .ok (.aload_n 0, 1) := by decide +kernel
theorem dX4_init_5 : decode cX4_init 5 = .ok (.bipush 60, 2) := by decide +kernel
theorem dX4_init_7 : decode cX4_init 7 = .ok (.newarray .char, 2) := by decide +kernel
theorem dX4_init_9 : decode cX4_init 9 = .ok (.putfield 11, 3) := by decide +kernel
theorem dX4_init_12 : decode cX4_init 12 = .ok (.aload_n 0, 1) := by decide +kernel
theorem dX4_init_13 : decode cX4_init 13 = .ok (.iconst 0, 1) := by decide +kernel
theorem dX4_init_14 : decode cX4_init 14 = .ok (.putfield 15, 3) := by decide +kernel
theorem dX4_init_17 : decode cX4_init 17 = .ok (.return_, 1) := by decide +kernel
theorem dX4_numberOfSigns_0 : decode cX4_numberOfSigns 0 = .ok (.iconst 0, 1) := by decide +kernel
theorem dX4_numberOfSigns_1 : decode cX4_numberOfSigns 1 = .ok (.istore_n 2, 1) := by decide +kernel
theorem dX4_numberOfSigns_2 : decode cX4_numberOfSigns 2 = .ok (.lload_n 0, 1) := by decide +kernel
theorem dX4_numberOfSigns_3 : decode cX4_numberOfSigns 3 = .ok (.lstore_n 3, 1) := by decide +kernel
theorem dX4_numberOfSigns_4 : decode cX4_numberOfSigns 4 = .ok (.iload_n 2, 1) := by decide +kernel
theorem dX4_numberOfSigns_5 : decode cX4_numberOfSigns 5 = .ok (.bipush 8, 2) := by decide +kernel
theorem dX4_numberOfSigns_7 : decode cX4_numberOfSigns 7 = .ok (.if_icmp .ge 47, 3) := by decide +kernel
theorem dX4_numberOfSigns_10 : decode cX4_numberOfSigns 10 = .ok (.lload_n 3, 1) := by decide +kernel
theorem dX4_numberOfSigns_11 : decode cX4_numberOfSigns 11 = .ok (.lconst 0, 1) := by decide +kernel
theorem dX4_numberOfSigns_12 : decode cX4_numberOfSigns 12 = .ok (.lcmp, 1) := by decide +kernel
theorem dX4_numberOfSigns_13 : decode cX4_numberOfSigns 13 = .ok (.ifCond .eq 41, 3) := by decide +kernel
theorem dX4_numberOfSigns_16 : decode cX4_numberOfSigns 16 = .ok (.lload_n 3, 1) := by decide +kernel
theorem dX4_numberOfSigns_17 : decode cX4_numberOfSigns 17 = .ok (.ldc2_w 19, 3) := by decide +kernel
theorem dX4_numberOfSigns_20 : decode cX4_numberOfSigns 20 = .ok (.land, 1) := by decide +kernel
theorem dX4_numberOfSigns_21 : decode cX4_numberOfSigns 21 = .ok (.lstore 5, 2) := by decide +kernel
theorem dX4_numberOfSigns_23 : decode cX4_numberOfSigns 23 = .ok (.lload 5, 2) := by decide +kernel
theorem dX4_numberOfSigns_25 : decode cX4_numberOfSigns 25 = .ok (.ldc2_w 21, 3) := by decide +kernel
theorem dX4_numberOfSigns_28 : decode cX4_numberOfSigns 28 = .ok (.lcmp, 1) := by decide +kernel
theorem dX4_numberOfSigns_29 : decode cX4_numberOfSigns 29 = .ok (.ifCond .lt 12, 3) := by decide +kernel
theorem dX4_numberOfSigns_32 : decode cX4_numberOfSigns 32 = .ok (.lload 5, 2) := by decide +kernel
theorem dX4_numberOfSigns_34 : decode cX4_numberOfSigns 34 = .ok (.ldc2_w 23, 3) := by decide +kernel
theorem dX4_numberOfSigns_37 : decode cX4_numberOfSigns 37 = .ok (.lcmp, 1) := by decide +kernel
theorem dX4_numberOfSigns_38 : decode cX4_numberOfSigns 38 = .ok (.ifCond .le 5, 3) := by decide +kernel
theorem dX4_numberOfSigns_41 : decode cX4_numberOfSigns 41 = .ok (.iconst 0, 1) := by decide +kernel
theorem dX4_numberOfSigns_42 : decode cX4_numberOfSigns 42 = .ok (.ireturn, 1) := by decide +kernel
theorem dX4_numberOfSigns_43 : decode cX4_numberOfSigns 43 = .ok (.lload_n 3, 1) := by decide +kernel
theorem dX4_numberOfSigns_44 : decode cX4_numberOfSigns 44 = .ok (.bipush 8, 2) := by decide +kernel
theorem dX4_numberOfSigns_46 : decode cX4_numberOfSigns 46 = .ok (.lushr, 1) := by decide +kernel
theorem dX4_numberOfSigns_47 : decode cX4_numberOfSigns 47 = .ok (.lstore_n 3, 1) := by decide +kernel
theorem dX4_numberOfSigns_48 : decode cX4_numberOfSigns 48 = .ok (.iinc 2 1, 3) := by decide +kernel
theorem dX4_numberOfSigns_51 : decode cX4_numberOfSigns 51 = .ok (.goto (-47), 3) := by decide +kernel
theorem dX4_numberOfSigns_54 : decode cX4_numberOfSigns 54 = .ok (.iload_n 2, 1) := by decide +kernel
theorem dX4_numberOfSigns_55 : decode cX4_numberOfSigns 55 = .ok (.ireturn, 1) := by decide +kernel
theorem dX4_append_0 : decode cX4_append 0 = .ok (.iload_n 3, 1) := by decide +kernel
theorem dX4_append_1 : decode cX4_append 1 = .ok (.iconst 1, 1) := by decide +kernel
theorem dX4_append_2 : decode cX4_append 2 = .ok (.isub, 1) := by decide +kernel
theorem dX4_append_3 : decode cX4_append 3 = .ok (.istore 4, 2) := by decide +kernel
theorem dX4_append_5 : decode cX4_append 5 = .ok (.iload 4, 2) := by decide +kernel
theorem dX4_append_7 : decode cX4_append 7 = .ok (.ifCond .lt 58, 3) := by decide +kernel
theorem dX4_append_10 : decode cX4_append 10 = .ok (.aload_n 0, 1) := by decide +kernel
theorem dX4_append_11 : decode cX4_append 11 = .ok (.getfield 15, 3) := by decide +kernel
theorem dX4_append_14 : decode cX4_append 14 = .ok (.ifCond .lt 12, 3) := by decide +kernel
theorem dX4_append_17 : decode cX4_append 17 = .ok (.aload_n 0, 1) := by decide +kernel
theorem dX4_append_18 : decode cX4_append 18 = .ok (.getfield 15, 3) := by decide +kernel
theorem dX4_append_21 : decode cX4_append 21 = .ok (.bipush 60, 2) := by decide +kernel
theorem dX4_append_23 : decode cX4_append 23 = .ok (.if_icmp .lt 4, 3) := by decide +kernel
theorem dX4_append_26 : decode cX4_append 26 = .ok (.return_, 1) := by decide +kernel
theorem dX4_append_27 : decode cX4_append 27 = .ok (.aload_n 0, 1) := by decide +kernel
theorem dX4_append_28 : decode cX4_append 28 = .ok (.getfield 11, 3) := by decide +kernel
theorem dX4_append_31 : decode cX4_append 31 = .ok (.aload_n 0, 1) := by decide +kernel
theorem dX4_append_32 : decode cX4_append 32 = .ok (.getfield 15, 3) := by decide +kernel
theorem dX4_append_35 : decode cX4_append 35 = .ok (.lload_n 1, 1) := by decide +kernel
theorem dX4_append_36 : decode cX4_append 36 = .ok (.bipush 8, 2) := by decide +kernel
theorem dX4_append_38 : decode cX4_append 38 = .ok (.iload 4, 2) := by decide +kernel
theorem dX4_append_40 : decode cX4_append 40 = .ok (.imul, 1) := by decide +kernel
theorem dX4_append_41 : decode cX4_append 41 = .ok (.lushr, 1) := by decide +kernel
theorem dX4_append_42 : decode cX4_append 42 = .ok (.ldc2_w 19, 3) := by decide +kernel
theorem dX4_append_45 : decode cX4_append 45 = .ok (.land, 1) := by decide +kernel
theorem dX4_append_46 : decode cX4_append 46 = .ok (.l2i, 1) := by decide +kernel
theorem dX4_append_47 : decode cX4_append 47 = .ok (.i2c, 1) := by decide +kernel
theorem dX4_append_48 : decode cX4_append 48 = .ok (.castore, 1) := by decide +kernel
theorem dX4_append_49 : decode cX4_append 49 = .ok (.aload_n 0, 1) := by decide +kernel
theorem dX4_append_50 : decode cX4_append 50 = .ok (.dup, 1) := by decide +kernel
theorem dX4_append_51 : decode cX4_append 51 = .ok (.getfield 15, 3) := by decide +kernel
theorem dX4_append_54 : decode cX4_append 54 = .ok (.iconst 1, 1) := by decide +kernel
theorem dX4_append_55 : decode cX4_append 55 = .ok (.iadd, 1) := by decide +kernel
theorem dX4_append_56 : decode cX4_append 56 = .ok (.putfield 15, 3) := by decide +kernel
theorem dX4_append_59 : decode cX4_append 59 = .ok (.iinc 4 (-1), 3) := by decide +kernel
theorem dX4_append_62 : decode cX4_append 62 = .ok (.goto (-57), 3) := by decide +kernel
theorem dX4_append_65 : decode cX4_append 65 = .ok (.return_, 1) := by decide +kernel
theorem dX4_signAt_0 : decode cX4_signAt 0 = .ok (.iload_n 1, 1) := by decide +kernel
theorem dX4_signAt_1 : decode cX4_signAt 1 = .ok (.ifCond .lt 26, 3) := by decide +kernel
theorem dX4_signAt_4 : decode cX4_signAt 4 = .ok (.iload_n 1, 1) := by decide +kernel
theorem dX4_signAt_5 : decode cX4_signAt 5 = .ok (.aload_n 0, 1) := by decide +kernel
theorem dX4_signAt_6 : decode cX4_signAt 6 = .ok (.getfield 15, 3) := by decide +kernel
theorem dX4_signAt_9 : decode cX4_signAt 9 = .ok (.if_icmp .ge 18, 3) := by decide +kernel
theorem dX4_signAt_12 : decode cX4_signAt 12 = .ok (.iload_n 1, 1) := by decide +kernel
theorem dX4_signAt_13 : decode cX4_signAt 13 = .ok (.bipush 60, 2) := by decide +kernel
theorem dX4_signAt_15 : decode cX4_signAt 15 = .ok (.if_icmp .ge 12, 3) := by decide +kernel
theorem dX4_signAt_18 : decode cX4_signAt 18 = .ok (.aload_n 0, 1) := by decide +kernel
theorem dX4_signAt_19 : decode cX4_signAt 19 = .ok (.getfield 11, 3) := by decide +kernel
theorem dX4_signAt_22 : decode cX4_signAt 22 = .ok (.iload_n 1, 1) := by decide +kernel
theorem dX4_signAt_23 : decode cX4_signAt 23 = .ok (.caload, 1) := by decide +kernel
theorem dX4_signAt_24 : decode cX4_signAt 24 = .ok (.goto 5, 3) := by decide +kernel
theorem dX4_signAt_27 : decode cX4_signAt 27 = .ok (.bipush 44, 2) := by decide +kernel
theorem dX4_signAt_29 : decode cX4_signAt 29 = .ok (.ireturn, 1) := by decide +kernel
theorem dX4_findFault_0 : decode cX4_findFault 0 = .ok (.iconst 0, 1) := by decide +kernel
theorem dX4_findFault_1 : decode cX4_findFault 1 = .ok (.istore_n 1, 1) := by decide +kernel
theorem dX4_findFault_2 : decode cX4_findFault 2 = .ok (.iconst 0, 1) := by decide +kernel
theorem dX4_findFault_3 : decode cX4_findFault 3 = .ok (.istore_n 2, 1) := by decide +kernel
theorem dX4_findFault_4 : decode cX4_findFault 4 = .ok (.iconst 0, 1) := by decide +kernel
theorem dX4_findFault_5 : decode cX4_findFault 5 = .ok (.istore_n 3, 1) := by decide +kernel
theorem dX4_findFault_6 : decode cX4_findFault 6 = .ok (.iload_n 3, 1) := by decide +kernel
theorem dX4_findFault_7 : decode cX4_findFault 7 = .ok (.aload_n 0, 1) := by decide +kernel
theorem dX4_findFault_8 : decode cX4_findFault 8 = .ok (.getfield 15, 3) := by decide +kernel
theorem dX4_findFault_11 : decode cX4_findFault 11 = .ok (.if_icmp .ge 140, 3) := by decide +kernel
theorem dX4_findFault_14 : decode cX4_findFault 14 = .ok (.aload_n 0, 1) := by decide +kernel
theorem dX4_findFault_15 : decode cX4_findFault 15 = .ok (.iload_n 3, 1) := by decide +kernel
theorem dX4_findFault_16 : decode cX4_findFault 16 = .ok (.invokevirtual 25, 3) := by decide +kernel
theorem dX4_findFault_19 : decode cX4_findFault 19 = .ok (.istore 4, 2) := by decide +kernel
theorem dX4_findFault_21 : decode cX4_findFault 21 = .ok (.iload 4, 2) := by decide +kernel
theorem dX4_findFault_23 : decode cX4_findFault 23 = .ok (.bipush 48, 2) := by decide +kernel
theorem dX4_findFault_25 : decode cX4_findFault 25 = .ok (.if_icmp .lt 77, 3) := by decide +kernel
theorem dX4_findFault_28 : decode cX4_findFault 28 = .ok (.iload 4, 2) := by decide +kernel
theorem dX4_findFault_30 : decode cX4_findFault 30 = .ok (.bipush 57, 2) := by decide +kernel
theorem dX4_findFault_32 : decode cX4_findFault 32 = .ok (.if_icmp .gt 70, 3) := by decide +kernel
theorem dX4_findFault_35 : decode cX4_findFault 35 = .ok (.iload_n 1, 1) := by decide +kernel
theorem dX4_findFault_36 : decode cX4_findFault 36 = .ok (.ifCond .eq 8, 3) := by decide +kernel
theorem dX4_findFault_39 : decode cX4_findFault 39 = .ok (.iload_n 1, 1) := by decide +kernel
theorem dX4_findFault_40 : decode cX4_findFault 40 = .ok (.iconst 2, 1) := by decide +kernel
theorem dX4_findFault_41 : decode cX4_findFault 41 = .ok (.if_icmp .ne 7, 3) := by decide +kernel
theorem dX4_findFault_44 : decode cX4_findFault 44 = .ok (.iconst 1, 1) := by decide +kernel
theorem dX4_findFault_45 : decode cX4_findFault 45 = .ok (.goto 4, 3) := by decide +kernel
theorem dX4_findFault_48 : decode cX4_findFault 48 = .ok (.iconst 0, 1) := by decide +kernel
theorem dX4_findFault_49 : decode cX4_findFault 49 = .ok (.istore 5, 2) := by decide +kernel
theorem dX4_findFault_51 : decode cX4_findFault 51 = .ok (.iload 5, 2) := by decide +kernel
theorem dX4_findFault_53 : decode cX4_findFault 53 = .ok (.ifCond .ne 9, 3) := by decide +kernel
theorem dX4_findFault_56 : decode cX4_findFault 56 = .ok (.iload_n 2, 1) := by decide +kernel
theorem dX4_findFault_57 : decode cX4_findFault 57 = .ok (.ifCond .ne 5, 3) := by decide +kernel
theorem dX4_findFault_60 : decode cX4_findFault 60 = .ok (.iload_n 3, 1) := by decide +kernel
theorem dX4_findFault_61 : decode cX4_findFault 61 = .ok (.ireturn, 1) := by decide +kernel
theorem dX4_findFault_62 : decode cX4_findFault 62 = .ok (.iload 5, 2) := by decide +kernel
theorem dX4_findFault_64 : decode cX4_findFault 64 = .ok (.ifCond .eq 7, 3) := by decide +kernel
theorem dX4_findFault_67 : decode cX4_findFault 67 = .ok (.iconst 0, 1) := by decide +kernel
theorem dX4_findFault_68 : decode cX4_findFault 68 = .ok (.goto 7, 3) := by decide +kernel
theorem dX4_findFault_71 : decode cX4_findFault 71 = .ok (.iload_n 2, 1) := by decide +kernel
theorem dX4_findFault_72 : decode cX4_findFault 72 = .ok (.bipush 10, 2) := by decide +kernel
theorem dX4_findFault_74 : decode cX4_findFault 74 = .ok (.imul, 1) := by decide +kernel
theorem dX4_findFault_75 : decode cX4_findFault 75 = .ok (.iload 4, 2) := by decide +kernel
theorem dX4_findFault_77 : decode cX4_findFault 77 = .ok (.bipush 48, 2) := by decide +kernel
theorem dX4_findFault_79 : decode cX4_findFault 79 = .ok (.isub, 1) := by decide +kernel
theorem dX4_findFault_80 : decode cX4_findFault 80 = .ok (.iadd, 1) := by decide +kernel
theorem dX4_findFault_81 : decode cX4_findFault 81 = .ok (.istore_n 2, 1) := by decide +kernel
theorem dX4_findFault_82 : decode cX4_findFault 82 = .ok (.iload_n 2, 1) := by decide +kernel
theorem dX4_findFault_83 : decode cX4_findFault 83 = .ok (.invokestatic 29, 3) := by decide +kernel
theorem dX4_findFault_86 : decode cX4_findFault 86 = .ok (.ifCond .ne 5, 3) := by decide +kernel
theorem dX4_findFault_89 : decode cX4_findFault 89 = .ok (.iload_n 3, 1) := by decide +kernel
theorem dX4_findFault_90 : decode cX4_findFault 90 = .ok (.ireturn, 1) := by decide +kernel
theorem dX4_findFault_91 : decode cX4_findFault 91 = .ok (.iload 5, 2) := by decide +kernel
theorem dX4_findFault_93 : decode cX4_findFault 93 = .ok (.ifCond .eq 6, 3) := by decide +kernel
theorem dX4_findFault_96 : decode cX4_findFault 96 = .ok (.iinc 1 1, 3) := by decide +kernel
theorem dX4_findFault_99 : decode cX4_findFault 99 = .ok (.goto 46, 3) := by decide +kernel
theorem dX4_findFault_102 : decode cX4_findFault 102 = .ok (.iload_n 1, 1) := by decide +kernel
theorem dX4_findFault_103 : decode cX4_findFault 103 = .ok (.iconst 1, 1) := by decide +kernel
theorem dX4_findFault_104 : decode cX4_findFault 104 = .ok (.if_icmp .ne 22, 3) := by decide +kernel
theorem dX4_findFault_107 : decode cX4_findFault 107 = .ok (.iload 4, 2) := by decide +kernel
theorem dX4_findFault_109 : decode cX4_findFault 109 = .ok (.bipush 45, 2) := by decide +kernel
theorem dX4_findFault_111 : decode cX4_findFault 111 = .ok (.if_icmp .eq 10, 3) := by decide +kernel
theorem dX4_findFault_114 : decode cX4_findFault 114 = .ok (.iload 4, 2) := by decide +kernel
theorem dX4_findFault_116 : decode cX4_findFault 116 = .ok (.bipush 120, 2) := by decide +kernel
theorem dX4_findFault_118 : decode cX4_findFault 118 = .ok (.if_icmp .ne 8, 3) := by decide +kernel
theorem dX4_findFault_121 : decode cX4_findFault 121 = .ok (.iconst 2, 1) := by decide +kernel
theorem dX4_findFault_122 : decode cX4_findFault 122 = .ok (.istore_n 1, 1) := by decide +kernel
theorem dX4_findFault_123 : decode cX4_findFault 123 = .ok (.goto 22, 3) := by decide +kernel
theorem dX4_findFault_126 : decode cX4_findFault 126 = .ok (.iload_n 1, 1) := by decide +kernel
theorem dX4_findFault_127 : decode cX4_findFault 127 = .ok (.iconst 3, 1) := by decide +kernel
theorem dX4_findFault_128 : decode cX4_findFault 128 = .ok (.if_icmp .ne 15, 3) := by decide +kernel
theorem dX4_findFault_131 : decode cX4_findFault 131 = .ok (.iload 4, 2) := by decide +kernel
theorem dX4_findFault_133 : decode cX4_findFault 133 = .ok (.bipush 44, 2) := by decide +kernel
theorem dX4_findFault_135 : decode cX4_findFault 135 = .ok (.if_icmp .ne 8, 3) := by decide +kernel
theorem dX4_findFault_138 : decode cX4_findFault 138 = .ok (.iconst 0, 1) := by decide +kernel
theorem dX4_findFault_139 : decode cX4_findFault 139 = .ok (.istore_n 1, 1) := by decide +kernel
theorem dX4_findFault_140 : decode cX4_findFault 140 = .ok (.goto 5, 3) := by decide +kernel
theorem dX4_findFault_143 : decode cX4_findFault 143 = .ok (.iload_n 3, 1) := by decide +kernel
theorem dX4_findFault_144 : decode cX4_findFault 144 = .ok (.ireturn, 1) := by decide +kernel
theorem dX4_findFault_145 : decode cX4_findFault 145 = .ok (.iinc 3 1, 3) := by decide +kernel
theorem dX4_findFault_148 : decode cX4_findFault 148 = .ok (.goto (-142), 3) := by decide +kernel
theorem dX4_findFault_151 : decode cX4_findFault 151 = .ok (.iload_n 1, 1) := by decide +kernel
theorem dX4_findFault_152 : decode cX4_findFault 152 = .ok (.iconst 3, 1) := by decide +kernel
theorem dX4_findFault_153 : decode cX4_findFault 153 = .ok (.if_icmp .ne 8, 3) := by decide +kernel
theorem dX4_findFault_156 : decode cX4_findFault 156 = .ok (.bipush (-6), 2) := by decide +kernel
theorem dX4_findFault_158 : decode cX4_findFault 158 = .ok (.goto 7, 3) := by decide +kernel
theorem dX4_findFault_161 : decode cX4_findFault 161 = .ok (.aload_n 0, 1) := by decide +kernel
theorem dX4_findFault_162 : decode cX4_findFault 162 = .ok (.getfield 15, 3) := by decide +kernel
theorem dX4_findFault_165 : decode cX4_findFault 165 = .ok (.ireturn, 1) := by decide +kernel
theorem dX5_init_0 : decode cX5_init 0 = .ok (.aload_n 0, 1) := by decide +kernel
theorem dX5_init_1 : decode cX5_init 1 = .ok (.invokespecial 1, 3) := by decide +kernel
theorem dX5_init_4 : decode cX5_init 4 = .ok (.aload_n 0, 1) := by decide +kernel
theorem dX5_init_5 : decode cX5_init 5 = .ok (.new 7, 3) := by decide +kernel
theorem dX5_init_8 : decode cX5_init 8 = .ok (.dup, 1) := by decide +kernel
theorem dX5_init_9 : decode cX5_init 9 = .ok (.invokespecial 9, 3) := by decide +kernel
theorem dX5_init_12 : decode cX5_init 12 = .ok (.putfield 10, 3) := by decide +kernel
theorem dX5_init_15 : decode cX5_init 15 = .ok (.aload_n 0, 1) := by decide +kernel
theorem dX5_init_16 : decode cX5_init 16 = .ok (.new 16, 3) := by decide +kernel
theorem dX5_init_19 : decode cX5_init 19 = .ok (.dup, 1) := by decide +kernel
theorem dX5_init_20 : decode cX5_init 20 = .ok (.invokespecial 18, 3) := by decide +kernel
theorem dX5_init_23 : decode cX5_init 23 = .ok (.putfield 19, 3) := by decide +kernel
theorem dX5_init_26 : decode cX5_init 26 = .ok (.aload_n 0, 1) := by decide +kernel
theorem dX5_init_27 : decode cX5_init 27 = .ok (.aload_n 1, 1) := by decide +kernel
theorem dX5_init_28 : decode cX5_init 28 = .ok (.putfield 23, 3) := by decide +kernel
theorem dX5_init_31 : decode cX5_init 31 = .ok (.return_, 1) := by decide +kernel
theorem dX5_tryHop_0 : decode cX5_tryHop 0 = .ok (.aload_n 0, 1) := by decide +kernel
theorem dX5_tryHop_1 : decode cX5_tryHop 1 = .ok (.getfield 23, 3) := by decide +kernel
theorem dX5_tryHop_4 : decode cX5_tryHop 4 = .ok (.ifnull 14, 3) := by decide +kernel
theorem dX5_tryHop_7 : decode cX5_tryHop 7 = .ok (.aload_n 0, 1) := by decide +kernel
theorem dX5_tryHop_8 : decode cX5_tryHop 8 = .ok (.getfield 19, 3) := by decide +kernel
theorem dX5_tryHop_11 : decode cX5_tryHop 11 = .ok (.iload_n 1, 1) := by decide +kernel
theorem dX5_tryHop_12 : decode cX5_tryHop 12 = .ok (.invokevirtual 27, 3) := by decide +kernel
theorem dX5_tryHop_15 : decode cX5_tryHop 15 = .ok (.ifCond .ne 4, 3) := by decide +kernel
theorem dX5_tryHop_18 : decode cX5_tryHop 18 = .ok (.return_, 1) := by decide +kernel
theorem dX5_tryHop_19 : decode cX5_tryHop 19 = .ok (.aload_n 0, 1) := by decide +kernel
theorem dX5_tryHop_20 : decode cX5_tryHop 20 = .ok (.getfield 23, 3) := by decide +kernel
theorem dX5_tryHop_23 : decode cX5_tryHop 23 = .ok (.getfield 10, 3) := by decide +kernel
theorem dX5_tryHop_26 : decode cX5_tryHop 26 = .ok (.aload_n 0, 1) := by decide +kernel
theorem dX5_tryHop_27 : decode cX5_tryHop 27 = .ok (.getfield 10, 3) := by decide +kernel
theorem dX5_tryHop_30 : decode cX5_tryHop 30 = .ok (.invokevirtual 31, 3) := by decide +kernel
theorem dX5_tryHop_33 : decode cX5_tryHop 33 = .ok (.aload_n 0, 1) := by decide +kernel
theorem dX5_tryHop_34 : decode cX5_tryHop 34 = .ok (.getfield 23, 3) := by decide +kernel
theorem dX5_tryHop_37 : decode cX5_tryHop 37 = .ok (.getfield 10, 3) := by decide +kernel
theorem dX5_tryHop_40 : decode cX5_tryHop 40 = .ok (.aload_n 0, 1) := by decide +kernel
theorem dX5_tryHop_41 : decode cX5_tryHop 41 = .ok (.getfield 19, 3) := by decide +kernel
theorem dX5_tryHop_44 : decode cX5_tryHop 44 = .ok (.iload_n 1, 1) := by decide +kernel
theorem dX5_tryHop_45 : decode cX5_tryHop 45 = .ok (.invokevirtual 35, 3) := by decide +kernel
theorem dX5_tryHop_48 : decode cX5_tryHop 48 = .ok (.return_, 1) := by decide +kernel
theorem dX6_init_0 : decode cX6_init 0 = .ok (.aload_n 0, 1) := by decide +kernel
theorem dX6_init_1 : decode cX6_init 1 = .ok (.invokespecial 1, 3) := by decide +kernel
theorem dX6_init_4 : decode cX6_init 4 = .ok (.aload_n 0, 1) := by decide +kernel
theorem dX6_init_5 : decode cX6_init 5 = .ok (.new 7, 3) := by decide +kernel
theorem dX6_init_8 : decode cX6_init 8 = .ok (.dup, 1) := by decide +kernel
theorem dX6_init_9 : decode cX6_init 9 = .ok (.invokespecial 9, 3) := by decide +kernel
theorem dX6_init_12 : decode cX6_init 12 = .ok (.putfield 10, 3) := by decide +kernel
theorem dX6_init_15 : decode cX6_init 15 = .ok (.aload_n 0, 1) := by decide +kernel
theorem dX6_init_16 : decode cX6_init 16 = .ok (.new 16, 3) := by decide +kernel
theorem dX6_init_19 : decode cX6_init 19 = .ok (.dup, 1) := by decide +kernel
theorem dX6_init_20 : decode cX6_init 20 = .ok (.invokespecial 18, 3) := by decide +kernel
theorem dX6_init_23 : decode cX6_init 23 = .ok (.putfield 19, 3) := by decide +kernel
theorem dX6_init_26 : decode cX6_init 26 = .ok (.aload_n 0, 1) := by decide +kernel
theorem dX6_init_27 : decode cX6_init 27 = .ok (.iconst 2, 1) := by decide +kernel
theorem dX6_init_28 : decode cX6_init 28 = .ok (.anewarray 7, 3) := by decide +kernel
theorem dX6_init_31 : decode cX6_init 31 = .ok (.putfield 23, 3) := by decide +kernel
theorem dX6_init_34 : decode cX6_init 34 = .ok (.aload_n 0, 1) := by decide +kernel
theorem dX6_init_35 : decode cX6_init 35 = .ok (.new 27, 3) := by decide +kernel
theorem dX6_init_38 : decode cX6_init 38 = .ok (.dup, 1) := by decide +kernel
theorem dX6_init_39 : decode cX6_init 39 = .ok (.invokespecial 29, 3) := by decide +kernel
theorem dX6_init_42 : decode cX6_init 42 = .ok (.putfield 30, 3) := by decide +kernel
theorem dX6_init_45 : decode cX6_init 45 = .ok (.aload_n 0, 1) := by decide +kernel
theorem dX6_init_46 : decode cX6_init 46 = .ok (.new 34, 3) := by decide +kernel
theorem dX6_init_49 : decode cX6_init 49 = .ok (.dup, 1) := by decide +kernel
theorem dX6_init_50 : decode cX6_init 50 = .ok (.new 34, 3) := by decide +kernel
theorem dX6_init_53 : decode cX6_init 53 = .ok (.dup, 1) := by decide +kernel
theorem dX6_init_54 : decode cX6_init 54 = .ok (.new 34, 3) := by decide +kernel
theorem dX6_init_57 : decode cX6_init 57 = .ok (.dup, 1) := by decide +kernel
theorem dX6_init_58 : decode cX6_init 58 = .ok (.aconst_null, 1) := by decide +kernel
theorem dX6_init_59 : decode cX6_init 59 = .ok (.invokespecial 36, 3) := by decide +kernel
theorem dX6_init_62 : decode cX6_init 62 = .ok (.invokespecial 36, 3) := by decide +kernel
theorem dX6_init_65 : decode cX6_init 65 = .ok (.invokespecial 36, 3) := by decide +kernel
theorem dX6_init_68 : decode cX6_init 68 = .ok (.putfield 39, 3) := by decide +kernel
theorem dX6_init_71 : decode cX6_init 71 = .ok (.aload_n 0, 1) := by decide +kernel
theorem dX6_init_72 : decode cX6_init 72 = .ok (.getfield 10, 3) := by decide +kernel
theorem dX6_init_75 : decode cX6_init 75 = .ok (.iconst 0, 1) := by decide +kernel
theorem dX6_init_76 : decode cX6_init 76 = .ok (.invokevirtual 43, 3) := by decide +kernel
theorem dX6_init_79 : decode cX6_init 79 = .ok (.return_, 1) := by decide +kernel
theorem dX6_clock_0 : decode cX6_clock 0 = .ok (.iload_n 1, 1) := by decide +kernel
theorem dX6_clock_1 : decode cX6_clock 1 = .ok (.bipush 10, 2) := by decide +kernel
theorem dX6_clock_3 : decode cX6_clock 3 = .ok (.if_icmp .lt 10, 3) := by decide +kernel
theorem dX6_clock_6 : decode cX6_clock 6 = .ok (.iload_n 1, 1) := by decide +kernel
theorem dX6_clock_7 : decode cX6_clock 7 = .ok (.sipush 9999, 3) := by decide +kernel
theorem dX6_clock_10 : decode cX6_clock 10 = .ok (.if_icmp .le 6, 3) := by decide +kernel
theorem dX6_clock_13 : decode cX6_clock 13 = .ok (.bipush (-2), 2) := by decide +kernel
theorem dX6_clock_15 : decode cX6_clock 15 = .ok (.ireturn, 1) := by decide +kernel
theorem dX6_clock_16 : decode cX6_clock 16 = .ok (.aload_n 0, 1) := by decide +kernel
theorem dX6_clock_17 : decode cX6_clock 17 = .ok (.getfield 19, 3) := by decide +kernel
theorem dX6_clock_20 : decode cX6_clock 20 = .ok (.aload_n 0, 1) := by decide +kernel
theorem dX6_clock_21 : decode cX6_clock 21 = .ok (.getfield 10, 3) := by decide +kernel
theorem dX6_clock_24 : decode cX6_clock 24 = .ok (.invokevirtual 47, 3) := by decide +kernel
theorem dX6_clock_27 : decode cX6_clock 27 = .ok (.aload_n 0, 1) := by decide +kernel
theorem dX6_clock_28 : decode cX6_clock 28 = .ok (.getfield 10, 3) := by decide +kernel
theorem dX6_clock_31 : decode cX6_clock 31 = .ok (.getfield 51, 3) := by decide +kernel
theorem dX6_clock_34 : decode cX6_clock 34 = .ok (.istore_n 2, 1) := by decide +kernel
theorem dX6_clock_35 : decode cX6_clock 35 = .ok (.aload_n 0, 1) := by decide +kernel
theorem dX6_clock_36 : decode cX6_clock 36 = .ok (.getfield 10, 3) := by decide +kernel
theorem dX6_clock_39 : decode cX6_clock 39 = .ok (.iload_n 1, 1) := by decide +kernel
theorem dX6_clock_40 : decode cX6_clock 40 = .ok (.putfield 51, 3) := by decide +kernel
theorem dX6_clock_43 : decode cX6_clock 43 = .ok (.iload_n 2, 1) := by decide +kernel
theorem dX6_clock_44 : decode cX6_clock 44 = .ok (.ireturn, 1) := by decide +kernel
theorem dX6_begin_0 : decode cX6_begin 0 = .ok (.aload_n 0, 1) := by decide +kernel
theorem dX6_begin_1 : decode cX6_begin 1 = .ok (.getfield 19, 3) := by decide +kernel
theorem dX6_begin_4 : decode cX6_begin 4 = .ok (.aload_n 0, 1) := by decide +kernel
theorem dX6_begin_5 : decode cX6_begin 5 = .ok (.getfield 10, 3) := by decide +kernel
theorem dX6_begin_8 : decode cX6_begin 8 = .ok (.invokevirtual 47, 3) := by decide +kernel
theorem dX6_begin_11 : decode cX6_begin 11 = .ok (.aload_n 0, 1) := by decide +kernel
theorem dX6_begin_12 : decode cX6_begin 12 = .ok (.getfield 10, 3) := by decide +kernel
theorem dX6_begin_15 : decode cX6_begin 15 = .ok (.iload_n 1, 1) := by decide +kernel
theorem dX6_begin_16 : decode cX6_begin 16 = .ok (.invokevirtual 43, 3) := by decide +kernel
theorem dX6_begin_19 : decode cX6_begin 19 = .ok (.aload_n 0, 1) := by decide +kernel
theorem dX6_begin_20 : decode cX6_begin 20 = .ok (.getfield 10, 3) := by decide +kernel
theorem dX6_begin_23 : decode cX6_begin 23 = .ok (.getfield 55, 3) := by decide +kernel
theorem dX6_begin_26 : decode cX6_begin 26 = .ok (.iconst 0, 1) := by decide +kernel
theorem dX6_begin_27 : decode cX6_begin 27 = .ok (.invokevirtual 59, 3) := by decide +kernel
theorem dX6_begin_30 : decode cX6_begin 30 = .ok (.aload_n 0, 1) := by decide +kernel
theorem dX6_begin_31 : decode cX6_begin 31 = .ok (.getfield 10, 3) := by decide +kernel
theorem dX6_begin_34 : decode cX6_begin 34 = .ok (.getfield 55, 3) := by decide +kernel
theorem dX6_begin_37 : decode cX6_begin 37 = .ok (.iconst 1, 1) := by decide +kernel
theorem dX6_begin_38 : decode cX6_begin 38 = .ok (.invokevirtual 59, 3) := by decide +kernel
theorem dX6_begin_41 : decode cX6_begin 41 = .ok (.iadd, 1) := by decide +kernel
theorem dX6_begin_42 : decode cX6_begin 42 = .ok (.ireturn, 1) := by decide +kernel
theorem dX6_set_0 : decode cX6_set 0 = .ok (.iload_n 1, 1) := by decide +kernel
theorem dX6_set_1 : decode cX6_set 1 = .ok (.invokestatic 65, 3) := by decide +kernel
theorem dX6_set_4 : decode cX6_set 4 = .ok (.ifCond .ne 5, 3) := by decide +kernel
theorem dX6_set_7 : decode cX6_set 7 = .ok (.iconst (-1), 1) := by decide +kernel
theorem dX6_set_8 : decode cX6_set 8 = .ok (.ireturn, 1) := by decide +kernel
theorem dX6_set_9 : decode cX6_set 9 = .ok (.iload_n 2, 1) := by decide +kernel
theorem dX6_set_10 : decode cX6_set 10 = .ok (.bipush (-6), 2) := by decide +kernel
theorem dX6_set_12 : decode cX6_set 12 = .ok (.if_icmp .eq 13, 3) := by decide +kernel
theorem dX6_set_15 : decode cX6_set 15 = .ok (.iload_n 2, 1) := by decide +kernel
theorem dX6_set_16 : decode cX6_set 16 = .ok (.invokestatic 69, 3) := by decide +kernel
theorem dX6_set_19 : decode cX6_set 19 = .ok (.ifCond .ne 6, 3) := by decide +kernel
theorem dX6_set_22 : decode cX6_set 22 = .ok (.bipush (-2), 2) := by decide +kernel
theorem dX6_set_24 : decode cX6_set 24 = .ok (.ireturn, 1) := by decide +kernel
theorem dX6_set_25 : decode cX6_set 25 = .ok (.aload_n 0, 1) := by decide +kernel
theorem dX6_set_26 : decode cX6_set 26 = .ok (.getfield 10, 3) := by decide +kernel
theorem dX6_set_29 : decode cX6_set 29 = .ok (.getfield 55, 3) := by decide +kernel
theorem dX6_set_32 : decode cX6_set 32 = .ok (.iload_n 1, 1) := by decide +kernel
theorem dX6_set_33 : decode cX6_set 33 = .ok (.invokevirtual 72, 3) := by decide +kernel
theorem dX6_set_36 : decode cX6_set 36 = .ok (.istore_n 3, 1) := by decide +kernel
theorem dX6_set_37 : decode cX6_set 37 = .ok (.aload_n 0, 1) := by decide +kernel
theorem dX6_set_38 : decode cX6_set 38 = .ok (.iload_n 2, 1) := by decide +kernel
theorem dX6_set_39 : decode cX6_set 39 = .ok (.iload_n 3, 1) := by decide +kernel
theorem dX6_set_40 : decode cX6_set 40 = .ok (.invokevirtual 75, 3) := by decide +kernel
theorem dX6_set_43 : decode cX6_set 43 = .ok (.ifCond .eq 6, 3) := by decide +kernel
theorem dX6_set_46 : decode cX6_set 46 = .ok (.bipush (-4), 2) := by decide +kernel
theorem dX6_set_48 : decode cX6_set 48 = .ok (.ireturn, 1) := by decide +kernel
theorem dX6_set_49 : decode cX6_set 49 = .ok (.aload_n 0, 1) := by decide +kernel
theorem dX6_set_50 : decode cX6_set 50 = .ok (.getfield 19, 3) := by decide +kernel
theorem dX6_set_53 : decode cX6_set 53 = .ok (.aload_n 0, 1) := by decide +kernel
theorem dX6_set_54 : decode cX6_set 54 = .ok (.getfield 10, 3) := by decide +kernel
theorem dX6_set_57 : decode cX6_set 57 = .ok (.invokevirtual 47, 3) := by decide +kernel
theorem dX6_set_60 : decode cX6_set 60 = .ok (.aload_n 0, 1) := by decide +kernel
theorem dX6_set_61 : decode cX6_set 61 = .ok (.getfield 10, 3) := by decide +kernel
theorem dX6_set_64 : decode cX6_set 64 = .ok (.getfield 55, 3) := by decide +kernel
theorem dX6_set_67 : decode cX6_set 67 = .ok (.iload_n 1, 1) := by decide +kernel
theorem dX6_set_68 : decode cX6_set 68 = .ok (.iload_n 2, 1) := by decide +kernel
theorem dX6_set_69 : decode cX6_set 69 = .ok (.invokevirtual 79, 3) := by decide +kernel
theorem dX6_set_72 : decode cX6_set 72 = .ok (.aload_n 0, 1) := by decide +kernel
theorem dX6_set_73 : decode cX6_set 73 = .ok (.getfield 10, 3) := by decide +kernel
theorem dX6_set_76 : decode cX6_set 76 = .ok (.invokevirtual 83, 3) := by decide +kernel
theorem dX6_set_79 : decode cX6_set 79 = .ok (.iload_n 3, 1) := by decide +kernel
theorem dX6_set_80 : decode cX6_set 80 = .ok (.ireturn, 1) := by decide +kernel
theorem dX6_turn_0 : decode cX6_turn 0 = .ok (.iload_n 1, 1) := by decide +kernel
theorem dX6_turn_1 : decode cX6_turn 1 = .ok (.invokestatic 86, 3) := by decide +kernel
theorem dX6_turn_4 : decode cX6_turn 4 = .ok (.ifCond .ne 6, 3) := by decide +kernel
theorem dX6_turn_7 : decode cX6_turn 7 = .ok (.bipush (-2), 2) := by decide +kernel
theorem dX6_turn_9 : decode cX6_turn 9 = .ok (.ireturn, 1) := by decide +kernel
theorem dX6_turn_10 : decode cX6_turn 10 = .ok (.aload_n 0, 1) := by decide +kernel
theorem dX6_turn_11 : decode cX6_turn 11 = .ok (.getfield 19, 3) := by decide +kernel
theorem dX6_turn_14 : decode cX6_turn 14 = .ok (.aload_n 0, 1) := by decide +kernel
theorem dX6_turn_15 : decode cX6_turn 15 = .ok (.getfield 10, 3) := by decide +kernel
theorem dX6_turn_18 : decode cX6_turn 18 = .ok (.invokevirtual 47, 3) := by decide +kernel
theorem dX6_turn_21 : decode cX6_turn 21 = .ok (.aload_n 0, 1) := by decide +kernel
theorem dX6_turn_22 : decode cX6_turn 22 = .ok (.getfield 10, 3) := by decide +kernel
theorem dX6_turn_25 : decode cX6_turn 25 = .ok (.getfield 55, 3) := by decide +kernel
theorem dX6_turn_28 : decode cX6_turn 28 = .ok (.getfield 89, 3) := by decide +kernel
theorem dX6_turn_31 : decode cX6_turn 31 = .ok (.istore_n 2, 1) := by decide +kernel
theorem dX6_turn_32 : decode cX6_turn 32 = .ok (.aload_n 0, 1) := by decide +kernel
theorem dX6_turn_33 : decode cX6_turn 33 = .ok (.getfield 10, 3) := by decide +kernel
theorem dX6_turn_36 : decode cX6_turn 36 = .ok (.getfield 55, 3) := by decide +kernel
theorem dX6_turn_39 : decode cX6_turn 39 = .ok (.iload_n 1, 1) := by decide +kernel
theorem dX6_turn_40 : decode cX6_turn 40 = .ok (.putfield 89, 3) := by decide +kernel
theorem dX6_turn_43 : decode cX6_turn 43 = .ok (.aload_n 0, 1) := by decide +kernel
theorem dX6_turn_44 : decode cX6_turn 44 = .ok (.getfield 10, 3) := by decide +kernel
theorem dX6_turn_47 : decode cX6_turn 47 = .ok (.invokevirtual 83, 3) := by decide +kernel
theorem dX6_turn_50 : decode cX6_turn 50 = .ok (.iload_n 2, 1) := by decide +kernel
theorem dX6_turn_51 : decode cX6_turn 51 = .ok (.ireturn, 1) := by decide +kernel
theorem dX6_hop_0 : decode cX6_hop 0 = .ok (.aload_n 0, 1) := by decide +kernel
theorem dX6_hop_1 : decode cX6_hop 1 = .ok (.invokevirtual 92, 3) := by decide +kernel
theorem dX6_hop_4 : decode cX6_hop 4 = .ok (.astore_n 3, 1) := by decide +kernel
theorem dX6_hop_5 : decode cX6_hop 5 = .ok (.aload_n 3, 1) := by decide +kernel
theorem dX6_hop_6 : decode cX6_hop 6 = .ok (.iload_n 1, 1) := by decide +kernel
theorem dX6_hop_7 : decode cX6_hop 7 = .ok (.invokevirtual 96, 3) := by decide +kernel
theorem dX6_hop_10 : decode cX6_hop 10 = .ok (.ifCond .ne 5, 3) := by decide +kernel
theorem dX6_hop_13 : decode cX6_hop 13 = .ok (.iconst (-1), 1) := by decide +kernel
theorem dX6_hop_14 : decode cX6_hop 14 = .ok (.ireturn, 1) := by decide +kernel
theorem dX6_hop_15 : decode cX6_hop 15 = .ok (.iload_n 2, 1) := by decide +kernel
theorem dX6_hop_16 : decode cX6_hop 16 = .ok (.ifCond .lt 10, 3) := by decide +kernel
theorem dX6_hop_19 : decode cX6_hop 19 = .ok (.iload_n 2, 1) := by decide +kernel
theorem dX6_hop_20 : decode cX6_hop 20 = .ok (.sipush 9999, 3) := by decide +kernel
theorem dX6_hop_23 : decode cX6_hop 23 = .ok (.if_icmp .le 6, 3) := by decide +kernel
theorem dX6_hop_26 : decode cX6_hop 26 = .ok (.bipush (-2), 2) := by decide +kernel
theorem dX6_hop_28 : decode cX6_hop 28 = .ok (.ireturn, 1) := by decide +kernel
theorem dX6_hop_29 : decode cX6_hop 29 = .ok (.aload_n 0, 1) := by decide +kernel
theorem dX6_hop_30 : decode cX6_hop 30 = .ok (.getfield 19, 3) := by decide +kernel
theorem dX6_hop_33 : decode cX6_hop 33 = .ok (.aload_n 0, 1) := by decide +kernel
theorem dX6_hop_34 : decode cX6_hop 34 = .ok (.getfield 10, 3) := by decide +kernel
theorem dX6_hop_37 : decode cX6_hop 37 = .ok (.invokevirtual 47, 3) := by decide +kernel
theorem dX6_hop_40 : decode cX6_hop 40 = .ok (.aload_n 0, 1) := by decide +kernel
theorem dX6_hop_41 : decode cX6_hop 41 = .ok (.getfield 10, 3) := by decide +kernel
theorem dX6_hop_44 : decode cX6_hop 44 = .ok (.aload_n 3, 1) := by decide +kernel
theorem dX6_hop_45 : decode cX6_hop 45 = .ok (.iload_n 1, 1) := by decide +kernel
theorem dX6_hop_46 : decode cX6_hop 46 = .ok (.iload_n 2, 1) := by decide +kernel
theorem dX6_hop_47 : decode cX6_hop 47 = .ok (.invokevirtual 101, 3) := by decide +kernel
theorem dX6_hop_50 : decode cX6_hop 50 = .ok (.aload_n 0, 1) := by decide +kernel
theorem dX6_hop_51 : decode cX6_hop 51 = .ok (.getfield 10, 3) := by decide +kernel
theorem dX6_hop_54 : decode cX6_hop 54 = .ok (.getfield 105, 3) := by decide +kernel
theorem dX6_hop_57 : decode cX6_hop 57 = .ok (.ireturn, 1) := by decide +kernel
theorem dX6_play_0 : decode cX6_play 0 = .ok (.iload_n 1, 1) := by decide +kernel
theorem dX6_play_1 : decode cX6_play 1 = .ok (.invokestatic 65, 3) := by decide +kernel
theorem dX6_play_4 : decode cX6_play 4 = .ok (.ifCond .eq 10, 3) := by decide +kernel
theorem dX6_play_7 : decode cX6_play 7 = .ok (.iload_n 2, 1) := by decide +kernel
theorem dX6_play_8 : decode cX6_play 8 = .ok (.invokestatic 65, 3) := by decide +kernel
theorem dX6_play_11 : decode cX6_play 11 = .ok (.ifCond .ne 5, 3) := by decide +kernel
theorem dX6_play_14 : decode cX6_play 14 = .ok (.iconst (-1), 1) := by decide +kernel
theorem dX6_play_15 : decode cX6_play 15 = .ok (.ireturn, 1) := by decide +kernel
theorem dX6_play_16 : decode cX6_play 16 = .ok (.aload_n 0, 1) := by decide +kernel
theorem dX6_play_17 : decode cX6_play 17 = .ok (.invokevirtual 92, 3) := by decide +kernel
theorem dX6_play_20 : decode cX6_play 20 = .ok (.astore_n 3, 1) := by decide +kernel
theorem dX6_play_21 : decode cX6_play 21 = .ok (.aload_n 3, 1) := by decide +kernel
theorem dX6_play_22 : decode cX6_play 22 = .ok (.iload_n 1, 1) := by decide +kernel
theorem dX6_play_23 : decode cX6_play 23 = .ok (.iload_n 2, 1) := by decide +kernel
theorem dX6_play_24 : decode cX6_play 24 = .ok (.invokevirtual 108, 3) := by decide +kernel
theorem dX6_play_27 : decode cX6_play 27 = .ok (.istore 4, 2) := by decide +kernel
theorem dX6_play_29 : decode cX6_play 29 = .ok (.iload 4, 2) := by decide +kernel
theorem dX6_play_31 : decode cX6_play 31 = .ok (.bipush (-6), 2) := by decide +kernel
theorem dX6_play_33 : decode cX6_play 33 = .ok (.if_icmp .ne 6, 3) := by decide +kernel
theorem dX6_play_36 : decode cX6_play 36 = .ok (.bipush (-5), 2) := by decide +kernel
theorem dX6_play_38 : decode cX6_play 38 = .ok (.ireturn, 1) := by decide +kernel
theorem dX6_play_39 : decode cX6_play 39 = .ok (.aload_n 0, 1) := by decide +kernel
theorem dX6_play_40 : decode cX6_play 40 = .ok (.getfield 19, 3) := by decide +kernel
theorem dX6_play_43 : decode cX6_play 43 = .ok (.aload_n 0, 1) := by decide +kernel
theorem dX6_play_44 : decode cX6_play 44 = .ok (.getfield 10, 3) := by decide +kernel
theorem dX6_play_47 : decode cX6_play 47 = .ok (.invokevirtual 47, 3) := by decide +kernel
theorem dX6_play_50 : decode cX6_play 50 = .ok (.aload_n 0, 1) := by decide +kernel
theorem dX6_play_51 : decode cX6_play 51 = .ok (.getfield 10, 3) := by decide +kernel
theorem dX6_play_54 : decode cX6_play 54 = .ok (.aload_n 3, 1) := by decide +kernel
theorem dX6_play_55 : decode cX6_play 55 = .ok (.iload 4, 2) := by decide +kernel
theorem dX6_play_57 : decode cX6_play 57 = .ok (.iconst 0, 1) := by decide +kernel
theorem dX6_play_58 : decode cX6_play 58 = .ok (.invokevirtual 101, 3) := by decide +kernel
theorem dX6_play_61 : decode cX6_play 61 = .ok (.aload_n 0, 1) := by decide +kernel
theorem dX6_play_62 : decode cX6_play 62 = .ok (.getfield 10, 3) := by decide +kernel
theorem dX6_play_65 : decode cX6_play 65 = .ok (.getfield 105, 3) := by decide +kernel
theorem dX6_play_68 : decode cX6_play 68 = .ok (.ireturn, 1) := by decide +kernel
theorem dX6_playAll_0 : decode cX6_playAll 0 = .ok (.aload_n 0, 1) := by decide +kernel
theorem dX6_playAll_1 : decode cX6_playAll 1 = .ok (.getfield 30, 3) := by decide +kernel
theorem dX6_playAll_4 : decode cX6_playAll 4 = .ok (.invokevirtual 112, 3) := by decide +kernel
theorem dX6_playAll_7 : decode cX6_playAll 7 = .ok (.bipush (-6), 2) := by decide +kernel
theorem dX6_playAll_9 : decode cX6_playAll 9 = .ok (.if_icmp .eq 6, 3) := by decide +kernel
theorem dX6_playAll_12 : decode cX6_playAll 12 = .ok (.bipush (-3), 2) := by decide +kernel
theorem dX6_playAll_14 : decode cX6_playAll 14 = .ok (.ireturn, 1) := by decide +kernel
theorem dX6_playAll_15 : decode cX6_playAll 15 = .ok (.aload_n 0, 1) := by decide +kernel
theorem dX6_playAll_16 : decode cX6_playAll 16 = .ok (.getfield 19, 3) := by decide +kernel
theorem dX6_playAll_19 : decode cX6_playAll 19 = .ok (.aload_n 0, 1) := by decide +kernel
theorem dX6_playAll_20 : decode cX6_playAll 20 = .ok (.getfield 10, 3) := by decide +kernel
theorem dX6_playAll_23 : decode cX6_playAll 23 = .ok (.invokevirtual 47, 3) := by decide +kernel
theorem dX6_playAll_26 : decode cX6_playAll 26 = .ok (.iconst 0, 1) := by decide +kernel
theorem dX6_playAll_27 : decode cX6_playAll 27 = .ok (.istore_n 1, 1) := by decide +kernel
theorem dX6_playAll_28 : decode cX6_playAll 28 = .ok (.iconst 0, 1) := by decide +kernel
theorem dX6_playAll_29 : decode cX6_playAll 29 = .ok (.istore_n 2, 1) := by decide +kernel
theorem dX6_playAll_30 : decode cX6_playAll 30 = .ok (.iconst 0, 1) := by decide +kernel
theorem dX6_playAll_31 : decode cX6_playAll 31 = .ok (.istore_n 3, 1) := by decide +kernel
theorem dX6_playAll_32 : decode cX6_playAll 32 = .ok (.iconst 0, 1) := by decide +kernel
theorem dX6_playAll_33 : decode cX6_playAll 33 = .ok (.istore 4, 2) := by decide +kernel
theorem dX6_playAll_35 : decode cX6_playAll 35 = .ok (.iconst 0, 1) := by decide +kernel
theorem dX6_playAll_36 : decode cX6_playAll 36 = .ok (.istore 5, 2) := by decide +kernel
theorem dX6_playAll_38 : decode cX6_playAll 38 = .ok (.iload 5, 2) := by decide +kernel
theorem dX6_playAll_40 : decode cX6_playAll 40 = .ok (.aload_n 0, 1) := by decide +kernel
theorem dX6_playAll_41 : decode cX6_playAll 41 = .ok (.getfield 30, 3) := by decide +kernel
theorem dX6_playAll_44 : decode cX6_playAll 44 = .ok (.getfield 116, 3) := by decide +kernel
theorem dX6_playAll_47 : decode cX6_playAll 47 = .ok (.if_icmp .gt 95, 3) := by decide +kernel
theorem dX6_playAll_50 : decode cX6_playAll 50 = .ok (.aload_n 0, 1) := by decide +kernel
theorem dX6_playAll_51 : decode cX6_playAll 51 = .ok (.getfield 30, 3) := by decide +kernel
theorem dX6_playAll_54 : decode cX6_playAll 54 = .ok (.iload 5, 2) := by decide +kernel
theorem dX6_playAll_56 : decode cX6_playAll 56 = .ok (.invokevirtual 119, 3) := by decide +kernel
theorem dX6_playAll_59 : decode cX6_playAll 59 = .ok (.istore 6, 2) := by decide +kernel
theorem dX6_playAll_61 : decode cX6_playAll 61 = .ok (.iload 6, 2) := by decide +kernel
theorem dX6_playAll_63 : decode cX6_playAll 63 = .ok (.bipush 44, 2) := by decide +kernel
theorem dX6_playAll_65 : decode cX6_playAll 65 = .ok (.if_icmp .ne 25, 3) := by decide +kernel
theorem dX6_playAll_68 : decode cX6_playAll 68 = .ok (.aload_n 0, 1) := by decide +kernel
theorem dX6_playAll_69 : decode cX6_playAll 69 = .ok (.iload_n 2, 1) := by decide +kernel
theorem dX6_playAll_70 : decode cX6_playAll 70 = .ok (.iload_n 3, 1) := by decide +kernel
theorem dX6_playAll_71 : decode cX6_playAll 71 = .ok (.iload 4, 2) := by decide +kernel
theorem dX6_playAll_73 : decode cX6_playAll 73 = .ok (.invokevirtual 123, 3) := by decide +kernel
theorem dX6_playAll_76 : decode cX6_playAll 76 = .ok (.ifCond .ne 6, 3) := by decide +kernel
theorem dX6_playAll_79 : decode cX6_playAll 79 = .ok (.goto 63, 3) := by decide +kernel
theorem dX6_playAll_82 : decode cX6_playAll 82 = .ok (.iinc 1 1, 3) := by decide +kernel
theorem dX6_playAll_85 : decode cX6_playAll 85 = .ok (.iconst 0, 1) := by decide +kernel
theorem dX6_playAll_86 : decode cX6_playAll 86 = .ok (.istore_n 3, 1) := by decide +kernel
theorem dX6_playAll_87 : decode cX6_playAll 87 = .ok (.goto 49, 3) := by decide +kernel
theorem dX6_playAll_90 : decode cX6_playAll 90 = .ok (.iload 6, 2) := by decide +kernel
theorem dX6_playAll_92 : decode cX6_playAll 92 = .ok (.bipush 45, 2) := by decide +kernel
theorem dX6_playAll_94 : decode cX6_playAll 94 = .ok (.if_icmp .eq 10, 3) := by decide +kernel
theorem dX6_playAll_97 : decode cX6_playAll 97 = .ok (.iload 6, 2) := by decide +kernel
theorem dX6_playAll_99 : decode cX6_playAll 99 = .ok (.bipush 120, 2) := by decide +kernel
theorem dX6_playAll_101 : decode cX6_playAll 101 = .ok (.if_icmp .ne 24, 3) := by decide +kernel
theorem dX6_playAll_104 : decode cX6_playAll 104 = .ok (.iload_n 3, 1) := by decide +kernel
theorem dX6_playAll_105 : decode cX6_playAll 105 = .ok (.istore_n 2, 1) := by decide +kernel
theorem dX6_playAll_106 : decode cX6_playAll 106 = .ok (.iload 6, 2) := by decide +kernel
theorem dX6_playAll_108 : decode cX6_playAll 108 = .ok (.bipush 120, 2) := by decide +kernel
theorem dX6_playAll_110 : decode cX6_playAll 110 = .ok (.if_icmp .ne 7, 3) := by decide +kernel
theorem dX6_playAll_113 : decode cX6_playAll 113 = .ok (.iconst 1, 1) := by decide +kernel
theorem dX6_playAll_114 : decode cX6_playAll 114 = .ok (.goto 4, 3) := by decide +kernel
theorem dX6_playAll_117 : decode cX6_playAll 117 = .ok (.iconst 0, 1) := by decide +kernel
theorem dX6_playAll_118 : decode cX6_playAll 118 = .ok (.istore 4, 2) := by decide +kernel
theorem dX6_playAll_120 : decode cX6_playAll 120 = .ok (.iconst 0, 1) := by decide +kernel
theorem dX6_playAll_121 : decode cX6_playAll 121 = .ok (.istore_n 3, 1) := by decide +kernel
theorem dX6_playAll_122 : decode cX6_playAll 122 = .ok (.goto 14, 3) := by decide +kernel
theorem dX6_playAll_125 : decode cX6_playAll 125 = .ok (.iload_n 3, 1) := by decide +kernel
theorem dX6_playAll_126 : decode cX6_playAll 126 = .ok (.bipush 10, 2) := by decide +kernel
theorem dX6_playAll_128 : decode cX6_playAll 128 = .ok (.imul, 1) := by decide +kernel
theorem dX6_playAll_129 : decode cX6_playAll 129 = .ok (.iload 6, 2) := by decide +kernel
theorem dX6_playAll_131 : decode cX6_playAll 131 = .ok (.bipush 48, 2) := by decide +kernel
theorem dX6_playAll_133 : decode cX6_playAll 133 = .ok (.isub, 1) := by decide +kernel
theorem dX6_playAll_134 : decode cX6_playAll 134 = .ok (.iadd, 1) := by decide +kernel
theorem dX6_playAll_135 : decode cX6_playAll 135 = .ok (.istore_n 3, 1) := by decide +kernel
theorem dX6_playAll_136 : decode cX6_playAll 136 = .ok (.iinc 5 1, 3) := by decide +kernel
theorem dX6_playAll_139 : decode cX6_playAll 139 = .ok (.goto (-101), 3) := by decide +kernel
theorem dX6_playAll_142 : decode cX6_playAll 142 = .ok (.aload_n 0, 1) := by decide +kernel
theorem dX6_playAll_143 : decode cX6_playAll 143 = .ok (.getfield 30, 3) := by decide +kernel
theorem dX6_playAll_146 : decode cX6_playAll 146 = .ok (.iconst 0, 1) := by decide +kernel
theorem dX6_playAll_147 : decode cX6_playAll 147 = .ok (.putfield 116, 3) := by decide +kernel
theorem dX6_playAll_150 : decode cX6_playAll 150 = .ok (.iload_n 1, 1) := by decide +kernel
theorem dX6_playAll_151 : decode cX6_playAll 151 = .ok (.ireturn, 1) := by decide +kernel
theorem dX6_giveUp_0 : decode cX6_giveUp 0 = .ok (.aload_n 0, 1) := by decide +kernel
theorem dX6_giveUp_1 : decode cX6_giveUp 1 = .ok (.getfield 10, 3) := by decide +kernel
theorem dX6_giveUp_4 : decode cX6_giveUp 4 = .ok (.getfield 105, 3) := by decide +kernel
theorem dX6_giveUp_7 : decode cX6_giveUp 7 = .ok (.ifCond .eq 6, 3) := by decide +kernel
theorem dX6_giveUp_10 : decode cX6_giveUp 10 = .ok (.bipush (-5), 2) := by decide +kernel
theorem dX6_giveUp_12 : decode cX6_giveUp 12 = .ok (.ireturn, 1) := by decide +kernel
theorem dX6_giveUp_13 : decode cX6_giveUp 13 = .ok (.aload_n 0, 1) := by decide +kernel
theorem dX6_giveUp_14 : decode cX6_giveUp 14 = .ok (.getfield 19, 3) := by decide +kernel
theorem dX6_giveUp_17 : decode cX6_giveUp 17 = .ok (.aload_n 0, 1) := by decide +kernel
theorem dX6_giveUp_18 : decode cX6_giveUp 18 = .ok (.getfield 10, 3) := by decide +kernel
theorem dX6_giveUp_21 : decode cX6_giveUp 21 = .ok (.invokevirtual 47, 3) := by decide +kernel
theorem dX6_giveUp_24 : decode cX6_giveUp 24 = .ok (.aload_n 0, 1) := by decide +kernel
theorem dX6_giveUp_25 : decode cX6_giveUp 25 = .ok (.getfield 10, 3) := by decide +kernel
theorem dX6_giveUp_28 : decode cX6_giveUp 28 = .ok (.iconst 1, 1) := by decide +kernel
theorem dX6_giveUp_29 : decode cX6_giveUp 29 = .ok (.aload_n 0, 1) := by decide +kernel
theorem dX6_giveUp_30 : decode cX6_giveUp 30 = .ok (.getfield 10, 3) := by decide +kernel
theorem dX6_giveUp_33 : decode cX6_giveUp 33 = .ok (.getfield 55, 3) := by decide +kernel
theorem dX6_giveUp_36 : decode cX6_giveUp 36 = .ok (.getfield 89, 3) := by decide +kernel
theorem dX6_giveUp_39 : decode cX6_giveUp 39 = .ok (.isub, 1) := by decide +kernel
theorem dX6_giveUp_40 : decode cX6_giveUp 40 = .ok (.invokestatic 127, 3) := by decide +kernel
theorem dX6_giveUp_43 : decode cX6_giveUp 43 = .ok (.putfield 105, 3) := by decide +kernel
theorem dX6_giveUp_46 : decode cX6_giveUp 46 = .ok (.aload_n 0, 1) := by decide +kernel
theorem dX6_giveUp_47 : decode cX6_giveUp 47 = .ok (.getfield 10, 3) := by decide +kernel
theorem dX6_giveUp_50 : decode cX6_giveUp 50 = .ok (.getfield 105, 3) := by decide +kernel
theorem dX6_giveUp_53 : decode cX6_giveUp 53 = .ok (.ireturn, 1) := by decide +kernel
theorem dX6_square_0 : decode cX6_square 0 = .ok (.iload_n 1, 1) := by decide +kernel
theorem dX6_square_1 : decode cX6_square 1 = .ok (.invokestatic 65, 3) := by decide +kernel
theorem dX6_square_4 : decode cX6_square 4 = .ok (.ifCond .ne 5, 3) := by decide +kernel
theorem dX6_square_7 : decode cX6_square 7 = .ok (.iconst (-1), 1) := by decide +kernel
theorem dX6_square_8 : decode cX6_square 8 = .ok (.ireturn, 1) := by decide +kernel
theorem dX6_square_9 : decode cX6_square 9 = .ok (.iload_n 2, 1) := by decide +kernel
theorem dX6_square_10 : decode cX6_square 10 = .ok (.tableswitch 74 0 4 #[34, 46, 51, 56, 65], 34) := by decide +kernel
theorem dX6_square_44 : decode cX6_square 44 = .ok (.aload_n 0, 1) := by decide +kernel
theorem dX6_square_45 : decode cX6_square 45 = .ok (.getfield 10, 3) := by decide +kernel
theorem dX6_square_48 : decode cX6_square 48 = .ok (.getfield 55, 3) := by decide +kernel
theorem dX6_square_51 : decode cX6_square 51 = .ok (.iload_n 1, 1) := by decide +kernel
theorem dX6_square_52 : decode cX6_square 52 = .ok (.invokevirtual 72, 3) := by decide +kernel
theorem dX6_square_55 : decode cX6_square 55 = .ok (.ireturn, 1) := by decide +kernel
theorem dX6_square_56 : decode cX6_square 56 = .ok (.iload_n 1, 1) := by decide +kernel
theorem dX6_square_57 : decode cX6_square 57 = .ok (.invokestatic 130, 3) := by decide +kernel
theorem dX6_square_60 : decode cX6_square 60 = .ok (.ireturn, 1) := by decide +kernel
theorem dX6_square_61 : decode cX6_square 61 = .ok (.iload_n 1, 1) := by decide +kernel
theorem dX6_square_62 : decode cX6_square 62 = .ok (.invokestatic 133, 3) := by decide +kernel
theorem dX6_square_65 : decode cX6_square 65 = .ok (.ireturn, 1) := by decide +kernel
theorem dX6_square_66 : decode cX6_square 66 = .ok (.aload_n 0, 1) := by decide +kernel
theorem dX6_square_67 : decode cX6_square 67 = .ok (.iload_n 1, 1) := by decide +kernel
theorem dX6_square_68 : decode cX6_square 68 = .ok (.invokevirtual 136, 3) := by decide +kernel
theorem dX6_square_71 : decode cX6_square 71 = .ok (.invokestatic 139, 3) := by decide +kernel
theorem dX6_square_74 : decode cX6_square 74 = .ok (.ireturn, 1) := by decide +kernel
theorem dX6_square_75 : decode cX6_square 75 = .ok (.aload_n 0, 1) := by decide +kernel
theorem dX6_square_76 : decode cX6_square 76 = .ok (.invokevirtual 92, 3) := by decide +kernel
theorem dX6_square_79 : decode cX6_square 79 = .ok (.iload_n 1, 1) := by decide +kernel
theorem dX6_square_80 : decode cX6_square 80 = .ok (.invokevirtual 143, 3) := by decide +kernel
theorem dX6_square_83 : decode cX6_square 83 = .ok (.ireturn, 1) := by decide +kernel
theorem dX6_square_84 : decode cX6_square 84 = .ok (.bipush (-2), 2) := by decide +kernel
theorem dX6_square_86 : decode cX6_square 86 = .ok (.ireturn, 1) := by decide +kernel
theorem dX6_step_0 : decode cX6_step 0 = .ok (.iload_n 1, 1) := by decide +kernel
theorem dX6_step_1 : decode cX6_step 1 = .ok (.invokestatic 65, 3) := by decide +kernel
theorem dX6_step_4 : decode cX6_step 4 = .ok (.ifCond .ne 5, 3) := by decide +kernel
theorem dX6_step_7 : decode cX6_step 7 = .ok (.iconst (-1), 1) := by decide +kernel
theorem dX6_step_8 : decode cX6_step 8 = .ok (.ireturn, 1) := by decide +kernel
theorem dX6_step_9 : decode cX6_step 9 = .ok (.iload_n 2, 1) := by decide +kernel
theorem dX6_step_10 : decode cX6_step 10 = .ok (.ifCond .lt 8, 3) := by decide +kernel
theorem dX6_step_13 : decode cX6_step 13 = .ok (.iload_n 2, 1) := by decide +kernel
theorem dX6_step_14 : decode cX6_step 14 = .ok (.iconst 4, 1) := by decide +kernel
theorem dX6_step_15 : decode cX6_step 15 = .ok (.if_icmp .lt 6, 3) := by decide +kernel
theorem dX6_step_18 : decode cX6_step 18 = .ok (.bipush (-2), 2) := by decide +kernel
theorem dX6_step_20 : decode cX6_step 20 = .ok (.ireturn, 1) := by decide +kernel
theorem dX6_step_21 : decode cX6_step 21 = .ok (.iload_n 1, 1) := by decide +kernel
theorem dX6_step_22 : decode cX6_step 22 = .ok (.iload_n 2, 1) := by decide +kernel
theorem dX6_step_23 : decode cX6_step 23 = .ok (.iconst 1, 1) := by decide +kernel
theorem dX6_step_24 : decode cX6_step 24 = .ok (.invokestatic 146, 3) := by decide +kernel
theorem dX6_step_27 : decode cX6_step 27 = .ok (.ireturn, 1) := by decide +kernel
theorem dX6_ofHop_0 : decode cX6_ofHop 0 = .ok (.aload_n 0, 1) := by decide +kernel
theorem dX6_ofHop_1 : decode cX6_ofHop 1 = .ok (.invokevirtual 92, 3) := by decide +kernel
theorem dX6_ofHop_4 : decode cX6_ofHop 4 = .ok (.astore_n 3, 1) := by decide +kernel
theorem dX6_ofHop_5 : decode cX6_ofHop 5 = .ok (.aload_n 3, 1) := by decide +kernel
theorem dX6_ofHop_6 : decode cX6_ofHop 6 = .ok (.iload_n 1, 1) := by decide +kernel
theorem dX6_ofHop_7 : decode cX6_ofHop 7 = .ok (.invokevirtual 96, 3) := by decide +kernel
theorem dX6_ofHop_10 : decode cX6_ofHop 10 = .ok (.ifCond .ne 5, 3) := by decide +kernel
theorem dX6_ofHop_13 : decode cX6_ofHop 13 = .ok (.iconst (-1), 1) := by decide +kernel
theorem dX6_ofHop_14 : decode cX6_ofHop 14 = .ok (.ireturn, 1) := by decide +kernel
theorem dX6_ofHop_15 : decode cX6_ofHop 15 = .ok (.iload_n 2, 1) := by decide +kernel
theorem dX6_ofHop_16 : decode cX6_ofHop 16 = .ok (.tableswitch 115 0 6 #[44, 50, 56, 62, 68, 74, 106], 44) := by decide +kernel
theorem dX6_ofHop_60 : decode cX6_ofHop 60 = .ok (.aload_n 3, 1) := by decide +kernel
theorem dX6_ofHop_61 : decode cX6_ofHop 61 = .ok (.iload_n 1, 1) := by decide +kernel
theorem dX6_ofHop_62 : decode cX6_ofHop 62 = .ok (.invokevirtual 150, 3) := by decide +kernel
theorem dX6_ofHop_65 : decode cX6_ofHop 65 = .ok (.ireturn, 1) := by decide +kernel
theorem dX6_ofHop_66 : decode cX6_ofHop 66 = .ok (.aload_n 3, 1) := by decide +kernel
theorem dX6_ofHop_67 : decode cX6_ofHop 67 = .ok (.iload_n 1, 1) := by decide +kernel
theorem dX6_ofHop_68 : decode cX6_ofHop 68 = .ok (.invokevirtual 153, 3) := by decide +kernel
theorem dX6_ofHop_71 : decode cX6_ofHop 71 = .ok (.ireturn, 1) := by decide +kernel
theorem dX6_ofHop_72 : decode cX6_ofHop 72 = .ok (.aload_n 3, 1) := by decide +kernel
theorem dX6_ofHop_73 : decode cX6_ofHop 73 = .ok (.iload_n 1, 1) := by decide +kernel
theorem dX6_ofHop_74 : decode cX6_ofHop 74 = .ok (.invokevirtual 156, 3) := by decide +kernel
theorem dX6_ofHop_77 : decode cX6_ofHop 77 = .ok (.ireturn, 1) := by decide +kernel
theorem dX6_ofHop_78 : decode cX6_ofHop 78 = .ok (.aload_n 3, 1) := by decide +kernel
theorem dX6_ofHop_79 : decode cX6_ofHop 79 = .ok (.iload_n 1, 1) := by decide +kernel
theorem dX6_ofHop_80 : decode cX6_ofHop 80 = .ok (.invokevirtual 159, 3) := by decide +kernel
theorem dX6_ofHop_83 : decode cX6_ofHop 83 = .ok (.ireturn, 1) := by decide +kernel
theorem dX6_ofHop_84 : decode cX6_ofHop 84 = .ok (.aload_n 3, 1) := by decide +kernel
theorem dX6_ofHop_85 : decode cX6_ofHop 85 = .ok (.iload_n 1, 1) := by decide +kernel
theorem dX6_ofHop_86 : decode cX6_ofHop 86 = .ok (.invokevirtual 162, 3) := by decide +kernel
theorem dX6_ofHop_89 : decode cX6_ofHop 89 = .ok (.ireturn, 1) := by decide +kernel
theorem dX6_ofHop_90 : decode cX6_ofHop 90 = .ok (.aload_n 0, 1) := by decide +kernel
theorem dX6_ofHop_91 : decode cX6_ofHop 91 = .ok (.getfield 10, 3) := by decide +kernel
theorem dX6_ofHop_94 : decode cX6_ofHop 94 = .ok (.getfield 55, 3) := by decide +kernel
theorem dX6_ofHop_97 : decode cX6_ofHop 97 = .ok (.aload_n 3, 1) := by decide +kernel
theorem dX6_ofHop_98 : decode cX6_ofHop 98 = .ok (.iload_n 1, 1) := by decide +kernel
theorem dX6_ofHop_99 : decode cX6_ofHop 99 = .ok (.invokevirtual 150, 3) := by decide +kernel
theorem dX6_ofHop_102 : decode cX6_ofHop 102 = .ok (.invokevirtual 72, 3) := by decide +kernel
theorem dX6_ofHop_105 : decode cX6_ofHop 105 = .ok (.aload_n 3, 1) := by decide +kernel
theorem dX6_ofHop_106 : decode cX6_ofHop 106 = .ok (.iload_n 1, 1) := by decide +kernel
theorem dX6_ofHop_107 : decode cX6_ofHop 107 = .ok (.invokevirtual 150, 3) := by decide +kernel
theorem dX6_ofHop_110 : decode cX6_ofHop 110 = .ok (.aload_n 3, 1) := by decide +kernel
theorem dX6_ofHop_111 : decode cX6_ofHop 111 = .ok (.iload_n 1, 1) := by decide +kernel
theorem dX6_ofHop_112 : decode cX6_ofHop 112 = .ok (.invokevirtual 159, 3) := by decide +kernel
theorem dX6_ofHop_115 : decode cX6_ofHop 115 = .ok (.invokestatic 165, 3) := by decide +kernel
theorem dX6_ofHop_118 : decode cX6_ofHop 118 = .ok (.invokestatic 139, 3) := by decide +kernel
theorem dX6_ofHop_121 : decode cX6_ofHop 121 = .ok (.ireturn, 1) := by decide +kernel
theorem dX6_ofHop_122 : decode cX6_ofHop 122 = .ok (.aload_n 0, 1) := by decide +kernel
theorem dX6_ofHop_123 : decode cX6_ofHop 123 = .ok (.iload_n 1, 1) := by decide +kernel
theorem dX6_ofHop_124 : decode cX6_ofHop 124 = .ok (.invokevirtual 169, 3) := by decide +kernel
theorem dX6_ofHop_127 : decode cX6_ofHop 127 = .ok (.invokestatic 139, 3) := by decide +kernel
theorem dX6_ofHop_130 : decode cX6_ofHop 130 = .ok (.ireturn, 1) := by decide +kernel
theorem dX6_ofHop_131 : decode cX6_ofHop 131 = .ok (.bipush (-2), 2) := by decide +kernel
theorem dX6_ofHop_133 : decode cX6_ofHop 133 = .ok (.ireturn, 1) := by decide +kernel
theorem dX6_side_0 : decode cX6_side 0 = .ok (.iload_n 1, 1) := by decide +kernel
theorem dX6_side_1 : decode cX6_side 1 = .ok (.invokestatic 86, 3) := by decide +kernel
theorem dX6_side_4 : decode cX6_side 4 = .ok (.ifCond .ne 6, 3) := by decide +kernel
theorem dX6_side_7 : decode cX6_side 7 = .ok (.bipush (-2), 2) := by decide +kernel
theorem dX6_side_9 : decode cX6_side 9 = .ok (.ireturn, 1) := by decide +kernel
theorem dX6_side_10 : decode cX6_side 10 = .ok (.iload_n 2, 1) := by decide +kernel
theorem dX6_side_11 : decode cX6_side 11 = .ok (.tableswitch 89 0 4 #[33, 45, 57, 67, 77], 33) := by decide +kernel
theorem dX6_side_44 : decode cX6_side 44 = .ok (.aload_n 0, 1) := by decide +kernel
theorem dX6_side_45 : decode cX6_side 45 = .ok (.getfield 10, 3) := by decide +kernel
theorem dX6_side_48 : decode cX6_side 48 = .ok (.getfield 55, 3) := by decide +kernel
theorem dX6_side_51 : decode cX6_side 51 = .ok (.iload_n 1, 1) := by decide +kernel
theorem dX6_side_52 : decode cX6_side 52 = .ok (.invokevirtual 172, 3) := by decide +kernel
theorem dX6_side_55 : decode cX6_side 55 = .ok (.ireturn, 1) := by decide +kernel
theorem dX6_side_56 : decode cX6_side 56 = .ok (.aload_n 0, 1) := by decide +kernel
theorem dX6_side_57 : decode cX6_side 57 = .ok (.getfield 10, 3) := by decide +kernel
