theorem dX0_init_0 : decode cX0_init 0 = .ok (.aload_n 0, 1) := by decide +kernel
theorem dX0_init_1 : decode cX0_init 1 = .ok (.invokespecial 3, 3) := by decide +kernel
theorem dX0_init_4 : decode cX0_init 4 = .ok (.aload_n 0, 1) := by decide +kernel
theorem dX0_init_5 : decode cX0_init 5 = .ok (.new 9, 3) := by decide +kernel
theorem dX0_init_8 : decode cX0_init 8 = .ok (.dup, 1) := by decide +kernel
theorem dX0_init_9 : decode cX0_init 9 = .ok (.bipush 12, 2) := by decide +kernel
theorem dX0_init_11 : decode cX0_init 11 = .ok (.invokespecial 11, 3) := by decide +kernel
theorem dX0_init_14 : decode cX0_init 14 = .ok (.putfield 14, 3) := by decide +kernel
theorem dX0_init_17 : decode cX0_init 17 = .ok (.aload_n 0, 1) := by decide +kernel
theorem dX0_init_18 : decode cX0_init 18 = .ok (.new 9, 3) := by decide +kernel
theorem dX0_init_21 : decode cX0_init 21 = .ok (.dup, 1) := by decide +kernel
theorem dX0_init_22 : decode cX0_init 22 = .ok (.bipush 24, 2) := by decide +kernel
theorem dX0_init_24 : decode cX0_init 24 = .ok (.invokespecial 11, 3) := by decide +kernel
theorem dX0_init_27 : decode cX0_init 27 = .ok (.putfield 20, 3) := by decide +kernel
theorem dX0_init_30 : decode cX0_init 30 = .ok (.aload_n 0, 1) := by decide +kernel
theorem dX0_init_31 : decode cX0_init 31 = .ok (.invokevirtual 23, 3) := by decide +kernel
theorem dX0_init_34 : decode cX0_init 34 = .ok (.return_, 1) := by decide +kernel
set_option maxRecDepth 20000 in
theorem ggX0_empty_X1_drop : GoodIn wsX0_empty wsX1_drop := goodIn_r _ [11, 12, 19, 20] (by decide +kernel) (by decide +kernel)
set_option maxRecDepth 20000 in
theorem gX0_empty_X1_drop : GoodIn wsX0_empty (wsV RX0 26 RX1 yX1_drop wsX1_drop) := goodIn_app (goodIn_of _ (by decide +kernel)) ggX0_empty_X1_drop
theorem dX0_empty_0 : decode cX0_empty 0 = .ok (.aload_n 0, 1) := by decide +kernel
theorem dX0_empty_1 : decode cX0_empty 1 = .ok (.getfield 14, 3) := by decide +kernel
theorem dX0_empty_4 : decode cX0_empty 4 = .ok (.invokevirtual 26, 3) := by decide +kernel
theorem dX0_empty_7 : decode cX0_empty 7 = .ok (.aload_n 0, 1) := by decide +kernel
theorem dX0_empty_8 : decode cX0_empty 8 = .ok (.getfield 20, 3) := by decide +kernel
theorem dX0_empty_11 : decode cX0_empty 11 = .ok (.invokevirtual 26, 3) := by decide +kernel
theorem dX0_empty_14 : decode cX0_empty 14 = .ok (.aload_n 0, 1) := by decide +kernel
theorem dX0_empty_15 : decode cX0_empty 15 = .ok (.iconst 0, 1) := by decide +kernel
theorem dX0_empty_16 : decode cX0_empty 16 = .ok (.putfield 29, 3) := by decide +kernel
theorem dX0_empty_19 : decode cX0_empty 19 = .ok (.aload_n 0, 1) := by decide +kernel
theorem dX0_empty_20 : decode cX0_empty 20 = .ok (.bipush 10, 2) := by decide +kernel
theorem dX0_empty_22 : decode cX0_empty 22 = .ok (.putfield 33, 3) := by decide +kernel
theorem dX0_empty_25 : decode cX0_empty 25 = .ok (.aload_n 0, 1) := by decide +kernel
theorem dX0_empty_26 : decode cX0_empty 26 = .ok (.iconst 1, 1) := by decide +kernel
theorem dX0_empty_27 : decode cX0_empty 27 = .ok (.putfield 36, 3) := by decide +kernel
theorem dX0_empty_30 : decode cX0_empty 30 = .ok (.aload_n 0, 1) := by decide +kernel
theorem dX0_empty_31 : decode cX0_empty 31 = .ok (.iconst 0, 1) := by decide +kernel
theorem dX0_empty_32 : decode cX0_empty 32 = .ok (.putfield 39, 3) := by decide +kernel
theorem dX0_empty_35 : decode cX0_empty 35 = .ok (.return_, 1) := by decide +kernel
set_option maxRecDepth 20000 in
theorem ggX0_copy_X1_copy : GoodIn wsX0_copy wsX1_copy := goodIn_r _ [11, 12, 13, 14, 15, 10, 16, 17, 18, 19, 20, 21, 22, 23, 24, 25, 32, 33] (by decide +kernel) (by decide +kernel)
set_option maxRecDepth 20000 in
theorem gX0_copy_X1_copy : GoodIn wsX0_copy (wsV RX0 42 RX1 yX1_copy wsX1_copy) := goodIn_app (goodIn_of _ (by decide +kernel)) ggX0_copy_X1_copy
theorem dX0_copy_0 : decode cX0_copy 0 = .ok (.aload_n 0, 1) := by decide +kernel
theorem dX0_copy_1 : decode cX0_copy 1 = .ok (.getfield 14, 3) := by decide +kernel
theorem dX0_copy_4 : decode cX0_copy 4 = .ok (.aload_n 1, 1) := by decide +kernel
theorem dX0_copy_5 : decode cX0_copy 5 = .ok (.getfield 14, 3) := by decide +kernel
theorem dX0_copy_8 : decode cX0_copy 8 = .ok (.invokevirtual 42, 3) := by decide +kernel
theorem dX0_copy_11 : decode cX0_copy 11 = .ok (.aload_n 0, 1) := by decide +kernel
theorem dX0_copy_12 : decode cX0_copy 12 = .ok (.getfield 20, 3) := by decide +kernel
theorem dX0_copy_15 : decode cX0_copy 15 = .ok (.aload_n 1, 1) := by decide +kernel
theorem dX0_copy_16 : decode cX0_copy 16 = .ok (.getfield 20, 3) := by decide +kernel
theorem dX0_copy_19 : decode cX0_copy 19 = .ok (.invokevirtual 42, 3) := by decide +kernel
theorem dX0_copy_22 : decode cX0_copy 22 = .ok (.aload_n 0, 1) := by decide +kernel
theorem dX0_copy_23 : decode cX0_copy 23 = .ok (.aload_n 1, 1) := by decide +kernel
theorem dX0_copy_24 : decode cX0_copy 24 = .ok (.getfield 29, 3) := by decide +kernel
theorem dX0_copy_27 : decode cX0_copy 27 = .ok (.putfield 29, 3) := by decide +kernel
theorem dX0_copy_30 : decode cX0_copy 30 = .ok (.aload_n 0, 1) := by decide +kernel
theorem dX0_copy_31 : decode cX0_copy 31 = .ok (.aload_n 1, 1) := by decide +kernel
theorem dX0_copy_32 : decode cX0_copy 32 = .ok (.getfield 33, 3) := by decide +kernel
theorem dX0_copy_35 : decode cX0_copy 35 = .ok (.putfield 33, 3) := by decide +kernel
theorem dX0_copy_38 : decode cX0_copy 38 = .ok (.aload_n 0, 1) := by decide +kernel
theorem dX0_copy_39 : decode cX0_copy 39 = .ok (.aload_n 1, 1) := by decide +kernel
theorem dX0_copy_40 : decode cX0_copy 40 = .ok (.getfield 36, 3) := by decide +kernel
theorem dX0_copy_43 : decode cX0_copy 43 = .ok (.putfield 36, 3) := by decide +kernel
theorem dX0_copy_46 : decode cX0_copy 46 = .ok (.aload_n 0, 1) := by decide +kernel
theorem dX0_copy_47 : decode cX0_copy 47 = .ok (.aload_n 1, 1) := by decide +kernel
theorem dX0_copy_48 : decode cX0_copy 48 = .ok (.getfield 39, 3) := by decide +kernel
theorem dX0_copy_51 : decode cX0_copy 51 = .ok (.putfield 39, 3) := by decide +kernel
theorem dX0_copy_54 : decode cX0_copy 54 = .ok (.return_, 1) := by decide +kernel
set_option maxRecDepth 20000 in
theorem ggX0_addCliff_X6_isCliff : GoodIn wsX0_addCliff wsX6_isCliff := goodIn_r _ [4, 5, 6, 3, 7, 8, 9, 10] (by decide +kernel) (by decide +kernel)
set_option maxRecDepth 20000 in
theorem gX0_addCliff_X6_isCliff_n46 : GoodIn wsX0_addCliff (wsX6_isCliff) := ggX0_addCliff_X6_isCliff
set_option maxRecDepth 20000 in
theorem ggX0_addCliff_X1_addThree : GoodIn wsX0_addCliff wsX1_addThree := goodIn_r _ [15, 16, 17, 18, 19, 20, 14, 21, 28, 29] (by decide +kernel) (by decide +kernel)
set_option maxRecDepth 20000 in
theorem gX0_addCliff_X1_addThree : GoodIn wsX0_addCliff (wsV RX0 50 RX1 yX1_addThree wsX1_addThree) := goodIn_app (goodIn_of _ (by decide +kernel)) ggX0_addCliff_X1_addThree
theorem dX0_addCliff_0 : decode cX0_addCliff 0 = .ok (.iload_n 1, 1) := by decide +kernel
theorem dX0_addCliff_1 : decode cX0_addCliff 1 = .ok (.iload_n 2, 1) := by decide +kernel
theorem dX0_addCliff_2 : decode cX0_addCliff 2 = .ok (.iload_n 3, 1) := by decide +kernel
theorem dX0_addCliff_3 : decode cX0_addCliff 3 = .ok (.invokestatic 46, 3) := by decide +kernel
theorem dX0_addCliff_6 : decode cX0_addCliff 6 = .ok (.ifCond .eq 20, 3) := by decide +kernel
theorem dX0_addCliff_9 : decode cX0_addCliff 9 = .ok (.aload_n 0, 1) := by decide +kernel
theorem dX0_addCliff_10 : decode cX0_addCliff 10 = .ok (.getfield 14, 3) := by decide +kernel
theorem dX0_addCliff_13 : decode cX0_addCliff 13 = .ok (.iload_n 1, 1) := by decide +kernel
theorem dX0_addCliff_14 : decode cX0_addCliff 14 = .ok (.iload_n 2, 1) := by decide +kernel
theorem dX0_addCliff_15 : decode cX0_addCliff 15 = .ok (.iload_n 3, 1) := by decide +kernel
theorem dX0_addCliff_16 : decode cX0_addCliff 16 = .ok (.invokevirtual 50, 3) := by decide +kernel
theorem dX0_addCliff_19 : decode cX0_addCliff 19 = .ok (.ifCond .eq 7, 3) := by decide +kernel
theorem dX0_addCliff_22 : decode cX0_addCliff 22 = .ok (.iconst 1, 1) := by decide +kernel
theorem dX0_addCliff_23 : decode cX0_addCliff 23 = .ok (.goto 4, 3) := by decide +kernel
theorem dX0_addCliff_26 : decode cX0_addCliff 26 = .ok (.iconst 0, 1) := by decide +kernel
theorem dX0_addCliff_27 : decode cX0_addCliff 27 = .ok (.ireturn, 1) := by decide +kernel
set_option maxRecDepth 20000 in
theorem ggX0_addWord_X6_isWord : GoodIn wsX0_addWord wsX6_isWord := goodIn_r _ [4, 5, 6, 3, 7] (by decide +kernel) (by decide +kernel)
set_option maxRecDepth 20000 in
theorem gX0_addWord_X6_isWord_n53 : GoodIn wsX0_addWord (wsX6_isWord) := ggX0_addWord_X6_isWord
set_option maxRecDepth 20000 in
theorem ggX0_addWord_X1_addThree : GoodIn wsX0_addWord wsX1_addThree := goodIn_r _ [12, 13, 14, 15, 16, 17, 11, 18, 25, 26] (by decide +kernel) (by decide +kernel)
set_option maxRecDepth 20000 in
theorem gX0_addWord_X1_addThree : GoodIn wsX0_addWord (wsV RX0 50 RX1 yX1_addThree wsX1_addThree) := goodIn_app (goodIn_of _ (by decide +kernel)) ggX0_addWord_X1_addThree
theorem dX0_addWord_0 : decode cX0_addWord 0 = .ok (.iload_n 1, 1) := by decide +kernel
theorem dX0_addWord_1 : decode cX0_addWord 1 = .ok (.iload_n 2, 1) := by decide +kernel
theorem dX0_addWord_2 : decode cX0_addWord 2 = .ok (.iload_n 3, 1) := by decide +kernel
theorem dX0_addWord_3 : decode cX0_addWord 3 = .ok (.invokestatic 53, 3) := by decide +kernel
theorem dX0_addWord_6 : decode cX0_addWord 6 = .ok (.ifCond .eq 20, 3) := by decide +kernel
theorem dX0_addWord_9 : decode cX0_addWord 9 = .ok (.aload_n 0, 1) := by decide +kernel
theorem dX0_addWord_10 : decode cX0_addWord 10 = .ok (.getfield 20, 3) := by decide +kernel
theorem dX0_addWord_13 : decode cX0_addWord 13 = .ok (.iload_n 1, 1) := by decide +kernel
theorem dX0_addWord_14 : decode cX0_addWord 14 = .ok (.iload_n 2, 1) := by decide +kernel
theorem dX0_addWord_15 : decode cX0_addWord 15 = .ok (.iload_n 3, 1) := by decide +kernel
theorem dX0_addWord_16 : decode cX0_addWord 16 = .ok (.invokevirtual 50, 3) := by decide +kernel
theorem dX0_addWord_19 : decode cX0_addWord 19 = .ok (.ifCond .eq 7, 3) := by decide +kernel
theorem dX0_addWord_22 : decode cX0_addWord 22 = .ok (.iconst 1, 1) := by decide +kernel
theorem dX0_addWord_23 : decode cX0_addWord 23 = .ok (.goto 4, 3) := by decide +kernel
theorem dX0_addWord_26 : decode cX0_addWord 26 = .ok (.iconst 0, 1) := by decide +kernel
theorem dX0_addWord_27 : decode cX0_addWord 27 = .ok (.ireturn, 1) := by decide +kernel
set_option maxRecDepth 20000 in
theorem ggX0_setSpeaker_X6_isYard : GoodIn wsX0_setSpeaker wsX6_isYard := goodIn_r _ [4, 5, 6, 3, 7] (by decide +kernel) (by decide +kernel)
set_option maxRecDepth 20000 in
theorem gX0_setSpeaker_X6_isYard_n56 : GoodIn wsX0_setSpeaker (wsX6_isYard) := ggX0_setSpeaker_X6_isYard
theorem dX0_setSpeaker_0 : decode cX0_setSpeaker 0 = .ok (.aload_n 0, 1) := by decide +kernel
theorem dX0_setSpeaker_1 : decode cX0_setSpeaker 1 = .ok (.iload_n 1, 1) := by decide +kernel
theorem dX0_setSpeaker_2 : decode cX0_setSpeaker 2 = .ok (.putfield 29, 3) := by decide +kernel
theorem dX0_setSpeaker_5 : decode cX0_setSpeaker 5 = .ok (.iload_n 1, 1) := by decide +kernel
theorem dX0_setSpeaker_6 : decode cX0_setSpeaker 6 = .ok (.invokestatic 56, 3) := by decide +kernel
theorem dX0_setSpeaker_9 : decode cX0_setSpeaker 9 = .ok (.ireturn, 1) := by decide +kernel
set_option maxRecDepth 20000 in
theorem ggX0_setHearer_X6_isYard : GoodIn wsX0_setHearer wsX6_isYard := goodIn_r _ [4, 5, 6, 3, 7] (by decide +kernel) (by decide +kernel)
set_option maxRecDepth 20000 in
theorem gX0_setHearer_X6_isYard_n56 : GoodIn wsX0_setHearer (wsX6_isYard) := ggX0_setHearer_X6_isYard
theorem dX0_setHearer_0 : decode cX0_setHearer 0 = .ok (.aload_n 0, 1) := by decide +kernel
theorem dX0_setHearer_1 : decode cX0_setHearer 1 = .ok (.iload_n 1, 1) := by decide +kernel
theorem dX0_setHearer_2 : decode cX0_setHearer 2 = .ok (.putfield 33, 3) := by decide +kernel
theorem dX0_setHearer_5 : decode cX0_setHearer 5 = .ok (.iload_n 1, 1) := by decide +kernel
theorem dX0_setHearer_6 : decode cX0_setHearer 6 = .ok (.invokestatic 56, 3) := by decide +kernel
theorem dX0_setHearer_9 : decode cX0_setHearer 9 = .ok (.ireturn, 1) := by decide +kernel
set_option maxRecDepth 20000 in
theorem ggX0_setAir_X6_within : GoodIn wsX0_setAir wsX6_within := goodIn_r _ [4] (by decide +kernel) (by decide +kernel)
set_option maxRecDepth 20000 in
theorem gX0_setAir_X6_within_n60 : GoodIn wsX0_setAir (wsX6_within) := ggX0_setAir_X6_within
theorem dX0_setAir_0 : decode cX0_setAir 0 = .ok (.aload_n 0, 1) := by decide +kernel
theorem dX0_setAir_1 : decode cX0_setAir 1 = .ok (.iload_n 1, 1) := by decide +kernel
theorem dX0_setAir_2 : decode cX0_setAir 2 = .ok (.putfield 36, 3) := by decide +kernel
theorem dX0_setAir_5 : decode cX0_setAir 5 = .ok (.iload_n 1, 1) := by decide +kernel
theorem dX0_setAir_6 : decode cX0_setAir 6 = .ok (.iconst 1, 1) := by decide +kernel
theorem dX0_setAir_7 : decode cX0_setAir 7 = .ok (.bipush 9, 2) := by decide +kernel
theorem dX0_setAir_9 : decode cX0_setAir 9 = .ok (.invokestatic 60, 3) := by decide +kernel
theorem dX0_setAir_12 : decode cX0_setAir 12 = .ok (.ireturn, 1) := by decide +kernel
set_option maxRecDepth 20000 in
theorem ggX0_moveCliff_X1_set : GoodIn wsX0_moveCliff wsX1_set := goodIn_r _ [6, 7, 8, 15, 16] (by decide +kernel) (by decide +kernel)
set_option maxRecDepth 20000 in
theorem gX0_moveCliff_X1_set : GoodIn wsX0_moveCliff (wsV RX0 63 RX1 yX1_set wsX1_set) := goodIn_app (goodIn_of _ (by decide +kernel)) ggX0_moveCliff_X1_set
theorem dX0_moveCliff_0 : decode cX0_moveCliff 0 = .ok (.aload_n 0, 1) := by decide +kernel
theorem dX0_moveCliff_1 : decode cX0_moveCliff 1 = .ok (.getfield 14, 3) := by decide +kernel
theorem dX0_moveCliff_4 : decode cX0_moveCliff 4 = .ok (.iconst 3, 1) := by decide +kernel
theorem dX0_moveCliff_5 : decode cX0_moveCliff 5 = .ok (.iload_n 1, 1) := by decide +kernel
theorem dX0_moveCliff_6 : decode cX0_moveCliff 6 = .ok (.imul, 1) := by decide +kernel
theorem dX0_moveCliff_7 : decode cX0_moveCliff 7 = .ok (.iconst 0, 1) := by decide +kernel
theorem dX0_moveCliff_8 : decode cX0_moveCliff 8 = .ok (.iadd, 1) := by decide +kernel
theorem dX0_moveCliff_9 : decode cX0_moveCliff 9 = .ok (.iload_n 2, 1) := by decide +kernel
theorem dX0_moveCliff_10 : decode cX0_moveCliff 10 = .ok (.invokevirtual 63, 3) := by decide +kernel
theorem dX0_moveCliff_13 : decode cX0_moveCliff 13 = .ok (.return_, 1) := by decide +kernel
set_option maxRecDepth 20000 in
theorem ggX0_cliffCount_X1_size : GoodIn wsX0_cliffCount wsX1_size := goodIn_r _ [6, 7, 14, 15] (by decide +kernel) (by decide +kernel)
set_option maxRecDepth 20000 in
theorem gX0_cliffCount_X1_size : GoodIn wsX0_cliffCount (wsV RX0 67 RX1 yX1_size wsX1_size) := goodIn_app (goodIn_of _ (by decide +kernel)) ggX0_cliffCount_X1_size
theorem dX0_cliffCount_0 : decode cX0_cliffCount 0 = .ok (.aload_n 0, 1) := by decide +kernel
theorem dX0_cliffCount_1 : decode cX0_cliffCount 1 = .ok (.getfield 14, 3) := by decide +kernel
theorem dX0_cliffCount_4 : decode cX0_cliffCount 4 = .ok (.invokevirtual 67, 3) := by decide +kernel
theorem dX0_cliffCount_7 : decode cX0_cliffCount 7 = .ok (.iconst 3, 1) := by decide +kernel
theorem dX0_cliffCount_8 : decode cX0_cliffCount 8 = .ok (.idiv, 1) := by decide +kernel
theorem dX0_cliffCount_9 : decode cX0_cliffCount 9 = .ok (.ireturn, 1) := by decide +kernel
set_option maxRecDepth 20000 in
theorem ggX0_wordCount_X1_size : GoodIn wsX0_wordCount wsX1_size := goodIn_r _ [6, 7, 14, 15] (by decide +kernel) (by decide +kernel)
set_option maxRecDepth 20000 in
theorem gX0_wordCount_X1_size : GoodIn wsX0_wordCount (wsV RX0 67 RX1 yX1_size wsX1_size) := goodIn_app (goodIn_of _ (by decide +kernel)) ggX0_wordCount_X1_size
theorem dX0_wordCount_0 : decode cX0_wordCount 0 = .ok (.aload_n 0, 1) := by decide +kernel
theorem dX0_wordCount_1 : decode cX0_wordCount 1 = .ok (.getfield 20, 3) := by decide +kernel
theorem dX0_wordCount_4 : decode cX0_wordCount 4 = .ok (.invokevirtual 67, 3) := by decide +kernel
theorem dX0_wordCount_7 : decode cX0_wordCount 7 = .ok (.iconst 3, 1) := by decide +kernel
theorem dX0_wordCount_8 : decode cX0_wordCount 8 = .ok (.idiv, 1) := by decide +kernel
theorem dX0_wordCount_9 : decode cX0_wordCount 9 = .ok (.ireturn, 1) := by decide +kernel
set_option maxRecDepth 20000 in
theorem ggX0_allCliffs_X0_cliffCount : GoodIn wsX0_allCliffs wsX0_cliffCount := goodIn_r _ [5, 6, 7, 8, 9, 10, 11, 12, 13, 14, 15, 16, 17, 18, 19, 20] (by decide +kernel) (by decide +kernel)
set_option maxRecDepth 20000 in
theorem gX0_allCliffs_X0_cliffCount : GoodIn wsX0_allCliffs (wsV RX0 71 RX0 yX0_cliffCount wsX0_cliffCount) := goodIn_app (goodIn_of _ (by decide +kernel)) ggX0_allCliffs_X0_cliffCount
theorem dX0_allCliffs_0 : decode cX0_allCliffs 0 = .ok (.iconst 1, 1) := by decide +kernel
theorem dX0_allCliffs_1 : decode cX0_allCliffs 1 = .ok (.aload_n 0, 1) := by decide +kernel
theorem dX0_allCliffs_2 : decode cX0_allCliffs 2 = .ok (.invokevirtual 71, 3) := by decide +kernel
theorem dX0_allCliffs_5 : decode cX0_allCliffs 5 = .ok (.ishl, 1) := by decide +kernel
theorem dX0_allCliffs_6 : decode cX0_allCliffs 6 = .ok (.iconst 1, 1) := by decide +kernel
theorem dX0_allCliffs_7 : decode cX0_allCliffs 7 = .ok (.isub, 1) := by decide +kernel
theorem dX0_allCliffs_8 : decode cX0_allCliffs 8 = .ok (.ireturn, 1) := by decide +kernel
set_option maxRecDepth 20000 in
theorem ggX0_allWords_X0_wordCount : GoodIn wsX0_allWords wsX0_wordCount := goodIn_r _ [5, 6, 7, 8, 9, 10, 11, 12, 13, 14, 15, 16, 17, 18, 19, 20] (by decide +kernel) (by decide +kernel)
set_option maxRecDepth 20000 in
theorem gX0_allWords_X0_wordCount : GoodIn wsX0_allWords (wsV RX0 74 RX0 yX0_wordCount wsX0_wordCount) := goodIn_app (goodIn_of _ (by decide +kernel)) ggX0_allWords_X0_wordCount
theorem dX0_allWords_0 : decode cX0_allWords 0 = .ok (.iconst 1, 1) := by decide +kernel
theorem dX0_allWords_1 : decode cX0_allWords 1 = .ok (.aload_n 0, 1) := by decide +kernel
theorem dX0_allWords_2 : decode cX0_allWords 2 = .ok (.invokevirtual 74, 3) := by decide +kernel
theorem dX0_allWords_5 : decode cX0_allWords 5 = .ok (.ishl, 1) := by decide +kernel
theorem dX0_allWords_6 : decode cX0_allWords 6 = .ok (.iconst 1, 1) := by decide +kernel
theorem dX0_allWords_7 : decode cX0_allWords 7 = .ok (.isub, 1) := by decide +kernel
theorem dX0_allWords_8 : decode cX0_allWords 8 = .ok (.ireturn, 1) := by decide +kernel
set_option maxRecDepth 20000 in
theorem ggX0_cliffPart_X1_at : GoodIn wsX0_cliffPart wsX1_at := goodIn_r _ [6, 7, 8, 15, 16] (by decide +kernel) (by decide +kernel)
set_option maxRecDepth 20000 in
theorem gX0_cliffPart_X1_at : GoodIn wsX0_cliffPart (wsV RX0 77 RX1 yX1_at wsX1_at) := goodIn_app (goodIn_of _ (by decide +kernel)) ggX0_cliffPart_X1_at
theorem dX0_cliffPart_0 : decode cX0_cliffPart 0 = .ok (.aload_n 0, 1) := by decide +kernel
theorem dX0_cliffPart_1 : decode cX0_cliffPart 1 = .ok (.getfield 14, 3) := by decide +kernel
theorem dX0_cliffPart_4 : decode cX0_cliffPart 4 = .ok (.iconst 3, 1) := by decide +kernel
theorem dX0_cliffPart_5 : decode cX0_cliffPart 5 = .ok (.iload_n 1, 1) := by decide +kernel
theorem dX0_cliffPart_6 : decode cX0_cliffPart 6 = .ok (.imul, 1) := by decide +kernel
theorem dX0_cliffPart_7 : decode cX0_cliffPart 7 = .ok (.iload_n 2, 1) := by decide +kernel
theorem dX0_cliffPart_8 : decode cX0_cliffPart 8 = .ok (.iadd, 1) := by decide +kernel
theorem dX0_cliffPart_9 : decode cX0_cliffPart 9 = .ok (.invokevirtual 77, 3) := by decide +kernel
theorem dX0_cliffPart_12 : decode cX0_cliffPart 12 = .ok (.ireturn, 1) := by decide +kernel
set_option maxRecDepth 20000 in
theorem ggX0_wordPart_X1_at : GoodIn wsX0_wordPart wsX1_at := goodIn_r _ [6, 7, 8, 15, 16] (by decide +kernel) (by decide +kernel)
set_option maxRecDepth 20000 in
theorem gX0_wordPart_X1_at : GoodIn wsX0_wordPart (wsV RX0 77 RX1 yX1_at wsX1_at) := goodIn_app (goodIn_of _ (by decide +kernel)) ggX0_wordPart_X1_at
theorem dX0_wordPart_0 : decode cX0_wordPart 0 = .ok (.aload_n 0, 1) := by decide +kernel
theorem dX0_wordPart_1 : decode cX0_wordPart 1 = .ok (.getfield 20, 3) := by decide +kernel
theorem dX0_wordPart_4 : decode cX0_wordPart 4 = .ok (.iconst 3, 1) := by decide +kernel
theorem dX0_wordPart_5 : decode cX0_wordPart 5 = .ok (.iload_n 1, 1) := by decide +kernel
theorem dX0_wordPart_6 : decode cX0_wordPart 6 = .ok (.imul, 1) := by decide +kernel
theorem dX0_wordPart_7 : decode cX0_wordPart 7 = .ok (.iload_n 2, 1) := by decide +kernel
theorem dX0_wordPart_8 : decode cX0_wordPart 8 = .ok (.iadd, 1) := by decide +kernel
theorem dX0_wordPart_9 : decode cX0_wordPart 9 = .ok (.invokevirtual 77, 3) := by decide +kernel
theorem dX0_wordPart_12 : decode cX0_wordPart 12 = .ok (.ireturn, 1) := by decide +kernel
theorem dX0_hasSnow_0 : decode cX0_hasSnow 0 = .ok (.aload_n 0, 1) := by decide +kernel
theorem dX0_hasSnow_1 : decode cX0_hasSnow 1 = .ok (.getfield 39, 3) := by decide +kernel
theorem dX0_hasSnow_4 : decode cX0_hasSnow 4 = .ok (.iload_n 1, 1) := by decide +kernel
theorem dX0_hasSnow_5 : decode cX0_hasSnow 5 = .ok (.ishr, 1) := by decide +kernel
theorem dX0_hasSnow_6 : decode cX0_hasSnow 6 = .ok (.iconst 1, 1) := by decide +kernel
theorem dX0_hasSnow_7 : decode cX0_hasSnow 7 = .ok (.iand, 1) := by decide +kernel
theorem dX0_hasSnow_8 : decode cX0_hasSnow 8 = .ok (.iconst 1, 1) := by decide +kernel
theorem dX0_hasSnow_9 : decode cX0_hasSnow 9 = .ok (.if_icmp .ne 7, 3) := by decide +kernel
theorem dX0_hasSnow_12 : decode cX0_hasSnow 12 = .ok (.iconst 1, 1) := by decide +kernel
theorem dX0_hasSnow_13 : decode cX0_hasSnow 13 = .ok (.goto 4, 3) := by decide +kernel
theorem dX0_hasSnow_16 : decode cX0_hasSnow 16 = .ok (.iconst 0, 1) := by decide +kernel
theorem dX0_hasSnow_17 : decode cX0_hasSnow 17 = .ok (.ireturn, 1) := by decide +kernel
theorem dX1_init_0 : decode cX1_init 0 = .ok (.aload_n 0, 1) := by decide +kernel
theorem dX1_init_1 : decode cX1_init 1 = .ok (.invokespecial 3, 3) := by decide +kernel
theorem dX1_init_4 : decode cX1_init 4 = .ok (.aload_n 0, 1) := by decide +kernel
theorem dX1_init_5 : decode cX1_init 5 = .ok (.iload_n 1, 1) := by decide +kernel
theorem dX1_init_6 : decode cX1_init 6 = .ok (.iconst 0, 1) := by decide +kernel
theorem dX1_init_7 : decode cX1_init 7 = .ok (.invokestatic 9, 3) := by decide +kernel
theorem dX1_init_10 : decode cX1_init 10 = .ok (.newarray .int, 2) := by decide +kernel
theorem dX1_init_12 : decode cX1_init 12 = .ok (.putfield 15, 3) := by decide +kernel
theorem dX1_init_15 : decode cX1_init 15 = .ok (.return_, 1) := by decide +kernel
theorem dX1_size_0 : decode cX1_size 0 = .ok (.aload_n 0, 1) := by decide +kernel
theorem dX1_size_1 : decode cX1_size 1 = .ok (.getfield 21, 3) := by decide +kernel
theorem dX1_size_4 : decode cX1_size 4 = .ok (.ireturn, 1) := by decide +kernel
theorem dX1_at_0 : decode cX1_at 0 = .ok (.iload_n 1, 1) := by decide +kernel
theorem dX1_at_1 : decode cX1_at 1 = .ok (.ifCond .lt 29, 3) := by decide +kernel
theorem dX1_at_4 : decode cX1_at 4 = .ok (.iload_n 1, 1) := by decide +kernel
theorem dX1_at_5 : decode cX1_at 5 = .ok (.aload_n 0, 1) := by decide +kernel
theorem dX1_at_6 : decode cX1_at 6 = .ok (.getfield 21, 3) := by decide +kernel
theorem dX1_at_9 : decode cX1_at 9 = .ok (.if_icmp .ge 21, 3) := by decide +kernel
theorem dX1_at_12 : decode cX1_at 12 = .ok (.iload_n 1, 1) := by decide +kernel
theorem dX1_at_13 : decode cX1_at 13 = .ok (.aload_n 0, 1) := by decide +kernel
theorem dX1_at_14 : decode cX1_at 14 = .ok (.getfield 15, 3) := by decide +kernel
theorem dX1_at_17 : decode cX1_at 17 = .ok (.arraylength, 1) := by decide +kernel
theorem dX1_at_18 : decode cX1_at 18 = .ok (.if_icmp .ge 12, 3) := by decide +kernel
theorem dX1_at_21 : decode cX1_at 21 = .ok (.aload_n 0, 1) := by decide +kernel
theorem dX1_at_22 : decode cX1_at 22 = .ok (.getfield 15, 3) := by decide +kernel
theorem dX1_at_25 : decode cX1_at 25 = .ok (.iload_n 1, 1) := by decide +kernel
theorem dX1_at_26 : decode cX1_at 26 = .ok (.iaload, 1) := by decide +kernel
theorem dX1_at_27 : decode cX1_at 27 = .ok (.goto 4, 3) := by decide +kernel
theorem dX1_at_30 : decode cX1_at 30 = .ok (.iconst 0, 1) := by decide +kernel
theorem dX1_at_31 : decode cX1_at 31 = .ok (.ireturn, 1) := by decide +kernel
theorem dX1_set_0 : decode cX1_set 0 = .ok (.iload_n 1, 1) := by decide +kernel
theorem dX1_set_1 : decode cX1_set 1 = .ok (.ifCond .lt 27, 3) := by decide +kernel
theorem dX1_set_4 : decode cX1_set 4 = .ok (.iload_n 1, 1) := by decide +kernel
theorem dX1_set_5 : decode cX1_set 5 = .ok (.aload_n 0, 1) := by decide +kernel
theorem dX1_set_6 : decode cX1_set 6 = .ok (.getfield 21, 3) := by decide +kernel
theorem dX1_set_9 : decode cX1_set 9 = .ok (.if_icmp .ge 19, 3) := by decide +kernel
theorem dX1_set_12 : decode cX1_set 12 = .ok (.iload_n 1, 1) := by decide +kernel
theorem dX1_set_13 : decode cX1_set 13 = .ok (.aload_n 0, 1) := by decide +kernel
theorem dX1_set_14 : decode cX1_set 14 = .ok (.getfield 15, 3) := by decide +kernel
theorem dX1_set_17 : decode cX1_set 17 = .ok (.arraylength, 1) := by decide +kernel
theorem dX1_set_18 : decode cX1_set 18 = .ok (.if_icmp .ge 10, 3) := by decide +kernel
theorem dX1_set_21 : decode cX1_set 21 = .ok (.aload_n 0, 1) := by decide +kernel
theorem dX1_set_22 : decode cX1_set 22 = .ok (.getfield 15, 3) := by decide +kernel
theorem dX1_set_25 : decode cX1_set 25 = .ok (.iload_n 1, 1) := by decide +kernel
theorem dX1_set_26 : decode cX1_set 26 = .ok (.iload_n 2, 1) := by decide +kernel
theorem dX1_set_27 : decode cX1_set 27 = .ok (.iastore, 1) := by decide +kernel
theorem dX1_set_28 : decode cX1_set 28 = .ok (.return_, 1) := by decide +kernel
theorem dX1_add_0 : decode cX1_add 0 = .ok (.aload_n 0, 1) := by decide +kernel
theorem dX1_add_1 : decode cX1_add 1 = .ok (.getfield 21, 3) := by decide +kernel
theorem dX1_add_4 : decode cX1_add 4 = .ok (.ifCond .lt 15, 3) := by decide +kernel
theorem dX1_add_7 : decode cX1_add 7 = .ok (.aload_n 0, 1) := by decide +kernel
theorem dX1_add_8 : decode cX1_add 8 = .ok (.getfield 21, 3) := by decide +kernel
theorem dX1_add_11 : decode cX1_add 11 = .ok (.aload_n 0, 1) := by decide +kernel
theorem dX1_add_12 : decode cX1_add 12 = .ok (.getfield 15, 3) := by decide +kernel
theorem dX1_add_15 : decode cX1_add 15 = .ok (.arraylength, 1) := by decide +kernel
theorem dX1_add_16 : decode cX1_add 16 = .ok (.if_icmp .lt 5, 3) := by decide +kernel
theorem dX1_add_19 : decode cX1_add 19 = .ok (.iconst 0, 1) := by decide +kernel
theorem dX1_add_20 : decode cX1_add 20 = .ok (.ireturn, 1) := by decide +kernel
theorem dX1_add_21 : decode cX1_add 21 = .ok (.aload_n 0, 1) := by decide +kernel
theorem dX1_add_22 : decode cX1_add 22 = .ok (.getfield 15, 3) := by decide +kernel
theorem dX1_add_25 : decode cX1_add 25 = .ok (.aload_n 0, 1) := by decide +kernel
theorem dX1_add_26 : decode cX1_add 26 = .ok (.getfield 21, 3) := by decide +kernel
theorem dX1_add_29 : decode cX1_add 29 = .ok (.iload_n 1, 1) := by decide +kernel
theorem dX1_add_30 : decode cX1_add 30 = .ok (.iastore, 1) := by decide +kernel
theorem dX1_add_31 : decode cX1_add 31 = .ok (.aload_n 0, 1) := by decide +kernel
theorem dX1_add_32 : decode cX1_add 32 = .ok (.dup, 1) := by decide +kernel
theorem dX1_add_33 : decode cX1_add 33 = .ok (.getfield 21, 3) := by decide +kernel
theorem dX1_add_36 : decode cX1_add 36 = .ok (.iconst 1, 1) := by decide +kernel
theorem dX1_add_37 : decode cX1_add 37 = .ok (.iadd, 1) := by decide +kernel
theorem dX1_add_38 : decode cX1_add 38 = .ok (.putfield 21, 3) := by decide +kernel
theorem dX1_add_41 : decode cX1_add 41 = .ok (.iconst 1, 1) := by decide +kernel
theorem dX1_add_42 : decode cX1_add 42 = .ok (.ireturn, 1) := by decide +kernel
set_option maxRecDepth 20000 in
theorem ggX1_addThree_X1_add : GoodIn wsX1_addThree wsX1_add := goodIn_r _ [7, 1, 2, 8, 9] (by decide +kernel) (by decide +kernel)
set_option maxRecDepth 20000 in
theorem gX1_addThree_X1_add : GoodIn wsX1_addThree (wsV RX1 25 RX1 yX1_add wsX1_add) := goodIn_app (goodIn_of _ (by decide +kernel)) ggX1_addThree_X1_add
theorem dX1_addThree_0 : decode cX1_addThree 0 = .ok (.aload_n 0, 1) := by decide +kernel
theorem dX1_addThree_1 : decode cX1_addThree 1 = .ok (.getfield 21, 3) := by decide +kernel
theorem dX1_addThree_4 : decode cX1_addThree 4 = .ok (.iconst 3, 1) := by decide +kernel
theorem dX1_addThree_5 : decode cX1_addThree 5 = .ok (.iadd, 1) := by decide +kernel
theorem dX1_addThree_6 : decode cX1_addThree 6 = .ok (.aload_n 0, 1) := by decide +kernel
theorem dX1_addThree_7 : decode cX1_addThree 7 = .ok (.getfield 15, 3) := by decide +kernel
theorem dX1_addThree_10 : decode cX1_addThree 10 = .ok (.arraylength, 1) := by decide +kernel
theorem dX1_addThree_11 : decode cX1_addThree 11 = .ok (.if_icmp .le 5, 3) := by decide +kernel
theorem dX1_addThree_14 : decode cX1_addThree 14 = .ok (.iconst 0, 1) := by decide +kernel
theorem dX1_addThree_15 : decode cX1_addThree 15 = .ok (.ireturn, 1) := by decide +kernel
theorem dX1_addThree_16 : decode cX1_addThree 16 = .ok (.aload_n 0, 1) := by decide +kernel
theorem dX1_addThree_17 : decode cX1_addThree 17 = .ok (.iload_n 1, 1) := by decide +kernel
theorem dX1_addThree_18 : decode cX1_addThree 18 = .ok (.invokevirtual 25, 3) := by decide +kernel
theorem dX1_addThree_21 : decode cX1_addThree 21 = .ok (.ifCond .eq 23, 3) := by decide +kernel
theorem dX1_addThree_24 : decode cX1_addThree 24 = .ok (.aload_n 0, 1) := by decide +kernel
theorem dX1_addThree_25 : decode cX1_addThree 25 = .ok (.iload_n 2, 1) := by decide +kernel
theorem dX1_addThree_26 : decode cX1_addThree 26 = .ok (.invokevirtual 25, 3) := by decide +kernel
theorem dX1_addThree_29 : decode cX1_addThree 29 = .ok (.ifCond .eq 15, 3) := by decide +kernel
theorem dX1_addThree_32 : decode cX1_addThree 32 = .ok (.aload_n 0, 1) := by decide +kernel
theorem dX1_addThree_33 : decode cX1_addThree 33 = .ok (.iload_n 3, 1) := by decide +kernel
theorem dX1_addThree_34 : decode cX1_addThree 34 = .ok (.invokevirtual 25, 3) := by decide +kernel
theorem dX1_addThree_37 : decode cX1_addThree 37 = .ok (.ifCond .eq 7, 3) := by decide +kernel
theorem dX1_addThree_40 : decode cX1_addThree 40 = .ok (.iconst 1, 1) := by decide +kernel
theorem dX1_addThree_41 : decode cX1_addThree 41 = .ok (.goto 4, 3) := by decide +kernel
theorem dX1_addThree_44 : decode cX1_addThree 44 = .ok (.iconst 0, 1) := by decide +kernel
theorem dX1_addThree_45 : decode cX1_addThree 45 = .ok (.ireturn, 1) := by decide +kernel
theorem dX1_drop_0 : decode cX1_drop 0 = .ok (.aload_n 0, 1) := by decide +kernel
theorem dX1_drop_1 : decode cX1_drop 1 = .ok (.iconst 0, 1) := by decide +kernel
theorem dX1_drop_2 : decode cX1_drop 2 = .ok (.putfield 21, 3) := by decide +kernel
theorem dX1_drop_5 : decode cX1_drop 5 = .ok (.return_, 1) := by decide +kernel
set_option maxRecDepth 20000 in
theorem ggX1_fillWithZeros_J7_fill_53178 : GoodIn wsX1_fillWithZeros wsJ7_fill_53178 := goodIn_r _ [6] (by decide +kernel) (by decide +kernel)
set_option maxRecDepth 20000 in
theorem gX1_fillWithZeros_J7_fill_53178 : GoodIn wsX1_fillWithZeros (va_wsS RX1 29 yJ7_fill_53178 wsJ7_fill_53178) := goodIn_app (goodIn_of _ (by decide +kernel)) ggX1_fillWithZeros_J7_fill_53178
theorem dX1_fillWithZeros_0 : decode cX1_fillWithZeros 0 = .ok (.aload_n 0, 1) := by decide +kernel
theorem dX1_fillWithZeros_1 : decode cX1_fillWithZeros 1 = .ok (.aload_n 0, 1) := by decide +kernel
theorem dX1_fillWithZeros_2 : decode cX1_fillWithZeros 2 = .ok (.getfield 15, 3) := by decide +kernel
theorem dX1_fillWithZeros_5 : decode cX1_fillWithZeros 5 = .ok (.arraylength, 1) := by decide +kernel
theorem dX1_fillWithZeros_6 : decode cX1_fillWithZeros 6 = .ok (.putfield 21, 3) := by decide +kernel
theorem dX1_fillWithZeros_9 : decode cX1_fillWithZeros 9 = .ok (.aload_n 0, 1) := by decide +kernel
theorem dX1_fillWithZeros_10 : decode cX1_fillWithZeros 10 = .ok (.getfield 15, 3) := by decide +kernel
theorem dX1_fillWithZeros_13 : decode cX1_fillWithZeros 13 = .ok (.iconst 0, 1) := by decide +kernel
theorem dX1_fillWithZeros_14 : decode cX1_fillWithZeros 14 = .ok (.invokestatic 29, 3) := by decide +kernel
theorem dX1_fillWithZeros_17 : decode cX1_fillWithZeros 17 = .ok (.return_, 1) := by decide +kernel
set_option maxRecDepth 20000 in
theorem ggX1_copy_X1_drop : GoodIn wsX1_copy wsX1_drop := goodIn_r _ [6, 1, 16, 17] (by decide +kernel) (by decide +kernel)
set_option maxRecDepth 20000 in
theorem gX1_copy_X1_drop : GoodIn wsX1_copy (wsV RX1 35 RX1 yX1_drop wsX1_drop) := goodIn_app (goodIn_of _ (by decide +kernel)) ggX1_copy_X1_drop
set_option maxRecDepth 20000 in
theorem ggX1_copy_X1_at : GoodIn wsX1_copy wsX1_at := goodIn_r _ [10, 1, 11, 16, 17] (by decide +kernel) (by decide +kernel)
set_option maxRecDepth 20000 in
theorem gX1_copy_X1_at : GoodIn wsX1_copy (wsV RX1 38 RX1 yX1_at wsX1_at) := goodIn_app (goodIn_of _ (by decide +kernel)) ggX1_copy_X1_at
set_option maxRecDepth 20000 in
theorem ggX1_copy_X1_add : GoodIn wsX1_copy wsX1_add := goodIn_r _ [15, 1, 11, 16, 17] (by decide +kernel) (by decide +kernel)
set_option maxRecDepth 20000 in
theorem gX1_copy_X1_add : GoodIn wsX1_copy (wsV RX1 25 RX1 yX1_add wsX1_add) := goodIn_app (goodIn_of _ (by decide +kernel)) ggX1_copy_X1_add
theorem dX1_copy_0 : decode cX1_copy 0 = .ok (.aload_n 0, 1) := by decide +kernel
theorem dX1_copy_1 : decode cX1_copy 1 = .ok (.invokevirtual 35, 3) := by decide +kernel
theorem dX1_copy_4 : decode cX1_copy 4 = .ok (.iconst 0, 1) := by decide +kernel
theorem dX1_copy_5 : decode cX1_copy 5 = .ok (.istore_n 2, 1) := by decide +kernel
theorem dX1_copy_6 : decode cX1_copy 6 = .ok (.iload_n 2, 1) := by decide +kernel
theorem dX1_copy_7 : decode cX1_copy 7 = .ok (.aload_n 1, 1) := by decide +kernel
theorem dX1_copy_8 : decode cX1_copy 8 = .ok (.getfield 21, 3) := by decide +kernel
theorem dX1_copy_11 : decode cX1_copy 11 = .ok (.if_icmp .ge 19, 3) := by decide +kernel
theorem dX1_copy_14 : decode cX1_copy 14 = .ok (.aload_n 0, 1) := by decide +kernel
theorem dX1_copy_15 : decode cX1_copy 15 = .ok (.aload_n 1, 1) := by decide +kernel
theorem dX1_copy_16 : decode cX1_copy 16 = .ok (.iload_n 2, 1) := by decide +kernel
theorem dX1_copy_17 : decode cX1_copy 17 = .ok (.invokevirtual 38, 3) := by decide +kernel
theorem dX1_copy_20 : decode cX1_copy 20 = .ok (.invokevirtual 25, 3) := by decide +kernel
theorem dX1_copy_23 : decode cX1_copy 23 = .ok (.pop, 1) := by decide +kernel
theorem dX1_copy_24 : decode cX1_copy 24 = .ok (.iinc 2 1, 3) := by decide +kernel
theorem dX1_copy_27 : decode cX1_copy 27 = .ok (.goto (-21), 3) := by decide +kernel
theorem dX1_copy_30 : decode cX1_copy 30 = .ok (.return_, 1) := by decide +kernel
set_option maxRecDepth 20000 in
theorem ggX2_init_X0_init : GoodIn wsX2_init wsX0_init := goodIn_r _ [14, 15, 2, 3, 16, 17, 18, 19, 20, 21, 22, 23, 24, 25, 5, 6, 7, 26, 27, 28, 29, 30, 11, 31, 32, 33, 34, 35, 36, 37, 38, 39, 40, 49, 50, 43, 44, 45, 46, 47, 48] (by decide +kernel) (by decide +kernel)
set_option maxRecDepth 20000 in
theorem gX2_init_X0_init : GoodIn wsX2_init (wsX0_init) := ggX2_init_X0_init
theorem dX2_init_0 : decode cX2_init 0 = .ok (.aload_n 0, 1) := by decide +kernel
theorem dX2_init_1 : decode cX2_init 1 = .ok (.invokespecial 1, 3) := by decide +kernel
theorem dX2_init_4 : decode cX2_init 4 = .ok (.aload_n 0, 1) := by decide +kernel
theorem dX2_init_5 : decode cX2_init 5 = .ok (.iload_n 1, 1) := by decide +kernel
theorem dX2_init_6 : decode cX2_init 6 = .ok (.iconst 0, 1) := by decide +kernel
theorem dX2_init_7 : decode cX2_init 7 = .ok (.invokestatic 7, 3) := by decide +kernel
theorem dX2_init_10 : decode cX2_init 10 = .ok (.anewarray 13, 3) := by decide +kernel
theorem dX2_init_13 : decode cX2_init 13 = .ok (.putfield 15, 3) := by decide +kernel
theorem dX2_init_16 : decode cX2_init 16 = .ok (.iconst 0, 1) := by decide +kernel
theorem dX2_init_17 : decode cX2_init 17 = .ok (.istore_n 2, 1) := by decide +kernel
theorem dX2_init_18 : decode cX2_init 18 = .ok (.iload_n 2, 1) := by decide +kernel
theorem dX2_init_19 : decode cX2_init 19 = .ok (.aload_n 0, 1) := by decide +kernel
theorem dX2_init_20 : decode cX2_init 20 = .ok (.getfield 15, 3) := by decide +kernel
theorem dX2_init_23 : decode cX2_init 23 = .ok (.arraylength, 1) := by decide +kernel
theorem dX2_init_24 : decode cX2_init 24 = .ok (.if_icmp .ge 22, 3) := by decide +kernel
theorem dX2_init_27 : decode cX2_init 27 = .ok (.aload_n 0, 1) := by decide +kernel
theorem dX2_init_28 : decode cX2_init 28 = .ok (.getfield 15, 3) := by decide +kernel
theorem dX2_init_31 : decode cX2_init 31 = .ok (.iload_n 2, 1) := by decide +kernel
theorem dX2_init_32 : decode cX2_init 32 = .ok (.new 13, 3) := by decide +kernel
theorem dX2_init_35 : decode cX2_init 35 = .ok (.dup, 1) := by decide +kernel
theorem dX2_init_36 : decode cX2_init 36 = .ok (.invokespecial 21, 3) := by decide +kernel
theorem dX2_init_39 : decode cX2_init 39 = .ok (.aastore, 1) := by decide +kernel
theorem dX2_init_40 : decode cX2_init 40 = .ok (.iinc 2 1, 3) := by decide +kernel
theorem dX2_init_43 : decode cX2_init 43 = .ok (.goto (-25), 3) := by decide +kernel
theorem dX2_init_46 : decode cX2_init 46 = .ok (.return_, 1) := by decide +kernel
theorem dX2_size_0 : decode cX2_size 0 = .ok (.aload_n 0, 1) := by decide +kernel
theorem dX2_size_1 : decode cX2_size 1 = .ok (.getfield 22, 3) := by decide +kernel
theorem dX2_size_4 : decode cX2_size 4 = .ok (.ireturn, 1) := by decide +kernel
theorem dX2_drop_0 : decode cX2_drop 0 = .ok (.aload_n 0, 1) := by decide +kernel
theorem dX2_drop_1 : decode cX2_drop 1 = .ok (.iconst 0, 1) := by decide +kernel
theorem dX2_drop_2 : decode cX2_drop 2 = .ok (.putfield 22, 3) := by decide +kernel
theorem dX2_drop_5 : decode cX2_drop 5 = .ok (.return_, 1) := by decide +kernel
theorem dX2_dropOldest_0 : decode cX2_dropOldest 0 = .ok (.aload_n 0, 1) := by decide +kernel
theorem dX2_dropOldest_1 : decode cX2_dropOldest 1 = .ok (.getfield 15, 3) := by decide +kernel
theorem dX2_dropOldest_4 : decode cX2_dropOldest 4 = .ok (.arraylength, 1) := by decide +kernel
theorem dX2_dropOldest_5 : decode cX2_dropOldest 5 = .ok (.ifCond .eq 10, 3) := by decide +kernel
theorem dX2_dropOldest_8 : decode cX2_dropOldest 8 = .ok (.aload_n 0, 1) := by decide +kernel
theorem dX2_dropOldest_9 : decode cX2_dropOldest 9 = .ok (.getfield 22, 3) := by decide +kernel
theorem dX2_dropOldest_12 : decode cX2_dropOldest 12 = .ok (.ifCond .ne 4, 3) := by decide +kernel
theorem dX2_dropOldest_15 : decode cX2_dropOldest 15 = .ok (.return_, 1) := by decide +kernel
theorem dX2_dropOldest_16 : decode cX2_dropOldest 16 = .ok (.aload_n 0, 1) := by decide +kernel
theorem dX2_dropOldest_17 : decode cX2_dropOldest 17 = .ok (.getfield 15, 3) := by decide +kernel
theorem dX2_dropOldest_20 : decode cX2_dropOldest 20 = .ok (.iconst 0, 1) := by decide +kernel
theorem dX2_dropOldest_21 : decode cX2_dropOldest 21 = .ok (.aaload, 1) := by decide +kernel
theorem dX2_dropOldest_22 : decode cX2_dropOldest 22 = .ok (.astore_n 1, 1) := by decide +kernel
theorem dX2_dropOldest_23 : decode cX2_dropOldest 23 = .ok (.iconst 1, 1) := by decide +kernel
theorem dX2_dropOldest_24 : decode cX2_dropOldest 24 = .ok (.istore_n 2, 1) := by decide +kernel
theorem dX2_dropOldest_25 : decode cX2_dropOldest 25 = .ok (.iload_n 2, 1) := by decide +kernel
theorem dX2_dropOldest_26 : decode cX2_dropOldest 26 = .ok (.aload_n 0, 1) := by decide +kernel
theorem dX2_dropOldest_27 : decode cX2_dropOldest 27 = .ok (.getfield 15, 3) := by decide +kernel
theorem dX2_dropOldest_30 : decode cX2_dropOldest 30 = .ok (.arraylength, 1) := by decide +kernel
theorem dX2_dropOldest_31 : decode cX2_dropOldest 31 = .ok (.if_icmp .ge 23, 3) := by decide +kernel
theorem dX2_dropOldest_34 : decode cX2_dropOldest 34 = .ok (.aload_n 0, 1) := by decide +kernel
theorem dX2_dropOldest_35 : decode cX2_dropOldest 35 = .ok (.getfield 15, 3) := by decide +kernel
theorem dX2_dropOldest_38 : decode cX2_dropOldest 38 = .ok (.iload_n 2, 1) := by decide +kernel
theorem dX2_dropOldest_39 : decode cX2_dropOldest 39 = .ok (.iconst 1, 1) := by decide +kernel
theorem dX2_dropOldest_40 : decode cX2_dropOldest 40 = .ok (.isub, 1) := by decide +kernel
theorem dX2_dropOldest_41 : decode cX2_dropOldest 41 = .ok (.aload_n 0, 1) := by decide +kernel
theorem dX2_dropOldest_42 : decode cX2_dropOldest 42 = .ok (.getfield 15, 3) := by decide +kernel
theorem dX2_dropOldest_45 : decode cX2_dropOldest 45 = .ok (.iload_n 2, 1) := by decide +kernel
theorem dX2_dropOldest_46 : decode cX2_dropOldest 46 = .ok (.aaload, 1) := by decide +kernel
theorem dX2_dropOldest_47 : decode cX2_dropOldest 47 = .ok (.aastore, 1) := by decide +kernel
theorem dX2_dropOldest_48 : decode cX2_dropOldest 48 = .ok (.iinc 2 1, 3) := by decide +kernel
theorem dX2_dropOldest_51 : decode cX2_dropOldest 51 = .ok (.goto (-26), 3) := by decide +kernel
theorem dX2_dropOldest_54 : decode cX2_dropOldest 54 = .ok (.aload_n 0, 1) := by decide +kernel
theorem dX2_dropOldest_55 : decode cX2_dropOldest 55 = .ok (.getfield 15, 3) := by decide +kernel
theorem dX2_dropOldest_58 : decode cX2_dropOldest 58 = .ok (.aload_n 0, 1) := by decide +kernel
theorem dX2_dropOldest_59 : decode cX2_dropOldest 59 = .ok (.getfield 15, 3) := by decide +kernel
theorem dX2_dropOldest_62 : decode cX2_dropOldest 62 = .ok (.arraylength, 1) := by decide +kernel
theorem dX2_dropOldest_63 : decode cX2_dropOldest 63 = .ok (.iconst 1, 1) := by decide +kernel
theorem dX2_dropOldest_64 : decode cX2_dropOldest 64 = .ok (.isub, 1) := by decide +kernel
theorem dX2_dropOldest_65 : decode cX2_dropOldest 65 = .ok (.aload_n 1, 1) := by decide +kernel
theorem dX2_dropOldest_66 : decode cX2_dropOldest 66 = .ok (.aastore, 1) := by decide +kernel
theorem dX2_dropOldest_67 : decode cX2_dropOldest 67 = .ok (.aload_n 0, 1) := by decide +kernel
theorem dX2_dropOldest_68 : decode cX2_dropOldest 68 = .ok (.dup, 1) := by decide +kernel
theorem dX2_dropOldest_69 : decode cX2_dropOldest 69 = .ok (.getfield 22, 3) := by decide +kernel
theorem dX2_dropOldest_72 : decode cX2_dropOldest 72 = .ok (.iconst 1, 1) := by decide +kernel
theorem dX2_dropOldest_73 : decode cX2_dropOldest 73 = .ok (.isub, 1) := by decide +kernel
theorem dX2_dropOldest_74 : decode cX2_dropOldest 74 = .ok (.putfield 22, 3) := by decide +kernel
theorem dX2_dropOldest_77 : decode cX2_dropOldest 77 = .ok (.return_, 1) := by decide +kernel
theorem dX2_at_0 : decode cX2_at 0 = .ok (.iload_n 1, 1) := by decide +kernel
theorem dX2_at_1 : decode cX2_at 1 = .ok (.ifCond .lt 21, 3) := by decide +kernel
theorem dX2_at_4 : decode cX2_at 4 = .ok (.iload_n 1, 1) := by decide +kernel
theorem dX2_at_5 : decode cX2_at 5 = .ok (.aload_n 0, 1) := by decide +kernel
theorem dX2_at_6 : decode cX2_at 6 = .ok (.getfield 15, 3) := by decide +kernel
theorem dX2_at_9 : decode cX2_at 9 = .ok (.arraylength, 1) := by decide +kernel
theorem dX2_at_10 : decode cX2_at 10 = .ok (.if_icmp .ge 12, 3) := by decide +kernel
theorem dX2_at_13 : decode cX2_at 13 = .ok (.aload_n 0, 1) := by decide +kernel
theorem dX2_at_14 : decode cX2_at 14 = .ok (.getfield 15, 3) := by decide +kernel
theorem dX2_at_17 : decode cX2_at 17 = .ok (.iload_n 1, 1) := by decide +kernel
theorem dX2_at_18 : decode cX2_at 18 = .ok (.aaload, 1) := by decide +kernel
theorem dX2_at_19 : decode cX2_at 19 = .ok (.goto 4, 3) := by decide +kernel
theorem dX2_at_22 : decode cX2_at 22 = .ok (.aconst_null, 1) := by decide +kernel
theorem dX2_at_23 : decode cX2_at 23 = .ok (.areturn, 1) := by decide +kernel
set_option maxRecDepth 20000 in
theorem ggX2_put_X2_dropOldest : GoodIn wsX2_put wsX2_dropOldest := goodIn_r _ [7, 2, 1, 42, 43] (by decide +kernel) (by decide +kernel)
set_option maxRecDepth 20000 in
theorem gX2_put_X2_dropOldest : GoodIn wsX2_put (wsV RX2 26 RX2 yX2_dropOldest wsX2_dropOldest) := goodIn_app (goodIn_of _ (by decide +kernel)) ggX2_put_X2_dropOldest
set_option maxRecDepth 20000 in
theorem ggX2_put_X2_at : GoodIn wsX2_put wsX2_at := goodIn_r _ [11, 2, 42, 43] (by decide +kernel) (by decide +kernel)
set_option maxRecDepth 20000 in
theorem gX2_put_X2_at : GoodIn wsX2_put (wsV RX2 29 RX2 yX2_at wsX2_at) := goodIn_app (goodIn_of _ (by decide +kernel)) ggX2_put_X2_at
set_option maxRecDepth 20000 in
theorem ggX2_put_X0_copy : GoodIn wsX2_put wsX0_copy := goodIn_r _ [16, 17, 18, 19, 20, 21, 22, 23, 24, 25, 26, 27, 28, 29, 30, 31, 32, 33, 34, 35, 36, 37, 38, 39, 40, 41, 44, 45, 46, 47, 48, 49, 50, 51] (by decide +kernel) (by decide +kernel)
set_option maxRecDepth 20000 in
theorem gX2_put_X0_copy : GoodIn wsX2_put (wsV RX2 33 RX0 yX0_copy wsX0_copy) := goodIn_app (goodIn_of _ (by decide +kernel)) ggX2_put_X0_copy
theorem dX2_put_0 : decode cX2_put 0 = .ok (.aload_n 0, 1) := by decide +kernel
theorem dX2_put_1 : decode cX2_put 1 = .ok (.getfield 22, 3) := by decide +kernel
theorem dX2_put_4 : decode cX2_put 4 = .ok (.aload_n 0, 1) := by decide +kernel
theorem dX2_put_5 : decode cX2_put 5 = .ok (.getfield 15, 3) := by decide +kernel
theorem dX2_put_8 : decode cX2_put 8 = .ok (.arraylength, 1) := by decide +kernel
theorem dX2_put_9 : decode cX2_put 9 = .ok (.if_icmp .lt 7, 3) := by decide +kernel
theorem dX2_put_12 : decode cX2_put 12 = .ok (.aload_n 0, 1) := by decide +kernel
theorem dX2_put_13 : decode cX2_put 13 = .ok (.invokevirtual 26, 3) := by decide +kernel
theorem dX2_put_16 : decode cX2_put 16 = .ok (.aload_n 0, 1) := by decide +kernel
theorem dX2_put_17 : decode cX2_put 17 = .ok (.aload_n 0, 1) := by decide +kernel
theorem dX2_put_18 : decode cX2_put 18 = .ok (.getfield 22, 3) := by decide +kernel
theorem dX2_put_21 : decode cX2_put 21 = .ok (.invokevirtual 29, 3) := by decide +kernel
theorem dX2_put_24 : decode cX2_put 24 = .ok (.astore_n 2, 1) := by decide +kernel
theorem dX2_put_25 : decode cX2_put 25 = .ok (.aload_n 2, 1) := by decide +kernel
theorem dX2_put_26 : decode cX2_put 26 = .ok (.ifnull 18, 3) := by decide +kernel
theorem dX2_put_29 : decode cX2_put 29 = .ok (.aload_n 2, 1) := by decide +kernel
theorem dX2_put_30 : decode cX2_put 30 = .ok (.aload_n 1, 1) := by decide +kernel
theorem dX2_put_31 : decode cX2_put 31 = .ok (.invokevirtual 33, 3) := by decide +kernel
theorem dX2_put_34 : decode cX2_put 34 = .ok (.aload_n 0, 1) := by decide +kernel
theorem dX2_put_35 : decode cX2_put 35 = .ok (.dup, 1) := by decide +kernel
theorem dX2_put_36 : decode cX2_put 36 = .ok (.getfield 22, 3) := by decide +kernel
theorem dX2_put_39 : decode cX2_put 39 = .ok (.iconst 1, 1) := by decide +kernel
theorem dX2_put_40 : decode cX2_put 40 = .ok (.iadd, 1) := by decide +kernel
theorem dX2_put_41 : decode cX2_put 41 = .ok (.putfield 22, 3) := by decide +kernel
theorem dX2_put_44 : decode cX2_put 44 = .ok (.return_, 1) := by decide +kernel
set_option maxRecDepth 20000 in
theorem ggX2_take_X2_at : GoodIn wsX2_take wsX2_at := goodIn_r _ [6, 7, 38, 39] (by decide +kernel) (by decide +kernel)
set_option maxRecDepth 20000 in
theorem gX2_take_X2_at : GoodIn wsX2_take (wsV RX2 29 RX2 yX2_at wsX2_at) := goodIn_app (goodIn_of _ (by decide +kernel)) ggX2_take_X2_at
set_option maxRecDepth 20000 in
theorem ggX2_take_X0_copy : GoodIn wsX2_take wsX0_copy := goodIn_r _ [12, 13, 14, 15, 16, 17, 18, 19, 20, 21, 22, 23, 24, 25, 26, 27, 28, 29, 30, 31, 32, 33, 34, 35, 36, 37, 40, 41, 42, 43, 44, 45, 46, 47] (by decide +kernel) (by decide +kernel)
set_option maxRecDepth 20000 in
theorem gX2_take_X0_copy : GoodIn wsX2_take (wsV RX2 33 RX0 yX0_copy wsX0_copy) := goodIn_app (goodIn_of _ (by decide +kernel)) ggX2_take_X0_copy
theorem dX2_take_0 : decode cX2_take 0 = .ok (.aload_n 0, 1) := by decide +kernel
theorem dX2_take_1 : decode cX2_take 1 = .ok (.aload_n 0, 1) := by decide +kernel
theorem dX2_take_2 : decode cX2_take 2 = .ok (.getfield 22, 3) := by decide +kernel
theorem dX2_take_5 : decode cX2_take 5 = .ok (.iconst 1, 1) := by decide +kernel
theorem dX2_take_6 : decode cX2_take 6 = .ok (.isub, 1) := by decide +kernel
theorem dX2_take_7 : decode cX2_take 7 = .ok (.invokevirtual 29, 3) := by decide +kernel
theorem dX2_take_10 : decode cX2_take 10 = .ok (.astore_n 2, 1) := by decide +kernel
theorem dX2_take_11 : decode cX2_take 11 = .ok (.aload_n 2, 1) := by decide +kernel
theorem dX2_take_12 : decode cX2_take 12 = .ok (.ifnonnull 5, 3) := by decide +kernel
theorem dX2_take_15 : decode cX2_take 15 = .ok (.iconst 0, 1) := by decide +kernel
theorem dX2_take_16 : decode cX2_take 16 = .ok (.ireturn, 1) := by decide +kernel
theorem dX2_take_17 : decode cX2_take 17 = .ok (.aload_n 1, 1) := by decide +kernel
theorem dX2_take_18 : decode cX2_take 18 = .ok (.aload_n 2, 1) := by decide +kernel
theorem dX2_take_19 : decode cX2_take 19 = .ok (.invokevirtual 33, 3) := by decide +kernel
theorem dX2_take_22 : decode cX2_take 22 = .ok (.aload_n 0, 1) := by decide +kernel
theorem dX2_take_23 : decode cX2_take 23 = .ok (.dup, 1) := by decide +kernel
theorem dX2_take_24 : decode cX2_take 24 = .ok (.getfield 22, 3) := by decide +kernel
theorem dX2_take_27 : decode cX2_take 27 = .ok (.iconst 1, 1) := by decide +kernel
theorem dX2_take_28 : decode cX2_take 28 = .ok (.isub, 1) := by decide +kernel
theorem dX2_take_29 : decode cX2_take 29 = .ok (.putfield 22, 3) := by decide +kernel
theorem dX2_take_32 : decode cX2_take 32 = .ok (.iconst 1, 1) := by decide +kernel
theorem dX2_take_33 : decode cX2_take 33 = .ok (.ireturn, 1) := by decide +kernel
set_option maxRecDepth 20000 in
theorem ggX3_init_X1_init : GoodIn wsX3_init wsX1_init := goodIn_r _ [11, 12, 2, 3, 13, 14, 15, 16, 17, 18, 19, 20] (by decide +kernel) (by decide +kernel)
set_option maxRecDepth 20000 in
theorem gX3_init_X1_init : GoodIn wsX3_init (wsX1_init) := ggX3_init_X1_init
theorem dX3_init_0 : decode cX3_init 0 = .ok (.aload_n 0, 1) := by decide +kernel
theorem dX3_init_1 : decode cX3_init 1 = .ok (.invokespecial 3, 3) := by decide +kernel
theorem dX3_init_4 : decode cX3_init 4 = .ok (.aload_n 0, 1) := by decide +kernel
theorem dX3_init_5 : decode cX3_init 5 = .ok (.new 9, 3) := by decide +kernel
theorem dX3_init_8 : decode cX3_init 8 = .ok (.dup, 1) := by decide +kernel
theorem dX3_init_9 : decode cX3_init 9 = .ok (.sipush 150, 3) := by decide +kernel
theorem dX3_init_12 : decode cX3_init 12 = .ok (.invokespecial 11, 3) := by decide +kernel
theorem dX3_init_15 : decode cX3_init 15 = .ok (.putfield 14, 3) := by decide +kernel
theorem dX3_init_18 : decode cX3_init 18 = .ok (.aload_n 0, 1) := by decide +kernel
theorem dX3_init_19 : decode cX3_init 19 = .ok (.new 9, 3) := by decide +kernel
theorem dX3_init_22 : decode cX3_init 22 = .ok (.dup, 1) := by decide +kernel
theorem dX3_init_23 : decode cX3_init 23 = .ok (.sipush 150, 3) := by decide +kernel
theorem dX3_init_26 : decode cX3_init 26 = .ok (.invokespecial 11, 3) := by decide +kernel
theorem dX3_init_29 : decode cX3_init 29 = .ok (.putfield 20, 3) := by decide +kernel
theorem dX3_init_32 : decode cX3_init 32 = .ok (.return_, 1) := by decide +kernel
set_option maxRecDepth 20000 in
theorem ggX3_hush_X1_fillWithZeros : GoodIn wsX3_hush wsX1_fillWithZeros := goodIn_r _ [7, 8, 9, 10, 11, 12, 13, 16, 17] (by decide +kernel) (by decide +kernel)
set_option maxRecDepth 20000 in
theorem gX3_hush_X1_fillWithZeros : GoodIn wsX3_hush (wsV RX3 23 RX1 yX1_fillWithZeros wsX1_fillWithZeros) := goodIn_app (goodIn_of _ (by decide +kernel)) ggX3_hush_X1_fillWithZeros
theorem dX3_hush_0 : decode cX3_hush 0 = .ok (.aload_n 0, 1) := by decide +kernel
theorem dX3_hush_1 : decode cX3_hush 1 = .ok (.getfield 14, 3) := by decide +kernel
theorem dX3_hush_4 : decode cX3_hush 4 = .ok (.invokevirtual 23, 3) := by decide +kernel
theorem dX3_hush_7 : decode cX3_hush 7 = .ok (.aload_n 0, 1) := by decide +kernel
theorem dX3_hush_8 : decode cX3_hush 8 = .ok (.getfield 20, 3) := by decide +kernel
theorem dX3_hush_11 : decode cX3_hush 11 = .ok (.invokevirtual 23, 3) := by decide +kernel
theorem dX3_hush_14 : decode cX3_hush 14 = .ok (.return_, 1) := by decide +kernel
set_option maxRecDepth 20000 in
theorem ggX3_hushBeat_X1_set : GoodIn wsX3_hushBeat wsX1_set := goodIn_r _ [7, 8, 9, 12, 13] (by decide +kernel) (by decide +kernel)
set_option maxRecDepth 20000 in
theorem gX3_hushBeat_X1_set : GoodIn wsX3_hushBeat (wsV RX3 26 RX1 yX1_set wsX1_set) := goodIn_app (goodIn_of _ (by decide +kernel)) ggX3_hushBeat_X1_set
theorem dX3_hushBeat_0 : decode cX3_hushBeat 0 = .ok (.aload_n 0, 1) := by decide +kernel
theorem dX3_hushBeat_1 : decode cX3_hushBeat 1 = .ok (.getfield 14, 3) := by decide +kernel
theorem dX3_hushBeat_4 : decode cX3_hushBeat 4 = .ok (.iload_n 1, 1) := by decide +kernel
theorem dX3_hushBeat_5 : decode cX3_hushBeat 5 = .ok (.iconst 0, 1) := by decide +kernel
theorem dX3_hushBeat_6 : decode cX3_hushBeat 6 = .ok (.invokevirtual 26, 3) := by decide +kernel
theorem dX3_hushBeat_9 : decode cX3_hushBeat 9 = .ok (.aload_n 0, 1) := by decide +kernel
theorem dX3_hushBeat_10 : decode cX3_hushBeat 10 = .ok (.getfield 20, 3) := by decide +kernel
theorem dX3_hushBeat_13 : decode cX3_hushBeat 13 = .ok (.iload_n 1, 1) := by decide +kernel
theorem dX3_hushBeat_14 : decode cX3_hushBeat 14 = .ok (.iconst 0, 1) := by decide +kernel
theorem dX3_hushBeat_15 : decode cX3_hushBeat 15 = .ok (.invokevirtual 26, 3) := by decide +kernel
theorem dX3_hushBeat_18 : decode cX3_hushBeat 18 = .ok (.return_, 1) := by decide +kernel
set_option maxRecDepth 20000 in
theorem ggX3_valueAt_X1_at : GoodIn wsX3_valueAt wsX1_at := goodIn_r _ [6, 7, 8, 11, 12] (by decide +kernel) (by decide +kernel)
set_option maxRecDepth 20000 in
theorem gX3_valueAt_X1_at : GoodIn wsX3_valueAt (wsV RX3 30 RX1 yX1_at wsX1_at) := goodIn_app (goodIn_of _ (by decide +kernel)) ggX3_valueAt_X1_at
theorem dX3_valueAt_0 : decode cX3_valueAt 0 = .ok (.aload_n 0, 1) := by decide +kernel
theorem dX3_valueAt_1 : decode cX3_valueAt 1 = .ok (.getfield 14, 3) := by decide +kernel
theorem dX3_valueAt_4 : decode cX3_valueAt 4 = .ok (.iload_n 1, 1) := by decide +kernel
theorem dX3_valueAt_5 : decode cX3_valueAt 5 = .ok (.invokevirtual 30, 3) := by decide +kernel
theorem dX3_valueAt_8 : decode cX3_valueAt 8 = .ok (.ireturn, 1) := by decide +kernel
set_option maxRecDepth 20000 in
theorem ggX3_loudnessAt_X1_at : GoodIn wsX3_loudnessAt wsX1_at := goodIn_r _ [6, 7, 8, 11, 12] (by decide +kernel) (by decide +kernel)
set_option maxRecDepth 20000 in
theorem gX3_loudnessAt_X1_at : GoodIn wsX3_loudnessAt (wsV RX3 30 RX1 yX1_at wsX1_at) := goodIn_app (goodIn_of _ (by decide +kernel)) ggX3_loudnessAt_X1_at
theorem dX3_loudnessAt_0 : decode cX3_loudnessAt 0 = .ok (.aload_n 0, 1) := by decide +kernel
theorem dX3_loudnessAt_1 : decode cX3_loudnessAt 1 = .ok (.getfield 20, 3) := by decide +kernel
theorem dX3_loudnessAt_4 : decode cX3_loudnessAt 4 = .ok (.iload_n 1, 1) := by decide +kernel
theorem dX3_loudnessAt_5 : decode cX3_loudnessAt 5 = .ok (.invokevirtual 30, 3) := by decide +kernel
theorem dX3_loudnessAt_8 : decode cX3_loudnessAt 8 = .ok (.ireturn, 1) := by decide +kernel
set_option maxRecDepth 20000 in
theorem ggX3_come_X1_at : GoodIn wsX3_come wsX1_at := goodIn_r _ [7, 8, 9, 16, 17] (by decide +kernel) (by decide +kernel)
set_option maxRecDepth 20000 in
theorem gX3_come_X1_at : GoodIn wsX3_come (wsV RX3 30 RX1 yX1_at wsX1_at) := goodIn_app (goodIn_of _ (by decide +kernel)) ggX3_come_X1_at
set_option maxRecDepth 20000 in
theorem ggX3_come_X1_set : GoodIn wsX3_come wsX1_set := goodIn_r _ [13, 8, 9, 16, 17] (by decide +kernel) (by decide +kernel)
set_option maxRecDepth 20000 in
theorem gX3_come_X1_set : GoodIn wsX3_come (wsV RX3 26 RX1 yX1_set wsX1_set) := goodIn_app (goodIn_of _ (by decide +kernel)) ggX3_come_X1_set
theorem dX3_come_0 : decode cX3_come 0 = .ok (.aload_n 0, 1) := by decide +kernel
theorem dX3_come_1 : decode cX3_come 1 = .ok (.getfield 20, 3) := by decide +kernel
theorem dX3_come_4 : decode cX3_come 4 = .ok (.iload_n 1, 1) := by decide +kernel
theorem dX3_come_5 : decode cX3_come 5 = .ok (.invokevirtual 30, 3) := by decide +kernel
theorem dX3_come_8 : decode cX3_come 8 = .ok (.istore 4, 2) := by decide +kernel
theorem dX3_come_10 : decode cX3_come 10 = .ok (.iload_n 2, 1) := by decide +kernel
theorem dX3_come_11 : decode cX3_come 11 = .ok (.ifCond .le 9, 3) := by decide +kernel
theorem dX3_come_14 : decode cX3_come 14 = .ok (.iload_n 2, 1) := by decide +kernel
theorem dX3_come_15 : decode cX3_come 15 = .ok (.iload 4, 2) := by decide +kernel
theorem dX3_come_17 : decode cX3_come 17 = .ok (.if_icmp .ge 4, 3) := by decide +kernel
theorem dX3_come_20 : decode cX3_come 20 = .ok (.return_, 1) := by decide +kernel
theorem dX3_come_21 : decode cX3_come 21 = .ok (.iload_n 2, 1) := by decide +kernel
theorem dX3_come_22 : decode cX3_come 22 = .ok (.iload 4, 2) := by decide +kernel
theorem dX3_come_24 : decode cX3_come 24 = .ok (.if_icmp .ne 19, 3) := by decide +kernel
theorem dX3_come_27 : decode cX3_come 27 = .ok (.aload_n 0, 1) := by decide +kernel
theorem dX3_come_28 : decode cX3_come 28 = .ok (.getfield 14, 3) := by decide +kernel
theorem dX3_come_31 : decode cX3_come 31 = .ok (.iload_n 1, 1) := by decide +kernel
theorem dX3_come_32 : decode cX3_come 32 = .ok (.invokevirtual 30, 3) := by decide +kernel
theorem dX3_come_35 : decode cX3_come 35 = .ok (.iload_n 3, 1) := by decide +kernel
theorem dX3_come_36 : decode cX3_come 36 = .ok (.if_icmp .eq 7, 3) := by decide +kernel
theorem dX3_come_39 : decode cX3_come 39 = .ok (.iconst 1, 1) := by decide +kernel
theorem dX3_come_40 : decode cX3_come 40 = .ok (.goto 4, 3) := by decide +kernel
theorem dX3_come_43 : decode cX3_come 43 = .ok (.iconst 0, 1) := by decide +kernel
theorem dX3_come_44 : decode cX3_come 44 = .ok (.istore 5, 2) := by decide +kernel
theorem dX3_come_46 : decode cX3_come 46 = .ok (.aload_n 0, 1) := by decide +kernel
theorem dX3_come_47 : decode cX3_come 47 = .ok (.getfield 14, 3) := by decide +kernel
theorem dX3_come_50 : decode cX3_come 50 = .ok (.iload_n 1, 1) := by decide +kernel
theorem dX3_come_51 : decode cX3_come 51 = .ok (.iload 5, 2) := by decide +kernel
theorem dX3_come_53 : decode cX3_come 53 = .ok (.ifCond .eq 8, 3) := by decide +kernel
theorem dX3_come_56 : decode cX3_come 56 = .ok (.bipush 8, 2) := by decide +kernel
theorem dX3_come_58 : decode cX3_come 58 = .ok (.goto 4, 3) := by decide +kernel
theorem dX3_come_61 : decode cX3_come 61 = .ok (.iload_n 3, 1) := by decide +kernel
theorem dX3_come_62 : decode cX3_come 62 = .ok (.invokevirtual 26, 3) := by decide +kernel
theorem dX3_come_65 : decode cX3_come 65 = .ok (.aload_n 0, 1) := by decide +kernel
theorem dX3_come_66 : decode cX3_come 66 = .ok (.getfield 20, 3) := by decide +kernel
theorem dX3_come_69 : decode cX3_come 69 = .ok (.iload_n 1, 1) := by decide +kernel
theorem dX3_come_70 : decode cX3_come 70 = .ok (.iload_n 2, 1) := by decide +kernel
theorem dX3_come_71 : decode cX3_come 71 = .ok (.invokevirtual 26, 3) := by decide +kernel
theorem dX3_come_74 : decode cX3_come 74 = .ok (.return_, 1) := by decide +kernel
set_option maxRecDepth 20000 in
theorem ggX3_carry_X5_size : GoodIn wsX3_carry wsX5_size := goodIn_r _ [5, 6, 7, 8, 9, 10, 11, 12, 39, 40, 41, 42] (by decide +kernel) (by decide +kernel)
set_option maxRecDepth 20000 in
theorem gX3_carry_X5_size : GoodIn wsX3_carry (wsV RX3 34 RX5 yX5_size wsX5_size) := goodIn_app (goodIn_of _ (by decide +kernel)) ggX3_carry_X5_size
set_option maxRecDepth 20000 in
theorem ggX3_carry_X5_later : GoodIn wsX3_carry wsX5_later := goodIn_r _ [16, 6, 17, 18, 19, 10, 20, 12, 21, 39, 40, 41, 42] (by decide +kernel) (by decide +kernel)
set_option maxRecDepth 20000 in
theorem gX3_carry_X5_later : GoodIn wsX3_carry (wsV RX3 40 RX5 yX5_later wsX5_later) := goodIn_app (goodIn_of _ (by decide +kernel)) ggX3_carry_X5_later
set_option maxRecDepth 20000 in
theorem ggX3_carry_X5_weaker : GoodIn wsX3_carry wsX5_weaker := goodIn_r _ [25, 26, 17, 18, 19, 10, 20, 12, 21, 39, 40, 41, 42] (by decide +kernel) (by decide +kernel)
set_option maxRecDepth 20000 in
theorem gX3_carry_X5_weaker : GoodIn wsX3_carry (wsV RX3 43 RX5 yX5_weaker wsX5_weaker) := goodIn_app (goodIn_of _ (by decide +kernel)) ggX3_carry_X5_weaker
set_option maxRecDepth 20000 in
theorem ggX3_carry_X3_come : GoodIn wsX3_carry wsX3_come := goodIn_r _ [31, 32, 33, 34, 18, 19, 10, 20, 12, 21, 35, 36, 37, 38, 43, 44, 41, 42] (by decide +kernel) (by decide +kernel)
set_option maxRecDepth 20000 in
theorem gX3_carry_X3_come : GoodIn wsX3_carry (wsV RX3 46 RX3 yX3_come wsX3_come) := goodIn_app (goodIn_of _ (by decide +kernel)) ggX3_carry_X3_come
theorem dX3_carry_0 : decode cX3_carry 0 = .ok (.iconst 0, 1) := by decide +kernel
theorem dX3_carry_1 : decode cX3_carry 1 = .ok (.istore 5, 2) := by decide +kernel
theorem dX3_carry_3 : decode cX3_carry 3 = .ok (.iload 5, 2) := by decide +kernel
theorem dX3_carry_5 : decode cX3_carry 5 = .ok (.aload 4, 2) := by decide +kernel
theorem dX3_carry_7 : decode cX3_carry 7 = .ok (.invokevirtual 34, 3) := by decide +kernel
theorem dX3_carry_10 : decode cX3_carry 10 = .ok (.if_icmp .ge 32, 3) := by decide +kernel
theorem dX3_carry_13 : decode cX3_carry 13 = .ok (.aload_n 0, 1) := by decide +kernel
theorem dX3_carry_14 : decode cX3_carry 14 = .ok (.iload_n 1, 1) := by decide +kernel
theorem dX3_carry_15 : decode cX3_carry 15 = .ok (.aload 4, 2) := by decide +kernel
theorem dX3_carry_17 : decode cX3_carry 17 = .ok (.iload 5, 2) := by decide +kernel
theorem dX3_carry_19 : decode cX3_carry 19 = .ok (.invokevirtual 40, 3) := by decide +kernel
theorem dX3_carry_22 : decode cX3_carry 22 = .ok (.iadd, 1) := by decide +kernel
theorem dX3_carry_23 : decode cX3_carry 23 = .ok (.iload_n 3, 1) := by decide +kernel
theorem dX3_carry_24 : decode cX3_carry 24 = .ok (.aload 4, 2) := by decide +kernel
theorem dX3_carry_26 : decode cX3_carry 26 = .ok (.iload 5, 2) := by decide +kernel
theorem dX3_carry_28 : decode cX3_carry 28 = .ok (.invokevirtual 43, 3) := by decide +kernel
theorem dX3_carry_31 : decode cX3_carry 31 = .ok (.isub, 1) := by decide +kernel
theorem dX3_carry_32 : decode cX3_carry 32 = .ok (.iload_n 2, 1) := by decide +kernel
theorem dX3_carry_33 : decode cX3_carry 33 = .ok (.invokevirtual 46, 3) := by decide +kernel
theorem dX3_carry_36 : decode cX3_carry 36 = .ok (.iinc 5 1, 3) := by decide +kernel
theorem dX3_carry_39 : decode cX3_carry 39 = .ok (.goto (-36), 3) := by decide +kernel
theorem dX3_carry_42 : decode cX3_carry 42 = .ok (.return_, 1) := by decide +kernel
set_option maxRecDepth 20000 in
theorem ggX3_carryTo_X5_size : GoodIn wsX3_carryTo wsX5_size := goodIn_r _ [5, 6, 7, 8, 9, 10, 11, 12, 39, 40, 41, 42] (by decide +kernel) (by decide +kernel)
set_option maxRecDepth 20000 in
theorem gX3_carryTo_X5_size : GoodIn wsX3_carryTo (wsV RX3 34 RX5 yX5_size wsX5_size) := goodIn_app (goodIn_of _ (by decide +kernel)) ggX3_carryTo_X5_size
set_option maxRecDepth 20000 in
theorem ggX3_carryTo_X5_later : GoodIn wsX3_carryTo wsX5_later := goodIn_r _ [16, 6, 17, 18, 19, 10, 20, 12, 21, 39, 40, 41, 42] (by decide +kernel) (by decide +kernel)
set_option maxRecDepth 20000 in
theorem gX3_carryTo_X5_later : GoodIn wsX3_carryTo (wsV RX3 40 RX5 yX5_later wsX5_later) := goodIn_app (goodIn_of _ (by decide +kernel)) ggX3_carryTo_X5_later
set_option maxRecDepth 20000 in
theorem ggX3_carryTo_X5_weaker : GoodIn wsX3_carryTo wsX5_weaker := goodIn_r _ [25, 26, 17, 18, 19, 10, 20, 12, 21, 39, 40, 41, 42] (by decide +kernel) (by decide +kernel)
set_option maxRecDepth 20000 in
theorem gX3_carryTo_X5_weaker : GoodIn wsX3_carryTo (wsV RX3 43 RX5 yX5_weaker wsX5_weaker) := goodIn_app (goodIn_of _ (by decide +kernel)) ggX3_carryTo_X5_weaker
set_option maxRecDepth 20000 in
theorem ggX3_carryTo_X3_come : GoodIn wsX3_carryTo wsX3_come := goodIn_r _ [31, 32, 33, 34, 18, 19, 10, 20, 12, 21, 35, 36, 37, 38, 43, 44, 41, 42] (by decide +kernel) (by decide +kernel)
set_option maxRecDepth 20000 in
theorem gX3_carryTo_X3_come : GoodIn wsX3_carryTo (wsV RX3 46 RX3 yX3_come wsX3_come) := goodIn_app (goodIn_of _ (by decide +kernel)) ggX3_carryTo_X3_come
theorem dX3_carryTo_0 : decode cX3_carryTo 0 = .ok (.iconst 0, 1) := by decide +kernel
theorem dX3_carryTo_1 : decode cX3_carryTo 1 = .ok (.istore 6, 2) := by decide +kernel
theorem dX3_carryTo_3 : decode cX3_carryTo 3 = .ok (.iload 6, 2) := by decide +kernel
theorem dX3_carryTo_5 : decode cX3_carryTo 5 = .ok (.aload 5, 2) := by decide +kernel
theorem dX3_carryTo_7 : decode cX3_carryTo 7 = .ok (.invokevirtual 34, 3) := by decide +kernel
theorem dX3_carryTo_10 : decode cX3_carryTo 10 = .ok (.if_icmp .ge 38, 3) := by decide +kernel
theorem dX3_carryTo_13 : decode cX3_carryTo 13 = .ok (.iload_n 2, 1) := by decide +kernel
theorem dX3_carryTo_14 : decode cX3_carryTo 14 = .ok (.aload 5, 2) := by decide +kernel
theorem dX3_carryTo_16 : decode cX3_carryTo 16 = .ok (.iload 6, 2) := by decide +kernel
theorem dX3_carryTo_18 : decode cX3_carryTo 18 = .ok (.invokevirtual 40, 3) := by decide +kernel
theorem dX3_carryTo_21 : decode cX3_carryTo 21 = .ok (.iadd, 1) := by decide +kernel
theorem dX3_carryTo_22 : decode cX3_carryTo 22 = .ok (.iload_n 1, 1) := by decide +kernel
theorem dX3_carryTo_23 : decode cX3_carryTo 23 = .ok (.if_icmp .ne 19, 3) := by decide +kernel
theorem dX3_carryTo_26 : decode cX3_carryTo 26 = .ok (.aload_n 0, 1) := by decide +kernel
theorem dX3_carryTo_27 : decode cX3_carryTo 27 = .ok (.iload_n 1, 1) := by decide +kernel
theorem dX3_carryTo_28 : decode cX3_carryTo 28 = .ok (.iload 4, 2) := by decide +kernel
theorem dX3_carryTo_30 : decode cX3_carryTo 30 = .ok (.aload 5, 2) := by decide +kernel
theorem dX3_carryTo_32 : decode cX3_carryTo 32 = .ok (.iload 6, 2) := by decide +kernel
theorem dX3_carryTo_34 : decode cX3_carryTo 34 = .ok (.invokevirtual 43, 3) := by decide +kernel
theorem dX3_carryTo_37 : decode cX3_carryTo 37 = .ok (.isub, 1) := by decide +kernel
theorem dX3_carryTo_38 : decode cX3_carryTo 38 = .ok (.iload_n 3, 1) := by decide +kernel
theorem dX3_carryTo_39 : decode cX3_carryTo 39 = .ok (.invokevirtual 46, 3) := by decide +kernel
theorem dX3_carryTo_42 : decode cX3_carryTo 42 = .ok (.iinc 6 1, 3) := by decide +kernel
theorem dX3_carryTo_45 : decode cX3_carryTo 45 = .ok (.goto (-42), 3) := by decide +kernel
theorem dX3_carryTo_48 : decode cX3_carryTo 48 = .ok (.return_, 1) := by decide +kernel
set_option maxRecDepth 20000 in
theorem ggX3_play_X0_wordCount : GoodIn wsX3_play wsX0_wordCount := goodIn_r _ [5, 6, 7, 8, 9, 10, 11, 12, 55, 56, 57, 58, 59, 60, 61, 62] (by decide +kernel) (by decide +kernel)
set_option maxRecDepth 20000 in
theorem gX3_play_X0_wordCount : GoodIn wsX3_play (wsV RX3 50 RX0 yX0_wordCount wsX0_wordCount) := goodIn_app (goodIn_of _ (by decide +kernel)) ggX3_play_X0_wordCount
set_option maxRecDepth 20000 in
theorem ggX3_play_X0_wordPart : GoodIn wsX3_play wsX0_wordPart := goodIn_r _ [16, 6, 17, 18, 19, 10, 20, 12, 21, 55, 56, 57, 58, 59, 60, 61, 62] (by decide +kernel) (by decide +kernel)
set_option maxRecDepth 20000 in
theorem gX3_play_X0_wordPart : GoodIn wsX3_play (wsV RX3 55 RX0 yX0_wordPart wsX0_wordPart) := goodIn_app (goodIn_of _ (by decide +kernel)) ggX3_play_X0_wordPart
set_option maxRecDepth 20000 in
theorem ggX3_play_X3_carry : GoodIn wsX3_play wsX3_carry := goodIn_r _ [26, 27, 28, 29, 30, 31, 32, 33, 8, 9, 10, 11, 12, 34, 35, 36, 37, 38, 18, 19, 20, 21, 39, 40, 41, 42, 43, 44, 45, 46, 25, 47, 48, 49, 50, 51, 52, 53, 54, 63, 64, 61, 62, 65, 66] (by decide +kernel) (by decide +kernel)
set_option maxRecDepth 20000 in
theorem gX3_play_X3_carry : GoodIn wsX3_play (wsV RX3 59 RX3 yX3_carry wsX3_carry) := goodIn_app (goodIn_of _ (by decide +kernel)) ggX3_play_X3_carry
theorem dX3_play_0 : decode cX3_play 0 = .ok (.iconst 0, 1) := by decide +kernel
theorem dX3_play_1 : decode cX3_play 1 = .ok (.istore 5, 2) := by decide +kernel
theorem dX3_play_3 : decode cX3_play 3 = .ok (.iload 5, 2) := by decide +kernel
theorem dX3_play_5 : decode cX3_play 5 = .ok (.aload_n 1, 1) := by decide +kernel
theorem dX3_play_6 : decode cX3_play 6 = .ok (.invokevirtual 50, 3) := by decide +kernel
theorem dX3_play_9 : decode cX3_play 9 = .ok (.if_icmp .ge 48, 3) := by decide +kernel
theorem dX3_play_12 : decode cX3_play 12 = .ok (.iload_n 2, 1) := by decide +kernel
theorem dX3_play_13 : decode cX3_play 13 = .ok (.iload 5, 2) := by decide +kernel
theorem dX3_play_15 : decode cX3_play 15 = .ok (.ishr, 1) := by decide +kernel
theorem dX3_play_16 : decode cX3_play 16 = .ok (.iconst 1, 1) := by decide +kernel
theorem dX3_play_17 : decode cX3_play 17 = .ok (.iand, 1) := by decide +kernel
theorem dX3_play_18 : decode cX3_play 18 = .ok (.iconst 1, 1) := by decide +kernel
theorem dX3_play_19 : decode cX3_play 19 = .ok (.if_icmp .ne 32, 3) := by decide +kernel
theorem dX3_play_22 : decode cX3_play 22 = .ok (.aload_n 0, 1) := by decide +kernel
theorem dX3_play_23 : decode cX3_play 23 = .ok (.aload_n 1, 1) := by decide +kernel
theorem dX3_play_24 : decode cX3_play 24 = .ok (.iload 5, 2) := by decide +kernel
theorem dX3_play_26 : decode cX3_play 26 = .ok (.iconst 0, 1) := by decide +kernel
theorem dX3_play_27 : decode cX3_play 27 = .ok (.invokevirtual 55, 3) := by decide +kernel
theorem dX3_play_30 : decode cX3_play 30 = .ok (.iload 4, 2) := by decide +kernel
theorem dX3_play_32 : decode cX3_play 32 = .ok (.iadd, 1) := by decide +kernel
theorem dX3_play_33 : decode cX3_play 33 = .ok (.aload_n 1, 1) := by decide +kernel
theorem dX3_play_34 : decode cX3_play 34 = .ok (.iload 5, 2) := by decide +kernel
theorem dX3_play_36 : decode cX3_play 36 = .ok (.iconst 1, 1) := by decide +kernel
theorem dX3_play_37 : decode cX3_play 37 = .ok (.invokevirtual 55, 3) := by decide +kernel
theorem dX3_play_40 : decode cX3_play 40 = .ok (.aload_n 1, 1) := by decide +kernel
theorem dX3_play_41 : decode cX3_play 41 = .ok (.iload 5, 2) := by decide +kernel
theorem dX3_play_43 : decode cX3_play 43 = .ok (.iconst 2, 1) := by decide +kernel
theorem dX3_play_44 : decode cX3_play 44 = .ok (.invokevirtual 55, 3) := by decide +kernel
theorem dX3_play_47 : decode cX3_play 47 = .ok (.aload_n 3, 1) := by decide +kernel
theorem dX3_play_48 : decode cX3_play 48 = .ok (.invokevirtual 59, 3) := by decide +kernel
theorem dX3_play_51 : decode cX3_play 51 = .ok (.iinc 5 1, 3) := by decide +kernel
theorem dX3_play_54 : decode cX3_play 54 = .ok (.goto (-51), 3) := by decide +kernel
theorem dX3_play_57 : decode cX3_play 57 = .ok (.return_, 1) := by decide +kernel
set_option maxRecDepth 20000 in
theorem ggX3_comesHeard_X0_wordPart : GoodIn wsX3_comesHeard wsX0_wordPart := goodIn_r _ [6, 7, 8, 9, 10, 11, 12, 13, 14, 30, 31, 32, 33, 34, 35, 36, 37] (by decide +kernel) (by decide +kernel)
set_option maxRecDepth 20000 in
theorem gX3_comesHeard_X0_wordPart : GoodIn wsX3_comesHeard (wsV RX3 55 RX0 yX0_wordPart wsX0_wordPart) := goodIn_app (goodIn_of _ (by decide +kernel)) ggX3_comesHeard_X0_wordPart
set_option maxRecDepth 20000 in
theorem ggX3_comesHeard_X5_later : GoodIn wsX3_comesHeard wsX5_later := goodIn_r _ [19, 20, 21, 9, 10, 11, 12, 13, 14, 38, 39, 36, 37] (by decide +kernel) (by decide +kernel)
set_option maxRecDepth 20000 in
theorem gX3_comesHeard_X5_later : GoodIn wsX3_comesHeard (wsV RX3 40 RX5 yX5_later wsX5_later) := goodIn_app (goodIn_of _ (by decide +kernel)) ggX3_comesHeard_X5_later
set_option maxRecDepth 20000 in
theorem ggX3_comesHeard_X5_weaker : GoodIn wsX3_comesHeard wsX5_weaker := goodIn_r _ [25, 26, 21, 9, 10, 11, 12, 13, 14, 38, 39, 36, 37] (by decide +kernel) (by decide +kernel)
set_option maxRecDepth 20000 in
theorem gX3_comesHeard_X5_weaker : GoodIn wsX3_comesHeard (wsV RX3 43 RX5 yX5_weaker wsX5_weaker) := goodIn_app (goodIn_of _ (by decide +kernel)) ggX3_comesHeard_X5_weaker
set_option maxRecDepth 20000 in
theorem ggX3_comesHeard_X1_at : GoodIn wsX3_comesHeard wsX1_at := goodIn_r _ [12, 13, 14, 36, 37] (by decide +kernel) (by decide +kernel)
set_option maxRecDepth 20000 in
theorem gX3_comesHeard_X1_at : GoodIn wsX3_comesHeard (wsV RX3 30 RX1 yX1_at wsX1_at) := goodIn_app (goodIn_of _ (by decide +kernel)) ggX3_comesHeard_X1_at
theorem dX3_comesHeard_0 : decode cX3_comesHeard 0 = .ok (.aload_n 1, 1) := by decide +kernel
theorem dX3_comesHeard_1 : decode cX3_comesHeard 1 = .ok (.iload_n 2, 1) := by decide +kernel
theorem dX3_comesHeard_2 : decode cX3_comesHeard 2 = .ok (.iconst 0, 1) := by decide +kernel
theorem dX3_comesHeard_3 : decode cX3_comesHeard 3 = .ok (.invokevirtual 55, 3) := by decide +kernel
theorem dX3_comesHeard_6 : decode cX3_comesHeard 6 = .ok (.iload_n 3, 1) := by decide +kernel
theorem dX3_comesHeard_7 : decode cX3_comesHeard 7 = .ok (.iadd, 1) := by decide +kernel
theorem dX3_comesHeard_8 : decode cX3_comesHeard 8 = .ok (.aload 4, 2) := by decide +kernel
theorem dX3_comesHeard_10 : decode cX3_comesHeard 10 = .ok (.iload 5, 2) := by decide +kernel
theorem dX3_comesHeard_12 : decode cX3_comesHeard 12 = .ok (.invokevirtual 40, 3) := by decide +kernel
theorem dX3_comesHeard_15 : decode cX3_comesHeard 15 = .ok (.iadd, 1) := by decide +kernel
theorem dX3_comesHeard_16 : decode cX3_comesHeard 16 = .ok (.istore 6, 2) := by decide +kernel
theorem dX3_comesHeard_18 : decode cX3_comesHeard 18 = .ok (.aload_n 1, 1) := by decide +kernel
theorem dX3_comesHeard_19 : decode cX3_comesHeard 19 = .ok (.iload_n 2, 1) := by decide +kernel
theorem dX3_comesHeard_20 : decode cX3_comesHeard 20 = .ok (.iconst 2, 1) := by decide +kernel
theorem dX3_comesHeard_21 : decode cX3_comesHeard 21 = .ok (.invokevirtual 55, 3) := by decide +kernel
theorem dX3_comesHeard_24 : decode cX3_comesHeard 24 = .ok (.aload 4, 2) := by decide +kernel
theorem dX3_comesHeard_26 : decode cX3_comesHeard 26 = .ok (.iload 5, 2) := by decide +kernel
theorem dX3_comesHeard_28 : decode cX3_comesHeard 28 = .ok (.invokevirtual 43, 3) := by decide +kernel
theorem dX3_comesHeard_31 : decode cX3_comesHeard 31 = .ok (.if_icmp .le 7, 3) := by decide +kernel
theorem dX3_comesHeard_34 : decode cX3_comesHeard 34 = .ok (.iconst 1, 1) := by decide +kernel
theorem dX3_comesHeard_35 : decode cX3_comesHeard 35 = .ok (.goto 4, 3) := by decide +kernel
theorem dX3_comesHeard_38 : decode cX3_comesHeard 38 = .ok (.iconst 0, 1) := by decide +kernel
theorem dX3_comesHeard_39 : decode cX3_comesHeard 39 = .ok (.istore 7, 2) := by decide +kernel
theorem dX3_comesHeard_41 : decode cX3_comesHeard 41 = .ok (.iload 7, 2) := by decide +kernel
theorem dX3_comesHeard_43 : decode cX3_comesHeard 43 = .ok (.ifCond .eq 25, 3) := by decide +kernel
theorem dX3_comesHeard_46 : decode cX3_comesHeard 46 = .ok (.aload_n 0, 1) := by decide +kernel
theorem dX3_comesHeard_47 : decode cX3_comesHeard 47 = .ok (.getfield 14, 3) := by decide +kernel
theorem dX3_comesHeard_50 : decode cX3_comesHeard 50 = .ok (.iload 6, 2) := by decide +kernel
theorem dX3_comesHeard_52 : decode cX3_comesHeard 52 = .ok (.invokevirtual 30, 3) := by decide +kernel
theorem dX3_comesHeard_55 : decode cX3_comesHeard 55 = .ok (.aload_n 1, 1) := by decide +kernel
theorem dX3_comesHeard_56 : decode cX3_comesHeard 56 = .ok (.iload_n 2, 1) := by decide +kernel
theorem dX3_comesHeard_57 : decode cX3_comesHeard 57 = .ok (.iconst 1, 1) := by decide +kernel
theorem dX3_comesHeard_58 : decode cX3_comesHeard 58 = .ok (.invokevirtual 55, 3) := by decide +kernel
theorem dX3_comesHeard_61 : decode cX3_comesHeard 61 = .ok (.if_icmp .ne 7, 3) := by decide +kernel
theorem dX3_comesHeard_64 : decode cX3_comesHeard 64 = .ok (.iconst 1, 1) := by decide +kernel
theorem dX3_comesHeard_65 : decode cX3_comesHeard 65 = .ok (.goto 4, 3) := by decide +kernel
theorem dX3_comesHeard_68 : decode cX3_comesHeard 68 = .ok (.iconst 0, 1) := by decide +kernel
theorem dX3_comesHeard_69 : decode cX3_comesHeard 69 = .ok (.ireturn, 1) := by decide +kernel
set_option maxRecDepth 20000 in
theorem ggX3_clearOf_X0_wordCount : GoodIn wsX3_clearOf wsX0_wordCount := goodIn_r _ [5, 6, 7, 8, 9, 10, 11, 12, 41, 42, 43, 44, 45, 46, 47, 48] (by decide +kernel) (by decide +kernel)
set_option maxRecDepth 20000 in
theorem gX3_clearOf_X0_wordCount : GoodIn wsX3_clearOf (wsV RX3 50 RX0 yX0_wordCount wsX0_wordCount) := goodIn_app (goodIn_of _ (by decide +kernel)) ggX3_clearOf_X0_wordCount
set_option maxRecDepth 20000 in
theorem ggX3_clearOf_X3_comesHeard : GoodIn wsX3_clearOf wsX3_comesHeard := goodIn_r _ [17, 18, 19, 20, 21, 4, 22, 6, 23, 24, 25, 10, 26, 12, 27, 28, 29, 30, 31, 32, 33, 34, 35, 36, 37, 38, 39, 40, 49, 50, 41, 42, 43, 44, 45, 46, 47, 48, 51, 52] (by decide +kernel) (by decide +kernel)
set_option maxRecDepth 20000 in
theorem gX3_clearOf_X3_comesHeard : GoodIn wsX3_clearOf (wsV RX3 63 RX3 yX3_comesHeard wsX3_comesHeard) := goodIn_app (goodIn_of _ (by decide +kernel)) ggX3_clearOf_X3_comesHeard
theorem dX3_clearOf_0 : decode cX3_clearOf 0 = .ok (.iconst 0, 1) := by decide +kernel
theorem dX3_clearOf_1 : decode cX3_clearOf 1 = .ok (.istore 5, 2) := by decide +kernel
theorem dX3_clearOf_3 : decode cX3_clearOf 3 = .ok (.iconst 0, 1) := by decide +kernel
theorem dX3_clearOf_4 : decode cX3_clearOf 4 = .ok (.istore 6, 2) := by decide +kernel
theorem dX3_clearOf_6 : decode cX3_clearOf 6 = .ok (.iload 6, 2) := by decide +kernel
theorem dX3_clearOf_8 : decode cX3_clearOf 8 = .ok (.aload_n 1, 1) := by decide +kernel
theorem dX3_clearOf_9 : decode cX3_clearOf 9 = .ok (.invokevirtual 50, 3) := by decide +kernel
theorem dX3_clearOf_12 : decode cX3_clearOf 12 = .ok (.if_icmp .ge 42, 3) := by decide +kernel
theorem dX3_clearOf_15 : decode cX3_clearOf 15 = .ok (.iload_n 2, 1) := by decide +kernel
theorem dX3_clearOf_16 : decode cX3_clearOf 16 = .ok (.iload 6, 2) := by decide +kernel
theorem dX3_clearOf_18 : decode cX3_clearOf 18 = .ok (.ishr, 1) := by decide +kernel
theorem dX3_clearOf_19 : decode cX3_clearOf 19 = .ok (.iconst 1, 1) := by decide +kernel
theorem dX3_clearOf_20 : decode cX3_clearOf 20 = .ok (.iand, 1) := by decide +kernel
theorem dX3_clearOf_21 : decode cX3_clearOf 21 = .ok (.iconst 1, 1) := by decide +kernel
theorem dX3_clearOf_22 : decode cX3_clearOf 22 = .ok (.if_icmp .ne 26, 3) := by decide +kernel
theorem dX3_clearOf_25 : decode cX3_clearOf 25 = .ok (.aload_n 0, 1) := by decide +kernel
theorem dX3_clearOf_26 : decode cX3_clearOf 26 = .ok (.aload_n 1, 1) := by decide +kernel
theorem dX3_clearOf_27 : decode cX3_clearOf 27 = .ok (.iload 6, 2) := by decide +kernel
theorem dX3_clearOf_29 : decode cX3_clearOf 29 = .ok (.iload 4, 2) := by decide +kernel
theorem dX3_clearOf_31 : decode cX3_clearOf 31 = .ok (.aload_n 3, 1) := by decide +kernel
theorem dX3_clearOf_32 : decode cX3_clearOf 32 = .ok (.iconst 0, 1) := by decide +kernel
theorem dX3_clearOf_33 : decode cX3_clearOf 33 = .ok (.invokevirtual 63, 3) := by decide +kernel
theorem dX3_clearOf_36 : decode cX3_clearOf 36 = .ok (.ifCond .eq 12, 3) := by decide +kernel
theorem dX3_clearOf_39 : decode cX3_clearOf 39 = .ok (.iload 5, 2) := by decide +kernel
theorem dX3_clearOf_41 : decode cX3_clearOf 41 = .ok (.iconst 1, 1) := by decide +kernel
theorem dX3_clearOf_42 : decode cX3_clearOf 42 = .ok (.iload 6, 2) := by decide +kernel
theorem dX3_clearOf_44 : decode cX3_clearOf 44 = .ok (.ishl, 1) := by decide +kernel
theorem dX3_clearOf_45 : decode cX3_clearOf 45 = .ok (.ior, 1) := by decide +kernel
theorem dX3_clearOf_46 : decode cX3_clearOf 46 = .ok (.istore 5, 2) := by decide +kernel
theorem dX3_clearOf_48 : decode cX3_clearOf 48 = .ok (.iinc 6 1, 3) := by decide +kernel
theorem dX3_clearOf_51 : decode cX3_clearOf 51 = .ok (.goto (-45), 3) := by decide +kernel
theorem dX3_clearOf_54 : decode cX3_clearOf 54 = .ok (.iload 5, 2) := by decide +kernel
theorem dX3_clearOf_56 : decode cX3_clearOf 56 = .ok (.ireturn, 1) := by decide +kernel
set_option maxRecDepth 20000 in
theorem ggX3_paidOf_X0_wordCount : GoodIn wsX3_paidOf wsX0_wordCount := goodIn_r _ [5, 6, 7, 8, 9, 10, 11, 12, 50, 51, 52, 53, 54, 55, 56, 57] (by decide +kernel) (by decide +kernel)
set_option maxRecDepth 20000 in
theorem gX3_paidOf_X0_wordCount : GoodIn wsX3_paidOf (wsV RX3 50 RX0 yX0_wordCount wsX0_wordCount) := goodIn_app (goodIn_of _ (by decide +kernel)) ggX3_paidOf_X0_wordCount
set_option maxRecDepth 20000 in
theorem ggX3_paidOf_X3_comesBackHeard : GoodIn wsX3_paidOf wsX3_comesBackHeard := goodIn_r _ [17, 18, 19, 20, 21, 22, 23, 24, 8, 9, 10, 11, 12, 25, 26, 27, 16, 28, 29, 30, 31, 32, 4, 33, 6, 34, 35, 36, 37, 38, 39, 40, 41, 42, 43, 44, 45, 46, 47, 48, 49, 58, 59, 56, 57, 60, 61, 50, 51, 52, 53, 54, 55] (by decide +kernel) (by decide +kernel)
set_option maxRecDepth 20000 in
theorem gX3_paidOf_X3_comesBackHeard : GoodIn wsX3_paidOf (wsV RX3 67 RX3 yX3_comesBackHeard wsX3_comesBackHeard) := goodIn_app (goodIn_of _ (by decide +kernel)) ggX3_paidOf_X3_comesBackHeard
theorem dX3_paidOf_0 : decode cX3_paidOf 0 = .ok (.iconst 0, 1) := by decide +kernel
theorem dX3_paidOf_1 : decode cX3_paidOf 1 = .ok (.istore_n 3, 1) := by decide +kernel
theorem dX3_paidOf_2 : decode cX3_paidOf 2 = .ok (.iconst 0, 1) := by decide +kernel
theorem dX3_paidOf_3 : decode cX3_paidOf 3 = .ok (.istore 4, 2) := by decide +kernel
theorem dX3_paidOf_5 : decode cX3_paidOf 5 = .ok (.iload 4, 2) := by decide +kernel
theorem dX3_paidOf_7 : decode cX3_paidOf 7 = .ok (.aload_n 1, 1) := by decide +kernel
theorem dX3_paidOf_8 : decode cX3_paidOf 8 = .ok (.invokevirtual 50, 3) := by decide +kernel
theorem dX3_paidOf_11 : decode cX3_paidOf 11 = .ok (.if_icmp .ge 23, 3) := by decide +kernel
theorem dX3_paidOf_14 : decode cX3_paidOf 14 = .ok (.aload_n 0, 1) := by decide +kernel
theorem dX3_paidOf_15 : decode cX3_paidOf 15 = .ok (.aload_n 1, 1) := by decide +kernel
theorem dX3_paidOf_16 : decode cX3_paidOf 16 = .ok (.iload 4, 2) := by decide +kernel
theorem dX3_paidOf_18 : decode cX3_paidOf 18 = .ok (.aload_n 2, 1) := by decide +kernel
theorem dX3_paidOf_19 : decode cX3_paidOf 19 = .ok (.invokevirtual 67, 3) := by decide +kernel
theorem dX3_paidOf_22 : decode cX3_paidOf 22 = .ok (.ifCond .eq 6, 3) := by decide +kernel
theorem dX3_paidOf_25 : decode cX3_paidOf 25 = .ok (.iinc 3 1, 3) := by decide +kernel
theorem dX3_paidOf_28 : decode cX3_paidOf 28 = .ok (.iinc 4 1, 3) := by decide +kernel
theorem dX3_paidOf_31 : decode cX3_paidOf 31 = .ok (.goto (-26), 3) := by decide +kernel
theorem dX3_paidOf_34 : decode cX3_paidOf 34 = .ok (.iload_n 3, 1) := by decide +kernel
theorem dX3_paidOf_35 : decode cX3_paidOf 35 = .ok (.ireturn, 1) := by decide +kernel
set_option maxRecDepth 20000 in
theorem ggX3_comesBackHeard_X5_size : GoodIn wsX3_comesBackHeard wsX5_size := goodIn_r _ [5, 6, 7, 8, 9, 10, 11, 12, 41, 42, 43, 44] (by decide +kernel) (by decide +kernel)
set_option maxRecDepth 20000 in
theorem gX3_comesBackHeard_X5_size : GoodIn wsX3_comesBackHeard (wsV RX3 34 RX5 yX5_size wsX5_size) := goodIn_app (goodIn_of _ (by decide +kernel)) ggX3_comesBackHeard_X5_size
set_option maxRecDepth 20000 in
theorem ggX3_comesBackHeard_X3_comesHeard : GoodIn wsX3_comesBackHeard wsX3_comesHeard := goodIn_r _ [17, 18, 19, 20, 21, 22, 23, 24, 25, 26, 27, 10, 28, 12, 29, 30, 31, 32, 4, 33, 6, 34, 35, 36, 37, 38, 39, 40, 45, 46, 47, 48, 49, 50, 51, 52, 43, 44, 41, 42] (by decide +kernel) (by decide +kernel)
set_option maxRecDepth 20000 in
theorem gX3_comesBackHeard_X3_comesHeard : GoodIn wsX3_comesBackHeard (wsV RX3 63 RX3 yX3_comesHeard wsX3_comesHeard) := goodIn_app (goodIn_of _ (by decide +kernel)) ggX3_comesBackHeard_X3_comesHeard
theorem dX3_comesBackHeard_0 : decode cX3_comesBackHeard 0 = .ok (.iconst 1, 1) := by decide +kernel
theorem dX3_comesBackHeard_1 : decode cX3_comesBackHeard 1 = .ok (.istore 4, 2) := by decide +kernel
theorem dX3_comesBackHeard_3 : decode cX3_comesBackHeard 3 = .ok (.iload 4, 2) := by decide +kernel
theorem dX3_comesBackHeard_5 : decode cX3_comesBackHeard 5 = .ok (.aload_n 3, 1) := by decide +kernel
theorem dX3_comesBackHeard_6 : decode cX3_comesBackHeard 6 = .ok (.invokevirtual 34, 3) := by decide +kernel
theorem dX3_comesBackHeard_9 : decode cX3_comesBackHeard 9 = .ok (.if_icmp .ge 24, 3) := by decide +kernel
theorem dX3_comesBackHeard_12 : decode cX3_comesBackHeard 12 = .ok (.aload_n 0, 1) := by decide +kernel
theorem dX3_comesBackHeard_13 : decode cX3_comesBackHeard 13 = .ok (.aload_n 1, 1) := by decide +kernel
theorem dX3_comesBackHeard_14 : decode cX3_comesBackHeard 14 = .ok (.iload_n 2, 1) := by decide +kernel
theorem dX3_comesBackHeard_15 : decode cX3_comesBackHeard 15 = .ok (.iconst 0, 1) := by decide +kernel
theorem dX3_comesBackHeard_16 : decode cX3_comesBackHeard 16 = .ok (.aload_n 3, 1) := by decide +kernel
theorem dX3_comesBackHeard_17 : decode cX3_comesBackHeard 17 = .ok (.iload 4, 2) := by decide +kernel
theorem dX3_comesBackHeard_19 : decode cX3_comesBackHeard 19 = .ok (.invokevirtual 63, 3) := by decide +kernel
theorem dX3_comesBackHeard_22 : decode cX3_comesBackHeard 22 = .ok (.ifCond .eq 5, 3) := by decide +kernel
theorem dX3_comesBackHeard_25 : decode cX3_comesBackHeard 25 = .ok (.iconst 1, 1) := by decide +kernel
theorem dX3_comesBackHeard_26 : decode cX3_comesBackHeard 26 = .ok (.ireturn, 1) := by decide +kernel
theorem dX3_comesBackHeard_27 : decode cX3_comesBackHeard 27 = .ok (.iinc 4 1, 3) := by decide +kernel
theorem dX3_comesBackHeard_30 : decode cX3_comesBackHeard 30 = .ok (.goto (-27), 3) := by decide +kernel
theorem dX3_comesBackHeard_33 : decode cX3_comesBackHeard 33 = .ok (.iconst 0, 1) := by decide +kernel
theorem dX3_comesBackHeard_34 : decode cX3_comesBackHeard 34 = .ok (.ireturn, 1) := by decide +kernel
set_option maxRecDepth 20000 in
theorem ggX4_init_X1_init : GoodIn wsX4_init wsX1_init := goodIn_r _ [11, 12, 2, 3, 13, 14, 15, 16, 17, 18, 19, 20] (by decide +kernel) (by decide +kernel)
set_option maxRecDepth 20000 in
theorem gX4_init_X1_init : GoodIn wsX4_init (wsX1_init) := ggX4_init_X1_init
theorem dX4_init_0 : decode cX4_init 0 = .ok (.aload_n 0, 1) := by decide +kernel
theorem dX4_init_1 : decode cX4_init 1 = .ok (.invokespecial 3, 3) := by decide +kernel
theorem dX4_init_4 : decode cX4_init 4 = .ok (.aload_n 0, 1) := by decide +kernel
theorem dX4_init_5 : decode cX4_init 5 = .ok (.new 9, 3) := by decide +kernel
theorem dX4_init_8 : decode cX4_init 8 = .ok (.dup, 1) := by decide +kernel
theorem dX4_init_9 : decode cX4_init 9 = .ok (.sipush 300, 3) := by decide +kernel
theorem dX4_init_12 : decode cX4_init 12 = .ok (.invokespecial 11, 3) := by decide +kernel
theorem dX4_init_15 : decode cX4_init 15 = .ok (.putfield 14, 3) := by decide +kernel
theorem dX4_init_18 : decode cX4_init 18 = .ok (.aload_n 0, 1) := by decide +kernel
theorem dX4_init_19 : decode cX4_init 19 = .ok (.new 9, 3) := by decide +kernel
theorem dX4_init_22 : decode cX4_init 22 = .ok (.dup, 1) := by decide +kernel
theorem dX4_init_23 : decode cX4_init 23 = .ok (.iconst 3, 1) := by decide +kernel
theorem dX4_init_24 : decode cX4_init 24 = .ok (.invokespecial 11, 3) := by decide +kernel
theorem dX4_init_27 : decode cX4_init 27 = .ok (.putfield 20, 3) := by decide +kernel
theorem dX4_init_30 : decode cX4_init 30 = .ok (.return_, 1) := by decide +kernel
set_option maxRecDepth 20000 in
theorem ggX4_length_X1_size : GoodIn wsX4_length wsX1_size := goodIn_r _ [6, 7, 10, 11] (by decide +kernel) (by decide +kernel)
set_option maxRecDepth 20000 in
theorem gX4_length_X1_size : GoodIn wsX4_length (wsV RX4 23 RX1 yX1_size wsX1_size) := goodIn_app (goodIn_of _ (by decide +kernel)) ggX4_length_X1_size
theorem dX4_length_0 : decode cX4_length 0 = .ok (.aload_n 0, 1) := by decide +kernel
theorem dX4_length_1 : decode cX4_length 1 = .ok (.getfield 14, 3) := by decide +kernel
theorem dX4_length_4 : decode cX4_length 4 = .ok (.invokevirtual 23, 3) := by decide +kernel
theorem dX4_length_7 : decode cX4_length 7 = .ok (.ireturn, 1) := by decide +kernel
set_option maxRecDepth 20000 in
theorem ggX4_drop_X1_drop : GoodIn wsX4_drop wsX1_drop := goodIn_r _ [6, 7, 10, 11] (by decide +kernel) (by decide +kernel)
set_option maxRecDepth 20000 in
theorem gX4_drop_X1_drop : GoodIn wsX4_drop (wsV RX4 27 RX1 yX1_drop wsX1_drop) := goodIn_app (goodIn_of _ (by decide +kernel)) ggX4_drop_X1_drop
theorem dX4_drop_0 : decode cX4_drop 0 = .ok (.aload_n 0, 1) := by decide +kernel
theorem dX4_drop_1 : decode cX4_drop 1 = .ok (.getfield 14, 3) := by decide +kernel
theorem dX4_drop_4 : decode cX4_drop 4 = .ok (.invokevirtual 27, 3) := by decide +kernel
theorem dX4_drop_7 : decode cX4_drop 7 = .ok (.return_, 1) := by decide +kernel
set_option maxRecDepth 20000 in
theorem ggX4_append_X1_size : GoodIn wsX4_append wsX1_size := goodIn_r _ [7, 8, 16, 17] (by decide +kernel) (by decide +kernel)
set_option maxRecDepth 20000 in
theorem gX4_append_X1_size : GoodIn wsX4_append (wsV RX4 23 RX1 yX1_size wsX1_size) := goodIn_app (goodIn_of _ (by decide +kernel)) ggX4_append_X1_size
set_option maxRecDepth 20000 in
theorem ggX4_append_X1_add : GoodIn wsX4_append wsX1_add := goodIn_r _ [12, 8, 13, 16, 17] (by decide +kernel) (by decide +kernel)
set_option maxRecDepth 20000 in
theorem gX4_append_X1_add : GoodIn wsX4_append (wsV RX4 32 RX1 yX1_add wsX1_add) := goodIn_app (goodIn_of _ (by decide +kernel)) ggX4_append_X1_add
theorem dX4_append_0 : decode cX4_append 0 = .ok (.aload_n 0, 1) := by decide +kernel
theorem dX4_append_1 : decode cX4_append 1 = .ok (.getfield 14, 3) := by decide +kernel
theorem dX4_append_4 : decode cX4_append 4 = .ok (.invokevirtual 23, 3) := by decide +kernel
theorem dX4_append_7 : decode cX4_append 7 = .ok (.iload_n 1, 1) := by decide +kernel
theorem dX4_append_8 : decode cX4_append 8 = .ok (.iadd, 1) := by decide +kernel
theorem dX4_append_9 : decode cX4_append 9 = .ok (.sipush 300, 3) := by decide +kernel
theorem dX4_append_12 : decode cX4_append 12 = .ok (.if_icmp .le 5, 3) := by decide +kernel
theorem dX4_append_15 : decode cX4_append 15 = .ok (.iconst 0, 1) := by decide +kernel
theorem dX4_append_16 : decode cX4_append 16 = .ok (.ireturn, 1) := by decide +kernel
theorem dX4_append_17 : decode cX4_append 17 = .ok (.iload_n 1, 1) := by decide +kernel
theorem dX4_append_18 : decode cX4_append 18 = .ok (.iconst 1, 1) := by decide +kernel
theorem dX4_append_19 : decode cX4_append 19 = .ok (.isub, 1) := by decide +kernel
theorem dX4_append_20 : decode cX4_append 20 = .ok (.istore 4, 2) := by decide +kernel
theorem dX4_append_22 : decode cX4_append 22 = .ok (.iload 4, 2) := by decide +kernel
theorem dX4_append_24 : decode cX4_append 24 = .ok (.ifCond .lt 29, 3) := by decide +kernel
theorem dX4_append_27 : decode cX4_append 27 = .ok (.aload_n 0, 1) := by decide +kernel
theorem dX4_append_28 : decode cX4_append 28 = .ok (.getfield 14, 3) := by decide +kernel
theorem dX4_append_31 : decode cX4_append 31 = .ok (.lload_n 2, 1) := by decide +kernel
theorem dX4_append_32 : decode cX4_append 32 = .ok (.bipush 8, 2) := by decide +kernel
theorem dX4_append_34 : decode cX4_append 34 = .ok (.iload 4, 2) := by decide +kernel
theorem dX4_append_36 : decode cX4_append 36 = .ok (.imul, 1) := by decide +kernel
theorem dX4_append_37 : decode cX4_append 37 = .ok (.lushr, 1) := by decide +kernel
theorem dX4_append_38 : decode cX4_append 38 = .ok (.ldc2_w 30, 3) := by decide +kernel
theorem dX4_append_41 : decode cX4_append 41 = .ok (.land, 1) := by decide +kernel
theorem dX4_append_42 : decode cX4_append 42 = .ok (.l2i, 1) := by decide +kernel
theorem dX4_append_43 : decode cX4_append 43 = .ok (.invokevirtual 32, 3) := by decide +kernel
theorem dX4_append_46 : decode cX4_append 46 = .ok (.pop, 1) := by decide +kernel
theorem dX4_append_47 : decode cX4_append 47 = .ok (.iinc 4 (-1), 3) := by decide +kernel
theorem dX4_append_50 : decode cX4_append 50 = .ok (.goto (-28), 3) := by decide +kernel
theorem dX4_append_53 : decode cX4_append 53 = .ok (.iconst 1, 1) := by decide +kernel
theorem dX4_append_54 : decode cX4_append 54 = .ok (.ireturn, 1) := by decide +kernel
set_option maxRecDepth 20000 in
theorem ggX4_readInto_X0_empty : GoodIn wsX4_readInto wsX0_empty := goodIn_r _ [6, 7, 8, 9, 10, 11, 12, 13, 14, 15, 16, 17, 18, 93, 94, 95, 96, 97, 98, 99, 100] (by decide +kernel) (by decide +kernel)
set_option maxRecDepth 20000 in
theorem gX4_readInto_X0_empty : GoodIn wsX4_readInto (wsV RX4 36 RX0 yX0_empty wsX0_empty) := goodIn_app (goodIn_of _ (by decide +kernel)) ggX4_readInto_X0_empty
set_option maxRecDepth 20000 in
theorem ggX4_readInto_X1_size : GoodIn wsX4_readInto wsX1_size := goodIn_r _ [22, 18, 99, 100] (by decide +kernel) (by decide +kernel)
set_option maxRecDepth 20000 in
theorem gX4_readInto_X1_size : GoodIn wsX4_readInto (wsV RX4 23 RX1 yX1_size wsX1_size) := goodIn_app (goodIn_of _ (by decide +kernel)) ggX4_readInto_X1_size
set_option maxRecDepth 20000 in
theorem ggX4_readInto_X4_readItem : GoodIn wsX4_readInto wsX4_readItem := goodIn_r _ [27, 1, 28, 29, 30, 31, 16, 32, 18, 33, 34, 14, 15, 17, 35, 36, 37, 26, 38, 39, 40, 41, 42, 43, 44, 45, 46, 47, 48, 49, 50, 51, 52, 53, 54, 55, 56, 57, 58, 59, 60, 5, 61, 7, 62, 63, 64, 65, 66, 67, 68, 69, 70, 71, 72, 73, 74, 75, 76, 8, 77, 78, 79, 80, 81, 82, 9, 83, 84, 85, 86, 10, 87, 88, 89, 90, 11, 91, 92, 99, 100, 93, 94, 95, 96, 97, 98] (by decide +kernel) (by decide +kernel)
set_option maxRecDepth 20000 in
theorem gX4_readInto_X4_readItem : GoodIn wsX4_readInto (wsV RX4 41 RX4 yX4_readItem wsX4_readItem) := goodIn_app (goodIn_of _ (by decide +kernel)) ggX4_readInto_X4_readItem
theorem dX4_readInto_0 : decode cX4_readInto 0 = .ok (.aload_n 1, 1) := by decide +kernel
theorem dX4_readInto_1 : decode cX4_readInto 1 = .ok (.invokevirtual 36, 3) := by decide +kernel
theorem dX4_readInto_4 : decode cX4_readInto 4 = .ok (.iconst 0, 1) := by decide +kernel
theorem dX4_readInto_5 : decode cX4_readInto 5 = .ok (.istore_n 2, 1) := by decide +kernel
theorem dX4_readInto_6 : decode cX4_readInto 6 = .ok (.iconst 0, 1) := by decide +kernel
theorem dX4_readInto_7 : decode cX4_readInto 7 = .ok (.istore_n 3, 1) := by decide +kernel
theorem dX4_readInto_8 : decode cX4_readInto 8 = .ok (.iload_n 3, 1) := by decide +kernel
theorem dX4_readInto_9 : decode cX4_readInto 9 = .ok (.sipush 300, 3) := by decide +kernel
theorem dX4_readInto_12 : decode cX4_readInto 12 = .ok (.if_icmp .ge 40, 3) := by decide +kernel
theorem dX4_readInto_15 : decode cX4_readInto 15 = .ok (.iload_n 2, 1) := by decide +kernel
theorem dX4_readInto_16 : decode cX4_readInto 16 = .ok (.aload_n 0, 1) := by decide +kernel
theorem dX4_readInto_17 : decode cX4_readInto 17 = .ok (.getfield 14, 3) := by decide +kernel
theorem dX4_readInto_20 : decode cX4_readInto 20 = .ok (.invokevirtual 23, 3) := by decide +kernel
theorem dX4_readInto_23 : decode cX4_readInto 23 = .ok (.if_icmp .ge 29, 3) := by decide +kernel
theorem dX4_readInto_26 : decode cX4_readInto 26 = .ok (.aload_n 0, 1) := by decide +kernel
theorem dX4_readInto_27 : decode cX4_readInto 27 = .ok (.iload_n 2, 1) := by decide +kernel
theorem dX4_readInto_28 : decode cX4_readInto 28 = .ok (.aload_n 1, 1) := by decide +kernel
theorem dX4_readInto_29 : decode cX4_readInto 29 = .ok (.invokevirtual 41, 3) := by decide +kernel
theorem dX4_readInto_32 : decode cX4_readInto 32 = .ok (.istore 4, 2) := by decide +kernel
theorem dX4_readInto_34 : decode cX4_readInto 34 = .ok (.iload 4, 2) := by decide +kernel
theorem dX4_readInto_36 : decode cX4_readInto 36 = .ok (.bipush (-4), 2) := by decide +kernel
theorem dX4_readInto_38 : decode cX4_readInto 38 = .ok (.if_icmp .ne 5, 3) := by decide +kernel
theorem dX4_readInto_41 : decode cX4_readInto 41 = .ok (.iload_n 2, 1) := by decide +kernel
theorem dX4_readInto_42 : decode cX4_readInto 42 = .ok (.ireturn, 1) := by decide +kernel
theorem dX4_readInto_43 : decode cX4_readInto 43 = .ok (.iload 4, 2) := by decide +kernel
theorem dX4_readInto_45 : decode cX4_readInto 45 = .ok (.istore_n 2, 1) := by decide +kernel
theorem dX4_readInto_46 : decode cX4_readInto 46 = .ok (.iinc 3 1, 3) := by decide +kernel
theorem dX4_readInto_49 : decode cX4_readInto 49 = .ok (.goto (-41), 3) := by decide +kernel
theorem dX4_readInto_52 : decode cX4_readInto 52 = .ok (.bipush (-4), 2) := by decide +kernel
theorem dX4_readInto_54 : decode cX4_readInto 54 = .ok (.ireturn, 1) := by decide +kernel
set_option maxRecDepth 20000 in
theorem ggX4_readItem_X1_at : GoodIn wsX4_readItem wsX1_at := goodIn_r _ [7, 8, 9, 79, 80] (by decide +kernel) (by decide +kernel)
set_option maxRecDepth 20000 in
theorem gX4_readItem_X1_at : GoodIn wsX4_readItem (wsV RX4 45 RX1 yX1_at wsX1_at) := goodIn_app (goodIn_of _ (by decide +kernel)) ggX4_readItem_X1_at
set_option maxRecDepth 20000 in
theorem ggX4_readItem_X1_drop : GoodIn wsX4_readItem wsX1_drop := goodIn_r _ [13, 8, 79, 80] (by decide +kernel) (by decide +kernel)
set_option maxRecDepth 20000 in
theorem gX4_readItem_X1_drop : GoodIn wsX4_readItem (wsV RX4 27 RX1 yX1_drop wsX1_drop) := goodIn_app (goodIn_of _ (by decide +kernel)) ggX4_readItem_X1_drop
set_option maxRecDepth 20000 in
theorem ggX4_readItem_X4_figuresAt : GoodIn wsX4_readItem wsX4_figuresAt := goodIn_r _ [18, 19, 20, 21, 17, 22, 1, 3, 4, 5, 6, 7, 8, 9, 23, 24, 25, 77, 78, 79, 80] (by decide +kernel) (by decide +kernel)
set_option maxRecDepth 20000 in
theorem gX4_readItem_X4_figuresAt : GoodIn wsX4_readItem (wsV RX4 49 RX4 yX4_figuresAt wsX4_figuresAt) := goodIn_app (goodIn_of _ (by decide +kernel)) ggX4_readItem_X4_figuresAt
set_option maxRecDepth 20000 in
theorem ggX4_readItem_X4_numberAt : GoodIn wsX4_readItem wsX4_numberAt := goodIn_r _ [29, 1, 3, 4, 5, 6, 7, 8, 9, 77, 78, 79, 80] (by decide +kernel) (by decide +kernel)
set_option maxRecDepth 20000 in
theorem gX4_readItem_X4_numberAt : GoodIn wsX4_readItem (wsV RX4 52 RX4 yX4_numberAt wsX4_numberAt) := goodIn_app (goodIn_of _ (by decide +kernel)) ggX4_readItem_X4_numberAt
set_option maxRecDepth 20000 in
theorem ggX4_readItem_X1_add : GoodIn wsX4_readItem wsX1_add := goodIn_r _ [33, 8, 9, 79, 80] (by decide +kernel) (by decide +kernel)
set_option maxRecDepth 20000 in
theorem gX4_readItem_X1_add : GoodIn wsX4_readItem (wsV RX4 32 RX1 yX1_add wsX1_add) := goodIn_app (goodIn_of _ (by decide +kernel)) ggX4_readItem_X1_add
set_option maxRecDepth 20000 in
theorem ggX4_readItem_X4_accept : GoodIn wsX4_readItem wsX4_accept := goodIn_r _ [37, 2, 3, 4, 5, 6, 7, 8, 9, 38, 39, 40, 41, 42, 43, 44, 24, 45, 46, 47, 48, 49, 23, 25, 50, 51, 52, 53, 54, 31, 32, 33, 55, 56, 57, 58, 59, 60, 61, 62, 63, 64, 65, 66, 67, 68, 69, 70, 71, 72, 73, 74, 75, 76, 77, 78, 79, 80, 81, 82, 83, 84, 85, 86] (by decide +kernel) (by decide +kernel)
set_option maxRecDepth 20000 in
theorem gX4_readItem_X4_accept : GoodIn wsX4_readItem (wsV RX4 56 RX4 yX4_accept wsX4_accept) := goodIn_app (goodIn_of _ (by decide +kernel)) ggX4_readItem_X4_accept
theorem dX4_readItem_0 : decode cX4_readItem 0 = .ok (.aload_n 0, 1) := by decide +kernel
theorem dX4_readItem_1 : decode cX4_readItem 1 = .ok (.getfield 14, 3) := by decide +kernel
theorem dX4_readItem_4 : decode cX4_readItem 4 = .ok (.iload_n 1, 1) := by decide +kernel
theorem dX4_readItem_5 : decode cX4_readItem 5 = .ok (.invokevirtual 45, 3) := by decide +kernel
theorem dX4_readItem_8 : decode cX4_readItem 8 = .ok (.istore_n 3, 1) := by decide +kernel
theorem dX4_readItem_9 : decode cX4_readItem 9 = .ok (.iload_n 3, 1) := by decide +kernel
theorem dX4_readItem_10 : decode cX4_readItem 10 = .ok (.bipush 102, 2) := by decide +kernel
theorem dX4_readItem_12 : decode cX4_readItem 12 = .ok (.if_icmp .eq 9, 3) := by decide +kernel
theorem dX4_readItem_15 : decode cX4_readItem 15 = .ok (.iload_n 3, 1) := by decide +kernel
theorem dX4_readItem_16 : decode cX4_readItem 16 = .ok (.bipush 119, 2) := by decide +kernel
theorem dX4_readItem_18 : decode cX4_readItem 18 = .ok (.if_icmp .ne 7, 3) := by decide +kernel
theorem dX4_readItem_21 : decode cX4_readItem 21 = .ok (.iconst 3, 1) := by decide +kernel
theorem dX4_readItem_22 : decode cX4_readItem 22 = .ok (.goto 4, 3) := by decide +kernel
theorem dX4_readItem_25 : decode cX4_readItem 25 = .ok (.iconst 1, 1) := by decide +kernel
theorem dX4_readItem_26 : decode cX4_readItem 26 = .ok (.istore 4, 2) := by decide +kernel
theorem dX4_readItem_28 : decode cX4_readItem 28 = .ok (.iload_n 1, 1) := by decide +kernel
theorem dX4_readItem_29 : decode cX4_readItem 29 = .ok (.iconst 1, 1) := by decide +kernel
theorem dX4_readItem_30 : decode cX4_readItem 30 = .ok (.iadd, 1) := by decide +kernel
theorem dX4_readItem_31 : decode cX4_readItem 31 = .ok (.istore 5, 2) := by decide +kernel
theorem dX4_readItem_33 : decode cX4_readItem 33 = .ok (.aload_n 0, 1) := by decide +kernel
theorem dX4_readItem_34 : decode cX4_readItem 34 = .ok (.getfield 20, 3) := by decide +kernel
theorem dX4_readItem_37 : decode cX4_readItem 37 = .ok (.invokevirtual 27, 3) := by decide +kernel
theorem dX4_readItem_40 : decode cX4_readItem 40 = .ok (.iconst 0, 1) := by decide +kernel
theorem dX4_readItem_41 : decode cX4_readItem 41 = .ok (.istore 6, 2) := by decide +kernel
theorem dX4_readItem_43 : decode cX4_readItem 43 = .ok (.iload 6, 2) := by decide +kernel
theorem dX4_readItem_45 : decode cX4_readItem 45 = .ok (.iload 4, 2) := by decide +kernel
theorem dX4_readItem_47 : decode cX4_readItem 47 = .ok (.if_icmp .ge 82, 3) := by decide +kernel
theorem dX4_readItem_50 : decode cX4_readItem 50 = .ok (.aload_n 0, 1) := by decide +kernel
theorem dX4_readItem_51 : decode cX4_readItem 51 = .ok (.iload 5, 2) := by decide +kernel
theorem dX4_readItem_53 : decode cX4_readItem 53 = .ok (.invokevirtual 49, 3) := by decide +kernel
theorem dX4_readItem_56 : decode cX4_readItem 56 = .ok (.istore 7, 2) := by decide +kernel
theorem dX4_readItem_58 : decode cX4_readItem 58 = .ok (.iload 7, 2) := by decide +kernel
theorem dX4_readItem_60 : decode cX4_readItem 60 = .ok (.ifCond .ne 6, 3) := by decide +kernel
theorem dX4_readItem_63 : decode cX4_readItem 63 = .ok (.bipush (-4), 2) := by decide +kernel
theorem dX4_readItem_65 : decode cX4_readItem 65 = .ok (.ireturn, 1) := by decide +kernel
theorem dX4_readItem_66 : decode cX4_readItem 66 = .ok (.aload_n 0, 1) := by decide +kernel
theorem dX4_readItem_67 : decode cX4_readItem 67 = .ok (.getfield 20, 3) := by decide +kernel
theorem dX4_readItem_70 : decode cX4_readItem 70 = .ok (.aload_n 0, 1) := by decide +kernel
theorem dX4_readItem_71 : decode cX4_readItem 71 = .ok (.iload 5, 2) := by decide +kernel
theorem dX4_readItem_73 : decode cX4_readItem 73 = .ok (.iload 7, 2) := by decide +kernel
theorem dX4_readItem_75 : decode cX4_readItem 75 = .ok (.invokevirtual 52, 3) := by decide +kernel
theorem dX4_readItem_78 : decode cX4_readItem 78 = .ok (.invokevirtual 32, 3) := by decide +kernel
theorem dX4_readItem_81 : decode cX4_readItem 81 = .ok (.pop, 1) := by decide +kernel
theorem dX4_readItem_82 : decode cX4_readItem 82 = .ok (.iload 5, 2) := by decide +kernel
theorem dX4_readItem_84 : decode cX4_readItem 84 = .ok (.iload 7, 2) := by decide +kernel
theorem dX4_readItem_86 : decode cX4_readItem 86 = .ok (.iadd, 1) := by decide +kernel
theorem dX4_readItem_87 : decode cX4_readItem 87 = .ok (.istore 5, 2) := by decide +kernel
theorem dX4_readItem_89 : decode cX4_readItem 89 = .ok (.aload_n 0, 1) := by decide +kernel
theorem dX4_readItem_90 : decode cX4_readItem 90 = .ok (.getfield 14, 3) := by decide +kernel
theorem dX4_readItem_93 : decode cX4_readItem 93 = .ok (.iload 5, 2) := by decide +kernel
theorem dX4_readItem_95 : decode cX4_readItem 95 = .ok (.invokevirtual 45, 3) := by decide +kernel
theorem dX4_readItem_98 : decode cX4_readItem 98 = .ok (.iload 6, 2) := by decide +kernel
theorem dX4_readItem_100 : decode cX4_readItem 100 = .ok (.iload 4, 2) := by decide +kernel
theorem dX4_readItem_102 : decode cX4_readItem 102 = .ok (.iconst 1, 1) := by decide +kernel
theorem dX4_readItem_103 : decode cX4_readItem 103 = .ok (.isub, 1) := by decide +kernel
theorem dX4_readItem_104 : decode cX4_readItem 104 = .ok (.if_icmp .ge 8, 3) := by decide +kernel
theorem dX4_readItem_107 : decode cX4_readItem 107 = .ok (.bipush 44, 2) := by decide +kernel
theorem dX4_readItem_109 : decode cX4_readItem 109 = .ok (.goto 5, 3) := by decide +kernel
theorem dX4_readItem_112 : decode cX4_readItem 112 = .ok (.bipush 59, 2) := by decide +kernel
theorem dX4_readItem_114 : decode cX4_readItem 114 = .ok (.if_icmp .eq 6, 3) := by decide +kernel
theorem dX4_readItem_117 : decode cX4_readItem 117 = .ok (.bipush (-4), 2) := by decide +kernel
theorem dX4_readItem_119 : decode cX4_readItem 119 = .ok (.ireturn, 1) := by decide +kernel
theorem dX4_readItem_120 : decode cX4_readItem 120 = .ok (.iinc 5 1, 3) := by decide +kernel
theorem dX4_readItem_123 : decode cX4_readItem 123 = .ok (.iinc 6 1, 3) := by decide +kernel
theorem dX4_readItem_126 : decode cX4_readItem 126 = .ok (.goto (-83), 3) := by decide +kernel
theorem dX4_readItem_129 : decode cX4_readItem 129 = .ok (.aload_n 0, 1) := by decide +kernel
theorem dX4_readItem_130 : decode cX4_readItem 130 = .ok (.iload_n 3, 1) := by decide +kernel
theorem dX4_readItem_131 : decode cX4_readItem 131 = .ok (.aload_n 2, 1) := by decide +kernel
theorem dX4_readItem_132 : decode cX4_readItem 132 = .ok (.invokevirtual 56, 3) := by decide +kernel
theorem dX4_readItem_135 : decode cX4_readItem 135 = .ok (.ifCond .eq 8, 3) := by decide +kernel
theorem dX4_readItem_138 : decode cX4_readItem 138 = .ok (.iload 5, 2) := by decide +kernel
theorem dX4_readItem_140 : decode cX4_readItem 140 = .ok (.goto 5, 3) := by decide +kernel
theorem dX4_readItem_143 : decode cX4_readItem 143 = .ok (.bipush (-4), 2) := by decide +kernel
theorem dX4_readItem_145 : decode cX4_readItem 145 = .ok (.ireturn, 1) := by decide +kernel
set_option maxRecDepth 20000 in
theorem ggX4_isFigure_X1_at : GoodIn wsX4_isFigure wsX1_at := goodIn_r _ [6, 7, 8, 14, 15] (by decide +kernel) (by decide +kernel)
set_option maxRecDepth 20000 in
theorem gX4_isFigure_X1_at : GoodIn wsX4_isFigure (wsV RX4 45 RX1 yX1_at wsX1_at) := goodIn_app (goodIn_of _ (by decide +kernel)) ggX4_isFigure_X1_at
set_option maxRecDepth 20000 in
theorem ggX4_isFigure_X6_within : GoodIn wsX4_isFigure wsX6_within := goodIn_r _ [11] (by decide +kernel) (by decide +kernel)
set_option maxRecDepth 20000 in
theorem gX4_isFigure_X6_within_n60 : GoodIn wsX4_isFigure (wsX6_within) := ggX4_isFigure_X6_within
theorem dX4_isFigure_0 : decode cX4_isFigure 0 = .ok (.aload_n 0, 1) := by decide +kernel
theorem dX4_isFigure_1 : decode cX4_isFigure 1 = .ok (.getfield 14, 3) := by decide +kernel
theorem dX4_isFigure_4 : decode cX4_isFigure 4 = .ok (.iload_n 1, 1) := by decide +kernel
theorem dX4_isFigure_5 : decode cX4_isFigure 5 = .ok (.invokevirtual 45, 3) := by decide +kernel
theorem dX4_isFigure_8 : decode cX4_isFigure 8 = .ok (.bipush 48, 2) := by decide +kernel
theorem dX4_isFigure_10 : decode cX4_isFigure 10 = .ok (.bipush 57, 2) := by decide +kernel
theorem dX4_isFigure_12 : decode cX4_isFigure 12 = .ok (.invokestatic 60, 3) := by decide +kernel
theorem dX4_isFigure_15 : decode cX4_isFigure 15 = .ok (.ireturn, 1) := by decide +kernel
set_option maxRecDepth 20000 in
theorem ggX4_figuresAt_X4_isFigure : GoodIn wsX4_figuresAt wsX4_isFigure := goodIn_r _ [5, 6, 7, 8, 9, 10, 11, 12, 13, 14, 15, 16, 17, 18, 19, 20] (by decide +kernel) (by decide +kernel)
set_option maxRecDepth 20000 in
theorem gX4_figuresAt_X4_isFigure : GoodIn wsX4_figuresAt (wsV RX4 64 RX4 yX4_isFigure wsX4_isFigure) := goodIn_app (goodIn_of _ (by decide +kernel)) ggX4_figuresAt_X4_isFigure
theorem dX4_figuresAt_0 : decode cX4_figuresAt 0 = .ok (.aload_n 0, 1) := by decide +kernel
theorem dX4_figuresAt_1 : decode cX4_figuresAt 1 = .ok (.iload_n 1, 1) := by decide +kernel
theorem dX4_figuresAt_2 : decode cX4_figuresAt 2 = .ok (.invokevirtual 64, 3) := by decide +kernel
theorem dX4_figuresAt_5 : decode cX4_figuresAt 5 = .ok (.ifCond .ne 5, 3) := by decide +kernel
theorem dX4_figuresAt_8 : decode cX4_figuresAt 8 = .ok (.iconst 0, 1) := by decide +kernel
theorem dX4_figuresAt_9 : decode cX4_figuresAt 9 = .ok (.ireturn, 1) := by decide +kernel
theorem dX4_figuresAt_10 : decode cX4_figuresAt 10 = .ok (.aload_n 0, 1) := by decide +kernel
theorem dX4_figuresAt_11 : decode cX4_figuresAt 11 = .ok (.iload_n 1, 1) := by decide +kernel
theorem dX4_figuresAt_12 : decode cX4_figuresAt 12 = .ok (.iconst 1, 1) := by decide +kernel
theorem dX4_figuresAt_13 : decode cX4_figuresAt 13 = .ok (.iadd, 1) := by decide +kernel
theorem dX4_figuresAt_14 : decode cX4_figuresAt 14 = .ok (.invokevirtual 64, 3) := by decide +kernel
theorem dX4_figuresAt_17 : decode cX4_figuresAt 17 = .ok (.ifCond .eq 7, 3) := by decide +kernel
theorem dX4_figuresAt_20 : decode cX4_figuresAt 20 = .ok (.iconst 2, 1) := by decide +kernel
theorem dX4_figuresAt_21 : decode cX4_figuresAt 21 = .ok (.goto 4, 3) := by decide +kernel
theorem dX4_figuresAt_24 : decode cX4_figuresAt 24 = .ok (.iconst 1, 1) := by decide +kernel
theorem dX4_figuresAt_25 : decode cX4_figuresAt 25 = .ok (.ireturn, 1) := by decide +kernel
set_option maxRecDepth 20000 in
theorem ggX4_numberAt_X1_at : GoodIn wsX4_numberAt wsX1_at := goodIn_r _ [6, 7, 8, 11, 12] (by decide +kernel) (by decide +kernel)
set_option maxRecDepth 20000 in
theorem gX4_numberAt_X1_at : GoodIn wsX4_numberAt (wsV RX4 45 RX1 yX1_at wsX1_at) := goodIn_app (goodIn_of _ (by decide +kernel)) ggX4_numberAt_X1_at
theorem dX4_numberAt_0 : decode cX4_numberAt 0 = .ok (.aload_n 0, 1) := by decide +kernel
theorem dX4_numberAt_1 : decode cX4_numberAt 1 = .ok (.getfield 14, 3) := by decide +kernel
theorem dX4_numberAt_4 : decode cX4_numberAt 4 = .ok (.iload_n 1, 1) := by decide +kernel
theorem dX4_numberAt_5 : decode cX4_numberAt 5 = .ok (.invokevirtual 45, 3) := by decide +kernel
theorem dX4_numberAt_8 : decode cX4_numberAt 8 = .ok (.bipush 48, 2) := by decide +kernel
theorem dX4_numberAt_10 : decode cX4_numberAt 10 = .ok (.isub, 1) := by decide +kernel
theorem dX4_numberAt_11 : decode cX4_numberAt 11 = .ok (.istore_n 3, 1) := by decide +kernel
theorem dX4_numberAt_12 : decode cX4_numberAt 12 = .ok (.iload_n 2, 1) := by decide +kernel
theorem dX4_numberAt_13 : decode cX4_numberAt 13 = .ok (.iconst 1, 1) := by decide +kernel
theorem dX4_numberAt_14 : decode cX4_numberAt 14 = .ok (.if_icmp .ne 7, 3) := by decide +kernel
theorem dX4_numberAt_17 : decode cX4_numberAt 17 = .ok (.iload_n 3, 1) := by decide +kernel
theorem dX4_numberAt_18 : decode cX4_numberAt 18 = .ok (.goto 21, 3) := by decide +kernel
theorem dX4_numberAt_21 : decode cX4_numberAt 21 = .ok (.bipush 10, 2) := by decide +kernel
theorem dX4_numberAt_23 : decode cX4_numberAt 23 = .ok (.iload_n 3, 1) := by decide +kernel
theorem dX4_numberAt_24 : decode cX4_numberAt 24 = .ok (.imul, 1) := by decide +kernel
theorem dX4_numberAt_25 : decode cX4_numberAt 25 = .ok (.aload_n 0, 1) := by decide +kernel
theorem dX4_numberAt_26 : decode cX4_numberAt 26 = .ok (.getfield 14, 3) := by decide +kernel
theorem dX4_numberAt_29 : decode cX4_numberAt 29 = .ok (.iload_n 1, 1) := by decide +kernel
theorem dX4_numberAt_30 : decode cX4_numberAt 30 = .ok (.iconst 1, 1) := by decide +kernel
theorem dX4_numberAt_31 : decode cX4_numberAt 31 = .ok (.iadd, 1) := by decide +kernel
theorem dX4_numberAt_32 : decode cX4_numberAt 32 = .ok (.invokevirtual 45, 3) := by decide +kernel
theorem dX4_numberAt_35 : decode cX4_numberAt 35 = .ok (.iadd, 1) := by decide +kernel
theorem dX4_numberAt_36 : decode cX4_numberAt 36 = .ok (.bipush 48, 2) := by decide +kernel
theorem dX4_numberAt_38 : decode cX4_numberAt 38 = .ok (.isub, 1) := by decide +kernel
theorem dX4_numberAt_39 : decode cX4_numberAt 39 = .ok (.ireturn, 1) := by decide +kernel
set_option maxRecDepth 20000 in
theorem ggX4_accept_X1_at : GoodIn wsX4_accept wsX1_at := goodIn_r _ [6, 7, 8, 56, 57] (by decide +kernel) (by decide +kernel)
set_option maxRecDepth 20000 in
theorem gX4_accept_X1_at : GoodIn wsX4_accept (wsV RX4 45 RX1 yX1_at wsX1_at) := goodIn_app (goodIn_of _ (by decide +kernel)) ggX4_accept_X1_at
set_option maxRecDepth 20000 in
theorem ggX4_accept_X0_addCliff : GoodIn wsX4_accept wsX0_addCliff := goodIn_r _ [13, 14, 15, 16, 17, 18, 19, 20, 21, 22, 23, 24, 25, 26, 5, 27, 7, 8, 28, 29, 30, 31, 58, 59, 60, 61, 62, 63, 56, 57] (by decide +kernel) (by decide +kernel)
set_option maxRecDepth 20000 in
theorem gX4_accept_X0_addCliff : GoodIn wsX4_accept (wsV RX4 67 RX0 yX0_addCliff wsX0_addCliff) := goodIn_app (goodIn_of _ (by decide +kernel)) ggX4_accept_X0_addCliff
set_option maxRecDepth 20000 in
theorem ggX4_accept_X0_addWord : GoodIn wsX4_accept wsX0_addWord := goodIn_r _ [35, 36, 37, 16, 38, 21, 22, 23, 24, 25, 26, 5, 27, 7, 8, 28, 29, 30, 31, 58, 59, 60, 61, 62, 63, 56, 57] (by decide +kernel) (by decide +kernel)
set_option maxRecDepth 20000 in
theorem gX4_accept_X0_addWord : GoodIn wsX4_accept (wsV RX4 70 RX0 yX0_addWord wsX0_addWord) := goodIn_app (goodIn_of _ (by decide +kernel)) ggX4_accept_X0_addWord
set_option maxRecDepth 20000 in
theorem ggX4_accept_X0_setSpeaker : GoodIn wsX4_accept wsX0_setSpeaker := goodIn_r _ [42, 43, 19, 16, 20, 21, 22, 23, 58, 59, 60, 61, 62, 63] (by decide +kernel) (by decide +kernel)
set_option maxRecDepth 20000 in
theorem gX4_accept_X0_setSpeaker : GoodIn wsX4_accept (wsV RX4 73 RX0 yX0_setSpeaker wsX0_setSpeaker) := goodIn_app (goodIn_of _ (by decide +kernel)) ggX4_accept_X0_setSpeaker
set_option maxRecDepth 20000 in
theorem ggX4_accept_X0_setHearer : GoodIn wsX4_accept wsX0_setHearer := goodIn_r _ [47, 48, 19, 16, 20, 21, 22, 23, 58, 59, 60, 61, 62, 63] (by decide +kernel) (by decide +kernel)
set_option maxRecDepth 20000 in
theorem gX4_accept_X0_setHearer : GoodIn wsX4_accept (wsV RX4 76 RX0 yX0_setHearer wsX0_setHearer) := goodIn_app (goodIn_of _ (by decide +kernel)) ggX4_accept_X0_setHearer
set_option maxRecDepth 20000 in
theorem ggX4_accept_X0_setAir : GoodIn wsX4_accept wsX0_setAir := goodIn_r _ [52, 53, 22, 16, 23, 58, 59, 60, 61, 62, 63] (by decide +kernel) (by decide +kernel)
set_option maxRecDepth 20000 in
theorem gX4_accept_X0_setAir : GoodIn wsX4_accept (wsV RX4 79 RX0 yX0_setAir wsX0_setAir) := goodIn_app (goodIn_of _ (by decide +kernel)) ggX4_accept_X0_setAir
theorem dX4_accept_0 : decode cX4_accept 0 = .ok (.iload_n 1, 1) := by decide +kernel
theorem dX4_accept_1 : decode cX4_accept 1 = .ok (.lookupswitch 148 #[(97, 135), (102, 51), (104, 122), (115, 109), (119, 80)], 51) := by decide +kernel
theorem dX4_accept_52 : decode cX4_accept 52 = .ok (.aload_n 2, 1) := by decide +kernel
theorem dX4_accept_53 : decode cX4_accept 53 = .ok (.aload_n 0, 1) := by decide +kernel
theorem dX4_accept_54 : decode cX4_accept 54 = .ok (.getfield 20, 3) := by decide +kernel
theorem dX4_accept_57 : decode cX4_accept 57 = .ok (.iconst 0, 1) := by decide +kernel
theorem dX4_accept_58 : decode cX4_accept 58 = .ok (.invokevirtual 45, 3) := by decide +kernel
theorem dX4_accept_61 : decode cX4_accept 61 = .ok (.aload_n 0, 1) := by decide +kernel
theorem dX4_accept_62 : decode cX4_accept 62 = .ok (.getfield 20, 3) := by decide +kernel
theorem dX4_accept_65 : decode cX4_accept 65 = .ok (.iconst 1, 1) := by decide +kernel
theorem dX4_accept_66 : decode cX4_accept 66 = .ok (.invokevirtual 45, 3) := by decide +kernel
theorem dX4_accept_69 : decode cX4_accept 69 = .ok (.aload_n 0, 1) := by decide +kernel
theorem dX4_accept_70 : decode cX4_accept 70 = .ok (.getfield 20, 3) := by decide +kernel
theorem dX4_accept_73 : decode cX4_accept 73 = .ok (.iconst 2, 1) := by decide +kernel
theorem dX4_accept_74 : decode cX4_accept 74 = .ok (.invokevirtual 45, 3) := by decide +kernel
theorem dX4_accept_77 : decode cX4_accept 77 = .ok (.invokevirtual 67, 3) := by decide +kernel
theorem dX4_accept_80 : decode cX4_accept 80 = .ok (.ireturn, 1) := by decide +kernel
theorem dX4_accept_81 : decode cX4_accept 81 = .ok (.aload_n 2, 1) := by decide +kernel
theorem dX4_accept_82 : decode cX4_accept 82 = .ok (.aload_n 0, 1) := by decide +kernel
theorem dX4_accept_83 : decode cX4_accept 83 = .ok (.getfield 20, 3) := by decide +kernel
theorem dX4_accept_86 : decode cX4_accept 86 = .ok (.iconst 0, 1) := by decide +kernel
theorem dX4_accept_87 : decode cX4_accept 87 = .ok (.invokevirtual 45, 3) := by decide +kernel
theorem dX4_accept_90 : decode cX4_accept 90 = .ok (.aload_n 0, 1) := by decide +kernel
theorem dX4_accept_91 : decode cX4_accept 91 = .ok (.getfield 20, 3) := by decide +kernel
theorem dX4_accept_94 : decode cX4_accept 94 = .ok (.iconst 1, 1) := by decide +kernel
theorem dX4_accept_95 : decode cX4_accept 95 = .ok (.invokevirtual 45, 3) := by decide +kernel
theorem dX4_accept_98 : decode cX4_accept 98 = .ok (.aload_n 0, 1) := by decide +kernel
theorem dX4_accept_99 : decode cX4_accept 99 = .ok (.getfield 20, 3) := by decide +kernel
theorem dX4_accept_102 : decode cX4_accept 102 = .ok (.iconst 2, 1) := by decide +kernel
theorem dX4_accept_103 : decode cX4_accept 103 = .ok (.invokevirtual 45, 3) := by decide +kernel
theorem dX4_accept_106 : decode cX4_accept 106 = .ok (.invokevirtual 70, 3) := by decide +kernel
theorem dX4_accept_109 : decode cX4_accept 109 = .ok (.ireturn, 1) := by decide +kernel
theorem dX4_accept_110 : decode cX4_accept 110 = .ok (.aload_n 2, 1) := by decide +kernel
theorem dX4_accept_111 : decode cX4_accept 111 = .ok (.aload_n 0, 1) := by decide +kernel
theorem dX4_accept_112 : decode cX4_accept 112 = .ok (.getfield 20, 3) := by decide +kernel
theorem dX4_accept_115 : decode cX4_accept 115 = .ok (.iconst 0, 1) := by decide +kernel
theorem dX4_accept_116 : decode cX4_accept 116 = .ok (.invokevirtual 45, 3) := by decide +kernel
theorem dX4_accept_119 : decode cX4_accept 119 = .ok (.invokevirtual 73, 3) := by decide +kernel
theorem dX4_accept_122 : decode cX4_accept 122 = .ok (.ireturn, 1) := by decide +kernel
theorem dX4_accept_123 : decode cX4_accept 123 = .ok (.aload_n 2, 1) := by decide +kernel
theorem dX4_accept_124 : decode cX4_accept 124 = .ok (.aload_n 0, 1) := by decide +kernel
theorem dX4_accept_125 : decode cX4_accept 125 = .ok (.getfield 20, 3) := by decide +kernel
theorem dX4_accept_128 : decode cX4_accept 128 = .ok (.iconst 0, 1) := by decide +kernel
theorem dX4_accept_129 : decode cX4_accept 129 = .ok (.invokevirtual 45, 3) := by decide +kernel
theorem dX4_accept_132 : decode cX4_accept 132 = .ok (.invokevirtual 76, 3) := by decide +kernel
theorem dX4_accept_135 : decode cX4_accept 135 = .ok (.ireturn, 1) := by decide +kernel
theorem dX4_accept_136 : decode cX4_accept 136 = .ok (.aload_n 2, 1) := by decide +kernel
theorem dX4_accept_137 : decode cX4_accept 137 = .ok (.aload_n 0, 1) := by decide +kernel
theorem dX4_accept_138 : decode cX4_accept 138 = .ok (.getfield 20, 3) := by decide +kernel
theorem dX4_accept_141 : decode cX4_accept 141 = .ok (.iconst 0, 1) := by decide +kernel
theorem dX4_accept_142 : decode cX4_accept 142 = .ok (.invokevirtual 45, 3) := by decide +kernel
theorem dX4_accept_145 : decode cX4_accept 145 = .ok (.invokevirtual 79, 3) := by decide +kernel
theorem dX4_accept_148 : decode cX4_accept 148 = .ok (.ireturn, 1) := by decide +kernel
theorem dX4_accept_149 : decode cX4_accept 149 = .ok (.iconst 0, 1) := by decide +kernel
theorem dX4_accept_150 : decode cX4_accept 150 = .ok (.ireturn, 1) := by decide +kernel
set_option maxRecDepth 20000 in
theorem ggX5_init_X1_init : GoodIn wsX5_init wsX1_init := goodIn_r _ [11, 12, 2, 3, 13, 14, 15, 16, 17, 18, 19, 20] (by decide +kernel) (by decide +kernel)
set_option maxRecDepth 20000 in
theorem gX5_init_X1_init : GoodIn wsX5_init (wsX1_init) := ggX5_init_X1_init
theorem dX5_init_0 : decode cX5_init 0 = .ok (.aload_n 0, 1) := by decide +kernel
theorem dX5_init_1 : decode cX5_init 1 = .ok (.invokespecial 3, 3) := by decide +kernel
theorem dX5_init_4 : decode cX5_init 4 = .ok (.aload_n 0, 1) := by decide +kernel
theorem dX5_init_5 : decode cX5_init 5 = .ok (.new 9, 3) := by decide +kernel
theorem dX5_init_8 : decode cX5_init 8 = .ok (.dup, 1) := by decide +kernel
theorem dX5_init_9 : decode cX5_init 9 = .ok (.bipush 9, 2) := by decide +kernel
theorem dX5_init_11 : decode cX5_init 11 = .ok (.invokespecial 11, 3) := by decide +kernel
theorem dX5_init_14 : decode cX5_init 14 = .ok (.putfield 14, 3) := by decide +kernel
theorem dX5_init_17 : decode cX5_init 17 = .ok (.aload_n 0, 1) := by decide +kernel
theorem dX5_init_18 : decode cX5_init 18 = .ok (.new 9, 3) := by decide +kernel
theorem dX5_init_21 : decode cX5_init 21 = .ok (.dup, 1) := by decide +kernel
theorem dX5_init_22 : decode cX5_init 22 = .ok (.bipush 9, 2) := by decide +kernel
theorem dX5_init_24 : decode cX5_init 24 = .ok (.invokespecial 11, 3) := by decide +kernel
theorem dX5_init_27 : decode cX5_init 27 = .ok (.putfield 20, 3) := by decide +kernel
theorem dX5_init_30 : decode cX5_init 30 = .ok (.return_, 1) := by decide +kernel
set_option maxRecDepth 20000 in
theorem ggX5_size_X1_size : GoodIn wsX5_size wsX1_size := goodIn_r _ [6, 7, 10, 11] (by decide +kernel) (by decide +kernel)
set_option maxRecDepth 20000 in
theorem gX5_size_X1_size : GoodIn wsX5_size (wsV RX5 23 RX1 yX1_size wsX1_size) := goodIn_app (goodIn_of _ (by decide +kernel)) ggX5_size_X1_size
theorem dX5_size_0 : decode cX5_size 0 = .ok (.aload_n 0, 1) := by decide +kernel
theorem dX5_size_1 : decode cX5_size 1 = .ok (.getfield 14, 3) := by decide +kernel
theorem dX5_size_4 : decode cX5_size 4 = .ok (.invokevirtual 23, 3) := by decide +kernel
theorem dX5_size_7 : decode cX5_size 7 = .ok (.ireturn, 1) := by decide +kernel
set_option maxRecDepth 20000 in
theorem ggX5_later_X1_at : GoodIn wsX5_later wsX1_at := goodIn_r _ [6, 7, 8, 11, 12] (by decide +kernel) (by decide +kernel)
set_option maxRecDepth 20000 in
theorem gX5_later_X1_at : GoodIn wsX5_later (wsV RX5 27 RX1 yX1_at wsX1_at) := goodIn_app (goodIn_of _ (by decide +kernel)) ggX5_later_X1_at
theorem dX5_later_0 : decode cX5_later 0 = .ok (.aload_n 0, 1) := by decide +kernel
theorem dX5_later_1 : decode cX5_later 1 = .ok (.getfield 14, 3) := by decide +kernel
theorem dX5_later_4 : decode cX5_later 4 = .ok (.iload_n 1, 1) := by decide +kernel
theorem dX5_later_5 : decode cX5_later 5 = .ok (.invokevirtual 27, 3) := by decide +kernel
theorem dX5_later_8 : decode cX5_later 8 = .ok (.ireturn, 1) := by decide +kernel
set_option maxRecDepth 20000 in
theorem ggX5_weaker_X1_at : GoodIn wsX5_weaker wsX1_at := goodIn_r _ [6, 7, 8, 11, 12] (by decide +kernel) (by decide +kernel)
set_option maxRecDepth 20000 in
theorem gX5_weaker_X1_at : GoodIn wsX5_weaker (wsV RX5 27 RX1 yX1_at wsX1_at) := goodIn_app (goodIn_of _ (by decide +kernel)) ggX5_weaker_X1_at
theorem dX5_weaker_0 : decode cX5_weaker 0 = .ok (.aload_n 0, 1) := by decide +kernel
theorem dX5_weaker_1 : decode cX5_weaker 1 = .ok (.getfield 20, 3) := by decide +kernel
theorem dX5_weaker_4 : decode cX5_weaker 4 = .ok (.iload_n 1, 1) := by decide +kernel
theorem dX5_weaker_5 : decode cX5_weaker 5 = .ok (.invokevirtual 27, 3) := by decide +kernel
theorem dX5_weaker_8 : decode cX5_weaker 8 = .ok (.ireturn, 1) := by decide +kernel
set_option maxRecDepth 20000 in
theorem ggX5_trace_X1_drop : GoodIn wsX5_trace wsX1_drop := goodIn_r _ [11, 12, 58, 59] (by decide +kernel) (by decide +kernel)
set_option maxRecDepth 20000 in
theorem gX5_trace_X1_drop : GoodIn wsX5_trace (wsV RX5 31 RX1 yX1_drop wsX1_drop) := goodIn_app (goodIn_of _ (by decide +kernel)) ggX5_trace_X1_drop
set_option maxRecDepth 20000 in
theorem ggX5_trace_X5_addWay : GoodIn wsX5_trace wsX5_addWay := goodIn_r _ [17, 1, 2, 18, 19, 20, 10, 21, 12, 22, 50, 51, 58, 59] (by decide +kernel) (by decide +kernel)
set_option maxRecDepth 20000 in
theorem gX5_trace_X5_addWay : GoodIn wsX5_trace (wsV RX5 45 RX5 yX5_addWay wsX5_addWay) := goodIn_app (goodIn_of _ (by decide +kernel)) ggX5_trace_X5_addWay
set_option maxRecDepth 20000 in
theorem ggX5_trace_X0_cliffCount : GoodIn wsX5_trace wsX0_cliffCount := goodIn_r _ [27, 28, 29, 30, 31, 10, 32, 12, 52, 53, 54, 55, 56, 57, 58, 59] (by decide +kernel) (by decide +kernel)
set_option maxRecDepth 20000 in
theorem gX5_trace_X0_cliffCount : GoodIn wsX5_trace (wsV RX5 49 RX0 yX0_cliffCount wsX0_cliffCount) := goodIn_app (goodIn_of _ (by decide +kernel)) ggX5_trace_X0_cliffCount
set_option maxRecDepth 20000 in
theorem ggX5_trace_X0_hasSnow : GoodIn wsX5_trace wsX0_hasSnow := goodIn_r _ [36, 37, 52, 53, 54, 55, 56, 57] (by decide +kernel) (by decide +kernel)
set_option maxRecDepth 20000 in
theorem gX5_trace_X0_hasSnow : GoodIn wsX5_trace (wsV RX5 52 RX0 yX0_hasSnow wsX0_hasSnow) := goodIn_app (goodIn_of _ (by decide +kernel)) ggX5_trace_X0_hasSnow
set_option maxRecDepth 20000 in
theorem ggX5_trace_X5_traceCliff : GoodIn wsX5_trace wsX5_traceCliff := goodIn_r _ [41, 3, 4, 5, 6, 42, 43, 44, 26, 45, 28, 46, 47, 48, 10, 49, 12, 22, 13, 14, 15, 16, 17, 1, 2, 18, 19, 20, 21, 52, 53, 54, 55, 56, 57, 58, 59, 50, 51] (by decide +kernel) (by decide +kernel)
set_option maxRecDepth 20000 in
theorem gX5_trace_X5_traceCliff : GoodIn wsX5_trace (wsV RX5 56 RX5 yX5_traceCliff wsX5_traceCliff) := goodIn_app (goodIn_of _ (by decide +kernel)) ggX5_trace_X5_traceCliff
theorem dX5_trace_0 : decode cX5_trace 0 = .ok (.aload_n 0, 1) := by decide +kernel
theorem dX5_trace_1 : decode cX5_trace 1 = .ok (.getfield 14, 3) := by decide +kernel
theorem dX5_trace_4 : decode cX5_trace 4 = .ok (.invokevirtual 31, 3) := by decide +kernel
theorem dX5_trace_7 : decode cX5_trace 7 = .ok (.aload_n 0, 1) := by decide +kernel
theorem dX5_trace_8 : decode cX5_trace 8 = .ok (.getfield 20, 3) := by decide +kernel
theorem dX5_trace_11 : decode cX5_trace 11 = .ok (.invokevirtual 31, 3) := by decide +kernel
theorem dX5_trace_14 : decode cX5_trace 14 = .ok (.iload_n 2, 1) := by decide +kernel
theorem dX5_trace_15 : decode cX5_trace 15 = .ok (.iload_n 3, 1) := by decide +kernel
theorem dX5_trace_16 : decode cX5_trace 16 = .ok (.isub, 1) := by decide +kernel
theorem dX5_trace_17 : decode cX5_trace 17 = .ok (.invokestatic 34, 3) := by decide +kernel
theorem dX5_trace_20 : decode cX5_trace 20 = .ok (.istore 4, 2) := by decide +kernel
theorem dX5_trace_22 : decode cX5_trace 22 = .ok (.aload_n 0, 1) := by decide +kernel
theorem dX5_trace_23 : decode cX5_trace 23 = .ok (.iload 4, 2) := by decide +kernel
theorem dX5_trace_25 : decode cX5_trace 25 = .ok (.aload_n 1, 1) := by decide +kernel
theorem dX5_trace_26 : decode cX5_trace 26 = .ok (.getfield 39, 3) := by decide +kernel
theorem dX5_trace_29 : decode cX5_trace 29 = .ok (.iload 4, 2) := by decide +kernel
theorem dX5_trace_31 : decode cX5_trace 31 = .ok (.imul, 1) := by decide +kernel
theorem dX5_trace_32 : decode cX5_trace 32 = .ok (.invokevirtual 45, 3) := by decide +kernel
theorem dX5_trace_35 : decode cX5_trace 35 = .ok (.iconst 0, 1) := by decide +kernel
theorem dX5_trace_36 : decode cX5_trace 36 = .ok (.istore 5, 2) := by decide +kernel
theorem dX5_trace_38 : decode cX5_trace 38 = .ok (.iload 5, 2) := by decide +kernel
theorem dX5_trace_40 : decode cX5_trace 40 = .ok (.aload_n 1, 1) := by decide +kernel
theorem dX5_trace_41 : decode cX5_trace 41 = .ok (.invokevirtual 49, 3) := by decide +kernel
theorem dX5_trace_44 : decode cX5_trace 44 = .ok (.if_icmp .ge 27, 3) := by decide +kernel
theorem dX5_trace_47 : decode cX5_trace 47 = .ok (.aload_n 1, 1) := by decide +kernel
theorem dX5_trace_48 : decode cX5_trace 48 = .ok (.iload 5, 2) := by decide +kernel
theorem dX5_trace_50 : decode cX5_trace 50 = .ok (.invokevirtual 52, 3) := by decide +kernel
theorem dX5_trace_53 : decode cX5_trace 53 = .ok (.ifCond .ne 12, 3) := by decide +kernel
theorem dX5_trace_56 : decode cX5_trace 56 = .ok (.aload_n 0, 1) := by decide +kernel
theorem dX5_trace_57 : decode cX5_trace 57 = .ok (.aload_n 1, 1) := by decide +kernel
theorem dX5_trace_58 : decode cX5_trace 58 = .ok (.iload 5, 2) := by decide +kernel
theorem dX5_trace_60 : decode cX5_trace 60 = .ok (.iload_n 2, 1) := by decide +kernel
theorem dX5_trace_61 : decode cX5_trace 61 = .ok (.iload_n 3, 1) := by decide +kernel
theorem dX5_trace_62 : decode cX5_trace 62 = .ok (.invokevirtual 56, 3) := by decide +kernel
theorem dX5_trace_65 : decode cX5_trace 65 = .ok (.iinc 5 1, 3) := by decide +kernel
theorem dX5_trace_68 : decode cX5_trace 68 = .ok (.goto (-30), 3) := by decide +kernel
theorem dX5_trace_71 : decode cX5_trace 71 = .ok (.return_, 1) := by decide +kernel
set_option maxRecDepth 20000 in
theorem ggX5_traceCliff_X0_cliffPart : GoodIn wsX5_traceCliff wsX0_cliffPart := goodIn_r _ [9, 10, 11, 12, 13, 14, 15, 16, 17, 29, 30, 31, 32, 33, 34, 35, 36] (by decide +kernel) (by decide +kernel)
set_option maxRecDepth 20000 in
theorem gX5_traceCliff_X0_cliffPart : GoodIn wsX5_traceCliff (wsV RX5 60 RX0 yX0_cliffPart wsX0_cliffPart) := goodIn_app (goodIn_of _ (by decide +kernel)) ggX5_traceCliff_X0_cliffPart
set_option maxRecDepth 20000 in
theorem ggX5_traceCliff_X5_addWay : GoodIn wsX5_traceCliff wsX5_addWay := goodIn_r _ [22, 23, 24, 25, 26, 27, 14, 28, 16, 17, 37, 38, 35, 36] (by decide +kernel) (by decide +kernel)
set_option maxRecDepth 20000 in
theorem gX5_traceCliff_X5_addWay : GoodIn wsX5_traceCliff (wsV RX5 45 RX5 yX5_addWay wsX5_addWay) := goodIn_app (goodIn_of _ (by decide +kernel)) ggX5_traceCliff_X5_addWay
theorem dX5_traceCliff_0 : decode cX5_traceCliff 0 = .ok (.aload_n 1, 1) := by decide +kernel
theorem dX5_traceCliff_1 : decode cX5_traceCliff 1 = .ok (.iload_n 2, 1) := by decide +kernel
theorem dX5_traceCliff_2 : decode cX5_traceCliff 2 = .ok (.iconst 0, 1) := by decide +kernel
theorem dX5_traceCliff_3 : decode cX5_traceCliff 3 = .ok (.invokevirtual 60, 3) := by decide +kernel
theorem dX5_traceCliff_6 : decode cX5_traceCliff 6 = .ok (.istore 5, 2) := by decide +kernel
theorem dX5_traceCliff_8 : decode cX5_traceCliff 8 = .ok (.aload_n 1, 1) := by decide +kernel
theorem dX5_traceCliff_9 : decode cX5_traceCliff 9 = .ok (.iload_n 2, 1) := by decide +kernel
theorem dX5_traceCliff_10 : decode cX5_traceCliff 10 = .ok (.iconst 1, 1) := by decide +kernel
theorem dX5_traceCliff_11 : decode cX5_traceCliff 11 = .ok (.invokevirtual 60, 3) := by decide +kernel
theorem dX5_traceCliff_14 : decode cX5_traceCliff 14 = .ok (.istore 6, 2) := by decide +kernel
theorem dX5_traceCliff_16 : decode cX5_traceCliff 16 = .ok (.aload_n 1, 1) := by decide +kernel
theorem dX5_traceCliff_17 : decode cX5_traceCliff 17 = .ok (.iload_n 2, 1) := by decide +kernel
theorem dX5_traceCliff_18 : decode cX5_traceCliff 18 = .ok (.iconst 2, 1) := by decide +kernel
theorem dX5_traceCliff_19 : decode cX5_traceCliff 19 = .ok (.invokevirtual 60, 3) := by decide +kernel
theorem dX5_traceCliff_22 : decode cX5_traceCliff 22 = .ok (.istore 7, 2) := by decide +kernel
theorem dX5_traceCliff_24 : decode cX5_traceCliff 24 = .ok (.iload_n 3, 1) := by decide +kernel
theorem dX5_traceCliff_25 : decode cX5_traceCliff 25 = .ok (.iload 5, 2) := by decide +kernel
theorem dX5_traceCliff_27 : decode cX5_traceCliff 27 = .ok (.isub, 1) := by decide +kernel
theorem dX5_traceCliff_28 : decode cX5_traceCliff 28 = .ok (.invokestatic 34, 3) := by decide +kernel
theorem dX5_traceCliff_31 : decode cX5_traceCliff 31 = .ok (.iload 5, 2) := by decide +kernel
theorem dX5_traceCliff_33 : decode cX5_traceCliff 33 = .ok (.iload 4, 2) := by decide +kernel
theorem dX5_traceCliff_35 : decode cX5_traceCliff 35 = .ok (.isub, 1) := by decide +kernel
theorem dX5_traceCliff_36 : decode cX5_traceCliff 36 = .ok (.invokestatic 34, 3) := by decide +kernel
theorem dX5_traceCliff_39 : decode cX5_traceCliff 39 = .ok (.iadd, 1) := by decide +kernel
theorem dX5_traceCliff_40 : decode cX5_traceCliff 40 = .ok (.istore 8, 2) := by decide +kernel
theorem dX5_traceCliff_42 : decode cX5_traceCliff 42 = .ok (.iload 7, 2) := by decide +kernel
theorem dX5_traceCliff_44 : decode cX5_traceCliff 44 = .ok (.iconst 2, 1) := by decide +kernel
theorem dX5_traceCliff_45 : decode cX5_traceCliff 45 = .ok (.if_icmp .ne 10, 3) := by decide +kernel
theorem dX5_traceCliff_48 : decode cX5_traceCliff 48 = .ok (.iload 8, 2) := by decide +kernel
theorem dX5_traceCliff_50 : decode cX5_traceCliff 50 = .ok (.iconst 2, 1) := by decide +kernel
theorem dX5_traceCliff_51 : decode cX5_traceCliff 51 = .ok (.iadd, 1) := by decide +kernel
theorem dX5_traceCliff_52 : decode cX5_traceCliff 52 = .ok (.goto 5, 3) := by decide +kernel
theorem dX5_traceCliff_55 : decode cX5_traceCliff 55 = .ok (.iload 8, 2) := by decide +kernel
theorem dX5_traceCliff_57 : decode cX5_traceCliff 57 = .ok (.istore 9, 2) := by decide +kernel
theorem dX5_traceCliff_59 : decode cX5_traceCliff 59 = .ok (.aload_n 1, 1) := by decide +kernel
theorem dX5_traceCliff_60 : decode cX5_traceCliff 60 = .ok (.getfield 39, 3) := by decide +kernel
theorem dX5_traceCliff_63 : decode cX5_traceCliff 63 = .ok (.iload 8, 2) := by decide +kernel
theorem dX5_traceCliff_65 : decode cX5_traceCliff 65 = .ok (.imul, 1) := by decide +kernel
theorem dX5_traceCliff_66 : decode cX5_traceCliff 66 = .ok (.iload 7, 2) := by decide +kernel
theorem dX5_traceCliff_68 : decode cX5_traceCliff 68 = .ok (.iconst 1, 1) := by decide +kernel
theorem dX5_traceCliff_69 : decode cX5_traceCliff 69 = .ok (.if_icmp .ne 10, 3) := by decide +kernel
theorem dX5_traceCliff_72 : decode cX5_traceCliff 72 = .ok (.iconst 2, 1) := by decide +kernel
theorem dX5_traceCliff_73 : decode cX5_traceCliff 73 = .ok (.iload 6, 2) := by decide +kernel
theorem dX5_traceCliff_75 : decode cX5_traceCliff 75 = .ok (.imul, 1) := by decide +kernel
theorem dX5_traceCliff_76 : decode cX5_traceCliff 76 = .ok (.goto 5, 3) := by decide +kernel
theorem dX5_traceCliff_79 : decode cX5_traceCliff 79 = .ok (.iload 6, 2) := by decide +kernel
theorem dX5_traceCliff_81 : decode cX5_traceCliff 81 = .ok (.iadd, 1) := by decide +kernel
theorem dX5_traceCliff_82 : decode cX5_traceCliff 82 = .ok (.istore 10, 2) := by decide +kernel
theorem dX5_traceCliff_84 : decode cX5_traceCliff 84 = .ok (.aload_n 0, 1) := by decide +kernel
theorem dX5_traceCliff_85 : decode cX5_traceCliff 85 = .ok (.iload 9, 2) := by decide +kernel
theorem dX5_traceCliff_87 : decode cX5_traceCliff 87 = .ok (.iload 10, 2) := by decide +kernel
theorem dX5_traceCliff_89 : decode cX5_traceCliff 89 = .ok (.invokevirtual 45, 3) := by decide +kernel
theorem dX5_traceCliff_92 : decode cX5_traceCliff 92 = .ok (.iload 7, 2) := by decide +kernel
theorem dX5_traceCliff_94 : decode cX5_traceCliff 94 = .ok (.iconst 3, 1) := by decide +kernel
theorem dX5_traceCliff_95 : decode cX5_traceCliff 95 = .ok (.if_icmp .ne 15, 3) := by decide +kernel
theorem dX5_traceCliff_98 : decode cX5_traceCliff 98 = .ok (.aload_n 0, 1) := by decide +kernel
theorem dX5_traceCliff_99 : decode cX5_traceCliff 99 = .ok (.iload 9, 2) := by decide +kernel
theorem dX5_traceCliff_101 : decode cX5_traceCliff 101 = .ok (.iconst 4, 1) := by decide +kernel
theorem dX5_traceCliff_102 : decode cX5_traceCliff 102 = .ok (.iadd, 1) := by decide +kernel
theorem dX5_traceCliff_103 : decode cX5_traceCliff 103 = .ok (.iload 10, 2) := by decide +kernel
theorem dX5_traceCliff_105 : decode cX5_traceCliff 105 = .ok (.iconst 3, 1) := by decide +kernel
theorem dX5_traceCliff_106 : decode cX5_traceCliff 106 = .ok (.iadd, 1) := by decide +kernel
theorem dX5_traceCliff_107 : decode cX5_traceCliff 107 = .ok (.invokevirtual 45, 3) := by decide +kernel
theorem dX5_traceCliff_110 : decode cX5_traceCliff 110 = .ok (.return_, 1) := by decide +kernel
set_option maxRecDepth 20000 in
theorem ggX5_addWay_X1_add : GoodIn wsX5_addWay wsX1_add := goodIn_r _ [7, 8, 9, 12, 13] (by decide +kernel) (by decide +kernel)
set_option maxRecDepth 20000 in
theorem gX5_addWay_X1_add : GoodIn wsX5_addWay (wsV RX5 64 RX1 yX1_add wsX1_add) := goodIn_app (goodIn_of _ (by decide +kernel)) ggX5_addWay_X1_add
theorem dX5_addWay_0 : decode cX5_addWay 0 = .ok (.aload_n 0, 1) := by decide +kernel
theorem dX5_addWay_1 : decode cX5_addWay 1 = .ok (.getfield 14, 3) := by decide +kernel
theorem dX5_addWay_4 : decode cX5_addWay 4 = .ok (.iload_n 1, 1) := by decide +kernel
theorem dX5_addWay_5 : decode cX5_addWay 5 = .ok (.invokevirtual 64, 3) := by decide +kernel
theorem dX5_addWay_8 : decode cX5_addWay 8 = .ok (.pop, 1) := by decide +kernel
theorem dX5_addWay_9 : decode cX5_addWay 9 = .ok (.aload_n 0, 1) := by decide +kernel
theorem dX5_addWay_10 : decode cX5_addWay 10 = .ok (.getfield 20, 3) := by decide +kernel
theorem dX5_addWay_13 : decode cX5_addWay 13 = .ok (.iload_n 2, 1) := by decide +kernel
theorem dX5_addWay_14 : decode cX5_addWay 14 = .ok (.invokevirtual 64, 3) := by decide +kernel
theorem dX5_addWay_17 : decode cX5_addWay 17 = .ok (.pop, 1) := by decide +kernel
theorem dX5_addWay_18 : decode cX5_addWay 18 = .ok (.return_, 1) := by decide +kernel
set_option maxRecDepth 20000 in
theorem ggX6_init_X4_init : GoodIn wsX6_init wsX4_init := goodIn_r _ [33, 34, 2, 3, 35, 28, 29, 36, 37, 38, 39, 40, 41, 42, 43, 44, 45, 46, 47, 143, 144, 119, 120] (by decide +kernel) (by decide +kernel)
set_option maxRecDepth 20000 in
theorem gX6_init_X4_init_n11 : GoodIn wsX6_init (wsX4_init) := ggX6_init_X4_init
set_option maxRecDepth 20000 in
theorem ggX6_init_X0_init : GoodIn wsX6_init wsX0_init := goodIn_r _ [50, 51, 2, 3, 52, 28, 29, 53, 54, 55, 39, 40, 41, 42, 43, 44, 45, 46, 47, 56, 57, 58, 10, 59, 60, 61, 62, 63, 64, 65, 66, 67, 68, 143, 144, 131, 132, 133, 134, 135, 136] (by decide +kernel) (by decide +kernel)
set_option maxRecDepth 20000 in
theorem gX6_init_X0_init : GoodIn wsX6_init (wsX0_init) := ggX6_init_X0_init
set_option maxRecDepth 20000 in
theorem ggX6_init_X5_init : GoodIn wsX6_init wsX5_init := goodIn_r _ [70, 71, 2, 3, 72, 28, 29, 73, 74, 75, 39, 40, 41, 42, 43, 44, 45, 46, 47, 143, 144, 137, 138] (by decide +kernel) (by decide +kernel)
set_option maxRecDepth 20000 in
theorem gX6_init_X5_init_n28 : GoodIn wsX6_init (wsX5_init) := ggX6_init_X5_init
set_option maxRecDepth 20000 in
theorem ggX6_init_X3_init : GoodIn wsX6_init wsX3_init := goodIn_r _ [77, 78, 2, 3, 79, 28, 29, 80, 81, 82, 39, 40, 41, 42, 43, 44, 45, 46, 47, 143, 144, 139, 140] (by decide +kernel) (by decide +kernel)
set_option maxRecDepth 20000 in
theorem gX6_init_X3_init_n38 : GoodIn wsX6_init (wsX3_init) := ggX6_init_X3_init
set_option maxRecDepth 20000 in
theorem ggX6_init_X2_init : GoodIn wsX6_init wsX2_init := goodIn_r _ [85, 86, 2, 3, 87, 43, 44, 45, 88, 89, 9, 10, 90, 49, 50, 51, 52, 28, 29, 53, 54, 55, 39, 40, 41, 42, 46, 47, 56, 57, 58, 59, 60, 61, 62, 63, 64, 65, 66, 67, 68, 141, 142, 131, 132, 133, 134, 135, 136, 143, 144] (by decide +kernel) (by decide +kernel)
set_option maxRecDepth 20000 in
theorem gX6_init_X2_init : GoodIn wsX6_init (wsX2_init) := ggX6_init_X2_init
set_option maxRecDepth 20000 in
theorem ggX6_init_X1_init : GoodIn wsX6_init wsX1_init := goodIn_r _ [40, 41, 2, 3, 42, 43, 44, 45, 46, 47, 143, 144] (by decide +kernel) (by decide +kernel)
set_option maxRecDepth 20000 in
theorem gX6_init_X1_init : GoodIn wsX6_init (wsX1_init) := ggX6_init_X1_init
set_option maxRecDepth 20000 in
theorem ggX6_init_X0_addCliff : GoodIn wsX6_init wsX0_addCliff := goodIn_r _ [95, 53, 96, 97, 98, 99, 100, 101, 102, 103, 104, 105, 106, 107, 29, 108, 68, 47, 109, 110, 111, 112, 131, 132, 133, 134, 135, 136, 143, 144] (by decide +kernel) (by decide +kernel)
set_option maxRecDepth 20000 in
theorem gX6_init_X0_addCliff : GoodIn wsX6_init (wsV RX6 65 RX0 yX0_addCliff wsX0_addCliff) := goodIn_app (goodIn_of _ (by decide +kernel)) ggX6_init_X0_addCliff
set_option maxRecDepth 20000 in
theorem ggX6_init_X0_addWord : GoodIn wsX6_init wsX0_addWord := goodIn_r _ [116, 54, 117, 97, 118, 102, 103, 104, 105, 106, 107, 29, 108, 68, 47, 109, 110, 111, 112, 131, 132, 133, 134, 135, 136, 143, 144] (by decide +kernel) (by decide +kernel)
set_option maxRecDepth 20000 in
theorem gX6_init_X0_addWord : GoodIn wsX6_init (wsV RX6 69 RX0 yX0_addWord wsX0_addWord) := goodIn_app (goodIn_of _ (by decide +kernel)) ggX6_init_X0_addWord
theorem dX6_init_0 : decode cX6_init 0 = .ok (.aload_n 0, 1) := by decide +kernel
theorem dX6_init_1 : decode cX6_init 1 = .ok (.invokespecial 3, 3) := by decide +kernel
theorem dX6_init_4 : decode cX6_init 4 = .ok (.aload_n 0, 1) := by decide +kernel
theorem dX6_init_5 : decode cX6_init 5 = .ok (.new 9, 3) := by decide +kernel
theorem dX6_init_8 : decode cX6_init 8 = .ok (.dup, 1) := by decide +kernel
theorem dX6_init_9 : decode cX6_init 9 = .ok (.invokespecial 11, 3) := by decide +kernel
theorem dX6_init_12 : decode cX6_init 12 = .ok (.putfield 12, 3) := by decide +kernel
theorem dX6_init_15 : decode cX6_init 15 = .ok (.aload_n 0, 1) := by decide +kernel
theorem dX6_init_16 : decode cX6_init 16 = .ok (.new 16, 3) := by decide +kernel
theorem dX6_init_19 : decode cX6_init 19 = .ok (.dup, 1) := by decide +kernel
theorem dX6_init_20 : decode cX6_init 20 = .ok (.invokespecial 18, 3) := by decide +kernel
theorem dX6_init_23 : decode cX6_init 23 = .ok (.putfield 19, 3) := by decide +kernel
theorem dX6_init_26 : decode cX6_init 26 = .ok (.aload_n 0, 1) := by decide +kernel
theorem dX6_init_27 : decode cX6_init 27 = .ok (.new 16, 3) := by decide +kernel
theorem dX6_init_30 : decode cX6_init 30 = .ok (.dup, 1) := by decide +kernel
theorem dX6_init_31 : decode cX6_init 31 = .ok (.invokespecial 18, 3) := by decide +kernel
theorem dX6_init_34 : decode cX6_init 34 = .ok (.putfield 23, 3) := by decide +kernel
theorem dX6_init_37 : decode cX6_init 37 = .ok (.aload_n 0, 1) := by decide +kernel
theorem dX6_init_38 : decode cX6_init 38 = .ok (.new 26, 3) := by decide +kernel
theorem dX6_init_41 : decode cX6_init 41 = .ok (.dup, 1) := by decide +kernel
theorem dX6_init_42 : decode cX6_init 42 = .ok (.invokespecial 28, 3) := by decide +kernel
theorem dX6_init_45 : decode cX6_init 45 = .ok (.putfield 29, 3) := by decide +kernel
theorem dX6_init_48 : decode cX6_init 48 = .ok (.aload_n 0, 1) := by decide +kernel
theorem dX6_init_49 : decode cX6_init 49 = .ok (.new 26, 3) := by decide +kernel
theorem dX6_init_52 : decode cX6_init 52 = .ok (.dup, 1) := by decide +kernel
theorem dX6_init_53 : decode cX6_init 53 = .ok (.invokespecial 28, 3) := by decide +kernel
theorem dX6_init_56 : decode cX6_init 56 = .ok (.putfield 33, 3) := by decide +kernel
theorem dX6_init_59 : decode cX6_init 59 = .ok (.aload_n 0, 1) := by decide +kernel
theorem dX6_init_60 : decode cX6_init 60 = .ok (.new 36, 3) := by decide +kernel
theorem dX6_init_63 : decode cX6_init 63 = .ok (.dup, 1) := by decide +kernel
theorem dX6_init_64 : decode cX6_init 64 = .ok (.invokespecial 38, 3) := by decide +kernel
theorem dX6_init_67 : decode cX6_init 67 = .ok (.putfield 39, 3) := by decide +kernel
theorem dX6_init_70 : decode cX6_init 70 = .ok (.aload_n 0, 1) := by decide +kernel
theorem dX6_init_71 : decode cX6_init 71 = .ok (.new 43, 3) := by decide +kernel
theorem dX6_init_74 : decode cX6_init 74 = .ok (.dup, 1) := by decide +kernel
theorem dX6_init_75 : decode cX6_init 75 = .ok (.bipush 8, 2) := by decide +kernel
theorem dX6_init_77 : decode cX6_init 77 = .ok (.invokespecial 45, 3) := by decide +kernel
theorem dX6_init_80 : decode cX6_init 80 = .ok (.putfield 48, 3) := by decide +kernel
theorem dX6_init_83 : decode cX6_init 83 = .ok (.aload_n 0, 1) := by decide +kernel
theorem dX6_init_84 : decode cX6_init 84 = .ok (.new 43, 3) := by decide +kernel
theorem dX6_init_87 : decode cX6_init 87 = .ok (.dup, 1) := by decide +kernel
theorem dX6_init_88 : decode cX6_init 88 = .ok (.iconst 2, 1) := by decide +kernel
theorem dX6_init_89 : decode cX6_init 89 = .ok (.invokespecial 45, 3) := by decide +kernel
theorem dX6_init_92 : decode cX6_init 92 = .ok (.putfield 52, 3) := by decide +kernel
theorem dX6_init_95 : decode cX6_init 95 = .ok (.aload_n 0, 1) := by decide +kernel
theorem dX6_init_96 : decode cX6_init 96 = .ok (.new 55, 3) := by decide +kernel
theorem dX6_init_99 : decode cX6_init 99 = .ok (.dup, 1) := by decide +kernel
theorem dX6_init_100 : decode cX6_init 100 = .ok (.bipush 6, 2) := by decide +kernel
theorem dX6_init_102 : decode cX6_init 102 = .ok (.invokespecial 57, 3) := by decide +kernel
theorem dX6_init_105 : decode cX6_init 105 = .ok (.putfield 58, 3) := by decide +kernel
theorem dX6_init_108 : decode cX6_init 108 = .ok (.aload_n 0, 1) := by decide +kernel
theorem dX6_init_109 : decode cX6_init 109 = .ok (.new 55, 3) := by decide +kernel
theorem dX6_init_112 : decode cX6_init 112 = .ok (.dup, 1) := by decide +kernel
theorem dX6_init_113 : decode cX6_init 113 = .ok (.bipush 27, 2) := by decide +kernel
theorem dX6_init_115 : decode cX6_init 115 = .ok (.invokespecial 57, 3) := by decide +kernel
theorem dX6_init_118 : decode cX6_init 118 = .ok (.putfield 62, 3) := by decide +kernel
theorem dX6_init_121 : decode cX6_init 121 = .ok (.aload_n 0, 1) := by decide +kernel
theorem dX6_init_122 : decode cX6_init 122 = .ok (.getfield 19, 3) := by decide +kernel
theorem dX6_init_125 : decode cX6_init 125 = .ok (.bipush 20, 2) := by decide +kernel
theorem dX6_init_127 : decode cX6_init 127 = .ok (.iconst 2, 1) := by decide +kernel
theorem dX6_init_128 : decode cX6_init 128 = .ok (.iconst 0, 1) := by decide +kernel
theorem dX6_init_129 : decode cX6_init 129 = .ok (.invokevirtual 65, 3) := by decide +kernel
theorem dX6_init_132 : decode cX6_init 132 = .ok (.pop, 1) := by decide +kernel
theorem dX6_init_133 : decode cX6_init 133 = .ok (.aload_n 0, 1) := by decide +kernel
theorem dX6_init_134 : decode cX6_init 134 = .ok (.getfield 19, 3) := by decide +kernel
theorem dX6_init_137 : decode cX6_init 137 = .ok (.iconst 0, 1) := by decide +kernel
theorem dX6_init_138 : decode cX6_init 138 = .ok (.iconst 1, 1) := by decide +kernel
theorem dX6_init_139 : decode cX6_init 139 = .ok (.bipush 50, 2) := by decide +kernel
theorem dX6_init_141 : decode cX6_init 141 = .ok (.invokevirtual 69, 3) := by decide +kernel
theorem dX6_init_144 : decode cX6_init 144 = .ok (.pop, 1) := by decide +kernel
theorem dX6_init_145 : decode cX6_init 145 = .ok (.aload_n 0, 1) := by decide +kernel
theorem dX6_init_146 : decode cX6_init 146 = .ok (.getfield 19, 3) := by decide +kernel
theorem dX6_init_149 : decode cX6_init 149 = .ok (.iconst 3, 1) := by decide +kernel
theorem dX6_init_150 : decode cX6_init 150 = .ok (.iconst 2, 1) := by decide +kernel
theorem dX6_init_151 : decode cX6_init 151 = .ok (.bipush 50, 2) := by decide +kernel
theorem dX6_init_153 : decode cX6_init 153 = .ok (.invokevirtual 69, 3) := by decide +kernel
theorem dX6_init_156 : decode cX6_init 156 = .ok (.pop, 1) := by decide +kernel
theorem dX6_init_157 : decode cX6_init 157 = .ok (.return_, 1) := by decide +kernel
set_option maxRecDepth 20000 in
theorem ggX6_write_X6_within : GoodIn wsX6_write wsX6_within := goodIn_r _ [5] (by decide +kernel) (by decide +kernel)
set_option maxRecDepth 20000 in
theorem gX6_write_X6_within : GoodIn wsX6_write (va_wsS RX6 72 yX6_within wsX6_within) := goodIn_app (goodIn_of _ (by decide +kernel)) ggX6_write_X6_within
set_option maxRecDepth 20000 in
theorem ggX6_write_X4_append : GoodIn wsX6_write wsX4_append := goodIn_r _ [10, 11, 12, 13, 14, 15, 16, 17, 18, 19, 20, 21, 22, 23, 38, 39, 40, 41] (by decide +kernel) (by decide +kernel)
set_option maxRecDepth 20000 in
theorem gX6_write_X4_append : GoodIn wsX6_write (wsV RX6 75 RX4 yX4_append wsX4_append) := goodIn_app (goodIn_of _ (by decide +kernel)) ggX6_write_X4_append
set_option maxRecDepth 20000 in
theorem ggX6_write_X4_length : GoodIn wsX6_write wsX4_length := goodIn_r _ [27, 11, 13, 14, 15, 16, 17, 18, 38, 39, 40, 41] (by decide +kernel) (by decide +kernel)
set_option maxRecDepth 20000 in
theorem gX6_write_X4_length : GoodIn wsX6_write (wsV RX6 79 RX4 yX4_length wsX4_length) := goodIn_app (goodIn_of _ (by decide +kernel)) ggX6_write_X4_length
theorem dX6_write_0 : decode cX6_write 0 = .ok (.iload_n 1, 1) := by decide +kernel
theorem dX6_write_1 : decode cX6_write 1 = .ok (.iconst 1, 1) := by decide +kernel
theorem dX6_write_2 : decode cX6_write 2 = .ok (.bipush 8, 2) := by decide +kernel
theorem dX6_write_4 : decode cX6_write 4 = .ok (.invokestatic 72, 3) := by decide +kernel
theorem dX6_write_7 : decode cX6_write 7 = .ok (.ifCond .ne 5, 3) := by decide +kernel
theorem dX6_write_10 : decode cX6_write 10 = .ok (.iconst (-1), 1) := by decide +kernel
theorem dX6_write_11 : decode cX6_write 11 = .ok (.ireturn, 1) := by decide +kernel
theorem dX6_write_12 : decode cX6_write 12 = .ok (.aload_n 0, 1) := by decide +kernel
theorem dX6_write_13 : decode cX6_write 13 = .ok (.getfield 12, 3) := by decide +kernel
theorem dX6_write_16 : decode cX6_write 16 = .ok (.iload_n 1, 1) := by decide +kernel
theorem dX6_write_17 : decode cX6_write 17 = .ok (.lload_n 2, 1) := by decide +kernel
theorem dX6_write_18 : decode cX6_write 18 = .ok (.invokevirtual 75, 3) := by decide +kernel
theorem dX6_write_21 : decode cX6_write 21 = .ok (.ifCond .eq 13, 3) := by decide +kernel
theorem dX6_write_24 : decode cX6_write 24 = .ok (.aload_n 0, 1) := by decide +kernel
theorem dX6_write_25 : decode cX6_write 25 = .ok (.getfield 12, 3) := by decide +kernel
theorem dX6_write_28 : decode cX6_write 28 = .ok (.invokevirtual 79, 3) := by decide +kernel
theorem dX6_write_31 : decode cX6_write 31 = .ok (.goto 5, 3) := by decide +kernel
theorem dX6_write_34 : decode cX6_write 34 = .ok (.bipush (-3), 2) := by decide +kernel
theorem dX6_write_36 : decode cX6_write 36 = .ok (.ireturn, 1) := by decide +kernel
set_option maxRecDepth 20000 in
theorem ggX6_wipe_X4_length : GoodIn wsX6_wipe wsX4_length := goodIn_r _ [6, 7, 8, 9, 10, 11, 12, 13, 32, 33, 34, 35] (by decide +kernel) (by decide +kernel)
set_option maxRecDepth 20000 in
theorem gX6_wipe_X4_length : GoodIn wsX6_wipe (wsV RX6 79 RX4 yX4_length wsX4_length) := goodIn_app (goodIn_of _ (by decide +kernel)) ggX6_wipe_X4_length
set_option maxRecDepth 20000 in
theorem ggX6_wipe_X4_drop : GoodIn wsX6_wipe wsX4_drop := goodIn_r _ [17, 7, 18, 19, 20, 11, 21, 13, 32, 33, 34, 35] (by decide +kernel) (by decide +kernel)
set_option maxRecDepth 20000 in
theorem gX6_wipe_X4_drop : GoodIn wsX6_wipe (wsV RX6 83 RX4 yX4_drop wsX4_drop) := goodIn_app (goodIn_of _ (by decide +kernel)) ggX6_wipe_X4_drop
theorem dX6_wipe_0 : decode cX6_wipe 0 = .ok (.aload_n 0, 1) := by decide +kernel
theorem dX6_wipe_1 : decode cX6_wipe 1 = .ok (.getfield 12, 3) := by decide +kernel
theorem dX6_wipe_4 : decode cX6_wipe 4 = .ok (.invokevirtual 79, 3) := by decide +kernel
theorem dX6_wipe_7 : decode cX6_wipe 7 = .ok (.istore_n 1, 1) := by decide +kernel
theorem dX6_wipe_8 : decode cX6_wipe 8 = .ok (.aload_n 0, 1) := by decide +kernel
theorem dX6_wipe_9 : decode cX6_wipe 9 = .ok (.getfield 12, 3) := by decide +kernel
theorem dX6_wipe_12 : decode cX6_wipe 12 = .ok (.invokevirtual 83, 3) := by decide +kernel
theorem dX6_wipe_15 : decode cX6_wipe 15 = .ok (.iload_n 1, 1) := by decide +kernel
theorem dX6_wipe_16 : decode cX6_wipe 16 = .ok (.ireturn, 1) := by decide +kernel
set_option maxRecDepth 20000 in
theorem ggX6_fault_X4_readInto : GoodIn wsX6_fault wsX4_readInto := goodIn_r _ [7, 8, 9, 10, 11, 12, 13, 14, 15, 16, 17, 18, 19, 20, 21, 22, 23, 24, 25, 26, 27, 28, 29, 30, 31, 32, 6, 33, 34, 35, 36, 37, 38, 39, 40, 41, 42, 43, 44, 45, 46, 47, 48, 49, 50, 51, 52, 53, 54, 55, 56, 57, 58, 59, 60, 61, 62, 63, 64, 65, 66, 67, 68, 69, 70, 71, 72, 73, 74, 75, 76, 77, 78, 79, 80, 81, 82, 83, 84, 85, 86, 87, 88, 89, 90, 91, 92, 93, 94, 95, 96, 107, 108, 109, 110, 111, 112, 113, 114, 115, 116] (by decide +kernel) (by decide +kernel)
set_option maxRecDepth 20000 in
theorem gX6_fault_X4_readInto : GoodIn wsX6_fault (wsV RX6 86 RX4 yX4_readInto wsX4_readInto) := goodIn_app (goodIn_of _ (by decide +kernel)) ggX6_fault_X4_readInto
theorem dX6_fault_0 : decode cX6_fault 0 = .ok (.aload_n 0, 1) := by decide +kernel
theorem dX6_fault_1 : decode cX6_fault 1 = .ok (.getfield 12, 3) := by decide +kernel
theorem dX6_fault_4 : decode cX6_fault 4 = .ok (.aload_n 0, 1) := by decide +kernel
theorem dX6_fault_5 : decode cX6_fault 5 = .ok (.getfield 23, 3) := by decide +kernel
theorem dX6_fault_8 : decode cX6_fault 8 = .ok (.invokevirtual 86, 3) := by decide +kernel
theorem dX6_fault_11 : decode cX6_fault 11 = .ok (.ireturn, 1) := by decide +kernel
set_option maxRecDepth 20000 in
theorem ggX6_lay_X4_readInto : GoodIn wsX6_lay wsX4_readInto := goodIn_r _ [12, 13, 14, 15, 16, 17, 18, 19, 20, 21, 22, 23, 24, 25, 26, 27, 28, 29, 30, 31, 32, 33, 34, 35, 36, 37, 11, 38, 39, 40, 41, 42, 43, 44, 45, 46, 47, 48, 49, 50, 51, 52, 53, 54, 55, 56, 57, 58, 59, 60, 61, 62, 63, 64, 65, 66, 67, 68, 69, 70, 71, 72, 73, 74, 75, 76, 77, 78, 79, 80, 81, 82, 83, 84, 85, 86, 87, 88, 89, 90, 91, 92, 93, 94, 95, 96, 97, 98, 99, 100, 101, 134, 135, 136, 137, 138, 139, 140, 141, 142, 143] (by decide +kernel) (by decide +kernel)
set_option maxRecDepth 20000 in
theorem gX6_lay_X4_readInto : GoodIn wsX6_lay (wsV RX6 86 RX4 yX4_readInto wsX4_readInto) := goodIn_app (goodIn_of _ (by decide +kernel)) ggX6_lay_X4_readInto
set_option maxRecDepth 20000 in
theorem ggX6_lay_X0_wordCount : GoodIn wsX6_lay wsX0_wordCount := goodIn_r _ [105, 20, 106, 32, 33, 28, 34, 30, 136, 137, 138, 139, 140, 141, 142, 143] (by decide +kernel) (by decide +kernel)
set_option maxRecDepth 20000 in
theorem gX6_lay_X0_wordCount : GoodIn wsX6_lay (wsV RX6 90 RX0 yX0_wordCount wsX0_wordCount) := goodIn_app (goodIn_of _ (by decide +kernel)) ggX6_lay_X0_wordCount
set_option maxRecDepth 20000 in
theorem ggX6_lay_X0_copy : GoodIn wsX6_lay wsX0_copy := goodIn_r _ [110, 19, 20, 21, 22, 23, 24, 111, 112, 113, 28, 114, 30, 115, 26, 27, 29, 116, 41, 42, 43, 44, 83, 62, 63, 64, 136, 137, 138, 139, 140, 141, 142, 143] (by decide +kernel) (by decide +kernel)
set_option maxRecDepth 20000 in
theorem gX6_lay_X0_copy : GoodIn wsX6_lay (wsV RX6 93 RX0 yX0_copy wsX0_copy) := goodIn_app (goodIn_of _ (by decide +kernel)) ggX6_lay_X0_copy
set_option maxRecDepth 20000 in
theorem ggX6_lay_X1_drop : GoodIn wsX6_lay wsX1_drop := goodIn_r _ [29, 30, 142, 143] (by decide +kernel) (by decide +kernel)
set_option maxRecDepth 20000 in
theorem gX6_lay_X1_drop : GoodIn wsX6_lay (wsV RX6 97 RX1 yX1_drop wsX1_drop) := goodIn_app (goodIn_of _ (by decide +kernel)) ggX6_lay_X1_drop
set_option maxRecDepth 20000 in
theorem ggX6_lay_X2_drop : GoodIn wsX6_lay wsX2_drop := goodIn_r _ [122, 123, 144, 145] (by decide +kernel) (by decide +kernel)
set_option maxRecDepth 20000 in
theorem gX6_lay_X2_drop : GoodIn wsX6_lay (wsV RX6 98 RX2 yX2_drop wsX2_drop) := goodIn_app (goodIn_of _ (by decide +kernel)) ggX6_lay_X2_drop
theorem dX6_lay_0 : decode cX6_lay 0 = .ok (.aload_n 0, 1) := by decide +kernel
theorem dX6_lay_1 : decode cX6_lay 1 = .ok (.getfield 12, 3) := by decide +kernel
theorem dX6_lay_4 : decode cX6_lay 4 = .ok (.aload_n 0, 1) := by decide +kernel
theorem dX6_lay_5 : decode cX6_lay 5 = .ok (.getfield 23, 3) := by decide +kernel
theorem dX6_lay_8 : decode cX6_lay 8 = .ok (.invokevirtual 86, 3) := by decide +kernel
theorem dX6_lay_11 : decode cX6_lay 11 = .ok (.bipush (-4), 2) := by decide +kernel
theorem dX6_lay_13 : decode cX6_lay 13 = .ok (.if_icmp .ne 13, 3) := by decide +kernel
theorem dX6_lay_16 : decode cX6_lay 16 = .ok (.aload_n 0, 1) := by decide +kernel
theorem dX6_lay_17 : decode cX6_lay 17 = .ok (.getfield 23, 3) := by decide +kernel
theorem dX6_lay_20 : decode cX6_lay 20 = .ok (.invokevirtual 90, 3) := by decide +kernel
theorem dX6_lay_23 : decode cX6_lay 23 = .ok (.ifCond .ne 6, 3) := by decide +kernel
theorem dX6_lay_26 : decode cX6_lay 26 = .ok (.bipush (-2), 2) := by decide +kernel
theorem dX6_lay_28 : decode cX6_lay 28 = .ok (.ireturn, 1) := by decide +kernel
theorem dX6_lay_29 : decode cX6_lay 29 = .ok (.aload_n 0, 1) := by decide +kernel
theorem dX6_lay_30 : decode cX6_lay 30 = .ok (.getfield 19, 3) := by decide +kernel
theorem dX6_lay_33 : decode cX6_lay 33 = .ok (.aload_n 0, 1) := by decide +kernel
theorem dX6_lay_34 : decode cX6_lay 34 = .ok (.getfield 23, 3) := by decide +kernel
theorem dX6_lay_37 : decode cX6_lay 37 = .ok (.invokevirtual 93, 3) := by decide +kernel
theorem dX6_lay_40 : decode cX6_lay 40 = .ok (.aload_n 0, 1) := by decide +kernel
theorem dX6_lay_41 : decode cX6_lay 41 = .ok (.getfield 58, 3) := by decide +kernel
theorem dX6_lay_44 : decode cX6_lay 44 = .ok (.invokevirtual 97, 3) := by decide +kernel
theorem dX6_lay_47 : decode cX6_lay 47 = .ok (.aload_n 0, 1) := by decide +kernel
theorem dX6_lay_48 : decode cX6_lay 48 = .ok (.getfield 62, 3) := by decide +kernel
theorem dX6_lay_51 : decode cX6_lay 51 = .ok (.invokevirtual 97, 3) := by decide +kernel
theorem dX6_lay_54 : decode cX6_lay 54 = .ok (.aload_n 0, 1) := by decide +kernel
theorem dX6_lay_55 : decode cX6_lay 55 = .ok (.getfield 48, 3) := by decide +kernel
theorem dX6_lay_58 : decode cX6_lay 58 = .ok (.invokevirtual 98, 3) := by decide +kernel
theorem dX6_lay_61 : decode cX6_lay 61 = .ok (.aload_n 0, 1) := by decide +kernel
theorem dX6_lay_62 : decode cX6_lay 62 = .ok (.getfield 52, 3) := by decide +kernel
theorem dX6_lay_65 : decode cX6_lay 65 = .ok (.invokevirtual 98, 3) := by decide +kernel
theorem dX6_lay_68 : decode cX6_lay 68 = .ok (.aload_n 0, 1) := by decide +kernel
theorem dX6_lay_69 : decode cX6_lay 69 = .ok (.getfield 19, 3) := by decide +kernel
theorem dX6_lay_72 : decode cX6_lay 72 = .ok (.invokevirtual 90, 3) := by decide +kernel
theorem dX6_lay_75 : decode cX6_lay 75 = .ok (.ireturn, 1) := by decide +kernel
set_option maxRecDepth 20000 in
theorem ggX6_face_X0_cliffCount : GoodIn wsX6_face wsX0_cliffCount := goodIn_r _ [6, 7, 8, 9, 10, 11, 12, 13, 42, 43, 44, 45, 46, 47, 48, 49] (by decide +kernel) (by decide +kernel)
set_option maxRecDepth 20000 in
theorem gX6_face_X0_cliffCount : GoodIn wsX6_face (wsV RX6 99 RX0 yX0_cliffCount wsX0_cliffCount) := goodIn_app (goodIn_of _ (by decide +kernel)) ggX6_face_X0_cliffCount
set_option maxRecDepth 20000 in
theorem ggX6_face_X6_within : GoodIn wsX6_face wsX6_within := goodIn_r _ [17] (by decide +kernel) (by decide +kernel)
set_option maxRecDepth 20000 in
theorem gX6_face_X6_within : GoodIn wsX6_face (va_wsS RX6 72 yX6_within wsX6_within) := goodIn_app (goodIn_of _ (by decide +kernel)) ggX6_face_X6_within
set_option maxRecDepth 20000 in
theorem ggX6_face_X0_hasSnow : GoodIn wsX6_face wsX0_hasSnow := goodIn_r _ [21, 22, 42, 43, 44, 45, 46, 47] (by decide +kernel) (by decide +kernel)
set_option maxRecDepth 20000 in
theorem gX6_face_X0_hasSnow : GoodIn wsX6_face (wsV RX6 102 RX0 yX0_hasSnow wsX0_hasSnow) := goodIn_app (goodIn_of _ (by decide +kernel)) ggX6_face_X0_hasSnow
set_option maxRecDepth 20000 in
theorem ggX6_face_X0_cliffPart : GoodIn wsX6_face wsX0_cliffPart := goodIn_r _ [26, 7, 27, 28, 29, 11, 30, 13, 31, 42, 43, 44, 45, 46, 47, 48, 49] (by decide +kernel) (by decide +kernel)
set_option maxRecDepth 20000 in
theorem gX6_face_X0_cliffPart : GoodIn wsX6_face (wsV RX6 106 RX0 yX0_cliffPart wsX0_cliffPart) := goodIn_app (goodIn_of _ (by decide +kernel)) ggX6_face_X0_cliffPart
theorem dX6_face_0 : decode cX6_face 0 = .ok (.iload_n 1, 1) := by decide +kernel
theorem dX6_face_1 : decode cX6_face 1 = .ok (.iconst 0, 1) := by decide +kernel
theorem dX6_face_2 : decode cX6_face 2 = .ok (.aload_n 0, 1) := by decide +kernel
theorem dX6_face_3 : decode cX6_face 3 = .ok (.getfield 19, 3) := by decide +kernel
theorem dX6_face_6 : decode cX6_face 6 = .ok (.invokevirtual 99, 3) := by decide +kernel
theorem dX6_face_9 : decode cX6_face 9 = .ok (.iconst 1, 1) := by decide +kernel
theorem dX6_face_10 : decode cX6_face 10 = .ok (.isub, 1) := by decide +kernel
theorem dX6_face_11 : decode cX6_face 11 = .ok (.invokestatic 72, 3) := by decide +kernel
theorem dX6_face_14 : decode cX6_face 14 = .ok (.ifCond .eq 12, 3) := by decide +kernel
theorem dX6_face_17 : decode cX6_face 17 = .ok (.iload_n 2, 1) := by decide +kernel
theorem dX6_face_18 : decode cX6_face 18 = .ok (.iconst 0, 1) := by decide +kernel
theorem dX6_face_19 : decode cX6_face 19 = .ok (.iconst 3, 1) := by decide +kernel
theorem dX6_face_20 : decode cX6_face 20 = .ok (.invokestatic 72, 3) := by decide +kernel
theorem dX6_face_23 : decode cX6_face 23 = .ok (.ifCond .ne 5, 3) := by decide +kernel
theorem dX6_face_26 : decode cX6_face 26 = .ok (.iconst (-1), 1) := by decide +kernel
theorem dX6_face_27 : decode cX6_face 27 = .ok (.ireturn, 1) := by decide +kernel
theorem dX6_face_28 : decode cX6_face 28 = .ok (.iload_n 2, 1) := by decide +kernel
theorem dX6_face_29 : decode cX6_face 29 = .ok (.iconst 3, 1) := by decide +kernel
theorem dX6_face_30 : decode cX6_face 30 = .ok (.if_icmp .ne 20, 3) := by decide +kernel
theorem dX6_face_33 : decode cX6_face 33 = .ok (.aload_n 0, 1) := by decide +kernel
theorem dX6_face_34 : decode cX6_face 34 = .ok (.getfield 19, 3) := by decide +kernel
theorem dX6_face_37 : decode cX6_face 37 = .ok (.iload_n 1, 1) := by decide +kernel
theorem dX6_face_38 : decode cX6_face 38 = .ok (.invokevirtual 102, 3) := by decide +kernel
theorem dX6_face_41 : decode cX6_face 41 = .ok (.ifCond .eq 7, 3) := by decide +kernel
theorem dX6_face_44 : decode cX6_face 44 = .ok (.iconst 1, 1) := by decide +kernel
theorem dX6_face_45 : decode cX6_face 45 = .ok (.goto 4, 3) := by decide +kernel
theorem dX6_face_48 : decode cX6_face 48 = .ok (.iconst 0, 1) := by decide +kernel
theorem dX6_face_49 : decode cX6_face 49 = .ok (.ireturn, 1) := by decide +kernel
theorem dX6_face_50 : decode cX6_face 50 = .ok (.aload_n 0, 1) := by decide +kernel
theorem dX6_face_51 : decode cX6_face 51 = .ok (.getfield 19, 3) := by decide +kernel
theorem dX6_face_54 : decode cX6_face 54 = .ok (.iload_n 1, 1) := by decide +kernel
theorem dX6_face_55 : decode cX6_face 55 = .ok (.iload_n 2, 1) := by decide +kernel
theorem dX6_face_56 : decode cX6_face 56 = .ok (.invokevirtual 106, 3) := by decide +kernel
theorem dX6_face_59 : decode cX6_face 59 = .ok (.ireturn, 1) := by decide +kernel
set_option maxRecDepth 20000 in
theorem ggX6_word_X0_wordCount : GoodIn wsX6_word wsX0_wordCount := goodIn_r _ [6, 7, 8, 9, 10, 11, 12, 13, 149, 150, 151, 152, 153, 154, 155, 156] (by decide +kernel) (by decide +kernel)
set_option maxRecDepth 20000 in
theorem gX6_word_X0_wordCount : GoodIn wsX6_word (wsV RX6 90 RX0 yX0_wordCount wsX0_wordCount) := goodIn_app (goodIn_of _ (by decide +kernel)) ggX6_word_X0_wordCount
set_option maxRecDepth 20000 in
theorem ggX6_word_X6_within : GoodIn wsX6_word wsX6_within := goodIn_r _ [17] (by decide +kernel) (by decide +kernel)
set_option maxRecDepth 20000 in
theorem gX6_word_X6_within : GoodIn wsX6_word (va_wsS RX6 72 yX6_within wsX6_within) := goodIn_app (goodIn_of _ (by decide +kernel)) ggX6_word_X6_within
set_option maxRecDepth 20000 in
theorem ggX6_word_X0_allWords : GoodIn wsX6_word wsX0_allWords := goodIn_r _ [21, 22, 3, 4, 5, 6, 7, 8, 9, 10, 11, 12, 13, 149, 150, 151, 152, 153, 154, 155, 156] (by decide +kernel) (by decide +kernel)
set_option maxRecDepth 20000 in
theorem gX6_word_X0_allWords : GoodIn wsX6_word (wsV RX6 114 RX0 yX0_allWords wsX0_allWords) := goodIn_app (goodIn_of _ (by decide +kernel)) ggX6_word_X0_allWords
set_option maxRecDepth 20000 in
theorem ggX6_word_X6_clearSet : GoodIn wsX6_word wsX6_clearSet := goodIn_r _ [26, 27, 28, 29, 30, 31, 16, 32, 33, 34, 35, 36, 37, 38, 39, 40, 41, 42, 43, 44, 45, 46, 11, 47, 13, 48, 49, 50, 51, 52, 53, 54, 55, 56, 57, 58, 59, 5, 60, 61, 8, 9, 10, 12, 62, 63, 64, 65, 66, 67, 68, 69, 70, 71, 72, 73, 74, 75, 76, 77, 78, 79, 80, 81, 82, 83, 84, 85, 86, 87, 88, 89, 90, 91, 92, 93, 94, 95, 96, 97, 98, 3, 4, 6, 7, 99, 100, 101, 102, 103, 104, 105, 106, 107, 108, 109, 110, 111, 112, 113, 114, 115, 116, 117, 118, 119, 120, 121, 122, 123, 124, 125, 126, 127, 128, 129, 130, 131, 132, 133, 134, 135, 136, 137, 139, 140, 141, 142, 143, 144, 145, 146, 147, 148, 149, 150, 151, 152, 153, 154, 157, 158, 155, 156, 159, 160] (by decide +kernel) (by decide +kernel)
set_option maxRecDepth 20000 in
theorem gX6_word_X6_clearSet : GoodIn wsX6_word (wsV RX6 117 RX6 yX6_clearSet wsX6_clearSet) := goodIn_app (goodIn_of _ (by decide +kernel)) ggX6_word_X6_clearSet
set_option maxRecDepth 20000 in
theorem ggX6_word_X0_wordPart : GoodIn wsX6_word wsX0_wordPart := goodIn_r _ [102, 7, 75, 76, 77, 11, 78, 13, 56, 149, 150, 151, 152, 153, 154, 155, 156] (by decide +kernel) (by decide +kernel)
set_option maxRecDepth 20000 in
theorem gX6_word_X0_wordPart : GoodIn wsX6_word (wsV RX6 121 RX0 yX0_wordPart wsX0_wordPart) := goodIn_app (goodIn_of _ (by decide +kernel)) ggX6_word_X0_wordPart
theorem dX6_word_0 : decode cX6_word 0 = .ok (.iload_n 1, 1) := by decide +kernel
theorem dX6_word_1 : decode cX6_word 1 = .ok (.iconst 0, 1) := by decide +kernel
theorem dX6_word_2 : decode cX6_word 2 = .ok (.aload_n 0, 1) := by decide +kernel
theorem dX6_word_3 : decode cX6_word 3 = .ok (.getfield 19, 3) := by decide +kernel
theorem dX6_word_6 : decode cX6_word 6 = .ok (.invokevirtual 90, 3) := by decide +kernel
theorem dX6_word_9 : decode cX6_word 9 = .ok (.iconst 1, 1) := by decide +kernel
theorem dX6_word_10 : decode cX6_word 10 = .ok (.isub, 1) := by decide +kernel
theorem dX6_word_11 : decode cX6_word 11 = .ok (.invokestatic 72, 3) := by decide +kernel
theorem dX6_word_14 : decode cX6_word 14 = .ok (.ifCond .eq 12, 3) := by decide +kernel
theorem dX6_word_17 : decode cX6_word 17 = .ok (.iload_n 2, 1) := by decide +kernel
theorem dX6_word_18 : decode cX6_word 18 = .ok (.iconst 0, 1) := by decide +kernel
theorem dX6_word_19 : decode cX6_word 19 = .ok (.iconst 3, 1) := by decide +kernel
theorem dX6_word_20 : decode cX6_word 20 = .ok (.invokestatic 72, 3) := by decide +kernel
theorem dX6_word_23 : decode cX6_word 23 = .ok (.ifCond .ne 5, 3) := by decide +kernel
theorem dX6_word_26 : decode cX6_word 26 = .ok (.iconst (-1), 1) := by decide +kernel
theorem dX6_word_27 : decode cX6_word 27 = .ok (.ireturn, 1) := by decide +kernel
theorem dX6_word_28 : decode cX6_word 28 = .ok (.iload_n 2, 1) := by decide +kernel
theorem dX6_word_29 : decode cX6_word 29 = .ok (.iconst 3, 1) := by decide +kernel
theorem dX6_word_30 : decode cX6_word 30 = .ok (.if_icmp .ne 30, 3) := by decide +kernel
theorem dX6_word_33 : decode cX6_word 33 = .ok (.aload_n 0, 1) := by decide +kernel
theorem dX6_word_34 : decode cX6_word 34 = .ok (.aload_n 0, 1) := by decide +kernel
theorem dX6_word_35 : decode cX6_word 35 = .ok (.getfield 19, 3) := by decide +kernel
theorem dX6_word_38 : decode cX6_word 38 = .ok (.aload_n 0, 1) := by decide +kernel
theorem dX6_word_39 : decode cX6_word 39 = .ok (.getfield 19, 3) := by decide +kernel
theorem dX6_word_42 : decode cX6_word 42 = .ok (.getfield 110, 3) := by decide +kernel
theorem dX6_word_45 : decode cX6_word 45 = .ok (.aload_n 0, 1) := by decide +kernel
theorem dX6_word_46 : decode cX6_word 46 = .ok (.getfield 19, 3) := by decide +kernel
theorem dX6_word_49 : decode cX6_word 49 = .ok (.invokevirtual 114, 3) := by decide +kernel
theorem dX6_word_52 : decode cX6_word 52 = .ok (.invokevirtual 117, 3) := by decide +kernel
theorem dX6_word_55 : decode cX6_word 55 = .ok (.iload_n 1, 1) := by decide +kernel
theorem dX6_word_56 : decode cX6_word 56 = .ok (.ishr, 1) := by decide +kernel
theorem dX6_word_57 : decode cX6_word 57 = .ok (.iconst 1, 1) := by decide +kernel
theorem dX6_word_58 : decode cX6_word 58 = .ok (.iand, 1) := by decide +kernel
theorem dX6_word_59 : decode cX6_word 59 = .ok (.ireturn, 1) := by decide +kernel
theorem dX6_word_60 : decode cX6_word 60 = .ok (.aload_n 0, 1) := by decide +kernel
theorem dX6_word_61 : decode cX6_word 61 = .ok (.getfield 19, 3) := by decide +kernel
theorem dX6_word_64 : decode cX6_word 64 = .ok (.iload_n 1, 1) := by decide +kernel
theorem dX6_word_65 : decode cX6_word 65 = .ok (.iload_n 2, 1) := by decide +kernel
theorem dX6_word_66 : decode cX6_word 66 = .ok (.invokevirtual 121, 3) := by decide +kernel
theorem dX6_word_69 : decode cX6_word 69 = .ok (.ireturn, 1) := by decide +kernel
set_option maxRecDepth 20000 in
theorem ggX6_heard_X6_isYard : GoodIn wsX6_heard wsX6_isYard := goodIn_r _ [6, 7, 8, 5, 9] (by decide +kernel) (by decide +kernel)
set_option maxRecDepth 20000 in
theorem gX6_heard_X6_isYard : GoodIn wsX6_heard (va_wsS RX6 124 yX6_isYard wsX6_isYard) := goodIn_app (goodIn_of _ (by decide +kernel)) ggX6_heard_X6_isYard
set_option maxRecDepth 20000 in
theorem ggX6_heard_X6_isBeat : GoodIn wsX6_heard wsX6_isBeat := goodIn_r _ [12, 7, 8, 5, 9] (by decide +kernel) (by decide +kernel)
set_option maxRecDepth 20000 in
theorem gX6_heard_X6_isBeat : GoodIn wsX6_heard (va_wsS RX6 127 yX6_isBeat wsX6_isBeat) := goodIn_app (goodIn_of _ (by decide +kernel)) ggX6_heard_X6_isBeat
set_option maxRecDepth 20000 in
theorem ggX6_heard_X0_allWords : GoodIn wsX6_heard wsX0_allWords := goodIn_r _ [17, 18, 19, 20, 16, 21, 22, 23, 24, 25, 26, 27, 28, 145, 146, 147, 148, 149, 150, 151, 152] (by decide +kernel) (by decide +kernel)
set_option maxRecDepth 20000 in
theorem gX6_heard_X0_allWords : GoodIn wsX6_heard (wsV RX6 114 RX0 yX0_allWords wsX0_allWords) := goodIn_app (goodIn_of _ (by decide +kernel)) ggX6_heard_X0_allWords
set_option maxRecDepth 20000 in
theorem ggX6_heard_X6_listen : GoodIn wsX6_heard wsX6_listen := goodIn_r _ [32, 33, 2, 34, 35, 36, 37, 38, 39, 40, 41, 42, 43, 44, 45, 46, 47, 26, 48, 28, 49, 50, 51, 52, 53, 54, 55, 56, 57, 58, 59, 60, 16, 61, 62, 23, 24, 25, 27, 63, 64, 65, 66, 67, 68, 69, 70, 71, 72, 73, 74, 75, 76, 77, 78, 79, 80, 81, 82, 83, 84, 85, 86, 87, 88, 89, 90, 91, 92, 93, 94, 95, 96, 97, 98, 99, 19, 20, 21, 22, 100, 101, 102, 103, 104, 105, 106, 107, 108, 109, 110, 111, 112, 113, 114, 115, 116, 117, 118, 119, 120, 121, 122, 123, 124, 125, 126, 127, 128, 129, 130, 135, 136, 137, 138, 139, 140, 141, 142, 143, 144, 145, 146, 147, 148, 149, 150, 153, 154, 151, 152, 155, 156] (by decide +kernel) (by decide +kernel)
set_option maxRecDepth 20000 in
theorem gX6_heard_X6_listen : GoodIn wsX6_heard (wsV RX6 130 RX6 yX6_listen wsX6_listen) := goodIn_app (goodIn_of _ (by decide +kernel)) ggX6_heard_X6_listen
set_option maxRecDepth 20000 in
theorem ggX6_heard_X3_valueAt : GoodIn wsX6_heard wsX3_valueAt := goodIn_r _ [134, 85, 126, 77, 78, 26, 79, 28, 57, 155, 156, 151, 152] (by decide +kernel) (by decide +kernel)
set_option maxRecDepth 20000 in
theorem gX6_heard_X3_valueAt : GoodIn wsX6_heard (wsV RX6 134 RX3 yX3_valueAt wsX3_valueAt) := goodIn_app (goodIn_of _ (by decide +kernel)) ggX6_heard_X3_valueAt
theorem dX6_heard_0 : decode cX6_heard 0 = .ok (.iload_n 1, 1) := by decide +kernel
theorem dX6_heard_1 : decode cX6_heard 1 = .ok (.invokestatic 124, 3) := by decide +kernel
theorem dX6_heard_4 : decode cX6_heard 4 = .ok (.ifCond .eq 10, 3) := by decide +kernel
theorem dX6_heard_7 : decode cX6_heard 7 = .ok (.iload_n 2, 1) := by decide +kernel
theorem dX6_heard_8 : decode cX6_heard 8 = .ok (.invokestatic 127, 3) := by decide +kernel
theorem dX6_heard_11 : decode cX6_heard 11 = .ok (.ifCond .ne 5, 3) := by decide +kernel
theorem dX6_heard_14 : decode cX6_heard 14 = .ok (.iconst (-1), 1) := by decide +kernel
theorem dX6_heard_15 : decode cX6_heard 15 = .ok (.ireturn, 1) := by decide +kernel
theorem dX6_heard_16 : decode cX6_heard 16 = .ok (.aload_n 0, 1) := by decide +kernel
theorem dX6_heard_17 : decode cX6_heard 17 = .ok (.aload_n 0, 1) := by decide +kernel
theorem dX6_heard_18 : decode cX6_heard 18 = .ok (.getfield 19, 3) := by decide +kernel
theorem dX6_heard_21 : decode cX6_heard 21 = .ok (.iload_n 1, 1) := by decide +kernel
theorem dX6_heard_22 : decode cX6_heard 22 = .ok (.aload_n 0, 1) := by decide +kernel
theorem dX6_heard_23 : decode cX6_heard 23 = .ok (.getfield 19, 3) := by decide +kernel
theorem dX6_heard_26 : decode cX6_heard 26 = .ok (.invokevirtual 114, 3) := by decide +kernel
theorem dX6_heard_29 : decode cX6_heard 29 = .ok (.invokevirtual 130, 3) := by decide +kernel
theorem dX6_heard_32 : decode cX6_heard 32 = .ok (.aload_n 0, 1) := by decide +kernel
theorem dX6_heard_33 : decode cX6_heard 33 = .ok (.getfield 39, 3) := by decide +kernel
theorem dX6_heard_36 : decode cX6_heard 36 = .ok (.iload_n 2, 1) := by decide +kernel
theorem dX6_heard_37 : decode cX6_heard 37 = .ok (.invokevirtual 134, 3) := by decide +kernel
theorem dX6_heard_40 : decode cX6_heard 40 = .ok (.ireturn, 1) := by decide +kernel
set_option maxRecDepth 20000 in
theorem ggX6_clear_X6_isYard : GoodIn wsX6_clear wsX6_isYard := goodIn_r _ [5, 6, 7, 4, 8] (by decide +kernel) (by decide +kernel)
set_option maxRecDepth 20000 in
theorem gX6_clear_X6_isYard : GoodIn wsX6_clear (va_wsS RX6 124 yX6_isYard wsX6_isYard) := goodIn_app (goodIn_of _ (by decide +kernel)) ggX6_clear_X6_isYard
set_option maxRecDepth 20000 in
theorem ggX6_clear_X6_clearCount : GoodIn wsX6_clear wsX6_clearCount := goodIn_r _ [12, 13, 14, 15, 16, 17, 18, 19, 20, 21, 22, 23, 24, 25, 26, 27, 28, 29, 30, 31, 32, 33, 4, 34, 35, 36, 37, 38, 39, 40, 41, 42, 43, 44, 45, 46, 47, 48, 49, 50, 51, 52, 53, 54, 55, 56, 57, 58, 59, 60, 61, 62, 63, 64, 65, 66, 67, 68, 69, 70, 71, 72, 73, 74, 75, 76, 77, 78, 79, 80, 81, 82, 83, 84, 85, 86, 87, 88, 89, 90, 91, 92, 93, 94, 95, 96, 97, 98, 99, 100, 101, 102, 103, 104, 105, 106, 107, 108, 109, 110, 111, 112, 113, 114, 115, 116, 117, 118, 119, 120, 121, 122, 123, 124, 125, 126, 127, 128, 129, 130, 131, 132, 133, 134, 135, 136, 137, 138, 139, 140, 141, 142, 143, 144, 145, 146, 147, 148, 149, 150, 151, 152, 153, 154, 155, 156, 157, 158, 159, 160, 161, 162, 163, 164, 165, 166, 167, 168] (by decide +kernel) (by decide +kernel)
set_option maxRecDepth 20000 in
theorem gX6_clear_X6_clearCount : GoodIn wsX6_clear (wsV RX6 138 RX6 yX6_clearCount wsX6_clearCount) := goodIn_app (goodIn_of _ (by decide +kernel)) ggX6_clear_X6_clearCount
theorem dX6_clear_0 : decode cX6_clear 0 = .ok (.iload_n 1, 1) := by decide +kernel
theorem dX6_clear_1 : decode cX6_clear 1 = .ok (.invokestatic 124, 3) := by decide +kernel
theorem dX6_clear_4 : decode cX6_clear 4 = .ok (.ifCond .eq 15, 3) := by decide +kernel
theorem dX6_clear_7 : decode cX6_clear 7 = .ok (.aload_n 0, 1) := by decide +kernel
theorem dX6_clear_8 : decode cX6_clear 8 = .ok (.aload_n 0, 1) := by decide +kernel
theorem dX6_clear_9 : decode cX6_clear 9 = .ok (.getfield 19, 3) := by decide +kernel
theorem dX6_clear_12 : decode cX6_clear 12 = .ok (.iload_n 1, 1) := by decide +kernel
theorem dX6_clear_13 : decode cX6_clear 13 = .ok (.invokevirtual 138, 3) := by decide +kernel
theorem dX6_clear_16 : decode cX6_clear 16 = .ok (.goto 4, 3) := by decide +kernel
theorem dX6_clear_19 : decode cX6_clear 19 = .ok (.iconst (-1), 1) := by decide +kernel
theorem dX6_clear_20 : decode cX6_clear 20 = .ok (.ireturn, 1) := by decide +kernel
set_option maxRecDepth 20000 in
theorem ggX6_rent_X6_rentOf : GoodIn wsX6_rent wsX6_rentOf := goodIn_r _ [6, 7, 8, 9, 10, 11, 12, 13, 14, 15, 16, 17, 18, 19, 20, 21, 22, 23, 24, 25, 26, 27, 5, 28, 29, 30, 31, 32, 33, 34, 35, 36, 37, 38, 39, 40, 41, 42, 43, 44, 45, 46, 47, 48, 49, 50, 51, 52, 53, 54, 55, 56, 57, 58, 59, 60, 61, 62, 63, 64, 65, 66, 67, 68, 69, 70, 71, 72, 73, 74, 75, 76, 77, 78, 79, 80, 81, 82, 83, 84, 85, 86, 87, 88, 89, 90, 91, 92, 93, 94, 95, 96, 97, 98, 99, 100, 101, 102, 103, 104, 105, 106, 107, 108, 109, 110, 111, 112, 113, 114, 115, 116, 117, 118, 119, 120, 121, 122, 123, 124, 125, 126, 127, 128, 129, 130, 131, 132, 133, 134, 135, 136, 137, 148, 149, 150, 151, 152, 153, 138, 139, 140, 141, 142, 143, 144, 145, 146, 147, 154, 155, 156, 157, 158, 159] (by decide +kernel) (by decide +kernel)
set_option maxRecDepth 20000 in
theorem gX6_rent_X6_rentOf : GoodIn wsX6_rent (wsV RX6 142 RX6 yX6_rentOf wsX6_rentOf) := goodIn_app (goodIn_of _ (by decide +kernel)) ggX6_rent_X6_rentOf
theorem dX6_rent_0 : decode cX6_rent 0 = .ok (.aload_n 0, 1) := by decide +kernel
theorem dX6_rent_1 : decode cX6_rent 1 = .ok (.aload_n 0, 1) := by decide +kernel
theorem dX6_rent_2 : decode cX6_rent 2 = .ok (.getfield 19, 3) := by decide +kernel
theorem dX6_rent_5 : decode cX6_rent 5 = .ok (.invokevirtual 142, 3) := by decide +kernel
theorem dX6_rent_8 : decode cX6_rent 8 = .ok (.ireturn, 1) := by decide +kernel
set_option maxRecDepth 20000 in
theorem ggX6_place_X6_within : GoodIn wsX6_place wsX6_within := goodIn_r _ [6] (by decide +kernel) (by decide +kernel)
set_option maxRecDepth 20000 in
theorem gX6_place_X6_within : GoodIn wsX6_place (va_wsS RX6 72 yX6_within wsX6_within) := goodIn_app (goodIn_of _ (by decide +kernel)) ggX6_place_X6_within
set_option maxRecDepth 20000 in
theorem ggX6_place_X6_bestStand : GoodIn wsX6_place wsX6_bestStand := goodIn_r _ [10, 1, 2, 11, 12, 13, 14, 15, 16, 17, 18, 19, 20, 21, 22, 23, 24, 25, 26, 27, 28, 29, 30, 31, 32, 33, 34, 35, 36, 37, 38, 39, 40, 41, 42, 43, 5, 44, 45, 46, 47, 48, 49, 50, 51, 52, 53, 54, 55, 56, 57, 58, 59, 60, 61, 62, 63, 64, 65, 66, 67, 68, 69, 70, 71, 72, 73, 74, 75, 76, 77, 78, 79, 80, 81, 82, 83, 84, 85, 86, 87, 88, 89, 90, 91, 92, 93, 94, 95, 96, 97, 98, 99, 100, 101, 102, 103, 104, 105, 106, 107, 108, 109, 110, 111, 112, 113, 114, 115, 116, 117, 118, 119, 120, 121, 122, 123, 124, 125, 126, 127, 128, 129, 130, 131, 132, 133, 134, 135, 136, 137, 138, 139, 140, 141, 142, 143, 144, 145, 146, 147, 148, 149, 150, 151, 152, 153, 154, 155, 156, 157, 158, 159, 160, 161, 162, 163, 164, 165, 166, 167, 168, 169, 170, 171, 172, 173, 174, 179, 180, 181, 182, 183, 184, 185, 186, 187, 188, 189, 190, 191, 192, 193, 194, 195, 196, 197, 198, 199, 200] (by decide +kernel) (by decide +kernel)
set_option maxRecDepth 20000 in
theorem gX6_place_X6_bestStand : GoodIn wsX6_place (wsV RX6 145 RX6 yX6_bestStand wsX6_bestStand) := goodIn_app (goodIn_of _ (by decide +kernel)) ggX6_place_X6_bestStand
set_option maxRecDepth 20000 in
theorem ggX6_place_X6_bestSit : GoodIn wsX6_place wsX6_bestSit := goodIn_r _ [178, 2, 41, 42, 43, 5, 44, 45, 46, 47, 48, 49, 14, 50, 51, 52, 53, 54, 17, 55, 56, 57, 25, 58, 27, 59, 60, 61, 62, 63, 64, 65, 66, 67, 68, 69, 70, 71, 72, 73, 74, 29, 30, 31, 75, 76, 77, 78, 79, 38, 39, 40, 36, 80, 81, 82, 83, 16, 84, 85, 86, 87, 21, 88, 89, 90, 91, 92, 93, 94, 95, 96, 33, 34, 35, 97, 98, 99, 100, 101, 102, 103, 104, 105, 106, 107, 108, 109, 110, 111, 112, 113, 114, 115, 116, 117, 118, 119, 120, 121, 122, 123, 124, 125, 126, 127, 128, 129, 130, 131, 132, 133, 134, 135, 136, 137, 138, 139, 140, 141, 142, 143, 144, 145, 146, 147, 148, 149, 150, 151, 152, 153, 154, 155, 156, 157, 158, 159, 160, 161, 162, 179, 180, 181, 182, 183, 184, 185, 186, 187, 188, 189, 190, 191, 192, 193, 194, 195, 196, 197, 198, 199, 200] (by decide +kernel) (by decide +kernel)
set_option maxRecDepth 20000 in
theorem gX6_place_X6_bestSit : GoodIn wsX6_place (wsV RX6 148 RX6 yX6_bestSit wsX6_bestSit) := goodIn_app (goodIn_of _ (by decide +kernel)) ggX6_place_X6_bestSit
set_option maxRecDepth 20000 in
theorem ggX6_place_X0_copy : GoodIn wsX6_place wsX0_copy := goodIn_r _ [15, 16, 17, 18, 19, 20, 21, 22, 23, 24, 25, 26, 27, 28, 29, 30, 31, 32, 33, 34, 35, 36, 37, 38, 39, 40, 189, 190, 191, 192, 193, 194, 195, 196] (by decide +kernel) (by decide +kernel)
set_option maxRecDepth 20000 in
theorem gX6_place_X0_copy : GoodIn wsX6_place (wsV RX6 93 RX0 yX0_copy wsX0_copy) := goodIn_app (goodIn_of _ (by decide +kernel)) ggX6_place_X0_copy
set_option maxRecDepth 20000 in
theorem ggX6_place_X6_clearCount : GoodIn wsX6_place wsX6_clearCount := goodIn_r _ [44, 45, 46, 47, 48, 49, 14, 50, 51, 52, 53, 54, 17, 55, 56, 57, 25, 58, 27, 59, 60, 61, 5, 62, 63, 64, 65, 66, 67, 68, 69, 70, 71, 72, 73, 74, 29, 30, 31, 75, 76, 77, 78, 79, 38, 39, 40, 36, 80, 81, 82, 83, 16, 84, 85, 86, 87, 21, 88, 89, 90, 91, 92, 93, 94, 95, 96, 33, 34, 35, 97, 98, 99, 100, 101, 102, 103, 104, 105, 106, 107, 108, 109, 110, 111, 112, 113, 114, 115, 116, 117, 118, 119, 120, 121, 122, 123, 124, 125, 126, 127, 128, 129, 130, 131, 132, 133, 134, 135, 136, 137, 138, 139, 140, 141, 142, 143, 144, 145, 146, 147, 148, 149, 150, 151, 152, 153, 154, 155, 156, 157, 158, 159, 160, 161, 162, 179, 180, 181, 182, 183, 184, 185, 186, 187, 188, 189, 190, 191, 192, 193, 194, 195, 196, 197, 198, 199, 200] (by decide +kernel) (by decide +kernel)
set_option maxRecDepth 20000 in
theorem gX6_place_X6_clearCount : GoodIn wsX6_place (wsV RX6 138 RX6 yX6_clearCount wsX6_clearCount) := goodIn_app (goodIn_of _ (by decide +kernel)) ggX6_place_X6_clearCount
theorem dX6_place_0 : decode cX6_place 0 = .ok (.iload_n 1, 1) := by decide +kernel
theorem dX6_place_1 : decode cX6_place 1 = .ok (.iconst 0, 1) := by decide +kernel
theorem dX6_place_2 : decode cX6_place 2 = .ok (.iconst 3, 1) := by decide +kernel
theorem dX6_place_3 : decode cX6_place 3 = .ok (.invokestatic 72, 3) := by decide +kernel
theorem dX6_place_6 : decode cX6_place 6 = .ok (.ifCond .ne 5, 3) := by decide +kernel
theorem dX6_place_9 : decode cX6_place 9 = .ok (.iconst (-1), 1) := by decide +kernel
theorem dX6_place_10 : decode cX6_place 10 = .ok (.ireturn, 1) := by decide +kernel
theorem dX6_place_11 : decode cX6_place 11 = .ok (.iload_n 1, 1) := by decide +kernel
theorem dX6_place_12 : decode cX6_place 12 = .ok (.iconst 2, 1) := by decide +kernel
theorem dX6_place_13 : decode cX6_place 13 = .ok (.if_icmp .ge 10, 3) := by decide +kernel
theorem dX6_place_16 : decode cX6_place 16 = .ok (.aload_n 0, 1) := by decide +kernel
theorem dX6_place_17 : decode cX6_place 17 = .ok (.invokevirtual 145, 3) := by decide +kernel
theorem dX6_place_20 : decode cX6_place 20 = .ok (.goto 7, 3) := by decide +kernel
theorem dX6_place_23 : decode cX6_place 23 = .ok (.aload_n 0, 1) := by decide +kernel
theorem dX6_place_24 : decode cX6_place 24 = .ok (.invokevirtual 148, 3) := by decide +kernel
theorem dX6_place_27 : decode cX6_place 27 = .ok (.istore_n 2, 1) := by decide +kernel
theorem dX6_place_28 : decode cX6_place 28 = .ok (.iload_n 1, 1) := by decide +kernel
theorem dX6_place_29 : decode cX6_place 29 = .ok (.iconst 2, 1) := by decide +kernel
theorem dX6_place_30 : decode cX6_place 30 = .ok (.irem, 1) := by decide +kernel
theorem dX6_place_31 : decode cX6_place 31 = .ok (.ifCond .ne 5, 3) := by decide +kernel
theorem dX6_place_34 : decode cX6_place 34 = .ok (.iload_n 2, 1) := by decide +kernel
theorem dX6_place_35 : decode cX6_place 35 = .ok (.ireturn, 1) := by decide +kernel
theorem dX6_place_36 : decode cX6_place 36 = .ok (.aload_n 0, 1) := by decide +kernel
theorem dX6_place_37 : decode cX6_place 37 = .ok (.getfield 23, 3) := by decide +kernel
theorem dX6_place_40 : decode cX6_place 40 = .ok (.aload_n 0, 1) := by decide +kernel
theorem dX6_place_41 : decode cX6_place 41 = .ok (.getfield 19, 3) := by decide +kernel
theorem dX6_place_44 : decode cX6_place 44 = .ok (.invokevirtual 93, 3) := by decide +kernel
theorem dX6_place_47 : decode cX6_place 47 = .ok (.iload_n 1, 1) := by decide +kernel
theorem dX6_place_48 : decode cX6_place 48 = .ok (.iconst 1, 1) := by decide +kernel
theorem dX6_place_49 : decode cX6_place 49 = .ok (.if_icmp .ne 14, 3) := by decide +kernel
theorem dX6_place_52 : decode cX6_place 52 = .ok (.aload_n 0, 1) := by decide +kernel
theorem dX6_place_53 : decode cX6_place 53 = .ok (.getfield 23, 3) := by decide +kernel
theorem dX6_place_56 : decode cX6_place 56 = .ok (.iload_n 2, 1) := by decide +kernel
theorem dX6_place_57 : decode cX6_place 57 = .ok (.putfield 151, 3) := by decide +kernel
theorem dX6_place_60 : decode cX6_place 60 = .ok (.goto 11, 3) := by decide +kernel
theorem dX6_place_63 : decode cX6_place 63 = .ok (.aload_n 0, 1) := by decide +kernel
theorem dX6_place_64 : decode cX6_place 64 = .ok (.getfield 23, 3) := by decide +kernel
theorem dX6_place_67 : decode cX6_place 67 = .ok (.iload_n 2, 1) := by decide +kernel
theorem dX6_place_68 : decode cX6_place 68 = .ok (.putfield 110, 3) := by decide +kernel
theorem dX6_place_71 : decode cX6_place 71 = .ok (.aload_n 0, 1) := by decide +kernel
theorem dX6_place_72 : decode cX6_place 72 = .ok (.aload_n 0, 1) := by decide +kernel
theorem dX6_place_73 : decode cX6_place 73 = .ok (.getfield 23, 3) := by decide +kernel
theorem dX6_place_76 : decode cX6_place 76 = .ok (.aload_n 0, 1) := by decide +kernel
theorem dX6_place_77 : decode cX6_place 77 = .ok (.getfield 23, 3) := by decide +kernel
theorem dX6_place_80 : decode cX6_place 80 = .ok (.getfield 110, 3) := by decide +kernel
theorem dX6_place_83 : decode cX6_place 83 = .ok (.invokevirtual 138, 3) := by decide +kernel
theorem dX6_place_86 : decode cX6_place 86 = .ok (.ireturn, 1) := by decide +kernel
set_option maxRecDepth 20000 in
theorem ggX6_go_X6_within : GoodIn wsX6_go wsX6_within := goodIn_r _ [6] (by decide +kernel) (by decide +kernel)
set_option maxRecDepth 20000 in
theorem gX6_go_X6_within : GoodIn wsX6_go (va_wsS RX6 72 yX6_within wsX6_within) := goodIn_app (goodIn_of _ (by decide +kernel)) ggX6_go_X6_within
set_option maxRecDepth 20000 in
theorem ggX6_go_X6_isYard : GoodIn wsX6_go wsX6_isYard := goodIn_r _ [9, 3, 4, 5, 6] (by decide +kernel) (by decide +kernel)
set_option maxRecDepth 20000 in
theorem gX6_go_X6_isYard : GoodIn wsX6_go (va_wsS RX6 124 yX6_isYard wsX6_isYard) := goodIn_app (goodIn_of _ (by decide +kernel)) ggX6_go_X6_isYard
set_option maxRecDepth 20000 in
theorem ggX6_go_X2_put : GoodIn wsX6_go wsX2_put := goodIn_r _ [14, 15, 16, 17, 18, 19, 13, 20, 21, 22, 23, 24, 25, 26, 27, 28, 29, 30, 31, 32, 33, 34, 35, 36, 37, 38, 39, 40, 41, 42, 43, 44, 45, 46, 47, 48, 49, 50, 51, 52, 53, 54, 71, 72, 65, 66, 67, 68, 69, 70, 73, 74] (by decide +kernel) (by decide +kernel)
set_option maxRecDepth 20000 in
theorem gX6_go_X2_put : GoodIn wsX6_go (wsV RX6 154 RX2 yX2_put wsX2_put) := goodIn_app (goodIn_of _ (by decide +kernel)) ggX6_go_X2_put
theorem dX6_go_0 : decode cX6_go 0 = .ok (.iload_n 1, 1) := by decide +kernel
theorem dX6_go_1 : decode cX6_go 1 = .ok (.iconst 0, 1) := by decide +kernel
theorem dX6_go_2 : decode cX6_go 2 = .ok (.iconst 1, 1) := by decide +kernel
theorem dX6_go_3 : decode cX6_go 3 = .ok (.invokestatic 72, 3) := by decide +kernel
theorem dX6_go_6 : decode cX6_go 6 = .ok (.ifCond .eq 10, 3) := by decide +kernel
theorem dX6_go_9 : decode cX6_go 9 = .ok (.iload_n 2, 1) := by decide +kernel
theorem dX6_go_10 : decode cX6_go 10 = .ok (.invokestatic 124, 3) := by decide +kernel
theorem dX6_go_13 : decode cX6_go 13 = .ok (.ifCond .ne 5, 3) := by decide +kernel
theorem dX6_go_16 : decode cX6_go 16 = .ok (.iconst (-1), 1) := by decide +kernel
theorem dX6_go_17 : decode cX6_go 17 = .ok (.ireturn, 1) := by decide +kernel
theorem dX6_go_18 : decode cX6_go 18 = .ok (.aload_n 0, 1) := by decide +kernel
theorem dX6_go_19 : decode cX6_go 19 = .ok (.getfield 48, 3) := by decide +kernel
theorem dX6_go_22 : decode cX6_go 22 = .ok (.aload_n 0, 1) := by decide +kernel
theorem dX6_go_23 : decode cX6_go 23 = .ok (.getfield 19, 3) := by decide +kernel
theorem dX6_go_26 : decode cX6_go 26 = .ok (.invokevirtual 154, 3) := by decide +kernel
theorem dX6_go_29 : decode cX6_go 29 = .ok (.iload_n 1, 1) := by decide +kernel
theorem dX6_go_30 : decode cX6_go 30 = .ok (.ifCond .ne 13, 3) := by decide +kernel
theorem dX6_go_33 : decode cX6_go 33 = .ok (.aload_n 0, 1) := by decide +kernel
theorem dX6_go_34 : decode cX6_go 34 = .ok (.getfield 19, 3) := by decide +kernel
theorem dX6_go_37 : decode cX6_go 37 = .ok (.getfield 151, 3) := by decide +kernel
theorem dX6_go_40 : decode cX6_go 40 = .ok (.goto 10, 3) := by decide +kernel
theorem dX6_go_43 : decode cX6_go 43 = .ok (.aload_n 0, 1) := by decide +kernel
theorem dX6_go_44 : decode cX6_go 44 = .ok (.getfield 19, 3) := by decide +kernel
theorem dX6_go_47 : decode cX6_go 47 = .ok (.getfield 110, 3) := by decide +kernel
theorem dX6_go_50 : decode cX6_go 50 = .ok (.istore_n 3, 1) := by decide +kernel
theorem dX6_go_51 : decode cX6_go 51 = .ok (.iload_n 1, 1) := by decide +kernel
theorem dX6_go_52 : decode cX6_go 52 = .ok (.ifCond .ne 14, 3) := by decide +kernel
theorem dX6_go_55 : decode cX6_go 55 = .ok (.aload_n 0, 1) := by decide +kernel
theorem dX6_go_56 : decode cX6_go 56 = .ok (.getfield 19, 3) := by decide +kernel
theorem dX6_go_59 : decode cX6_go 59 = .ok (.iload_n 2, 1) := by decide +kernel
theorem dX6_go_60 : decode cX6_go 60 = .ok (.putfield 151, 3) := by decide +kernel
theorem dX6_go_63 : decode cX6_go 63 = .ok (.goto 11, 3) := by decide +kernel
theorem dX6_go_66 : decode cX6_go 66 = .ok (.aload_n 0, 1) := by decide +kernel
theorem dX6_go_67 : decode cX6_go 67 = .ok (.getfield 19, 3) := by decide +kernel
theorem dX6_go_70 : decode cX6_go 70 = .ok (.iload_n 2, 1) := by decide +kernel
theorem dX6_go_71 : decode cX6_go 71 = .ok (.putfield 110, 3) := by decide +kernel
theorem dX6_go_74 : decode cX6_go 74 = .ok (.iload_n 3, 1) := by decide +kernel
theorem dX6_go_75 : decode cX6_go 75 = .ok (.ireturn, 1) := by decide +kernel
set_option maxRecDepth 20000 in
theorem ggX6_snow_X0_allCliffs : GoodIn wsX6_snow wsX0_allCliffs := goodIn_r _ [7, 8, 9, 10, 6, 11, 12, 13, 14, 15, 16, 17, 18, 74, 75, 76, 77, 78, 79, 80, 81] (by decide +kernel) (by decide +kernel)
set_option maxRecDepth 20000 in
theorem gX6_snow_X0_allCliffs : GoodIn wsX6_snow (wsV RX6 157 RX0 yX0_allCliffs wsX0_allCliffs) := goodIn_app (goodIn_of _ (by decide +kernel)) ggX6_snow_X0_allCliffs
set_option maxRecDepth 20000 in
theorem ggX6_snow_X6_within : GoodIn wsX6_snow wsX6_within := goodIn_r _ [22] (by decide +kernel) (by decide +kernel)
set_option maxRecDepth 20000 in
theorem gX6_snow_X6_within : GoodIn wsX6_snow (va_wsS RX6 72 yX6_within wsX6_within) := goodIn_app (goodIn_of _ (by decide +kernel)) ggX6_snow_X6_within
set_option maxRecDepth 20000 in
theorem ggX6_snow_X2_put : GoodIn wsX6_snow wsX2_put := goodIn_r _ [27, 28, 29, 30, 31, 32, 26, 33, 34, 35, 36, 37, 38, 39, 40, 6, 41, 12, 42, 43, 44, 45, 46, 47, 48, 49, 16, 50, 18, 51, 52, 53, 54, 55, 56, 57, 58, 59, 60, 61, 62, 63, 82, 83, 74, 75, 76, 77, 78, 79, 80, 81] (by decide +kernel) (by decide +kernel)
set_option maxRecDepth 20000 in
theorem gX6_snow_X2_put : GoodIn wsX6_snow (wsV RX6 154 RX2 yX2_put wsX2_put) := goodIn_app (goodIn_of _ (by decide +kernel)) ggX6_snow_X2_put
theorem dX6_snow_0 : decode cX6_snow 0 = .ok (.iload_n 1, 1) := by decide +kernel
theorem dX6_snow_1 : decode cX6_snow 1 = .ok (.iconst 0, 1) := by decide +kernel
theorem dX6_snow_2 : decode cX6_snow 2 = .ok (.aload_n 0, 1) := by decide +kernel
theorem dX6_snow_3 : decode cX6_snow 3 = .ok (.getfield 19, 3) := by decide +kernel
theorem dX6_snow_6 : decode cX6_snow 6 = .ok (.invokevirtual 157, 3) := by decide +kernel
theorem dX6_snow_9 : decode cX6_snow 9 = .ok (.invokestatic 72, 3) := by decide +kernel
theorem dX6_snow_12 : decode cX6_snow 12 = .ok (.ifCond .ne 5, 3) := by decide +kernel
theorem dX6_snow_15 : decode cX6_snow 15 = .ok (.iconst (-1), 1) := by decide +kernel
theorem dX6_snow_16 : decode cX6_snow 16 = .ok (.ireturn, 1) := by decide +kernel
theorem dX6_snow_17 : decode cX6_snow 17 = .ok (.aload_n 0, 1) := by decide +kernel
theorem dX6_snow_18 : decode cX6_snow 18 = .ok (.getfield 48, 3) := by decide +kernel
theorem dX6_snow_21 : decode cX6_snow 21 = .ok (.aload_n 0, 1) := by decide +kernel
theorem dX6_snow_22 : decode cX6_snow 22 = .ok (.getfield 19, 3) := by decide +kernel
theorem dX6_snow_25 : decode cX6_snow 25 = .ok (.invokevirtual 154, 3) := by decide +kernel
theorem dX6_snow_28 : decode cX6_snow 28 = .ok (.aload_n 0, 1) := by decide +kernel
theorem dX6_snow_29 : decode cX6_snow 29 = .ok (.getfield 19, 3) := by decide +kernel
theorem dX6_snow_32 : decode cX6_snow 32 = .ok (.getfield 160, 3) := by decide +kernel
theorem dX6_snow_35 : decode cX6_snow 35 = .ok (.istore_n 2, 1) := by decide +kernel
theorem dX6_snow_36 : decode cX6_snow 36 = .ok (.aload_n 0, 1) := by decide +kernel
theorem dX6_snow_37 : decode cX6_snow 37 = .ok (.getfield 19, 3) := by decide +kernel
theorem dX6_snow_40 : decode cX6_snow 40 = .ok (.iload_n 1, 1) := by decide +kernel
theorem dX6_snow_41 : decode cX6_snow 41 = .ok (.putfield 160, 3) := by decide +kernel
theorem dX6_snow_44 : decode cX6_snow 44 = .ok (.iload_n 2, 1) := by decide +kernel
theorem dX6_snow_45 : decode cX6_snow 45 = .ok (.ireturn, 1) := by decide +kernel
set_option maxRecDepth 20000 in
theorem ggX6_say_X6_isWord : GoodIn wsX6_say wsX6_isWord := goodIn_r _ [6, 7, 8, 5, 9] (by decide +kernel) (by decide +kernel)
set_option maxRecDepth 20000 in
theorem gX6_say_X6_isWord : GoodIn wsX6_say (va_wsS RX6 163 yX6_isWord wsX6_isWord) := goodIn_app (goodIn_of _ (by decide +kernel)) ggX6_say_X6_isWord
set_option maxRecDepth 20000 in
theorem ggX6_say_X0_wordCount : GoodIn wsX6_say wsX0_wordCount := goodIn_r _ [14, 15, 16, 17, 18, 19, 20, 21, 81, 82, 83, 84, 85, 86, 87, 88] (by decide +kernel) (by decide +kernel)
set_option maxRecDepth 20000 in
theorem gX6_say_X0_wordCount : GoodIn wsX6_say (wsV RX6 90 RX0 yX0_wordCount wsX0_wordCount) := goodIn_app (goodIn_of _ (by decide +kernel)) ggX6_say_X0_wordCount
set_option maxRecDepth 20000 in
theorem ggX6_say_X2_put : GoodIn wsX6_say wsX2_put := goodIn_r _ [26, 27, 28, 29, 30, 31, 25, 32, 33, 34, 35, 36, 37, 38, 39, 13, 40, 41, 15, 42, 43, 44, 45, 46, 47, 48, 19, 49, 21, 50, 51, 52, 53, 54, 55, 56, 57, 58, 59, 60, 61, 62, 89, 90, 81, 82, 83, 84, 85, 86, 87, 88] (by decide +kernel) (by decide +kernel)
set_option maxRecDepth 20000 in
theorem gX6_say_X2_put : GoodIn wsX6_say (wsV RX6 154 RX2 yX2_put wsX2_put) := goodIn_app (goodIn_of _ (by decide +kernel)) ggX6_say_X2_put
set_option maxRecDepth 20000 in
theorem ggX6_say_X0_addWord : GoodIn wsX6_say wsX0_addWord := goodIn_r _ [66, 15, 4, 5, 6, 7, 8, 9, 67, 68, 69, 19, 70, 21, 58, 59, 60, 61, 62, 81, 82, 83, 84, 85, 86, 87, 88] (by decide +kernel) (by decide +kernel)
set_option maxRecDepth 20000 in
theorem gX6_say_X0_addWord : GoodIn wsX6_say (wsV RX6 69 RX0 yX0_addWord wsX0_addWord) := goodIn_app (goodIn_of _ (by decide +kernel)) ggX6_say_X0_addWord
theorem dX6_say_0 : decode cX6_say 0 = .ok (.iload_n 1, 1) := by decide +kernel
theorem dX6_say_1 : decode cX6_say 1 = .ok (.iload_n 2, 1) := by decide +kernel
theorem dX6_say_2 : decode cX6_say 2 = .ok (.iload_n 3, 1) := by decide +kernel
theorem dX6_say_3 : decode cX6_say 3 = .ok (.invokestatic 163, 3) := by decide +kernel
theorem dX6_say_6 : decode cX6_say 6 = .ok (.ifCond .ne 5, 3) := by decide +kernel
theorem dX6_say_9 : decode cX6_say 9 = .ok (.iconst (-1), 1) := by decide +kernel
theorem dX6_say_10 : decode cX6_say 10 = .ok (.ireturn, 1) := by decide +kernel
theorem dX6_say_11 : decode cX6_say 11 = .ok (.aload_n 0, 1) := by decide +kernel
theorem dX6_say_12 : decode cX6_say 12 = .ok (.getfield 19, 3) := by decide +kernel
theorem dX6_say_15 : decode cX6_say 15 = .ok (.invokevirtual 90, 3) := by decide +kernel
theorem dX6_say_18 : decode cX6_say 18 = .ok (.bipush 8, 2) := by decide +kernel
theorem dX6_say_20 : decode cX6_say 20 = .ok (.if_icmp .lt 6, 3) := by decide +kernel
theorem dX6_say_23 : decode cX6_say 23 = .ok (.bipush (-3), 2) := by decide +kernel
theorem dX6_say_25 : decode cX6_say 25 = .ok (.ireturn, 1) := by decide +kernel
theorem dX6_say_26 : decode cX6_say 26 = .ok (.aload_n 0, 1) := by decide +kernel
theorem dX6_say_27 : decode cX6_say 27 = .ok (.getfield 48, 3) := by decide +kernel
theorem dX6_say_30 : decode cX6_say 30 = .ok (.aload_n 0, 1) := by decide +kernel
theorem dX6_say_31 : decode cX6_say 31 = .ok (.getfield 19, 3) := by decide +kernel
theorem dX6_say_34 : decode cX6_say 34 = .ok (.invokevirtual 154, 3) := by decide +kernel
theorem dX6_say_37 : decode cX6_say 37 = .ok (.aload_n 0, 1) := by decide +kernel
theorem dX6_say_38 : decode cX6_say 38 = .ok (.getfield 19, 3) := by decide +kernel
theorem dX6_say_41 : decode cX6_say 41 = .ok (.iload_n 1, 1) := by decide +kernel
theorem dX6_say_42 : decode cX6_say 42 = .ok (.iload_n 2, 1) := by decide +kernel
theorem dX6_say_43 : decode cX6_say 43 = .ok (.iload_n 3, 1) := by decide +kernel
theorem dX6_say_44 : decode cX6_say 44 = .ok (.invokevirtual 69, 3) := by decide +kernel
theorem dX6_say_47 : decode cX6_say 47 = .ok (.pop, 1) := by decide +kernel
theorem dX6_say_48 : decode cX6_say 48 = .ok (.aload_n 0, 1) := by decide +kernel
theorem dX6_say_49 : decode cX6_say 49 = .ok (.getfield 19, 3) := by decide +kernel
theorem dX6_say_52 : decode cX6_say 52 = .ok (.invokevirtual 90, 3) := by decide +kernel
theorem dX6_say_55 : decode cX6_say 55 = .ok (.ireturn, 1) := by decide +kernel
set_option maxRecDepth 20000 in
theorem ggX6_undo_X2_take : GoodIn wsX6_undo wsX2_take := goodIn_r _ [7, 8, 9, 10, 11, 6, 12, 13, 14, 15, 16, 17, 18, 19, 20, 21, 22, 23, 24, 25, 26, 27, 28, 29, 30, 31, 32, 33, 34, 35, 36, 37, 38, 39, 40, 41, 42, 43, 58, 59, 60, 61, 62, 63, 64, 65, 66, 67] (by decide +kernel) (by decide +kernel)
set_option maxRecDepth 20000 in
theorem gX6_undo_X2_take : GoodIn wsX6_undo (wsV RX6 166 RX2 yX2_take wsX2_take) := goodIn_app (goodIn_of _ (by decide +kernel)) ggX6_undo_X2_take
set_option maxRecDepth 20000 in
theorem ggX6_undo_X2_size : GoodIn wsX6_undo wsX2_size := goodIn_r _ [47, 8, 58, 59] (by decide +kernel) (by decide +kernel)
set_option maxRecDepth 20000 in
theorem gX6_undo_X2_size : GoodIn wsX6_undo (wsV RX6 170 RX2 yX2_size wsX2_size) := goodIn_app (goodIn_of _ (by decide +kernel)) ggX6_undo_X2_size
theorem dX6_undo_0 : decode cX6_undo 0 = .ok (.aload_n 0, 1) := by decide +kernel
theorem dX6_undo_1 : decode cX6_undo 1 = .ok (.getfield 48, 3) := by decide +kernel
theorem dX6_undo_4 : decode cX6_undo 4 = .ok (.aload_n 0, 1) := by decide +kernel
theorem dX6_undo_5 : decode cX6_undo 5 = .ok (.getfield 19, 3) := by decide +kernel
theorem dX6_undo_8 : decode cX6_undo 8 = .ok (.invokevirtual 166, 3) := by decide +kernel
theorem dX6_undo_11 : decode cX6_undo 11 = .ok (.ifCond .eq 13, 3) := by decide +kernel
theorem dX6_undo_14 : decode cX6_undo 14 = .ok (.aload_n 0, 1) := by decide +kernel
theorem dX6_undo_15 : decode cX6_undo 15 = .ok (.getfield 48, 3) := by decide +kernel
theorem dX6_undo_18 : decode cX6_undo 18 = .ok (.invokevirtual 170, 3) := by decide +kernel
theorem dX6_undo_21 : decode cX6_undo 21 = .ok (.goto 5, 3) := by decide +kernel
theorem dX6_undo_24 : decode cX6_undo 24 = .ok (.bipush (-2), 2) := by decide +kernel
theorem dX6_undo_26 : decode cX6_undo 26 = .ok (.ireturn, 1) := by decide +kernel
set_option maxRecDepth 20000 in
theorem ggX6_leftOut_X0_allWords : GoodIn wsX6_leftOut wsX0_allWords := goodIn_r _ [6, 7, 8, 9, 5, 10, 11, 12, 13, 14, 15, 16, 17, 151, 152, 153, 154, 155, 156, 157, 158] (by decide +kernel) (by decide +kernel)
set_option maxRecDepth 20000 in
theorem gX6_leftOut_X0_allWords : GoodIn wsX6_leftOut (wsV RX6 114 RX0 yX0_allWords wsX0_allWords) := goodIn_app (goodIn_of _ (by decide +kernel)) ggX6_leftOut_X0_allWords
set_option maxRecDepth 20000 in
theorem ggX6_leftOut_J6_bitCount_0f7a4 : GoodIn wsX6_leftOut wsJ6_bitCount_0f7a4 := goodIn_r _ [21, 22, 23, 24] (by decide +kernel) (by decide +kernel)
set_option maxRecDepth 20000 in
theorem gX6_leftOut_J6_bitCount_0f7a4 : GoodIn wsX6_leftOut (va_wsS RX6 173 yJ6_bitCount_0f7a4 wsJ6_bitCount_0f7a4) := goodIn_app (goodIn_of _ (by decide +kernel)) ggX6_leftOut_J6_bitCount_0f7a4
set_option maxRecDepth 20000 in
theorem ggX6_leftOut_X6_clearSet : GoodIn wsX6_leftOut wsX6_clearSet := goodIn_r _ [29, 30, 31, 32, 33, 34, 28, 35, 36, 37, 38, 39, 40, 41, 42, 43, 44, 45, 46, 47, 48, 49, 15, 50, 17, 51, 52, 53, 54, 55, 56, 57, 58, 59, 60, 61, 62, 5, 63, 64, 12, 13, 14, 16, 65, 66, 67, 68, 69, 70, 71, 72, 73, 74, 75, 76, 77, 78, 79, 80, 81, 82, 83, 84, 85, 86, 87, 88, 89, 90, 91, 92, 93, 94, 95, 96, 97, 98, 99, 100, 101, 8, 9, 10, 11, 102, 103, 104, 105, 106, 107, 108, 109, 110, 111, 112, 113, 114, 115, 116, 117, 118, 119, 120, 121, 122, 123, 124, 125, 126, 127, 128, 129, 130, 131, 132, 133, 134, 135, 136, 137, 138, 139, 140, 141, 142, 143, 144, 145, 146, 147, 148, 149, 150, 151, 152, 153, 154, 155, 156, 159, 160, 157, 158, 161, 162] (by decide +kernel) (by decide +kernel)
set_option maxRecDepth 20000 in
theorem gX6_leftOut_X6_clearSet : GoodIn wsX6_leftOut (wsV RX6 117 RX6 yX6_clearSet wsX6_clearSet) := goodIn_app (goodIn_of _ (by decide +kernel)) ggX6_leftOut_X6_clearSet
theorem dX6_leftOut_0 : decode cX6_leftOut 0 = .ok (.aload_n 0, 1) := by decide +kernel
theorem dX6_leftOut_1 : decode cX6_leftOut 1 = .ok (.getfield 19, 3) := by decide +kernel
theorem dX6_leftOut_4 : decode cX6_leftOut 4 = .ok (.invokevirtual 114, 3) := by decide +kernel
theorem dX6_leftOut_7 : decode cX6_leftOut 7 = .ok (.istore_n 1, 1) := by decide +kernel
theorem dX6_leftOut_8 : decode cX6_leftOut 8 = .ok (.iload_n 1, 1) := by decide +kernel
theorem dX6_leftOut_9 : decode cX6_leftOut 9 = .ok (.istore_n 2, 1) := by decide +kernel
theorem dX6_leftOut_10 : decode cX6_leftOut 10 = .ok (.iconst 0, 1) := by decide +kernel
theorem dX6_leftOut_11 : decode cX6_leftOut 11 = .ok (.istore_n 3, 1) := by decide +kernel
theorem dX6_leftOut_12 : decode cX6_leftOut 12 = .ok (.iload_n 3, 1) := by decide +kernel
theorem dX6_leftOut_13 : decode cX6_leftOut 13 = .ok (.iload_n 1, 1) := by decide +kernel
theorem dX6_leftOut_14 : decode cX6_leftOut 14 = .ok (.if_icmp .ge 62, 3) := by decide +kernel
theorem dX6_leftOut_17 : decode cX6_leftOut 17 = .ok (.iload_n 3, 1) := by decide +kernel
theorem dX6_leftOut_18 : decode cX6_leftOut 18 = .ok (.invokestatic 173, 3) := by decide +kernel
theorem dX6_leftOut_21 : decode cX6_leftOut 21 = .ok (.iload_n 2, 1) := by decide +kernel
theorem dX6_leftOut_22 : decode cX6_leftOut 22 = .ok (.invokestatic 173, 3) := by decide +kernel
theorem dX6_leftOut_25 : decode cX6_leftOut 25 = .ok (.if_icmp .ge 7, 3) := by decide +kernel
theorem dX6_leftOut_28 : decode cX6_leftOut 28 = .ok (.iconst 1, 1) := by decide +kernel
theorem dX6_leftOut_29 : decode cX6_leftOut 29 = .ok (.goto 4, 3) := by decide +kernel
theorem dX6_leftOut_32 : decode cX6_leftOut 32 = .ok (.iconst 0, 1) := by decide +kernel
theorem dX6_leftOut_33 : decode cX6_leftOut 33 = .ok (.istore 4, 2) := by decide +kernel
theorem dX6_leftOut_35 : decode cX6_leftOut 35 = .ok (.iload 4, 2) := by decide +kernel
theorem dX6_leftOut_37 : decode cX6_leftOut 37 = .ok (.ifCond .eq 33, 3) := by decide +kernel
theorem dX6_leftOut_40 : decode cX6_leftOut 40 = .ok (.aload_n 0, 1) := by decide +kernel
theorem dX6_leftOut_41 : decode cX6_leftOut 41 = .ok (.aload_n 0, 1) := by decide +kernel
theorem dX6_leftOut_42 : decode cX6_leftOut 42 = .ok (.getfield 19, 3) := by decide +kernel
theorem dX6_leftOut_45 : decode cX6_leftOut 45 = .ok (.aload_n 0, 1) := by decide +kernel
theorem dX6_leftOut_46 : decode cX6_leftOut 46 = .ok (.getfield 19, 3) := by decide +kernel
theorem dX6_leftOut_49 : decode cX6_leftOut 49 = .ok (.getfield 110, 3) := by decide +kernel
theorem dX6_leftOut_52 : decode cX6_leftOut 52 = .ok (.iload_n 1, 1) := by decide +kernel
theorem dX6_leftOut_53 : decode cX6_leftOut 53 = .ok (.iload_n 3, 1) := by decide +kernel
theorem dX6_leftOut_54 : decode cX6_leftOut 54 = .ok (.iconst (-1), 1) := by decide +kernel
theorem dX6_leftOut_55 : decode cX6_leftOut 55 = .ok (.ixor, 1) := by decide +kernel
theorem dX6_leftOut_56 : decode cX6_leftOut 56 = .ok (.iand, 1) := by decide +kernel
theorem dX6_leftOut_57 : decode cX6_leftOut 57 = .ok (.invokevirtual 117, 3) := by decide +kernel
theorem dX6_leftOut_60 : decode cX6_leftOut 60 = .ok (.iload_n 1, 1) := by decide +kernel
theorem dX6_leftOut_61 : decode cX6_leftOut 61 = .ok (.iload_n 3, 1) := by decide +kernel
theorem dX6_leftOut_62 : decode cX6_leftOut 62 = .ok (.iconst (-1), 1) := by decide +kernel
theorem dX6_leftOut_63 : decode cX6_leftOut 63 = .ok (.ixor, 1) := by decide +kernel
theorem dX6_leftOut_64 : decode cX6_leftOut 64 = .ok (.iand, 1) := by decide +kernel
theorem dX6_leftOut_65 : decode cX6_leftOut 65 = .ok (.if_icmp .ne 5, 3) := by decide +kernel
theorem dX6_leftOut_68 : decode cX6_leftOut 68 = .ok (.iload_n 3, 1) := by decide +kernel
theorem dX6_leftOut_69 : decode cX6_leftOut 69 = .ok (.istore_n 2, 1) := by decide +kernel
theorem dX6_leftOut_70 : decode cX6_leftOut 70 = .ok (.iinc 3 1, 3) := by decide +kernel
theorem dX6_leftOut_73 : decode cX6_leftOut 73 = .ok (.goto (-61), 3) := by decide +kernel
theorem dX6_leftOut_76 : decode cX6_leftOut 76 = .ok (.iload_n 2, 1) := by decide +kernel
theorem dX6_leftOut_77 : decode cX6_leftOut 77 = .ok (.ireturn, 1) := by decide +kernel
set_option maxRecDepth 20000 in
theorem ggX6_talk_X6_within : GoodIn wsX6_talk wsX6_within := goodIn_r _ [5] (by decide +kernel) (by decide +kernel)
set_option maxRecDepth 20000 in
theorem gX6_talk_X6_within : GoodIn wsX6_talk (va_wsS RX6 72 yX6_within wsX6_within) := goodIn_app (goodIn_of _ (by decide +kernel)) ggX6_talk_X6_within
set_option maxRecDepth 20000 in
theorem ggX6_talk_X1_add : GoodIn wsX6_talk wsX1_add := goodIn_r _ [10, 11, 12, 27, 28] (by decide +kernel) (by decide +kernel)
set_option maxRecDepth 20000 in
theorem gX6_talk_X1_add : GoodIn wsX6_talk (wsV RX6 178 RX1 yX1_add wsX1_add) := goodIn_app (goodIn_of _ (by decide +kernel)) ggX6_talk_X1_add
set_option maxRecDepth 20000 in
theorem ggX6_talk_X1_size : GoodIn wsX6_talk wsX1_size := goodIn_r _ [16, 11, 27, 28] (by decide +kernel) (by decide +kernel)
set_option maxRecDepth 20000 in
theorem gX6_talk_X1_size : GoodIn wsX6_talk (wsV RX6 181 RX1 yX1_size wsX1_size) := goodIn_app (goodIn_of _ (by decide +kernel)) ggX6_talk_X1_size
theorem dX6_talk_0 : decode cX6_talk 0 = .ok (.iload_n 1, 1) := by decide +kernel
theorem dX6_talk_1 : decode cX6_talk 1 = .ok (.iconst 0, 1) := by decide +kernel
theorem dX6_talk_2 : decode cX6_talk 2 = .ok (.iconst 3, 1) := by decide +kernel
theorem dX6_talk_3 : decode cX6_talk 3 = .ok (.invokestatic 72, 3) := by decide +kernel
theorem dX6_talk_6 : decode cX6_talk 6 = .ok (.ifCond .ne 5, 3) := by decide +kernel
theorem dX6_talk_9 : decode cX6_talk 9 = .ok (.iconst (-1), 1) := by decide +kernel
theorem dX6_talk_10 : decode cX6_talk 10 = .ok (.ireturn, 1) := by decide +kernel
theorem dX6_talk_11 : decode cX6_talk 11 = .ok (.aload_n 0, 1) := by decide +kernel
theorem dX6_talk_12 : decode cX6_talk 12 = .ok (.getfield 58, 3) := by decide +kernel
theorem dX6_talk_15 : decode cX6_talk 15 = .ok (.iload_n 1, 1) := by decide +kernel
theorem dX6_talk_16 : decode cX6_talk 16 = .ok (.invokevirtual 178, 3) := by decide +kernel
theorem dX6_talk_19 : decode cX6_talk 19 = .ok (.ifCond .eq 13, 3) := by decide +kernel
theorem dX6_talk_22 : decode cX6_talk 22 = .ok (.aload_n 0, 1) := by decide +kernel
theorem dX6_talk_23 : decode cX6_talk 23 = .ok (.getfield 58, 3) := by decide +kernel
theorem dX6_talk_26 : decode cX6_talk 26 = .ok (.invokevirtual 181, 3) := by decide +kernel
theorem dX6_talk_29 : decode cX6_talk 29 = .ok (.goto 5, 3) := by decide +kernel
theorem dX6_talk_32 : decode cX6_talk 32 = .ok (.bipush (-3), 2) := by decide +kernel
theorem dX6_talk_34 : decode cX6_talk 34 = .ok (.ireturn, 1) := by decide +kernel
set_option maxRecDepth 20000 in
theorem ggX6_noTalk_X1_size : GoodIn wsX6_noTalk wsX1_size := goodIn_r _ [6, 7, 22, 23] (by decide +kernel) (by decide +kernel)
set_option maxRecDepth 20000 in
theorem gX6_noTalk_X1_size : GoodIn wsX6_noTalk (wsV RX6 181 RX1 yX1_size wsX1_size) := goodIn_app (goodIn_of _ (by decide +kernel)) ggX6_noTalk_X1_size
set_option maxRecDepth 20000 in
theorem ggX6_noTalk_X1_drop : GoodIn wsX6_noTalk wsX1_drop := goodIn_r _ [11, 7, 22, 23] (by decide +kernel) (by decide +kernel)
set_option maxRecDepth 20000 in
theorem gX6_noTalk_X1_drop : GoodIn wsX6_noTalk (wsV RX6 97 RX1 yX1_drop wsX1_drop) := goodIn_app (goodIn_of _ (by decide +kernel)) ggX6_noTalk_X1_drop
theorem dX6_noTalk_0 : decode cX6_noTalk 0 = .ok (.aload_n 0, 1) := by decide +kernel
theorem dX6_noTalk_1 : decode cX6_noTalk 1 = .ok (.getfield 58, 3) := by decide +kernel
theorem dX6_noTalk_4 : decode cX6_noTalk 4 = .ok (.invokevirtual 181, 3) := by decide +kernel
theorem dX6_noTalk_7 : decode cX6_noTalk 7 = .ok (.istore_n 1, 1) := by decide +kernel
theorem dX6_noTalk_8 : decode cX6_noTalk 8 = .ok (.aload_n 0, 1) := by decide +kernel
theorem dX6_noTalk_9 : decode cX6_noTalk 9 = .ok (.getfield 58, 3) := by decide +kernel
theorem dX6_noTalk_12 : decode cX6_noTalk 12 = .ok (.invokevirtual 97, 3) := by decide +kernel
theorem dX6_noTalk_15 : decode cX6_noTalk 15 = .ok (.iload_n 1, 1) := by decide +kernel
theorem dX6_noTalk_16 : decode cX6_noTalk 16 = .ok (.ireturn, 1) := by decide +kernel
set_option maxRecDepth 20000 in
theorem ggX6_lines_X1_size : GoodIn wsX6_lines wsX1_size := goodIn_r _ [6, 7, 148, 149] (by decide +kernel) (by decide +kernel)
set_option maxRecDepth 20000 in
theorem gX6_lines_X1_size : GoodIn wsX6_lines (wsV RX6 181 RX1 yX1_size wsX1_size) := goodIn_app (goodIn_of _ (by decide +kernel)) ggX6_lines_X1_size
set_option maxRecDepth 20000 in
theorem ggX6_lines_X6_bestScript : GoodIn wsX6_lines wsX6_bestScript := goodIn_r _ [12, 13, 14, 15, 1, 16, 17, 18, 19, 20, 21, 22, 23, 24, 25, 26, 27, 28, 29, 5, 30, 7, 31, 32, 33, 34, 35, 36, 37, 38, 39, 40, 41, 42, 43, 44, 45, 46, 3, 4, 6, 47, 48, 49, 50, 51, 52, 53, 54, 55, 56, 57, 58, 59, 60, 61, 62, 63, 64, 65, 66, 67, 68, 69, 70, 71, 72, 73, 74, 75, 76, 77, 78, 2, 79, 80, 11, 81, 82, 83, 84, 85, 86, 87, 88, 89, 90, 91, 92, 93, 94, 95, 96, 97, 98, 99, 100, 101, 102, 103, 104, 105, 106, 107, 108, 109, 110, 111, 112, 113, 114, 115, 116, 117, 118, 119, 120, 121, 122, 123, 124, 125, 126, 127, 128, 129, 130, 131, 132, 133, 134, 135, 136, 137, 138, 139, 140, 141, 142, 143, 144, 145, 146, 147, 150, 151, 152, 153, 154, 155, 156, 157, 148, 149, 158, 159] (by decide +kernel) (by decide +kernel)
set_option maxRecDepth 20000 in
theorem gX6_lines_X6_bestScript : GoodIn wsX6_lines (wsV RX6 182 RX6 yX6_bestScript wsX6_bestScript) := goodIn_app (goodIn_of _ (by decide +kernel)) ggX6_lines_X6_bestScript
set_option maxRecDepth 20000 in
theorem ggX6_lines_X6_wordsIn : GoodIn wsX6_lines wsX6_wordsIn := goodIn_r _ [81, 82, 83, 84, 85, 86, 87, 88] (by decide +kernel) (by decide +kernel)
set_option maxRecDepth 20000 in
theorem gX6_lines_X6_wordsIn : GoodIn wsX6_lines (va_wsS RX6 185 yX6_wordsIn wsX6_wordsIn) := goodIn_app (goodIn_of _ (by decide +kernel)) ggX6_lines_X6_wordsIn
set_option maxRecDepth 20000 in
theorem ggX6_lines_X6_lineAt : GoodIn wsX6_lines wsX6_lineAt := goodIn_r _ [113, 1, 2, 3, 4, 5, 6, 7, 138, 139, 140, 141, 142, 143, 144, 145, 146, 147, 148, 149] (by decide +kernel) (by decide +kernel)
set_option maxRecDepth 20000 in
theorem gX6_lines_X6_lineAt : GoodIn wsX6_lines (wsV RX6 188 RX6 yX6_lineAt wsX6_lineAt) := goodIn_app (goodIn_of _ (by decide +kernel)) ggX6_lines_X6_lineAt
theorem dX6_lines_0 : decode cX6_lines 0 = .ok (.iload_n 1, 1) := by decide +kernel
theorem dX6_lines_1 : decode cX6_lines 1 = .ok (.iconst (-1), 1) := by decide +kernel
theorem dX6_lines_2 : decode cX6_lines 2 = .ok (.if_icmp .ge 5, 3) := by decide +kernel
theorem dX6_lines_5 : decode cX6_lines 5 = .ok (.iconst (-1), 1) := by decide +kernel
theorem dX6_lines_6 : decode cX6_lines 6 = .ok (.ireturn, 1) := by decide +kernel
theorem dX6_lines_7 : decode cX6_lines 7 = .ok (.aload_n 0, 1) := by decide +kernel
theorem dX6_lines_8 : decode cX6_lines 8 = .ok (.getfield 58, 3) := by decide +kernel
theorem dX6_lines_11 : decode cX6_lines 11 = .ok (.invokevirtual 181, 3) := by decide +kernel
theorem dX6_lines_14 : decode cX6_lines 14 = .ok (.ifCond .ne 6, 3) := by decide +kernel
theorem dX6_lines_17 : decode cX6_lines 17 = .ok (.bipush (-2), 2) := by decide +kernel
theorem dX6_lines_19 : decode cX6_lines 19 = .ok (.ireturn, 1) := by decide +kernel
theorem dX6_lines_20 : decode cX6_lines 20 = .ok (.iload_n 1, 1) := by decide +kernel
theorem dX6_lines_21 : decode cX6_lines 21 = .ok (.aload_n 0, 1) := by decide +kernel
theorem dX6_lines_22 : decode cX6_lines 22 = .ok (.getfield 58, 3) := by decide +kernel
theorem dX6_lines_25 : decode cX6_lines 25 = .ok (.invokevirtual 181, 3) := by decide +kernel
theorem dX6_lines_28 : decode cX6_lines 28 = .ok (.if_icmp .lt 6, 3) := by decide +kernel
theorem dX6_lines_31 : decode cX6_lines 31 = .ok (.bipush (-4), 2) := by decide +kernel
theorem dX6_lines_33 : decode cX6_lines 33 = .ok (.ireturn, 1) := by decide +kernel
theorem dX6_lines_34 : decode cX6_lines 34 = .ok (.aload_n 0, 1) := by decide +kernel
theorem dX6_lines_35 : decode cX6_lines 35 = .ok (.invokevirtual 182, 3) := by decide +kernel
theorem dX6_lines_38 : decode cX6_lines 38 = .ok (.istore_n 2, 1) := by decide +kernel
theorem dX6_lines_39 : decode cX6_lines 39 = .ok (.iload_n 2, 1) := by decide +kernel
theorem dX6_lines_40 : decode cX6_lines 40 = .ok (.bipush (-4), 2) := by decide +kernel
theorem dX6_lines_42 : decode cX6_lines 42 = .ok (.if_icmp .ne 6, 3) := by decide +kernel
theorem dX6_lines_45 : decode cX6_lines 45 = .ok (.bipush (-4), 2) := by decide +kernel
theorem dX6_lines_47 : decode cX6_lines 47 = .ok (.ireturn, 1) := by decide +kernel
theorem dX6_lines_48 : decode cX6_lines 48 = .ok (.iload_n 1, 1) := by decide +kernel
theorem dX6_lines_49 : decode cX6_lines 49 = .ok (.iconst (-1), 1) := by decide +kernel
theorem dX6_lines_50 : decode cX6_lines 50 = .ok (.if_icmp .ne 10, 3) := by decide +kernel
theorem dX6_lines_53 : decode cX6_lines 53 = .ok (.iload_n 2, 1) := by decide +kernel
theorem dX6_lines_54 : decode cX6_lines 54 = .ok (.invokestatic 185, 3) := by decide +kernel
theorem dX6_lines_57 : decode cX6_lines 57 = .ok (.goto 9, 3) := by decide +kernel
theorem dX6_lines_60 : decode cX6_lines 60 = .ok (.aload_n 0, 1) := by decide +kernel
theorem dX6_lines_61 : decode cX6_lines 61 = .ok (.iload_n 2, 1) := by decide +kernel
theorem dX6_lines_62 : decode cX6_lines 62 = .ok (.iload_n 1, 1) := by decide +kernel
theorem dX6_lines_63 : decode cX6_lines 63 = .ok (.invokevirtual 188, 3) := by decide +kernel
theorem dX6_lines_66 : decode cX6_lines 66 = .ok (.ireturn, 1) := by decide +kernel
set_option maxRecDepth 20000 in
theorem ggX6_second_X6_isYard : GoodIn wsX6_second wsX6_isYard := goodIn_r _ [7, 8, 9, 6, 10] (by decide +kernel) (by decide +kernel)
set_option maxRecDepth 20000 in
theorem gX6_second_X6_isYard : GoodIn wsX6_second (va_wsS RX6 124 yX6_isYard wsX6_isYard) := goodIn_app (goodIn_of _ (by decide +kernel)) ggX6_second_X6_isYard
set_option maxRecDepth 20000 in
theorem ggX6_second_X5_trace : GoodIn wsX6_second wsX5_trace := goodIn_r _ [15, 16, 17, 18, 19, 20, 21, 22, 23, 24, 25, 26, 27, 28, 29, 30, 14, 31, 32, 33, 34, 35, 36, 37, 38, 39, 40, 41, 42, 43, 44, 45, 46, 47, 48, 49, 50, 51, 52, 53, 54, 55, 56, 57, 58, 59, 60, 61, 62, 63, 153, 154, 147, 148, 149, 150, 151, 152, 155, 156] (by decide +kernel) (by decide +kernel)
set_option maxRecDepth 20000 in
theorem gX6_second_X5_trace : GoodIn wsX6_second (wsV RX6 191 RX5 yX5_trace wsX5_trace) := goodIn_app (goodIn_of _ (by decide +kernel)) ggX6_second_X5_trace
set_option maxRecDepth 20000 in
theorem ggX6_second_X6_bothPlaysClear : GoodIn wsX6_second wsX6_bothPlaysClear := goodIn_r _ [67, 2, 68, 1, 3, 69, 70, 71, 40, 72, 73, 74, 75, 76, 77, 43, 44, 45, 25, 46, 27, 78, 79, 80, 81, 82, 83, 84, 85, 86, 87, 88, 36, 89, 90, 91, 92, 93, 94, 95, 96, 97, 98, 99, 100, 101, 60, 61, 62, 63, 102, 103, 104, 105, 106, 107, 108, 14, 109, 16, 110, 111, 112, 113, 114, 115, 116, 117, 118, 119, 17, 120, 121, 122, 123, 124, 125, 126, 127, 128, 129, 130, 131, 132, 133, 134, 135, 136, 137, 138, 139, 140, 141, 142, 143, 144, 145, 146, 147, 148, 149, 150, 151, 152, 155, 156, 157, 158, 153, 154] (by decide +kernel) (by decide +kernel)
set_option maxRecDepth 20000 in
theorem gX6_second_X6_bothPlaysClear : GoodIn wsX6_second (wsV RX6 194 RX6 yX6_bothPlaysClear wsX6_bothPlaysClear) := goodIn_app (goodIn_of _ (by decide +kernel)) ggX6_second_X6_bothPlaysClear
theorem dX6_second_0 : decode cX6_second 0 = .ok (.iload_n 1, 1) := by decide +kernel
theorem dX6_second_1 : decode cX6_second 1 = .ok (.invokestatic 124, 3) := by decide +kernel
theorem dX6_second_4 : decode cX6_second 4 = .ok (.ifCond .ne 5, 3) := by decide +kernel
theorem dX6_second_7 : decode cX6_second 7 = .ok (.iconst (-1), 1) := by decide +kernel
theorem dX6_second_8 : decode cX6_second 8 = .ok (.ireturn, 1) := by decide +kernel
theorem dX6_second_9 : decode cX6_second 9 = .ok (.aload_n 0, 1) := by decide +kernel
theorem dX6_second_10 : decode cX6_second 10 = .ok (.getfield 29, 3) := by decide +kernel
theorem dX6_second_13 : decode cX6_second 13 = .ok (.aload_n 0, 1) := by decide +kernel
theorem dX6_second_14 : decode cX6_second 14 = .ok (.getfield 19, 3) := by decide +kernel
theorem dX6_second_17 : decode cX6_second 17 = .ok (.aload_n 0, 1) := by decide +kernel
theorem dX6_second_18 : decode cX6_second 18 = .ok (.getfield 19, 3) := by decide +kernel
theorem dX6_second_21 : decode cX6_second 21 = .ok (.getfield 151, 3) := by decide +kernel
theorem dX6_second_24 : decode cX6_second 24 = .ok (.aload_n 0, 1) := by decide +kernel
theorem dX6_second_25 : decode cX6_second 25 = .ok (.getfield 19, 3) := by decide +kernel
theorem dX6_second_28 : decode cX6_second 28 = .ok (.getfield 110, 3) := by decide +kernel
theorem dX6_second_31 : decode cX6_second 31 = .ok (.invokevirtual 191, 3) := by decide +kernel
theorem dX6_second_34 : decode cX6_second 34 = .ok (.aload_n 0, 1) := by decide +kernel
theorem dX6_second_35 : decode cX6_second 35 = .ok (.getfield 33, 3) := by decide +kernel
theorem dX6_second_38 : decode cX6_second 38 = .ok (.aload_n 0, 1) := by decide +kernel
theorem dX6_second_39 : decode cX6_second 39 = .ok (.getfield 19, 3) := by decide +kernel
theorem dX6_second_42 : decode cX6_second 42 = .ok (.iload_n 1, 1) := by decide +kernel
theorem dX6_second_43 : decode cX6_second 43 = .ok (.aload_n 0, 1) := by decide +kernel
theorem dX6_second_44 : decode cX6_second 44 = .ok (.getfield 19, 3) := by decide +kernel
theorem dX6_second_47 : decode cX6_second 47 = .ok (.getfield 110, 3) := by decide +kernel
theorem dX6_second_50 : decode cX6_second 50 = .ok (.invokevirtual 191, 3) := by decide +kernel
theorem dX6_second_53 : decode cX6_second 53 = .ok (.iconst 0, 1) := by decide +kernel
theorem dX6_second_54 : decode cX6_second 54 = .ok (.istore_n 2, 1) := by decide +kernel
theorem dX6_second_55 : decode cX6_second 55 = .ok (.iload_n 2, 1) := by decide +kernel
theorem dX6_second_56 : decode cX6_second 56 = .ok (.bipush 60, 2) := by decide +kernel
theorem dX6_second_58 : decode cX6_second 58 = .ok (.if_icmp .gt 19, 3) := by decide +kernel
theorem dX6_second_61 : decode cX6_second 61 = .ok (.aload_n 0, 1) := by decide +kernel
theorem dX6_second_62 : decode cX6_second 62 = .ok (.iload_n 2, 1) := by decide +kernel
theorem dX6_second_63 : decode cX6_second 63 = .ok (.invokevirtual 194, 3) := by decide +kernel
theorem dX6_second_66 : decode cX6_second 66 = .ok (.ifCond .eq 5, 3) := by decide +kernel
theorem dX6_second_69 : decode cX6_second 69 = .ok (.iload_n 2, 1) := by decide +kernel
theorem dX6_second_70 : decode cX6_second 70 = .ok (.ireturn, 1) := by decide +kernel
theorem dX6_second_71 : decode cX6_second 71 = .ok (.iinc 2 1, 3) := by decide +kernel
theorem dX6_second_74 : decode cX6_second 74 = .ok (.goto (-19), 3) := by decide +kernel
theorem dX6_second_77 : decode cX6_second 77 = .ok (.bipush (-4), 2) := by decide +kernel
theorem dX6_second_79 : decode cX6_second 79 = .ok (.ireturn, 1) := by decide +kernel
set_option maxRecDepth 20000 in
theorem ggX6_thick_X0_allWords : GoodIn wsX6_thick wsX0_allWords := goodIn_r _ [7, 8, 9, 10, 6, 11, 12, 13, 14, 15, 16, 17, 18, 159, 160, 161, 162, 163, 164, 165, 166] (by decide +kernel) (by decide +kernel)
set_option maxRecDepth 20000 in
theorem gX6_thick_X0_allWords : GoodIn wsX6_thick (wsV RX6 114 RX0 yX0_allWords wsX0_allWords) := goodIn_app (goodIn_of _ (by decide +kernel)) ggX6_thick_X0_allWords
set_option maxRecDepth 20000 in
theorem ggX6_thick_X0_copy : GoodIn wsX6_thick wsX0_copy := goodIn_r _ [22, 23, 12, 24, 25, 26, 27, 28, 29, 30, 16, 31, 18, 32, 33, 34, 35, 36, 37, 38, 39, 40, 41, 42, 43, 44, 159, 160, 161, 162, 163, 164, 165, 166] (by decide +kernel) (by decide +kernel)
set_option maxRecDepth 20000 in
theorem gX6_thick_X0_copy : GoodIn wsX6_thick (wsV RX6 93 RX0 yX0_copy wsX0_copy) := goodIn_app (goodIn_of _ (by decide +kernel)) ggX6_thick_X0_copy
set_option maxRecDepth 20000 in
theorem ggX6_thick_X6_clearSet : GoodIn wsX6_thick wsX6_clearSet := goodIn_r _ [49, 50, 51, 52, 53, 54, 48, 55, 56, 57, 58, 59, 60, 61, 62, 63, 64, 65, 66, 67, 33, 34, 16, 35, 18, 68, 69, 70, 71, 72, 42, 43, 44, 40, 73, 74, 75, 6, 76, 23, 13, 14, 15, 17, 77, 78, 79, 80, 27, 81, 82, 83, 84, 85, 86, 87, 88, 89, 37, 38, 39, 90, 91, 92, 93, 94, 95, 96, 97, 98, 99, 100, 101, 102, 103, 104, 105, 106, 107, 108, 109, 9, 10, 11, 12, 110, 111, 112, 113, 114, 115, 116, 117, 118, 119, 120, 121, 122, 123, 124, 125, 126, 127, 128, 129, 130, 131, 132, 133, 134, 135, 136, 137, 138, 139, 140, 141, 142, 143, 144, 145, 146, 147, 148, 149, 150, 151, 152, 153, 154, 155, 156, 157, 158, 159, 160, 161, 162, 163, 164, 167, 168, 165, 166, 169, 170] (by decide +kernel) (by decide +kernel)
set_option maxRecDepth 20000 in
theorem gX6_thick_X6_clearSet : GoodIn wsX6_thick (wsV RX6 117 RX6 yX6_clearSet wsX6_clearSet) := goodIn_app (goodIn_of _ (by decide +kernel)) ggX6_thick_X6_clearSet
theorem dX6_thick_0 : decode cX6_thick 0 = .ok (.aload_n 0, 1) := by decide +kernel
theorem dX6_thick_1 : decode cX6_thick 1 = .ok (.getfield 19, 3) := by decide +kernel
theorem dX6_thick_4 : decode cX6_thick 4 = .ok (.invokevirtual 114, 3) := by decide +kernel
theorem dX6_thick_7 : decode cX6_thick 7 = .ok (.istore_n 1, 1) := by decide +kernel
theorem dX6_thick_8 : decode cX6_thick 8 = .ok (.bipush (-4), 2) := by decide +kernel
theorem dX6_thick_10 : decode cX6_thick 10 = .ok (.istore_n 2, 1) := by decide +kernel
theorem dX6_thick_11 : decode cX6_thick 11 = .ok (.aload_n 0, 1) := by decide +kernel
theorem dX6_thick_12 : decode cX6_thick 12 = .ok (.getfield 23, 3) := by decide +kernel
theorem dX6_thick_15 : decode cX6_thick 15 = .ok (.aload_n 0, 1) := by decide +kernel
theorem dX6_thick_16 : decode cX6_thick 16 = .ok (.getfield 19, 3) := by decide +kernel
theorem dX6_thick_19 : decode cX6_thick 19 = .ok (.invokevirtual 93, 3) := by decide +kernel
theorem dX6_thick_22 : decode cX6_thick 22 = .ok (.iconst 1, 1) := by decide +kernel
theorem dX6_thick_23 : decode cX6_thick 23 = .ok (.istore_n 3, 1) := by decide +kernel
theorem dX6_thick_24 : decode cX6_thick 24 = .ok (.iload_n 3, 1) := by decide +kernel
theorem dX6_thick_25 : decode cX6_thick 25 = .ok (.bipush 99, 2) := by decide +kernel
theorem dX6_thick_27 : decode cX6_thick 27 = .ok (.if_icmp .gt 42, 3) := by decide +kernel
theorem dX6_thick_30 : decode cX6_thick 30 = .ok (.aload_n 0, 1) := by decide +kernel
theorem dX6_thick_31 : decode cX6_thick 31 = .ok (.getfield 23, 3) := by decide +kernel
theorem dX6_thick_34 : decode cX6_thick 34 = .ok (.iload_n 3, 1) := by decide +kernel
theorem dX6_thick_35 : decode cX6_thick 35 = .ok (.putfield 197, 3) := by decide +kernel
theorem dX6_thick_38 : decode cX6_thick 38 = .ok (.aload_n 0, 1) := by decide +kernel
theorem dX6_thick_39 : decode cX6_thick 39 = .ok (.aload_n 0, 1) := by decide +kernel
theorem dX6_thick_40 : decode cX6_thick 40 = .ok (.getfield 23, 3) := by decide +kernel
theorem dX6_thick_43 : decode cX6_thick 43 = .ok (.aload_n 0, 1) := by decide +kernel
theorem dX6_thick_44 : decode cX6_thick 44 = .ok (.getfield 23, 3) := by decide +kernel
theorem dX6_thick_47 : decode cX6_thick 47 = .ok (.getfield 110, 3) := by decide +kernel
theorem dX6_thick_50 : decode cX6_thick 50 = .ok (.iload_n 1, 1) := by decide +kernel
theorem dX6_thick_51 : decode cX6_thick 51 = .ok (.invokevirtual 117, 3) := by decide +kernel
theorem dX6_thick_54 : decode cX6_thick 54 = .ok (.iload_n 1, 1) := by decide +kernel
theorem dX6_thick_55 : decode cX6_thick 55 = .ok (.if_icmp .eq 6, 3) := by decide +kernel
theorem dX6_thick_58 : decode cX6_thick 58 = .ok (.goto 11, 3) := by decide +kernel
theorem dX6_thick_61 : decode cX6_thick 61 = .ok (.iload_n 3, 1) := by decide +kernel
theorem dX6_thick_62 : decode cX6_thick 62 = .ok (.istore_n 2, 1) := by decide +kernel
theorem dX6_thick_63 : decode cX6_thick 63 = .ok (.iinc 3 1, 3) := by decide +kernel
theorem dX6_thick_66 : decode cX6_thick 66 = .ok (.goto (-42), 3) := by decide +kernel
theorem dX6_thick_69 : decode cX6_thick 69 = .ok (.iload_n 2, 1) := by decide +kernel
theorem dX6_thick_70 : decode cX6_thick 70 = .ok (.ireturn, 1) := by decide +kernel
set_option maxRecDepth 20000 in
theorem ggX6_heckle_X6_isYard : GoodIn wsX6_heckle wsX6_isYard := goodIn_r _ [4, 5, 6, 3, 7] (by decide +kernel) (by decide +kernel)
set_option maxRecDepth 20000 in
theorem gX6_heckle_X6_isYard : GoodIn wsX6_heckle (va_wsS RX6 124 yX6_isYard wsX6_isYard) := goodIn_app (goodIn_of _ (by decide +kernel)) ggX6_heckle_X6_isYard
set_option maxRecDepth 20000 in
theorem ggX6_heckle_X6_within : GoodIn wsX6_heckle wsX6_within := goodIn_r _ [7] (by decide +kernel) (by decide +kernel)
set_option maxRecDepth 20000 in
theorem gX6_heckle_X6_within : GoodIn wsX6_heckle (va_wsS RX6 72 yX6_within wsX6_within) := goodIn_app (goodIn_of _ (by decide +kernel)) ggX6_heckle_X6_within
set_option maxRecDepth 20000 in
theorem ggX6_heckle_X6_leastHeckle : GoodIn wsX6_heckle wsX6_leastHeckle := goodIn_r _ [11, 12, 13, 14, 15, 16, 17, 18, 19, 20, 21, 22, 23, 24, 25, 26, 27, 28, 29, 30, 31, 32, 33, 3, 34, 35, 36, 37, 38, 39, 40, 41, 42, 43, 44, 45, 46, 47, 48, 49, 50, 51, 52, 53, 54, 55, 56, 57, 58, 59, 60, 61, 62, 63, 64, 65, 66, 67, 68, 69, 70, 71, 72, 73, 74, 75, 76, 77, 78, 79, 80, 81, 82, 83, 84, 85, 86, 87, 88, 89, 90, 91, 92, 93, 94, 95, 96, 97, 98, 99, 100, 101, 102, 103, 104, 105, 106, 107, 108, 109, 110, 111, 112, 113, 114, 115, 116, 117, 118, 119, 120, 121, 122, 123, 124, 125, 126, 127, 128, 129, 130, 131, 132, 133, 134, 135, 136, 137, 138, 139, 140, 141, 142, 143, 144, 145, 146, 147, 148, 149, 150, 151, 152, 153, 154, 155, 156, 157, 5, 6, 7, 158, 159, 160, 161, 162, 163, 164, 165, 166, 167, 168, 169, 170, 171, 172, 173, 174, 175, 176, 177, 178, 179] (by decide +kernel) (by decide +kernel)
set_option maxRecDepth 20000 in
theorem gX6_heckle_X6_leastHeckle : GoodIn wsX6_heckle (wsV RX6 200 RX6 yX6_leastHeckle wsX6_leastHeckle) := goodIn_app (goodIn_of _ (by decide +kernel)) ggX6_heckle_X6_leastHeckle
theorem dX6_heckle_0 : decode cX6_heckle 0 = .ok (.iload_n 1, 1) := by decide +kernel
theorem dX6_heckle_1 : decode cX6_heckle 1 = .ok (.invokestatic 124, 3) := by decide +kernel
theorem dX6_heckle_4 : decode cX6_heckle 4 = .ok (.ifCond .eq 22, 3) := by decide +kernel
theorem dX6_heckle_7 : decode cX6_heckle 7 = .ok (.iload_n 2, 1) := by decide +kernel
theorem dX6_heckle_8 : decode cX6_heckle 8 = .ok (.iconst 1, 1) := by decide +kernel
theorem dX6_heckle_9 : decode cX6_heckle 9 = .ok (.bipush 7, 2) := by decide +kernel
theorem dX6_heckle_11 : decode cX6_heckle 11 = .ok (.invokestatic 72, 3) := by decide +kernel
theorem dX6_heckle_14 : decode cX6_heckle 14 = .ok (.ifCond .eq 12, 3) := by decide +kernel
theorem dX6_heckle_17 : decode cX6_heckle 17 = .ok (.iload_n 3, 1) := by decide +kernel
theorem dX6_heckle_18 : decode cX6_heckle 18 = .ok (.iconst 0, 1) := by decide +kernel
theorem dX6_heckle_19 : decode cX6_heckle 19 = .ok (.iconst 1, 1) := by decide +kernel
theorem dX6_heckle_20 : decode cX6_heckle 20 = .ok (.invokestatic 72, 3) := by decide +kernel
theorem dX6_heckle_23 : decode cX6_heckle 23 = .ok (.ifCond .ne 5, 3) := by decide +kernel
theorem dX6_heckle_26 : decode cX6_heckle 26 = .ok (.iconst (-1), 1) := by decide +kernel
theorem dX6_heckle_27 : decode cX6_heckle 27 = .ok (.ireturn, 1) := by decide +kernel
theorem dX6_heckle_28 : decode cX6_heckle 28 = .ok (.aload_n 0, 1) := by decide +kernel
theorem dX6_heckle_29 : decode cX6_heckle 29 = .ok (.iload_n 1, 1) := by decide +kernel
theorem dX6_heckle_30 : decode cX6_heckle 30 = .ok (.iload_n 2, 1) := by decide +kernel
theorem dX6_heckle_31 : decode cX6_heckle 31 = .ok (.invokevirtual 200, 3) := by decide +kernel
theorem dX6_heckle_34 : decode cX6_heckle 34 = .ok (.istore 4, 2) := by decide +kernel
theorem dX6_heckle_36 : decode cX6_heckle 36 = .ok (.iload 4, 2) := by decide +kernel
theorem dX6_heckle_38 : decode cX6_heckle 38 = .ok (.bipush (-4), 2) := by decide +kernel
theorem dX6_heckle_40 : decode cX6_heckle 40 = .ok (.if_icmp .ne 6, 3) := by decide +kernel
theorem dX6_heckle_43 : decode cX6_heckle 43 = .ok (.bipush (-4), 2) := by decide +kernel
theorem dX6_heckle_45 : decode cX6_heckle 45 = .ok (.ireturn, 1) := by decide +kernel
theorem dX6_heckle_46 : decode cX6_heckle 46 = .ok (.iload_n 3, 1) := by decide +kernel
theorem dX6_heckle_47 : decode cX6_heckle 47 = .ok (.ifCond .ne 12, 3) := by decide +kernel
theorem dX6_heckle_50 : decode cX6_heckle 50 = .ok (.iload 4, 2) := by decide +kernel
theorem dX6_heckle_52 : decode cX6_heckle 52 = .ok (.sipush 150, 3) := by decide +kernel
theorem dX6_heckle_55 : decode cX6_heckle 55 = .ok (.idiv, 1) := by decide +kernel
theorem dX6_heckle_56 : decode cX6_heckle 56 = .ok (.goto 9, 3) := by decide +kernel
theorem dX6_heckle_59 : decode cX6_heckle 59 = .ok (.iload 4, 2) := by decide +kernel
theorem dX6_heckle_61 : decode cX6_heckle 61 = .ok (.sipush 150, 3) := by decide +kernel
theorem dX6_heckle_64 : decode cX6_heckle 64 = .ok (.irem, 1) := by decide +kernel
theorem dX6_heckle_65 : decode cX6_heckle 65 = .ok (.ireturn, 1) := by decide +kernel
set_option maxRecDepth 20000 in
theorem ggX6_ear_X6_isYard : GoodIn wsX6_ear wsX6_isYard := goodIn_r _ [5, 6, 7, 4, 8] (by decide +kernel) (by decide +kernel)
set_option maxRecDepth 20000 in
theorem gX6_ear_X6_isYard : GoodIn wsX6_ear (va_wsS RX6 124 yX6_isYard wsX6_isYard) := goodIn_app (goodIn_of _ (by decide +kernel)) ggX6_ear_X6_isYard
set_option maxRecDepth 20000 in
theorem ggX6_ear_X6_isBeat : GoodIn wsX6_ear wsX6_isBeat := goodIn_r _ [11, 6, 7, 4, 8] (by decide +kernel) (by decide +kernel)
set_option maxRecDepth 20000 in
theorem gX6_ear_X6_isBeat : GoodIn wsX6_ear (va_wsS RX6 127 yX6_isBeat wsX6_isBeat) := goodIn_app (goodIn_of _ (by decide +kernel)) ggX6_ear_X6_isBeat
set_option maxRecDepth 20000 in
theorem ggX6_ear_X6_within : GoodIn wsX6_ear wsX6_within := goodIn_r _ [8] (by decide +kernel) (by decide +kernel)
set_option maxRecDepth 20000 in
theorem gX6_ear_X6_within : GoodIn wsX6_ear (va_wsS RX6 72 yX6_within wsX6_within) := goodIn_app (goodIn_of _ (by decide +kernel)) ggX6_ear_X6_within
set_option maxRecDepth 20000 in
theorem ggX6_ear_X1_addThree : GoodIn wsX6_ear wsX1_addThree := goodIn_r _ [16, 17, 18, 19, 20, 21, 15, 22, 37, 38] (by decide +kernel) (by decide +kernel)
set_option maxRecDepth 20000 in
theorem gX6_ear_X1_addThree : GoodIn wsX6_ear (wsV RX6 203 RX1 yX1_addThree wsX1_addThree) := goodIn_app (goodIn_of _ (by decide +kernel)) ggX6_ear_X1_addThree
set_option maxRecDepth 20000 in
theorem ggX6_ear_X1_size : GoodIn wsX6_ear wsX1_size := goodIn_r _ [26, 17, 37, 38] (by decide +kernel) (by decide +kernel)
set_option maxRecDepth 20000 in
theorem gX6_ear_X1_size : GoodIn wsX6_ear (wsV RX6 181 RX1 yX1_size wsX1_size) := goodIn_app (goodIn_of _ (by decide +kernel)) ggX6_ear_X1_size
theorem dX6_ear_0 : decode cX6_ear 0 = .ok (.iload_n 1, 1) := by decide +kernel
theorem dX6_ear_1 : decode cX6_ear 1 = .ok (.invokestatic 124, 3) := by decide +kernel
theorem dX6_ear_4 : decode cX6_ear 4 = .ok (.ifCond .eq 20, 3) := by decide +kernel
theorem dX6_ear_7 : decode cX6_ear 7 = .ok (.iload_n 2, 1) := by decide +kernel
theorem dX6_ear_8 : decode cX6_ear 8 = .ok (.invokestatic 127, 3) := by decide +kernel
theorem dX6_ear_11 : decode cX6_ear 11 = .ok (.ifCond .eq 13, 3) := by decide +kernel
theorem dX6_ear_14 : decode cX6_ear 14 = .ok (.iload_n 3, 1) := by decide +kernel
theorem dX6_ear_15 : decode cX6_ear 15 = .ok (.iconst 0, 1) := by decide +kernel
theorem dX6_ear_16 : decode cX6_ear 16 = .ok (.bipush 8, 2) := by decide +kernel
theorem dX6_ear_18 : decode cX6_ear 18 = .ok (.invokestatic 72, 3) := by decide +kernel
theorem dX6_ear_21 : decode cX6_ear 21 = .ok (.ifCond .ne 5, 3) := by decide +kernel
theorem dX6_ear_24 : decode cX6_ear 24 = .ok (.iconst (-1), 1) := by decide +kernel
theorem dX6_ear_25 : decode cX6_ear 25 = .ok (.ireturn, 1) := by decide +kernel
theorem dX6_ear_26 : decode cX6_ear 26 = .ok (.aload_n 0, 1) := by decide +kernel
theorem dX6_ear_27 : decode cX6_ear 27 = .ok (.getfield 62, 3) := by decide +kernel
theorem dX6_ear_30 : decode cX6_ear 30 = .ok (.iload_n 1, 1) := by decide +kernel
theorem dX6_ear_31 : decode cX6_ear 31 = .ok (.iload_n 2, 1) := by decide +kernel
theorem dX6_ear_32 : decode cX6_ear 32 = .ok (.iload_n 3, 1) := by decide +kernel
theorem dX6_ear_33 : decode cX6_ear 33 = .ok (.invokevirtual 203, 3) := by decide +kernel
theorem dX6_ear_36 : decode cX6_ear 36 = .ok (.ifCond .eq 15, 3) := by decide +kernel
theorem dX6_ear_39 : decode cX6_ear 39 = .ok (.aload_n 0, 1) := by decide +kernel
theorem dX6_ear_40 : decode cX6_ear 40 = .ok (.getfield 62, 3) := by decide +kernel
theorem dX6_ear_43 : decode cX6_ear 43 = .ok (.invokevirtual 181, 3) := by decide +kernel
theorem dX6_ear_46 : decode cX6_ear 46 = .ok (.iconst 3, 1) := by decide +kernel
theorem dX6_ear_47 : decode cX6_ear 47 = .ok (.idiv, 1) := by decide +kernel
theorem dX6_ear_48 : decode cX6_ear 48 = .ok (.goto 5, 3) := by decide +kernel
theorem dX6_ear_51 : decode cX6_ear 51 = .ok (.bipush (-3), 2) := by decide +kernel
theorem dX6_ear_53 : decode cX6_ear 53 = .ok (.ireturn, 1) := by decide +kernel
set_option maxRecDepth 20000 in
theorem ggX6_noEars_X1_size : GoodIn wsX6_noEars wsX1_size := goodIn_r _ [6, 7, 22, 23] (by decide +kernel) (by decide +kernel)
set_option maxRecDepth 20000 in
theorem gX6_noEars_X1_size : GoodIn wsX6_noEars (wsV RX6 181 RX1 yX1_size wsX1_size) := goodIn_app (goodIn_of _ (by decide +kernel)) ggX6_noEars_X1_size
set_option maxRecDepth 20000 in
theorem ggX6_noEars_X1_drop : GoodIn wsX6_noEars wsX1_drop := goodIn_r _ [11, 7, 22, 23] (by decide +kernel) (by decide +kernel)
set_option maxRecDepth 20000 in
theorem gX6_noEars_X1_drop : GoodIn wsX6_noEars (wsV RX6 97 RX1 yX1_drop wsX1_drop) := goodIn_app (goodIn_of _ (by decide +kernel)) ggX6_noEars_X1_drop
theorem dX6_noEars_0 : decode cX6_noEars 0 = .ok (.aload_n 0, 1) := by decide +kernel
theorem dX6_noEars_1 : decode cX6_noEars 1 = .ok (.getfield 62, 3) := by decide +kernel
theorem dX6_noEars_4 : decode cX6_noEars 4 = .ok (.invokevirtual 181, 3) := by decide +kernel
theorem dX6_noEars_7 : decode cX6_noEars 7 = .ok (.iconst 3, 1) := by decide +kernel
theorem dX6_noEars_8 : decode cX6_noEars 8 = .ok (.idiv, 1) := by decide +kernel
theorem dX6_noEars_9 : decode cX6_noEars 9 = .ok (.istore_n 1, 1) := by decide +kernel
theorem dX6_noEars_10 : decode cX6_noEars 10 = .ok (.aload_n 0, 1) := by decide +kernel
theorem dX6_noEars_11 : decode cX6_noEars 11 = .ok (.getfield 62, 3) := by decide +kernel
theorem dX6_noEars_14 : decode cX6_noEars 14 = .ok (.invokevirtual 97, 3) := by decide +kernel
theorem dX6_noEars_17 : decode cX6_noEars 17 = .ok (.iload_n 1, 1) := by decide +kernel
theorem dX6_noEars_18 : decode cX6_noEars 18 = .ok (.ireturn, 1) := by decide +kernel
set_option maxRecDepth 20000 in
theorem ggX6_stood_X6_within : GoodIn wsX6_stood wsX6_within := goodIn_r _ [6] (by decide +kernel) (by decide +kernel)
set_option maxRecDepth 20000 in
theorem gX6_stood_X6_within : GoodIn wsX6_stood (va_wsS RX6 72 yX6_within wsX6_within) := goodIn_app (goodIn_of _ (by decide +kernel)) ggX6_stood_X6_within
set_option maxRecDepth 20000 in
theorem ggX6_stood_X0_copy : GoodIn wsX6_stood wsX0_copy := goodIn_r _ [11, 12, 13, 14, 15, 16, 17, 18, 19, 20, 21, 22, 23, 24, 25, 26, 27, 28, 29, 30, 31, 32, 33, 34, 35, 36, 161, 162, 163, 164, 165, 166, 167, 168] (by decide +kernel) (by decide +kernel)
set_option maxRecDepth 20000 in
theorem gX6_stood_X0_copy : GoodIn wsX6_stood (wsV RX6 93 RX0 yX0_copy wsX0_copy) := goodIn_app (goodIn_of _ (by decide +kernel)) ggX6_stood_X0_copy
set_option maxRecDepth 20000 in
theorem ggX6_stood_X6_isAsEarsHeard : GoodIn wsX6_stood wsX6_isAsEarsHeard := goodIn_r _ [40, 41, 42, 43, 44, 45, 21, 46, 23, 47, 29, 30, 31, 32, 48, 49, 50, 10, 51, 52, 53, 54, 55, 13, 56, 57, 58, 59, 5, 60, 61, 62, 63, 64, 65, 66, 67, 68, 69, 70, 71, 72, 73, 25, 26, 27, 74, 75, 76, 77, 78, 34, 35, 36, 79, 80, 81, 82, 12, 83, 84, 85, 86, 17, 87, 88, 89, 90, 91, 92, 93, 94, 95, 96, 97, 98, 99, 100, 101, 102, 103, 104, 105, 106, 107, 108, 109, 110, 111, 112, 113, 114, 115, 116, 117, 118, 119, 120, 121, 122, 123, 124, 125, 126, 127, 128, 129, 130, 131, 132, 133, 134, 135, 136, 137, 138, 139, 140, 141, 142, 143, 144, 145, 146, 147, 148, 149, 150, 151, 152, 153, 154, 155, 156, 157, 158, 159, 160, 167, 168, 161, 162, 163, 164, 165, 166, 169, 170, 171, 172] (by decide +kernel) (by decide +kernel)
set_option maxRecDepth 20000 in
theorem gX6_stood_X6_isAsEarsHeard : GoodIn wsX6_stood (wsV RX6 206 RX6 yX6_isAsEarsHeard wsX6_isAsEarsHeard) := goodIn_app (goodIn_of _ (by decide +kernel)) ggX6_stood_X6_isAsEarsHeard
theorem dX6_stood_0 : decode cX6_stood 0 = .ok (.iload_n 1, 1) := by decide +kernel
theorem dX6_stood_1 : decode cX6_stood 1 = .ok (.iconst 0, 1) := by decide +kernel
theorem dX6_stood_2 : decode cX6_stood 2 = .ok (.iconst 1, 1) := by decide +kernel
theorem dX6_stood_3 : decode cX6_stood 3 = .ok (.invokestatic 72, 3) := by decide +kernel
theorem dX6_stood_6 : decode cX6_stood 6 = .ok (.ifCond .ne 5, 3) := by decide +kernel
theorem dX6_stood_9 : decode cX6_stood 9 = .ok (.iconst (-1), 1) := by decide +kernel
theorem dX6_stood_10 : decode cX6_stood 10 = .ok (.ireturn, 1) := by decide +kernel
theorem dX6_stood_11 : decode cX6_stood 11 = .ok (.iconst 0, 1) := by decide +kernel
theorem dX6_stood_12 : decode cX6_stood 12 = .ok (.istore_n 2, 1) := by decide +kernel
theorem dX6_stood_13 : decode cX6_stood 13 = .ok (.bipush (-4), 2) := by decide +kernel
theorem dX6_stood_15 : decode cX6_stood 15 = .ok (.istore_n 3, 1) := by decide +kernel
theorem dX6_stood_16 : decode cX6_stood 16 = .ok (.aload_n 0, 1) := by decide +kernel
theorem dX6_stood_17 : decode cX6_stood 17 = .ok (.getfield 23, 3) := by decide +kernel
theorem dX6_stood_20 : decode cX6_stood 20 = .ok (.aload_n 0, 1) := by decide +kernel
theorem dX6_stood_21 : decode cX6_stood 21 = .ok (.getfield 19, 3) := by decide +kernel
theorem dX6_stood_24 : decode cX6_stood 24 = .ok (.invokevirtual 93, 3) := by decide +kernel
theorem dX6_stood_27 : decode cX6_stood 27 = .ok (.iconst 0, 1) := by decide +kernel
theorem dX6_stood_28 : decode cX6_stood 28 = .ok (.istore 4, 2) := by decide +kernel
theorem dX6_stood_30 : decode cX6_stood 30 = .ok (.iload 4, 2) := by decide +kernel
theorem dX6_stood_32 : decode cX6_stood 32 = .ok (.bipush 40, 2) := by decide +kernel
theorem dX6_stood_34 : decode cX6_stood 34 = .ok (.if_icmp .gt 43, 3) := by decide +kernel
theorem dX6_stood_37 : decode cX6_stood 37 = .ok (.aload_n 0, 1) := by decide +kernel
theorem dX6_stood_38 : decode cX6_stood 38 = .ok (.getfield 23, 3) := by decide +kernel
theorem dX6_stood_41 : decode cX6_stood 41 = .ok (.iload 4, 2) := by decide +kernel
theorem dX6_stood_43 : decode cX6_stood 43 = .ok (.putfield 151, 3) := by decide +kernel
theorem dX6_stood_46 : decode cX6_stood 46 = .ok (.aload_n 0, 1) := by decide +kernel
theorem dX6_stood_47 : decode cX6_stood 47 = .ok (.aload_n 0, 1) := by decide +kernel
theorem dX6_stood_48 : decode cX6_stood 48 = .ok (.getfield 23, 3) := by decide +kernel
theorem dX6_stood_51 : decode cX6_stood 51 = .ok (.invokevirtual 206, 3) := by decide +kernel
theorem dX6_stood_54 : decode cX6_stood 54 = .ok (.ifCond .eq 17, 3) := by decide +kernel
theorem dX6_stood_57 : decode cX6_stood 57 = .ok (.iload_n 2, 1) := by decide +kernel
theorem dX6_stood_58 : decode cX6_stood 58 = .ok (.ifCond .ne 8, 3) := by decide +kernel
theorem dX6_stood_61 : decode cX6_stood 61 = .ok (.iload 4, 2) := by decide +kernel
theorem dX6_stood_63 : decode cX6_stood 63 = .ok (.goto 4, 3) := by decide +kernel
theorem dX6_stood_66 : decode cX6_stood 66 = .ok (.iload_n 3, 1) := by decide +kernel
theorem dX6_stood_67 : decode cX6_stood 67 = .ok (.istore_n 3, 1) := by decide +kernel
theorem dX6_stood_68 : decode cX6_stood 68 = .ok (.iinc 2 1, 3) := by decide +kernel
theorem dX6_stood_71 : decode cX6_stood 71 = .ok (.iinc 4 1, 3) := by decide +kernel
theorem dX6_stood_74 : decode cX6_stood 74 = .ok (.goto (-44), 3) := by decide +kernel
theorem dX6_stood_77 : decode cX6_stood 77 = .ok (.iload_n 1, 1) := by decide +kernel
theorem dX6_stood_78 : decode cX6_stood 78 = .ok (.ifCond .ne 7, 3) := by decide +kernel
theorem dX6_stood_81 : decode cX6_stood 81 = .ok (.iload_n 2, 1) := by decide +kernel
theorem dX6_stood_82 : decode cX6_stood 82 = .ok (.goto 4, 3) := by decide +kernel
theorem dX6_stood_85 : decode cX6_stood 85 = .ok (.iload_n 3, 1) := by decide +kernel
theorem dX6_stood_86 : decode cX6_stood 86 = .ok (.ireturn, 1) := by decide +kernel
set_option maxRecDepth 20000 in
theorem ggX6_moved_X0_cliffCount : GoodIn wsX6_moved wsX0_cliffCount := goodIn_r _ [7, 8, 9, 10, 11, 12, 13, 14, 165, 166, 167, 168, 169, 170, 171, 172] (by decide +kernel) (by decide +kernel)
set_option maxRecDepth 20000 in
theorem gX6_moved_X0_cliffCount : GoodIn wsX6_moved (wsV RX6 99 RX0 yX0_cliffCount wsX0_cliffCount) := goodIn_app (goodIn_of _ (by decide +kernel)) ggX6_moved_X0_cliffCount
set_option maxRecDepth 20000 in
theorem ggX6_moved_X0_copy : GoodIn wsX6_moved wsX0_copy := goodIn_r _ [18, 8, 19, 20, 21, 22, 23, 24, 25, 26, 12, 27, 14, 28, 29, 30, 31, 32, 33, 34, 35, 36, 37, 38, 39, 40, 165, 166, 167, 168, 169, 170, 171, 172] (by decide +kernel) (by decide +kernel)
set_option maxRecDepth 20000 in
theorem gX6_moved_X0_copy : GoodIn wsX6_moved (wsV RX6 93 RX0 yX0_copy wsX0_copy) := goodIn_app (goodIn_of _ (by decide +kernel)) ggX6_moved_X0_copy
set_option maxRecDepth 20000 in
theorem ggX6_moved_X0_moveCliff : GoodIn wsX6_moved wsX0_moveCliff := goodIn_r _ [44, 8, 45, 46, 47, 12, 48, 14, 36, 165, 166, 167, 168, 169, 170, 171, 172] (by decide +kernel) (by decide +kernel)
set_option maxRecDepth 20000 in
theorem gX6_moved_X0_moveCliff : GoodIn wsX6_moved (wsV RX6 209 RX0 yX0_moveCliff wsX0_moveCliff) := goodIn_app (goodIn_of _ (by decide +kernel)) ggX6_moved_X0_moveCliff
set_option maxRecDepth 20000 in
theorem ggX6_moved_X0_cliffPart : GoodIn wsX6_moved wsX0_cliffPart := goodIn_r _ [52, 8, 53, 33, 34, 12, 35, 14, 36, 165, 166, 167, 168, 169, 170, 171, 172] (by decide +kernel) (by decide +kernel)
set_option maxRecDepth 20000 in
theorem gX6_moved_X0_cliffPart : GoodIn wsX6_moved (wsV RX6 106 RX0 yX0_cliffPart wsX0_cliffPart) := goodIn_app (goodIn_of _ (by decide +kernel)) ggX6_moved_X0_cliffPart
set_option maxRecDepth 20000 in
theorem ggX6_moved_X6_isAsEarsHeard : GoodIn wsX6_moved wsX6_isAsEarsHeard := goodIn_r _ [58, 59, 60, 61, 10, 11, 12, 13, 14, 62, 33, 34, 35, 36, 63, 64, 65, 6, 66, 67, 68, 69, 70, 19, 9, 71, 72, 73, 57, 74, 75, 76, 77, 78, 79, 80, 81, 82, 83, 84, 85, 86, 87, 29, 30, 31, 88, 89, 90, 91, 92, 38, 39, 40, 93, 4, 5, 7, 8, 94, 95, 96, 97, 23, 98, 99, 100, 101, 102, 50, 51, 52, 53, 103, 104, 105, 106, 107, 108, 109, 110, 111, 112, 113, 114, 115, 116, 117, 118, 119, 120, 121, 122, 123, 124, 125, 126, 127, 128, 129, 130, 131, 132, 133, 134, 135, 136, 137, 138, 139, 140, 141, 142, 143, 144, 145, 146, 147, 148, 149, 150, 46, 47, 48, 151, 152, 153, 154, 155, 156, 157, 158, 159, 160, 161, 162, 163, 164, 171, 172, 165, 166, 167, 168, 169, 170, 173, 174, 175, 176] (by decide +kernel) (by decide +kernel)
set_option maxRecDepth 20000 in
theorem gX6_moved_X6_isAsEarsHeard : GoodIn wsX6_moved (wsV RX6 206 RX6 yX6_isAsEarsHeard wsX6_isAsEarsHeard) := goodIn_app (goodIn_of _ (by decide +kernel)) ggX6_moved_X6_isAsEarsHeard
theorem dX6_moved_0 : decode cX6_moved 0 = .ok (.iconst 0, 1) := by decide +kernel
theorem dX6_moved_1 : decode cX6_moved 1 = .ok (.istore_n 1, 1) := by decide +kernel
theorem dX6_moved_2 : decode cX6_moved 2 = .ok (.iload_n 1, 1) := by decide +kernel
theorem dX6_moved_3 : decode cX6_moved 3 = .ok (.aload_n 0, 1) := by decide +kernel
theorem dX6_moved_4 : decode cX6_moved 4 = .ok (.getfield 19, 3) := by decide +kernel
theorem dX6_moved_7 : decode cX6_moved 7 = .ok (.invokevirtual 99, 3) := by decide +kernel
theorem dX6_moved_10 : decode cX6_moved 10 = .ok (.if_icmp .ge 74, 3) := by decide +kernel
theorem dX6_moved_13 : decode cX6_moved 13 = .ok (.aload_n 0, 1) := by decide +kernel
theorem dX6_moved_14 : decode cX6_moved 14 = .ok (.getfield 23, 3) := by decide +kernel
theorem dX6_moved_17 : decode cX6_moved 17 = .ok (.aload_n 0, 1) := by decide +kernel
theorem dX6_moved_18 : decode cX6_moved 18 = .ok (.getfield 19, 3) := by decide +kernel
theorem dX6_moved_21 : decode cX6_moved 21 = .ok (.invokevirtual 93, 3) := by decide +kernel
theorem dX6_moved_24 : decode cX6_moved 24 = .ok (.iconst 0, 1) := by decide +kernel
theorem dX6_moved_25 : decode cX6_moved 25 = .ok (.istore_n 2, 1) := by decide +kernel
theorem dX6_moved_26 : decode cX6_moved 26 = .ok (.iload_n 2, 1) := by decide +kernel
theorem dX6_moved_27 : decode cX6_moved 27 = .ok (.bipush 40, 2) := by decide +kernel
theorem dX6_moved_29 : decode cX6_moved 29 = .ok (.if_icmp .gt 49, 3) := by decide +kernel
theorem dX6_moved_32 : decode cX6_moved 32 = .ok (.aload_n 0, 1) := by decide +kernel
theorem dX6_moved_33 : decode cX6_moved 33 = .ok (.getfield 23, 3) := by decide +kernel
theorem dX6_moved_36 : decode cX6_moved 36 = .ok (.iload_n 1, 1) := by decide +kernel
theorem dX6_moved_37 : decode cX6_moved 37 = .ok (.iload_n 2, 1) := by decide +kernel
theorem dX6_moved_38 : decode cX6_moved 38 = .ok (.invokevirtual 209, 3) := by decide +kernel
theorem dX6_moved_41 : decode cX6_moved 41 = .ok (.iload_n 2, 1) := by decide +kernel
theorem dX6_moved_42 : decode cX6_moved 42 = .ok (.aload_n 0, 1) := by decide +kernel
theorem dX6_moved_43 : decode cX6_moved 43 = .ok (.getfield 19, 3) := by decide +kernel
theorem dX6_moved_46 : decode cX6_moved 46 = .ok (.iload_n 1, 1) := by decide +kernel
theorem dX6_moved_47 : decode cX6_moved 47 = .ok (.iconst 0, 1) := by decide +kernel
theorem dX6_moved_48 : decode cX6_moved 48 = .ok (.invokevirtual 106, 3) := by decide +kernel
theorem dX6_moved_51 : decode cX6_moved 51 = .ok (.if_icmp .eq 21, 3) := by decide +kernel
theorem dX6_moved_54 : decode cX6_moved 54 = .ok (.aload_n 0, 1) := by decide +kernel
theorem dX6_moved_55 : decode cX6_moved 55 = .ok (.aload_n 0, 1) := by decide +kernel
theorem dX6_moved_56 : decode cX6_moved 56 = .ok (.getfield 23, 3) := by decide +kernel
theorem dX6_moved_59 : decode cX6_moved 59 = .ok (.invokevirtual 206, 3) := by decide +kernel
theorem dX6_moved_62 : decode cX6_moved 62 = .ok (.ifCond .eq 10, 3) := by decide +kernel
theorem dX6_moved_65 : decode cX6_moved 65 = .ok (.bipush 100, 2) := by decide +kernel
theorem dX6_moved_67 : decode cX6_moved 67 = .ok (.iload_n 1, 1) := by decide +kernel
theorem dX6_moved_68 : decode cX6_moved 68 = .ok (.imul, 1) := by decide +kernel
theorem dX6_moved_69 : decode cX6_moved 69 = .ok (.iload_n 2, 1) := by decide +kernel
theorem dX6_moved_70 : decode cX6_moved 70 = .ok (.iadd, 1) := by decide +kernel
theorem dX6_moved_71 : decode cX6_moved 71 = .ok (.ireturn, 1) := by decide +kernel
theorem dX6_moved_72 : decode cX6_moved 72 = .ok (.iinc 2 1, 3) := by decide +kernel
theorem dX6_moved_75 : decode cX6_moved 75 = .ok (.goto (-49), 3) := by decide +kernel
theorem dX6_moved_78 : decode cX6_moved 78 = .ok (.iinc 1 1, 3) := by decide +kernel
theorem dX6_moved_81 : decode cX6_moved 81 = .ok (.goto (-79), 3) := by decide +kernel
theorem dX6_moved_84 : decode cX6_moved 84 = .ok (.bipush (-4), 2) := by decide +kernel
theorem dX6_moved_86 : decode cX6_moved 86 = .ok (.ireturn, 1) := by decide +kernel
set_option maxRecDepth 20000 in
theorem ggX6_evening_X6_within : GoodIn wsX6_evening wsX6_within := goodIn_r _ [7] (by decide +kernel) (by decide +kernel)
set_option maxRecDepth 20000 in
theorem gX6_evening_X6_within : GoodIn wsX6_evening (va_wsS RX6 72 yX6_within wsX6_within) := goodIn_app (goodIn_of _ (by decide +kernel)) ggX6_evening_X6_within
set_option maxRecDepth 20000 in
theorem ggX6_evening_X0_allWords : GoodIn wsX6_evening wsX0_allWords := goodIn_r _ [12, 13, 14, 15, 11, 16, 17, 18, 19, 20, 21, 22, 23, 157, 158, 159, 160, 161, 162, 163, 164] (by decide +kernel) (by decide +kernel)
set_option maxRecDepth 20000 in
theorem gX6_evening_X0_allWords : GoodIn wsX6_evening (wsV RX6 114 RX0 yX0_allWords wsX0_allWords) := goodIn_app (goodIn_of _ (by decide +kernel)) ggX6_evening_X0_allWords
set_option maxRecDepth 20000 in
theorem ggX6_evening_X5_trace : GoodIn wsX6_evening wsX5_trace := goodIn_r _ [28, 29, 30, 31, 32, 33, 34, 35, 36, 37, 21, 38, 23, 39, 40, 41, 27, 42, 43, 44, 45, 46, 47, 48, 49, 50, 11, 51, 52, 18, 19, 20, 22, 53, 54, 55, 56, 57, 58, 59, 60, 61, 62, 63, 64, 65, 66, 67, 68, 69, 165, 166, 157, 158, 159, 160, 161, 162, 163, 164] (by decide +kernel) (by decide +kernel)
set_option maxRecDepth 20000 in
theorem gX6_evening_X5_trace : GoodIn wsX6_evening (wsV RX6 191 RX5 yX5_trace wsX5_trace) := goodIn_app (goodIn_of _ (by decide +kernel)) ggX6_evening_X5_trace
set_option maxRecDepth 20000 in
theorem ggX6_evening_X3_hush : GoodIn wsX6_evening wsX3_hush := goodIn_r _ [74, 75, 76, 77, 78, 79, 21, 80, 47, 23, 81, 82, 83, 84, 167, 168, 163, 164] (by decide +kernel) (by decide +kernel)
set_option maxRecDepth 20000 in
theorem gX6_evening_X3_hush : GoodIn wsX6_evening (wsV RX6 213 RX3 yX3_hush wsX3_hush) := goodIn_app (goodIn_of _ (by decide +kernel)) ggX6_evening_X3_hush
set_option maxRecDepth 20000 in
theorem ggX6_evening_X3_play : GoodIn wsX6_evening wsX3_play := goodIn_r _ [88, 89, 14, 15, 11, 16, 17, 18, 19, 20, 21, 22, 23, 90, 91, 92, 93, 66, 67, 68, 69, 47, 94, 95, 96, 73, 97, 98, 99, 100, 27, 101, 29, 102, 103, 104, 105, 106, 107, 108, 109, 110, 111, 30, 112, 113, 114, 115, 76, 75, 116, 117, 118, 119, 120, 157, 158, 159, 160, 161, 162, 163, 164, 165, 166, 167, 168] (by decide +kernel) (by decide +kernel)
set_option maxRecDepth 20000 in
theorem gX6_evening_X3_play : GoodIn wsX6_evening (wsV RX6 216 RX3 yX3_play wsX3_play) := goodIn_app (goodIn_of _ (by decide +kernel)) ggX6_evening_X3_play
set_option maxRecDepth 20000 in
theorem ggX6_evening_X0_wordCount : GoodIn wsX6_evening wsX0_wordCount := goodIn_r _ [16, 17, 18, 19, 20, 21, 22, 23, 157, 158, 159, 160, 161, 162, 163, 164] (by decide +kernel) (by decide +kernel)
set_option maxRecDepth 20000 in
theorem gX6_evening_X0_wordCount : GoodIn wsX6_evening (wsV RX6 90 RX0 yX0_wordCount wsX0_wordCount) := goodIn_app (goodIn_of _ (by decide +kernel)) ggX6_evening_X0_wordCount
set_option maxRecDepth 20000 in
theorem ggX6_evening_X6_addEveningHeckler : GoodIn wsX6_evening wsX6_addEveningHeckler := goodIn_r _ [125, 126, 127, 128, 129, 1, 3, 24, 25, 26, 27, 28, 29, 30, 31, 32, 33, 34, 35, 36, 37, 21, 38, 23, 39, 40, 41, 42, 43, 44, 45, 46, 47, 48, 49, 50, 11, 51, 52, 18, 19, 20, 22, 53, 54, 55, 56, 57, 58, 59, 60, 61, 62, 63, 64, 65, 66, 67, 68, 69, 130, 91, 92, 93, 17, 131, 95, 96, 73, 97, 98, 99, 100, 101, 102, 103, 104, 105, 106, 107, 108, 109, 110, 111, 112, 113, 114, 115, 76, 75, 116, 117, 118, 119, 120, 147, 148, 149, 150, 151, 152, 153, 154, 155, 156, 157, 158, 159, 160, 161, 162, 165, 166, 163, 164, 167, 168] (by decide +kernel) (by decide +kernel)
set_option maxRecDepth 20000 in
theorem gX6_evening_X6_addEveningHeckler : GoodIn wsX6_evening (wsV RX6 220 RX6 yX6_addEveningHeckler wsX6_addEveningHeckler) := goodIn_app (goodIn_of _ (by decide +kernel)) ggX6_evening_X6_addEveningHeckler
set_option maxRecDepth 20000 in
theorem ggX6_evening_X3_clearOf : GoodIn wsX6_evening wsX3_clearOf := goodIn_r _ [135, 89, 14, 15, 11, 16, 17, 18, 19, 20, 21, 22, 23, 136, 137, 138, 73, 139, 75, 90, 91, 92, 93, 66, 67, 68, 69, 47, 103, 104, 105, 27, 106, 29, 107, 108, 109, 110, 111, 30, 116, 157, 158, 159, 160, 161, 162, 163, 164, 167, 168, 165, 166] (by decide +kernel) (by decide +kernel)
set_option maxRecDepth 20000 in
theorem gX6_evening_X3_clearOf : GoodIn wsX6_evening (wsV RX6 223 RX3 yX3_clearOf wsX3_clearOf) := goodIn_app (goodIn_of _ (by decide +kernel)) ggX6_evening_X3_clearOf
set_option maxRecDepth 20000 in
theorem ggX6_evening_J6_bitCount_0f7a4 : GoodIn wsX6_evening wsJ6_bitCount_0f7a4 := goodIn_r _ [143, 144, 145, 146] (by decide +kernel) (by decide +kernel)
set_option maxRecDepth 20000 in
theorem gX6_evening_J6_bitCount_0f7a4 : GoodIn wsX6_evening (va_wsS RX6 173 yJ6_bitCount_0f7a4 wsJ6_bitCount_0f7a4) := goodIn_app (goodIn_of _ (by decide +kernel)) ggX6_evening_J6_bitCount_0f7a4
theorem dX6_evening_0 : decode cX6_evening 0 = .ok (.iload_n 1, 1) := by decide +kernel
theorem dX6_evening_1 : decode cX6_evening 1 = .ok (.iconst 0, 1) := by decide +kernel
theorem dX6_evening_2 : decode cX6_evening 2 = .ok (.sipush 9999, 3) := by decide +kernel
theorem dX6_evening_5 : decode cX6_evening 5 = .ok (.invokestatic 72, 3) := by decide +kernel
theorem dX6_evening_8 : decode cX6_evening 8 = .ok (.ifCond .ne 5, 3) := by decide +kernel
theorem dX6_evening_11 : decode cX6_evening 11 = .ok (.iconst (-1), 1) := by decide +kernel
theorem dX6_evening_12 : decode cX6_evening 12 = .ok (.ireturn, 1) := by decide +kernel
theorem dX6_evening_13 : decode cX6_evening 13 = .ok (.aload_n 0, 1) := by decide +kernel
theorem dX6_evening_14 : decode cX6_evening 14 = .ok (.getfield 19, 3) := by decide +kernel
theorem dX6_evening_17 : decode cX6_evening 17 = .ok (.invokevirtual 114, 3) := by decide +kernel
theorem dX6_evening_20 : decode cX6_evening 20 = .ok (.istore_n 2, 1) := by decide +kernel
theorem dX6_evening_21 : decode cX6_evening 21 = .ok (.aload_n 0, 1) := by decide +kernel
theorem dX6_evening_22 : decode cX6_evening 22 = .ok (.getfield 29, 3) := by decide +kernel
theorem dX6_evening_25 : decode cX6_evening 25 = .ok (.aload_n 0, 1) := by decide +kernel
theorem dX6_evening_26 : decode cX6_evening 26 = .ok (.getfield 19, 3) := by decide +kernel
theorem dX6_evening_29 : decode cX6_evening 29 = .ok (.aload_n 0, 1) := by decide +kernel
theorem dX6_evening_30 : decode cX6_evening 30 = .ok (.getfield 19, 3) := by decide +kernel
theorem dX6_evening_33 : decode cX6_evening 33 = .ok (.getfield 151, 3) := by decide +kernel
theorem dX6_evening_36 : decode cX6_evening 36 = .ok (.aload_n 0, 1) := by decide +kernel
theorem dX6_evening_37 : decode cX6_evening 37 = .ok (.getfield 19, 3) := by decide +kernel
theorem dX6_evening_40 : decode cX6_evening 40 = .ok (.getfield 110, 3) := by decide +kernel
theorem dX6_evening_43 : decode cX6_evening 43 = .ok (.invokevirtual 191, 3) := by decide +kernel
theorem dX6_evening_46 : decode cX6_evening 46 = .ok (.aload_n 0, 1) := by decide +kernel
theorem dX6_evening_47 : decode cX6_evening 47 = .ok (.getfield 39, 3) := by decide +kernel
theorem dX6_evening_50 : decode cX6_evening 50 = .ok (.invokevirtual 213, 3) := by decide +kernel
theorem dX6_evening_53 : decode cX6_evening 53 = .ok (.aload_n 0, 1) := by decide +kernel
theorem dX6_evening_54 : decode cX6_evening 54 = .ok (.getfield 39, 3) := by decide +kernel
theorem dX6_evening_57 : decode cX6_evening 57 = .ok (.aload_n 0, 1) := by decide +kernel
theorem dX6_evening_58 : decode cX6_evening 58 = .ok (.getfield 19, 3) := by decide +kernel
theorem dX6_evening_61 : decode cX6_evening 61 = .ok (.iload_n 2, 1) := by decide +kernel
theorem dX6_evening_62 : decode cX6_evening 62 = .ok (.aload_n 0, 1) := by decide +kernel
theorem dX6_evening_63 : decode cX6_evening 63 = .ok (.getfield 29, 3) := by decide +kernel
theorem dX6_evening_66 : decode cX6_evening 66 = .ok (.iconst 0, 1) := by decide +kernel
theorem dX6_evening_67 : decode cX6_evening 67 = .ok (.invokevirtual 216, 3) := by decide +kernel
theorem dX6_evening_70 : decode cX6_evening 70 = .ok (.iconst 0, 1) := by decide +kernel
theorem dX6_evening_71 : decode cX6_evening 71 = .ok (.istore_n 3, 1) := by decide +kernel
theorem dX6_evening_72 : decode cX6_evening 72 = .ok (.iload_n 3, 1) := by decide +kernel
theorem dX6_evening_73 : decode cX6_evening 73 = .ok (.aload_n 0, 1) := by decide +kernel
theorem dX6_evening_74 : decode cX6_evening 74 = .ok (.getfield 19, 3) := by decide +kernel
theorem dX6_evening_77 : decode cX6_evening 77 = .ok (.invokevirtual 90, 3) := by decide +kernel
theorem dX6_evening_80 : decode cX6_evening 80 = .ok (.if_icmp .ge 15, 3) := by decide +kernel
theorem dX6_evening_83 : decode cX6_evening 83 = .ok (.aload_n 0, 1) := by decide +kernel
theorem dX6_evening_84 : decode cX6_evening 84 = .ok (.iload_n 1, 1) := by decide +kernel
theorem dX6_evening_85 : decode cX6_evening 85 = .ok (.iload_n 3, 1) := by decide +kernel
theorem dX6_evening_86 : decode cX6_evening 86 = .ok (.invokevirtual 220, 3) := by decide +kernel
theorem dX6_evening_89 : decode cX6_evening 89 = .ok (.iinc 3 1, 3) := by decide +kernel
theorem dX6_evening_92 : decode cX6_evening 92 = .ok (.goto (-20), 3) := by decide +kernel
theorem dX6_evening_95 : decode cX6_evening 95 = .ok (.aload_n 0, 1) := by decide +kernel
theorem dX6_evening_96 : decode cX6_evening 96 = .ok (.getfield 39, 3) := by decide +kernel
theorem dX6_evening_99 : decode cX6_evening 99 = .ok (.aload_n 0, 1) := by decide +kernel
theorem dX6_evening_100 : decode cX6_evening 100 = .ok (.getfield 19, 3) := by decide +kernel
theorem dX6_evening_103 : decode cX6_evening 103 = .ok (.iload_n 2, 1) := by decide +kernel
theorem dX6_evening_104 : decode cX6_evening 104 = .ok (.aload_n 0, 1) := by decide +kernel
theorem dX6_evening_105 : decode cX6_evening 105 = .ok (.getfield 29, 3) := by decide +kernel
theorem dX6_evening_108 : decode cX6_evening 108 = .ok (.iconst 0, 1) := by decide +kernel
theorem dX6_evening_109 : decode cX6_evening 109 = .ok (.invokevirtual 223, 3) := by decide +kernel
theorem dX6_evening_112 : decode cX6_evening 112 = .ok (.invokestatic 173, 3) := by decide +kernel
theorem dX6_evening_115 : decode cX6_evening 115 = .ok (.ireturn, 1) := by decide +kernel
set_option maxRecDepth 20000 in
theorem ggX6_keep_X2_size : GoodIn wsX6_keep wsX2_size := goodIn_r _ [7, 8, 62, 63] (by decide +kernel) (by decide +kernel)
set_option maxRecDepth 20000 in
theorem gX6_keep_X2_size : GoodIn wsX6_keep (wsV RX6 170 RX2 yX2_size wsX2_size) := goodIn_app (goodIn_of _ (by decide +kernel)) ggX6_keep_X2_size
set_option maxRecDepth 20000 in
theorem ggX6_keep_X2_put : GoodIn wsX6_keep wsX2_put := goodIn_r _ [12, 8, 13, 14, 15, 16, 6, 17, 18, 19, 20, 21, 22, 23, 24, 25, 26, 27, 28, 29, 30, 31, 32, 33, 34, 35, 36, 37, 38, 39, 40, 41, 42, 43, 44, 45, 46, 47, 48, 49, 50, 51, 62, 63, 64, 65, 66, 67, 68, 69, 70, 71] (by decide +kernel) (by decide +kernel)
set_option maxRecDepth 20000 in
theorem gX6_keep_X2_put : GoodIn wsX6_keep (wsV RX6 154 RX2 yX2_put wsX2_put) := goodIn_app (goodIn_of _ (by decide +kernel)) ggX6_keep_X2_put
theorem dX6_keep_0 : decode cX6_keep 0 = .ok (.aload_n 0, 1) := by decide +kernel
theorem dX6_keep_1 : decode cX6_keep 1 = .ok (.getfield 52, 3) := by decide +kernel
theorem dX6_keep_4 : decode cX6_keep 4 = .ok (.invokevirtual 170, 3) := by decide +kernel
theorem dX6_keep_7 : decode cX6_keep 7 = .ok (.iconst 2, 1) := by decide +kernel
theorem dX6_keep_8 : decode cX6_keep 8 = .ok (.if_icmp .lt 6, 3) := by decide +kernel
theorem dX6_keep_11 : decode cX6_keep 11 = .ok (.bipush (-3), 2) := by decide +kernel
theorem dX6_keep_13 : decode cX6_keep 13 = .ok (.ireturn, 1) := by decide +kernel
theorem dX6_keep_14 : decode cX6_keep 14 = .ok (.aload_n 0, 1) := by decide +kernel
theorem dX6_keep_15 : decode cX6_keep 15 = .ok (.getfield 52, 3) := by decide +kernel
theorem dX6_keep_18 : decode cX6_keep 18 = .ok (.aload_n 0, 1) := by decide +kernel
theorem dX6_keep_19 : decode cX6_keep 19 = .ok (.getfield 19, 3) := by decide +kernel
theorem dX6_keep_22 : decode cX6_keep 22 = .ok (.invokevirtual 154, 3) := by decide +kernel
theorem dX6_keep_25 : decode cX6_keep 25 = .ok (.aload_n 0, 1) := by decide +kernel
theorem dX6_keep_26 : decode cX6_keep 26 = .ok (.getfield 52, 3) := by decide +kernel
theorem dX6_keep_29 : decode cX6_keep 29 = .ok (.invokevirtual 170, 3) := by decide +kernel
theorem dX6_keep_32 : decode cX6_keep 32 = .ok (.ireturn, 1) := by decide +kernel
set_option maxRecDepth 20000 in
theorem ggX6_back_X2_take : GoodIn wsX6_back wsX2_take := goodIn_r _ [8, 9, 10, 11, 12, 7, 13, 14, 15, 16, 17, 18, 19, 20, 21, 22, 23, 24, 25, 26, 27, 28, 29, 30, 31, 32, 33, 34, 35, 36, 37, 38, 39, 40, 41, 42, 43, 44, 63, 64, 65, 66, 67, 68, 69, 70, 71, 72] (by decide +kernel) (by decide +kernel)
set_option maxRecDepth 20000 in
theorem gX6_back_X2_take : GoodIn wsX6_back (wsV RX6 166 RX2 yX2_take wsX2_take) := goodIn_app (goodIn_of _ (by decide +kernel)) ggX6_back_X2_take
set_option maxRecDepth 20000 in
theorem ggX6_back_X2_drop : GoodIn wsX6_back wsX2_drop := goodIn_r _ [48, 9, 63, 64] (by decide +kernel) (by decide +kernel)
set_option maxRecDepth 20000 in
theorem gX6_back_X2_drop : GoodIn wsX6_back (wsV RX6 98 RX2 yX2_drop wsX2_drop) := goodIn_app (goodIn_of _ (by decide +kernel)) ggX6_back_X2_drop
set_option maxRecDepth 20000 in
theorem ggX6_back_X2_size : GoodIn wsX6_back wsX2_size := goodIn_r _ [52, 9, 63, 64] (by decide +kernel) (by decide +kernel)
set_option maxRecDepth 20000 in
theorem gX6_back_X2_size : GoodIn wsX6_back (wsV RX6 170 RX2 yX2_size wsX2_size) := goodIn_app (goodIn_of _ (by decide +kernel)) ggX6_back_X2_size
theorem dX6_back_0 : decode cX6_back 0 = .ok (.aload_n 0, 1) := by decide +kernel
theorem dX6_back_1 : decode cX6_back 1 = .ok (.getfield 52, 3) := by decide +kernel
theorem dX6_back_4 : decode cX6_back 4 = .ok (.aload_n 0, 1) := by decide +kernel
theorem dX6_back_5 : decode cX6_back 5 = .ok (.getfield 19, 3) := by decide +kernel
theorem dX6_back_8 : decode cX6_back 8 = .ok (.invokevirtual 166, 3) := by decide +kernel
theorem dX6_back_11 : decode cX6_back 11 = .ok (.ifCond .ne 6, 3) := by decide +kernel
theorem dX6_back_14 : decode cX6_back 14 = .ok (.bipush (-2), 2) := by decide +kernel
theorem dX6_back_16 : decode cX6_back 16 = .ok (.ireturn, 1) := by decide +kernel
theorem dX6_back_17 : decode cX6_back 17 = .ok (.aload_n 0, 1) := by decide +kernel
theorem dX6_back_18 : decode cX6_back 18 = .ok (.getfield 48, 3) := by decide +kernel
theorem dX6_back_21 : decode cX6_back 21 = .ok (.invokevirtual 98, 3) := by decide +kernel
theorem dX6_back_24 : decode cX6_back 24 = .ok (.aload_n 0, 1) := by decide +kernel
theorem dX6_back_25 : decode cX6_back 25 = .ok (.getfield 52, 3) := by decide +kernel
theorem dX6_back_28 : decode cX6_back 28 = .ok (.invokevirtual 170, 3) := by decide +kernel
theorem dX6_back_31 : decode cX6_back 31 = .ok (.ireturn, 1) := by decide +kernel
set_option maxRecDepth 20000 in
theorem ggX6_count_X0_cliffCount : GoodIn wsX6_count wsX0_cliffCount := goodIn_r _ [11, 12, 13, 14, 15, 16, 17, 18, 48, 49, 50, 51, 52, 53, 54, 55] (by decide +kernel) (by decide +kernel)
set_option maxRecDepth 20000 in
theorem gX6_count_X0_cliffCount : GoodIn wsX6_count (wsV RX6 99 RX0 yX0_cliffCount wsX0_cliffCount) := goodIn_app (goodIn_of _ (by decide +kernel)) ggX6_count_X0_cliffCount
set_option maxRecDepth 20000 in
theorem ggX6_count_X0_wordCount : GoodIn wsX6_count wsX0_wordCount := goodIn_r _ [22, 23, 13, 14, 15, 16, 17, 18, 48, 49, 50, 51, 52, 53, 54, 55] (by decide +kernel) (by decide +kernel)
set_option maxRecDepth 20000 in
theorem gX6_count_X0_wordCount : GoodIn wsX6_count (wsV RX6 90 RX0 yX0_wordCount wsX0_wordCount) := goodIn_app (goodIn_of _ (by decide +kernel)) ggX6_count_X0_wordCount
set_option maxRecDepth 20000 in
theorem ggX6_count_X1_size : GoodIn wsX6_count wsX1_size := goodIn_r _ [17, 18, 54, 55] (by decide +kernel) (by decide +kernel)
set_option maxRecDepth 20000 in
theorem gX6_count_X1_size : GoodIn wsX6_count (wsV RX6 181 RX1 yX1_size wsX1_size) := goodIn_app (goodIn_of _ (by decide +kernel)) ggX6_count_X1_size
set_option maxRecDepth 20000 in
theorem ggX6_count_X2_size : GoodIn wsX6_count wsX2_size := goodIn_r _ [29, 30, 56, 57] (by decide +kernel) (by decide +kernel)
set_option maxRecDepth 20000 in
theorem gX6_count_X2_size : GoodIn wsX6_count (wsV RX6 170 RX2 yX2_size wsX2_size) := goodIn_app (goodIn_of _ (by decide +kernel)) ggX6_count_X2_size
set_option maxRecDepth 20000 in
theorem ggX6_count_X4_length : GoodIn wsX6_count wsX4_length := goodIn_r _ [35, 36, 37, 14, 15, 16, 17, 18, 58, 59, 54, 55] (by decide +kernel) (by decide +kernel)
set_option maxRecDepth 20000 in
theorem gX6_count_X4_length : GoodIn wsX6_count (wsV RX6 79 RX4 yX4_length wsX4_length) := goodIn_app (goodIn_of _ (by decide +kernel)) ggX6_count_X4_length
theorem dX6_count_0 : decode cX6_count 0 = .ok (.iload_n 1, 1) := by decide +kernel
theorem dX6_count_1 : decode cX6_count 1 = .ok (.tableswitch 137 0 9 #[55, 63, 71, 79, 87, 95, 103, 113, 121, 129], 55) := by decide +kernel
theorem dX6_count_56 : decode cX6_count 56 = .ok (.aload_n 0, 1) := by decide +kernel
theorem dX6_count_57 : decode cX6_count 57 = .ok (.getfield 19, 3) := by decide +kernel
theorem dX6_count_60 : decode cX6_count 60 = .ok (.invokevirtual 99, 3) := by decide +kernel
theorem dX6_count_63 : decode cX6_count 63 = .ok (.ireturn, 1) := by decide +kernel
theorem dX6_count_64 : decode cX6_count 64 = .ok (.aload_n 0, 1) := by decide +kernel
theorem dX6_count_65 : decode cX6_count 65 = .ok (.getfield 19, 3) := by decide +kernel
theorem dX6_count_68 : decode cX6_count 68 = .ok (.invokevirtual 90, 3) := by decide +kernel
theorem dX6_count_71 : decode cX6_count 71 = .ok (.ireturn, 1) := by decide +kernel
theorem dX6_count_72 : decode cX6_count 72 = .ok (.aload_n 0, 1) := by decide +kernel
theorem dX6_count_73 : decode cX6_count 73 = .ok (.getfield 19, 3) := by decide +kernel
theorem dX6_count_76 : decode cX6_count 76 = .ok (.getfield 151, 3) := by decide +kernel
theorem dX6_count_79 : decode cX6_count 79 = .ok (.ireturn, 1) := by decide +kernel
theorem dX6_count_80 : decode cX6_count 80 = .ok (.aload_n 0, 1) := by decide +kernel
theorem dX6_count_81 : decode cX6_count 81 = .ok (.getfield 19, 3) := by decide +kernel
theorem dX6_count_84 : decode cX6_count 84 = .ok (.getfield 110, 3) := by decide +kernel
theorem dX6_count_87 : decode cX6_count 87 = .ok (.ireturn, 1) := by decide +kernel
theorem dX6_count_88 : decode cX6_count 88 = .ok (.aload_n 0, 1) := by decide +kernel
theorem dX6_count_89 : decode cX6_count 89 = .ok (.getfield 19, 3) := by decide +kernel
theorem dX6_count_92 : decode cX6_count 92 = .ok (.getfield 197, 3) := by decide +kernel
theorem dX6_count_95 : decode cX6_count 95 = .ok (.ireturn, 1) := by decide +kernel
theorem dX6_count_96 : decode cX6_count 96 = .ok (.aload_n 0, 1) := by decide +kernel
theorem dX6_count_97 : decode cX6_count 97 = .ok (.getfield 58, 3) := by decide +kernel
theorem dX6_count_100 : decode cX6_count 100 = .ok (.invokevirtual 181, 3) := by decide +kernel
theorem dX6_count_103 : decode cX6_count 103 = .ok (.ireturn, 1) := by decide +kernel
theorem dX6_count_104 : decode cX6_count 104 = .ok (.aload_n 0, 1) := by decide +kernel
theorem dX6_count_105 : decode cX6_count 105 = .ok (.getfield 62, 3) := by decide +kernel
theorem dX6_count_108 : decode cX6_count 108 = .ok (.invokevirtual 181, 3) := by decide +kernel
theorem dX6_count_111 : decode cX6_count 111 = .ok (.iconst 3, 1) := by decide +kernel
theorem dX6_count_112 : decode cX6_count 112 = .ok (.idiv, 1) := by decide +kernel
theorem dX6_count_113 : decode cX6_count 113 = .ok (.ireturn, 1) := by decide +kernel
theorem dX6_count_114 : decode cX6_count 114 = .ok (.aload_n 0, 1) := by decide +kernel
theorem dX6_count_115 : decode cX6_count 115 = .ok (.getfield 48, 3) := by decide +kernel
theorem dX6_count_118 : decode cX6_count 118 = .ok (.invokevirtual 170, 3) := by decide +kernel
theorem dX6_count_121 : decode cX6_count 121 = .ok (.ireturn, 1) := by decide +kernel
theorem dX6_count_122 : decode cX6_count 122 = .ok (.aload_n 0, 1) := by decide +kernel
theorem dX6_count_123 : decode cX6_count 123 = .ok (.getfield 52, 3) := by decide +kernel
theorem dX6_count_126 : decode cX6_count 126 = .ok (.invokevirtual 170, 3) := by decide +kernel
theorem dX6_count_129 : decode cX6_count 129 = .ok (.ireturn, 1) := by decide +kernel
theorem dX6_count_130 : decode cX6_count 130 = .ok (.aload_n 0, 1) := by decide +kernel
theorem dX6_count_131 : decode cX6_count 131 = .ok (.getfield 12, 3) := by decide +kernel
theorem dX6_count_134 : decode cX6_count 134 = .ok (.invokevirtual 79, 3) := by decide +kernel
theorem dX6_count_137 : decode cX6_count 137 = .ok (.ireturn, 1) := by decide +kernel
theorem dX6_count_138 : decode cX6_count 138 = .ok (.iconst (-1), 1) := by decide +kernel
theorem dX6_count_139 : decode cX6_count 139 = .ok (.ireturn, 1) := by decide +kernel
theorem dX6_within_0 : decode cX6_within 0 = .ok (.iload_n 0, 1) := by decide +kernel
theorem dX6_within_1 : decode cX6_within 1 = .ok (.iload_n 1, 1) := by decide +kernel
theorem dX6_within_2 : decode cX6_within 2 = .ok (.if_icmp .lt 12, 3) := by decide +kernel
theorem dX6_within_5 : decode cX6_within 5 = .ok (.iload_n 0, 1) := by decide +kernel
theorem dX6_within_6 : decode cX6_within 6 = .ok (.iload_n 2, 1) := by decide +kernel
theorem dX6_within_7 : decode cX6_within 7 = .ok (.if_icmp .gt 7, 3) := by decide +kernel
theorem dX6_within_10 : decode cX6_within 10 = .ok (.iconst 1, 1) := by decide +kernel
theorem dX6_within_11 : decode cX6_within 11 = .ok (.goto 4, 3) := by decide +kernel
theorem dX6_within_14 : decode cX6_within 14 = .ok (.iconst 0, 1) := by decide +kernel
theorem dX6_within_15 : decode cX6_within 15 = .ok (.ireturn, 1) := by decide +kernel
set_option maxRecDepth 20000 in
theorem ggX6_isYard_X6_within : GoodIn wsX6_isYard wsX6_within := goodIn_r _ [4] (by decide +kernel) (by decide +kernel)
set_option maxRecDepth 20000 in
theorem gX6_isYard_X6_within : GoodIn wsX6_isYard (va_wsS RX6 72 yX6_within wsX6_within) := goodIn_app (goodIn_of _ (by decide +kernel)) ggX6_isYard_X6_within
theorem dX6_isYard_0 : decode cX6_isYard 0 = .ok (.iload_n 0, 1) := by decide +kernel
theorem dX6_isYard_1 : decode cX6_isYard 1 = .ok (.iconst 0, 1) := by decide +kernel
theorem dX6_isYard_2 : decode cX6_isYard 2 = .ok (.bipush 40, 2) := by decide +kernel
theorem dX6_isYard_4 : decode cX6_isYard 4 = .ok (.invokestatic 72, 3) := by decide +kernel
theorem dX6_isYard_7 : decode cX6_isYard 7 = .ok (.ireturn, 1) := by decide +kernel
set_option maxRecDepth 20000 in
theorem ggX6_isBeat_X6_within : GoodIn wsX6_isBeat wsX6_within := goodIn_r _ [4] (by decide +kernel) (by decide +kernel)
set_option maxRecDepth 20000 in
theorem gX6_isBeat_X6_within : GoodIn wsX6_isBeat (va_wsS RX6 72 yX6_within wsX6_within) := goodIn_app (goodIn_of _ (by decide +kernel)) ggX6_isBeat_X6_within
theorem dX6_isBeat_0 : decode cX6_isBeat 0 = .ok (.iload_n 0, 1) := by decide +kernel
theorem dX6_isBeat_1 : decode cX6_isBeat 1 = .ok (.iconst 0, 1) := by decide +kernel
theorem dX6_isBeat_2 : decode cX6_isBeat 2 = .ok (.sipush 149, 3) := by decide +kernel
theorem dX6_isBeat_5 : decode cX6_isBeat 5 = .ok (.invokestatic 72, 3) := by decide +kernel
theorem dX6_isBeat_8 : decode cX6_isBeat 8 = .ok (.ireturn, 1) := by decide +kernel
set_option maxRecDepth 20000 in
theorem ggX6_isCliff_X6_isYard : GoodIn wsX6_isCliff wsX6_isYard := goodIn_r _ [4, 5, 6, 3, 7] (by decide +kernel) (by decide +kernel)
set_option maxRecDepth 20000 in
theorem gX6_isCliff_X6_isYard : GoodIn wsX6_isCliff (va_wsS RX6 124 yX6_isYard wsX6_isYard) := goodIn_app (goodIn_of _ (by decide +kernel)) ggX6_isCliff_X6_isYard
set_option maxRecDepth 20000 in
theorem ggX6_isCliff_X6_within : GoodIn wsX6_isCliff wsX6_within := goodIn_r _ [7] (by decide +kernel) (by decide +kernel)
set_option maxRecDepth 20000 in
theorem gX6_isCliff_X6_within : GoodIn wsX6_isCliff (va_wsS RX6 72 yX6_within wsX6_within) := goodIn_app (goodIn_of _ (by decide +kernel)) ggX6_isCliff_X6_within
theorem dX6_isCliff_0 : decode cX6_isCliff 0 = .ok (.iload_n 0, 1) := by decide +kernel
theorem dX6_isCliff_1 : decode cX6_isCliff 1 = .ok (.invokestatic 124, 3) := by decide +kernel
theorem dX6_isCliff_4 : decode cX6_isCliff 4 = .ok (.ifCond .eq 26, 3) := by decide +kernel
theorem dX6_isCliff_7 : decode cX6_isCliff 7 = .ok (.iload_n 1, 1) := by decide +kernel
theorem dX6_isCliff_8 : decode cX6_isCliff 8 = .ok (.iconst 0, 1) := by decide +kernel
theorem dX6_isCliff_9 : decode cX6_isCliff 9 = .ok (.bipush 9, 2) := by decide +kernel
theorem dX6_isCliff_11 : decode cX6_isCliff 11 = .ok (.invokestatic 72, 3) := by decide +kernel
theorem dX6_isCliff_14 : decode cX6_isCliff 14 = .ok (.ifCond .eq 16, 3) := by decide +kernel
theorem dX6_isCliff_17 : decode cX6_isCliff 17 = .ok (.iload_n 2, 1) := by decide +kernel
theorem dX6_isCliff_18 : decode cX6_isCliff 18 = .ok (.iconst 0, 1) := by decide +kernel
theorem dX6_isCliff_19 : decode cX6_isCliff 19 = .ok (.iconst 3, 1) := by decide +kernel
theorem dX6_isCliff_20 : decode cX6_isCliff 20 = .ok (.invokestatic 72, 3) := by decide +kernel
theorem dX6_isCliff_23 : decode cX6_isCliff 23 = .ok (.ifCond .eq 7, 3) := by decide +kernel
theorem dX6_isCliff_26 : decode cX6_isCliff 26 = .ok (.iconst 1, 1) := by decide +kernel
theorem dX6_isCliff_27 : decode cX6_isCliff 27 = .ok (.goto 4, 3) := by decide +kernel
theorem dX6_isCliff_30 : decode cX6_isCliff 30 = .ok (.iconst 0, 1) := by decide +kernel
theorem dX6_isCliff_31 : decode cX6_isCliff 31 = .ok (.ireturn, 1) := by decide +kernel
set_option maxRecDepth 20000 in
theorem ggX6_isWord_X6_within : GoodIn wsX6_isWord wsX6_within := goodIn_r _ [4] (by decide +kernel) (by decide +kernel)
set_option maxRecDepth 20000 in
theorem gX6_isWord_X6_within : GoodIn wsX6_isWord (va_wsS RX6 72 yX6_within wsX6_within) := goodIn_app (goodIn_of _ (by decide +kernel)) ggX6_isWord_X6_within
theorem dX6_isWord_0 : decode cX6_isWord 0 = .ok (.iload_n 0, 1) := by decide +kernel
theorem dX6_isWord_1 : decode cX6_isWord 1 = .ok (.iconst 0, 1) := by decide +kernel
theorem dX6_isWord_2 : decode cX6_isWord 2 = .ok (.bipush 30, 2) := by decide +kernel
theorem dX6_isWord_4 : decode cX6_isWord 4 = .ok (.invokestatic 72, 3) := by decide +kernel
theorem dX6_isWord_7 : decode cX6_isWord 7 = .ok (.ifCond .eq 27, 3) := by decide +kernel
theorem dX6_isWord_10 : decode cX6_isWord 10 = .ok (.iload_n 1, 1) := by decide +kernel
theorem dX6_isWord_11 : decode cX6_isWord 11 = .ok (.iconst 1, 1) := by decide +kernel
theorem dX6_isWord_12 : decode cX6_isWord 12 = .ok (.bipush 7, 2) := by decide +kernel
theorem dX6_isWord_14 : decode cX6_isWord 14 = .ok (.invokestatic 72, 3) := by decide +kernel
theorem dX6_isWord_17 : decode cX6_isWord 17 = .ok (.ifCond .eq 17, 3) := by decide +kernel
theorem dX6_isWord_20 : decode cX6_isWord 20 = .ok (.iload_n 2, 1) := by decide +kernel
theorem dX6_isWord_21 : decode cX6_isWord 21 = .ok (.iconst 1, 1) := by decide +kernel
theorem dX6_isWord_22 : decode cX6_isWord 22 = .ok (.bipush 60, 2) := by decide +kernel
theorem dX6_isWord_24 : decode cX6_isWord 24 = .ok (.invokestatic 72, 3) := by decide +kernel
theorem dX6_isWord_27 : decode cX6_isWord 27 = .ok (.ifCond .eq 7, 3) := by decide +kernel
theorem dX6_isWord_30 : decode cX6_isWord 30 = .ok (.iconst 1, 1) := by decide +kernel
theorem dX6_isWord_31 : decode cX6_isWord 31 = .ok (.goto 4, 3) := by decide +kernel
theorem dX6_isWord_34 : decode cX6_isWord 34 = .ok (.iconst 0, 1) := by decide +kernel
theorem dX6_isWord_35 : decode cX6_isWord 35 = .ok (.ireturn, 1) := by decide +kernel
set_option maxRecDepth 20000 in
theorem ggX6_listen_X5_trace : GoodIn wsX6_listen wsX5_trace := goodIn_r _ [7, 8, 9, 10, 11, 12, 13, 14, 15, 16, 17, 18, 19, 20, 21, 22, 6, 23, 24, 25, 26, 27, 28, 29, 30, 31, 32, 33, 34, 35, 36, 37, 38, 39, 40, 41, 42, 43, 44, 45, 46, 47, 48, 49, 50, 51, 52, 53, 54, 55, 127, 128, 121, 122, 123, 124, 125, 126, 129, 130] (by decide +kernel) (by decide +kernel)
set_option maxRecDepth 20000 in
theorem gX6_listen_X5_trace : GoodIn wsX6_listen (wsV RX6 191 RX5 yX5_trace wsX5_trace) := goodIn_app (goodIn_of _ (by decide +kernel)) ggX6_listen_X5_trace
set_option maxRecDepth 20000 in
theorem ggX6_listen_X3_hush : GoodIn wsX6_listen wsX3_hush := goodIn_r _ [60, 61, 62, 63, 64, 65, 17, 66, 28, 19, 67, 68, 69, 70, 131, 132, 129, 130] (by decide +kernel) (by decide +kernel)
set_option maxRecDepth 20000 in
theorem gX6_listen_X3_hush : GoodIn wsX6_listen (wsV RX6 213 RX3 yX3_hush wsX3_hush) := goodIn_app (goodIn_of _ (by decide +kernel)) ggX6_listen_X3_hush
set_option maxRecDepth 20000 in
theorem ggX6_listen_X3_play : GoodIn wsX6_listen wsX3_play := goodIn_r _ [74, 75, 76, 77, 32, 78, 79, 35, 36, 37, 17, 38, 19, 80, 81, 82, 83, 52, 53, 54, 55, 28, 84, 85, 86, 59, 87, 88, 89, 90, 6, 91, 8, 92, 93, 94, 95, 96, 97, 98, 99, 100, 101, 9, 102, 103, 104, 105, 62, 61, 106, 107, 108, 109, 110, 121, 122, 123, 124, 125, 126, 129, 130, 127, 128, 131, 132] (by decide +kernel) (by decide +kernel)
set_option maxRecDepth 20000 in
theorem gX6_listen_X3_play : GoodIn wsX6_listen (wsV RX6 216 RX3 yX3_play wsX3_play) := goodIn_app (goodIn_of _ (by decide +kernel)) ggX6_listen_X3_play
theorem dX6_listen_0 : decode cX6_listen 0 = .ok (.aload_n 0, 1) := by decide +kernel
theorem dX6_listen_1 : decode cX6_listen 1 = .ok (.getfield 29, 3) := by decide +kernel
theorem dX6_listen_4 : decode cX6_listen 4 = .ok (.aload_n 1, 1) := by decide +kernel
theorem dX6_listen_5 : decode cX6_listen 5 = .ok (.aload_n 1, 1) := by decide +kernel
theorem dX6_listen_6 : decode cX6_listen 6 = .ok (.getfield 151, 3) := by decide +kernel
theorem dX6_listen_9 : decode cX6_listen 9 = .ok (.iload_n 2, 1) := by decide +kernel
theorem dX6_listen_10 : decode cX6_listen 10 = .ok (.invokevirtual 191, 3) := by decide +kernel
theorem dX6_listen_13 : decode cX6_listen 13 = .ok (.aload_n 0, 1) := by decide +kernel
theorem dX6_listen_14 : decode cX6_listen 14 = .ok (.getfield 39, 3) := by decide +kernel
theorem dX6_listen_17 : decode cX6_listen 17 = .ok (.invokevirtual 213, 3) := by decide +kernel
theorem dX6_listen_20 : decode cX6_listen 20 = .ok (.aload_n 0, 1) := by decide +kernel
theorem dX6_listen_21 : decode cX6_listen 21 = .ok (.getfield 39, 3) := by decide +kernel
theorem dX6_listen_24 : decode cX6_listen 24 = .ok (.aload_n 1, 1) := by decide +kernel
theorem dX6_listen_25 : decode cX6_listen 25 = .ok (.iload_n 3, 1) := by decide +kernel
theorem dX6_listen_26 : decode cX6_listen 26 = .ok (.aload_n 0, 1) := by decide +kernel
theorem dX6_listen_27 : decode cX6_listen 27 = .ok (.getfield 29, 3) := by decide +kernel
theorem dX6_listen_30 : decode cX6_listen 30 = .ok (.iconst 0, 1) := by decide +kernel
theorem dX6_listen_31 : decode cX6_listen 31 = .ok (.invokevirtual 216, 3) := by decide +kernel
theorem dX6_listen_34 : decode cX6_listen 34 = .ok (.return_, 1) := by decide +kernel
set_option maxRecDepth 20000 in
theorem ggX6_clearSet_X6_listen : GoodIn wsX6_clearSet wsX6_listen := goodIn_r _ [7, 2, 1, 8, 9, 10, 11, 12, 13, 14, 15, 16, 17, 18, 19, 20, 21, 22, 23, 24, 25, 26, 27, 28, 29, 30, 31, 32, 33, 34, 35, 36, 37, 38, 39, 40, 41, 42, 43, 44, 45, 46, 47, 48, 49, 50, 51, 52, 53, 54, 55, 56, 57, 58, 59, 60, 61, 62, 63, 64, 65, 66, 67, 68, 69, 70, 71, 72, 73, 74, 75, 76, 77, 78, 79, 80, 81, 82, 83, 84, 85, 86, 87, 88, 89, 90, 91, 92, 93, 94, 95, 96, 97, 98, 99, 100, 101, 102, 103, 104, 105, 106, 107, 108, 109, 110, 111, 112, 113, 114, 115, 124, 125, 126, 127, 128, 129, 130, 131, 132, 133, 134, 135, 136, 137, 138, 139, 140, 141, 142, 143, 144, 145] (by decide +kernel) (by decide +kernel)
set_option maxRecDepth 20000 in
theorem gX6_clearSet_X6_listen : GoodIn wsX6_clearSet (wsV RX6 130 RX6 yX6_listen wsX6_listen) := goodIn_app (goodIn_of _ (by decide +kernel)) ggX6_clearSet_X6_listen
set_option maxRecDepth 20000 in
theorem ggX6_clearSet_X3_clearOf : GoodIn wsX6_clearSet wsX3_clearOf := goodIn_r _ [119, 80, 81, 82, 37, 83, 84, 40, 41, 42, 22, 43, 24, 120, 121, 122, 64, 123, 66, 85, 86, 87, 88, 57, 58, 59, 60, 33, 98, 99, 100, 11, 101, 13, 102, 103, 104, 105, 106, 14, 111, 134, 135, 136, 137, 138, 139, 142, 143, 144, 145, 140, 141] (by decide +kernel) (by decide +kernel)
set_option maxRecDepth 20000 in
theorem gX6_clearSet_X3_clearOf : GoodIn wsX6_clearSet (wsV RX6 223 RX3 yX3_clearOf wsX3_clearOf) := goodIn_app (goodIn_of _ (by decide +kernel)) ggX6_clearSet_X3_clearOf
theorem dX6_clearSet_0 : decode cX6_clearSet 0 = .ok (.aload_n 0, 1) := by decide +kernel
theorem dX6_clearSet_1 : decode cX6_clearSet 1 = .ok (.aload_n 1, 1) := by decide +kernel
theorem dX6_clearSet_2 : decode cX6_clearSet 2 = .ok (.iload_n 2, 1) := by decide +kernel
theorem dX6_clearSet_3 : decode cX6_clearSet 3 = .ok (.iload_n 3, 1) := by decide +kernel
theorem dX6_clearSet_4 : decode cX6_clearSet 4 = .ok (.invokevirtual 130, 3) := by decide +kernel
theorem dX6_clearSet_7 : decode cX6_clearSet 7 = .ok (.aload_n 0, 1) := by decide +kernel
theorem dX6_clearSet_8 : decode cX6_clearSet 8 = .ok (.getfield 39, 3) := by decide +kernel
theorem dX6_clearSet_11 : decode cX6_clearSet 11 = .ok (.aload_n 1, 1) := by decide +kernel
theorem dX6_clearSet_12 : decode cX6_clearSet 12 = .ok (.iload_n 3, 1) := by decide +kernel
theorem dX6_clearSet_13 : decode cX6_clearSet 13 = .ok (.aload_n 0, 1) := by decide +kernel
theorem dX6_clearSet_14 : decode cX6_clearSet 14 = .ok (.getfield 29, 3) := by decide +kernel
theorem dX6_clearSet_17 : decode cX6_clearSet 17 = .ok (.iconst 0, 1) := by decide +kernel
theorem dX6_clearSet_18 : decode cX6_clearSet 18 = .ok (.invokevirtual 223, 3) := by decide +kernel
theorem dX6_clearSet_21 : decode cX6_clearSet 21 = .ok (.ireturn, 1) := by decide +kernel
set_option maxRecDepth 20000 in
theorem ggX6_clearCount_X0_allWords : GoodIn wsX6_clearCount wsX0_allWords := goodIn_r _ [7, 8, 9, 10, 6, 11, 12, 13, 14, 15, 16, 17, 18, 146, 147, 148, 149, 150, 151, 152, 153] (by decide +kernel) (by decide +kernel)
set_option maxRecDepth 20000 in
theorem gX6_clearCount_X0_allWords : GoodIn wsX6_clearCount (wsV RX6 114 RX0 yX0_allWords wsX0_allWords) := goodIn_app (goodIn_of _ (by decide +kernel)) ggX6_clearCount_X0_allWords
set_option maxRecDepth 20000 in
theorem ggX6_clearCount_X6_listen : GoodIn wsX6_clearCount wsX6_listen := goodIn_r _ [23, 2, 1, 24, 25, 26, 27, 28, 29, 30, 31, 32, 33, 34, 35, 36, 37, 16, 38, 18, 39, 40, 41, 42, 43, 44, 45, 46, 47, 48, 49, 50, 6, 51, 52, 13, 14, 15, 17, 53, 54, 55, 56, 57, 58, 59, 60, 61, 62, 63, 64, 65, 66, 67, 68, 69, 70, 71, 72, 73, 74, 75, 76, 77, 78, 79, 80, 81, 82, 83, 84, 85, 86, 87, 88, 89, 9, 10, 11, 12, 90, 91, 92, 93, 94, 95, 96, 97, 98, 99, 100, 101, 102, 103, 104, 105, 106, 107, 108, 109, 110, 111, 112, 113, 114, 115, 116, 117, 118, 119, 120, 136, 137, 138, 139, 140, 141, 142, 143, 144, 145, 146, 147, 148, 149, 150, 151, 154, 155, 152, 153, 156, 157] (by decide +kernel) (by decide +kernel)
set_option maxRecDepth 20000 in
theorem gX6_clearCount_X6_listen : GoodIn wsX6_clearCount (wsV RX6 130 RX6 yX6_listen wsX6_listen) := goodIn_app (goodIn_of _ (by decide +kernel)) ggX6_clearCount_X6_listen
set_option maxRecDepth 20000 in
theorem ggX6_clearCount_X3_clearOf : GoodIn wsX6_clearCount wsX3_clearOf := goodIn_r _ [124, 89, 9, 10, 6, 11, 12, 13, 14, 15, 16, 17, 18, 125, 126, 127, 73, 128, 75, 90, 91, 92, 93, 66, 67, 68, 69, 47, 103, 104, 105, 27, 106, 29, 107, 108, 109, 110, 111, 30, 116, 146, 147, 148, 149, 150, 151, 152, 153, 156, 157, 154, 155] (by decide +kernel) (by decide +kernel)
set_option maxRecDepth 20000 in
theorem gX6_clearCount_X3_clearOf : GoodIn wsX6_clearCount (wsV RX6 223 RX3 yX3_clearOf wsX3_clearOf) := goodIn_app (goodIn_of _ (by decide +kernel)) ggX6_clearCount_X3_clearOf
set_option maxRecDepth 20000 in
theorem ggX6_clearCount_J6_bitCount_0f7a4 : GoodIn wsX6_clearCount wsJ6_bitCount_0f7a4 := goodIn_r _ [132, 133, 134, 135] (by decide +kernel) (by decide +kernel)
set_option maxRecDepth 20000 in
theorem gX6_clearCount_J6_bitCount_0f7a4 : GoodIn wsX6_clearCount (va_wsS RX6 173 yJ6_bitCount_0f7a4 wsJ6_bitCount_0f7a4) := goodIn_app (goodIn_of _ (by decide +kernel)) ggX6_clearCount_J6_bitCount_0f7a4
theorem dX6_clearCount_0 : decode cX6_clearCount 0 = .ok (.aload_n 0, 1) := by decide +kernel
theorem dX6_clearCount_1 : decode cX6_clearCount 1 = .ok (.aload_n 1, 1) := by decide +kernel
theorem dX6_clearCount_2 : decode cX6_clearCount 2 = .ok (.iload_n 2, 1) := by decide +kernel
theorem dX6_clearCount_3 : decode cX6_clearCount 3 = .ok (.aload_n 1, 1) := by decide +kernel
theorem dX6_clearCount_4 : decode cX6_clearCount 4 = .ok (.invokevirtual 114, 3) := by decide +kernel
theorem dX6_clearCount_7 : decode cX6_clearCount 7 = .ok (.invokevirtual 130, 3) := by decide +kernel
theorem dX6_clearCount_10 : decode cX6_clearCount 10 = .ok (.aload_n 0, 1) := by decide +kernel
theorem dX6_clearCount_11 : decode cX6_clearCount 11 = .ok (.getfield 39, 3) := by decide +kernel
theorem dX6_clearCount_14 : decode cX6_clearCount 14 = .ok (.aload_n 1, 1) := by decide +kernel
theorem dX6_clearCount_15 : decode cX6_clearCount 15 = .ok (.aload_n 1, 1) := by decide +kernel
theorem dX6_clearCount_16 : decode cX6_clearCount 16 = .ok (.invokevirtual 114, 3) := by decide +kernel
theorem dX6_clearCount_19 : decode cX6_clearCount 19 = .ok (.aload_n 0, 1) := by decide +kernel
theorem dX6_clearCount_20 : decode cX6_clearCount 20 = .ok (.getfield 29, 3) := by decide +kernel
theorem dX6_clearCount_23 : decode cX6_clearCount 23 = .ok (.iconst 0, 1) := by decide +kernel
theorem dX6_clearCount_24 : decode cX6_clearCount 24 = .ok (.invokevirtual 223, 3) := by decide +kernel
theorem dX6_clearCount_27 : decode cX6_clearCount 27 = .ok (.invokestatic 173, 3) := by decide +kernel
theorem dX6_clearCount_30 : decode cX6_clearCount 30 = .ok (.ireturn, 1) := by decide +kernel
set_option maxRecDepth 20000 in
theorem ggX6_rentOf_X0_allWords : GoodIn wsX6_rentOf wsX0_allWords := goodIn_r _ [7, 8, 9, 10, 6, 11, 12, 13, 14, 15, 16, 17, 18, 133, 134, 135, 136, 137, 138, 149, 150] (by decide +kernel) (by decide +kernel)
set_option maxRecDepth 20000 in
theorem gX6_rentOf_X0_allWords : GoodIn wsX6_rentOf (wsV RX6 114 RX0 yX0_allWords wsX0_allWords) := goodIn_app (goodIn_of _ (by decide +kernel)) ggX6_rentOf_X0_allWords
set_option maxRecDepth 20000 in
theorem ggX6_rentOf_X6_listen : GoodIn wsX6_rentOf wsX6_listen := goodIn_r _ [23, 2, 1, 24, 25, 26, 27, 28, 29, 30, 31, 32, 33, 34, 35, 36, 37, 16, 38, 18, 39, 40, 41, 42, 43, 44, 45, 46, 47, 48, 49, 50, 6, 51, 52, 13, 14, 15, 17, 53, 54, 55, 56, 57, 58, 59, 60, 61, 62, 63, 64, 65, 66, 67, 68, 69, 70, 71, 72, 73, 74, 75, 76, 77, 78, 79, 80, 81, 82, 83, 84, 85, 86, 87, 88, 89, 9, 10, 11, 12, 90, 91, 92, 93, 94, 95, 96, 97, 98, 99, 100, 101, 102, 103, 104, 105, 106, 107, 108, 109, 110, 111, 112, 113, 114, 115, 116, 117, 118, 119, 120, 139, 140, 141, 142, 143, 144, 145, 146, 147, 148, 133, 134, 135, 136, 137, 138, 151, 152, 149, 150, 153, 154] (by decide +kernel) (by decide +kernel)
set_option maxRecDepth 20000 in
theorem gX6_rentOf_X6_listen : GoodIn wsX6_rentOf (wsV RX6 130 RX6 yX6_listen wsX6_listen) := goodIn_app (goodIn_of _ (by decide +kernel)) ggX6_rentOf_X6_listen
set_option maxRecDepth 20000 in
theorem ggX6_rentOf_X3_paidOf : GoodIn wsX6_rentOf wsX3_paidOf := goodIn_r _ [124, 89, 9, 10, 6, 11, 12, 13, 14, 15, 16, 17, 18, 125, 126, 127, 73, 128, 98, 99, 100, 27, 101, 29, 102, 129, 130, 131, 132, 75, 90, 91, 92, 93, 66, 67, 68, 69, 47, 103, 104, 105, 106, 107, 108, 109, 110, 111, 30, 116, 133, 134, 135, 136, 137, 138, 149, 150, 151, 152, 153, 154] (by decide +kernel) (by decide +kernel)
set_option maxRecDepth 20000 in
theorem gX6_rentOf_X3_paidOf : GoodIn wsX6_rentOf (wsV RX6 227 RX3 yX3_paidOf wsX3_paidOf) := goodIn_app (goodIn_of _ (by decide +kernel)) ggX6_rentOf_X3_paidOf
theorem dX6_rentOf_0 : decode cX6_rentOf 0 = .ok (.aload_n 0, 1) := by decide +kernel
theorem dX6_rentOf_1 : decode cX6_rentOf 1 = .ok (.aload_n 1, 1) := by decide +kernel
theorem dX6_rentOf_2 : decode cX6_rentOf 2 = .ok (.aload_n 1, 1) := by decide +kernel
theorem dX6_rentOf_3 : decode cX6_rentOf 3 = .ok (.getfield 151, 3) := by decide +kernel
theorem dX6_rentOf_6 : decode cX6_rentOf 6 = .ok (.aload_n 1, 1) := by decide +kernel
theorem dX6_rentOf_7 : decode cX6_rentOf 7 = .ok (.invokevirtual 114, 3) := by decide +kernel
theorem dX6_rentOf_10 : decode cX6_rentOf 10 = .ok (.invokevirtual 130, 3) := by decide +kernel
theorem dX6_rentOf_13 : decode cX6_rentOf 13 = .ok (.aload_n 0, 1) := by decide +kernel
theorem dX6_rentOf_14 : decode cX6_rentOf 14 = .ok (.getfield 39, 3) := by decide +kernel
theorem dX6_rentOf_17 : decode cX6_rentOf 17 = .ok (.aload_n 1, 1) := by decide +kernel
theorem dX6_rentOf_18 : decode cX6_rentOf 18 = .ok (.aload_n 0, 1) := by decide +kernel
theorem dX6_rentOf_19 : decode cX6_rentOf 19 = .ok (.getfield 29, 3) := by decide +kernel
theorem dX6_rentOf_22 : decode cX6_rentOf 22 = .ok (.invokevirtual 227, 3) := by decide +kernel
theorem dX6_rentOf_25 : decode cX6_rentOf 25 = .ok (.ireturn, 1) := by decide +kernel
set_option maxRecDepth 20000 in
theorem ggX6_bestStand_X0_copy : GoodIn wsX6_bestStand wsX0_copy := goodIn_r _ [7, 8, 9, 10, 11, 12, 13, 14, 15, 16, 17, 18, 19, 20, 21, 22, 23, 24, 25, 26, 27, 28, 29, 30, 31, 32, 178, 179, 180, 181, 182, 183, 184, 185] (by decide +kernel) (by decide +kernel)
set_option maxRecDepth 20000 in
theorem gX6_bestStand_X0_copy : GoodIn wsX6_bestStand (wsV RX6 93 RX0 yX0_copy wsX0_copy) := goodIn_app (goodIn_of _ (by decide +kernel)) ggX6_bestStand_X0_copy
set_option maxRecDepth 20000 in
theorem ggX6_bestStand_X6_clearCount : GoodIn wsX6_bestStand wsX6_clearCount := goodIn_r _ [37, 38, 39, 40, 41, 42, 6, 43, 44, 45, 46, 47, 9, 48, 49, 50, 17, 51, 19, 52, 53, 54, 36, 55, 56, 57, 58, 59, 60, 61, 62, 63, 64, 65, 66, 67, 21, 22, 23, 68, 69, 70, 71, 72, 30, 31, 32, 28, 73, 74, 75, 76, 8, 77, 78, 79, 80, 13, 81, 82, 83, 84, 85, 86, 87, 88, 89, 25, 26, 27, 90, 91, 92, 93, 94, 95, 96, 97, 98, 99, 100, 101, 102, 103, 104, 105, 106, 107, 108, 109, 110, 111, 112, 113, 114, 115, 116, 117, 118, 119, 120, 121, 122, 123, 124, 125, 126, 127, 128, 129, 130, 131, 132, 133, 134, 135, 136, 137, 138, 139, 140, 141, 142, 143, 144, 145, 146, 147, 148, 149, 150, 151, 152, 153, 154, 155, 168, 169, 170, 171, 172, 173, 174, 175, 176, 177, 178, 179, 180, 181, 182, 183, 184, 185, 186, 187, 188, 189] (by decide +kernel) (by decide +kernel)
set_option maxRecDepth 20000 in
theorem gX6_bestStand_X6_clearCount : GoodIn wsX6_bestStand (wsV RX6 138 RX6 yX6_clearCount wsX6_clearCount) := goodIn_app (goodIn_of _ (by decide +kernel)) ggX6_bestStand_X6_clearCount
set_option maxRecDepth 20000 in
theorem ggX6_bestStand_X6_rentOf : GoodIn wsX6_bestStand wsX6_rentOf := goodIn_r _ [159, 38, 39, 40, 41, 42, 6, 43, 44, 45, 46, 47, 9, 48, 49, 50, 17, 51, 19, 52, 53, 54, 36, 55, 56, 57, 58, 59, 60, 61, 62, 63, 64, 65, 66, 67, 21, 22, 23, 68, 69, 70, 71, 72, 30, 31, 32, 28, 73, 74, 75, 76, 8, 77, 78, 79, 80, 13, 81, 82, 83, 84, 85, 86, 87, 88, 89, 25, 26, 27, 90, 91, 92, 93, 94, 95, 96, 97, 98, 99, 100, 101, 102, 103, 104, 105, 106, 107, 108, 109, 110, 111, 112, 113, 114, 115, 116, 117, 118, 119, 120, 121, 122, 123, 124, 125, 126, 127, 128, 129, 130, 131, 132, 133, 134, 135, 136, 137, 138, 139, 140, 160, 161, 162, 163, 164, 165, 166, 167, 145, 146, 147, 148, 178, 179, 180, 181, 182, 183, 168, 169, 170, 171, 172, 173, 174, 175, 176, 177, 184, 185, 186, 187, 188, 189] (by decide +kernel) (by decide +kernel)
set_option maxRecDepth 20000 in
theorem gX6_bestStand_X6_rentOf : GoodIn wsX6_bestStand (wsV RX6 142 RX6 yX6_rentOf wsX6_rentOf) := goodIn_app (goodIn_of _ (by decide +kernel)) ggX6_bestStand_X6_rentOf
theorem dX6_bestStand_0 : decode cX6_bestStand 0 = .ok (.iconst 0, 1) := by decide +kernel
theorem dX6_bestStand_1 : decode cX6_bestStand 1 = .ok (.istore_n 1, 1) := by decide +kernel
theorem dX6_bestStand_2 : decode cX6_bestStand 2 = .ok (.iconst (-1), 1) := by decide +kernel
theorem dX6_bestStand_3 : decode cX6_bestStand 3 = .ok (.istore_n 2, 1) := by decide +kernel
theorem dX6_bestStand_4 : decode cX6_bestStand 4 = .ok (.iconst (-1), 1) := by decide +kernel
theorem dX6_bestStand_5 : decode cX6_bestStand 5 = .ok (.istore_n 3, 1) := by decide +kernel
theorem dX6_bestStand_6 : decode cX6_bestStand 6 = .ok (.aload_n 0, 1) := by decide +kernel
theorem dX6_bestStand_7 : decode cX6_bestStand 7 = .ok (.getfield 23, 3) := by decide +kernel
theorem dX6_bestStand_10 : decode cX6_bestStand 10 = .ok (.aload_n 0, 1) := by decide +kernel
theorem dX6_bestStand_11 : decode cX6_bestStand 11 = .ok (.getfield 19, 3) := by decide +kernel
theorem dX6_bestStand_14 : decode cX6_bestStand 14 = .ok (.invokevirtual 93, 3) := by decide +kernel
theorem dX6_bestStand_17 : decode cX6_bestStand 17 = .ok (.iconst 0, 1) := by decide +kernel
theorem dX6_bestStand_18 : decode cX6_bestStand 18 = .ok (.istore 4, 2) := by decide +kernel
theorem dX6_bestStand_20 : decode cX6_bestStand 20 = .ok (.iload 4, 2) := by decide +kernel
theorem dX6_bestStand_22 : decode cX6_bestStand 22 = .ok (.bipush 40, 2) := by decide +kernel
theorem dX6_bestStand_24 : decode cX6_bestStand 24 = .ok (.if_icmp .gt 72, 3) := by decide +kernel
theorem dX6_bestStand_27 : decode cX6_bestStand 27 = .ok (.aload_n 0, 1) := by decide +kernel
theorem dX6_bestStand_28 : decode cX6_bestStand 28 = .ok (.getfield 23, 3) := by decide +kernel
theorem dX6_bestStand_31 : decode cX6_bestStand 31 = .ok (.iload 4, 2) := by decide +kernel
theorem dX6_bestStand_33 : decode cX6_bestStand 33 = .ok (.putfield 151, 3) := by decide +kernel
theorem dX6_bestStand_36 : decode cX6_bestStand 36 = .ok (.aload_n 0, 1) := by decide +kernel
theorem dX6_bestStand_37 : decode cX6_bestStand 37 = .ok (.aload_n 0, 1) := by decide +kernel
theorem dX6_bestStand_38 : decode cX6_bestStand 38 = .ok (.getfield 23, 3) := by decide +kernel
theorem dX6_bestStand_41 : decode cX6_bestStand 41 = .ok (.aload_n 0, 1) := by decide +kernel
theorem dX6_bestStand_42 : decode cX6_bestStand 42 = .ok (.getfield 23, 3) := by decide +kernel
theorem dX6_bestStand_45 : decode cX6_bestStand 45 = .ok (.getfield 110, 3) := by decide +kernel
theorem dX6_bestStand_48 : decode cX6_bestStand 48 = .ok (.invokevirtual 138, 3) := by decide +kernel
theorem dX6_bestStand_51 : decode cX6_bestStand 51 = .ok (.istore 5, 2) := by decide +kernel
theorem dX6_bestStand_53 : decode cX6_bestStand 53 = .ok (.aload_n 0, 1) := by decide +kernel
theorem dX6_bestStand_54 : decode cX6_bestStand 54 = .ok (.aload_n 0, 1) := by decide +kernel
theorem dX6_bestStand_55 : decode cX6_bestStand 55 = .ok (.getfield 23, 3) := by decide +kernel
theorem dX6_bestStand_58 : decode cX6_bestStand 58 = .ok (.invokevirtual 142, 3) := by decide +kernel
theorem dX6_bestStand_61 : decode cX6_bestStand 61 = .ok (.istore 6, 2) := by decide +kernel
theorem dX6_bestStand_63 : decode cX6_bestStand 63 = .ok (.iload 5, 2) := by decide +kernel
theorem dX6_bestStand_65 : decode cX6_bestStand 65 = .ok (.iload_n 2, 1) := by decide +kernel
theorem dX6_bestStand_66 : decode cX6_bestStand 66 = .ok (.if_icmp .gt 15, 3) := by decide +kernel
theorem dX6_bestStand_69 : decode cX6_bestStand 69 = .ok (.iload 5, 2) := by decide +kernel
theorem dX6_bestStand_71 : decode cX6_bestStand 71 = .ok (.iload_n 2, 1) := by decide +kernel
theorem dX6_bestStand_72 : decode cX6_bestStand 72 = .ok (.if_icmp .ne 18, 3) := by decide +kernel
theorem dX6_bestStand_75 : decode cX6_bestStand 75 = .ok (.iload 6, 2) := by decide +kernel
theorem dX6_bestStand_77 : decode cX6_bestStand 77 = .ok (.iload_n 3, 1) := by decide +kernel
theorem dX6_bestStand_78 : decode cX6_bestStand 78 = .ok (.if_icmp .le 12, 3) := by decide +kernel
theorem dX6_bestStand_81 : decode cX6_bestStand 81 = .ok (.iload 4, 2) := by decide +kernel
theorem dX6_bestStand_83 : decode cX6_bestStand 83 = .ok (.istore_n 1, 1) := by decide +kernel
theorem dX6_bestStand_84 : decode cX6_bestStand 84 = .ok (.iload 5, 2) := by decide +kernel
theorem dX6_bestStand_86 : decode cX6_bestStand 86 = .ok (.istore_n 2, 1) := by decide +kernel
theorem dX6_bestStand_87 : decode cX6_bestStand 87 = .ok (.iload 6, 2) := by decide +kernel
theorem dX6_bestStand_89 : decode cX6_bestStand 89 = .ok (.istore_n 3, 1) := by decide +kernel
theorem dX6_bestStand_90 : decode cX6_bestStand 90 = .ok (.iinc 4 1, 3) := by decide +kernel
theorem dX6_bestStand_93 : decode cX6_bestStand 93 = .ok (.goto (-73), 3) := by decide +kernel
theorem dX6_bestStand_96 : decode cX6_bestStand 96 = .ok (.iload_n 1, 1) := by decide +kernel
theorem dX6_bestStand_97 : decode cX6_bestStand 97 = .ok (.ireturn, 1) := by decide +kernel
set_option maxRecDepth 20000 in
theorem ggX6_bestSit_X6_clearCount : GoodIn wsX6_bestSit wsX6_clearCount := goodIn_r _ [6, 7, 8, 9, 10, 11, 12, 13, 14, 15, 16, 17, 18, 19, 20, 21, 22, 23, 24, 25, 26, 27, 5, 28, 29, 30, 31, 32, 33, 34, 35, 36, 37, 38, 39, 40, 41, 42, 43, 44, 45, 46, 47, 48, 49, 50, 51, 52, 53, 54, 55, 56, 57, 58, 59, 60, 61, 62, 63, 64, 65, 66, 67, 68, 69, 70, 71, 72, 73, 74, 75, 76, 77, 78, 79, 80, 81, 82, 83, 84, 85, 86, 87, 88, 89, 90, 91, 92, 93, 94, 95, 96, 97, 98, 99, 100, 101, 102, 103, 104, 105, 106, 107, 108, 109, 110, 111, 112, 113, 114, 115, 116, 117, 118, 119, 120, 121, 122, 123, 124, 125, 126, 127, 128, 129, 130, 131, 132, 133, 134, 135, 136, 137, 138, 139, 140, 141, 142, 143, 144, 145, 146, 147, 148, 149, 150, 151, 152, 153, 154, 155, 156, 157, 158, 159, 160, 161, 162] (by decide +kernel) (by decide +kernel)
set_option maxRecDepth 20000 in
theorem gX6_bestSit_X6_clearCount : GoodIn wsX6_bestSit (wsV RX6 138 RX6 yX6_clearCount wsX6_clearCount) := goodIn_app (goodIn_of _ (by decide +kernel)) ggX6_bestSit_X6_clearCount
theorem dX6_bestSit_0 : decode cX6_bestSit 0 = .ok (.iconst 0, 1) := by decide +kernel
theorem dX6_bestSit_1 : decode cX6_bestSit 1 = .ok (.istore_n 1, 1) := by decide +kernel
theorem dX6_bestSit_2 : decode cX6_bestSit 2 = .ok (.iconst (-1), 1) := by decide +kernel
theorem dX6_bestSit_3 : decode cX6_bestSit 3 = .ok (.istore_n 2, 1) := by decide +kernel
theorem dX6_bestSit_4 : decode cX6_bestSit 4 = .ok (.iconst 0, 1) := by decide +kernel
theorem dX6_bestSit_5 : decode cX6_bestSit 5 = .ok (.istore_n 3, 1) := by decide +kernel
theorem dX6_bestSit_6 : decode cX6_bestSit 6 = .ok (.iload_n 3, 1) := by decide +kernel
theorem dX6_bestSit_7 : decode cX6_bestSit 7 = .ok (.bipush 40, 2) := by decide +kernel
theorem dX6_bestSit_9 : decode cX6_bestSit 9 = .ok (.if_icmp .gt 31, 3) := by decide +kernel
theorem dX6_bestSit_12 : decode cX6_bestSit 12 = .ok (.aload_n 0, 1) := by decide +kernel
theorem dX6_bestSit_13 : decode cX6_bestSit 13 = .ok (.aload_n 0, 1) := by decide +kernel
theorem dX6_bestSit_14 : decode cX6_bestSit 14 = .ok (.getfield 19, 3) := by decide +kernel
theorem dX6_bestSit_17 : decode cX6_bestSit 17 = .ok (.iload_n 3, 1) := by decide +kernel
theorem dX6_bestSit_18 : decode cX6_bestSit 18 = .ok (.invokevirtual 138, 3) := by decide +kernel
theorem dX6_bestSit_21 : decode cX6_bestSit 21 = .ok (.istore 4, 2) := by decide +kernel
theorem dX6_bestSit_23 : decode cX6_bestSit 23 = .ok (.iload 4, 2) := by decide +kernel
theorem dX6_bestSit_25 : decode cX6_bestSit 25 = .ok (.iload_n 2, 1) := by decide +kernel
theorem dX6_bestSit_26 : decode cX6_bestSit 26 = .ok (.if_icmp .le 8, 3) := by decide +kernel
theorem dX6_bestSit_29 : decode cX6_bestSit 29 = .ok (.iload_n 3, 1) := by decide +kernel
theorem dX6_bestSit_30 : decode cX6_bestSit 30 = .ok (.istore_n 1, 1) := by decide +kernel
theorem dX6_bestSit_31 : decode cX6_bestSit 31 = .ok (.iload 4, 2) := by decide +kernel
theorem dX6_bestSit_33 : decode cX6_bestSit 33 = .ok (.istore_n 2, 1) := by decide +kernel
theorem dX6_bestSit_34 : decode cX6_bestSit 34 = .ok (.iinc 3 1, 3) := by decide +kernel
theorem dX6_bestSit_37 : decode cX6_bestSit 37 = .ok (.goto (-31), 3) := by decide +kernel
theorem dX6_bestSit_40 : decode cX6_bestSit 40 = .ok (.iload_n 1, 1) := by decide +kernel
theorem dX6_bestSit_41 : decode cX6_bestSit 41 = .ok (.ireturn, 1) := by decide +kernel
set_option maxRecDepth 20000 in
theorem ggX6_bestScript_X5_trace : GoodIn wsX6_bestScript wsX5_trace := goodIn_r _ [9, 10, 11, 12, 13, 14, 15, 16, 17, 18, 19, 20, 21, 22, 23, 24, 8, 25, 26, 27, 28, 29, 30, 31, 32, 33, 34, 35, 36, 37, 38, 39, 40, 41, 42, 43, 44, 45, 46, 47, 48, 49, 50, 51, 52, 53, 54, 55, 56, 57, 150, 151, 144, 145, 146, 147, 148, 149, 152, 153] (by decide +kernel) (by decide +kernel)
set_option maxRecDepth 20000 in
theorem gX6_bestScript_X5_trace : GoodIn wsX6_bestScript (wsV RX6 191 RX5 yX5_trace wsX5_trace) := goodIn_app (goodIn_of _ (by decide +kernel)) ggX6_bestScript_X5_trace
set_option maxRecDepth 20000 in
theorem ggX6_bestScript_X3_hush : GoodIn wsX6_bestScript wsX3_hush := goodIn_r _ [62, 63, 64, 65, 66, 67, 19, 68, 30, 21, 69, 70, 71, 72, 154, 155, 152, 153] (by decide +kernel) (by decide +kernel)
set_option maxRecDepth 20000 in
theorem gX6_bestScript_X3_hush : GoodIn wsX6_bestScript (wsV RX6 213 RX3 yX3_hush wsX3_hush) := goodIn_app (goodIn_of _ (by decide +kernel)) ggX6_bestScript_X3_hush
set_option maxRecDepth 20000 in
theorem ggX6_bestScript_X1_size : GoodIn wsX6_bestScript wsX1_size := goodIn_r _ [40, 21, 152, 153] (by decide +kernel) (by decide +kernel)
set_option maxRecDepth 20000 in
theorem gX6_bestScript_X1_size : GoodIn wsX6_bestScript (wsV RX6 181 RX1 yX1_size wsX1_size) := goodIn_app (goodIn_of _ (by decide +kernel)) ggX6_bestScript_X1_size
set_option maxRecDepth 20000 in
theorem ggX6_bestScript_X6_wordsIn : GoodIn wsX6_bestScript wsX6_wordsIn := goodIn_r _ [77, 78, 79, 80, 81, 82, 83, 84] (by decide +kernel) (by decide +kernel)
set_option maxRecDepth 20000 in
theorem gX6_bestScript_X6_wordsIn : GoodIn wsX6_bestScript (va_wsS RX6 185 yX6_wordsIn wsX6_wordsIn) := goodIn_app (goodIn_of _ (by decide +kernel)) ggX6_bestScript_X6_wordsIn
set_option maxRecDepth 20000 in
theorem ggX6_bestScript_X6_givesTalk : GoodIn wsX6_bestScript wsX6_givesTalk := goodIn_r _ [88, 4, 73, 38, 39, 19, 40, 21, 89, 90, 91, 76, 92, 1, 3, 93, 94, 95, 8, 96, 10, 97, 55, 56, 57, 30, 98, 99, 100, 61, 101, 63, 64, 102, 103, 104, 105, 106, 107, 108, 109, 110, 111, 112, 113, 114, 115, 116, 117, 118, 119, 120, 121, 122, 123, 11, 124, 125, 126, 127, 128, 129, 130, 131, 132, 133, 134, 135, 136, 137, 138, 139, 140, 141, 142, 143, 152, 153, 150, 151, 154, 155] (by decide +kernel) (by decide +kernel)
set_option maxRecDepth 20000 in
theorem gX6_bestScript_X6_givesTalk : GoodIn wsX6_bestScript (wsV RX6 231 RX6 yX6_givesTalk wsX6_givesTalk) := goodIn_app (goodIn_of _ (by decide +kernel)) ggX6_bestScript_X6_givesTalk
theorem dX6_bestScript_0 : decode cX6_bestScript 0 = .ok (.bipush (-4), 2) := by decide +kernel
theorem dX6_bestScript_2 : decode cX6_bestScript 2 = .ok (.istore_n 1, 1) := by decide +kernel
theorem dX6_bestScript_3 : decode cX6_bestScript 3 = .ok (.bipush 7, 2) := by decide +kernel
theorem dX6_bestScript_5 : decode cX6_bestScript 5 = .ok (.istore_n 2, 1) := by decide +kernel
theorem dX6_bestScript_6 : decode cX6_bestScript 6 = .ok (.aload_n 0, 1) := by decide +kernel
theorem dX6_bestScript_7 : decode cX6_bestScript 7 = .ok (.getfield 29, 3) := by decide +kernel
theorem dX6_bestScript_10 : decode cX6_bestScript 10 = .ok (.aload_n 0, 1) := by decide +kernel
theorem dX6_bestScript_11 : decode cX6_bestScript 11 = .ok (.getfield 19, 3) := by decide +kernel
theorem dX6_bestScript_14 : decode cX6_bestScript 14 = .ok (.aload_n 0, 1) := by decide +kernel
theorem dX6_bestScript_15 : decode cX6_bestScript 15 = .ok (.getfield 19, 3) := by decide +kernel
theorem dX6_bestScript_18 : decode cX6_bestScript 18 = .ok (.getfield 151, 3) := by decide +kernel
theorem dX6_bestScript_21 : decode cX6_bestScript 21 = .ok (.aload_n 0, 1) := by decide +kernel
theorem dX6_bestScript_22 : decode cX6_bestScript 22 = .ok (.getfield 19, 3) := by decide +kernel
theorem dX6_bestScript_25 : decode cX6_bestScript 25 = .ok (.getfield 110, 3) := by decide +kernel
theorem dX6_bestScript_28 : decode cX6_bestScript 28 = .ok (.invokevirtual 191, 3) := by decide +kernel
theorem dX6_bestScript_31 : decode cX6_bestScript 31 = .ok (.aload_n 0, 1) := by decide +kernel
theorem dX6_bestScript_32 : decode cX6_bestScript 32 = .ok (.getfield 39, 3) := by decide +kernel
theorem dX6_bestScript_35 : decode cX6_bestScript 35 = .ok (.invokevirtual 213, 3) := by decide +kernel
theorem dX6_bestScript_38 : decode cX6_bestScript 38 = .ok (.iconst 0, 1) := by decide +kernel
theorem dX6_bestScript_39 : decode cX6_bestScript 39 = .ok (.istore_n 3, 1) := by decide +kernel
theorem dX6_bestScript_40 : decode cX6_bestScript 40 = .ok (.iload_n 3, 1) := by decide +kernel
theorem dX6_bestScript_41 : decode cX6_bestScript 41 = .ok (.iconst 1, 1) := by decide +kernel
theorem dX6_bestScript_42 : decode cX6_bestScript 42 = .ok (.iconst 2, 1) := by decide +kernel
theorem dX6_bestScript_43 : decode cX6_bestScript 43 = .ok (.aload_n 0, 1) := by decide +kernel
theorem dX6_bestScript_44 : decode cX6_bestScript 44 = .ok (.getfield 58, 3) := by decide +kernel
theorem dX6_bestScript_47 : decode cX6_bestScript 47 = .ok (.invokevirtual 181, 3) := by decide +kernel
theorem dX6_bestScript_50 : decode cX6_bestScript 50 = .ok (.imul, 1) := by decide +kernel
theorem dX6_bestScript_51 : decode cX6_bestScript 51 = .ok (.ishl, 1) := by decide +kernel
theorem dX6_bestScript_52 : decode cX6_bestScript 52 = .ok (.if_icmp .ge 34, 3) := by decide +kernel
theorem dX6_bestScript_55 : decode cX6_bestScript 55 = .ok (.iload_n 3, 1) := by decide +kernel
theorem dX6_bestScript_56 : decode cX6_bestScript 56 = .ok (.invokestatic 185, 3) := by decide +kernel
theorem dX6_bestScript_59 : decode cX6_bestScript 59 = .ok (.istore 4, 2) := by decide +kernel
theorem dX6_bestScript_61 : decode cX6_bestScript 61 = .ok (.iload 4, 2) := by decide +kernel
theorem dX6_bestScript_63 : decode cX6_bestScript 63 = .ok (.iload_n 2, 1) := by decide +kernel
theorem dX6_bestScript_64 : decode cX6_bestScript 64 = .ok (.if_icmp .ge 16, 3) := by decide +kernel
theorem dX6_bestScript_67 : decode cX6_bestScript 67 = .ok (.aload_n 0, 1) := by decide +kernel
theorem dX6_bestScript_68 : decode cX6_bestScript 68 = .ok (.iload_n 3, 1) := by decide +kernel
theorem dX6_bestScript_69 : decode cX6_bestScript 69 = .ok (.invokevirtual 231, 3) := by decide +kernel
theorem dX6_bestScript_72 : decode cX6_bestScript 72 = .ok (.ifCond .eq 8, 3) := by decide +kernel
theorem dX6_bestScript_75 : decode cX6_bestScript 75 = .ok (.iload_n 3, 1) := by decide +kernel
theorem dX6_bestScript_76 : decode cX6_bestScript 76 = .ok (.istore_n 1, 1) := by decide +kernel
theorem dX6_bestScript_77 : decode cX6_bestScript 77 = .ok (.iload 4, 2) := by decide +kernel
theorem dX6_bestScript_79 : decode cX6_bestScript 79 = .ok (.istore_n 2, 1) := by decide +kernel
theorem dX6_bestScript_80 : decode cX6_bestScript 80 = .ok (.iinc 3 1, 3) := by decide +kernel
theorem dX6_bestScript_83 : decode cX6_bestScript 83 = .ok (.goto (-43), 3) := by decide +kernel
theorem dX6_bestScript_86 : decode cX6_bestScript 86 = .ok (.iload_n 1, 1) := by decide +kernel
theorem dX6_bestScript_87 : decode cX6_bestScript 87 = .ok (.ireturn, 1) := by decide +kernel
set_option maxRecDepth 20000 in
theorem ggX6_wordsIn_J6_bitCount_0f7a4 : GoodIn wsX6_wordsIn wsJ6_bitCount_0f7a4 := goodIn_r _ [4, 5, 6, 7] (by decide +kernel) (by decide +kernel)
set_option maxRecDepth 20000 in
theorem gX6_wordsIn_J6_bitCount_0f7a4 : GoodIn wsX6_wordsIn (va_wsS RX6 173 yJ6_bitCount_0f7a4 wsJ6_bitCount_0f7a4) := goodIn_app (goodIn_of _ (by decide +kernel)) ggX6_wordsIn_J6_bitCount_0f7a4
theorem dX6_wordsIn_0 : decode cX6_wordsIn 0 = .ok (.iload_n 0, 1) := by decide +kernel
theorem dX6_wordsIn_1 : decode cX6_wordsIn 1 = .ok (.iload_n 0, 1) := by decide +kernel
theorem dX6_wordsIn_2 : decode cX6_wordsIn 2 = .ok (.iconst 1, 1) := by decide +kernel
theorem dX6_wordsIn_3 : decode cX6_wordsIn 3 = .ok (.ishr, 1) := by decide +kernel
theorem dX6_wordsIn_4 : decode cX6_wordsIn 4 = .ok (.ior, 1) := by decide +kernel
theorem dX6_wordsIn_5 : decode cX6_wordsIn 5 = .ok (.sipush 1365, 3) := by decide +kernel
theorem dX6_wordsIn_8 : decode cX6_wordsIn 8 = .ok (.iand, 1) := by decide +kernel
theorem dX6_wordsIn_9 : decode cX6_wordsIn 9 = .ok (.invokestatic 173, 3) := by decide +kernel
theorem dX6_wordsIn_12 : decode cX6_wordsIn 12 = .ok (.ireturn, 1) := by decide +kernel
set_option maxRecDepth 20000 in
theorem ggX6_lineAt_X1_size : GoodIn wsX6_lineAt wsX1_size := goodIn_r _ [6, 7, 18, 19] (by decide +kernel) (by decide +kernel)
set_option maxRecDepth 20000 in
theorem gX6_lineAt_X1_size : GoodIn wsX6_lineAt (wsV RX6 181 RX1 yX1_size wsX1_size) := goodIn_app (goodIn_of _ (by decide +kernel)) ggX6_lineAt_X1_size
theorem dX6_lineAt_0 : decode cX6_lineAt 0 = .ok (.iload_n 1, 1) := by decide +kernel
theorem dX6_lineAt_1 : decode cX6_lineAt 1 = .ok (.iconst 2, 1) := by decide +kernel
theorem dX6_lineAt_2 : decode cX6_lineAt 2 = .ok (.aload_n 0, 1) := by decide +kernel
theorem dX6_lineAt_3 : decode cX6_lineAt 3 = .ok (.getfield 58, 3) := by decide +kernel
theorem dX6_lineAt_6 : decode cX6_lineAt 6 = .ok (.invokevirtual 181, 3) := by decide +kernel
theorem dX6_lineAt_9 : decode cX6_lineAt 9 = .ok (.iconst 1, 1) := by decide +kernel
theorem dX6_lineAt_10 : decode cX6_lineAt 10 = .ok (.isub, 1) := by decide +kernel
theorem dX6_lineAt_11 : decode cX6_lineAt 11 = .ok (.iload_n 2, 1) := by decide +kernel
theorem dX6_lineAt_12 : decode cX6_lineAt 12 = .ok (.isub, 1) := by decide +kernel
theorem dX6_lineAt_13 : decode cX6_lineAt 13 = .ok (.imul, 1) := by decide +kernel
theorem dX6_lineAt_14 : decode cX6_lineAt 14 = .ok (.ishr, 1) := by decide +kernel
theorem dX6_lineAt_15 : decode cX6_lineAt 15 = .ok (.iconst 3, 1) := by decide +kernel
theorem dX6_lineAt_16 : decode cX6_lineAt 16 = .ok (.iand, 1) := by decide +kernel
theorem dX6_lineAt_17 : decode cX6_lineAt 17 = .ok (.ireturn, 1) := by decide +kernel
set_option maxRecDepth 20000 in
theorem ggX6_givesTalk_X1_size : GoodIn wsX6_givesTalk wsX1_size := goodIn_r _ [6, 7, 76, 77] (by decide +kernel) (by decide +kernel)
set_option maxRecDepth 20000 in
theorem gX6_givesTalk_X1_size : GoodIn wsX6_givesTalk (wsV RX6 181 RX1 yX1_size wsX1_size) := goodIn_app (goodIn_of _ (by decide +kernel)) ggX6_givesTalk_X1_size
set_option maxRecDepth 20000 in
theorem ggX6_givesTalk_X6_heardOfScript : GoodIn wsX6_givesTalk wsX6_heardOfScript := goodIn_r _ [12, 13, 14, 15, 16, 17, 18, 19, 20, 21, 22, 23, 5, 24, 7, 25, 26, 27, 28, 29, 30, 31, 32, 33, 34, 35, 36, 37, 38, 39, 11, 40, 1, 2, 3, 4, 6, 41, 42, 43, 44, 45, 46, 47, 48, 49, 50, 51, 52, 53, 54, 55, 56, 57, 58, 59, 60, 61, 62, 63, 64, 66, 67, 68, 69, 70, 71, 72, 73, 74, 75, 78, 79, 76, 77, 80, 81] (by decide +kernel) (by decide +kernel)
set_option maxRecDepth 20000 in
theorem gX6_givesTalk_X6_heardOfScript : GoodIn wsX6_givesTalk (wsV RX6 234 RX6 yX6_heardOfScript wsX6_heardOfScript) := goodIn_app (goodIn_of _ (by decide +kernel)) ggX6_givesTalk_X6_heardOfScript
set_option maxRecDepth 20000 in
theorem ggX6_givesTalk_X1_at : GoodIn wsX6_givesTalk wsX1_at := goodIn_r _ [24, 7, 25, 76, 77] (by decide +kernel) (by decide +kernel)
set_option maxRecDepth 20000 in
theorem gX6_givesTalk_X1_at : GoodIn wsX6_givesTalk (wsV RX6 237 RX1 yX1_at wsX1_at) := goodIn_app (goodIn_of _ (by decide +kernel)) ggX6_givesTalk_X1_at
theorem dX6_givesTalk_0 : decode cX6_givesTalk 0 = .ok (.iconst 0, 1) := by decide +kernel
theorem dX6_givesTalk_1 : decode cX6_givesTalk 1 = .ok (.istore_n 2, 1) := by decide +kernel
theorem dX6_givesTalk_2 : decode cX6_givesTalk 2 = .ok (.iload_n 2, 1) := by decide +kernel
theorem dX6_givesTalk_3 : decode cX6_givesTalk 3 = .ok (.aload_n 0, 1) := by decide +kernel
theorem dX6_givesTalk_4 : decode cX6_givesTalk 4 = .ok (.getfield 58, 3) := by decide +kernel
theorem dX6_givesTalk_7 : decode cX6_givesTalk 7 = .ok (.invokevirtual 181, 3) := by decide +kernel
theorem dX6_givesTalk_10 : decode cX6_givesTalk 10 = .ok (.if_icmp .ge 28, 3) := by decide +kernel
theorem dX6_givesTalk_13 : decode cX6_givesTalk 13 = .ok (.aload_n 0, 1) := by decide +kernel
theorem dX6_givesTalk_14 : decode cX6_givesTalk 14 = .ok (.iload_n 1, 1) := by decide +kernel
theorem dX6_givesTalk_15 : decode cX6_givesTalk 15 = .ok (.iload_n 2, 1) := by decide +kernel
theorem dX6_givesTalk_16 : decode cX6_givesTalk 16 = .ok (.invokevirtual 234, 3) := by decide +kernel
theorem dX6_givesTalk_19 : decode cX6_givesTalk 19 = .ok (.aload_n 0, 1) := by decide +kernel
theorem dX6_givesTalk_20 : decode cX6_givesTalk 20 = .ok (.getfield 58, 3) := by decide +kernel
theorem dX6_givesTalk_23 : decode cX6_givesTalk 23 = .ok (.iload_n 2, 1) := by decide +kernel
theorem dX6_givesTalk_24 : decode cX6_givesTalk 24 = .ok (.invokevirtual 237, 3) := by decide +kernel
theorem dX6_givesTalk_27 : decode cX6_givesTalk 27 = .ok (.if_icmp .eq 5, 3) := by decide +kernel
theorem dX6_givesTalk_30 : decode cX6_givesTalk 30 = .ok (.iconst 0, 1) := by decide +kernel
theorem dX6_givesTalk_31 : decode cX6_givesTalk 31 = .ok (.ireturn, 1) := by decide +kernel
theorem dX6_givesTalk_32 : decode cX6_givesTalk 32 = .ok (.iinc 2 1, 3) := by decide +kernel
theorem dX6_givesTalk_35 : decode cX6_givesTalk 35 = .ok (.goto (-33), 3) := by decide +kernel
theorem dX6_givesTalk_38 : decode cX6_givesTalk 38 = .ok (.iconst 1, 1) := by decide +kernel
theorem dX6_givesTalk_39 : decode cX6_givesTalk 39 = .ok (.ireturn, 1) := by decide +kernel
set_option maxRecDepth 20000 in
theorem ggX6_heardOfScript_X5_later : GoodIn wsX6_heardOfScript wsX5_later := goodIn_r _ [7, 8, 9, 10, 11, 12, 13, 14, 15, 71, 72, 73, 74] (by decide +kernel) (by decide +kernel)
set_option maxRecDepth 20000 in
theorem gX6_heardOfScript_X5_later : GoodIn wsX6_heardOfScript (wsV RX6 240 RX5 yX5_later wsX5_later) := goodIn_app (goodIn_of _ (by decide +kernel)) ggX6_heardOfScript_X5_later
set_option maxRecDepth 20000 in
theorem ggX6_heardOfScript_X3_hushBeat : GoodIn wsX6_heardOfScript wsX3_hushBeat := goodIn_r _ [20, 21, 22, 23, 24, 25, 12, 26, 14, 15, 75, 76, 73, 74] (by decide +kernel) (by decide +kernel)
set_option maxRecDepth 20000 in
theorem gX6_heardOfScript_X3_hushBeat : GoodIn wsX6_heardOfScript (wsV RX6 243 RX3 yX3_hushBeat wsX3_hushBeat) := goodIn_app (goodIn_of _ (by decide +kernel)) ggX6_heardOfScript_X3_hushBeat
set_option maxRecDepth 20000 in
theorem ggX6_heardOfScript_X6_lineAt : GoodIn wsX6_heardOfScript wsX6_lineAt := goodIn_r _ [31, 32, 33, 34, 35, 12, 36, 14, 61, 62, 63, 64, 65, 66, 67, 68, 69, 70, 73, 74] (by decide +kernel) (by decide +kernel)
set_option maxRecDepth 20000 in
theorem gX6_heardOfScript_X6_lineAt : GoodIn wsX6_heardOfScript (wsV RX6 188 RX6 yX6_lineAt wsX6_lineAt) := goodIn_app (goodIn_of _ (by decide +kernel)) ggX6_heardOfScript_X6_lineAt
set_option maxRecDepth 20000 in
theorem ggX6_heardOfScript_X3_carryTo : GoodIn wsX6_heardOfScript wsX3_carryTo := goodIn_r _ [40, 41, 42, 43, 6, 44, 8, 45, 34, 35, 12, 36, 14, 46, 4, 5, 7, 9, 10, 11, 13, 15, 47, 48, 49, 50, 51, 52, 53, 54, 19, 55, 22, 21, 56, 23, 24, 25, 26, 71, 72, 73, 74, 75, 76] (by decide +kernel) (by decide +kernel)
set_option maxRecDepth 20000 in
theorem gX6_heardOfScript_X3_carryTo : GoodIn wsX6_heardOfScript (wsV RX6 246 RX3 yX3_carryTo wsX3_carryTo) := goodIn_app (goodIn_of _ (by decide +kernel)) ggX6_heardOfScript_X3_carryTo
set_option maxRecDepth 20000 in
theorem ggX6_heardOfScript_X3_valueAt : GoodIn wsX6_heardOfScript wsX3_valueAt := goodIn_r _ [60, 21, 56, 10, 11, 12, 13, 14, 15, 75, 76, 73, 74] (by decide +kernel) (by decide +kernel)
set_option maxRecDepth 20000 in
theorem gX6_heardOfScript_X3_valueAt : GoodIn wsX6_heardOfScript (wsV RX6 134 RX3 yX3_valueAt wsX3_valueAt) := goodIn_app (goodIn_of _ (by decide +kernel)) ggX6_heardOfScript_X3_valueAt
theorem dX6_heardOfScript_0 : decode cX6_heardOfScript 0 = .ok (.aload_n 0, 1) := by decide +kernel
theorem dX6_heardOfScript_1 : decode cX6_heardOfScript 1 = .ok (.getfield 29, 3) := by decide +kernel
theorem dX6_heardOfScript_4 : decode cX6_heardOfScript 4 = .ok (.iconst 0, 1) := by decide +kernel
theorem dX6_heardOfScript_5 : decode cX6_heardOfScript 5 = .ok (.invokevirtual 240, 3) := by decide +kernel
theorem dX6_heardOfScript_8 : decode cX6_heardOfScript 8 = .ok (.iload_n 2, 1) := by decide +kernel
theorem dX6_heardOfScript_9 : decode cX6_heardOfScript 9 = .ok (.iadd, 1) := by decide +kernel
theorem dX6_heardOfScript_10 : decode cX6_heardOfScript 10 = .ok (.istore_n 3, 1) := by decide +kernel
theorem dX6_heardOfScript_11 : decode cX6_heardOfScript 11 = .ok (.aload_n 0, 1) := by decide +kernel
theorem dX6_heardOfScript_12 : decode cX6_heardOfScript 12 = .ok (.getfield 39, 3) := by decide +kernel
theorem dX6_heardOfScript_15 : decode cX6_heardOfScript 15 = .ok (.iload_n 3, 1) := by decide +kernel
theorem dX6_heardOfScript_16 : decode cX6_heardOfScript 16 = .ok (.invokevirtual 243, 3) := by decide +kernel
theorem dX6_heardOfScript_19 : decode cX6_heardOfScript 19 = .ok (.iconst 0, 1) := by decide +kernel
theorem dX6_heardOfScript_20 : decode cX6_heardOfScript 20 = .ok (.istore 4, 2) := by decide +kernel
theorem dX6_heardOfScript_22 : decode cX6_heardOfScript 22 = .ok (.iload 4, 2) := by decide +kernel
theorem dX6_heardOfScript_24 : decode cX6_heardOfScript 24 = .ok (.iload_n 2, 1) := by decide +kernel
theorem dX6_heardOfScript_25 : decode cX6_heardOfScript 25 = .ok (.if_icmp .gt 41, 3) := by decide +kernel
theorem dX6_heardOfScript_28 : decode cX6_heardOfScript 28 = .ok (.aload_n 0, 1) := by decide +kernel
theorem dX6_heardOfScript_29 : decode cX6_heardOfScript 29 = .ok (.iload_n 1, 1) := by decide +kernel
theorem dX6_heardOfScript_30 : decode cX6_heardOfScript 30 = .ok (.iload 4, 2) := by decide +kernel
theorem dX6_heardOfScript_32 : decode cX6_heardOfScript 32 = .ok (.invokevirtual 188, 3) := by decide +kernel
theorem dX6_heardOfScript_35 : decode cX6_heardOfScript 35 = .ok (.istore 5, 2) := by decide +kernel
theorem dX6_heardOfScript_37 : decode cX6_heardOfScript 37 = .ok (.iload 5, 2) := by decide +kernel
theorem dX6_heardOfScript_39 : decode cX6_heardOfScript 39 = .ok (.ifCond .le 21, 3) := by decide +kernel
theorem dX6_heardOfScript_42 : decode cX6_heardOfScript 42 = .ok (.aload_n 0, 1) := by decide +kernel
theorem dX6_heardOfScript_43 : decode cX6_heardOfScript 43 = .ok (.getfield 39, 3) := by decide +kernel
theorem dX6_heardOfScript_46 : decode cX6_heardOfScript 46 = .ok (.iload_n 3, 1) := by decide +kernel
theorem dX6_heardOfScript_47 : decode cX6_heardOfScript 47 = .ok (.iload 4, 2) := by decide +kernel
theorem dX6_heardOfScript_49 : decode cX6_heardOfScript 49 = .ok (.iload 5, 2) := by decide +kernel
theorem dX6_heardOfScript_51 : decode cX6_heardOfScript 51 = .ok (.bipush 50, 2) := by decide +kernel
theorem dX6_heardOfScript_53 : decode cX6_heardOfScript 53 = .ok (.aload_n 0, 1) := by decide +kernel
theorem dX6_heardOfScript_54 : decode cX6_heardOfScript 54 = .ok (.getfield 29, 3) := by decide +kernel
theorem dX6_heardOfScript_57 : decode cX6_heardOfScript 57 = .ok (.invokevirtual 246, 3) := by decide +kernel
theorem dX6_heardOfScript_60 : decode cX6_heardOfScript 60 = .ok (.iinc 4 1, 3) := by decide +kernel
theorem dX6_heardOfScript_63 : decode cX6_heardOfScript 63 = .ok (.goto (-41), 3) := by decide +kernel
theorem dX6_heardOfScript_66 : decode cX6_heardOfScript 66 = .ok (.aload_n 0, 1) := by decide +kernel
theorem dX6_heardOfScript_67 : decode cX6_heardOfScript 67 = .ok (.getfield 39, 3) := by decide +kernel
theorem dX6_heardOfScript_70 : decode cX6_heardOfScript 70 = .ok (.iload_n 3, 1) := by decide +kernel
theorem dX6_heardOfScript_71 : decode cX6_heardOfScript 71 = .ok (.invokevirtual 134, 3) := by decide +kernel
theorem dX6_heardOfScript_74 : decode cX6_heardOfScript 74 = .ok (.ireturn, 1) := by decide +kernel
set_option maxRecDepth 20000 in
theorem ggX6_bothPlaysClear_X0_allWords : GoodIn wsX6_bothPlaysClear wsX0_allWords := goodIn_r _ [9, 10, 11, 12, 8, 13, 14, 15, 16, 17, 18, 19, 20, 98, 99, 100, 101, 102, 103, 104, 105] (by decide +kernel) (by decide +kernel)
set_option maxRecDepth 20000 in
theorem gX6_bothPlaysClear_X0_allWords : GoodIn wsX6_bothPlaysClear (wsV RX6 114 RX0 yX0_allWords wsX0_allWords) := goodIn_app (goodIn_of _ (by decide +kernel)) ggX6_bothPlaysClear_X0_allWords
set_option maxRecDepth 20000 in
theorem ggX6_bothPlaysClear_X3_hush : GoodIn wsX6_bothPlaysClear wsX3_hush := goodIn_r _ [25, 26, 27, 28, 29, 30, 18, 31, 32, 20, 33, 34, 35, 36, 106, 107, 104, 105] (by decide +kernel) (by decide +kernel)
set_option maxRecDepth 20000 in
theorem gX6_bothPlaysClear_X3_hush : GoodIn wsX6_bothPlaysClear (wsV RX6 213 RX3 yX3_hush wsX3_hush) := goodIn_app (goodIn_of _ (by decide +kernel)) ggX6_bothPlaysClear_X3_hush
set_option maxRecDepth 20000 in
theorem ggX6_bothPlaysClear_X3_play : GoodIn wsX6_bothPlaysClear wsX3_play := goodIn_r _ [40, 41, 11, 12, 8, 13, 14, 15, 16, 17, 18, 19, 20, 42, 43, 44, 45, 46, 47, 48, 49, 32, 50, 51, 52, 24, 53, 54, 55, 56, 57, 58, 59, 60, 61, 62, 63, 64, 65, 66, 67, 68, 69, 70, 71, 72, 73, 74, 27, 26, 75, 76, 77, 78, 79, 98, 99, 100, 101, 102, 103, 104, 105, 108, 109, 106, 107] (by decide +kernel) (by decide +kernel)
set_option maxRecDepth 20000 in
theorem gX6_bothPlaysClear_X3_play : GoodIn wsX6_bothPlaysClear (wsV RX6 216 RX3 yX3_play wsX3_play) := goodIn_app (goodIn_of _ (by decide +kernel)) ggX6_bothPlaysClear_X3_play
set_option maxRecDepth 20000 in
theorem ggX6_bothPlaysClear_X3_clearOf : GoodIn wsX6_bothPlaysClear wsX3_clearOf := goodIn_r _ [83, 41, 11, 12, 8, 13, 14, 15, 16, 17, 18, 19, 20, 84, 85, 86, 24, 87, 26, 42, 43, 44, 45, 46, 47, 48, 49, 32, 61, 62, 63, 57, 64, 59, 65, 66, 67, 68, 69, 70, 75, 98, 99, 100, 101, 102, 103, 104, 105, 106, 107, 108, 109] (by decide +kernel) (by decide +kernel)
set_option maxRecDepth 20000 in
theorem gX6_bothPlaysClear_X3_clearOf : GoodIn wsX6_bothPlaysClear (wsV RX6 223 RX3 yX3_clearOf wsX3_clearOf) := goodIn_app (goodIn_of _ (by decide +kernel)) ggX6_bothPlaysClear_X3_clearOf
theorem dX6_bothPlaysClear_0 : decode cX6_bothPlaysClear 0 = .ok (.aload_n 0, 1) := by decide +kernel
theorem dX6_bothPlaysClear_1 : decode cX6_bothPlaysClear 1 = .ok (.getfield 19, 3) := by decide +kernel
theorem dX6_bothPlaysClear_4 : decode cX6_bothPlaysClear 4 = .ok (.invokevirtual 114, 3) := by decide +kernel
theorem dX6_bothPlaysClear_7 : decode cX6_bothPlaysClear 7 = .ok (.istore_n 2, 1) := by decide +kernel
theorem dX6_bothPlaysClear_8 : decode cX6_bothPlaysClear 8 = .ok (.aload_n 0, 1) := by decide +kernel
theorem dX6_bothPlaysClear_9 : decode cX6_bothPlaysClear 9 = .ok (.getfield 39, 3) := by decide +kernel
theorem dX6_bothPlaysClear_12 : decode cX6_bothPlaysClear 12 = .ok (.invokevirtual 213, 3) := by decide +kernel
theorem dX6_bothPlaysClear_15 : decode cX6_bothPlaysClear 15 = .ok (.aload_n 0, 1) := by decide +kernel
theorem dX6_bothPlaysClear_16 : decode cX6_bothPlaysClear 16 = .ok (.getfield 39, 3) := by decide +kernel
theorem dX6_bothPlaysClear_19 : decode cX6_bothPlaysClear 19 = .ok (.aload_n 0, 1) := by decide +kernel
theorem dX6_bothPlaysClear_20 : decode cX6_bothPlaysClear 20 = .ok (.getfield 19, 3) := by decide +kernel
theorem dX6_bothPlaysClear_23 : decode cX6_bothPlaysClear 23 = .ok (.iload_n 2, 1) := by decide +kernel
theorem dX6_bothPlaysClear_24 : decode cX6_bothPlaysClear 24 = .ok (.aload_n 0, 1) := by decide +kernel
theorem dX6_bothPlaysClear_25 : decode cX6_bothPlaysClear 25 = .ok (.getfield 29, 3) := by decide +kernel
theorem dX6_bothPlaysClear_28 : decode cX6_bothPlaysClear 28 = .ok (.iconst 0, 1) := by decide +kernel
theorem dX6_bothPlaysClear_29 : decode cX6_bothPlaysClear 29 = .ok (.invokevirtual 216, 3) := by decide +kernel
theorem dX6_bothPlaysClear_32 : decode cX6_bothPlaysClear 32 = .ok (.aload_n 0, 1) := by decide +kernel
theorem dX6_bothPlaysClear_33 : decode cX6_bothPlaysClear 33 = .ok (.getfield 39, 3) := by decide +kernel
theorem dX6_bothPlaysClear_36 : decode cX6_bothPlaysClear 36 = .ok (.aload_n 0, 1) := by decide +kernel
theorem dX6_bothPlaysClear_37 : decode cX6_bothPlaysClear 37 = .ok (.getfield 19, 3) := by decide +kernel
theorem dX6_bothPlaysClear_40 : decode cX6_bothPlaysClear 40 = .ok (.iload_n 2, 1) := by decide +kernel
theorem dX6_bothPlaysClear_41 : decode cX6_bothPlaysClear 41 = .ok (.aload_n 0, 1) := by decide +kernel
theorem dX6_bothPlaysClear_42 : decode cX6_bothPlaysClear 42 = .ok (.getfield 33, 3) := by decide +kernel
theorem dX6_bothPlaysClear_45 : decode cX6_bothPlaysClear 45 = .ok (.iload_n 1, 1) := by decide +kernel
theorem dX6_bothPlaysClear_46 : decode cX6_bothPlaysClear 46 = .ok (.invokevirtual 216, 3) := by decide +kernel
theorem dX6_bothPlaysClear_49 : decode cX6_bothPlaysClear 49 = .ok (.aload_n 0, 1) := by decide +kernel
theorem dX6_bothPlaysClear_50 : decode cX6_bothPlaysClear 50 = .ok (.getfield 39, 3) := by decide +kernel
theorem dX6_bothPlaysClear_53 : decode cX6_bothPlaysClear 53 = .ok (.aload_n 0, 1) := by decide +kernel
theorem dX6_bothPlaysClear_54 : decode cX6_bothPlaysClear 54 = .ok (.getfield 19, 3) := by decide +kernel
theorem dX6_bothPlaysClear_57 : decode cX6_bothPlaysClear 57 = .ok (.iload_n 2, 1) := by decide +kernel
theorem dX6_bothPlaysClear_58 : decode cX6_bothPlaysClear 58 = .ok (.aload_n 0, 1) := by decide +kernel
theorem dX6_bothPlaysClear_59 : decode cX6_bothPlaysClear 59 = .ok (.getfield 29, 3) := by decide +kernel
theorem dX6_bothPlaysClear_62 : decode cX6_bothPlaysClear 62 = .ok (.iconst 0, 1) := by decide +kernel
theorem dX6_bothPlaysClear_63 : decode cX6_bothPlaysClear 63 = .ok (.invokevirtual 223, 3) := by decide +kernel
theorem dX6_bothPlaysClear_66 : decode cX6_bothPlaysClear 66 = .ok (.iload_n 2, 1) := by decide +kernel
theorem dX6_bothPlaysClear_67 : decode cX6_bothPlaysClear 67 = .ok (.if_icmp .ne 28, 3) := by decide +kernel
theorem dX6_bothPlaysClear_70 : decode cX6_bothPlaysClear 70 = .ok (.aload_n 0, 1) := by decide +kernel
theorem dX6_bothPlaysClear_71 : decode cX6_bothPlaysClear 71 = .ok (.getfield 39, 3) := by decide +kernel
theorem dX6_bothPlaysClear_74 : decode cX6_bothPlaysClear 74 = .ok (.aload_n 0, 1) := by decide +kernel
theorem dX6_bothPlaysClear_75 : decode cX6_bothPlaysClear 75 = .ok (.getfield 19, 3) := by decide +kernel
theorem dX6_bothPlaysClear_78 : decode cX6_bothPlaysClear 78 = .ok (.iload_n 2, 1) := by decide +kernel
theorem dX6_bothPlaysClear_79 : decode cX6_bothPlaysClear 79 = .ok (.aload_n 0, 1) := by decide +kernel
theorem dX6_bothPlaysClear_80 : decode cX6_bothPlaysClear 80 = .ok (.getfield 33, 3) := by decide +kernel
theorem dX6_bothPlaysClear_83 : decode cX6_bothPlaysClear 83 = .ok (.iload_n 1, 1) := by decide +kernel
theorem dX6_bothPlaysClear_84 : decode cX6_bothPlaysClear 84 = .ok (.invokevirtual 223, 3) := by decide +kernel
theorem dX6_bothPlaysClear_87 : decode cX6_bothPlaysClear 87 = .ok (.iload_n 2, 1) := by decide +kernel
theorem dX6_bothPlaysClear_88 : decode cX6_bothPlaysClear 88 = .ok (.if_icmp .ne 7, 3) := by decide +kernel
theorem dX6_bothPlaysClear_91 : decode cX6_bothPlaysClear 91 = .ok (.iconst 1, 1) := by decide +kernel
theorem dX6_bothPlaysClear_92 : decode cX6_bothPlaysClear 92 = .ok (.goto 4, 3) := by decide +kernel
theorem dX6_bothPlaysClear_95 : decode cX6_bothPlaysClear 95 = .ok (.iconst 0, 1) := by decide +kernel
theorem dX6_bothPlaysClear_96 : decode cX6_bothPlaysClear 96 = .ok (.ireturn, 1) := by decide +kernel
set_option maxRecDepth 20000 in
theorem ggX6_leastHeckle_X0_allWords : GoodIn wsX6_leastHeckle wsX0_allWords := goodIn_r _ [8, 9, 10, 11, 7, 12, 13, 14, 15, 16, 17, 18, 19, 161, 162, 163, 164, 165, 166, 167, 168] (by decide +kernel) (by decide +kernel)
set_option maxRecDepth 20000 in
theorem gX6_leastHeckle_X0_allWords : GoodIn wsX6_leastHeckle (wsV RX6 114 RX0 yX0_allWords wsX0_allWords) := goodIn_app (goodIn_of _ (by decide +kernel)) ggX6_leastHeckle_X0_allWords
set_option maxRecDepth 20000 in
theorem ggX6_leastHeckle_X6_clearSet : GoodIn wsX6_leastHeckle wsX6_clearSet := goodIn_r _ [24, 25, 3, 26, 27, 28, 23, 29, 30, 31, 32, 33, 34, 35, 36, 37, 38, 39, 40, 41, 42, 43, 17, 44, 19, 45, 46, 47, 48, 49, 50, 51, 52, 53, 54, 55, 56, 7, 57, 58, 14, 15, 16, 18, 59, 60, 61, 62, 63, 64, 65, 66, 67, 68, 69, 70, 71, 72, 73, 74, 75, 76, 77, 78, 79, 80, 81, 82, 83, 84, 85, 86, 87, 88, 89, 90, 91, 92, 93, 94, 95, 10, 11, 12, 13, 96, 97, 98, 99, 100, 101, 102, 103, 104, 105, 106, 107, 108, 109, 110, 111, 112, 113, 114, 115, 116, 117, 118, 119, 120, 121, 122, 123, 124, 125, 126, 127, 128, 129, 130, 131, 132, 133, 134, 151, 152, 153, 154, 155, 156, 157, 158, 159, 160, 161, 162, 163, 164, 165, 166, 169, 170, 167, 168, 171, 172] (by decide +kernel) (by decide +kernel)
set_option maxRecDepth 20000 in
theorem gX6_leastHeckle_X6_clearSet : GoodIn wsX6_leastHeckle (wsV RX6 117 RX6 yX6_clearSet wsX6_clearSet) := goodIn_app (goodIn_of _ (by decide +kernel)) ggX6_leastHeckle_X6_clearSet
set_option maxRecDepth 20000 in
theorem ggX6_leastHeckle_X5_trace : GoodIn wsX6_leastHeckle wsX5_trace := goodIn_r _ [34, 35, 36, 37, 38, 39, 40, 41, 42, 43, 17, 44, 19, 45, 46, 47, 33, 48, 49, 50, 51, 52, 53, 54, 55, 56, 7, 57, 58, 14, 15, 16, 18, 59, 60, 61, 62, 63, 64, 65, 66, 67, 68, 69, 70, 71, 72, 73, 74, 75, 169, 170, 161, 162, 163, 164, 165, 166, 167, 168] (by decide +kernel) (by decide +kernel)
set_option maxRecDepth 20000 in
theorem gX6_leastHeckle_X5_trace : GoodIn wsX6_leastHeckle (wsV RX6 191 RX5 yX5_trace wsX5_trace) := goodIn_app (goodIn_of _ (by decide +kernel)) ggX6_leastHeckle_X5_trace
set_option maxRecDepth 20000 in
theorem ggX6_leastHeckle_X0_wordCount : GoodIn wsX6_leastHeckle wsX0_wordCount := goodIn_r _ [12, 13, 14, 15, 16, 17, 18, 19, 161, 162, 163, 164, 165, 166, 167, 168] (by decide +kernel) (by decide +kernel)
set_option maxRecDepth 20000 in
theorem gX6_leastHeckle_X0_wordCount : GoodIn wsX6_leastHeckle (wsV RX6 90 RX0 yX0_wordCount wsX0_wordCount) := goodIn_app (goodIn_of _ (by decide +kernel)) ggX6_leastHeckle_X0_wordCount
set_option maxRecDepth 20000 in
theorem ggX6_leastHeckle_X0_wordPart : GoodIn wsX6_leastHeckle wsX0_wordPart := goodIn_r _ [99, 13, 72, 73, 74, 17, 75, 19, 53, 161, 162, 163, 164, 165, 166, 167, 168] (by decide +kernel) (by decide +kernel)
set_option maxRecDepth 20000 in
theorem gX6_leastHeckle_X0_wordPart : GoodIn wsX6_leastHeckle (wsV RX6 121 RX0 yX0_wordPart wsX0_wordPart) := goodIn_app (goodIn_of _ (by decide +kernel)) ggX6_leastHeckle_X0_wordPart
set_option maxRecDepth 20000 in
theorem ggX6_leastHeckle_X5_later : GoodIn wsX6_leastHeckle wsX5_later := goodIn_r _ [112, 35, 113, 73, 74, 17, 75, 19, 53, 169, 170, 167, 168] (by decide +kernel) (by decide +kernel)
set_option maxRecDepth 20000 in
theorem gX6_leastHeckle_X5_later : GoodIn wsX6_leastHeckle (wsV RX6 240 RX5 yX5_later wsX5_later) := goodIn_app (goodIn_of _ (by decide +kernel)) ggX6_leastHeckle_X5_later
set_option maxRecDepth 20000 in
theorem ggX6_leastHeckle_X6_leastAgainst : GoodIn wsX6_leastHeckle wsX6_leastAgainst := goodIn_r _ [141, 2, 25, 142, 105, 106, 33, 107, 35, 108, 15, 16, 17, 18, 19, 143, 144, 145, 79, 146, 82, 122, 73, 74, 75, 53, 147, 115, 116, 117, 36, 113, 137, 110, 111, 112, 148, 149, 23, 150, 151, 152, 153, 154, 155, 156, 157, 158, 159, 160, 169, 170, 167, 168, 171, 172] (by decide +kernel) (by decide +kernel)
set_option maxRecDepth 20000 in
theorem gX6_leastHeckle_X6_leastAgainst : GoodIn wsX6_leastHeckle (wsV RX6 250 RX6 yX6_leastAgainst wsX6_leastAgainst) := goodIn_app (goodIn_of _ (by decide +kernel)) ggX6_leastHeckle_X6_leastAgainst
theorem dX6_leastHeckle_0 : decode cX6_leastHeckle 0 = .ok (.aload_n 0, 1) := by decide +kernel
theorem dX6_leastHeckle_1 : decode cX6_leastHeckle 1 = .ok (.aload_n 0, 1) := by decide +kernel
theorem dX6_leastHeckle_2 : decode cX6_leastHeckle 2 = .ok (.getfield 19, 3) := by decide +kernel
theorem dX6_leastHeckle_5 : decode cX6_leastHeckle 5 = .ok (.aload_n 0, 1) := by decide +kernel
theorem dX6_leastHeckle_6 : decode cX6_leastHeckle 6 = .ok (.getfield 19, 3) := by decide +kernel
theorem dX6_leastHeckle_9 : decode cX6_leastHeckle 9 = .ok (.getfield 110, 3) := by decide +kernel
theorem dX6_leastHeckle_12 : decode cX6_leastHeckle 12 = .ok (.aload_n 0, 1) := by decide +kernel
theorem dX6_leastHeckle_13 : decode cX6_leastHeckle 13 = .ok (.getfield 19, 3) := by decide +kernel
theorem dX6_leastHeckle_16 : decode cX6_leastHeckle 16 = .ok (.invokevirtual 114, 3) := by decide +kernel
theorem dX6_leastHeckle_19 : decode cX6_leastHeckle 19 = .ok (.invokevirtual 117, 3) := by decide +kernel
theorem dX6_leastHeckle_22 : decode cX6_leastHeckle 22 = .ok (.istore_n 3, 1) := by decide +kernel
theorem dX6_leastHeckle_23 : decode cX6_leastHeckle 23 = .ok (.bipush (-4), 2) := by decide +kernel
theorem dX6_leastHeckle_25 : decode cX6_leastHeckle 25 = .ok (.istore 4, 2) := by decide +kernel
theorem dX6_leastHeckle_27 : decode cX6_leastHeckle 27 = .ok (.aload_n 0, 1) := by decide +kernel
theorem dX6_leastHeckle_28 : decode cX6_leastHeckle 28 = .ok (.getfield 33, 3) := by decide +kernel
theorem dX6_leastHeckle_31 : decode cX6_leastHeckle 31 = .ok (.aload_n 0, 1) := by decide +kernel
theorem dX6_leastHeckle_32 : decode cX6_leastHeckle 32 = .ok (.getfield 19, 3) := by decide +kernel
theorem dX6_leastHeckle_35 : decode cX6_leastHeckle 35 = .ok (.iload_n 1, 1) := by decide +kernel
theorem dX6_leastHeckle_36 : decode cX6_leastHeckle 36 = .ok (.aload_n 0, 1) := by decide +kernel
theorem dX6_leastHeckle_37 : decode cX6_leastHeckle 37 = .ok (.getfield 19, 3) := by decide +kernel
theorem dX6_leastHeckle_40 : decode cX6_leastHeckle 40 = .ok (.getfield 110, 3) := by decide +kernel
theorem dX6_leastHeckle_43 : decode cX6_leastHeckle 43 = .ok (.invokevirtual 191, 3) := by decide +kernel
theorem dX6_leastHeckle_46 : decode cX6_leastHeckle 46 = .ok (.iconst 0, 1) := by decide +kernel
theorem dX6_leastHeckle_47 : decode cX6_leastHeckle 47 = .ok (.istore 5, 2) := by decide +kernel
theorem dX6_leastHeckle_49 : decode cX6_leastHeckle 49 = .ok (.iload 5, 2) := by decide +kernel
theorem dX6_leastHeckle_51 : decode cX6_leastHeckle 51 = .ok (.aload_n 0, 1) := by decide +kernel
theorem dX6_leastHeckle_52 : decode cX6_leastHeckle 52 = .ok (.getfield 19, 3) := by decide +kernel
theorem dX6_leastHeckle_55 : decode cX6_leastHeckle 55 = .ok (.invokevirtual 90, 3) := by decide +kernel
theorem dX6_leastHeckle_58 : decode cX6_leastHeckle 58 = .ok (.if_icmp .ge 60, 3) := by decide +kernel
theorem dX6_leastHeckle_61 : decode cX6_leastHeckle 61 = .ok (.iload_n 3, 1) := by decide +kernel
theorem dX6_leastHeckle_62 : decode cX6_leastHeckle 62 = .ok (.iload 5, 2) := by decide +kernel
theorem dX6_leastHeckle_64 : decode cX6_leastHeckle 64 = .ok (.ishr, 1) := by decide +kernel
theorem dX6_leastHeckle_65 : decode cX6_leastHeckle 65 = .ok (.iconst 1, 1) := by decide +kernel
theorem dX6_leastHeckle_66 : decode cX6_leastHeckle 66 = .ok (.iand, 1) := by decide +kernel
theorem dX6_leastHeckle_67 : decode cX6_leastHeckle 67 = .ok (.iconst 1, 1) := by decide +kernel
theorem dX6_leastHeckle_68 : decode cX6_leastHeckle 68 = .ok (.if_icmp .ne 44, 3) := by decide +kernel
theorem dX6_leastHeckle_71 : decode cX6_leastHeckle 71 = .ok (.aload_n 0, 1) := by decide +kernel
theorem dX6_leastHeckle_72 : decode cX6_leastHeckle 72 = .ok (.getfield 19, 3) := by decide +kernel
theorem dX6_leastHeckle_75 : decode cX6_leastHeckle 75 = .ok (.iload 5, 2) := by decide +kernel
theorem dX6_leastHeckle_77 : decode cX6_leastHeckle 77 = .ok (.iconst 1, 1) := by decide +kernel
theorem dX6_leastHeckle_78 : decode cX6_leastHeckle 78 = .ok (.invokevirtual 121, 3) := by decide +kernel
theorem dX6_leastHeckle_81 : decode cX6_leastHeckle 81 = .ok (.iload_n 2, 1) := by decide +kernel
theorem dX6_leastHeckle_82 : decode cX6_leastHeckle 82 = .ok (.if_icmp .eq 30, 3) := by decide +kernel
theorem dX6_leastHeckle_85 : decode cX6_leastHeckle 85 = .ok (.aload_n 0, 1) := by decide +kernel
theorem dX6_leastHeckle_86 : decode cX6_leastHeckle 86 = .ok (.aload_n 0, 1) := by decide +kernel
theorem dX6_leastHeckle_87 : decode cX6_leastHeckle 87 = .ok (.getfield 19, 3) := by decide +kernel
theorem dX6_leastHeckle_90 : decode cX6_leastHeckle 90 = .ok (.iload 5, 2) := by decide +kernel
theorem dX6_leastHeckle_92 : decode cX6_leastHeckle 92 = .ok (.iconst 0, 1) := by decide +kernel
theorem dX6_leastHeckle_93 : decode cX6_leastHeckle 93 = .ok (.invokevirtual 121, 3) := by decide +kernel
theorem dX6_leastHeckle_96 : decode cX6_leastHeckle 96 = .ok (.aload_n 0, 1) := by decide +kernel
theorem dX6_leastHeckle_97 : decode cX6_leastHeckle 97 = .ok (.getfield 29, 3) := by decide +kernel
theorem dX6_leastHeckle_100 : decode cX6_leastHeckle 100 = .ok (.iconst 0, 1) := by decide +kernel
theorem dX6_leastHeckle_101 : decode cX6_leastHeckle 101 = .ok (.invokevirtual 240, 3) := by decide +kernel
theorem dX6_leastHeckle_104 : decode cX6_leastHeckle 104 = .ok (.iadd, 1) := by decide +kernel
theorem dX6_leastHeckle_105 : decode cX6_leastHeckle 105 = .ok (.iload 4, 2) := by decide +kernel
theorem dX6_leastHeckle_107 : decode cX6_leastHeckle 107 = .ok (.invokevirtual 250, 3) := by decide +kernel
theorem dX6_leastHeckle_110 : decode cX6_leastHeckle 110 = .ok (.istore 4, 2) := by decide +kernel
theorem dX6_leastHeckle_112 : decode cX6_leastHeckle 112 = .ok (.iinc 5 1, 3) := by decide +kernel
theorem dX6_leastHeckle_115 : decode cX6_leastHeckle 115 = .ok (.goto (-66), 3) := by decide +kernel
theorem dX6_leastHeckle_118 : decode cX6_leastHeckle 118 = .ok (.iload 4, 2) := by decide +kernel
theorem dX6_leastHeckle_120 : decode cX6_leastHeckle 120 = .ok (.ireturn, 1) := by decide +kernel
set_option maxRecDepth 20000 in
theorem ggX6_leastAgainst_X5_size : GoodIn wsX6_leastAgainst wsX5_size := goodIn_r _ [7, 8, 9, 10, 11, 12, 13, 14, 50, 51, 52, 53] (by decide +kernel) (by decide +kernel)
set_option maxRecDepth 20000 in
theorem gX6_leastAgainst_X5_size : GoodIn wsX6_leastAgainst (wsV RX6 253 RX5 yX5_size wsX5_size) := goodIn_app (goodIn_of _ (by decide +kernel)) ggX6_leastAgainst_X5_size
set_option maxRecDepth 20000 in
theorem ggX6_leastAgainst_X3_loudnessAt : GoodIn wsX6_leastAgainst wsX3_loudnessAt := goodIn_r _ [19, 20, 21, 22, 23, 12, 24, 14, 25, 54, 55, 52, 53] (by decide +kernel) (by decide +kernel)
set_option maxRecDepth 20000 in
theorem gX6_leastAgainst_X3_loudnessAt : GoodIn wsX6_leastAgainst (wsV RX6 254 RX3 yX3_loudnessAt wsX3_loudnessAt) := goodIn_app (goodIn_of _ (by decide +kernel)) ggX6_leastAgainst_X3_loudnessAt
set_option maxRecDepth 20000 in
theorem ggX6_leastAgainst_X5_weaker : GoodIn wsX6_leastAgainst wsX5_weaker := goodIn_r _ [29, 30, 31, 22, 23, 12, 24, 14, 25, 50, 51, 52, 53] (by decide +kernel) (by decide +kernel)
set_option maxRecDepth 20000 in
theorem gX6_leastAgainst_X5_weaker : GoodIn wsX6_leastAgainst (wsV RX6 257 RX5 yX5_weaker wsX5_weaker) := goodIn_app (goodIn_of _ (by decide +kernel)) ggX6_leastAgainst_X5_weaker
set_option maxRecDepth 20000 in
theorem ggX6_leastAgainst_X5_later : GoodIn wsX6_leastAgainst wsX5_later := goodIn_r _ [35, 8, 31, 22, 23, 12, 24, 14, 25, 50, 51, 52, 53] (by decide +kernel) (by decide +kernel)
set_option maxRecDepth 20000 in
theorem gX6_leastAgainst_X5_later : GoodIn wsX6_leastAgainst (wsV RX6 240 RX5 yX5_later wsX5_later) := goodIn_app (goodIn_of _ (by decide +kernel)) ggX6_leastAgainst_X5_later
set_option maxRecDepth 20000 in
theorem ggX6_leastAgainst_X6_within : GoodIn wsX6_leastAgainst wsX6_within := goodIn_r _ [39] (by decide +kernel) (by decide +kernel)
set_option maxRecDepth 20000 in
theorem gX6_leastAgainst_X6_within : GoodIn wsX6_leastAgainst (va_wsS RX6 72 yX6_within wsX6_within) := goodIn_app (goodIn_of _ (by decide +kernel)) ggX6_leastAgainst_X6_within
theorem dX6_leastAgainst_0 : decode cX6_leastAgainst 0 = .ok (.iload_n 2, 1) := by decide +kernel
theorem dX6_leastAgainst_1 : decode cX6_leastAgainst 1 = .ok (.istore_n 3, 1) := by decide +kernel
theorem dX6_leastAgainst_2 : decode cX6_leastAgainst 2 = .ok (.iconst 0, 1) := by decide +kernel
theorem dX6_leastAgainst_3 : decode cX6_leastAgainst 3 = .ok (.istore 4, 2) := by decide +kernel
theorem dX6_leastAgainst_5 : decode cX6_leastAgainst 5 = .ok (.iload 4, 2) := by decide +kernel
theorem dX6_leastAgainst_7 : decode cX6_leastAgainst 7 = .ok (.aload_n 0, 1) := by decide +kernel
theorem dX6_leastAgainst_8 : decode cX6_leastAgainst 8 = .ok (.getfield 33, 3) := by decide +kernel
theorem dX6_leastAgainst_11 : decode cX6_leastAgainst 11 = .ok (.invokevirtual 253, 3) := by decide +kernel
theorem dX6_leastAgainst_14 : decode cX6_leastAgainst 14 = .ok (.if_icmp .ge 102, 3) := by decide +kernel
theorem dX6_leastAgainst_17 : decode cX6_leastAgainst 17 = .ok (.aload_n 0, 1) := by decide +kernel
theorem dX6_leastAgainst_18 : decode cX6_leastAgainst 18 = .ok (.getfield 39, 3) := by decide +kernel
theorem dX6_leastAgainst_21 : decode cX6_leastAgainst 21 = .ok (.iload_n 1, 1) := by decide +kernel
theorem dX6_leastAgainst_22 : decode cX6_leastAgainst 22 = .ok (.invokevirtual 254, 3) := by decide +kernel
theorem dX6_leastAgainst_25 : decode cX6_leastAgainst 25 = .ok (.aload_n 0, 1) := by decide +kernel
theorem dX6_leastAgainst_26 : decode cX6_leastAgainst 26 = .ok (.getfield 33, 3) := by decide +kernel
theorem dX6_leastAgainst_29 : decode cX6_leastAgainst 29 = .ok (.iload 4, 2) := by decide +kernel
theorem dX6_leastAgainst_31 : decode cX6_leastAgainst 31 = .ok (.invokevirtual 257, 3) := by decide +kernel
theorem dX6_leastAgainst_34 : decode cX6_leastAgainst 34 = .ok (.iadd, 1) := by decide +kernel
theorem dX6_leastAgainst_35 : decode cX6_leastAgainst 35 = .ok (.istore 5, 2) := by decide +kernel
theorem dX6_leastAgainst_37 : decode cX6_leastAgainst 37 = .ok (.iload_n 1, 1) := by decide +kernel
theorem dX6_leastAgainst_38 : decode cX6_leastAgainst 38 = .ok (.aload_n 0, 1) := by decide +kernel
theorem dX6_leastAgainst_39 : decode cX6_leastAgainst 39 = .ok (.getfield 33, 3) := by decide +kernel
theorem dX6_leastAgainst_42 : decode cX6_leastAgainst 42 = .ok (.iload 4, 2) := by decide +kernel
theorem dX6_leastAgainst_44 : decode cX6_leastAgainst 44 = .ok (.invokevirtual 240, 3) := by decide +kernel
theorem dX6_leastAgainst_47 : decode cX6_leastAgainst 47 = .ok (.isub, 1) := by decide +kernel
theorem dX6_leastAgainst_48 : decode cX6_leastAgainst 48 = .ok (.istore 6, 2) := by decide +kernel
theorem dX6_leastAgainst_50 : decode cX6_leastAgainst 50 = .ok (.iload 5, 2) := by decide +kernel
theorem dX6_leastAgainst_52 : decode cX6_leastAgainst 52 = .ok (.sipush 150, 3) := by decide +kernel
theorem dX6_leastAgainst_55 : decode cX6_leastAgainst 55 = .ok (.imul, 1) := by decide +kernel
theorem dX6_leastAgainst_56 : decode cX6_leastAgainst 56 = .ok (.iload 6, 2) := by decide +kernel
theorem dX6_leastAgainst_58 : decode cX6_leastAgainst 58 = .ok (.iadd, 1) := by decide +kernel
theorem dX6_leastAgainst_59 : decode cX6_leastAgainst 59 = .ok (.istore 7, 2) := by decide +kernel
theorem dX6_leastAgainst_61 : decode cX6_leastAgainst 61 = .ok (.iload 5, 2) := by decide +kernel
theorem dX6_leastAgainst_63 : decode cX6_leastAgainst 63 = .ok (.iconst 1, 1) := by decide +kernel
theorem dX6_leastAgainst_64 : decode cX6_leastAgainst 64 = .ok (.bipush 60, 2) := by decide +kernel
theorem dX6_leastAgainst_66 : decode cX6_leastAgainst 66 = .ok (.invokestatic 72, 3) := by decide +kernel
theorem dX6_leastAgainst_69 : decode cX6_leastAgainst 69 = .ok (.ifCond .eq 18, 3) := by decide +kernel
theorem dX6_leastAgainst_72 : decode cX6_leastAgainst 72 = .ok (.iload 6, 2) := by decide +kernel
theorem dX6_leastAgainst_74 : decode cX6_leastAgainst 74 = .ok (.iconst 0, 1) := by decide +kernel
theorem dX6_leastAgainst_75 : decode cX6_leastAgainst 75 = .ok (.bipush 60, 2) := by decide +kernel
theorem dX6_leastAgainst_77 : decode cX6_leastAgainst 77 = .ok (.invokestatic 72, 3) := by decide +kernel
theorem dX6_leastAgainst_80 : decode cX6_leastAgainst 80 = .ok (.ifCond .eq 7, 3) := by decide +kernel
theorem dX6_leastAgainst_83 : decode cX6_leastAgainst 83 = .ok (.iconst 1, 1) := by decide +kernel
theorem dX6_leastAgainst_84 : decode cX6_leastAgainst 84 = .ok (.goto 4, 3) := by decide +kernel
theorem dX6_leastAgainst_87 : decode cX6_leastAgainst 87 = .ok (.iconst 0, 1) := by decide +kernel
theorem dX6_leastAgainst_88 : decode cX6_leastAgainst 88 = .ok (.istore 8, 2) := by decide +kernel
theorem dX6_leastAgainst_90 : decode cX6_leastAgainst 90 = .ok (.iload 8, 2) := by decide +kernel
theorem dX6_leastAgainst_92 : decode cX6_leastAgainst 92 = .ok (.ifCond .eq 18, 3) := by decide +kernel
theorem dX6_leastAgainst_95 : decode cX6_leastAgainst 95 = .ok (.iload_n 3, 1) := by decide +kernel
theorem dX6_leastAgainst_96 : decode cX6_leastAgainst 96 = .ok (.bipush (-4), 2) := by decide +kernel
theorem dX6_leastAgainst_98 : decode cX6_leastAgainst 98 = .ok (.if_icmp .eq 9, 3) := by decide +kernel
theorem dX6_leastAgainst_101 : decode cX6_leastAgainst 101 = .ok (.iload 7, 2) := by decide +kernel
theorem dX6_leastAgainst_103 : decode cX6_leastAgainst 103 = .ok (.iload_n 3, 1) := by decide +kernel
theorem dX6_leastAgainst_104 : decode cX6_leastAgainst 104 = .ok (.if_icmp .ge 6, 3) := by decide +kernel
theorem dX6_leastAgainst_107 : decode cX6_leastAgainst 107 = .ok (.iload 7, 2) := by decide +kernel
theorem dX6_leastAgainst_109 : decode cX6_leastAgainst 109 = .ok (.istore_n 3, 1) := by decide +kernel
theorem dX6_leastAgainst_110 : decode cX6_leastAgainst 110 = .ok (.iinc 4 1, 3) := by decide +kernel
theorem dX6_leastAgainst_113 : decode cX6_leastAgainst 113 = .ok (.goto (-108), 3) := by decide +kernel
theorem dX6_leastAgainst_116 : decode cX6_leastAgainst 116 = .ok (.iload_n 3, 1) := by decide +kernel
theorem dX6_leastAgainst_117 : decode cX6_leastAgainst 117 = .ok (.ireturn, 1) := by decide +kernel
set_option maxRecDepth 20000 in
theorem ggX6_isAsEarsHeard_X1_size : GoodIn wsX6_isAsEarsHeard wsX1_size := goodIn_r _ [7, 8, 138, 139] (by decide +kernel) (by decide +kernel)
set_option maxRecDepth 20000 in
theorem gX6_isAsEarsHeard_X1_size : GoodIn wsX6_isAsEarsHeard (wsV RX6 181 RX1 yX1_size wsX1_size) := goodIn_app (goodIn_of _ (by decide +kernel)) ggX6_isAsEarsHeard_X1_size
set_option maxRecDepth 20000 in
theorem ggX6_isAsEarsHeard_X1_at : GoodIn wsX6_isAsEarsHeard wsX1_at := goodIn_r _ [12, 8, 13, 138, 139] (by decide +kernel) (by decide +kernel)
set_option maxRecDepth 20000 in
theorem gX6_isAsEarsHeard_X1_at : GoodIn wsX6_isAsEarsHeard (wsV RX6 237 RX1 yX1_at wsX1_at) := goodIn_app (goodIn_of _ (by decide +kernel)) ggX6_isAsEarsHeard_X1_at
set_option maxRecDepth 20000 in
theorem ggX6_isAsEarsHeard_X0_allWords : GoodIn wsX6_isAsEarsHeard wsX0_allWords := goodIn_r _ [18, 19, 20, 21, 17, 22, 23, 24, 4, 5, 6, 7, 8, 140, 141, 142, 143, 144, 145, 138, 139] (by decide +kernel) (by decide +kernel)
set_option maxRecDepth 20000 in
theorem gX6_isAsEarsHeard_X0_allWords : GoodIn wsX6_isAsEarsHeard (wsV RX6 114 RX0 yX0_allWords wsX0_allWords) := goodIn_app (goodIn_of _ (by decide +kernel)) ggX6_isAsEarsHeard_X0_allWords
set_option maxRecDepth 20000 in
theorem ggX6_isAsEarsHeard_X6_listen : GoodIn wsX6_isAsEarsHeard wsX6_listen := goodIn_r _ [29, 30, 2, 31, 32, 33, 34, 35, 36, 37, 38, 39, 40, 41, 42, 43, 44, 6, 45, 8, 46, 47, 48, 49, 50, 51, 52, 53, 13, 54, 55, 56, 17, 57, 58, 24, 4, 5, 7, 59, 60, 61, 62, 63, 64, 65, 66, 67, 68, 69, 70, 71, 72, 10, 11, 12, 73, 74, 75, 76, 77, 78, 79, 80, 81, 82, 83, 84, 85, 86, 87, 88, 89, 90, 91, 92, 20, 21, 22, 23, 93, 94, 95, 96, 97, 98, 99, 100, 101, 102, 103, 104, 105, 106, 107, 108, 109, 110, 111, 112, 113, 114, 115, 116, 117, 118, 119, 120, 121, 122, 123, 128, 129, 130, 131, 132, 133, 134, 135, 136, 137, 140, 141, 142, 143, 144, 145, 146, 147, 138, 139, 148, 149] (by decide +kernel) (by decide +kernel)
set_option maxRecDepth 20000 in
theorem gX6_isAsEarsHeard_X6_listen : GoodIn wsX6_isAsEarsHeard (wsV RX6 130 RX6 yX6_listen wsX6_listen) := goodIn_app (goodIn_of _ (by decide +kernel)) ggX6_isAsEarsHeard_X6_listen
set_option maxRecDepth 20000 in
theorem ggX6_isAsEarsHeard_X3_valueAt : GoodIn wsX6_isAsEarsHeard wsX3_valueAt := goodIn_r _ [127, 78, 119, 10, 11, 6, 12, 8, 13, 148, 149, 138, 139] (by decide +kernel) (by decide +kernel)
set_option maxRecDepth 20000 in
theorem gX6_isAsEarsHeard_X3_valueAt : GoodIn wsX6_isAsEarsHeard (wsV RX6 134 RX3 yX3_valueAt wsX3_valueAt) := goodIn_app (goodIn_of _ (by decide +kernel)) ggX6_isAsEarsHeard_X3_valueAt
theorem dX6_isAsEarsHeard_0 : decode cX6_isAsEarsHeard 0 = .ok (.iconst 0, 1) := by decide +kernel
theorem dX6_isAsEarsHeard_1 : decode cX6_isAsEarsHeard 1 = .ok (.istore_n 2, 1) := by decide +kernel
theorem dX6_isAsEarsHeard_2 : decode cX6_isAsEarsHeard 2 = .ok (.iload_n 2, 1) := by decide +kernel
theorem dX6_isAsEarsHeard_3 : decode cX6_isAsEarsHeard 3 = .ok (.aload_n 0, 1) := by decide +kernel
theorem dX6_isAsEarsHeard_4 : decode cX6_isAsEarsHeard 4 = .ok (.getfield 62, 3) := by decide +kernel
theorem dX6_isAsEarsHeard_7 : decode cX6_isAsEarsHeard 7 = .ok (.invokevirtual 181, 3) := by decide +kernel
theorem dX6_isAsEarsHeard_10 : decode cX6_isAsEarsHeard 10 = .ok (.if_icmp .ge 60, 3) := by decide +kernel
theorem dX6_isAsEarsHeard_13 : decode cX6_isAsEarsHeard 13 = .ok (.aload_n 0, 1) := by decide +kernel
theorem dX6_isAsEarsHeard_14 : decode cX6_isAsEarsHeard 14 = .ok (.aload_n 1, 1) := by decide +kernel
theorem dX6_isAsEarsHeard_15 : decode cX6_isAsEarsHeard 15 = .ok (.aload_n 0, 1) := by decide +kernel
theorem dX6_isAsEarsHeard_16 : decode cX6_isAsEarsHeard 16 = .ok (.getfield 62, 3) := by decide +kernel
theorem dX6_isAsEarsHeard_19 : decode cX6_isAsEarsHeard 19 = .ok (.iload_n 2, 1) := by decide +kernel
theorem dX6_isAsEarsHeard_20 : decode cX6_isAsEarsHeard 20 = .ok (.iconst 0, 1) := by decide +kernel
theorem dX6_isAsEarsHeard_21 : decode cX6_isAsEarsHeard 21 = .ok (.iadd, 1) := by decide +kernel
theorem dX6_isAsEarsHeard_22 : decode cX6_isAsEarsHeard 22 = .ok (.invokevirtual 237, 3) := by decide +kernel
theorem dX6_isAsEarsHeard_25 : decode cX6_isAsEarsHeard 25 = .ok (.aload_n 1, 1) := by decide +kernel
theorem dX6_isAsEarsHeard_26 : decode cX6_isAsEarsHeard 26 = .ok (.invokevirtual 114, 3) := by decide +kernel
theorem dX6_isAsEarsHeard_29 : decode cX6_isAsEarsHeard 29 = .ok (.invokevirtual 130, 3) := by decide +kernel
theorem dX6_isAsEarsHeard_32 : decode cX6_isAsEarsHeard 32 = .ok (.aload_n 0, 1) := by decide +kernel
theorem dX6_isAsEarsHeard_33 : decode cX6_isAsEarsHeard 33 = .ok (.getfield 39, 3) := by decide +kernel
theorem dX6_isAsEarsHeard_36 : decode cX6_isAsEarsHeard 36 = .ok (.aload_n 0, 1) := by decide +kernel
theorem dX6_isAsEarsHeard_37 : decode cX6_isAsEarsHeard 37 = .ok (.getfield 62, 3) := by decide +kernel
theorem dX6_isAsEarsHeard_40 : decode cX6_isAsEarsHeard 40 = .ok (.iload_n 2, 1) := by decide +kernel
theorem dX6_isAsEarsHeard_41 : decode cX6_isAsEarsHeard 41 = .ok (.iconst 1, 1) := by decide +kernel
theorem dX6_isAsEarsHeard_42 : decode cX6_isAsEarsHeard 42 = .ok (.iadd, 1) := by decide +kernel
theorem dX6_isAsEarsHeard_43 : decode cX6_isAsEarsHeard 43 = .ok (.invokevirtual 237, 3) := by decide +kernel
theorem dX6_isAsEarsHeard_46 : decode cX6_isAsEarsHeard 46 = .ok (.invokevirtual 134, 3) := by decide +kernel
theorem dX6_isAsEarsHeard_49 : decode cX6_isAsEarsHeard 49 = .ok (.aload_n 0, 1) := by decide +kernel
theorem dX6_isAsEarsHeard_50 : decode cX6_isAsEarsHeard 50 = .ok (.getfield 62, 3) := by decide +kernel
theorem dX6_isAsEarsHeard_53 : decode cX6_isAsEarsHeard 53 = .ok (.iload_n 2, 1) := by decide +kernel
theorem dX6_isAsEarsHeard_54 : decode cX6_isAsEarsHeard 54 = .ok (.iconst 2, 1) := by decide +kernel
theorem dX6_isAsEarsHeard_55 : decode cX6_isAsEarsHeard 55 = .ok (.iadd, 1) := by decide +kernel
theorem dX6_isAsEarsHeard_56 : decode cX6_isAsEarsHeard 56 = .ok (.invokevirtual 237, 3) := by decide +kernel
theorem dX6_isAsEarsHeard_59 : decode cX6_isAsEarsHeard 59 = .ok (.if_icmp .eq 5, 3) := by decide +kernel
theorem dX6_isAsEarsHeard_62 : decode cX6_isAsEarsHeard 62 = .ok (.iconst 0, 1) := by decide +kernel
theorem dX6_isAsEarsHeard_63 : decode cX6_isAsEarsHeard 63 = .ok (.ireturn, 1) := by decide +kernel
theorem dX6_isAsEarsHeard_64 : decode cX6_isAsEarsHeard 64 = .ok (.iinc 2 3, 3) := by decide +kernel
theorem dX6_isAsEarsHeard_67 : decode cX6_isAsEarsHeard 67 = .ok (.goto (-65), 3) := by decide +kernel
theorem dX6_isAsEarsHeard_70 : decode cX6_isAsEarsHeard 70 = .ok (.iconst 1, 1) := by decide +kernel
theorem dX6_isAsEarsHeard_71 : decode cX6_isAsEarsHeard 71 = .ok (.ireturn, 1) := by decide +kernel
set_option maxRecDepth 20000 in
theorem ggX6_addEveningHeckler_X5_trace : GoodIn wsX6_addEveningHeckler wsX5_trace := goodIn_r _ [11, 12, 13, 14, 15, 16, 17, 18, 19, 20, 21, 22, 23, 24, 25, 26, 10, 27, 28, 29, 30, 31, 32, 33, 34, 35, 36, 37, 38, 39, 40, 41, 42, 43, 44, 45, 46, 47, 48, 49, 50, 51, 52, 53, 54, 55, 56, 57, 58, 59, 111, 112, 105, 106, 107, 108, 109, 110, 113, 114] (by decide +kernel) (by decide +kernel)
set_option maxRecDepth 20000 in
theorem gX6_addEveningHeckler_X5_trace : GoodIn wsX6_addEveningHeckler (wsV RX6 191 RX5 yX5_trace wsX5_trace) := goodIn_app (goodIn_of _ (by decide +kernel)) ggX6_addEveningHeckler_X5_trace
set_option maxRecDepth 20000 in
theorem ggX6_addEveningHeckler_X0_wordPart : GoodIn wsX6_addEveningHeckler wsX0_wordPart := goodIn_r _ [63, 64, 56, 57, 58, 21, 59, 23, 32, 105, 106, 107, 108, 109, 110, 113, 114] (by decide +kernel) (by decide +kernel)
set_option maxRecDepth 20000 in
theorem gX6_addEveningHeckler_X0_wordPart : GoodIn wsX6_addEveningHeckler (wsV RX6 121 RX0 yX0_wordPart wsX0_wordPart) := goodIn_app (goodIn_of _ (by decide +kernel)) ggX6_addEveningHeckler_X0_wordPart
set_option maxRecDepth 20000 in
theorem ggX6_addEveningHeckler_X3_carry : GoodIn wsX6_addEveningHeckler wsX3_carry := goodIn_r _ [69, 70, 71, 72, 10, 73, 12, 74, 40, 41, 21, 42, 23, 75, 76, 77, 78, 79, 57, 58, 59, 32, 80, 81, 82, 83, 13, 84, 85, 86, 68, 87, 88, 89, 90, 91, 92, 93, 94, 111, 112, 113, 114, 115, 116] (by decide +kernel) (by decide +kernel)
set_option maxRecDepth 20000 in
theorem gX6_addEveningHeckler_X3_carry : GoodIn wsX6_addEveningHeckler (wsV RX6 266 RX3 yX3_carry wsX3_carry) := goodIn_app (goodIn_of _ (by decide +kernel)) ggX6_addEveningHeckler_X3_carry
theorem dX6_addEveningHeckler_0 : decode cX6_addEveningHeckler 0 = .ok (.ldc2_w 260, 3) := by decide +kernel
theorem dX6_addEveningHeckler_3 : decode cX6_addEveningHeckler 3 = .ok (.iload_n 1, 1) := by decide +kernel
theorem dX6_addEveningHeckler_4 : decode cX6_addEveningHeckler 4 = .ok (.i2l, 1) := by decide +kernel
theorem dX6_addEveningHeckler_5 : decode cX6_addEveningHeckler 5 = .ok (.lmul, 1) := by decide +kernel
theorem dX6_addEveningHeckler_6 : decode cX6_addEveningHeckler 6 = .ok (.ldc2_w 262, 3) := by decide +kernel
theorem dX6_addEveningHeckler_9 : decode cX6_addEveningHeckler 9 = .ok (.iload_n 2, 1) := by decide +kernel
theorem dX6_addEveningHeckler_10 : decode cX6_addEveningHeckler 10 = .ok (.i2l, 1) := by decide +kernel
theorem dX6_addEveningHeckler_11 : decode cX6_addEveningHeckler 11 = .ok (.lmul, 1) := by decide +kernel
theorem dX6_addEveningHeckler_12 : decode cX6_addEveningHeckler 12 = .ok (.ladd, 1) := by decide +kernel
theorem dX6_addEveningHeckler_13 : decode cX6_addEveningHeckler 13 = .ok (.lconst 1, 1) := by decide +kernel
theorem dX6_addEveningHeckler_14 : decode cX6_addEveningHeckler 14 = .ok (.ladd, 1) := by decide +kernel
theorem dX6_addEveningHeckler_15 : decode cX6_addEveningHeckler 15 = .ok (.lstore_n 3, 1) := by decide +kernel
theorem dX6_addEveningHeckler_16 : decode cX6_addEveningHeckler 16 = .ok (.lload_n 3, 1) := by decide +kernel
theorem dX6_addEveningHeckler_17 : decode cX6_addEveningHeckler 17 = .ok (.lload_n 3, 1) := by decide +kernel
theorem dX6_addEveningHeckler_18 : decode cX6_addEveningHeckler 18 = .ok (.lmul, 1) := by decide +kernel
theorem dX6_addEveningHeckler_19 : decode cX6_addEveningHeckler 19 = .ok (.ldc2_w 264, 3) := by decide +kernel
theorem dX6_addEveningHeckler_22 : decode cX6_addEveningHeckler 22 = .ok (.lrem, 1) := by decide +kernel
theorem dX6_addEveningHeckler_23 : decode cX6_addEveningHeckler 23 = .ok (.l2i, 1) := by decide +kernel
theorem dX6_addEveningHeckler_24 : decode cX6_addEveningHeckler 24 = .ok (.istore 5, 2) := by decide +kernel
theorem dX6_addEveningHeckler_26 : decode cX6_addEveningHeckler 26 = .ok (.iload 5, 2) := by decide +kernel
theorem dX6_addEveningHeckler_28 : decode cX6_addEveningHeckler 28 = .ok (.iconst 3, 1) := by decide +kernel
theorem dX6_addEveningHeckler_29 : decode cX6_addEveningHeckler 29 = .ok (.irem, 1) := by decide +kernel
theorem dX6_addEveningHeckler_30 : decode cX6_addEveningHeckler 30 = .ok (.ifCond .ne 67, 3) := by decide +kernel
theorem dX6_addEveningHeckler_33 : decode cX6_addEveningHeckler 33 = .ok (.aload_n 0, 1) := by decide +kernel
theorem dX6_addEveningHeckler_34 : decode cX6_addEveningHeckler 34 = .ok (.getfield 33, 3) := by decide +kernel
theorem dX6_addEveningHeckler_37 : decode cX6_addEveningHeckler 37 = .ok (.aload_n 0, 1) := by decide +kernel
theorem dX6_addEveningHeckler_38 : decode cX6_addEveningHeckler 38 = .ok (.getfield 19, 3) := by decide +kernel
theorem dX6_addEveningHeckler_41 : decode cX6_addEveningHeckler 41 = .ok (.iload 5, 2) := by decide +kernel
theorem dX6_addEveningHeckler_43 : decode cX6_addEveningHeckler 43 = .ok (.bipush 21, 2) := by decide +kernel
theorem dX6_addEveningHeckler_45 : decode cX6_addEveningHeckler 45 = .ok (.idiv, 1) := by decide +kernel
theorem dX6_addEveningHeckler_46 : decode cX6_addEveningHeckler 46 = .ok (.bipush 41, 2) := by decide +kernel
theorem dX6_addEveningHeckler_48 : decode cX6_addEveningHeckler 48 = .ok (.irem, 1) := by decide +kernel
theorem dX6_addEveningHeckler_49 : decode cX6_addEveningHeckler 49 = .ok (.aload_n 0, 1) := by decide +kernel
theorem dX6_addEveningHeckler_50 : decode cX6_addEveningHeckler 50 = .ok (.getfield 19, 3) := by decide +kernel
theorem dX6_addEveningHeckler_53 : decode cX6_addEveningHeckler 53 = .ok (.getfield 110, 3) := by decide +kernel
theorem dX6_addEveningHeckler_56 : decode cX6_addEveningHeckler 56 = .ok (.invokevirtual 191, 3) := by decide +kernel
theorem dX6_addEveningHeckler_59 : decode cX6_addEveningHeckler 59 = .ok (.aload_n 0, 1) := by decide +kernel
theorem dX6_addEveningHeckler_60 : decode cX6_addEveningHeckler 60 = .ok (.getfield 39, 3) := by decide +kernel
theorem dX6_addEveningHeckler_63 : decode cX6_addEveningHeckler 63 = .ok (.aload_n 0, 1) := by decide +kernel
theorem dX6_addEveningHeckler_64 : decode cX6_addEveningHeckler 64 = .ok (.getfield 19, 3) := by decide +kernel
theorem dX6_addEveningHeckler_67 : decode cX6_addEveningHeckler 67 = .ok (.iload_n 2, 1) := by decide +kernel
theorem dX6_addEveningHeckler_68 : decode cX6_addEveningHeckler 68 = .ok (.iconst 0, 1) := by decide +kernel
theorem dX6_addEveningHeckler_69 : decode cX6_addEveningHeckler 69 = .ok (.invokevirtual 121, 3) := by decide +kernel
theorem dX6_addEveningHeckler_72 : decode cX6_addEveningHeckler 72 = .ok (.iload 5, 2) := by decide +kernel
theorem dX6_addEveningHeckler_74 : decode cX6_addEveningHeckler 74 = .ok (.iconst 3, 1) := by decide +kernel
theorem dX6_addEveningHeckler_75 : decode cX6_addEveningHeckler 75 = .ok (.idiv, 1) := by decide +kernel
theorem dX6_addEveningHeckler_76 : decode cX6_addEveningHeckler 76 = .ok (.bipush 7, 2) := by decide +kernel
theorem dX6_addEveningHeckler_78 : decode cX6_addEveningHeckler 78 = .ok (.irem, 1) := by decide +kernel
theorem dX6_addEveningHeckler_79 : decode cX6_addEveningHeckler 79 = .ok (.iconst 1, 1) := by decide +kernel
theorem dX6_addEveningHeckler_80 : decode cX6_addEveningHeckler 80 = .ok (.iadd, 1) := by decide +kernel
theorem dX6_addEveningHeckler_81 : decode cX6_addEveningHeckler 81 = .ok (.aload_n 0, 1) := by decide +kernel
theorem dX6_addEveningHeckler_82 : decode cX6_addEveningHeckler 82 = .ok (.getfield 19, 3) := by decide +kernel
theorem dX6_addEveningHeckler_85 : decode cX6_addEveningHeckler 85 = .ok (.iload_n 2, 1) := by decide +kernel
theorem dX6_addEveningHeckler_86 : decode cX6_addEveningHeckler 86 = .ok (.iconst 2, 1) := by decide +kernel
theorem dX6_addEveningHeckler_87 : decode cX6_addEveningHeckler 87 = .ok (.invokevirtual 121, 3) := by decide +kernel
theorem dX6_addEveningHeckler_90 : decode cX6_addEveningHeckler 90 = .ok (.aload_n 0, 1) := by decide +kernel
theorem dX6_addEveningHeckler_91 : decode cX6_addEveningHeckler 91 = .ok (.getfield 33, 3) := by decide +kernel
theorem dX6_addEveningHeckler_94 : decode cX6_addEveningHeckler 94 = .ok (.invokevirtual 266, 3) := by decide +kernel
theorem dX6_addEveningHeckler_97 : decode cX6_addEveningHeckler 97 = .ok (.return_, 1) := by decide +kernel
set_option maxRecDepth 20000 in
theorem ggX7_init_X7_noCanyon : GoodIn wsX7_init wsX7_noCanyon := goodIn_r _ [31, 6, 10, 11, 15, 16, 17, 32, 33, 34, 35, 36, 37, 38, 39, 40, 41, 42, 43, 44, 45, 46, 47, 48, 49, 50, 51, 52, 53, 54, 55, 56, 57, 58, 59] (by decide +kernel) (by decide +kernel)
set_option maxRecDepth 20000 in
theorem gX7_init_X7_noCanyon : GoodIn wsX7_init (wsV RX7 76 RX7 yX7_noCanyon wsX7_noCanyon) := goodIn_app (goodIn_of _ (by decide +kernel)) ggX7_init_X7_noCanyon
theorem dX7_init_0 : decode cX7_init 0 = .ok (.aload_n 0, 1) := by decide +kernel
theorem dX7_init_1 : decode cX7_init 1 = .ok (.invokespecial 1, 3) := by decide +kernel
theorem dX7_init_4 : decode cX7_init 4 = .ok (.aload_n 0, 1) := by decide +kernel
theorem dX7_init_5 : decode cX7_init 5 = .ok (.sipush 300, 3) := by decide +kernel
theorem dX7_init_8 : decode cX7_init 8 = .ok (.newarray .int, 2) := by decide +kernel
theorem dX7_init_10 : decode cX7_init 10 = .ok (.putfield 7, 3) := by decide +kernel
theorem dX7_init_13 : decode cX7_init 13 = .ok (.aload_n 0, 1) := by decide +kernel
theorem dX7_init_14 : decode cX7_init 14 = .ok (.iconst 2, 1) := by decide +kernel
theorem dX7_init_15 : decode cX7_init 15 = .ok (.newarray .int, 2) := by decide +kernel
theorem dX7_init_17 : decode cX7_init 17 = .ok (.putfield 13, 3) := by decide +kernel
theorem dX7_init_20 : decode cX7_init 20 = .ok (.aload_n 0, 1) := by decide +kernel
theorem dX7_init_21 : decode cX7_init 21 = .ok (.bipush 8, 2) := by decide +kernel
theorem dX7_init_23 : decode cX7_init 23 = .ok (.newarray .int, 2) := by decide +kernel
theorem dX7_init_25 : decode cX7_init 25 = .ok (.putfield 16, 3) := by decide +kernel
theorem dX7_init_28 : decode cX7_init 28 = .ok (.aload_n 0, 1) := by decide +kernel
theorem dX7_init_29 : decode cX7_init 29 = .ok (.bipush 8, 2) := by decide +kernel
theorem dX7_init_31 : decode cX7_init 31 = .ok (.newarray .int, 2) := by decide +kernel
theorem dX7_init_33 : decode cX7_init 33 = .ok (.putfield 19, 3) := by decide +kernel
theorem dX7_init_36 : decode cX7_init 36 = .ok (.aload_n 0, 1) := by decide +kernel
theorem dX7_init_37 : decode cX7_init 37 = .ok (.bipush 8, 2) := by decide +kernel
theorem dX7_init_39 : decode cX7_init 39 = .ok (.newarray .int, 2) := by decide +kernel
theorem dX7_init_41 : decode cX7_init 41 = .ok (.putfield 22, 3) := by decide +kernel
theorem dX7_init_44 : decode cX7_init 44 = .ok (.aload_n 0, 1) := by decide +kernel
theorem dX7_init_45 : decode cX7_init 45 = .ok (.iconst 2, 1) := by decide +kernel
theorem dX7_init_46 : decode cX7_init 46 = .ok (.newarray .int, 2) := by decide +kernel
theorem dX7_init_48 : decode cX7_init 48 = .ok (.putfield 25, 3) := by decide +kernel
theorem dX7_init_51 : decode cX7_init 51 = .ok (.aload_n 0, 1) := by decide +kernel
theorem dX7_init_52 : decode cX7_init 52 = .ok (.iconst 4, 1) := by decide +kernel
theorem dX7_init_53 : decode cX7_init 53 = .ok (.newarray .int, 2) := by decide +kernel
theorem dX7_init_55 : decode cX7_init 55 = .ok (.putfield 28, 3) := by decide +kernel
theorem dX7_init_58 : decode cX7_init 58 = .ok (.aload_n 0, 1) := by decide +kernel
theorem dX7_init_59 : decode cX7_init 59 = .ok (.bipush 32, 2) := by decide +kernel
theorem dX7_init_61 : decode cX7_init 61 = .ok (.newarray .int, 2) := by decide +kernel
theorem dX7_init_63 : decode cX7_init 63 = .ok (.putfield 31, 3) := by decide +kernel
theorem dX7_init_66 : decode cX7_init 66 = .ok (.aload_n 0, 1) := by decide +kernel
theorem dX7_init_67 : decode cX7_init 67 = .ok (.bipush 32, 2) := by decide +kernel
theorem dX7_init_69 : decode cX7_init 69 = .ok (.newarray .int, 2) := by decide +kernel
theorem dX7_init_71 : decode cX7_init 71 = .ok (.putfield 34, 3) := by decide +kernel
theorem dX7_init_74 : decode cX7_init 74 = .ok (.aload_n 0, 1) := by decide +kernel
theorem dX7_init_75 : decode cX7_init 75 = .ok (.bipush 32, 2) := by decide +kernel
theorem dX7_init_77 : decode cX7_init 77 = .ok (.newarray .int, 2) := by decide +kernel
theorem dX7_init_79 : decode cX7_init 79 = .ok (.putfield 37, 3) := by decide +kernel
theorem dX7_init_82 : decode cX7_init 82 = .ok (.aload_n 0, 1) := by decide +kernel
theorem dX7_init_83 : decode cX7_init 83 = .ok (.iconst 4, 1) := by decide +kernel
theorem dX7_init_84 : decode cX7_init 84 = .ok (.newarray .int, 2) := by decide +kernel
theorem dX7_init_86 : decode cX7_init 86 = .ok (.putfield 40, 3) := by decide +kernel
theorem dX7_init_89 : decode cX7_init 89 = .ok (.aload_n 0, 1) := by decide +kernel
theorem dX7_init_90 : decode cX7_init 90 = .ok (.iconst 4, 1) := by decide +kernel
theorem dX7_init_91 : decode cX7_init 91 = .ok (.newarray .int, 2) := by decide +kernel
theorem dX7_init_93 : decode cX7_init 93 = .ok (.putfield 43, 3) := by decide +kernel
theorem dX7_init_96 : decode cX7_init 96 = .ok (.aload_n 0, 1) := by decide +kernel
theorem dX7_init_97 : decode cX7_init 97 = .ok (.iconst 4, 1) := by decide +kernel
theorem dX7_init_98 : decode cX7_init 98 = .ok (.newarray .int, 2) := by decide +kernel
theorem dX7_init_100 : decode cX7_init 100 = .ok (.putfield 46, 3) := by decide +kernel
theorem dX7_init_103 : decode cX7_init 103 = .ok (.aload_n 0, 1) := by decide +kernel
theorem dX7_init_104 : decode cX7_init 104 = .ok (.bipush 32, 2) := by decide +kernel
theorem dX7_init_106 : decode cX7_init 106 = .ok (.newarray .int, 2) := by decide +kernel
theorem dX7_init_108 : decode cX7_init 108 = .ok (.putfield 49, 3) := by decide +kernel
theorem dX7_init_111 : decode cX7_init 111 = .ok (.aload_n 0, 1) := by decide +kernel
theorem dX7_init_112 : decode cX7_init 112 = .ok (.bipush 6, 2) := by decide +kernel
theorem dX7_init_114 : decode cX7_init 114 = .ok (.newarray .int, 2) := by decide +kernel
theorem dX7_init_116 : decode cX7_init 116 = .ok (.putfield 52, 3) := by decide +kernel
theorem dX7_init_119 : decode cX7_init 119 = .ok (.aload_n 0, 1) := by decide +kernel
theorem dX7_init_120 : decode cX7_init 120 = .ok (.bipush 9, 2) := by decide +kernel
theorem dX7_init_122 : decode cX7_init 122 = .ok (.newarray .int, 2) := by decide +kernel
theorem dX7_init_124 : decode cX7_init 124 = .ok (.putfield 55, 3) := by decide +kernel
theorem dX7_init_127 : decode cX7_init 127 = .ok (.aload_n 0, 1) := by decide +kernel
theorem dX7_init_128 : decode cX7_init 128 = .ok (.bipush 9, 2) := by decide +kernel
theorem dX7_init_130 : decode cX7_init 130 = .ok (.newarray .int, 2) := by decide +kernel
theorem dX7_init_132 : decode cX7_init 132 = .ok (.putfield 58, 3) := by decide +kernel
theorem dX7_init_135 : decode cX7_init 135 = .ok (.aload_n 0, 1) := by decide +kernel
theorem dX7_init_136 : decode cX7_init 136 = .ok (.bipush 9, 2) := by decide +kernel
theorem dX7_init_138 : decode cX7_init 138 = .ok (.newarray .int, 2) := by decide +kernel
theorem dX7_init_140 : decode cX7_init 140 = .ok (.putfield 61, 3) := by decide +kernel
theorem dX7_init_143 : decode cX7_init 143 = .ok (.aload_n 0, 1) := by decide +kernel
theorem dX7_init_144 : decode cX7_init 144 = .ok (.iconst 3, 1) := by decide +kernel
theorem dX7_init_145 : decode cX7_init 145 = .ok (.newarray .int, 2) := by decide +kernel
theorem dX7_init_147 : decode cX7_init 147 = .ok (.putfield 64, 3) := by decide +kernel
theorem dX7_init_150 : decode cX7_init 150 = .ok (.aload_n 0, 1) := by decide +kernel
theorem dX7_init_151 : decode cX7_init 151 = .ok (.sipush 150, 3) := by decide +kernel
theorem dX7_init_154 : decode cX7_init 154 = .ok (.newarray .int, 2) := by decide +kernel
theorem dX7_init_156 : decode cX7_init 156 = .ok (.putfield 67, 3) := by decide +kernel
theorem dX7_init_159 : decode cX7_init 159 = .ok (.aload_n 0, 1) := by decide +kernel
theorem dX7_init_160 : decode cX7_init 160 = .ok (.sipush 150, 3) := by decide +kernel
theorem dX7_init_163 : decode cX7_init 163 = .ok (.newarray .int, 2) := by decide +kernel
theorem dX7_init_165 : decode cX7_init 165 = .ok (.putfield 70, 3) := by decide +kernel
theorem dX7_init_168 : decode cX7_init 168 = .ok (.aload_n 0, 1) := by decide +kernel
theorem dX7_init_169 : decode cX7_init 169 = .ok (.bipush 6, 2) := by decide +kernel
theorem dX7_init_171 : decode cX7_init 171 = .ok (.newarray .int, 2) := by decide +kernel
theorem dX7_init_173 : decode cX7_init 173 = .ok (.putfield 73, 3) := by decide +kernel
theorem dX7_init_176 : decode cX7_init 176 = .ok (.aload_n 0, 1) := by decide +kernel
theorem dX7_init_177 : decode cX7_init 177 = .ok (.iconst 0, 1) := by decide +kernel
