theorem dX0_init_0 : decode cX0_init 0 = .ok (.aload_n 0, 1) := by decide +kernel
theorem dX0_init_1 : decode cX0_init 1 = .ok (.invokespecial 3, 3) := by decide +kernel
theorem dX0_init_4 : decode cX0_init 4 = .ok (.aload_n 0, 1) := by decide +kernel
theorem dX0_init_5 : decode cX0_init 5 = .ok (.bipush 8, 2) := by decide +kernel
theorem dX0_init_7 : decode cX0_init 7 = .ok (.newarray .int, 2) := by decide +kernel
theorem dX0_init_9 : decode cX0_init 9 = .ok (.putfield 9, 3) := by decide +kernel
theorem dX0_init_12 : decode cX0_init 12 = .ok (.aload_n 0, 1) := by decide +kernel
theorem dX0_init_13 : decode cX0_init 13 = .ok (.bipush 8, 2) := by decide +kernel
theorem dX0_init_15 : decode cX0_init 15 = .ok (.newarray .int, 2) := by decide +kernel
theorem dX0_init_17 : decode cX0_init 17 = .ok (.putfield 15, 3) := by decide +kernel
theorem dX0_init_20 : decode cX0_init 20 = .ok (.return_, 1) := by decide +kernel
set_option maxRecDepth 20000 in
theorem ggX0_hasLeafAt_X0_leafRow : GoodIn wsX0_hasLeafAt wsX0_leafRow := goodIn_r _ [5, 6, 7, 8] (by decide +kernel) (by decide +kernel)
set_option maxRecDepth 20000 in
theorem gX0_hasLeafAt_X0_leafRow : GoodIn wsX0_hasLeafAt (wsV RX0 18 RX0 yX0_leafRow wsX0_leafRow) := goodIn_app (goodIn_of _ (by decide +kernel)) ggX0_hasLeafAt_X0_leafRow
theorem dX0_hasLeafAt_0 : decode cX0_hasLeafAt 0 = .ok (.aload_n 0, 1) := by decide +kernel
theorem dX0_hasLeafAt_1 : decode cX0_hasLeafAt 1 = .ok (.iload_n 1, 1) := by decide +kernel
theorem dX0_hasLeafAt_2 : decode cX0_hasLeafAt 2 = .ok (.invokevirtual 18, 3) := by decide +kernel
theorem dX0_hasLeafAt_5 : decode cX0_hasLeafAt 5 = .ok (.iload_n 2, 1) := by decide +kernel
theorem dX0_hasLeafAt_6 : decode cX0_hasLeafAt 6 = .ok (.ishr, 1) := by decide +kernel
theorem dX0_hasLeafAt_7 : decode cX0_hasLeafAt 7 = .ok (.iconst 1, 1) := by decide +kernel
theorem dX0_hasLeafAt_8 : decode cX0_hasLeafAt 8 = .ok (.iand, 1) := by decide +kernel
theorem dX0_hasLeafAt_9 : decode cX0_hasLeafAt 9 = .ok (.iconst 1, 1) := by decide +kernel
theorem dX0_hasLeafAt_10 : decode cX0_hasLeafAt 10 = .ok (.if_icmp .ne 7, 3) := by decide +kernel
theorem dX0_hasLeafAt_13 : decode cX0_hasLeafAt 13 = .ok (.iconst 1, 1) := by decide +kernel
theorem dX0_hasLeafAt_14 : decode cX0_hasLeafAt 14 = .ok (.goto 4, 3) := by decide +kernel
theorem dX0_hasLeafAt_17 : decode cX0_hasLeafAt 17 = .ok (.iconst 0, 1) := by decide +kernel
theorem dX0_hasLeafAt_18 : decode cX0_hasLeafAt 18 = .ok (.ireturn, 1) := by decide +kernel
set_option maxRecDepth 20000 in
theorem ggX0_isBareAt_X0_hasLeafAt : GoodIn wsX0_isBareAt wsX0_hasLeafAt := goodIn_r _ [5, 6, 7, 8, 4, 9, 10, 16, 17] (by decide +kernel) (by decide +kernel)
set_option maxRecDepth 20000 in
theorem gX0_isBareAt_X0_hasLeafAt : GoodIn wsX0_isBareAt (wsV RX0 22 RX0 yX0_hasLeafAt wsX0_hasLeafAt) := goodIn_app (goodIn_of _ (by decide +kernel)) ggX0_isBareAt_X0_hasLeafAt
set_option maxRecDepth 20000 in
theorem ggX0_isBareAt_X0_hasCutAt : GoodIn wsX0_isBareAt wsX0_hasCutAt := goodIn_r _ [14, 15, 16, 17] (by decide +kernel) (by decide +kernel)
set_option maxRecDepth 20000 in
theorem gX0_isBareAt_X0_hasCutAt : GoodIn wsX0_isBareAt (wsV RX0 26 RX0 yX0_hasCutAt wsX0_hasCutAt) := goodIn_app (goodIn_of _ (by decide +kernel)) ggX0_isBareAt_X0_hasCutAt
theorem dX0_isBareAt_0 : decode cX0_isBareAt 0 = .ok (.aload_n 0, 1) := by decide +kernel
theorem dX0_isBareAt_1 : decode cX0_isBareAt 1 = .ok (.iload_n 1, 1) := by decide +kernel
theorem dX0_isBareAt_2 : decode cX0_isBareAt 2 = .ok (.iload_n 2, 1) := by decide +kernel
theorem dX0_isBareAt_3 : decode cX0_isBareAt 3 = .ok (.invokevirtual 22, 3) := by decide +kernel
theorem dX0_isBareAt_6 : decode cX0_isBareAt 6 = .ok (.ifCond .ne 16, 3) := by decide +kernel
theorem dX0_isBareAt_9 : decode cX0_isBareAt 9 = .ok (.aload_n 0, 1) := by decide +kernel
theorem dX0_isBareAt_10 : decode cX0_isBareAt 10 = .ok (.iload_n 1, 1) := by decide +kernel
theorem dX0_isBareAt_11 : decode cX0_isBareAt 11 = .ok (.iload_n 2, 1) := by decide +kernel
theorem dX0_isBareAt_12 : decode cX0_isBareAt 12 = .ok (.invokevirtual 26, 3) := by decide +kernel
theorem dX0_isBareAt_15 : decode cX0_isBareAt 15 = .ok (.ifCond .ne 7, 3) := by decide +kernel
theorem dX0_isBareAt_18 : decode cX0_isBareAt 18 = .ok (.iconst 1, 1) := by decide +kernel
theorem dX0_isBareAt_19 : decode cX0_isBareAt 19 = .ok (.goto 4, 3) := by decide +kernel
theorem dX0_isBareAt_22 : decode cX0_isBareAt 22 = .ok (.iconst 0, 1) := by decide +kernel
theorem dX0_isBareAt_23 : decode cX0_isBareAt 23 = .ok (.ireturn, 1) := by decide +kernel
theorem dX0_hasCuts_0 : decode cX0_hasCuts 0 = .ok (.iconst 0, 1) := by decide +kernel
theorem dX0_hasCuts_1 : decode cX0_hasCuts 1 = .ok (.istore_n 1, 1) := by decide +kernel
theorem dX0_hasCuts_2 : decode cX0_hasCuts 2 = .ok (.iconst 0, 1) := by decide +kernel
theorem dX0_hasCuts_3 : decode cX0_hasCuts 3 = .ok (.istore_n 2, 1) := by decide +kernel
theorem dX0_hasCuts_4 : decode cX0_hasCuts 4 = .ok (.iload_n 2, 1) := by decide +kernel
theorem dX0_hasCuts_5 : decode cX0_hasCuts 5 = .ok (.bipush 8, 2) := by decide +kernel
theorem dX0_hasCuts_7 : decode cX0_hasCuts 7 = .ok (.if_icmp .ge 18, 3) := by decide +kernel
theorem dX0_hasCuts_10 : decode cX0_hasCuts 10 = .ok (.iload_n 1, 1) := by decide +kernel
theorem dX0_hasCuts_11 : decode cX0_hasCuts 11 = .ok (.aload_n 0, 1) := by decide +kernel
theorem dX0_hasCuts_12 : decode cX0_hasCuts 12 = .ok (.getfield 15, 3) := by decide +kernel
theorem dX0_hasCuts_15 : decode cX0_hasCuts 15 = .ok (.iload_n 2, 1) := by decide +kernel
theorem dX0_hasCuts_16 : decode cX0_hasCuts 16 = .ok (.iaload, 1) := by decide +kernel
theorem dX0_hasCuts_17 : decode cX0_hasCuts 17 = .ok (.ior, 1) := by decide +kernel
theorem dX0_hasCuts_18 : decode cX0_hasCuts 18 = .ok (.istore_n 1, 1) := by decide +kernel
theorem dX0_hasCuts_19 : decode cX0_hasCuts 19 = .ok (.iinc 2 1, 3) := by decide +kernel
theorem dX0_hasCuts_22 : decode cX0_hasCuts 22 = .ok (.goto (-18), 3) := by decide +kernel
theorem dX0_hasCuts_25 : decode cX0_hasCuts 25 = .ok (.iload_n 1, 1) := by decide +kernel
theorem dX0_hasCuts_26 : decode cX0_hasCuts 26 = .ok (.ifCond .eq 7, 3) := by decide +kernel
theorem dX0_hasCuts_29 : decode cX0_hasCuts 29 = .ok (.iconst 1, 1) := by decide +kernel
theorem dX0_hasCuts_30 : decode cX0_hasCuts 30 = .ok (.goto 4, 3) := by decide +kernel
theorem dX0_hasCuts_33 : decode cX0_hasCuts 33 = .ok (.iconst 0, 1) := by decide +kernel
theorem dX0_hasCuts_34 : decode cX0_hasCuts 34 = .ok (.ireturn, 1) := by decide +kernel
set_option maxRecDepth 20000 in
theorem ggX0_putLeaf_X1_isCell : GoodIn wsX0_putLeaf wsX1_isCell := goodIn_r _ [4] (by decide +kernel) (by decide +kernel)
set_option maxRecDepth 20000 in
theorem gX0_putLeaf_X1_isCell_n29 : GoodIn wsX0_putLeaf (wsX1_isCell) := ggX0_putLeaf_X1_isCell
theorem dX0_putLeaf_0 : decode cX0_putLeaf 0 = .ok (.iload_n 1, 1) := by decide +kernel
theorem dX0_putLeaf_1 : decode cX0_putLeaf 1 = .ok (.iload_n 2, 1) := by decide +kernel
theorem dX0_putLeaf_2 : decode cX0_putLeaf 2 = .ok (.invokestatic 29, 3) := by decide +kernel
theorem dX0_putLeaf_5 : decode cX0_putLeaf 5 = .ok (.ifCond .eq 15, 3) := by decide +kernel
theorem dX0_putLeaf_8 : decode cX0_putLeaf 8 = .ok (.aload_n 0, 1) := by decide +kernel
theorem dX0_putLeaf_9 : decode cX0_putLeaf 9 = .ok (.getfield 9, 3) := by decide +kernel
theorem dX0_putLeaf_12 : decode cX0_putLeaf 12 = .ok (.iload_n 1, 1) := by decide +kernel
theorem dX0_putLeaf_13 : decode cX0_putLeaf 13 = .ok (.dup2, 1) := by decide +kernel
theorem dX0_putLeaf_14 : decode cX0_putLeaf 14 = .ok (.iaload, 1) := by decide +kernel
theorem dX0_putLeaf_15 : decode cX0_putLeaf 15 = .ok (.iconst 1, 1) := by decide +kernel
theorem dX0_putLeaf_16 : decode cX0_putLeaf 16 = .ok (.iload_n 2, 1) := by decide +kernel
theorem dX0_putLeaf_17 : decode cX0_putLeaf 17 = .ok (.ishl, 1) := by decide +kernel
theorem dX0_putLeaf_18 : decode cX0_putLeaf 18 = .ok (.ior, 1) := by decide +kernel
theorem dX0_putLeaf_19 : decode cX0_putLeaf 19 = .ok (.iastore, 1) := by decide +kernel
theorem dX0_putLeaf_20 : decode cX0_putLeaf 20 = .ok (.return_, 1) := by decide +kernel
set_option maxRecDepth 20000 in
theorem ggX0_cutLeaf_X0_takeLeaf : GoodIn wsX0_cutLeaf wsX0_takeLeaf := goodIn_r _ [6, 7, 8, 9, 10, 11, 12] (by decide +kernel) (by decide +kernel)
set_option maxRecDepth 20000 in
theorem gX0_cutLeaf_X0_takeLeaf : GoodIn wsX0_cutLeaf (wsV RX0 32 RX0 yX0_takeLeaf wsX0_takeLeaf) := goodIn_app (goodIn_of _ (by decide +kernel)) ggX0_cutLeaf_X0_takeLeaf
set_option maxRecDepth 20000 in
theorem ggX0_cutLeaf_X1_isCell : GoodIn wsX0_cutLeaf wsX1_isCell := goodIn_r _ [10] (by decide +kernel) (by decide +kernel)
set_option maxRecDepth 20000 in
theorem gX0_cutLeaf_X1_isCell_n29 : GoodIn wsX0_cutLeaf (wsX1_isCell) := ggX0_cutLeaf_X1_isCell
theorem dX0_cutLeaf_0 : decode cX0_cutLeaf 0 = .ok (.aload_n 0, 1) := by decide +kernel
theorem dX0_cutLeaf_1 : decode cX0_cutLeaf 1 = .ok (.iload_n 1, 1) := by decide +kernel
theorem dX0_cutLeaf_2 : decode cX0_cutLeaf 2 = .ok (.iload_n 2, 1) := by decide +kernel
theorem dX0_cutLeaf_3 : decode cX0_cutLeaf 3 = .ok (.invokevirtual 32, 3) := by decide +kernel
theorem dX0_cutLeaf_6 : decode cX0_cutLeaf 6 = .ok (.iload_n 1, 1) := by decide +kernel
theorem dX0_cutLeaf_7 : decode cX0_cutLeaf 7 = .ok (.iload_n 2, 1) := by decide +kernel
theorem dX0_cutLeaf_8 : decode cX0_cutLeaf 8 = .ok (.invokestatic 29, 3) := by decide +kernel
theorem dX0_cutLeaf_11 : decode cX0_cutLeaf 11 = .ok (.ifCond .eq 15, 3) := by decide +kernel
theorem dX0_cutLeaf_14 : decode cX0_cutLeaf 14 = .ok (.aload_n 0, 1) := by decide +kernel
theorem dX0_cutLeaf_15 : decode cX0_cutLeaf 15 = .ok (.getfield 15, 3) := by decide +kernel
theorem dX0_cutLeaf_18 : decode cX0_cutLeaf 18 = .ok (.iload_n 1, 1) := by decide +kernel
theorem dX0_cutLeaf_19 : decode cX0_cutLeaf 19 = .ok (.dup2, 1) := by decide +kernel
theorem dX0_cutLeaf_20 : decode cX0_cutLeaf 20 = .ok (.iaload, 1) := by decide +kernel
theorem dX0_cutLeaf_21 : decode cX0_cutLeaf 21 = .ok (.iconst 1, 1) := by decide +kernel
theorem dX0_cutLeaf_22 : decode cX0_cutLeaf 22 = .ok (.iload_n 2, 1) := by decide +kernel
theorem dX0_cutLeaf_23 : decode cX0_cutLeaf 23 = .ok (.ishl, 1) := by decide +kernel
theorem dX0_cutLeaf_24 : decode cX0_cutLeaf 24 = .ok (.ior, 1) := by decide +kernel
theorem dX0_cutLeaf_25 : decode cX0_cutLeaf 25 = .ok (.iastore, 1) := by decide +kernel
theorem dX0_cutLeaf_26 : decode cX0_cutLeaf 26 = .ok (.return_, 1) := by decide +kernel
theorem dX0_copyFrom_0 : decode cX0_copyFrom 0 = .ok (.iconst 0, 1) := by decide +kernel
theorem dX0_copyFrom_1 : decode cX0_copyFrom 1 = .ok (.istore_n 2, 1) := by decide +kernel
theorem dX0_copyFrom_2 : decode cX0_copyFrom 2 = .ok (.iload_n 2, 1) := by decide +kernel
theorem dX0_copyFrom_3 : decode cX0_copyFrom 3 = .ok (.bipush 8, 2) := by decide +kernel
theorem dX0_copyFrom_5 : decode cX0_copyFrom 5 = .ok (.if_icmp .ge 33, 3) := by decide +kernel
theorem dX0_copyFrom_8 : decode cX0_copyFrom 8 = .ok (.aload_n 0, 1) := by decide +kernel
theorem dX0_copyFrom_9 : decode cX0_copyFrom 9 = .ok (.getfield 9, 3) := by decide +kernel
theorem dX0_copyFrom_12 : decode cX0_copyFrom 12 = .ok (.iload_n 2, 1) := by decide +kernel
theorem dX0_copyFrom_13 : decode cX0_copyFrom 13 = .ok (.aload_n 1, 1) := by decide +kernel
theorem dX0_copyFrom_14 : decode cX0_copyFrom 14 = .ok (.getfield 9, 3) := by decide +kernel
theorem dX0_copyFrom_17 : decode cX0_copyFrom 17 = .ok (.iload_n 2, 1) := by decide +kernel
theorem dX0_copyFrom_18 : decode cX0_copyFrom 18 = .ok (.iaload, 1) := by decide +kernel
theorem dX0_copyFrom_19 : decode cX0_copyFrom 19 = .ok (.iastore, 1) := by decide +kernel
theorem dX0_copyFrom_20 : decode cX0_copyFrom 20 = .ok (.aload_n 0, 1) := by decide +kernel
theorem dX0_copyFrom_21 : decode cX0_copyFrom 21 = .ok (.getfield 15, 3) := by decide +kernel
theorem dX0_copyFrom_24 : decode cX0_copyFrom 24 = .ok (.iload_n 2, 1) := by decide +kernel
theorem dX0_copyFrom_25 : decode cX0_copyFrom 25 = .ok (.aload_n 1, 1) := by decide +kernel
theorem dX0_copyFrom_26 : decode cX0_copyFrom 26 = .ok (.getfield 15, 3) := by decide +kernel
theorem dX0_copyFrom_29 : decode cX0_copyFrom 29 = .ok (.iload_n 2, 1) := by decide +kernel
theorem dX0_copyFrom_30 : decode cX0_copyFrom 30 = .ok (.iaload, 1) := by decide +kernel
theorem dX0_copyFrom_31 : decode cX0_copyFrom 31 = .ok (.iastore, 1) := by decide +kernel
theorem dX0_copyFrom_32 : decode cX0_copyFrom 32 = .ok (.iinc 2 1, 3) := by decide +kernel
theorem dX0_copyFrom_35 : decode cX0_copyFrom 35 = .ok (.goto (-33), 3) := by decide +kernel
theorem dX0_copyFrom_38 : decode cX0_copyFrom 38 = .ok (.return_, 1) := by decide +kernel
set_option maxRecDepth 20000 in
theorem ggX0_shadeAt_X0_leafRow : GoodIn wsX0_shadeAt wsX0_leafRow := goodIn_r _ [5, 6, 7, 8] (by decide +kernel) (by decide +kernel)
set_option maxRecDepth 20000 in
theorem gX0_shadeAt_X0_leafRow : GoodIn wsX0_shadeAt (wsV RX0 18 RX0 yX0_leafRow wsX0_leafRow) := goodIn_app (goodIn_of _ (by decide +kernel)) ggX0_shadeAt_X0_leafRow
theorem dX0_shadeAt_0 : decode cX0_shadeAt 0 = .ok (.iconst 0, 1) := by decide +kernel
theorem dX0_shadeAt_1 : decode cX0_shadeAt 1 = .ok (.istore_n 3, 1) := by decide +kernel
theorem dX0_shadeAt_2 : decode cX0_shadeAt 2 = .ok (.iload_n 1, 1) := by decide +kernel
theorem dX0_shadeAt_3 : decode cX0_shadeAt 3 = .ok (.iconst 1, 1) := by decide +kernel
theorem dX0_shadeAt_4 : decode cX0_shadeAt 4 = .ok (.iadd, 1) := by decide +kernel
theorem dX0_shadeAt_5 : decode cX0_shadeAt 5 = .ok (.istore 4, 2) := by decide +kernel
theorem dX0_shadeAt_7 : decode cX0_shadeAt 7 = .ok (.iload 4, 2) := by decide +kernel
theorem dX0_shadeAt_9 : decode cX0_shadeAt 9 = .ok (.bipush 8, 2) := by decide +kernel
theorem dX0_shadeAt_11 : decode cX0_shadeAt 11 = .ok (.if_icmp .ge 22, 3) := by decide +kernel
theorem dX0_shadeAt_14 : decode cX0_shadeAt 14 = .ok (.iload_n 3, 1) := by decide +kernel
theorem dX0_shadeAt_15 : decode cX0_shadeAt 15 = .ok (.aload_n 0, 1) := by decide +kernel
theorem dX0_shadeAt_16 : decode cX0_shadeAt 16 = .ok (.iload 4, 2) := by decide +kernel
theorem dX0_shadeAt_18 : decode cX0_shadeAt 18 = .ok (.invokevirtual 18, 3) := by decide +kernel
theorem dX0_shadeAt_21 : decode cX0_shadeAt 21 = .ok (.iload_n 2, 1) := by decide +kernel
theorem dX0_shadeAt_22 : decode cX0_shadeAt 22 = .ok (.ishr, 1) := by decide +kernel
theorem dX0_shadeAt_23 : decode cX0_shadeAt 23 = .ok (.iconst 1, 1) := by decide +kernel
theorem dX0_shadeAt_24 : decode cX0_shadeAt 24 = .ok (.iand, 1) := by decide +kernel
theorem dX0_shadeAt_25 : decode cX0_shadeAt 25 = .ok (.iadd, 1) := by decide +kernel
theorem dX0_shadeAt_26 : decode cX0_shadeAt 26 = .ok (.istore_n 3, 1) := by decide +kernel
theorem dX0_shadeAt_27 : decode cX0_shadeAt 27 = .ok (.iinc 4 1, 3) := by decide +kernel
theorem dX0_shadeAt_30 : decode cX0_shadeAt 30 = .ok (.goto (-23), 3) := by decide +kernel
theorem dX0_shadeAt_33 : decode cX0_shadeAt 33 = .ok (.iload_n 3, 1) := by decide +kernel
theorem dX0_shadeAt_34 : decode cX0_shadeAt 34 = .ok (.ireturn, 1) := by decide +kernel
set_option maxRecDepth 20000 in
theorem ggX0_holdersAt_X0_leafRowAsSeen : GoodIn wsX0_holdersAt wsX0_leafRowAsSeen := goodIn_r _ [5, 6, 7, 8, 4, 9, 10, 21, 22] (by decide +kernel) (by decide +kernel)
set_option maxRecDepth 20000 in
theorem gX0_holdersAt_X0_leafRowAsSeen : GoodIn wsX0_holdersAt (wsV RX0 36 RX0 yX0_leafRowAsSeen wsX0_leafRowAsSeen) := goodIn_app (goodIn_of _ (by decide +kernel)) ggX0_holdersAt_X0_leafRowAsSeen
set_option maxRecDepth 20000 in
theorem ggX0_holdersAt_X0_countHolders : GoodIn wsX0_holdersAt wsX0_countHolders := goodIn_r _ [13, 14, 15, 16, 17, 18, 19, 20] (by decide +kernel) (by decide +kernel)
set_option maxRecDepth 20000 in
theorem gX0_holdersAt_X0_countHolders : GoodIn wsX0_holdersAt (va_wsS RX0 40 yX0_countHolders wsX0_countHolders) := goodIn_app (goodIn_of _ (by decide +kernel)) ggX0_holdersAt_X0_countHolders
theorem dX0_holdersAt_0 : decode cX0_holdersAt 0 = .ok (.aload_n 0, 1) := by decide +kernel
theorem dX0_holdersAt_1 : decode cX0_holdersAt 1 = .ok (.iload_n 1, 1) := by decide +kernel
theorem dX0_holdersAt_2 : decode cX0_holdersAt 2 = .ok (.iconst 1, 1) := by decide +kernel
theorem dX0_holdersAt_3 : decode cX0_holdersAt 3 = .ok (.isub, 1) := by decide +kernel
theorem dX0_holdersAt_4 : decode cX0_holdersAt 4 = .ok (.iload_n 3, 1) := by decide +kernel
theorem dX0_holdersAt_5 : decode cX0_holdersAt 5 = .ok (.invokevirtual 36, 3) := by decide +kernel
theorem dX0_holdersAt_8 : decode cX0_holdersAt 8 = .ok (.iload_n 2, 1) := by decide +kernel
theorem dX0_holdersAt_9 : decode cX0_holdersAt 9 = .ok (.ishr, 1) := by decide +kernel
theorem dX0_holdersAt_10 : decode cX0_holdersAt 10 = .ok (.invokestatic 40, 3) := by decide +kernel
theorem dX0_holdersAt_13 : decode cX0_holdersAt 13 = .ok (.ireturn, 1) := by decide +kernel
set_option maxRecDepth 20000 in
theorem ggX0_neighboursAt_X0_leafRowAsSeen : GoodIn wsX0_neighboursAt wsX0_leafRowAsSeen := goodIn_r _ [5, 6, 7, 8, 4, 9, 10, 21, 22] (by decide +kernel) (by decide +kernel)
set_option maxRecDepth 20000 in
theorem gX0_neighboursAt_X0_leafRowAsSeen : GoodIn wsX0_neighboursAt (wsV RX0 36 RX0 yX0_leafRowAsSeen wsX0_leafRowAsSeen) := goodIn_app (goodIn_of _ (by decide +kernel)) ggX0_neighboursAt_X0_leafRowAsSeen
set_option maxRecDepth 20000 in
theorem ggX0_neighboursAt_X0_countNeighbours : GoodIn wsX0_neighboursAt wsX0_countNeighbours := goodIn_r _ [13, 14, 15, 16, 17, 18, 19, 20] (by decide +kernel) (by decide +kernel)
set_option maxRecDepth 20000 in
theorem gX0_neighboursAt_X0_countNeighbours : GoodIn wsX0_neighboursAt (va_wsS RX0 43 yX0_countNeighbours wsX0_countNeighbours) := goodIn_app (goodIn_of _ (by decide +kernel)) ggX0_neighboursAt_X0_countNeighbours
theorem dX0_neighboursAt_0 : decode cX0_neighboursAt 0 = .ok (.aload_n 0, 1) := by decide +kernel
theorem dX0_neighboursAt_1 : decode cX0_neighboursAt 1 = .ok (.iload_n 1, 1) := by decide +kernel
theorem dX0_neighboursAt_2 : decode cX0_neighboursAt 2 = .ok (.iconst 1, 1) := by decide +kernel
theorem dX0_neighboursAt_3 : decode cX0_neighboursAt 3 = .ok (.isub, 1) := by decide +kernel
theorem dX0_neighboursAt_4 : decode cX0_neighboursAt 4 = .ok (.iload_n 3, 1) := by decide +kernel
theorem dX0_neighboursAt_5 : decode cX0_neighboursAt 5 = .ok (.invokevirtual 36, 3) := by decide +kernel
theorem dX0_neighboursAt_8 : decode cX0_neighboursAt 8 = .ok (.iload_n 2, 1) := by decide +kernel
theorem dX0_neighboursAt_9 : decode cX0_neighboursAt 9 = .ok (.ishr, 1) := by decide +kernel
theorem dX0_neighboursAt_10 : decode cX0_neighboursAt 10 = .ok (.aload_n 0, 1) := by decide +kernel
theorem dX0_neighboursAt_11 : decode cX0_neighboursAt 11 = .ok (.iload_n 1, 1) := by decide +kernel
theorem dX0_neighboursAt_12 : decode cX0_neighboursAt 12 = .ok (.iload_n 3, 1) := by decide +kernel
theorem dX0_neighboursAt_13 : decode cX0_neighboursAt 13 = .ok (.invokevirtual 36, 3) := by decide +kernel
theorem dX0_neighboursAt_16 : decode cX0_neighboursAt 16 = .ok (.iload_n 2, 1) := by decide +kernel
theorem dX0_neighboursAt_17 : decode cX0_neighboursAt 17 = .ok (.ishr, 1) := by decide +kernel
theorem dX0_neighboursAt_18 : decode cX0_neighboursAt 18 = .ok (.aload_n 0, 1) := by decide +kernel
theorem dX0_neighboursAt_19 : decode cX0_neighboursAt 19 = .ok (.iload_n 1, 1) := by decide +kernel
theorem dX0_neighboursAt_20 : decode cX0_neighboursAt 20 = .ok (.iconst 1, 1) := by decide +kernel
theorem dX0_neighboursAt_21 : decode cX0_neighboursAt 21 = .ok (.iadd, 1) := by decide +kernel
theorem dX0_neighboursAt_22 : decode cX0_neighboursAt 22 = .ok (.iload_n 3, 1) := by decide +kernel
theorem dX0_neighboursAt_23 : decode cX0_neighboursAt 23 = .ok (.invokevirtual 36, 3) := by decide +kernel
theorem dX0_neighboursAt_26 : decode cX0_neighboursAt 26 = .ok (.iload_n 2, 1) := by decide +kernel
theorem dX0_neighboursAt_27 : decode cX0_neighboursAt 27 = .ok (.ishr, 1) := by decide +kernel
theorem dX0_neighboursAt_28 : decode cX0_neighboursAt 28 = .ok (.invokestatic 43, 3) := by decide +kernel
theorem dX0_neighboursAt_31 : decode cX0_neighboursAt 31 = .ok (.ireturn, 1) := by decide +kernel
set_option maxRecDepth 20000 in
theorem ggX0_countInColumn_X0_shadeAt : GoodIn wsX0_countInColumn wsX0_shadeAt := goodIn_r _ [5, 6, 7, 8, 4, 9, 10, 11, 12] (by decide +kernel) (by decide +kernel)
set_option maxRecDepth 20000 in
theorem gX0_countInColumn_X0_shadeAt : GoodIn wsX0_countInColumn (wsV RX0 47 RX0 yX0_shadeAt wsX0_shadeAt) := goodIn_app (goodIn_of _ (by decide +kernel)) ggX0_countInColumn_X0_shadeAt
theorem dX0_countInColumn_0 : decode cX0_countInColumn 0 = .ok (.aload_n 0, 1) := by decide +kernel
theorem dX0_countInColumn_1 : decode cX0_countInColumn 1 = .ok (.iconst (-1), 1) := by decide +kernel
theorem dX0_countInColumn_2 : decode cX0_countInColumn 2 = .ok (.iload_n 1, 1) := by decide +kernel
theorem dX0_countInColumn_3 : decode cX0_countInColumn 3 = .ok (.invokevirtual 47, 3) := by decide +kernel
theorem dX0_countInColumn_6 : decode cX0_countInColumn 6 = .ok (.ireturn, 1) := by decide +kernel
set_option maxRecDepth 20000 in
theorem ggX0_countLeaves_J6_bitCount_0f7a4 : GoodIn wsX0_countLeaves wsJ6_bitCount_0f7a4 := goodIn_r _ [5, 6, 7, 8] (by decide +kernel) (by decide +kernel)
set_option maxRecDepth 20000 in
theorem gX0_countLeaves_J6_bitCount_0f7a4 : GoodIn wsX0_countLeaves (va_wsS RX0 50 yJ6_bitCount_0f7a4 wsJ6_bitCount_0f7a4) := goodIn_app (goodIn_of _ (by decide +kernel)) ggX0_countLeaves_J6_bitCount_0f7a4
theorem dX0_countLeaves_0 : decode cX0_countLeaves 0 = .ok (.iconst 0, 1) := by decide +kernel
theorem dX0_countLeaves_1 : decode cX0_countLeaves 1 = .ok (.istore_n 1, 1) := by decide +kernel
theorem dX0_countLeaves_2 : decode cX0_countLeaves 2 = .ok (.iconst 0, 1) := by decide +kernel
theorem dX0_countLeaves_3 : decode cX0_countLeaves 3 = .ok (.istore_n 2, 1) := by decide +kernel
theorem dX0_countLeaves_4 : decode cX0_countLeaves 4 = .ok (.iload_n 2, 1) := by decide +kernel
theorem dX0_countLeaves_5 : decode cX0_countLeaves 5 = .ok (.bipush 8, 2) := by decide +kernel
theorem dX0_countLeaves_7 : decode cX0_countLeaves 7 = .ok (.if_icmp .ge 21, 3) := by decide +kernel
theorem dX0_countLeaves_10 : decode cX0_countLeaves 10 = .ok (.iload_n 1, 1) := by decide +kernel
theorem dX0_countLeaves_11 : decode cX0_countLeaves 11 = .ok (.aload_n 0, 1) := by decide +kernel
theorem dX0_countLeaves_12 : decode cX0_countLeaves 12 = .ok (.getfield 9, 3) := by decide +kernel
theorem dX0_countLeaves_15 : decode cX0_countLeaves 15 = .ok (.iload_n 2, 1) := by decide +kernel
theorem dX0_countLeaves_16 : decode cX0_countLeaves 16 = .ok (.iaload, 1) := by decide +kernel
theorem dX0_countLeaves_17 : decode cX0_countLeaves 17 = .ok (.invokestatic 50, 3) := by decide +kernel
theorem dX0_countLeaves_20 : decode cX0_countLeaves 20 = .ok (.iadd, 1) := by decide +kernel
theorem dX0_countLeaves_21 : decode cX0_countLeaves 21 = .ok (.istore_n 1, 1) := by decide +kernel
theorem dX0_countLeaves_22 : decode cX0_countLeaves 22 = .ok (.iinc 2 1, 3) := by decide +kernel
theorem dX0_countLeaves_25 : decode cX0_countLeaves 25 = .ok (.goto (-21), 3) := by decide +kernel
theorem dX0_countLeaves_28 : decode cX0_countLeaves 28 = .ok (.iload_n 1, 1) := by decide +kernel
theorem dX0_countLeaves_29 : decode cX0_countLeaves 29 = .ok (.ireturn, 1) := by decide +kernel
set_option maxRecDepth 20000 in
theorem ggX0_countLit_J6_bitCount_0f7a4 : GoodIn wsX0_countLit wsJ6_bitCount_0f7a4 := goodIn_r _ [5, 6, 7, 8] (by decide +kernel) (by decide +kernel)
set_option maxRecDepth 20000 in
theorem gX0_countLit_J6_bitCount_0f7a4 : GoodIn wsX0_countLit (va_wsS RX0 50 yJ6_bitCount_0f7a4 wsJ6_bitCount_0f7a4) := goodIn_app (goodIn_of _ (by decide +kernel)) ggX0_countLit_J6_bitCount_0f7a4
theorem dX0_countLit_0 : decode cX0_countLit 0 = .ok (.iconst 0, 1) := by decide +kernel
theorem dX0_countLit_1 : decode cX0_countLit 1 = .ok (.istore_n 1, 1) := by decide +kernel
theorem dX0_countLit_2 : decode cX0_countLit 2 = .ok (.iconst 0, 1) := by decide +kernel
theorem dX0_countLit_3 : decode cX0_countLit 3 = .ok (.istore_n 2, 1) := by decide +kernel
theorem dX0_countLit_4 : decode cX0_countLit 4 = .ok (.iload_n 2, 1) := by decide +kernel
theorem dX0_countLit_5 : decode cX0_countLit 5 = .ok (.bipush 8, 2) := by decide +kernel
theorem dX0_countLit_7 : decode cX0_countLit 7 = .ok (.if_icmp .ge 18, 3) := by decide +kernel
theorem dX0_countLit_10 : decode cX0_countLit 10 = .ok (.iload_n 1, 1) := by decide +kernel
theorem dX0_countLit_11 : decode cX0_countLit 11 = .ok (.aload_n 0, 1) := by decide +kernel
theorem dX0_countLit_12 : decode cX0_countLit 12 = .ok (.getfield 9, 3) := by decide +kernel
theorem dX0_countLit_15 : decode cX0_countLit 15 = .ok (.iload_n 2, 1) := by decide +kernel
theorem dX0_countLit_16 : decode cX0_countLit 16 = .ok (.iaload, 1) := by decide +kernel
theorem dX0_countLit_17 : decode cX0_countLit 17 = .ok (.ior, 1) := by decide +kernel
theorem dX0_countLit_18 : decode cX0_countLit 18 = .ok (.istore_n 1, 1) := by decide +kernel
theorem dX0_countLit_19 : decode cX0_countLit 19 = .ok (.iinc 2 1, 3) := by decide +kernel
theorem dX0_countLit_22 : decode cX0_countLit 22 = .ok (.goto (-18), 3) := by decide +kernel
theorem dX0_countLit_25 : decode cX0_countLit 25 = .ok (.iload_n 1, 1) := by decide +kernel
theorem dX0_countLit_26 : decode cX0_countLit 26 = .ok (.invokestatic 50, 3) := by decide +kernel
theorem dX0_countLit_29 : decode cX0_countLit 29 = .ok (.ireturn, 1) := by decide +kernel
set_option maxRecDepth 20000 in
theorem ggX0_leavesOfHalf_X0_leafRow : GoodIn wsX0_leavesOfHalf wsX0_leafRow := goodIn_r _ [5, 6, 7, 8] (by decide +kernel) (by decide +kernel)
set_option maxRecDepth 20000 in
theorem gX0_leavesOfHalf_X0_leafRow : GoodIn wsX0_leavesOfHalf (wsV RX0 18 RX0 yX0_leafRow wsX0_leafRow) := goodIn_app (goodIn_of _ (by decide +kernel)) ggX0_leavesOfHalf_X0_leafRow
theorem dX0_leavesOfHalf_0 : decode cX0_leavesOfHalf 0 = .ok (.lconst 0, 1) := by decide +kernel
theorem dX0_leavesOfHalf_1 : decode cX0_leavesOfHalf 1 = .ok (.lstore_n 2, 1) := by decide +kernel
theorem dX0_leavesOfHalf_2 : decode cX0_leavesOfHalf 2 = .ok (.iload_n 1, 1) := by decide +kernel
theorem dX0_leavesOfHalf_3 : decode cX0_leavesOfHalf 3 = .ok (.istore 4, 2) := by decide +kernel
theorem dX0_leavesOfHalf_5 : decode cX0_leavesOfHalf 5 = .ok (.iload 4, 2) := by decide +kernel
theorem dX0_leavesOfHalf_7 : decode cX0_leavesOfHalf 7 = .ok (.iload_n 1, 1) := by decide +kernel
theorem dX0_leavesOfHalf_8 : decode cX0_leavesOfHalf 8 = .ok (.iconst 4, 1) := by decide +kernel
theorem dX0_leavesOfHalf_9 : decode cX0_leavesOfHalf 9 = .ok (.iadd, 1) := by decide +kernel
theorem dX0_leavesOfHalf_10 : decode cX0_leavesOfHalf 10 = .ok (.if_icmp .ge 22, 3) := by decide +kernel
theorem dX0_leavesOfHalf_13 : decode cX0_leavesOfHalf 13 = .ok (.lload_n 2, 1) := by decide +kernel
theorem dX0_leavesOfHalf_14 : decode cX0_leavesOfHalf 14 = .ok (.bipush 12, 2) := by decide +kernel
theorem dX0_leavesOfHalf_16 : decode cX0_leavesOfHalf 16 = .ok (.lshl, 1) := by decide +kernel
theorem dX0_leavesOfHalf_17 : decode cX0_leavesOfHalf 17 = .ok (.aload_n 0, 1) := by decide +kernel
theorem dX0_leavesOfHalf_18 : decode cX0_leavesOfHalf 18 = .ok (.iload 4, 2) := by decide +kernel
theorem dX0_leavesOfHalf_20 : decode cX0_leavesOfHalf 20 = .ok (.invokevirtual 18, 3) := by decide +kernel
theorem dX0_leavesOfHalf_23 : decode cX0_leavesOfHalf 23 = .ok (.i2l, 1) := by decide +kernel
theorem dX0_leavesOfHalf_24 : decode cX0_leavesOfHalf 24 = .ok (.lor, 1) := by decide +kernel
theorem dX0_leavesOfHalf_25 : decode cX0_leavesOfHalf 25 = .ok (.lstore_n 2, 1) := by decide +kernel
theorem dX0_leavesOfHalf_26 : decode cX0_leavesOfHalf 26 = .ok (.iinc 4 1, 3) := by decide +kernel
theorem dX0_leavesOfHalf_29 : decode cX0_leavesOfHalf 29 = .ok (.goto (-24), 3) := by decide +kernel
theorem dX0_leavesOfHalf_32 : decode cX0_leavesOfHalf 32 = .ok (.lload_n 2, 1) := by decide +kernel
theorem dX0_leavesOfHalf_33 : decode cX0_leavesOfHalf 33 = .ok (.lreturn, 1) := by decide +kernel
set_option maxRecDepth 20000 in
theorem ggX0_becomeNextOf_X0_leafRowNext : GoodIn wsX0_becomeNextOf wsX0_leafRowNext := goodIn_r _ [7, 8, 9, 10, 6, 11, 1, 12, 13, 14, 15, 16, 17, 18, 19, 20, 21, 22, 23, 24, 25, 26, 27, 28, 29, 30, 31, 32, 33, 34, 35, 36, 2, 37, 38, 39, 40, 41, 42, 43, 44, 60, 61] (by decide +kernel) (by decide +kernel)
set_option maxRecDepth 20000 in
theorem gX0_becomeNextOf_X0_leafRowNext : GoodIn wsX0_becomeNextOf (wsV RX0 55 RX0 yX0_leafRowNext wsX0_leafRowNext) := goodIn_app (goodIn_of _ (by decide +kernel)) ggX0_becomeNextOf_X0_leafRowNext
set_option maxRecDepth 20000 in
theorem ggX0_becomeNextOf_X0_countInColumn : GoodIn wsX0_becomeNextOf wsX0_countInColumn := goodIn_r _ [48, 37, 38, 39, 6, 40, 8, 9, 10, 11, 1, 60, 61] (by decide +kernel) (by decide +kernel)
set_option maxRecDepth 20000 in
theorem gX0_becomeNextOf_X0_countInColumn : GoodIn wsX0_becomeNextOf (wsV RX0 58 RX0 yX0_countInColumn wsX0_countInColumn) := goodIn_app (goodIn_of _ (by decide +kernel)) ggX0_becomeNextOf_X0_countInColumn
set_option maxRecDepth 20000 in
theorem ggX0_becomeNextOf_X0_takeTopmost : GoodIn wsX0_becomeNextOf wsX0_takeTopmost := goodIn_r _ [52, 41, 42, 43, 6, 44, 8, 9, 10, 11, 1, 53, 54, 55, 56, 57, 58, 59, 60, 61] (by decide +kernel) (by decide +kernel)
set_option maxRecDepth 20000 in
theorem gX0_becomeNextOf_X0_takeTopmost : GoodIn wsX0_becomeNextOf (wsV RX0 61 RX0 yX0_takeTopmost wsX0_takeTopmost) := goodIn_app (goodIn_of _ (by decide +kernel)) ggX0_becomeNextOf_X0_takeTopmost
theorem dX0_becomeNextOf_0 : decode cX0_becomeNextOf 0 = .ok (.iconst 0, 1) := by decide +kernel
theorem dX0_becomeNextOf_1 : decode cX0_becomeNextOf 1 = .ok (.istore 4, 2) := by decide +kernel
theorem dX0_becomeNextOf_3 : decode cX0_becomeNextOf 3 = .ok (.iload 4, 2) := by decide +kernel
theorem dX0_becomeNextOf_5 : decode cX0_becomeNextOf 5 = .ok (.bipush 8, 2) := by decide +kernel
theorem dX0_becomeNextOf_7 : decode cX0_becomeNextOf 7 = .ok (.if_icmp .ge 31, 3) := by decide +kernel
theorem dX0_becomeNextOf_10 : decode cX0_becomeNextOf 10 = .ok (.aload_n 0, 1) := by decide +kernel
theorem dX0_becomeNextOf_11 : decode cX0_becomeNextOf 11 = .ok (.getfield 9, 3) := by decide +kernel
theorem dX0_becomeNextOf_14 : decode cX0_becomeNextOf 14 = .ok (.iload 4, 2) := by decide +kernel
theorem dX0_becomeNextOf_16 : decode cX0_becomeNextOf 16 = .ok (.aload_n 1, 1) := by decide +kernel
theorem dX0_becomeNextOf_17 : decode cX0_becomeNextOf 17 = .ok (.iload 4, 2) := by decide +kernel
theorem dX0_becomeNextOf_19 : decode cX0_becomeNextOf 19 = .ok (.iload_n 2, 1) := by decide +kernel
theorem dX0_becomeNextOf_20 : decode cX0_becomeNextOf 20 = .ok (.invokevirtual 55, 3) := by decide +kernel
theorem dX0_becomeNextOf_23 : decode cX0_becomeNextOf 23 = .ok (.iastore, 1) := by decide +kernel
theorem dX0_becomeNextOf_24 : decode cX0_becomeNextOf 24 = .ok (.aload_n 0, 1) := by decide +kernel
theorem dX0_becomeNextOf_25 : decode cX0_becomeNextOf 25 = .ok (.getfield 15, 3) := by decide +kernel
theorem dX0_becomeNextOf_28 : decode cX0_becomeNextOf 28 = .ok (.iload 4, 2) := by decide +kernel
theorem dX0_becomeNextOf_30 : decode cX0_becomeNextOf 30 = .ok (.iconst 0, 1) := by decide +kernel
theorem dX0_becomeNextOf_31 : decode cX0_becomeNextOf 31 = .ok (.iastore, 1) := by decide +kernel
theorem dX0_becomeNextOf_32 : decode cX0_becomeNextOf 32 = .ok (.iinc 4 1, 3) := by decide +kernel
theorem dX0_becomeNextOf_35 : decode cX0_becomeNextOf 35 = .ok (.goto (-32), 3) := by decide +kernel
theorem dX0_becomeNextOf_38 : decode cX0_becomeNextOf 38 = .ok (.iconst 0, 1) := by decide +kernel
theorem dX0_becomeNextOf_39 : decode cX0_becomeNextOf 39 = .ok (.istore 4, 2) := by decide +kernel
theorem dX0_becomeNextOf_41 : decode cX0_becomeNextOf 41 = .ok (.iconst 0, 1) := by decide +kernel
theorem dX0_becomeNextOf_42 : decode cX0_becomeNextOf 42 = .ok (.istore 5, 2) := by decide +kernel
theorem dX0_becomeNextOf_44 : decode cX0_becomeNextOf 44 = .ok (.iload 5, 2) := by decide +kernel
theorem dX0_becomeNextOf_46 : decode cX0_becomeNextOf 46 = .ok (.bipush 12, 2) := by decide +kernel
theorem dX0_becomeNextOf_48 : decode cX0_becomeNextOf 48 = .ok (.if_icmp .ge 31, 3) := by decide +kernel
theorem dX0_becomeNextOf_51 : decode cX0_becomeNextOf 51 = .ok (.iload 4, 2) := by decide +kernel
theorem dX0_becomeNextOf_53 : decode cX0_becomeNextOf 53 = .ok (.aload_n 0, 1) := by decide +kernel
theorem dX0_becomeNextOf_54 : decode cX0_becomeNextOf 54 = .ok (.iload 5, 2) := by decide +kernel
theorem dX0_becomeNextOf_56 : decode cX0_becomeNextOf 56 = .ok (.aload_n 0, 1) := by decide +kernel
theorem dX0_becomeNextOf_57 : decode cX0_becomeNextOf 57 = .ok (.iload 5, 2) := by decide +kernel
theorem dX0_becomeNextOf_59 : decode cX0_becomeNextOf 59 = .ok (.invokevirtual 58, 3) := by decide +kernel
theorem dX0_becomeNextOf_62 : decode cX0_becomeNextOf 62 = .ok (.aload_n 3, 1) := by decide +kernel
theorem dX0_becomeNextOf_63 : decode cX0_becomeNextOf 63 = .ok (.iload 5, 2) := by decide +kernel
theorem dX0_becomeNextOf_65 : decode cX0_becomeNextOf 65 = .ok (.iaload, 1) := by decide +kernel
theorem dX0_becomeNextOf_66 : decode cX0_becomeNextOf 66 = .ok (.isub, 1) := by decide +kernel
theorem dX0_becomeNextOf_67 : decode cX0_becomeNextOf 67 = .ok (.invokevirtual 61, 3) := by decide +kernel
theorem dX0_becomeNextOf_70 : decode cX0_becomeNextOf 70 = .ok (.iadd, 1) := by decide +kernel
theorem dX0_becomeNextOf_71 : decode cX0_becomeNextOf 71 = .ok (.istore 4, 2) := by decide +kernel
theorem dX0_becomeNextOf_73 : decode cX0_becomeNextOf 73 = .ok (.iinc 5 1, 3) := by decide +kernel
theorem dX0_becomeNextOf_76 : decode cX0_becomeNextOf 76 = .ok (.goto (-32), 3) := by decide +kernel
theorem dX0_becomeNextOf_79 : decode cX0_becomeNextOf 79 = .ok (.iload 4, 2) := by decide +kernel
theorem dX0_becomeNextOf_81 : decode cX0_becomeNextOf 81 = .ok (.ireturn, 1) := by decide +kernel
set_option maxRecDepth 20000 in
theorem ggX0_leafRowNext_X0_leafRow : GoodIn wsX0_leafRowNext wsX0_leafRow := goodIn_r _ [5, 6, 41, 42] (by decide +kernel) (by decide +kernel)
set_option maxRecDepth 20000 in
theorem gX0_leafRowNext_X0_leafRow : GoodIn wsX0_leafRowNext (wsV RX0 18 RX0 yX0_leafRow wsX0_leafRow) := goodIn_app (goodIn_of _ (by decide +kernel)) ggX0_leafRowNext_X0_leafRow
set_option maxRecDepth 20000 in
theorem ggX0_leafRowNext_X0_leafRowAsSeen : GoodIn wsX0_leafRowNext wsX0_leafRowAsSeen := goodIn_r _ [10, 1, 2, 3, 4, 5, 6, 41, 42] (by decide +kernel) (by decide +kernel)
set_option maxRecDepth 20000 in
theorem gX0_leafRowNext_X0_leafRowAsSeen : GoodIn wsX0_leafRowNext (wsV RX0 36 RX0 yX0_leafRowAsSeen wsX0_leafRowAsSeen) := goodIn_app (goodIn_of _ (by decide +kernel)) ggX0_leafRowNext_X0_leafRowAsSeen
set_option maxRecDepth 20000 in
theorem ggX0_leafRowNext_X0_countHolders : GoodIn wsX0_leafRowNext wsX0_countHolders := goodIn_r _ [13, 14, 15, 16, 17, 18, 19, 20] (by decide +kernel) (by decide +kernel)
set_option maxRecDepth 20000 in
theorem gX0_leafRowNext_X0_countHolders : GoodIn wsX0_leafRowNext (va_wsS RX0 40 yX0_countHolders wsX0_countHolders) := goodIn_app (goodIn_of _ (by decide +kernel)) ggX0_leafRowNext_X0_countHolders
set_option maxRecDepth 20000 in
theorem ggX0_leafRowNext_X0_countNeighbours : GoodIn wsX0_leafRowNext wsX0_countNeighbours := goodIn_r _ [23, 14, 15, 16, 17, 18, 19, 20] (by decide +kernel) (by decide +kernel)
set_option maxRecDepth 20000 in
theorem gX0_leafRowNext_X0_countNeighbours : GoodIn wsX0_leafRowNext (va_wsS RX0 43 yX0_countNeighbours wsX0_countNeighbours) := goodIn_app (goodIn_of _ (by decide +kernel)) ggX0_leafRowNext_X0_countNeighbours
set_option maxRecDepth 20000 in
theorem ggX0_leafRowNext_X0_bearsLeafNext : GoodIn wsX0_leafRowNext wsX0_bearsLeafNext := goodIn_r _ [27, 28, 29, 30, 4, 31, 32, 33, 34, 35, 36, 1, 2, 3, 5, 6, 37, 38, 39, 40, 41, 42] (by decide +kernel) (by decide +kernel)
set_option maxRecDepth 20000 in
theorem gX0_leafRowNext_X0_bearsLeafNext : GoodIn wsX0_leafRowNext (wsV RX0 64 RX0 yX0_bearsLeafNext wsX0_bearsLeafNext) := goodIn_app (goodIn_of _ (by decide +kernel)) ggX0_leafRowNext_X0_bearsLeafNext
theorem dX0_leafRowNext_0 : decode cX0_leafRowNext 0 = .ok (.iload_n 1, 1) := by decide +kernel
theorem dX0_leafRowNext_1 : decode cX0_leafRowNext 1 = .ok (.ifCond .ne 9, 3) := by decide +kernel
theorem dX0_leafRowNext_4 : decode cX0_leafRowNext 4 = .ok (.aload_n 0, 1) := by decide +kernel
theorem dX0_leafRowNext_5 : decode cX0_leafRowNext 5 = .ok (.iconst 0, 1) := by decide +kernel
theorem dX0_leafRowNext_6 : decode cX0_leafRowNext 6 = .ok (.invokevirtual 18, 3) := by decide +kernel
theorem dX0_leafRowNext_9 : decode cX0_leafRowNext 9 = .ok (.ireturn, 1) := by decide +kernel
theorem dX0_leafRowNext_10 : decode cX0_leafRowNext 10 = .ok (.aload_n 0, 1) := by decide +kernel
theorem dX0_leafRowNext_11 : decode cX0_leafRowNext 11 = .ok (.iload_n 1, 1) := by decide +kernel
theorem dX0_leafRowNext_12 : decode cX0_leafRowNext 12 = .ok (.iconst 1, 1) := by decide +kernel
theorem dX0_leafRowNext_13 : decode cX0_leafRowNext 13 = .ok (.isub, 1) := by decide +kernel
theorem dX0_leafRowNext_14 : decode cX0_leafRowNext 14 = .ok (.iload_n 2, 1) := by decide +kernel
theorem dX0_leafRowNext_15 : decode cX0_leafRowNext 15 = .ok (.invokevirtual 36, 3) := by decide +kernel
theorem dX0_leafRowNext_18 : decode cX0_leafRowNext 18 = .ok (.istore_n 3, 1) := by decide +kernel
theorem dX0_leafRowNext_19 : decode cX0_leafRowNext 19 = .ok (.aload_n 0, 1) := by decide +kernel
theorem dX0_leafRowNext_20 : decode cX0_leafRowNext 20 = .ok (.iload_n 1, 1) := by decide +kernel
theorem dX0_leafRowNext_21 : decode cX0_leafRowNext 21 = .ok (.iload_n 2, 1) := by decide +kernel
theorem dX0_leafRowNext_22 : decode cX0_leafRowNext 22 = .ok (.invokevirtual 36, 3) := by decide +kernel
theorem dX0_leafRowNext_25 : decode cX0_leafRowNext 25 = .ok (.istore 4, 2) := by decide +kernel
theorem dX0_leafRowNext_27 : decode cX0_leafRowNext 27 = .ok (.aload_n 0, 1) := by decide +kernel
theorem dX0_leafRowNext_28 : decode cX0_leafRowNext 28 = .ok (.iload_n 1, 1) := by decide +kernel
theorem dX0_leafRowNext_29 : decode cX0_leafRowNext 29 = .ok (.iconst 1, 1) := by decide +kernel
theorem dX0_leafRowNext_30 : decode cX0_leafRowNext 30 = .ok (.iadd, 1) := by decide +kernel
theorem dX0_leafRowNext_31 : decode cX0_leafRowNext 31 = .ok (.iload_n 2, 1) := by decide +kernel
theorem dX0_leafRowNext_32 : decode cX0_leafRowNext 32 = .ok (.invokevirtual 36, 3) := by decide +kernel
theorem dX0_leafRowNext_35 : decode cX0_leafRowNext 35 = .ok (.istore 5, 2) := by decide +kernel
theorem dX0_leafRowNext_37 : decode cX0_leafRowNext 37 = .ok (.iconst 0, 1) := by decide +kernel
theorem dX0_leafRowNext_38 : decode cX0_leafRowNext 38 = .ok (.istore 6, 2) := by decide +kernel
theorem dX0_leafRowNext_40 : decode cX0_leafRowNext 40 = .ok (.iconst 0, 1) := by decide +kernel
theorem dX0_leafRowNext_41 : decode cX0_leafRowNext 41 = .ok (.istore 7, 2) := by decide +kernel
theorem dX0_leafRowNext_43 : decode cX0_leafRowNext 43 = .ok (.iload 7, 2) := by decide +kernel
theorem dX0_leafRowNext_45 : decode cX0_leafRowNext 45 = .ok (.bipush 12, 2) := by decide +kernel
theorem dX0_leafRowNext_47 : decode cX0_leafRowNext 47 = .ok (.if_icmp .ge 60, 3) := by decide +kernel
theorem dX0_leafRowNext_50 : decode cX0_leafRowNext 50 = .ok (.iload_n 3, 1) := by decide +kernel
theorem dX0_leafRowNext_51 : decode cX0_leafRowNext 51 = .ok (.iload 7, 2) := by decide +kernel
theorem dX0_leafRowNext_53 : decode cX0_leafRowNext 53 = .ok (.ishr, 1) := by decide +kernel
theorem dX0_leafRowNext_54 : decode cX0_leafRowNext 54 = .ok (.invokestatic 40, 3) := by decide +kernel
theorem dX0_leafRowNext_57 : decode cX0_leafRowNext 57 = .ok (.istore 8, 2) := by decide +kernel
theorem dX0_leafRowNext_59 : decode cX0_leafRowNext 59 = .ok (.iload_n 3, 1) := by decide +kernel
theorem dX0_leafRowNext_60 : decode cX0_leafRowNext 60 = .ok (.iload 7, 2) := by decide +kernel
theorem dX0_leafRowNext_62 : decode cX0_leafRowNext 62 = .ok (.ishr, 1) := by decide +kernel
theorem dX0_leafRowNext_63 : decode cX0_leafRowNext 63 = .ok (.iload 4, 2) := by decide +kernel
theorem dX0_leafRowNext_65 : decode cX0_leafRowNext 65 = .ok (.iload 7, 2) := by decide +kernel
theorem dX0_leafRowNext_67 : decode cX0_leafRowNext 67 = .ok (.ishr, 1) := by decide +kernel
theorem dX0_leafRowNext_68 : decode cX0_leafRowNext 68 = .ok (.iload 5, 2) := by decide +kernel
theorem dX0_leafRowNext_70 : decode cX0_leafRowNext 70 = .ok (.iload 7, 2) := by decide +kernel
theorem dX0_leafRowNext_72 : decode cX0_leafRowNext 72 = .ok (.ishr, 1) := by decide +kernel
theorem dX0_leafRowNext_73 : decode cX0_leafRowNext 73 = .ok (.invokestatic 43, 3) := by decide +kernel
theorem dX0_leafRowNext_76 : decode cX0_leafRowNext 76 = .ok (.istore 9, 2) := by decide +kernel
theorem dX0_leafRowNext_78 : decode cX0_leafRowNext 78 = .ok (.aload_n 0, 1) := by decide +kernel
theorem dX0_leafRowNext_79 : decode cX0_leafRowNext 79 = .ok (.iload_n 1, 1) := by decide +kernel
theorem dX0_leafRowNext_80 : decode cX0_leafRowNext 80 = .ok (.iload 7, 2) := by decide +kernel
theorem dX0_leafRowNext_82 : decode cX0_leafRowNext 82 = .ok (.iload 8, 2) := by decide +kernel
theorem dX0_leafRowNext_84 : decode cX0_leafRowNext 84 = .ok (.iload 9, 2) := by decide +kernel
theorem dX0_leafRowNext_86 : decode cX0_leafRowNext 86 = .ok (.invokevirtual 64, 3) := by decide +kernel
theorem dX0_leafRowNext_89 : decode cX0_leafRowNext 89 = .ok (.ifCond .eq 12, 3) := by decide +kernel
theorem dX0_leafRowNext_92 : decode cX0_leafRowNext 92 = .ok (.iload 6, 2) := by decide +kernel
theorem dX0_leafRowNext_94 : decode cX0_leafRowNext 94 = .ok (.iconst 1, 1) := by decide +kernel
theorem dX0_leafRowNext_95 : decode cX0_leafRowNext 95 = .ok (.iload 7, 2) := by decide +kernel
theorem dX0_leafRowNext_97 : decode cX0_leafRowNext 97 = .ok (.ishl, 1) := by decide +kernel
theorem dX0_leafRowNext_98 : decode cX0_leafRowNext 98 = .ok (.ior, 1) := by decide +kernel
theorem dX0_leafRowNext_99 : decode cX0_leafRowNext 99 = .ok (.istore 6, 2) := by decide +kernel
theorem dX0_leafRowNext_101 : decode cX0_leafRowNext 101 = .ok (.iinc 7 1, 3) := by decide +kernel
theorem dX0_leafRowNext_104 : decode cX0_leafRowNext 104 = .ok (.goto (-61), 3) := by decide +kernel
theorem dX0_leafRowNext_107 : decode cX0_leafRowNext 107 = .ok (.iload 6, 2) := by decide +kernel
theorem dX0_leafRowNext_109 : decode cX0_leafRowNext 109 = .ok (.ireturn, 1) := by decide +kernel
set_option maxRecDepth 20000 in
theorem ggX0_bearsLeafNext_X0_hasCutAt : GoodIn wsX0_bearsLeafNext wsX0_hasCutAt := goodIn_r _ [5, 6, 20, 21] (by decide +kernel) (by decide +kernel)
set_option maxRecDepth 20000 in
theorem gX0_bearsLeafNext_X0_hasCutAt : GoodIn wsX0_bearsLeafNext (wsV RX0 26 RX0 yX0_hasCutAt wsX0_hasCutAt) := goodIn_app (goodIn_of _ (by decide +kernel)) ggX0_bearsLeafNext_X0_hasCutAt
set_option maxRecDepth 20000 in
theorem ggX0_bearsLeafNext_X0_shadeAt : GoodIn wsX0_bearsLeafNext wsX0_shadeAt := goodIn_r _ [10, 11, 12, 13, 4, 14, 15, 20, 21] (by decide +kernel) (by decide +kernel)
set_option maxRecDepth 20000 in
theorem gX0_bearsLeafNext_X0_shadeAt : GoodIn wsX0_bearsLeafNext (wsV RX0 47 RX0 yX0_shadeAt wsX0_shadeAt) := goodIn_app (goodIn_of _ (by decide +kernel)) ggX0_bearsLeafNext_X0_shadeAt
set_option maxRecDepth 20000 in
theorem ggX0_bearsLeafNext_X0_hasLeafAt : GoodIn wsX0_bearsLeafNext wsX0_hasLeafAt := goodIn_r _ [19, 11, 12, 13, 4, 14, 15, 20, 21] (by decide +kernel) (by decide +kernel)
set_option maxRecDepth 20000 in
theorem gX0_bearsLeafNext_X0_hasLeafAt : GoodIn wsX0_bearsLeafNext (wsV RX0 22 RX0 yX0_hasLeafAt wsX0_hasLeafAt) := goodIn_app (goodIn_of _ (by decide +kernel)) ggX0_bearsLeafNext_X0_hasLeafAt
theorem dX0_bearsLeafNext_0 : decode cX0_bearsLeafNext 0 = .ok (.iload_n 3, 1) := by decide +kernel
theorem dX0_bearsLeafNext_1 : decode cX0_bearsLeafNext 1 = .ok (.ifCond .eq 12, 3) := by decide +kernel
theorem dX0_bearsLeafNext_4 : decode cX0_bearsLeafNext 4 = .ok (.aload_n 0, 1) := by decide +kernel
theorem dX0_bearsLeafNext_5 : decode cX0_bearsLeafNext 5 = .ok (.iload_n 1, 1) := by decide +kernel
theorem dX0_bearsLeafNext_6 : decode cX0_bearsLeafNext 6 = .ok (.iload_n 2, 1) := by decide +kernel
theorem dX0_bearsLeafNext_7 : decode cX0_bearsLeafNext 7 = .ok (.invokevirtual 26, 3) := by decide +kernel
theorem dX0_bearsLeafNext_10 : decode cX0_bearsLeafNext 10 = .ok (.ifCond .eq 5, 3) := by decide +kernel
theorem dX0_bearsLeafNext_13 : decode cX0_bearsLeafNext 13 = .ok (.iconst 0, 1) := by decide +kernel
theorem dX0_bearsLeafNext_14 : decode cX0_bearsLeafNext 14 = .ok (.ireturn, 1) := by decide +kernel
theorem dX0_bearsLeafNext_15 : decode cX0_bearsLeafNext 15 = .ok (.aload_n 0, 1) := by decide +kernel
theorem dX0_bearsLeafNext_16 : decode cX0_bearsLeafNext 16 = .ok (.iload_n 1, 1) := by decide +kernel
theorem dX0_bearsLeafNext_17 : decode cX0_bearsLeafNext 17 = .ok (.iload_n 2, 1) := by decide +kernel
theorem dX0_bearsLeafNext_18 : decode cX0_bearsLeafNext 18 = .ok (.invokevirtual 47, 3) := by decide +kernel
theorem dX0_bearsLeafNext_21 : decode cX0_bearsLeafNext 21 = .ok (.istore 5, 2) := by decide +kernel
theorem dX0_bearsLeafNext_23 : decode cX0_bearsLeafNext 23 = .ok (.aload_n 0, 1) := by decide +kernel
theorem dX0_bearsLeafNext_24 : decode cX0_bearsLeafNext 24 = .ok (.iload_n 1, 1) := by decide +kernel
theorem dX0_bearsLeafNext_25 : decode cX0_bearsLeafNext 25 = .ok (.iload_n 2, 1) := by decide +kernel
theorem dX0_bearsLeafNext_26 : decode cX0_bearsLeafNext 26 = .ok (.invokevirtual 22, 3) := by decide +kernel
theorem dX0_bearsLeafNext_29 : decode cX0_bearsLeafNext 29 = .ok (.ifCond .eq 21, 3) := by decide +kernel
theorem dX0_bearsLeafNext_32 : decode cX0_bearsLeafNext 32 = .ok (.iload 4, 2) := by decide +kernel
theorem dX0_bearsLeafNext_34 : decode cX0_bearsLeafNext 34 = .ok (.iconst 5, 1) := by decide +kernel
theorem dX0_bearsLeafNext_35 : decode cX0_bearsLeafNext 35 = .ok (.if_icmp .gt 13, 3) := by decide +kernel
theorem dX0_bearsLeafNext_38 : decode cX0_bearsLeafNext 38 = .ok (.iload 5, 2) := by decide +kernel
theorem dX0_bearsLeafNext_40 : decode cX0_bearsLeafNext 40 = .ok (.iconst 4, 1) := by decide +kernel
theorem dX0_bearsLeafNext_41 : decode cX0_bearsLeafNext 41 = .ok (.if_icmp .gt 7, 3) := by decide +kernel
theorem dX0_bearsLeafNext_44 : decode cX0_bearsLeafNext 44 = .ok (.iconst 1, 1) := by decide +kernel
theorem dX0_bearsLeafNext_45 : decode cX0_bearsLeafNext 45 = .ok (.goto 4, 3) := by decide +kernel
theorem dX0_bearsLeafNext_48 : decode cX0_bearsLeafNext 48 = .ok (.iconst 0, 1) := by decide +kernel
theorem dX0_bearsLeafNext_49 : decode cX0_bearsLeafNext 49 = .ok (.ireturn, 1) := by decide +kernel
theorem dX0_bearsLeafNext_50 : decode cX0_bearsLeafNext 50 = .ok (.iload_n 3, 1) := by decide +kernel
theorem dX0_bearsLeafNext_51 : decode cX0_bearsLeafNext 51 = .ok (.iconst 2, 1) := by decide +kernel
theorem dX0_bearsLeafNext_52 : decode cX0_bearsLeafNext 52 = .ok (.if_icmp .gt 19, 3) := by decide +kernel
theorem dX0_bearsLeafNext_55 : decode cX0_bearsLeafNext 55 = .ok (.iload 4, 2) := by decide +kernel
theorem dX0_bearsLeafNext_57 : decode cX0_bearsLeafNext 57 = .ok (.iconst 3, 1) := by decide +kernel
theorem dX0_bearsLeafNext_58 : decode cX0_bearsLeafNext 58 = .ok (.if_icmp .gt 13, 3) := by decide +kernel
theorem dX0_bearsLeafNext_61 : decode cX0_bearsLeafNext 61 = .ok (.iload 5, 2) := by decide +kernel
theorem dX0_bearsLeafNext_63 : decode cX0_bearsLeafNext 63 = .ok (.iconst 2, 1) := by decide +kernel
theorem dX0_bearsLeafNext_64 : decode cX0_bearsLeafNext 64 = .ok (.if_icmp .gt 7, 3) := by decide +kernel
theorem dX0_bearsLeafNext_67 : decode cX0_bearsLeafNext 67 = .ok (.iconst 1, 1) := by decide +kernel
theorem dX0_bearsLeafNext_68 : decode cX0_bearsLeafNext 68 = .ok (.goto 4, 3) := by decide +kernel
theorem dX0_bearsLeafNext_71 : decode cX0_bearsLeafNext 71 = .ok (.iconst 0, 1) := by decide +kernel
theorem dX0_bearsLeafNext_72 : decode cX0_bearsLeafNext 72 = .ok (.ireturn, 1) := by decide +kernel
set_option maxRecDepth 20000 in
theorem ggX0_takeTopmost_X0_hasLeafAt : GoodIn wsX0_takeTopmost wsX0_hasLeafAt := goodIn_r _ [5, 6, 7, 8, 4, 9, 10, 18, 19] (by decide +kernel) (by decide +kernel)
set_option maxRecDepth 20000 in
theorem gX0_takeTopmost_X0_hasLeafAt : GoodIn wsX0_takeTopmost (wsV RX0 22 RX0 yX0_hasLeafAt wsX0_hasLeafAt) := goodIn_app (goodIn_of _ (by decide +kernel)) ggX0_takeTopmost_X0_hasLeafAt
set_option maxRecDepth 20000 in
theorem ggX0_takeTopmost_X0_takeLeaf : GoodIn wsX0_takeTopmost wsX0_takeLeaf := goodIn_r _ [14, 10, 15, 16, 17, 18, 19] (by decide +kernel) (by decide +kernel)
set_option maxRecDepth 20000 in
theorem gX0_takeTopmost_X0_takeLeaf : GoodIn wsX0_takeTopmost (wsV RX0 32 RX0 yX0_takeLeaf wsX0_takeLeaf) := goodIn_app (goodIn_of _ (by decide +kernel)) ggX0_takeTopmost_X0_takeLeaf
theorem dX0_takeTopmost_0 : decode cX0_takeTopmost 0 = .ok (.iconst 0, 1) := by decide +kernel
theorem dX0_takeTopmost_1 : decode cX0_takeTopmost 1 = .ok (.istore_n 3, 1) := by decide +kernel
theorem dX0_takeTopmost_2 : decode cX0_takeTopmost 2 = .ok (.bipush 7, 2) := by decide +kernel
theorem dX0_takeTopmost_4 : decode cX0_takeTopmost 4 = .ok (.istore 4, 2) := by decide +kernel
theorem dX0_takeTopmost_6 : decode cX0_takeTopmost 6 = .ok (.iload 4, 2) := by decide +kernel
theorem dX0_takeTopmost_8 : decode cX0_takeTopmost 8 = .ok (.ifCond .lt 34, 3) := by decide +kernel
theorem dX0_takeTopmost_11 : decode cX0_takeTopmost 11 = .ok (.iload_n 3, 1) := by decide +kernel
theorem dX0_takeTopmost_12 : decode cX0_takeTopmost 12 = .ok (.iload_n 2, 1) := by decide +kernel
theorem dX0_takeTopmost_13 : decode cX0_takeTopmost 13 = .ok (.if_icmp .ge 29, 3) := by decide +kernel
theorem dX0_takeTopmost_16 : decode cX0_takeTopmost 16 = .ok (.aload_n 0, 1) := by decide +kernel
theorem dX0_takeTopmost_17 : decode cX0_takeTopmost 17 = .ok (.iload 4, 2) := by decide +kernel
theorem dX0_takeTopmost_19 : decode cX0_takeTopmost 19 = .ok (.iload_n 1, 1) := by decide +kernel
theorem dX0_takeTopmost_20 : decode cX0_takeTopmost 20 = .ok (.invokevirtual 22, 3) := by decide +kernel
theorem dX0_takeTopmost_23 : decode cX0_takeTopmost 23 = .ok (.ifCond .eq 13, 3) := by decide +kernel
theorem dX0_takeTopmost_26 : decode cX0_takeTopmost 26 = .ok (.aload_n 0, 1) := by decide +kernel
theorem dX0_takeTopmost_27 : decode cX0_takeTopmost 27 = .ok (.iload 4, 2) := by decide +kernel
theorem dX0_takeTopmost_29 : decode cX0_takeTopmost 29 = .ok (.iload_n 1, 1) := by decide +kernel
theorem dX0_takeTopmost_30 : decode cX0_takeTopmost 30 = .ok (.invokevirtual 32, 3) := by decide +kernel
theorem dX0_takeTopmost_33 : decode cX0_takeTopmost 33 = .ok (.iinc 3 1, 3) := by decide +kernel
theorem dX0_takeTopmost_36 : decode cX0_takeTopmost 36 = .ok (.iinc 4 (-1), 3) := by decide +kernel
theorem dX0_takeTopmost_39 : decode cX0_takeTopmost 39 = .ok (.goto (-33), 3) := by decide +kernel
theorem dX0_takeTopmost_42 : decode cX0_takeTopmost 42 = .ok (.iload_n 3, 1) := by decide +kernel
theorem dX0_takeTopmost_43 : decode cX0_takeTopmost 43 = .ok (.ireturn, 1) := by decide +kernel
set_option maxRecDepth 20000 in
theorem ggX0_takeLeaf_X1_isCell : GoodIn wsX0_takeLeaf wsX1_isCell := goodIn_r _ [4] (by decide +kernel) (by decide +kernel)
set_option maxRecDepth 20000 in
theorem gX0_takeLeaf_X1_isCell_n29 : GoodIn wsX0_takeLeaf (wsX1_isCell) := ggX0_takeLeaf_X1_isCell
theorem dX0_takeLeaf_0 : decode cX0_takeLeaf 0 = .ok (.iload_n 1, 1) := by decide +kernel
theorem dX0_takeLeaf_1 : decode cX0_takeLeaf 1 = .ok (.iload_n 2, 1) := by decide +kernel
theorem dX0_takeLeaf_2 : decode cX0_takeLeaf 2 = .ok (.invokestatic 29, 3) := by decide +kernel
theorem dX0_takeLeaf_5 : decode cX0_takeLeaf 5 = .ok (.ifCond .eq 17, 3) := by decide +kernel
theorem dX0_takeLeaf_8 : decode cX0_takeLeaf 8 = .ok (.aload_n 0, 1) := by decide +kernel
theorem dX0_takeLeaf_9 : decode cX0_takeLeaf 9 = .ok (.getfield 9, 3) := by decide +kernel
theorem dX0_takeLeaf_12 : decode cX0_takeLeaf 12 = .ok (.iload_n 1, 1) := by decide +kernel
theorem dX0_takeLeaf_13 : decode cX0_takeLeaf 13 = .ok (.dup2, 1) := by decide +kernel
theorem dX0_takeLeaf_14 : decode cX0_takeLeaf 14 = .ok (.iaload, 1) := by decide +kernel
theorem dX0_takeLeaf_15 : decode cX0_takeLeaf 15 = .ok (.iconst 1, 1) := by decide +kernel
theorem dX0_takeLeaf_16 : decode cX0_takeLeaf 16 = .ok (.iload_n 2, 1) := by decide +kernel
theorem dX0_takeLeaf_17 : decode cX0_takeLeaf 17 = .ok (.ishl, 1) := by decide +kernel
theorem dX0_takeLeaf_18 : decode cX0_takeLeaf 18 = .ok (.iconst (-1), 1) := by decide +kernel
theorem dX0_takeLeaf_19 : decode cX0_takeLeaf 19 = .ok (.ixor, 1) := by decide +kernel
theorem dX0_takeLeaf_20 : decode cX0_takeLeaf 20 = .ok (.iand, 1) := by decide +kernel
theorem dX0_takeLeaf_21 : decode cX0_takeLeaf 21 = .ok (.iastore, 1) := by decide +kernel
theorem dX0_takeLeaf_22 : decode cX0_takeLeaf 22 = .ok (.return_, 1) := by decide +kernel
theorem dX0_hasCutAt_0 : decode cX0_hasCutAt 0 = .ok (.iload_n 1, 1) := by decide +kernel
theorem dX0_hasCutAt_1 : decode cX0_hasCutAt 1 = .ok (.ifCond .lt 27, 3) := by decide +kernel
theorem dX0_hasCutAt_4 : decode cX0_hasCutAt 4 = .ok (.iload_n 1, 1) := by decide +kernel
theorem dX0_hasCutAt_5 : decode cX0_hasCutAt 5 = .ok (.bipush 8, 2) := by decide +kernel
theorem dX0_hasCutAt_7 : decode cX0_hasCutAt 7 = .ok (.if_icmp .ge 21, 3) := by decide +kernel
theorem dX0_hasCutAt_10 : decode cX0_hasCutAt 10 = .ok (.aload_n 0, 1) := by decide +kernel
theorem dX0_hasCutAt_11 : decode cX0_hasCutAt 11 = .ok (.getfield 15, 3) := by decide +kernel
theorem dX0_hasCutAt_14 : decode cX0_hasCutAt 14 = .ok (.iload_n 1, 1) := by decide +kernel
theorem dX0_hasCutAt_15 : decode cX0_hasCutAt 15 = .ok (.iaload, 1) := by decide +kernel
theorem dX0_hasCutAt_16 : decode cX0_hasCutAt 16 = .ok (.iload_n 2, 1) := by decide +kernel
theorem dX0_hasCutAt_17 : decode cX0_hasCutAt 17 = .ok (.ishr, 1) := by decide +kernel
theorem dX0_hasCutAt_18 : decode cX0_hasCutAt 18 = .ok (.iconst 1, 1) := by decide +kernel
theorem dX0_hasCutAt_19 : decode cX0_hasCutAt 19 = .ok (.iand, 1) := by decide +kernel
theorem dX0_hasCutAt_20 : decode cX0_hasCutAt 20 = .ok (.iconst 1, 1) := by decide +kernel
theorem dX0_hasCutAt_21 : decode cX0_hasCutAt 21 = .ok (.if_icmp .ne 7, 3) := by decide +kernel
theorem dX0_hasCutAt_24 : decode cX0_hasCutAt 24 = .ok (.iconst 1, 1) := by decide +kernel
theorem dX0_hasCutAt_25 : decode cX0_hasCutAt 25 = .ok (.goto 4, 3) := by decide +kernel
theorem dX0_hasCutAt_28 : decode cX0_hasCutAt 28 = .ok (.iconst 0, 1) := by decide +kernel
theorem dX0_hasCutAt_29 : decode cX0_hasCutAt 29 = .ok (.ireturn, 1) := by decide +kernel
theorem dX0_leafRow_0 : decode cX0_leafRow 0 = .ok (.iload_n 1, 1) := by decide +kernel
theorem dX0_leafRow_1 : decode cX0_leafRow 1 = .ok (.ifCond .lt 18, 3) := by decide +kernel
theorem dX0_leafRow_4 : decode cX0_leafRow 4 = .ok (.iload_n 1, 1) := by decide +kernel
theorem dX0_leafRow_5 : decode cX0_leafRow 5 = .ok (.bipush 8, 2) := by decide +kernel
theorem dX0_leafRow_7 : decode cX0_leafRow 7 = .ok (.if_icmp .ge 12, 3) := by decide +kernel
theorem dX0_leafRow_10 : decode cX0_leafRow 10 = .ok (.aload_n 0, 1) := by decide +kernel
theorem dX0_leafRow_11 : decode cX0_leafRow 11 = .ok (.getfield 9, 3) := by decide +kernel
theorem dX0_leafRow_14 : decode cX0_leafRow 14 = .ok (.iload_n 1, 1) := by decide +kernel
theorem dX0_leafRow_15 : decode cX0_leafRow 15 = .ok (.iaload, 1) := by decide +kernel
theorem dX0_leafRow_16 : decode cX0_leafRow 16 = .ok (.goto 4, 3) := by decide +kernel
theorem dX0_leafRow_19 : decode cX0_leafRow 19 = .ok (.iconst 0, 1) := by decide +kernel
theorem dX0_leafRow_20 : decode cX0_leafRow 20 = .ok (.ireturn, 1) := by decide +kernel
set_option maxRecDepth 20000 in
theorem ggX0_countHolders_J6_bitCount_0f7a4 : GoodIn wsX0_countHolders wsJ6_bitCount_0f7a4 := goodIn_r _ [4, 5, 6, 7] (by decide +kernel) (by decide +kernel)
set_option maxRecDepth 20000 in
theorem gX0_countHolders_J6_bitCount_0f7a4 : GoodIn wsX0_countHolders (va_wsS RX0 50 yJ6_bitCount_0f7a4 wsJ6_bitCount_0f7a4) := goodIn_app (goodIn_of _ (by decide +kernel)) ggX0_countHolders_J6_bitCount_0f7a4
theorem dX0_countHolders_0 : decode cX0_countHolders 0 = .ok (.iload_n 0, 1) := by decide +kernel
theorem dX0_countHolders_1 : decode cX0_countHolders 1 = .ok (.bipush 7, 2) := by decide +kernel
theorem dX0_countHolders_3 : decode cX0_countHolders 3 = .ok (.iand, 1) := by decide +kernel
theorem dX0_countHolders_4 : decode cX0_countHolders 4 = .ok (.invokestatic 50, 3) := by decide +kernel
theorem dX0_countHolders_7 : decode cX0_countHolders 7 = .ok (.ireturn, 1) := by decide +kernel
set_option maxRecDepth 20000 in
theorem ggX0_countNeighbours_J6_bitCount_0f7a4 : GoodIn wsX0_countNeighbours wsJ6_bitCount_0f7a4 := goodIn_r _ [4, 5, 6, 7] (by decide +kernel) (by decide +kernel)
set_option maxRecDepth 20000 in
theorem gX0_countNeighbours_J6_bitCount_0f7a4 : GoodIn wsX0_countNeighbours (va_wsS RX0 50 yJ6_bitCount_0f7a4 wsJ6_bitCount_0f7a4) := goodIn_app (goodIn_of _ (by decide +kernel)) ggX0_countNeighbours_J6_bitCount_0f7a4
theorem dX0_countNeighbours_0 : decode cX0_countNeighbours 0 = .ok (.iload_n 0, 1) := by decide +kernel
theorem dX0_countNeighbours_1 : decode cX0_countNeighbours 1 = .ok (.bipush 7, 2) := by decide +kernel
theorem dX0_countNeighbours_3 : decode cX0_countNeighbours 3 = .ok (.iand, 1) := by decide +kernel
theorem dX0_countNeighbours_4 : decode cX0_countNeighbours 4 = .ok (.invokestatic 50, 3) := by decide +kernel
theorem dX0_countNeighbours_7 : decode cX0_countNeighbours 7 = .ok (.iload_n 1, 1) := by decide +kernel
theorem dX0_countNeighbours_8 : decode cX0_countNeighbours 8 = .ok (.iconst 5, 1) := by decide +kernel
theorem dX0_countNeighbours_9 : decode cX0_countNeighbours 9 = .ok (.iand, 1) := by decide +kernel
theorem dX0_countNeighbours_10 : decode cX0_countNeighbours 10 = .ok (.invokestatic 50, 3) := by decide +kernel
theorem dX0_countNeighbours_13 : decode cX0_countNeighbours 13 = .ok (.iadd, 1) := by decide +kernel
theorem dX0_countNeighbours_14 : decode cX0_countNeighbours 14 = .ok (.iload_n 2, 1) := by decide +kernel
theorem dX0_countNeighbours_15 : decode cX0_countNeighbours 15 = .ok (.bipush 7, 2) := by decide +kernel
theorem dX0_countNeighbours_17 : decode cX0_countNeighbours 17 = .ok (.iand, 1) := by decide +kernel
theorem dX0_countNeighbours_18 : decode cX0_countNeighbours 18 = .ok (.invokestatic 50, 3) := by decide +kernel
theorem dX0_countNeighbours_21 : decode cX0_countNeighbours 21 = .ok (.iadd, 1) := by decide +kernel
theorem dX0_countNeighbours_22 : decode cX0_countNeighbours 22 = .ok (.ireturn, 1) := by decide +kernel
set_option maxRecDepth 20000 in
theorem ggX0_leafRowAsSeen_X0_leafRow : GoodIn wsX0_leafRowAsSeen wsX0_leafRow := goodIn_r _ [5, 6, 7, 8] (by decide +kernel) (by decide +kernel)
set_option maxRecDepth 20000 in
theorem gX0_leafRowAsSeen_X0_leafRow : GoodIn wsX0_leafRowAsSeen (wsV RX0 18 RX0 yX0_leafRow wsX0_leafRow) := goodIn_app (goodIn_of _ (by decide +kernel)) ggX0_leafRowAsSeen_X0_leafRow
theorem dX0_leafRowAsSeen_0 : decode cX0_leafRowAsSeen 0 = .ok (.aload_n 0, 1) := by decide +kernel
theorem dX0_leafRowAsSeen_1 : decode cX0_leafRowAsSeen 1 = .ok (.iload_n 1, 1) := by decide +kernel
theorem dX0_leafRowAsSeen_2 : decode cX0_leafRowAsSeen 2 = .ok (.invokevirtual 18, 3) := by decide +kernel
theorem dX0_leafRowAsSeen_5 : decode cX0_leafRowAsSeen 5 = .ok (.istore_n 3, 1) := by decide +kernel
theorem dX0_leafRowAsSeen_6 : decode cX0_leafRowAsSeen 6 = .ok (.iload_n 3, 1) := by decide +kernel
theorem dX0_leafRowAsSeen_7 : decode cX0_leafRowAsSeen 7 = .ok (.iconst 1, 1) := by decide +kernel
theorem dX0_leafRowAsSeen_8 : decode cX0_leafRowAsSeen 8 = .ok (.iand, 1) := by decide +kernel
theorem dX0_leafRowAsSeen_9 : decode cX0_leafRowAsSeen 9 = .ok (.istore 4, 2) := by decide +kernel
theorem dX0_leafRowAsSeen_11 : decode cX0_leafRowAsSeen 11 = .ok (.iload_n 3, 1) := by decide +kernel
theorem dX0_leafRowAsSeen_12 : decode cX0_leafRowAsSeen 12 = .ok (.bipush 11, 2) := by decide +kernel
theorem dX0_leafRowAsSeen_14 : decode cX0_leafRowAsSeen 14 = .ok (.ishr, 1) := by decide +kernel
theorem dX0_leafRowAsSeen_15 : decode cX0_leafRowAsSeen 15 = .ok (.iconst 1, 1) := by decide +kernel
theorem dX0_leafRowAsSeen_16 : decode cX0_leafRowAsSeen 16 = .ok (.iand, 1) := by decide +kernel
theorem dX0_leafRowAsSeen_17 : decode cX0_leafRowAsSeen 17 = .ok (.istore 5, 2) := by decide +kernel
theorem dX0_leafRowAsSeen_19 : decode cX0_leafRowAsSeen 19 = .ok (.iload_n 3, 1) := by decide +kernel
theorem dX0_leafRowAsSeen_20 : decode cX0_leafRowAsSeen 20 = .ok (.iconst 1, 1) := by decide +kernel
theorem dX0_leafRowAsSeen_21 : decode cX0_leafRowAsSeen 21 = .ok (.ishl, 1) := by decide +kernel
theorem dX0_leafRowAsSeen_22 : decode cX0_leafRowAsSeen 22 = .ok (.istore 6, 2) := by decide +kernel
theorem dX0_leafRowAsSeen_24 : decode cX0_leafRowAsSeen 24 = .ok (.iload_n 2, 1) := by decide +kernel
theorem dX0_leafRowAsSeen_25 : decode cX0_leafRowAsSeen 25 = .ok (.iconst 1, 1) := by decide +kernel
theorem dX0_leafRowAsSeen_26 : decode cX0_leafRowAsSeen 26 = .ok (.if_icmp .ne 19, 3) := by decide +kernel
theorem dX0_leafRowAsSeen_29 : decode cX0_leafRowAsSeen 29 = .ok (.iload 6, 2) := by decide +kernel
theorem dX0_leafRowAsSeen_31 : decode cX0_leafRowAsSeen 31 = .ok (.iload 5, 2) := by decide +kernel
theorem dX0_leafRowAsSeen_33 : decode cX0_leafRowAsSeen 33 = .ok (.iload 4, 2) := by decide +kernel
theorem dX0_leafRowAsSeen_35 : decode cX0_leafRowAsSeen 35 = .ok (.bipush 13, 2) := by decide +kernel
theorem dX0_leafRowAsSeen_37 : decode cX0_leafRowAsSeen 37 = .ok (.ishl, 1) := by decide +kernel
theorem dX0_leafRowAsSeen_38 : decode cX0_leafRowAsSeen 38 = .ok (.ior, 1) := by decide +kernel
theorem dX0_leafRowAsSeen_39 : decode cX0_leafRowAsSeen 39 = .ok (.ior, 1) := by decide +kernel
theorem dX0_leafRowAsSeen_40 : decode cX0_leafRowAsSeen 40 = .ok (.istore 6, 2) := by decide +kernel
theorem dX0_leafRowAsSeen_42 : decode cX0_leafRowAsSeen 42 = .ok (.goto 21, 3) := by decide +kernel
theorem dX0_leafRowAsSeen_45 : decode cX0_leafRowAsSeen 45 = .ok (.iload_n 2, 1) := by decide +kernel
theorem dX0_leafRowAsSeen_46 : decode cX0_leafRowAsSeen 46 = .ok (.iconst 2, 1) := by decide +kernel
theorem dX0_leafRowAsSeen_47 : decode cX0_leafRowAsSeen 47 = .ok (.if_icmp .ne 16, 3) := by decide +kernel
theorem dX0_leafRowAsSeen_50 : decode cX0_leafRowAsSeen 50 = .ok (.iload 6, 2) := by decide +kernel
theorem dX0_leafRowAsSeen_52 : decode cX0_leafRowAsSeen 52 = .ok (.iload 4, 2) := by decide +kernel
theorem dX0_leafRowAsSeen_54 : decode cX0_leafRowAsSeen 54 = .ok (.iload 5, 2) := by decide +kernel
theorem dX0_leafRowAsSeen_56 : decode cX0_leafRowAsSeen 56 = .ok (.bipush 13, 2) := by decide +kernel
theorem dX0_leafRowAsSeen_58 : decode cX0_leafRowAsSeen 58 = .ok (.ishl, 1) := by decide +kernel
theorem dX0_leafRowAsSeen_59 : decode cX0_leafRowAsSeen 59 = .ok (.ior, 1) := by decide +kernel
theorem dX0_leafRowAsSeen_60 : decode cX0_leafRowAsSeen 60 = .ok (.ior, 1) := by decide +kernel
theorem dX0_leafRowAsSeen_61 : decode cX0_leafRowAsSeen 61 = .ok (.istore 6, 2) := by decide +kernel
theorem dX0_leafRowAsSeen_63 : decode cX0_leafRowAsSeen 63 = .ok (.iload 6, 2) := by decide +kernel
theorem dX0_leafRowAsSeen_65 : decode cX0_leafRowAsSeen 65 = .ok (.ireturn, 1) := by decide +kernel
set_option maxRecDepth 20000 in
theorem ggX1_init_X0_init : GoodIn wsX1_init wsX0_init := goodIn_r _ [21, 22, 2, 3, 13, 23, 24, 25, 26] (by decide +kernel) (by decide +kernel)
set_option maxRecDepth 20000 in
theorem gX1_init_X0_init_n9 : GoodIn wsX1_init (wsX0_init) := ggX1_init_X0_init
theorem dX1_init_0 : decode cX1_init 0 = .ok (.aload_n 0, 1) := by decide +kernel
theorem dX1_init_1 : decode cX1_init 1 = .ok (.invokespecial 1, 3) := by decide +kernel
theorem dX1_init_4 : decode cX1_init 4 = .ok (.aload_n 0, 1) := by decide +kernel
theorem dX1_init_5 : decode cX1_init 5 = .ok (.new 7, 3) := by decide +kernel
theorem dX1_init_8 : decode cX1_init 8 = .ok (.dup, 1) := by decide +kernel
theorem dX1_init_9 : decode cX1_init 9 = .ok (.invokespecial 9, 3) := by decide +kernel
theorem dX1_init_12 : decode cX1_init 12 = .ok (.putfield 10, 3) := by decide +kernel
theorem dX1_init_15 : decode cX1_init 15 = .ok (.aload_n 0, 1) := by decide +kernel
theorem dX1_init_16 : decode cX1_init 16 = .ok (.new 7, 3) := by decide +kernel
theorem dX1_init_19 : decode cX1_init 19 = .ok (.dup, 1) := by decide +kernel
theorem dX1_init_20 : decode cX1_init 20 = .ok (.invokespecial 9, 3) := by decide +kernel
theorem dX1_init_23 : decode cX1_init 23 = .ok (.putfield 16, 3) := by decide +kernel
theorem dX1_init_26 : decode cX1_init 26 = .ok (.aload_n 0, 1) := by decide +kernel
theorem dX1_init_27 : decode cX1_init 27 = .ok (.new 7, 3) := by decide +kernel
theorem dX1_init_30 : decode cX1_init 30 = .ok (.dup, 1) := by decide +kernel
theorem dX1_init_31 : decode cX1_init 31 = .ok (.invokespecial 9, 3) := by decide +kernel
theorem dX1_init_34 : decode cX1_init 34 = .ok (.putfield 19, 3) := by decide +kernel
theorem dX1_init_37 : decode cX1_init 37 = .ok (.aload_n 0, 1) := by decide +kernel
theorem dX1_init_38 : decode cX1_init 38 = .ok (.bipush 61, 2) := by decide +kernel
theorem dX1_init_40 : decode cX1_init 40 = .ok (.newarray .long, 2) := by decide +kernel
theorem dX1_init_42 : decode cX1_init 42 = .ok (.putfield 22, 3) := by decide +kernel
theorem dX1_init_45 : decode cX1_init 45 = .ok (.aload_n 0, 1) := by decide +kernel
theorem dX1_init_46 : decode cX1_init 46 = .ok (.bipush 61, 2) := by decide +kernel
theorem dX1_init_48 : decode cX1_init 48 = .ok (.newarray .long, 2) := by decide +kernel
theorem dX1_init_50 : decode cX1_init 50 = .ok (.putfield 26, 3) := by decide +kernel
theorem dX1_init_53 : decode cX1_init 53 = .ok (.aload_n 0, 1) := by decide +kernel
theorem dX1_init_54 : decode cX1_init 54 = .ok (.bipush 12, 2) := by decide +kernel
theorem dX1_init_56 : decode cX1_init 56 = .ok (.newarray .int, 2) := by decide +kernel
theorem dX1_init_58 : decode cX1_init 58 = .ok (.putfield 29, 3) := by decide +kernel
theorem dX1_init_61 : decode cX1_init 61 = .ok (.aload_n 0, 1) := by decide +kernel
theorem dX1_init_62 : decode cX1_init 62 = .ok (.iconst 0, 1) := by decide +kernel
theorem dX1_init_63 : decode cX1_init 63 = .ok (.putfield 33, 3) := by decide +kernel
theorem dX1_init_66 : decode cX1_init 66 = .ok (.aload_n 0, 1) := by decide +kernel
theorem dX1_init_67 : decode cX1_init 67 = .ok (.iconst 0, 1) := by decide +kernel
theorem dX1_init_68 : decode cX1_init 68 = .ok (.putfield 37, 3) := by decide +kernel
theorem dX1_init_71 : decode cX1_init 71 = .ok (.aload_n 0, 1) := by decide +kernel
theorem dX1_init_72 : decode cX1_init 72 = .ok (.iconst 0, 1) := by decide +kernel
theorem dX1_init_73 : decode cX1_init 73 = .ok (.putfield 40, 3) := by decide +kernel
theorem dX1_init_76 : decode cX1_init 76 = .ok (.aload_n 0, 1) := by decide +kernel
theorem dX1_init_77 : decode cX1_init 77 = .ok (.iconst 0, 1) := by decide +kernel
theorem dX1_init_78 : decode cX1_init 78 = .ok (.putfield 43, 3) := by decide +kernel
theorem dX1_init_81 : decode cX1_init 81 = .ok (.aload_n 0, 1) := by decide +kernel
theorem dX1_init_82 : decode cX1_init 82 = .ok (.iconst 0, 1) := by decide +kernel
theorem dX1_init_83 : decode cX1_init 83 = .ok (.putfield 46, 3) := by decide +kernel
theorem dX1_init_86 : decode cX1_init 86 = .ok (.iconst 0, 1) := by decide +kernel
theorem dX1_init_87 : decode cX1_init 87 = .ok (.istore_n 1, 1) := by decide +kernel
theorem dX1_init_88 : decode cX1_init 88 = .ok (.iload_n 1, 1) := by decide +kernel
theorem dX1_init_89 : decode cX1_init 89 = .ok (.bipush 12, 2) := by decide +kernel
theorem dX1_init_91 : decode cX1_init 91 = .ok (.if_icmp .ge 16, 3) := by decide +kernel
theorem dX1_init_94 : decode cX1_init 94 = .ok (.aload_n 0, 1) := by decide +kernel
theorem dX1_init_95 : decode cX1_init 95 = .ok (.getfield 29, 3) := by decide +kernel
theorem dX1_init_98 : decode cX1_init 98 = .ok (.iload_n 1, 1) := by decide +kernel
theorem dX1_init_99 : decode cX1_init 99 = .ok (.iconst 5, 1) := by decide +kernel
theorem dX1_init_100 : decode cX1_init 100 = .ok (.iastore, 1) := by decide +kernel
theorem dX1_init_101 : decode cX1_init 101 = .ok (.iinc 1 1, 3) := by decide +kernel
theorem dX1_init_104 : decode cX1_init 104 = .ok (.goto (-16), 3) := by decide +kernel
theorem dX1_init_107 : decode cX1_init 107 = .ok (.return_, 1) := by decide +kernel
theorem dX1_sides_0 : decode cX1_sides 0 = .ok (.iload_n 1, 1) := by decide +kernel
theorem dX1_sides_1 : decode cX1_sides 1 = .ok (.ifCond .eq 23, 3) := by decide +kernel
theorem dX1_sides_4 : decode cX1_sides 4 = .ok (.iload_n 1, 1) := by decide +kernel
theorem dX1_sides_5 : decode cX1_sides 5 = .ok (.iconst 1, 1) := by decide +kernel
theorem dX1_sides_6 : decode cX1_sides 6 = .ok (.if_icmp .eq 18, 3) := by decide +kernel
theorem dX1_sides_9 : decode cX1_sides 9 = .ok (.iload_n 1, 1) := by decide +kernel
theorem dX1_sides_10 : decode cX1_sides 10 = .ok (.iconst 2, 1) := by decide +kernel
theorem dX1_sides_11 : decode cX1_sides 11 = .ok (.if_icmp .eq 13, 3) := by decide +kernel
theorem dX1_sides_14 : decode cX1_sides 14 = .ok (.new 49, 3) := by decide +kernel
theorem dX1_sides_17 : decode cX1_sides 17 = .ok (.dup, 1) := by decide +kernel
theorem dX1_sides_18 : decode cX1_sides 18 = .ok (.ldc 51, 2) := by decide +kernel
theorem dX1_sides_20 : decode cX1_sides 20 = .ok (.invokespecial 53, 3) := by decide +kernel
theorem dX1_sides_23 : decode cX1_sides 23 = .ok (.athrow, 1) := by decide +kernel
theorem dX1_sides_24 : decode cX1_sides 24 = .ok (.aload_n 0, 1) := by decide +kernel
theorem dX1_sides_25 : decode cX1_sides 25 = .ok (.getfield 43, 3) := by decide +kernel
theorem dX1_sides_28 : decode cX1_sides 28 = .ok (.ifCond .le 13, 3) := by decide +kernel
theorem dX1_sides_31 : decode cX1_sides 31 = .ok (.new 56, 3) := by decide +kernel
theorem dX1_sides_34 : decode cX1_sides 34 = .ok (.dup, 1) := by decide +kernel
theorem dX1_sides_35 : decode cX1_sides 35 = .ok (.ldc 58, 2) := by decide +kernel
theorem dX1_sides_37 : decode cX1_sides 37 = .ok (.invokespecial 60, 3) := by decide +kernel
theorem dX1_sides_40 : decode cX1_sides 40 = .ok (.athrow, 1) := by decide +kernel
theorem dX1_sides_41 : decode cX1_sides 41 = .ok (.aload_n 0, 1) := by decide +kernel
theorem dX1_sides_42 : decode cX1_sides 42 = .ok (.iload_n 1, 1) := by decide +kernel
theorem dX1_sides_43 : decode cX1_sides 43 = .ok (.putfield 33, 3) := by decide +kernel
theorem dX1_sides_46 : decode cX1_sides 46 = .ok (.return_, 1) := by decide +kernel
set_option maxRecDepth 20000 in
theorem ggX1_plant_X1_requireColumn : GoodIn wsX1_plant wsX1_requireColumn := goodIn_ca (goodIn_r _ [8, 9, 10] (by decide +kernel) (by decide +kernel)) (goodIn_sub (fun _ h => List.mem_cons_of_mem _ (List.mem_append_right _ h)) (by decide +kernel))
set_option maxRecDepth 20000 in
theorem gX1_plant_X1_requireColumn : GoodIn wsX1_plant (va_wsS RX1 61 yX1_requireColumn wsX1_requireColumn) := goodIn_app (goodIn_of _ (by decide +kernel)) ggX1_plant_X1_requireColumn
set_option maxRecDepth 20000 in
theorem ggX1_plant_X0_isBareAt : GoodIn wsX1_plant wsX0_isBareAt := goodIn_r _ [15, 16, 17, 18, 14, 19, 20, 21, 22, 23, 24, 25, 26, 27, 28, 29, 47, 48] (by decide +kernel) (by decide +kernel)
set_option maxRecDepth 20000 in
theorem gX1_plant_X0_isBareAt : GoodIn wsX1_plant (wsV RX1 65 RX0 yX0_isBareAt wsX0_isBareAt) := goodIn_app (goodIn_of _ (by decide +kernel)) ggX1_plant_X0_isBareAt
set_option maxRecDepth 20000 in
theorem ggX1_plant_X0_putLeaf : GoodIn wsX1_plant wsX0_putLeaf := goodIn_r _ [33, 24, 34, 7, 35, 47, 48] (by decide +kernel) (by decide +kernel)
set_option maxRecDepth 20000 in
theorem gX1_plant_X0_putLeaf : GoodIn wsX1_plant (wsV RX1 73 RX0 yX0_putLeaf wsX0_putLeaf) := goodIn_app (goodIn_of _ (by decide +kernel)) ggX1_plant_X0_putLeaf
theorem dX1_plant_0 : decode cX1_plant 0 = .ok (.iload_n 1, 1) := by decide +kernel
theorem dX1_plant_1 : decode cX1_plant 1 = .ok (.invokestatic 61, 3) := by decide +kernel
theorem dX1_plant_4 : decode cX1_plant 4 = .ok (.aload_n 0, 1) := by decide +kernel
theorem dX1_plant_5 : decode cX1_plant 5 = .ok (.getfield 10, 3) := by decide +kernel
theorem dX1_plant_8 : decode cX1_plant 8 = .ok (.iconst 0, 1) := by decide +kernel
theorem dX1_plant_9 : decode cX1_plant 9 = .ok (.iload_n 1, 1) := by decide +kernel
theorem dX1_plant_10 : decode cX1_plant 10 = .ok (.invokevirtual 65, 3) := by decide +kernel
theorem dX1_plant_13 : decode cX1_plant 13 = .ok (.ifCond .ne 13, 3) := by decide +kernel
theorem dX1_plant_16 : decode cX1_plant 16 = .ok (.new 56, 3) := by decide +kernel
theorem dX1_plant_19 : decode cX1_plant 19 = .ok (.dup, 1) := by decide +kernel
theorem dX1_plant_20 : decode cX1_plant 20 = .ok (.ldc 69, 2) := by decide +kernel
theorem dX1_plant_22 : decode cX1_plant 22 = .ok (.invokespecial 60, 3) := by decide +kernel
theorem dX1_plant_25 : decode cX1_plant 25 = .ok (.athrow, 1) := by decide +kernel
theorem dX1_plant_26 : decode cX1_plant 26 = .ok (.aload_n 0, 1) := by decide +kernel
theorem dX1_plant_27 : decode cX1_plant 27 = .ok (.getfield 37, 3) := by decide +kernel
theorem dX1_plant_30 : decode cX1_plant 30 = .ok (.iconst 4, 1) := by decide +kernel
theorem dX1_plant_31 : decode cX1_plant 31 = .ok (.if_icmp .lt 13, 3) := by decide +kernel
theorem dX1_plant_34 : decode cX1_plant 34 = .ok (.new 56, 3) := by decide +kernel
theorem dX1_plant_37 : decode cX1_plant 37 = .ok (.dup, 1) := by decide +kernel
theorem dX1_plant_38 : decode cX1_plant 38 = .ok (.ldc 71, 2) := by decide +kernel
theorem dX1_plant_40 : decode cX1_plant 40 = .ok (.invokespecial 60, 3) := by decide +kernel
theorem dX1_plant_43 : decode cX1_plant 43 = .ok (.athrow, 1) := by decide +kernel
theorem dX1_plant_44 : decode cX1_plant 44 = .ok (.aload_n 0, 1) := by decide +kernel
theorem dX1_plant_45 : decode cX1_plant 45 = .ok (.getfield 10, 3) := by decide +kernel
theorem dX1_plant_48 : decode cX1_plant 48 = .ok (.iconst 0, 1) := by decide +kernel
theorem dX1_plant_49 : decode cX1_plant 49 = .ok (.iload_n 1, 1) := by decide +kernel
theorem dX1_plant_50 : decode cX1_plant 50 = .ok (.invokevirtual 73, 3) := by decide +kernel
theorem dX1_plant_53 : decode cX1_plant 53 = .ok (.aload_n 0, 1) := by decide +kernel
theorem dX1_plant_54 : decode cX1_plant 54 = .ok (.dup, 1) := by decide +kernel
theorem dX1_plant_55 : decode cX1_plant 55 = .ok (.getfield 37, 3) := by decide +kernel
theorem dX1_plant_58 : decode cX1_plant 58 = .ok (.iconst 1, 1) := by decide +kernel
theorem dX1_plant_59 : decode cX1_plant 59 = .ok (.iadd, 1) := by decide +kernel
theorem dX1_plant_60 : decode cX1_plant 60 = .ok (.putfield 37, 3) := by decide +kernel
theorem dX1_plant_63 : decode cX1_plant 63 = .ok (.return_, 1) := by decide +kernel
set_option maxRecDepth 20000 in
theorem ggX1_trellis_X1_requireColumn : GoodIn wsX1_trellis wsX1_requireColumn := goodIn_ca (goodIn_r _ [7, 8, 9] (by decide +kernel) (by decide +kernel)) (goodIn_sub (fun _ h => List.mem_cons_of_mem _ (List.mem_append_right _ h)) (by decide +kernel))
set_option maxRecDepth 20000 in
theorem gX1_trellis_X1_requireColumn : GoodIn wsX1_trellis (va_wsS RX1 61 yX1_requireColumn wsX1_requireColumn) := goodIn_app (goodIn_of _ (by decide +kernel)) ggX1_trellis_X1_requireColumn
theorem dX1_trellis_0 : decode cX1_trellis 0 = .ok (.iload_n 1, 1) := by decide +kernel
theorem dX1_trellis_1 : decode cX1_trellis 1 = .ok (.invokestatic 61, 3) := by decide +kernel
theorem dX1_trellis_4 : decode cX1_trellis 4 = .ok (.iload_n 2, 1) := by decide +kernel
theorem dX1_trellis_5 : decode cX1_trellis 5 = .ok (.iconst 1, 1) := by decide +kernel
theorem dX1_trellis_6 : decode cX1_trellis 6 = .ok (.if_icmp .lt 9, 3) := by decide +kernel
theorem dX1_trellis_9 : decode cX1_trellis 9 = .ok (.iload_n 2, 1) := by decide +kernel
theorem dX1_trellis_10 : decode cX1_trellis 10 = .ok (.bipush 8, 2) := by decide +kernel
theorem dX1_trellis_12 : decode cX1_trellis 12 = .ok (.if_icmp .le 13, 3) := by decide +kernel
theorem dX1_trellis_15 : decode cX1_trellis 15 = .ok (.new 49, 3) := by decide +kernel
theorem dX1_trellis_18 : decode cX1_trellis 18 = .ok (.dup, 1) := by decide +kernel
theorem dX1_trellis_19 : decode cX1_trellis 19 = .ok (.ldc 77, 2) := by decide +kernel
