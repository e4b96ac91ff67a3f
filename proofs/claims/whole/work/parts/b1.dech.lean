theorem dL_crateNameByte_0 : decode cL_crateNameByte 0 = .ok (.aload_n 3, 1) := by decide +kernel
theorem dL_crateNameByte_1 : decode cL_crateNameByte 1 = .ok (.iconst 0, 1) := by decide +kernel
theorem dL_crateNameByte_2 : decode cL_crateNameByte 2 = .ok (.aload_n 0, 1) := by decide +kernel
theorem dL_crateNameByte_3 : decode cL_crateNameByte 3 = .ok (.iload_n 1, 1) := by decide +kernel
theorem dL_crateNameByte_4 : decode cL_crateNameByte 4 = .ok (.iload_n 2, 1) := by decide +kernel
theorem dL_crateNameByte_5 : decode cL_crateNameByte 5 = .ok (.invokevirtual 7, 3) := by decide +kernel
theorem dL_crateNameByte_8 : decode cL_crateNameByte 8 = .ok (.i2l, 1) := by decide +kernel
theorem dL_crateNameByte_9 : decode cL_crateNameByte 9 = .ok (.lastore, 1) := by decide +kernel
theorem dL_crateNameByte_10 : decode cL_crateNameByte 10 = .ok (.goto 7, 3) := by decide +kernel
theorem dL_crateNameByte_13 : decode cL_crateNameByte 13 = .ok (.astore 4, 2) := by decide +kernel
theorem dL_crateNameByte_15 : decode cL_crateNameByte 15 = .ok (.iconst 1, 1) := by decide +kernel
theorem dL_crateNameByte_16 : decode cL_crateNameByte 16 = .ok (.ireturn, 1) := by decide +kernel
theorem dL_crateNameByte_17 : decode cL_crateNameByte 17 = .ok (.iconst 0, 1) := by decide +kernel
theorem dL_crateNameByte_18 : decode cL_crateNameByte 18 = .ok (.ireturn, 1) := by decide +kernel
theorem dL_buyerNameByte_0 : decode cL_buyerNameByte 0 = .ok (.aload_n 3, 1) := by decide +kernel
theorem dL_buyerNameByte_1 : decode cL_buyerNameByte 1 = .ok (.iconst 0, 1) := by decide +kernel
theorem dL_buyerNameByte_2 : decode cL_buyerNameByte 2 = .ok (.aload_n 0, 1) := by decide +kernel
theorem dL_buyerNameByte_3 : decode cL_buyerNameByte 3 = .ok (.iload_n 1, 1) := by decide +kernel
theorem dL_buyerNameByte_4 : decode cL_buyerNameByte 4 = .ok (.iload_n 2, 1) := by decide +kernel
theorem dL_buyerNameByte_5 : decode cL_buyerNameByte 5 = .ok (.invokevirtual 15, 3) := by decide +kernel
theorem dL_buyerNameByte_8 : decode cL_buyerNameByte 8 = .ok (.i2l, 1) := by decide +kernel
theorem dL_buyerNameByte_9 : decode cL_buyerNameByte 9 = .ok (.lastore, 1) := by decide +kernel
theorem dL_buyerNameByte_10 : decode cL_buyerNameByte 10 = .ok (.goto 7, 3) := by decide +kernel
theorem dL_buyerNameByte_13 : decode cL_buyerNameByte 13 = .ok (.astore 4, 2) := by decide +kernel
theorem dL_buyerNameByte_15 : decode cL_buyerNameByte 15 = .ok (.iconst 1, 1) := by decide +kernel
theorem dL_buyerNameByte_16 : decode cL_buyerNameByte 16 = .ok (.ireturn, 1) := by decide +kernel
theorem dL_buyerNameByte_17 : decode cL_buyerNameByte 17 = .ok (.iconst 0, 1) := by decide +kernel
theorem dL_buyerNameByte_18 : decode cL_buyerNameByte 18 = .ok (.ireturn, 1) := by decide +kernel
theorem dL_tareOf_0 : decode cL_tareOf 0 = .ok (.aload_n 2, 1) := by decide +kernel
theorem dL_tareOf_1 : decode cL_tareOf 1 = .ok (.iconst 0, 1) := by decide +kernel
theorem dL_tareOf_2 : decode cL_tareOf 2 = .ok (.aload_n 0, 1) := by decide +kernel
theorem dL_tareOf_3 : decode cL_tareOf 3 = .ok (.iload_n 1, 1) := by decide +kernel
theorem dL_tareOf_4 : decode cL_tareOf 4 = .ok (.invokevirtual 18, 3) := by decide +kernel
theorem dL_tareOf_7 : decode cL_tareOf 7 = .ok (.i2l, 1) := by decide +kernel
theorem dL_tareOf_8 : decode cL_tareOf 8 = .ok (.lastore, 1) := by decide +kernel
theorem dL_tareOf_9 : decode cL_tareOf 9 = .ok (.goto 6, 3) := by decide +kernel
theorem dL_tareOf_12 : decode cL_tareOf 12 = .ok (.astore_n 3, 1) := by decide +kernel
theorem dL_tareOf_13 : decode cL_tareOf 13 = .ok (.iconst 1, 1) := by decide +kernel
theorem dL_tareOf_14 : decode cL_tareOf 14 = .ok (.ireturn, 1) := by decide +kernel
theorem dL_tareOf_15 : decode cL_tareOf 15 = .ok (.iconst 0, 1) := by decide +kernel
theorem dL_tareOf_16 : decode cL_tareOf 16 = .ok (.ireturn, 1) := by decide +kernel
theorem dL_goodsOf_0 : decode cL_goodsOf 0 = .ok (.aload_n 2, 1) := by decide +kernel
theorem dL_goodsOf_1 : decode cL_goodsOf 1 = .ok (.iconst 0, 1) := by decide +kernel
theorem dL_goodsOf_2 : decode cL_goodsOf 2 = .ok (.aload_n 0, 1) := by decide +kernel
theorem dL_goodsOf_3 : decode cL_goodsOf 3 = .ok (.iload_n 1, 1) := by decide +kernel
theorem dL_goodsOf_4 : decode cL_goodsOf 4 = .ok (.invokevirtual 22, 3) := by decide +kernel
theorem dL_goodsOf_7 : decode cL_goodsOf 7 = .ok (.i2l, 1) := by decide +kernel
theorem dL_goodsOf_8 : decode cL_goodsOf 8 = .ok (.lastore, 1) := by decide +kernel
theorem dL_goodsOf_9 : decode cL_goodsOf 9 = .ok (.goto 6, 3) := by decide +kernel
theorem dL_goodsOf_12 : decode cL_goodsOf 12 = .ok (.astore_n 3, 1) := by decide +kernel
theorem dL_goodsOf_13 : decode cL_goodsOf 13 = .ok (.iconst 1, 1) := by decide +kernel
theorem dL_goodsOf_14 : decode cL_goodsOf 14 = .ok (.ireturn, 1) := by decide +kernel
theorem dL_goodsOf_15 : decode cL_goodsOf 15 = .ok (.iconst 0, 1) := by decide +kernel
theorem dL_goodsOf_16 : decode cL_goodsOf 16 = .ok (.ireturn, 1) := by decide +kernel
theorem dL_grossOf_0 : decode cL_grossOf 0 = .ok (.aload_n 2, 1) := by decide +kernel
theorem dL_grossOf_1 : decode cL_grossOf 1 = .ok (.iconst 0, 1) := by decide +kernel
theorem dL_grossOf_2 : decode cL_grossOf 2 = .ok (.aload_n 0, 1) := by decide +kernel
theorem dL_grossOf_3 : decode cL_grossOf 3 = .ok (.iload_n 1, 1) := by decide +kernel
theorem dL_grossOf_4 : decode cL_grossOf 4 = .ok (.invokevirtual 25, 3) := by decide +kernel
theorem dL_grossOf_7 : decode cL_grossOf 7 = .ok (.i2l, 1) := by decide +kernel
theorem dL_grossOf_8 : decode cL_grossOf 8 = .ok (.lastore, 1) := by decide +kernel
theorem dL_grossOf_9 : decode cL_grossOf 9 = .ok (.goto 6, 3) := by decide +kernel
theorem dL_grossOf_12 : decode cL_grossOf 12 = .ok (.astore_n 3, 1) := by decide +kernel
theorem dL_grossOf_13 : decode cL_grossOf 13 = .ok (.iconst 1, 1) := by decide +kernel
theorem dL_grossOf_14 : decode cL_grossOf 14 = .ok (.ireturn, 1) := by decide +kernel
theorem dL_grossOf_15 : decode cL_grossOf 15 = .ok (.iconst 0, 1) := by decide +kernel
theorem dL_grossOf_16 : decode cL_grossOf 16 = .ok (.ireturn, 1) := by decide +kernel
theorem dL_parentOf_0 : decode cL_parentOf 0 = .ok (.aload_n 2, 1) := by decide +kernel
theorem dL_parentOf_1 : decode cL_parentOf 1 = .ok (.iconst 0, 1) := by decide +kernel
theorem dL_parentOf_2 : decode cL_parentOf 2 = .ok (.aload_n 0, 1) := by decide +kernel
theorem dL_parentOf_3 : decode cL_parentOf 3 = .ok (.iload_n 1, 1) := by decide +kernel
theorem dL_parentOf_4 : decode cL_parentOf 4 = .ok (.invokevirtual 28, 3) := by decide +kernel
theorem dL_parentOf_7 : decode cL_parentOf 7 = .ok (.i2l, 1) := by decide +kernel
theorem dL_parentOf_8 : decode cL_parentOf 8 = .ok (.lastore, 1) := by decide +kernel
theorem dL_parentOf_9 : decode cL_parentOf 9 = .ok (.goto 6, 3) := by decide +kernel
theorem dL_parentOf_12 : decode cL_parentOf 12 = .ok (.astore_n 3, 1) := by decide +kernel
theorem dL_parentOf_13 : decode cL_parentOf 13 = .ok (.iconst 1, 1) := by decide +kernel
theorem dL_parentOf_14 : decode cL_parentOf 14 = .ok (.ireturn, 1) := by decide +kernel
theorem dL_parentOf_15 : decode cL_parentOf 15 = .ok (.iconst 0, 1) := by decide +kernel
theorem dL_parentOf_16 : decode cL_parentOf 16 = .ok (.ireturn, 1) := by decide +kernel
theorem dL_depthOf_0 : decode cL_depthOf 0 = .ok (.aload_n 2, 1) := by decide +kernel
theorem dL_depthOf_1 : decode cL_depthOf 1 = .ok (.iconst 0, 1) := by decide +kernel
theorem dL_depthOf_2 : decode cL_depthOf 2 = .ok (.aload_n 0, 1) := by decide +kernel
theorem dL_depthOf_3 : decode cL_depthOf 3 = .ok (.iload_n 1, 1) := by decide +kernel
theorem dL_depthOf_4 : decode cL_depthOf 4 = .ok (.invokevirtual 31, 3) := by decide +kernel
theorem dL_depthOf_7 : decode cL_depthOf 7 = .ok (.i2l, 1) := by decide +kernel
theorem dL_depthOf_8 : decode cL_depthOf 8 = .ok (.lastore, 1) := by decide +kernel
theorem dL_depthOf_9 : decode cL_depthOf 9 = .ok (.goto 6, 3) := by decide +kernel
theorem dL_depthOf_12 : decode cL_depthOf 12 = .ok (.astore_n 3, 1) := by decide +kernel
theorem dL_depthOf_13 : decode cL_depthOf 13 = .ok (.iconst 1, 1) := by decide +kernel
theorem dL_depthOf_14 : decode cL_depthOf 14 = .ok (.ireturn, 1) := by decide +kernel
theorem dL_depthOf_15 : decode cL_depthOf 15 = .ok (.iconst 0, 1) := by decide +kernel
theorem dL_depthOf_16 : decode cL_depthOf 16 = .ok (.ireturn, 1) := by decide +kernel
theorem dL_childCount_0 : decode cL_childCount 0 = .ok (.aload_n 2, 1) := by decide +kernel
theorem dL_childCount_1 : decode cL_childCount 1 = .ok (.iconst 0, 1) := by decide +kernel
theorem dL_childCount_2 : decode cL_childCount 2 = .ok (.aload_n 0, 1) := by decide +kernel
theorem dL_childCount_3 : decode cL_childCount 3 = .ok (.iload_n 1, 1) := by decide +kernel
theorem dL_childCount_4 : decode cL_childCount 4 = .ok (.invokevirtual 34, 3) := by decide +kernel
theorem dL_childCount_7 : decode cL_childCount 7 = .ok (.i2l, 1) := by decide +kernel
theorem dL_childCount_8 : decode cL_childCount 8 = .ok (.lastore, 1) := by decide +kernel
theorem dL_childCount_9 : decode cL_childCount 9 = .ok (.goto 6, 3) := by decide +kernel
theorem dL_childCount_12 : decode cL_childCount 12 = .ok (.astore_n 3, 1) := by decide +kernel
theorem dL_childCount_13 : decode cL_childCount 13 = .ok (.iconst 1, 1) := by decide +kernel
theorem dL_childCount_14 : decode cL_childCount 14 = .ok (.ireturn, 1) := by decide +kernel
theorem dL_childCount_15 : decode cL_childCount 15 = .ok (.iconst 0, 1) := by decide +kernel
theorem dL_childCount_16 : decode cL_childCount 16 = .ok (.ireturn, 1) := by decide +kernel
theorem dL_childOf_0 : decode cL_childOf 0 = .ok (.aload_n 3, 1) := by decide +kernel
theorem dL_childOf_1 : decode cL_childOf 1 = .ok (.iconst 0, 1) := by decide +kernel
theorem dL_childOf_2 : decode cL_childOf 2 = .ok (.aload_n 0, 1) := by decide +kernel
theorem dL_childOf_3 : decode cL_childOf 3 = .ok (.iload_n 1, 1) := by decide +kernel
theorem dL_childOf_4 : decode cL_childOf 4 = .ok (.iload_n 2, 1) := by decide +kernel
theorem dL_childOf_5 : decode cL_childOf 5 = .ok (.invokevirtual 37, 3) := by decide +kernel
theorem dL_childOf_8 : decode cL_childOf 8 = .ok (.i2l, 1) := by decide +kernel
theorem dL_childOf_9 : decode cL_childOf 9 = .ok (.lastore, 1) := by decide +kernel
theorem dL_childOf_10 : decode cL_childOf 10 = .ok (.goto 7, 3) := by decide +kernel
theorem dL_childOf_13 : decode cL_childOf 13 = .ok (.astore 4, 2) := by decide +kernel
theorem dL_childOf_15 : decode cL_childOf 15 = .ok (.iconst 1, 1) := by decide +kernel
theorem dL_childOf_16 : decode cL_childOf 16 = .ok (.ireturn, 1) := by decide +kernel
theorem dL_childOf_17 : decode cL_childOf 17 = .ok (.iconst 0, 1) := by decide +kernel
theorem dL_childOf_18 : decode cL_childOf 18 = .ok (.ireturn, 1) := by decide +kernel
theorem dL_isInYard_0 : decode cL_isInYard 0 = .ok (.aload_n 2, 1) := by decide +kernel
theorem dL_isInYard_1 : decode cL_isInYard 1 = .ok (.iconst 0, 1) := by decide +kernel
theorem dL_isInYard_2 : decode cL_isInYard 2 = .ok (.aload_n 0, 1) := by decide +kernel
theorem dL_isInYard_3 : decode cL_isInYard 3 = .ok (.iload_n 1, 1) := by decide +kernel
theorem dL_isInYard_4 : decode cL_isInYard 4 = .ok (.invokevirtual 40, 3) := by decide +kernel
theorem dL_isInYard_7 : decode cL_isInYard 7 = .ok (.ifCond .eq 7, 3) := by decide +kernel
theorem dL_isInYard_10 : decode cL_isInYard 10 = .ok (.lconst 1, 1) := by decide +kernel
theorem dL_isInYard_11 : decode cL_isInYard 11 = .ok (.goto 4, 3) := by decide +kernel
theorem dL_isInYard_14 : decode cL_isInYard 14 = .ok (.lconst 0, 1) := by decide +kernel
theorem dL_isInYard_15 : decode cL_isInYard 15 = .ok (.lastore, 1) := by decide +kernel
theorem dL_isInYard_16 : decode cL_isInYard 16 = .ok (.goto 6, 3) := by decide +kernel
theorem dL_isInYard_19 : decode cL_isInYard 19 = .ok (.astore_n 3, 1) := by decide +kernel
theorem dL_isInYard_20 : decode cL_isInYard 20 = .ok (.iconst 1, 1) := by decide +kernel
theorem dL_isInYard_21 : decode cL_isInYard 21 = .ok (.ireturn, 1) := by decide +kernel
theorem dL_isInYard_22 : decode cL_isInYard 22 = .ok (.iconst 0, 1) := by decide +kernel
theorem dL_isInYard_23 : decode cL_isInYard 23 = .ok (.ireturn, 1) := by decide +kernel
theorem dL_readingCount_0 : decode cL_readingCount 0 = .ok (.aload_n 2, 1) := by decide +kernel
theorem dL_readingCount_1 : decode cL_readingCount 1 = .ok (.iconst 0, 1) := by decide +kernel
theorem dL_readingCount_2 : decode cL_readingCount 2 = .ok (.aload_n 0, 1) := by decide +kernel
theorem dL_readingCount_3 : decode cL_readingCount 3 = .ok (.iload_n 1, 1) := by decide +kernel
theorem dL_readingCount_4 : decode cL_readingCount 4 = .ok (.invokevirtual 44, 3) := by decide +kernel
theorem dL_readingCount_7 : decode cL_readingCount 7 = .ok (.i2l, 1) := by decide +kernel
theorem dL_readingCount_8 : decode cL_readingCount 8 = .ok (.lastore, 1) := by decide +kernel
theorem dL_readingCount_9 : decode cL_readingCount 9 = .ok (.goto 6, 3) := by decide +kernel
theorem dL_readingCount_12 : decode cL_readingCount 12 = .ok (.astore_n 3, 1) := by decide +kernel
theorem dL_readingCount_13 : decode cL_readingCount 13 = .ok (.iconst 1, 1) := by decide +kernel
theorem dL_readingCount_14 : decode cL_readingCount 14 = .ok (.ireturn, 1) := by decide +kernel
theorem dL_readingCount_15 : decode cL_readingCount 15 = .ok (.iconst 0, 1) := by decide +kernel
theorem dL_readingCount_16 : decode cL_readingCount 16 = .ok (.ireturn, 1) := by decide +kernel
theorem dL_lastReading_0 : decode cL_lastReading 0 = .ok (.aload_n 2, 1) := by decide +kernel
theorem dL_lastReading_1 : decode cL_lastReading 1 = .ok (.iconst 0, 1) := by decide +kernel
theorem dL_lastReading_2 : decode cL_lastReading 2 = .ok (.aload_n 0, 1) := by decide +kernel
theorem dL_lastReading_3 : decode cL_lastReading 3 = .ok (.iload_n 1, 1) := by decide +kernel
theorem dL_lastReading_4 : decode cL_lastReading 4 = .ok (.invokevirtual 47, 3) := by decide +kernel
theorem dL_lastReading_7 : decode cL_lastReading 7 = .ok (.i2l, 1) := by decide +kernel
theorem dL_lastReading_8 : decode cL_lastReading 8 = .ok (.lastore, 1) := by decide +kernel
theorem dL_lastReading_9 : decode cL_lastReading 9 = .ok (.goto 9, 3) := by decide +kernel
theorem dL_lastReading_12 : decode cL_lastReading 12 = .ok (.astore_n 3, 1) := by decide +kernel
theorem dL_lastReading_13 : decode cL_lastReading 13 = .ok (.iconst 1, 1) := by decide +kernel
theorem dL_lastReading_14 : decode cL_lastReading 14 = .ok (.ireturn, 1) := by decide +kernel
theorem dL_lastReading_15 : decode cL_lastReading 15 = .ok (.astore_n 3, 1) := by decide +kernel
theorem dL_lastReading_16 : decode cL_lastReading 16 = .ok (.iconst 2, 1) := by decide +kernel
theorem dL_lastReading_17 : decode cL_lastReading 17 = .ok (.ireturn, 1) := by decide +kernel
theorem dL_lastReading_18 : decode cL_lastReading 18 = .ok (.iconst 0, 1) := by decide +kernel
theorem dL_lastReading_19 : decode cL_lastReading 19 = .ok (.ireturn, 1) := by decide +kernel
theorem dL_meanReading_0 : decode cL_meanReading 0 = .ok (.aload_n 2, 1) := by decide +kernel
theorem dL_meanReading_1 : decode cL_meanReading 1 = .ok (.iconst 0, 1) := by decide +kernel
theorem dL_meanReading_2 : decode cL_meanReading 2 = .ok (.aload_n 0, 1) := by decide +kernel
theorem dL_meanReading_3 : decode cL_meanReading 3 = .ok (.iload_n 1, 1) := by decide +kernel
theorem dL_meanReading_4 : decode cL_meanReading 4 = .ok (.invokevirtual 52, 3) := by decide +kernel
theorem dL_meanReading_7 : decode cL_meanReading 7 = .ok (.i2l, 1) := by decide +kernel
theorem dL_meanReading_8 : decode cL_meanReading 8 = .ok (.lastore, 1) := by decide +kernel
theorem dL_meanReading_9 : decode cL_meanReading 9 = .ok (.goto 9, 3) := by decide +kernel
theorem dL_meanReading_12 : decode cL_meanReading 12 = .ok (.astore_n 3, 1) := by decide +kernel
theorem dL_meanReading_13 : decode cL_meanReading 13 = .ok (.iconst 1, 1) := by decide +kernel
theorem dL_meanReading_14 : decode cL_meanReading 14 = .ok (.ireturn, 1) := by decide +kernel
theorem dL_meanReading_15 : decode cL_meanReading 15 = .ok (.astore_n 3, 1) := by decide +kernel
theorem dL_meanReading_16 : decode cL_meanReading 16 = .ok (.iconst 2, 1) := by decide +kernel
theorem dL_meanReading_17 : decode cL_meanReading 17 = .ok (.ireturn, 1) := by decide +kernel
theorem dL_meanReading_18 : decode cL_meanReading 18 = .ok (.iconst 0, 1) := by decide +kernel
theorem dL_meanReading_19 : decode cL_meanReading 19 = .ok (.ireturn, 1) := by decide +kernel
theorem dL_meanError_0 : decode cL_meanError 0 = .ok (.aload_n 2, 1) := by decide +kernel
theorem dL_meanError_1 : decode cL_meanError 1 = .ok (.iconst 0, 1) := by decide +kernel
theorem dL_meanError_2 : decode cL_meanError 2 = .ok (.aload_n 0, 1) := by decide +kernel
theorem dL_meanError_3 : decode cL_meanError 3 = .ok (.iload_n 1, 1) := by decide +kernel
theorem dL_meanError_4 : decode cL_meanError 4 = .ok (.invokevirtual 55, 3) := by decide +kernel
theorem dL_meanError_7 : decode cL_meanError 7 = .ok (.i2l, 1) := by decide +kernel
theorem dL_meanError_8 : decode cL_meanError 8 = .ok (.lastore, 1) := by decide +kernel
theorem dL_meanError_9 : decode cL_meanError 9 = .ok (.goto 9, 3) := by decide +kernel
theorem dL_meanError_12 : decode cL_meanError 12 = .ok (.astore_n 3, 1) := by decide +kernel
theorem dL_meanError_13 : decode cL_meanError 13 = .ok (.iconst 1, 1) := by decide +kernel
theorem dL_meanError_14 : decode cL_meanError 14 = .ok (.ireturn, 1) := by decide +kernel
theorem dL_meanError_15 : decode cL_meanError 15 = .ok (.astore_n 3, 1) := by decide +kernel
theorem dL_meanError_16 : decode cL_meanError 16 = .ok (.iconst 2, 1) := by decide +kernel
theorem dL_meanError_17 : decode cL_meanError 17 = .ok (.ireturn, 1) := by decide +kernel
theorem dL_meanError_18 : decode cL_meanError 18 = .ok (.iconst 0, 1) := by decide +kernel
theorem dL_meanError_19 : decode cL_meanError 19 = .ok (.ireturn, 1) := by decide +kernel
theorem dL_exactMean_0 : decode cL_exactMean 0 = .ok (.aload_n 2, 1) := by decide +kernel
theorem dL_exactMean_1 : decode cL_exactMean 1 = .ok (.iconst 0, 1) := by decide +kernel
theorem dL_exactMean_2 : decode cL_exactMean 2 = .ok (.aload_n 0, 1) := by decide +kernel
theorem dL_exactMean_3 : decode cL_exactMean 3 = .ok (.iload_n 1, 1) := by decide +kernel
theorem dL_exactMean_4 : decode cL_exactMean 4 = .ok (.invokevirtual 58, 3) := by decide +kernel
theorem dL_exactMean_7 : decode cL_exactMean 7 = .ok (.dastore, 1) := by decide +kernel
theorem dL_exactMean_8 : decode cL_exactMean 8 = .ok (.goto 9, 3) := by decide +kernel
theorem dL_exactMean_11 : decode cL_exactMean 11 = .ok (.astore_n 3, 1) := by decide +kernel
theorem dL_exactMean_12 : decode cL_exactMean 12 = .ok (.iconst 1, 1) := by decide +kernel
theorem dL_exactMean_13 : decode cL_exactMean 13 = .ok (.ireturn, 1) := by decide +kernel
theorem dL_exactMean_14 : decode cL_exactMean 14 = .ok (.astore_n 3, 1) := by decide +kernel
theorem dL_exactMean_15 : decode cL_exactMean 15 = .ok (.iconst 2, 1) := by decide +kernel
theorem dL_exactMean_16 : decode cL_exactMean 16 = .ok (.ireturn, 1) := by decide +kernel
theorem dL_exactMean_17 : decode cL_exactMean 17 = .ok (.iconst 0, 1) := by decide +kernel
theorem dL_exactMean_18 : decode cL_exactMean 18 = .ok (.ireturn, 1) := by decide +kernel
theorem dL_predictReading_0 : decode cL_predictReading 0 = .ok (.aload_n 2, 1) := by decide +kernel
theorem dL_predictReading_1 : decode cL_predictReading 1 = .ok (.iconst 0, 1) := by decide +kernel
theorem dL_predictReading_2 : decode cL_predictReading 2 = .ok (.aload_n 0, 1) := by decide +kernel
theorem dL_predictReading_3 : decode cL_predictReading 3 = .ok (.iload_n 1, 1) := by decide +kernel
theorem dL_predictReading_4 : decode cL_predictReading 4 = .ok (.invokevirtual 62, 3) := by decide +kernel
theorem dL_predictReading_7 : decode cL_predictReading 7 = .ok (.i2l, 1) := by decide +kernel
theorem dL_predictReading_8 : decode cL_predictReading 8 = .ok (.lastore, 1) := by decide +kernel
theorem dL_predictReading_9 : decode cL_predictReading 9 = .ok (.goto 9, 3) := by decide +kernel
theorem dL_predictReading_12 : decode cL_predictReading 12 = .ok (.astore_n 3, 1) := by decide +kernel
theorem dL_predictReading_13 : decode cL_predictReading 13 = .ok (.iconst 1, 1) := by decide +kernel
theorem dL_predictReading_14 : decode cL_predictReading 14 = .ok (.ireturn, 1) := by decide +kernel
theorem dL_predictReading_15 : decode cL_predictReading 15 = .ok (.astore_n 3, 1) := by decide +kernel
theorem dL_predictReading_16 : decode cL_predictReading 16 = .ok (.iconst 2, 1) := by decide +kernel
theorem dL_predictReading_17 : decode cL_predictReading 17 = .ok (.ireturn, 1) := by decide +kernel
theorem dL_predictReading_18 : decode cL_predictReading 18 = .ok (.iconst 0, 1) := by decide +kernel
theorem dL_predictReading_19 : decode cL_predictReading 19 = .ok (.ireturn, 1) := by decide +kernel
theorem dL_predictMean_0 : decode cL_predictMean 0 = .ok (.aload_n 3, 1) := by decide +kernel
theorem dL_predictMean_1 : decode cL_predictMean 1 = .ok (.iconst 0, 1) := by decide +kernel
theorem dL_predictMean_2 : decode cL_predictMean 2 = .ok (.aload_n 0, 1) := by decide +kernel
theorem dL_predictMean_3 : decode cL_predictMean 3 = .ok (.iload_n 1, 1) := by decide +kernel
theorem dL_predictMean_4 : decode cL_predictMean 4 = .ok (.iload_n 2, 1) := by decide +kernel
theorem dL_predictMean_5 : decode cL_predictMean 5 = .ok (.invokevirtual 67, 3) := by decide +kernel
theorem dL_predictMean_8 : decode cL_predictMean 8 = .ok (.i2l, 1) := by decide +kernel
theorem dL_predictMean_9 : decode cL_predictMean 9 = .ok (.lastore, 1) := by decide +kernel
theorem dL_predictMean_10 : decode cL_predictMean 10 = .ok (.goto 15, 3) := by decide +kernel
theorem dL_predictMean_13 : decode cL_predictMean 13 = .ok (.astore 4, 2) := by decide +kernel
theorem dL_predictMean_15 : decode cL_predictMean 15 = .ok (.iconst 1, 1) := by decide +kernel
theorem dL_predictMean_16 : decode cL_predictMean 16 = .ok (.ireturn, 1) := by decide +kernel
theorem dL_predictMean_17 : decode cL_predictMean 17 = .ok (.astore 4, 2) := by decide +kernel
theorem dL_predictMean_19 : decode cL_predictMean 19 = .ok (.iconst 2, 1) := by decide +kernel
theorem dL_predictMean_20 : decode cL_predictMean 20 = .ok (.ireturn, 1) := by decide +kernel
theorem dL_predictMean_21 : decode cL_predictMean 21 = .ok (.astore 4, 2) := by decide +kernel
theorem dL_predictMean_23 : decode cL_predictMean 23 = .ok (.iconst 3, 1) := by decide +kernel
theorem dL_predictMean_24 : decode cL_predictMean 24 = .ok (.ireturn, 1) := by decide +kernel
theorem dL_predictMean_25 : decode cL_predictMean 25 = .ok (.iconst 0, 1) := by decide +kernel
theorem dL_predictMean_26 : decode cL_predictMean 26 = .ok (.ireturn, 1) := by decide +kernel
theorem dL_readingsUntilWithin_0 : decode cL_readingsUntilWithin 0 = .ok (.aload_n 3, 1) := by decide +kernel
theorem dL_readingsUntilWithin_1 : decode cL_readingsUntilWithin 1 = .ok (.iconst 0, 1) := by decide +kernel
theorem dL_readingsUntilWithin_2 : decode cL_readingsUntilWithin 2 = .ok (.aload_n 0, 1) := by decide +kernel
theorem dL_readingsUntilWithin_3 : decode cL_readingsUntilWithin 3 = .ok (.iload_n 1, 1) := by decide +kernel
theorem dL_readingsUntilWithin_4 : decode cL_readingsUntilWithin 4 = .ok (.iload_n 2, 1) := by decide +kernel
theorem dL_readingsUntilWithin_5 : decode cL_readingsUntilWithin 5 = .ok (.invokevirtual 72, 3) := by decide +kernel
theorem dL_readingsUntilWithin_8 : decode cL_readingsUntilWithin 8 = .ok (.i2l, 1) := by decide +kernel
theorem dL_readingsUntilWithin_9 : decode cL_readingsUntilWithin 9 = .ok (.lastore, 1) := by decide +kernel
theorem dL_readingsUntilWithin_10 : decode cL_readingsUntilWithin 10 = .ok (.goto 15, 3) := by decide +kernel
theorem dL_readingsUntilWithin_13 : decode cL_readingsUntilWithin 13 = .ok (.astore 4, 2) := by decide +kernel
theorem dL_readingsUntilWithin_15 : decode cL_readingsUntilWithin 15 = .ok (.iconst 1, 1) := by decide +kernel
theorem dL_readingsUntilWithin_16 : decode cL_readingsUntilWithin 16 = .ok (.ireturn, 1) := by decide +kernel
theorem dL_readingsUntilWithin_17 : decode cL_readingsUntilWithin 17 = .ok (.astore 4, 2) := by decide +kernel
theorem dL_readingsUntilWithin_19 : decode cL_readingsUntilWithin 19 = .ok (.iconst 2, 1) := by decide +kernel
theorem dL_readingsUntilWithin_20 : decode cL_readingsUntilWithin 20 = .ok (.ireturn, 1) := by decide +kernel
theorem dL_readingsUntilWithin_21 : decode cL_readingsUntilWithin 21 = .ok (.astore 4, 2) := by decide +kernel
theorem dL_readingsUntilWithin_23 : decode cL_readingsUntilWithin 23 = .ok (.iconst 3, 1) := by decide +kernel
theorem dL_readingsUntilWithin_24 : decode cL_readingsUntilWithin 24 = .ok (.ireturn, 1) := by decide +kernel
theorem dL_readingsUntilWithin_25 : decode cL_readingsUntilWithin 25 = .ok (.iconst 0, 1) := by decide +kernel
theorem dL_readingsUntilWithin_26 : decode cL_readingsUntilWithin 26 = .ok (.ireturn, 1) := by decide +kernel
theorem dL_worstErrorWithin_0 : decode cL_worstErrorWithin 0 = .ok (.aload_n 3, 1) := by decide +kernel
theorem dL_worstErrorWithin_1 : decode cL_worstErrorWithin 1 = .ok (.iconst 0, 1) := by decide +kernel
theorem dL_worstErrorWithin_2 : decode cL_worstErrorWithin 2 = .ok (.aload_n 0, 1) := by decide +kernel
theorem dL_worstErrorWithin_3 : decode cL_worstErrorWithin 3 = .ok (.iload_n 1, 1) := by decide +kernel
theorem dL_worstErrorWithin_4 : decode cL_worstErrorWithin 4 = .ok (.iload_n 2, 1) := by decide +kernel
theorem dL_worstErrorWithin_5 : decode cL_worstErrorWithin 5 = .ok (.invokevirtual 75, 3) := by decide +kernel
theorem dL_worstErrorWithin_8 : decode cL_worstErrorWithin 8 = .ok (.i2l, 1) := by decide +kernel
theorem dL_worstErrorWithin_9 : decode cL_worstErrorWithin 9 = .ok (.lastore, 1) := by decide +kernel
theorem dL_worstErrorWithin_10 : decode cL_worstErrorWithin 10 = .ok (.goto 15, 3) := by decide +kernel
theorem dL_worstErrorWithin_13 : decode cL_worstErrorWithin 13 = .ok (.astore 4, 2) := by decide +kernel
theorem dL_worstErrorWithin_15 : decode cL_worstErrorWithin 15 = .ok (.iconst 1, 1) := by decide +kernel
theorem dL_worstErrorWithin_16 : decode cL_worstErrorWithin 16 = .ok (.ireturn, 1) := by decide +kernel
theorem dL_worstErrorWithin_17 : decode cL_worstErrorWithin 17 = .ok (.astore 4, 2) := by decide +kernel
theorem dL_worstErrorWithin_19 : decode cL_worstErrorWithin 19 = .ok (.iconst 2, 1) := by decide +kernel
theorem dL_worstErrorWithin_20 : decode cL_worstErrorWithin 20 = .ok (.ireturn, 1) := by decide +kernel
theorem dL_worstErrorWithin_21 : decode cL_worstErrorWithin 21 = .ok (.astore 4, 2) := by decide +kernel
theorem dL_worstErrorWithin_23 : decode cL_worstErrorWithin 23 = .ok (.iconst 3, 1) := by decide +kernel
theorem dL_worstErrorWithin_24 : decode cL_worstErrorWithin 24 = .ok (.ireturn, 1) := by decide +kernel
theorem dL_worstErrorWithin_25 : decode cL_worstErrorWithin 25 = .ok (.iconst 0, 1) := by decide +kernel
theorem dL_worstErrorWithin_26 : decode cL_worstErrorWithin 26 = .ok (.ireturn, 1) := by decide +kernel
theorem dL_moneyOf_0 : decode cL_moneyOf 0 = .ok (.aload_n 2, 1) := by decide +kernel
theorem dL_moneyOf_1 : decode cL_moneyOf 1 = .ok (.iconst 0, 1) := by decide +kernel
theorem dL_moneyOf_2 : decode cL_moneyOf 2 = .ok (.aload_n 0, 1) := by decide +kernel
theorem dL_moneyOf_3 : decode cL_moneyOf 3 = .ok (.iload_n 1, 1) := by decide +kernel
theorem dL_moneyOf_4 : decode cL_moneyOf 4 = .ok (.invokevirtual 78, 3) := by decide +kernel
theorem dL_moneyOf_7 : decode cL_moneyOf 7 = .ok (.i2l, 1) := by decide +kernel
theorem dL_moneyOf_8 : decode cL_moneyOf 8 = .ok (.lastore, 1) := by decide +kernel
theorem dL_moneyOf_9 : decode cL_moneyOf 9 = .ok (.goto 6, 3) := by decide +kernel
theorem dL_moneyOf_12 : decode cL_moneyOf 12 = .ok (.astore_n 3, 1) := by decide +kernel
theorem dL_moneyOf_13 : decode cL_moneyOf 13 = .ok (.iconst 1, 1) := by decide +kernel
theorem dL_moneyOf_14 : decode cL_moneyOf 14 = .ok (.ireturn, 1) := by decide +kernel
theorem dL_moneyOf_15 : decode cL_moneyOf 15 = .ok (.iconst 0, 1) := by decide +kernel
theorem dL_moneyOf_16 : decode cL_moneyOf 16 = .ok (.ireturn, 1) := by decide +kernel
theorem dL_toleranceOf_0 : decode cL_toleranceOf 0 = .ok (.aload_n 2, 1) := by decide +kernel
theorem dL_toleranceOf_1 : decode cL_toleranceOf 1 = .ok (.iconst 0, 1) := by decide +kernel
theorem dL_toleranceOf_2 : decode cL_toleranceOf 2 = .ok (.aload_n 0, 1) := by decide +kernel
theorem dL_toleranceOf_3 : decode cL_toleranceOf 3 = .ok (.iload_n 1, 1) := by decide +kernel
theorem dL_toleranceOf_4 : decode cL_toleranceOf 4 = .ok (.invokevirtual 81, 3) := by decide +kernel
theorem dL_toleranceOf_7 : decode cL_toleranceOf 7 = .ok (.i2l, 1) := by decide +kernel
theorem dL_toleranceOf_8 : decode cL_toleranceOf 8 = .ok (.lastore, 1) := by decide +kernel
theorem dL_toleranceOf_9 : decode cL_toleranceOf 9 = .ok (.goto 6, 3) := by decide +kernel
theorem dL_toleranceOf_12 : decode cL_toleranceOf 12 = .ok (.astore_n 3, 1) := by decide +kernel
theorem dL_toleranceOf_13 : decode cL_toleranceOf 13 = .ok (.iconst 1, 1) := by decide +kernel
theorem dL_toleranceOf_14 : decode cL_toleranceOf 14 = .ok (.ireturn, 1) := by decide +kernel
theorem dL_toleranceOf_15 : decode cL_toleranceOf 15 = .ok (.iconst 0, 1) := by decide +kernel
theorem dL_toleranceOf_16 : decode cL_toleranceOf 16 = .ok (.ireturn, 1) := by decide +kernel
theorem dL_trustOf_0 : decode cL_trustOf 0 = .ok (.aload_n 2, 1) := by decide +kernel
theorem dL_trustOf_1 : decode cL_trustOf 1 = .ok (.iconst 0, 1) := by decide +kernel
theorem dL_trustOf_2 : decode cL_trustOf 2 = .ok (.aload_n 0, 1) := by decide +kernel
theorem dL_trustOf_3 : decode cL_trustOf 3 = .ok (.iload_n 1, 1) := by decide +kernel
theorem dL_trustOf_4 : decode cL_trustOf 4 = .ok (.invokevirtual 84, 3) := by decide +kernel
theorem dL_trustOf_7 : decode cL_trustOf 7 = .ok (.i2l, 1) := by decide +kernel
theorem dL_trustOf_8 : decode cL_trustOf 8 = .ok (.lastore, 1) := by decide +kernel
theorem dL_trustOf_9 : decode cL_trustOf 9 = .ok (.goto 6, 3) := by decide +kernel
theorem dL_trustOf_12 : decode cL_trustOf 12 = .ok (.astore_n 3, 1) := by decide +kernel
theorem dL_trustOf_13 : decode cL_trustOf 13 = .ok (.iconst 1, 1) := by decide +kernel
theorem dL_trustOf_14 : decode cL_trustOf 14 = .ok (.ireturn, 1) := by decide +kernel
theorem dL_trustOf_15 : decode cL_trustOf 15 = .ok (.iconst 0, 1) := by decide +kernel
theorem dL_trustOf_16 : decode cL_trustOf 16 = .ok (.ireturn, 1) := by decide +kernel
theorem dL_purchasesOf_0 : decode cL_purchasesOf 0 = .ok (.aload_n 2, 1) := by decide +kernel
theorem dL_purchasesOf_1 : decode cL_purchasesOf 1 = .ok (.iconst 0, 1) := by decide +kernel
theorem dL_purchasesOf_2 : decode cL_purchasesOf 2 = .ok (.aload_n 0, 1) := by decide +kernel
theorem dL_purchasesOf_3 : decode cL_purchasesOf 3 = .ok (.iload_n 1, 1) := by decide +kernel
theorem dL_purchasesOf_4 : decode cL_purchasesOf 4 = .ok (.invokevirtual 87, 3) := by decide +kernel
theorem dL_purchasesOf_7 : decode cL_purchasesOf 7 = .ok (.i2l, 1) := by decide +kernel
theorem dL_purchasesOf_8 : decode cL_purchasesOf 8 = .ok (.lastore, 1) := by decide +kernel
theorem dL_purchasesOf_9 : decode cL_purchasesOf 9 = .ok (.goto 6, 3) := by decide +kernel
theorem dL_purchasesOf_12 : decode cL_purchasesOf 12 = .ok (.astore_n 3, 1) := by decide +kernel
theorem dL_purchasesOf_13 : decode cL_purchasesOf 13 = .ok (.iconst 1, 1) := by decide +kernel
theorem dL_purchasesOf_14 : decode cL_purchasesOf 14 = .ok (.ireturn, 1) := by decide +kernel
theorem dL_purchasesOf_15 : decode cL_purchasesOf 15 = .ok (.iconst 0, 1) := by decide +kernel
theorem dL_purchasesOf_16 : decode cL_purchasesOf 16 = .ok (.ireturn, 1) := by decide +kernel
theorem dL_refusalReason_0 : decode cL_refusalReason 0 = .ok (.aload_n 3, 1) := by decide +kernel
theorem dL_refusalReason_1 : decode cL_refusalReason 1 = .ok (.iconst 0, 1) := by decide +kernel
theorem dL_refusalReason_2 : decode cL_refusalReason 2 = .ok (.aload_n 0, 1) := by decide +kernel
theorem dL_refusalReason_3 : decode cL_refusalReason 3 = .ok (.iload_n 1, 1) := by decide +kernel
theorem dL_refusalReason_4 : decode cL_refusalReason 4 = .ok (.iload_n 2, 1) := by decide +kernel
theorem dL_refusalReason_5 : decode cL_refusalReason 5 = .ok (.invokevirtual 90, 3) := by decide +kernel
theorem dL_refusalReason_8 : decode cL_refusalReason 8 = .ok (.i2l, 1) := by decide +kernel
theorem dL_refusalReason_9 : decode cL_refusalReason 9 = .ok (.lastore, 1) := by decide +kernel
theorem dL_refusalReason_10 : decode cL_refusalReason 10 = .ok (.goto 7, 3) := by decide +kernel
theorem dL_refusalReason_13 : decode cL_refusalReason 13 = .ok (.astore 4, 2) := by decide +kernel
theorem dL_refusalReason_15 : decode cL_refusalReason 15 = .ok (.iconst 1, 1) := by decide +kernel
theorem dL_refusalReason_16 : decode cL_refusalReason 16 = .ok (.ireturn, 1) := by decide +kernel
theorem dL_refusalReason_17 : decode cL_refusalReason 17 = .ok (.iconst 0, 1) := by decide +kernel
theorem dL_refusalReason_18 : decode cL_refusalReason 18 = .ok (.ireturn, 1) := by decide +kernel
theorem dL_refusalDetail_0 : decode cL_refusalDetail 0 = .ok (.aload_n 3, 1) := by decide +kernel
theorem dL_refusalDetail_1 : decode cL_refusalDetail 1 = .ok (.iconst 0, 1) := by decide +kernel
theorem dL_refusalDetail_2 : decode cL_refusalDetail 2 = .ok (.aload_n 0, 1) := by decide +kernel
theorem dL_refusalDetail_3 : decode cL_refusalDetail 3 = .ok (.iload_n 1, 1) := by decide +kernel
theorem dL_refusalDetail_4 : decode cL_refusalDetail 4 = .ok (.iload_n 2, 1) := by decide +kernel
theorem dL_refusalDetail_5 : decode cL_refusalDetail 5 = .ok (.invokevirtual 93, 3) := by decide +kernel
theorem dL_refusalDetail_8 : decode cL_refusalDetail 8 = .ok (.i2l, 1) := by decide +kernel
theorem dL_refusalDetail_9 : decode cL_refusalDetail 9 = .ok (.lastore, 1) := by decide +kernel
theorem dL_refusalDetail_10 : decode cL_refusalDetail 10 = .ok (.goto 7, 3) := by decide +kernel
theorem dL_refusalDetail_13 : decode cL_refusalDetail 13 = .ok (.astore 4, 2) := by decide +kernel
theorem dL_refusalDetail_15 : decode cL_refusalDetail 15 = .ok (.iconst 1, 1) := by decide +kernel
theorem dL_refusalDetail_16 : decode cL_refusalDetail 16 = .ok (.ireturn, 1) := by decide +kernel
theorem dL_refusalDetail_17 : decode cL_refusalDetail 17 = .ok (.iconst 0, 1) := by decide +kernel
theorem dL_refusalDetail_18 : decode cL_refusalDetail 18 = .ok (.ireturn, 1) := by decide +kernel
theorem dL_bestBuyer_0 : decode cL_bestBuyer 0 = .ok (.aload_n 2, 1) := by decide +kernel
theorem dL_bestBuyer_1 : decode cL_bestBuyer 1 = .ok (.iconst 0, 1) := by decide +kernel
theorem dL_bestBuyer_2 : decode cL_bestBuyer 2 = .ok (.aload_n 0, 1) := by decide +kernel
theorem dL_bestBuyer_3 : decode cL_bestBuyer 3 = .ok (.iload_n 1, 1) := by decide +kernel
theorem dL_bestBuyer_4 : decode cL_bestBuyer 4 = .ok (.invokevirtual 96, 3) := by decide +kernel
theorem dL_bestBuyer_7 : decode cL_bestBuyer 7 = .ok (.i2l, 1) := by decide +kernel
theorem dL_bestBuyer_8 : decode cL_bestBuyer 8 = .ok (.lastore, 1) := by decide +kernel
theorem dL_bestBuyer_9 : decode cL_bestBuyer 9 = .ok (.goto 6, 3) := by decide +kernel
theorem dL_bestBuyer_12 : decode cL_bestBuyer 12 = .ok (.astore_n 3, 1) := by decide +kernel
theorem dL_bestBuyer_13 : decode cL_bestBuyer 13 = .ok (.iconst 1, 1) := by decide +kernel
theorem dL_bestBuyer_14 : decode cL_bestBuyer 14 = .ok (.ireturn, 1) := by decide +kernel
theorem dL_bestBuyer_15 : decode cL_bestBuyer 15 = .ok (.iconst 0, 1) := by decide +kernel
theorem dL_bestBuyer_16 : decode cL_bestBuyer 16 = .ok (.ireturn, 1) := by decide +kernel
theorem dL_trustAfterSale_0 : decode cL_trustAfterSale 0 = .ok (.aload_n 3, 1) := by decide +kernel
theorem dL_trustAfterSale_1 : decode cL_trustAfterSale 1 = .ok (.iconst 0, 1) := by decide +kernel
theorem dL_trustAfterSale_2 : decode cL_trustAfterSale 2 = .ok (.aload_n 0, 1) := by decide +kernel
theorem dL_trustAfterSale_3 : decode cL_trustAfterSale 3 = .ok (.iload_n 1, 1) := by decide +kernel
theorem dL_trustAfterSale_4 : decode cL_trustAfterSale 4 = .ok (.iload_n 2, 1) := by decide +kernel
theorem dL_trustAfterSale_5 : decode cL_trustAfterSale 5 = .ok (.invokevirtual 99, 3) := by decide +kernel
theorem dL_trustAfterSale_8 : decode cL_trustAfterSale 8 = .ok (.i2l, 1) := by decide +kernel
theorem dL_trustAfterSale_9 : decode cL_trustAfterSale 9 = .ok (.lastore, 1) := by decide +kernel
theorem dL_trustAfterSale_10 : decode cL_trustAfterSale 10 = .ok (.goto 11, 3) := by decide +kernel
theorem dL_trustAfterSale_13 : decode cL_trustAfterSale 13 = .ok (.astore 4, 2) := by decide +kernel
theorem dL_trustAfterSale_15 : decode cL_trustAfterSale 15 = .ok (.iconst 1, 1) := by decide +kernel
theorem dL_trustAfterSale_16 : decode cL_trustAfterSale 16 = .ok (.ireturn, 1) := by decide +kernel
theorem dL_trustAfterSale_17 : decode cL_trustAfterSale 17 = .ok (.astore 4, 2) := by decide +kernel
theorem dL_trustAfterSale_19 : decode cL_trustAfterSale 19 = .ok (.iconst 2, 1) := by decide +kernel
theorem dL_trustAfterSale_20 : decode cL_trustAfterSale 20 = .ok (.ireturn, 1) := by decide +kernel
theorem dL_trustAfterSale_21 : decode cL_trustAfterSale 21 = .ok (.iconst 0, 1) := by decide +kernel
theorem dL_trustAfterSale_22 : decode cL_trustAfterSale 22 = .ok (.ireturn, 1) := by decide +kernel
theorem dL_weigh_0 : decode cL_weigh 0 = .ok (.aload_n 2, 1) := by decide +kernel
theorem dL_weigh_1 : decode cL_weigh 1 = .ok (.iconst 0, 1) := by decide +kernel
theorem dL_weigh_2 : decode cL_weigh 2 = .ok (.aload_n 0, 1) := by decide +kernel
theorem dL_weigh_3 : decode cL_weigh 3 = .ok (.iload_n 1, 1) := by decide +kernel
theorem dL_weigh_4 : decode cL_weigh 4 = .ok (.invokevirtual 102, 3) := by decide +kernel
theorem dL_weigh_7 : decode cL_weigh 7 = .ok (.i2l, 1) := by decide +kernel
theorem dL_weigh_8 : decode cL_weigh 8 = .ok (.lastore, 1) := by decide +kernel
theorem dL_weigh_9 : decode cL_weigh 9 = .ok (.goto 9, 3) := by decide +kernel
theorem dL_weigh_12 : decode cL_weigh 12 = .ok (.astore_n 3, 1) := by decide +kernel
theorem dL_weigh_13 : decode cL_weigh 13 = .ok (.iconst 1, 1) := by decide +kernel
theorem dL_weigh_14 : decode cL_weigh 14 = .ok (.ireturn, 1) := by decide +kernel
theorem dL_weigh_15 : decode cL_weigh 15 = .ok (.astore_n 3, 1) := by decide +kernel
theorem dL_weigh_16 : decode cL_weigh 16 = .ok (.iconst 2, 1) := by decide +kernel
theorem dL_weigh_17 : decode cL_weigh 17 = .ok (.ireturn, 1) := by decide +kernel
theorem dL_weigh_18 : decode cL_weigh 18 = .ok (.iconst 0, 1) := by decide +kernel
theorem dL_weigh_19 : decode cL_weigh 19 = .ok (.ireturn, 1) := by decide +kernel
theorem dL_addGoods_0 : decode cL_addGoods 0 = .ok (.aload_n 3, 1) := by decide +kernel
theorem dL_addGoods_1 : decode cL_addGoods 1 = .ok (.iconst 0, 1) := by decide +kernel
theorem dL_addGoods_2 : decode cL_addGoods 2 = .ok (.aload_n 0, 1) := by decide +kernel
theorem dL_addGoods_3 : decode cL_addGoods 3 = .ok (.iload_n 1, 1) := by decide +kernel
theorem dL_addGoods_4 : decode cL_addGoods 4 = .ok (.iload_n 2, 1) := by decide +kernel
theorem dL_addGoods_5 : decode cL_addGoods 5 = .ok (.invokevirtual 105, 3) := by decide +kernel
theorem dL_addGoods_8 : decode cL_addGoods 8 = .ok (.i2l, 1) := by decide +kernel
theorem dL_addGoods_9 : decode cL_addGoods 9 = .ok (.lastore, 1) := by decide +kernel
theorem dL_addGoods_10 : decode cL_addGoods 10 = .ok (.goto 15, 3) := by decide +kernel
theorem dL_addGoods_13 : decode cL_addGoods 13 = .ok (.astore 4, 2) := by decide +kernel
theorem dL_addGoods_15 : decode cL_addGoods 15 = .ok (.iconst 1, 1) := by decide +kernel
theorem dL_addGoods_16 : decode cL_addGoods 16 = .ok (.ireturn, 1) := by decide +kernel
theorem dL_addGoods_17 : decode cL_addGoods 17 = .ok (.astore 4, 2) := by decide +kernel
theorem dL_addGoods_19 : decode cL_addGoods 19 = .ok (.iconst 2, 1) := by decide +kernel
theorem dL_addGoods_20 : decode cL_addGoods 20 = .ok (.ireturn, 1) := by decide +kernel
theorem dL_addGoods_21 : decode cL_addGoods 21 = .ok (.astore 4, 2) := by decide +kernel
theorem dL_addGoods_23 : decode cL_addGoods 23 = .ok (.iconst 3, 1) := by decide +kernel
theorem dL_addGoods_24 : decode cL_addGoods 24 = .ok (.ireturn, 1) := by decide +kernel
theorem dL_addGoods_25 : decode cL_addGoods 25 = .ok (.iconst 0, 1) := by decide +kernel
theorem dL_addGoods_26 : decode cL_addGoods 26 = .ok (.ireturn, 1) := by decide +kernel
theorem dL_removeGoods_0 : decode cL_removeGoods 0 = .ok (.aload_n 3, 1) := by decide +kernel
theorem dL_removeGoods_1 : decode cL_removeGoods 1 = .ok (.iconst 0, 1) := by decide +kernel
theorem dL_removeGoods_2 : decode cL_removeGoods 2 = .ok (.aload_n 0, 1) := by decide +kernel
theorem dL_removeGoods_3 : decode cL_removeGoods 3 = .ok (.iload_n 1, 1) := by decide +kernel
theorem dL_removeGoods_4 : decode cL_removeGoods 4 = .ok (.iload_n 2, 1) := by decide +kernel
theorem dL_removeGoods_5 : decode cL_removeGoods 5 = .ok (.invokevirtual 108, 3) := by decide +kernel
theorem dL_removeGoods_8 : decode cL_removeGoods 8 = .ok (.i2l, 1) := by decide +kernel
theorem dL_removeGoods_9 : decode cL_removeGoods 9 = .ok (.lastore, 1) := by decide +kernel
theorem dL_removeGoods_10 : decode cL_removeGoods 10 = .ok (.goto 15, 3) := by decide +kernel
theorem dL_removeGoods_13 : decode cL_removeGoods 13 = .ok (.astore 4, 2) := by decide +kernel
theorem dL_removeGoods_15 : decode cL_removeGoods 15 = .ok (.iconst 1, 1) := by decide +kernel
theorem dL_removeGoods_16 : decode cL_removeGoods 16 = .ok (.ireturn, 1) := by decide +kernel
theorem dL_removeGoods_17 : decode cL_removeGoods 17 = .ok (.astore 4, 2) := by decide +kernel
theorem dL_removeGoods_19 : decode cL_removeGoods 19 = .ok (.iconst 2, 1) := by decide +kernel
theorem dL_removeGoods_20 : decode cL_removeGoods 20 = .ok (.ireturn, 1) := by decide +kernel
theorem dL_removeGoods_21 : decode cL_removeGoods 21 = .ok (.astore 4, 2) := by decide +kernel
theorem dL_removeGoods_23 : decode cL_removeGoods 23 = .ok (.iconst 3, 1) := by decide +kernel
theorem dL_removeGoods_24 : decode cL_removeGoods 24 = .ok (.ireturn, 1) := by decide +kernel
theorem dL_removeGoods_25 : decode cL_removeGoods 25 = .ok (.iconst 0, 1) := by decide +kernel
theorem dL_removeGoods_26 : decode cL_removeGoods 26 = .ok (.ireturn, 1) := by decide +kernel
theorem dL_moveInto_0 : decode cL_moveInto 0 = .ok (.aload_n 3, 1) := by decide +kernel
theorem dL_moveInto_1 : decode cL_moveInto 1 = .ok (.iconst 0, 1) := by decide +kernel
theorem dL_moveInto_2 : decode cL_moveInto 2 = .ok (.aload_n 0, 1) := by decide +kernel
theorem dL_moveInto_3 : decode cL_moveInto 3 = .ok (.iload_n 1, 1) := by decide +kernel
theorem dL_moveInto_4 : decode cL_moveInto 4 = .ok (.iload_n 2, 1) := by decide +kernel
theorem dL_moveInto_5 : decode cL_moveInto 5 = .ok (.invokevirtual 111, 3) := by decide +kernel
theorem dL_moveInto_8 : decode cL_moveInto 8 = .ok (.i2l, 1) := by decide +kernel
theorem dL_moveInto_9 : decode cL_moveInto 9 = .ok (.lastore, 1) := by decide +kernel
theorem dL_moveInto_10 : decode cL_moveInto 10 = .ok (.goto 11, 3) := by decide +kernel
theorem dL_moveInto_13 : decode cL_moveInto 13 = .ok (.astore 4, 2) := by decide +kernel
theorem dL_moveInto_15 : decode cL_moveInto 15 = .ok (.iconst 1, 1) := by decide +kernel
theorem dL_moveInto_16 : decode cL_moveInto 16 = .ok (.ireturn, 1) := by decide +kernel
theorem dL_moveInto_17 : decode cL_moveInto 17 = .ok (.astore 4, 2) := by decide +kernel
theorem dL_moveInto_19 : decode cL_moveInto 19 = .ok (.iconst 2, 1) := by decide +kernel
theorem dL_moveInto_20 : decode cL_moveInto 20 = .ok (.ireturn, 1) := by decide +kernel
theorem dL_moveInto_21 : decode cL_moveInto 21 = .ok (.iconst 0, 1) := by decide +kernel
theorem dL_moveInto_22 : decode cL_moveInto 22 = .ok (.ireturn, 1) := by decide +kernel
theorem dL_takeOut_0 : decode cL_takeOut 0 = .ok (.aload_n 2, 1) := by decide +kernel
theorem dL_takeOut_1 : decode cL_takeOut 1 = .ok (.iconst 0, 1) := by decide +kernel
theorem dL_takeOut_2 : decode cL_takeOut 2 = .ok (.aload_n 0, 1) := by decide +kernel
theorem dL_takeOut_3 : decode cL_takeOut 3 = .ok (.iload_n 1, 1) := by decide +kernel
theorem dL_takeOut_4 : decode cL_takeOut 4 = .ok (.invokevirtual 114, 3) := by decide +kernel
theorem dL_takeOut_7 : decode cL_takeOut 7 = .ok (.i2l, 1) := by decide +kernel
theorem dL_takeOut_8 : decode cL_takeOut 8 = .ok (.lastore, 1) := by decide +kernel
theorem dL_takeOut_9 : decode cL_takeOut 9 = .ok (.goto 9, 3) := by decide +kernel
theorem dL_takeOut_12 : decode cL_takeOut 12 = .ok (.astore_n 3, 1) := by decide +kernel
theorem dL_takeOut_13 : decode cL_takeOut 13 = .ok (.iconst 1, 1) := by decide +kernel
theorem dL_takeOut_14 : decode cL_takeOut 14 = .ok (.ireturn, 1) := by decide +kernel
theorem dL_takeOut_15 : decode cL_takeOut 15 = .ok (.astore_n 3, 1) := by decide +kernel
theorem dL_takeOut_16 : decode cL_takeOut 16 = .ok (.iconst 2, 1) := by decide +kernel
theorem dL_takeOut_17 : decode cL_takeOut 17 = .ok (.ireturn, 1) := by decide +kernel
theorem dL_takeOut_18 : decode cL_takeOut 18 = .ok (.iconst 0, 1) := by decide +kernel
theorem dL_takeOut_19 : decode cL_takeOut 19 = .ok (.ireturn, 1) := by decide +kernel
theorem dL_sell_0 : decode cL_sell 0 = .ok (.aload_n 3, 1) := by decide +kernel
theorem dL_sell_1 : decode cL_sell 1 = .ok (.iconst 0, 1) := by decide +kernel
theorem dL_sell_2 : decode cL_sell 2 = .ok (.aload_n 0, 1) := by decide +kernel
theorem dL_sell_3 : decode cL_sell 3 = .ok (.iload_n 1, 1) := by decide +kernel
theorem dL_sell_4 : decode cL_sell 4 = .ok (.iload_n 2, 1) := by decide +kernel
theorem dL_sell_5 : decode cL_sell 5 = .ok (.invokevirtual 117, 3) := by decide +kernel
theorem dL_sell_8 : decode cL_sell 8 = .ok (.i2l, 1) := by decide +kernel
theorem dL_sell_9 : decode cL_sell 9 = .ok (.lastore, 1) := by decide +kernel
theorem dL_sell_10 : decode cL_sell 10 = .ok (.goto 11, 3) := by decide +kernel
theorem dL_sell_13 : decode cL_sell 13 = .ok (.astore 4, 2) := by decide +kernel
theorem dL_sell_15 : decode cL_sell 15 = .ok (.iconst 1, 1) := by decide +kernel
theorem dL_sell_16 : decode cL_sell 16 = .ok (.ireturn, 1) := by decide +kernel
theorem dL_sell_17 : decode cL_sell 17 = .ok (.astore 4, 2) := by decide +kernel
theorem dL_sell_19 : decode cL_sell 19 = .ok (.iconst 2, 1) := by decide +kernel
theorem dL_sell_20 : decode cL_sell 20 = .ok (.ireturn, 1) := by decide +kernel
theorem dL_sell_21 : decode cL_sell 21 = .ok (.iconst 0, 1) := by decide +kernel
theorem dL_sell_22 : decode cL_sell 22 = .ok (.ireturn, 1) := by decide +kernel
theorem dL_setAmplitude_0 : decode cL_setAmplitude 0 = .ok (.aload_n 2, 1) := by decide +kernel
theorem dL_setAmplitude_1 : decode cL_setAmplitude 1 = .ok (.iconst 0, 1) := by decide +kernel
theorem dL_setAmplitude_2 : decode cL_setAmplitude 2 = .ok (.aload_n 0, 1) := by decide +kernel
theorem dL_setAmplitude_3 : decode cL_setAmplitude 3 = .ok (.iload_n 1, 1) := by decide +kernel
theorem dL_setAmplitude_4 : decode cL_setAmplitude 4 = .ok (.invokevirtual 120, 3) := by decide +kernel
theorem dL_setAmplitude_7 : decode cL_setAmplitude 7 = .ok (.i2l, 1) := by decide +kernel
theorem dL_setAmplitude_8 : decode cL_setAmplitude 8 = .ok (.lastore, 1) := by decide +kernel
theorem dL_setAmplitude_9 : decode cL_setAmplitude 9 = .ok (.goto 6, 3) := by decide +kernel
theorem dL_setAmplitude_12 : decode cL_setAmplitude 12 = .ok (.astore_n 3, 1) := by decide +kernel
theorem dL_setAmplitude_13 : decode cL_setAmplitude 13 = .ok (.iconst 1, 1) := by decide +kernel
theorem dL_setAmplitude_14 : decode cL_setAmplitude 14 = .ok (.ireturn, 1) := by decide +kernel
theorem dL_setAmplitude_15 : decode cL_setAmplitude 15 = .ok (.iconst 0, 1) := by decide +kernel
theorem dL_setAmplitude_16 : decode cL_setAmplitude 16 = .ok (.ireturn, 1) := by decide +kernel
theorem dL_setAging_0 : decode cL_setAging 0 = .ok (.aload_n 2, 1) := by decide +kernel
theorem dL_setAging_1 : decode cL_setAging 1 = .ok (.iconst 0, 1) := by decide +kernel
theorem dL_setAging_2 : decode cL_setAging 2 = .ok (.aload_n 0, 1) := by decide +kernel
theorem dL_setAging_3 : decode cL_setAging 3 = .ok (.iload_n 1, 1) := by decide +kernel
theorem dL_setAging_4 : decode cL_setAging 4 = .ok (.invokevirtual 123, 3) := by decide +kernel
theorem dL_setAging_7 : decode cL_setAging 7 = .ok (.i2l, 1) := by decide +kernel
theorem dL_setAging_8 : decode cL_setAging 8 = .ok (.lastore, 1) := by decide +kernel
theorem dL_setAging_9 : decode cL_setAging 9 = .ok (.goto 6, 3) := by decide +kernel
theorem dL_setAging_12 : decode cL_setAging 12 = .ok (.astore_n 3, 1) := by decide +kernel
theorem dL_setAging_13 : decode cL_setAging 13 = .ok (.iconst 1, 1) := by decide +kernel
theorem dL_setAging_14 : decode cL_setAging 14 = .ok (.ireturn, 1) := by decide +kernel
theorem dL_setAging_15 : decode cL_setAging 15 = .ok (.iconst 0, 1) := by decide +kernel
theorem dL_setAging_16 : decode cL_setAging 16 = .ok (.ireturn, 1) := by decide +kernel
theorem dL_undo_0 : decode cL_undo 0 = .ok (.aload_n 1, 1) := by decide +kernel
theorem dL_undo_1 : decode cL_undo 1 = .ok (.iconst 0, 1) := by decide +kernel
theorem dL_undo_2 : decode cL_undo 2 = .ok (.aload_n 0, 1) := by decide +kernel
theorem dL_undo_3 : decode cL_undo 3 = .ok (.invokevirtual 126, 3) := by decide +kernel
theorem dL_undo_6 : decode cL_undo 6 = .ok (.i2l, 1) := by decide +kernel
theorem dL_undo_7 : decode cL_undo 7 = .ok (.lastore, 1) := by decide +kernel
theorem dL_undo_8 : decode cL_undo 8 = .ok (.goto 6, 3) := by decide +kernel
theorem dL_undo_11 : decode cL_undo 11 = .ok (.astore_n 2, 1) := by decide +kernel
theorem dL_undo_12 : decode cL_undo 12 = .ok (.iconst 1, 1) := by decide +kernel
theorem dL_undo_13 : decode cL_undo 13 = .ok (.ireturn, 1) := by decide +kernel
theorem dL_undo_14 : decode cL_undo 14 = .ok (.iconst 0, 1) := by decide +kernel
theorem dL_undo_15 : decode cL_undo 15 = .ok (.ireturn, 1) := by decide +kernel
theorem dL_writeTree_0 : decode cL_writeTree 0 = .ok (.aload_n 2, 1) := by decide +kernel
theorem dL_writeTree_1 : decode cL_writeTree 1 = .ok (.iconst 0, 1) := by decide +kernel
theorem dL_writeTree_2 : decode cL_writeTree 2 = .ok (.aload_n 0, 1) := by decide +kernel
theorem dL_writeTree_3 : decode cL_writeTree 3 = .ok (.iload_n 1, 1) := by decide +kernel
theorem dL_writeTree_4 : decode cL_writeTree 4 = .ok (.invokevirtual 130, 3) := by decide +kernel
theorem dL_writeTree_7 : decode cL_writeTree 7 = .ok (.i2l, 1) := by decide +kernel
theorem dL_writeTree_8 : decode cL_writeTree 8 = .ok (.lastore, 1) := by decide +kernel
theorem dL_writeTree_9 : decode cL_writeTree 9 = .ok (.goto 6, 3) := by decide +kernel
theorem dL_writeTree_12 : decode cL_writeTree 12 = .ok (.astore_n 3, 1) := by decide +kernel
theorem dL_writeTree_13 : decode cL_writeTree 13 = .ok (.iconst 1, 1) := by decide +kernel
theorem dL_writeTree_14 : decode cL_writeTree 14 = .ok (.ireturn, 1) := by decide +kernel
theorem dL_writeTree_15 : decode cL_writeTree 15 = .ok (.iconst 0, 1) := by decide +kernel
theorem dL_writeTree_16 : decode cL_writeTree 16 = .ok (.ireturn, 1) := by decide +kernel
theorem dL_restoreState_0 : decode cL_restoreState 0 = .ok (.aload_n 1, 1) := by decide +kernel
theorem dL_restoreState_1 : decode cL_restoreState 1 = .ok (.iconst 0, 1) := by decide +kernel
theorem dL_restoreState_2 : decode cL_restoreState 2 = .ok (.aload_n 0, 1) := by decide +kernel
theorem dL_restoreState_3 : decode cL_restoreState 3 = .ok (.invokevirtual 133, 3) := by decide +kernel
theorem dL_restoreState_6 : decode cL_restoreState 6 = .ok (.i2l, 1) := by decide +kernel
theorem dL_restoreState_7 : decode cL_restoreState 7 = .ok (.lastore, 1) := by decide +kernel
theorem dL_restoreState_8 : decode cL_restoreState 8 = .ok (.goto 6, 3) := by decide +kernel
theorem dL_restoreState_11 : decode cL_restoreState 11 = .ok (.astore_n 2, 1) := by decide +kernel
theorem dL_restoreState_12 : decode cL_restoreState 12 = .ok (.iconst 1, 1) := by decide +kernel
theorem dL_restoreState_13 : decode cL_restoreState 13 = .ok (.ireturn, 1) := by decide +kernel
theorem dL_restoreState_14 : decode cL_restoreState 14 = .ok (.iconst 0, 1) := by decide +kernel
theorem dL_restoreState_15 : decode cL_restoreState 15 = .ok (.ireturn, 1) := by decide +kernel
